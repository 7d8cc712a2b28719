set_option maxHeartbeats 4000000 in
set_option maxRecDepth 100000 in
theorem c_ownerIn {l : Launch} {g : zG} {a : Nat → Nat} {F : Nat → Int} {G : Nat → Int → Int} {rest : va_W} (hst : l.stackTraces = false) (s r : Int) (s0 : 0 ≤ s) (s1 : s < 6) (r0 : 0 ≤ r) (r1 : r < 60) : zM l g yX4_ownerIn cX4_ownerIn 3 (Option.some FieldType.int) ({ frames := 0, cells := 0, slots := 0, locals := 0 } : Room) [.ref (a 0), vi s, vi r] (mW g a F G rest) (zI fun v w => v = G 11 (60 * s + r) ∧ w = mW g a F G rest) zN 0 0 := by
  refine zM_of (lv0 := [(0, _), (1, _), (2, _)]) hst rfl (by decide +kernel) (Nat.le_of_ble_eq_true rfl) rfl (fun x hx hf hn => ?_)
  refine zz_aload_n hx dX4_ownerIn_0 rfl ?_
  refine zm_g11 hx lf_X4_35 dX4_ownerIn_1 ?_
  refine zz_bipush hx dX4_ownerIn_4 rfl ?_
  refine zz_iload_n hx dX4_ownerIn_6 rfl ?_
  refine zz_imul hx dX4_ownerIn_7 ?_
  refine zz_iload_n hx dX4_ownerIn_8 rfl ?_
  refine zz_iadd hx dX4_ownerIn_9 ?_
  refine zm_l11 hx dX4_ownerIn_10 (by omega) (by omega) ?_
  exact zz_iret hx hf dX4_ownerIn_11 ⟨_, rfl, rfl, rfl⟩ (by decide) (by decide)

set_option maxHeartbeats 4000000 in
set_option maxRecDepth 100000 in
theorem c_placeOf {l : Launch} {g : zG} {a : Nat → Nat} {F : Nat → Int} {G : Nat → Int → Int} {rest : va_W} (hst : l.stackTraces = false) (s r : Int) (s0 : 0 ≤ s) (s1 : s < 6) (hr : -2147483648 ≤ r ∧ r < 2147483648) (hn : 0 ≤ G 12 s ∧ G 12 s ≤ 60) (hb : ∀ k : Int, 0 ≤ k → k < G 12 s → -1 ≤ G 13 (60 * s + k) ∧ G 13 (60 * s + k) < 60) : zM l g yX4_placeOf cX4_placeOf 4 (Option.some FieldType.int) ({ frames := 0, cells := 0, slots := 0, locals := 0 } : Room) [.ref (a 0), vi s, vi r] (mW g a F G rest) (zI fun p w => w = mW g a F G rest ∧ 0 ≤ p ∧ p ≤ G 12 s ∧ (∀ j : Int, 0 ≤ j → j < p → G 13 (60 * s + j) ≠ r) ∧ (p < G 12 s → G 13 (60 * s + p) = r)) zN 0 0 := by
  refine zM_of (lv0 := [(0, _), (1, _), (2, _)]) hst rfl (by decide +kernel) (Nat.le_of_ble_eq_true rfl) rfl (fun x hx hf hn => ?_)
  have loop : ∀ (m : Nat) (k : Int), 0 ≤ k → k ≤ G 12 s → (∀ j : Int, 0 ≤ j → j < k → G 13 (60 * s + j) ≠ r) → (G 12 s - k).toNat < m → Z l g ({ frames := 0, cells := 0, slots := 0, locals := 0 } : Room) 4 x 0 0 (mW g a F G rest) 2 [(0, .ref (a 0)), (1, vi s), (2, vi r), (3, vi k)] [] := by
    intro m
    induction m with
    | zero => intro k h0 h1 h2 hm; omega
    | succ m ih =>
      intro k h0 h1 h2 hm
      refine zz_iload_n hx dX4_placeOf_2 rfl ?_
      refine zz_aload_n hx dX4_placeOf_3 rfl ?_
      refine zm_g12 hx lf_X4_38 dX4_placeOf_4 ?_
      refine zz_iload_n hx dX4_placeOf_7 rfl ?_
      refine zm_l12 hx dX4_placeOf_8 (by omega) (by omega) ?_
      refine zz_icmp_ge hx 33 dX4_placeOf_9 rfl (by omega) (by omega) (fun c9 => ?_) (fun c9 => ?_)
      · refine zz_iload_n hx dX4_placeOf_33 rfl ?_
        exact zz_iret hx hf dX4_placeOf_34 ⟨_, rfl, rfl, by omega, by omega, h2, fun z => by first | exact c24 | exact absurd z (by omega)⟩ (by decide) (by decide)
      · refine zz_aload_n hx dX4_placeOf_12 rfl ?_
        refine zm_g13 hx lf_X4_41 dX4_placeOf_13 ?_
        refine zz_bipush hx dX4_placeOf_16 rfl ?_
        refine zz_iload_n hx dX4_placeOf_18 rfl ?_
        refine zz_imul hx dX4_placeOf_19 ?_
        refine zz_iload_n hx dX4_placeOf_20 rfl ?_
        refine zz_iadd hx dX4_placeOf_21 ?_
        refine zm_l13 hx dX4_placeOf_22 (by omega) (by omega) ?_
        refine zz_iload_n hx dX4_placeOf_23 rfl ?_
        have hk := hb k (by omega) (by omega)
        refine zz_icmp_eq hx 33 dX4_placeOf_24 rfl (by omega) (by omega) (fun c24 => ?_) (fun c24 => ?_)
        · refine zz_iload_n hx dX4_placeOf_33 rfl ?_
          exact zz_iret hx hf dX4_placeOf_34 ⟨_, rfl, rfl, by omega, by omega, h2, fun z => by first | exact c24 | exact absurd z (by omega)⟩ (by decide) (by decide)
        · refine zz_iinc (lv' := [(0, _), (1, _), (2, _), (3, _)]) hx dX4_placeOf_27 (by decide) rfl rfl ?_
          refine zz_goto hx 2 dX4_placeOf_30 rfl ?_
          exact ih (k + 1) (by omega) (by omega) (fun j j0 j1 => by rcases Int.lt_or_eq_of_le (show j ≤ k by omega) with q | q; exact h2 j j0 q; rw [q]; exact c24) (by omega)
  refine zz_iconst hx dX4_placeOf_0 ?_
  refine zz_istore_n (lv' := [(0, _), (1, _), (2, _), (3, _)]) hx dX4_placeOf_1 (by decide) rfl ?_
  exact loop ((G 12 s).toNat + 1) 0 (by omega) (by omega) (fun j _ _ => by omega) (by omega)

set_option maxHeartbeats 4000000 in
set_option maxRecDepth 100000 in
theorem c_takeOut {l : Launch} {g : zG} {a : Nat → Nat} {F : Nat → Int} {G : Nat → Int → Int} {rest : va_W} (hst : l.stackTraces = false) {Rw : Int → List Int} (h : mS F G Rw) (s r : Int) (s0 : 0 ≤ s) (s1 : s < 6) (r0 : 0 ≤ r) (r1 : r < 60) (hr : G 11 (60 * s + r) ≠ -1) : zM l g yX4_takeOut cX4_takeOut 4 (Option.none : Option FieldType) ({ frames := 1, cells := 0, slots := 0, locals := 23 } : Room) [.ref (a 0), vi s, vi r] (mW g a F G rest) (zV fun w => ∃ G' : Nat → Int → Int, w = mW g a F G' rest ∧ mS F G' (Lup Rw s (zdel (Rw s) r)) ∧ G' 11 = zup (G 11) (60 * s + r) (-1) ∧ ∀ k : Nat, k ≠ 11 → k ≠ 12 → k ≠ 13 → G' k = G k) zN 0 0 := by
  have hlen := mS_len h s0 s1
  have hF6 := h.2.1
  have hrow := h.2.2.2.2.2 s s0 s1
  have hmem : r ∈ Rw s := (hrow.2.2.2 r).mpr ⟨r0, r1, hr⟩
  obtain ⟨p, p0, p1, hp⟩ := zat_of_mem hmem
  have hgp := mS_at h s0 s1 p0 (by omega)
  refine zM_of (lv0 := [(0, _), (1, _), (2, _)]) hst rfl (by decide +kernel) (Nat.le_of_ble_eq_true rfl) rfl (fun x hx hf hn => ?_)
  have e13p : G 13 (60 * s + p) = r := by rw [hgp.1, hp]
  have hun : ∀ j : Int, 0 ≤ j → j < G 12 s → G 13 (60 * s + j) = r → j = p := fun j j0 j1 hj => by
    have := mS_at h s0 s1 j0 j1
    exact zat_inj hrow.2.2.1 ⟨j0, by omega⟩ ⟨p0, p1⟩ (by rw [hp, ← this.1, hj])
  have loop : ∀ (m : Nat) (k : Int) (f : Int → Int), p ≤ k → k ≤ G 12 s - 1 → (∀ j : Int, f j = if 60 * s + p ≤ j ∧ j < 60 * s + k then G 13 (j + 1) else G 13 j) → (G 12 s - k).toNat < m → Z l g ({ frames := 1, cells := 0, slots := 0, locals := 23 } : Room) 4 x 0 0 (mW g a F (Gset (Gset G 12 (zup (G 12) s (G 12 s - 1))) 13 f) rest) 17 [(0, .ref (a 0)), (1, vi s), (2, vi r), (3, vi k)] [] := by
    intro m
    induction m with
    | zero => intro k f h0 h1 h2 hm; omega
    | succ m ih =>
      intro k f h0 h1 h2 hm
      refine zz_iload_n hx dX4_takeOut_17 rfl ?_
      refine zz_aload_n hx dX4_takeOut_18 rfl ?_
      refine zm_g12 hx lf_X4_38 dX4_takeOut_19 ?_
      refine zz_iload_n hx dX4_takeOut_22 rfl ?_
      refine zm_l12 hx dX4_takeOut_23 (by omega) (by omega) ?_
      simp only [Gset, reduceIte, Nat.reduceEqDiff, zup_s]
      refine zz_icmp_ge hx 57 dX4_takeOut_24 rfl (by omega) (by omega) (fun c24 => ?_) (fun c24 => ?_)
      · refine zz_aload_n hx dX4_takeOut_57 rfl ?_
        refine zm_g11 hx lf_X4_35 dX4_takeOut_58 ?_
        refine zz_bipush hx dX4_takeOut_61 rfl ?_
        refine zz_iload_n hx dX4_takeOut_63 rfl ?_
        refine zz_imul hx dX4_takeOut_64 ?_
        refine zz_iload_n hx dX4_takeOut_65 rfl ?_
        refine zz_iadd hx dX4_takeOut_66 ?_
        refine zz_iconst hx dX4_takeOut_67 ?_
        refine zm_s11 hx dX4_takeOut_68 (by omega) (by omega) ?_
        have hk9 : k = G 12 s - 1 := by omega
        have e12 : Gup (Gset (Gset G 12 (zup (G 12) s (G 12 s - 1))) 13 f) 11 (60 * s + r) (-1) 12 = zup (G 12) s (G 12 s - 1) := by simp [Gup, Gset]
        have e13 : ∀ j : Int, Gup (Gset (Gset G 12 (zup (G 12) s (G 12 s - 1))) 13 f) 11 (60 * s + r) (-1) 13 j = if 60 * s + p ≤ j ∧ j < 60 * s + G 12 s - 1 then G 13 (j + 1) else G 13 j := fun j => by
          simp only [Gup, Gset, reduceIte, Nat.reduceEqDiff]
          rw [h2]
          by_cases c2 : 60 * s + p ≤ j ∧ j < 60 * s + k
          · rw [if_pos c2, if_pos (by omega)]
          · rw [if_neg c2, if_neg (by omega)]
        have e11 : Gup (Gset (Gset G 12 (zup (G 12) s (G 12 s - 1))) 13 f) 11 (60 * s + r) (-1) 11 = zup (G 11) (60 * s + r) (-1) := by simp [Gup, Gset]
        have ek : ∀ k : Nat, k ≠ 11 → k ≠ 12 → k ≠ 13 → Gup (Gset (Gset G 12 (zup (G 12) s (G 12 s - 1))) 13 f) 11 (60 * s + r) (-1) k = G k := fun k h1 h2 h3 => by simp [Gup, Gset, h1, h2, h3]
        exact zz_vret hx hf dX4_takeOut_69 ⟨rfl, _, rfl, mS_out h s0 s1 r0 r1 p0 (by omega) hp e12 e13 e11 ek, e11, ek⟩ (by decide) (by decide)
      · refine zz_aload_n hx dX4_takeOut_27 rfl ?_
        refine zm_g13 hx lf_X4_41 dX4_takeOut_28 ?_
        refine zz_bipush hx dX4_takeOut_31 rfl ?_
        refine zz_iload_n hx dX4_takeOut_33 rfl ?_
        refine zz_imul hx dX4_takeOut_34 ?_
        refine zz_iload_n hx dX4_takeOut_35 rfl ?_
        refine zz_iadd hx dX4_takeOut_36 ?_
        refine zz_aload_n hx dX4_takeOut_37 rfl ?_
        refine zm_g13 hx lf_X4_41 dX4_takeOut_38 ?_
        refine zz_bipush hx dX4_takeOut_41 rfl ?_
        refine zz_iload_n hx dX4_takeOut_43 rfl ?_
        refine zz_imul hx dX4_takeOut_44 ?_
        refine zz_iload_n hx dX4_takeOut_45 rfl ?_
        refine zz_iadd hx dX4_takeOut_46 ?_
        refine zz_iconst hx dX4_takeOut_47 ?_
        refine zz_iadd hx dX4_takeOut_48 ?_
        refine zm_l13 hx dX4_takeOut_49 (by omega) (by omega) ?_
        simp only [Gset, reduceIte, Nat.reduceEqDiff]
        refine zm_s13 hx dX4_takeOut_50 (by omega) (by omega) ?_
        refine zz_iinc (lv' := [(0, _), (1, _), (2, _), (3, _)]) hx dX4_takeOut_51 (by decide) rfl rfl ?_
        refine zz_goto hx 17 dX4_takeOut_54 rfl ?_
        rw [Gup_eq, Gset_Gset, Gset_s]
        refine ih (k + 1) _ (by omega) (by omega) (fun j => ?_) (by omega)
        by_cases cj : j = 60 * s + k
        · subst cj
          rw [zup_s, if_pos (by omega), h2, if_neg (by omega)]
        · rw [zup_n _ _ cj, h2]
          by_cases c2 : 60 * s + p ≤ j ∧ j < 60 * s + k
          · rw [if_pos c2, if_pos (by omega)]
          · rw [if_neg c2, if_neg (by omega)]
  refine zz_aload_n hx dX4_takeOut_0 rfl ?_
  refine zm_g12 hx lf_X4_38 dX4_takeOut_1 ?_
  refine zz_iload_n hx dX4_takeOut_4 rfl ?_
  refine zz_dup2 hx dX4_takeOut_5 rfl rfl ?_
  refine zm_l12 hx dX4_takeOut_6 (by omega) (by omega) ?_
  refine zz_iconst hx dX4_takeOut_7 ?_
  refine zz_isub hx dX4_takeOut_8 ?_
  refine zm_s12 hx dX4_takeOut_9 (by omega) (by omega) ?_
  refine zz_aload_n hx dX4_takeOut_10 rfl ?_
  refine zz_iload_n hx dX4_takeOut_11 rfl ?_
  refine zz_iload_n hx dX4_takeOut_12 rfl ?_
  refine zz_callVi hx me_X4_placeOf lk_X4_74 (c_placeOf hst _ _ (by omega) (by omega) (by omega) (by simp only [Gup, reduceIte, Nat.reduceEqDiff, zup_s]; omega) (fun k k0 k1 => by
    simp only [Gup, reduceIte, Nat.reduceEqDiff, zup_s] at k1 ⊢
    have := mS_at h s0 s1 k0 (by omega)
    omega)) 0 rfl rfl ⟨rfl, rfl⟩ (by decide) (by decide) rfl rfl (Nat.le_of_ble_eq_true rfl) dX4_takeOut_13 (fun _ _ h => h.elim) (fun r13 w13 hp13 => ?_)
  obtain ⟨rfl, a1, a2, a3, a4⟩ := hp13
  simp only [Gup, reduceIte, Nat.reduceEqDiff, zup_s] at a2 a3 a4
  have hq : r13 = p := by
    rcases Int.lt_or_le r13 (G 12 s - 1) with q | q
    · exact hun r13 a1 (by omega) (a4 q)
    · rcases Int.lt_or_le p r13 with q2 | q2
      · exact absurd e13p (a3 p p0 q2)
      · omega
  subst hq
  refine zz_istore_n (lv' := [(0, _), (1, _), (2, _), (3, _)]) hx dX4_takeOut_16 (by decide) rfl ?_
  rw [show Gup G 12 s (G 12 s - 1) = Gset (Gset G 12 (zup (G 12) s (G 12 s - 1))) 13 (G 13) by funext j; by_cases h1 : j = 13 <;> by_cases h2 : j = 12 <;> simp [Gup, Gset, h1, h2]]
  exact loop ((G 12 s - r13).toNat + 1) r13 (G 13) (by omega) (by omega) (fun j => by rw [if_neg (by omega)]) (by omega)
