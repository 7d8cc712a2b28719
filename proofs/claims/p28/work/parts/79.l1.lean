/-! the law: asking helpers -/

set_option maxHeartbeats 4000000 in
set_option maxRecDepth 100000 in
theorem l_owner {l : Launch} {g : zG} {b : Nat → Nat} {c : Int → Nat → Nat} {I : Nat → Int} {Q : Nat → Int → Int} {P : Int → Nat → Int} {T : Int → Nat → Int → Int} {N : Nat} {ow : Int → Int → Int} {isO : Int → Int → Prop} {L : Int → List Int} {rest : va_W} (hst : l.stackTraces = false) {gA tA cA : Nat} {Gr U C : Int → Int} (hJ : J I Q P T N ow isO L) (hC : kC I N C) (hU : kU Q U) (hG : kG P N Gr) (s : Int) (hs : 0 ≤ s ∧ s < (N : Int)) : zM l g yL_owner cL_owner 5 (Option.some FieldType.int) ({ frames := 5, cells := 0, slots := 0, locals := 108 } : Room) [.ref (b 0), .ref gA, .ref tA, vi s] (wD g b c I Q P T N (rA g gA 30 Gr :: rA g tA 60 U :: rA g cA 3 C :: rest)) (zI fun v w => v = cO Q P ow s ∧ w = (wD g b c I Q P T N (rA g gA 30 Gr :: rA g tA 60 U :: rA g cA 3 C :: rest))) zN 0 0 := by
  have hI := hJ.1
  have hS := hJ.2.1
  have hi0 := hI.2.2.2.2.2.2.1
  have hN6 := hI.2.1
  have hg9 := kG_at hG hS hs
  have hcq : P s 8 = -1 ∨ Q 0 (P s 8) ≠ -1 := by
    rcases J_cur hJ hs.1 hs.2 with z | z
    · exact Or.inl z.1
    · exact Or.inr z.2.2.1
  refine zM_of (lv0 := [(0, _), (1, _), (2, _), (3, _)]) hst rfl (by decide +kernel) (Nat.le_of_ble_eq_true rfl) rfl (fun x hx hf hn => ?_)
  refine zz_aload_n hx dL_owner_0 rfl ?_
  refine zz_iload_n hx dL_owner_1 rfl ?_
  refine zz_callVi hx me_X3_currentIn lk_L_52 (q_X3_currentIn hst hI hS s hs) 0 rfl rfl ⟨rfl, rfl⟩ (by decide) (by decide) rfl rfl (Nat.le_of_ble_eq_true rfl) dL_owner_2 (fun _ _ h => h.elim) (fun r2 w2 hp2 => ?_)
  obtain ⟨rfl, rfl⟩ := hp2
  refine zz_istore (lv' := [(0, _), (1, _), (2, _), (3, _), (4, _)]) hx dL_owner_5 (by decide) rfl ?_
  refine zz_iload hx dL_owner_7 rfl ?_
  refine zz_if_ge hx 16 dL_owner_9 rfl (by omega) (fun c9 => ?_) (fun c9 => ?_)
  · have hu9 := kU_at hU hI (k := P s 8) (by omega) (by omega)
    refine zz_aload_n hx dL_owner_16 rfl ?_
    refine zz_iload hx dL_owner_17 rfl ?_
    refine zr_ld hx 1 rfl (by decide) (by omega) (by omega) dL_owner_19 ?_
    refine zz_bipush hx dL_owner_20 rfl ?_
    refine zz_and7 hx dL_owner_22 (by omega) (by omega) ?_
    refine zz_iconst hx dL_owner_23 ?_
    refine zz_isub hx dL_owner_24 ?_
    refine zz_aload_n hx dL_owner_25 rfl ?_
    refine zz_iconst hx dL_owner_26 ?_
    refine zz_iload_n hx dL_owner_27 rfl ?_
    refine zz_imul hx dL_owner_28 ?_
    refine zr_ld hx 0 rfl (by decide) (by omega) (by omega) dL_owner_29 ?_
    refine zz_icmp_ne hx 38 dL_owner_30 rfl (by omega) (by omega) (fun c30 => ?_) (fun c30 => ?_)
    · refine zz_aload_n hx dL_owner_38 rfl ?_
      refine zz_iload hx dL_owner_39 rfl ?_
      refine zz_iload_n hx dL_owner_41 rfl ?_
      have hq9 : Q 0 (P s 8) ≠ -1 := by omega
      refine zz_callVi hx me_X3_ownerOf lk_L_36 (q_X3_ownerOf hst hI hS (P s 8) (by omega) hq9 s hs) 0 rfl rfl ⟨rfl, rfl⟩ (by decide) (by decide) rfl rfl (Nat.le_of_ble_eq_true rfl) dL_owner_42 (fun _ _ h => h.elim) (fun r42 w42 hp42 => ?_)
      obtain ⟨rfl, rfl⟩ := hp42
      exact zz_iret hx hf dL_owner_45 (by first | exact ⟨_, rfl, (cO_m (by omega)).symm, rfl⟩ | exact ⟨_, rfl, (cO_o (by omega) (by omega)).symm, rfl⟩ | exact ⟨_, rfl, (cO_w (by omega) (by omega)).symm, rfl⟩) (by decide) (by decide)
    · refine zz_iload hx dL_owner_33 rfl ?_
      refine zz_goto hx 45 dL_owner_35 rfl ?_
      exact zz_iret hx hf dL_owner_45 (by first | exact ⟨_, rfl, (cO_m (by omega)).symm, rfl⟩ | exact ⟨_, rfl, (cO_o (by omega) (by omega)).symm, rfl⟩ | exact ⟨_, rfl, (cO_w (by omega) (by omega)).symm, rfl⟩) (by decide) (by decide)
  · refine zz_iconst hx dL_owner_12 ?_
    refine zz_goto hx 45 dL_owner_13 rfl ?_
    exact zz_iret hx hf dL_owner_45 (by first | exact ⟨_, rfl, (cO_m (by omega)).symm, rfl⟩ | exact ⟨_, rfl, (cO_o (by omega) (by omega)).symm, rfl⟩ | exact ⟨_, rfl, (cO_w (by omega) (by omega)).symm, rfl⟩) (by decide) (by decide)

set_option maxHeartbeats 4000000 in
set_option maxRecDepth 100000 in
theorem l_placeOf {l : Launch} {g : zG} {b : Nat → Nat} {c : Int → Nat → Nat} {I : Nat → Int} {Q : Nat → Int → Int} {P : Int → Nat → Int} {T : Int → Nat → Int → Int} {N : Nat} {ow : Int → Int → Int} {isO : Int → Int → Prop} {L : Int → List Int} {rest : va_W} (hst : l.stackTraces = false) (hJ : J I Q P T N ow isO L) (s : Int) (hs : 0 ≤ s ∧ s < (N : Int)) (q : Int) (hio : isO s q) (r : Int) (hr : -2147483648 ≤ r ∧ r < 2147483648) : zM l g yL_placeOf cL_placeOf 5 (Option.some FieldType.int) ({ frames := 5, cells := 0, slots := 0, locals := 109 } : Room) [.ref (b 0), vi s, vi q, vi r] (wD g b c I Q P T N rest) (zI fun v w => ixO (mOf (ow s) q (L s)) r v ∧ w = (wD g b c I Q P T N rest)) zN 0 0 := by
  have hI := hJ.1
  have hS := hJ.2.1
  have hi0 := hI.2.2.2.2.2.2.1
  have hN6 := hI.2.1
  obtain ⟨hq0, hq1, -, -⟩ := J_own hJ hs.1 hs.2 hio
  have hqn : Q 0 q ≠ -1 := by have := (hS s hs.1 hs.2).2.2.1; omega
  obtain ⟨mm1, mm2, mm3⟩ := J_mm hJ hs.1 hs.2 hio
  refine zM_of (lv0 := [(0, _), (1, _), (2, _), (3, _)]) hst rfl (by decide +kernel) (Nat.le_of_ble_eq_true rfl) rfl (fun x hx hf hn => ?_)
  have loop : ∀ (n : Nat) (k : Int), 0 ≤ k → k ≤ ((mOf (ow s) q (L s)).length : Int) → (∀ j : Int, 0 ≤ j → j < k → zat (mOf (ow s) q (L s)) j ≠ r) → (((mOf (ow s) q (L s)).length : Int) - k).toNat < n → Z l g ({ frames := 5, cells := 0, slots := 0, locals := 109 } : Room) 5 x 0 0 (wD g b c I Q P T N rest) 3 [(0, .ref (b 0)), (1, vi s), (2, vi q), (3, vi r), (4, vi k)] [] := by
    intro n
    induction n with
    | zero => intro k h0 h1 h2 hm; omega
    | succ n ih =>
      intro k h0 h1 h2 hm
      refine zz_iload hx dL_placeOf_3 rfl ?_
      refine zz_aload_n hx dL_placeOf_5 rfl ?_
      refine zz_iload_n hx dL_placeOf_6 rfl ?_
      refine zz_iload_n hx dL_placeOf_7 rfl ?_
      refine zz_callVi hx me_X3_members lk_L_39 (q_X3_members hst hI hS q (by omega) hqn s hs) 0 rfl rfl ⟨rfl, rfl⟩ (by decide) (by decide) rfl rfl (Nat.le_of_ble_eq_true rfl) dL_placeOf_8 (fun _ _ h => h.elim) (fun r8 w8 hp8 => ?_)
      obtain ⟨hm9, rfl⟩ := hp8
      obtain rfl : r8 = ((mOf (ow s) q (L s)).length : Int) := by
        rcases hm9 with z9 | z9
        · exact z9.2
        · exact absurd hio z9.1
      clear hm9
      refine zz_icmp_ge hx 35 dL_placeOf_11 rfl (by omega) (by omega) (fun c11 => ?_) (fun c11 => ?_)
      · refine zz_iconst hx dL_placeOf_35 ?_
        exact zz_iret hx hf dL_placeOf_36 ⟨_, rfl, Or.inl ⟨rfl, fun z9 => by obtain ⟨p9, p0, p1, p2⟩ := zat_of_mem z9; exact h2 p9 p0 (by omega) p2⟩, rfl⟩ (by decide) (by decide)
      · have hz9 := (mm3 _ (zat_mem (k := k) h0 (by omega))).1
        refine zz_aload_n hx dL_placeOf_14 rfl ?_
        refine zz_iload_n hx dL_placeOf_15 rfl ?_
        refine zz_iload_n hx dL_placeOf_16 rfl ?_
        refine zz_iload hx dL_placeOf_17 rfl ?_
        refine zz_callVi hx me_X3_memberAt lk_L_45 (q_X3_memberAt hst hI hS q (by omega) hqn s hs hio k ⟨h0, by omega⟩) 0 rfl rfl ⟨rfl, rfl⟩ (by decide) (by decide) rfl rfl (Nat.le_of_ble_eq_true rfl) dL_placeOf_19 (fun _ _ h => h.elim) (fun r19 w19 hp19 => ?_)
        obtain ⟨rfl, rfl⟩ := hp19
        refine zz_iload_n hx dL_placeOf_22 rfl ?_
        refine zz_icmp_ne hx 29 dL_placeOf_23 rfl (by omega) (by omega) (fun c23 => ?_) (fun c23 => ?_)
        · refine zz_iinc (lv' := [(0, _), (1, _), (2, _), (3, _), (4, _)]) hx dL_placeOf_29 (by decide) rfl rfl ?_
          refine zz_goto hx 3 dL_placeOf_32 rfl ?_
          exact ih (k + 1) (by omega) (by omega) (fun j j0 j1 z9 => by
            by_cases e9 : j = k
            · subst e9; exact c23 z9
            · exact h2 j j0 (by omega) z9) (by omega)
        · refine zz_iload hx dL_placeOf_26 rfl ?_
          exact zz_iret hx hf dL_placeOf_28 ⟨_, rfl, Or.inr ⟨h0, by omega, by omega⟩, rfl⟩ (by decide) (by decide)
  refine zz_iconst hx dL_placeOf_0 ?_
  refine zz_istore (lv' := [(0, _), (1, _), (2, _), (3, _), (4, _)]) hx dL_placeOf_1 (by decide) rfl ?_
  exact loop ((mOf (ow s) q (L s)).length + 1) 0 (by omega) (by omega) (fun j j0 j1 => by omega) (by omega)

set_option maxHeartbeats 4000000 in
set_option maxRecDepth 100000 in
theorem l_notes {l : Launch} {g : zG} {b : Nat → Nat} {c : Int → Nat → Nat} {I : Nat → Int} {Q : Nat → Int → Int} {P : Int → Nat → Int} {T : Int → Nat → Int → Int} {N : Nat} {ow : Int → Int → Int} {isO : Int → Int → Prop} {L : Int → List Int} {rest : va_W} (hst : l.stackTraces = false) {gA tA cA : Nat} {Gr U C : Int → Int} {wA : Nat} {W : Int → Int} (hJ : J I Q P T N ow isO L) (hC : kC I N C) : zM l g yL_notes cL_notes 4 (Option.none : Option FieldType) ({ frames := 5, cells := 0, slots := 0, locals := 106 } : Room) [.ref (b 0), .ref cA, .ref wA] (wD g b c I Q P T N (rA g gA 30 Gr :: rA g tA 60 U :: rA g cA 3 C :: rA g wA 11 W :: rest)) (zV fun w => ∃ W1 : Int → Int, nW I Q P N W1 ∧ w = (wD g b c I Q P T N (rA g gA 30 Gr :: rA g tA 60 U :: rA g cA 3 C :: rA g wA 11 W1 :: rest))) zN 0 0 := by
  have hI := hJ.1
  have hS := hJ.2.1
  have hi0 := hI.2.2.2.2.2.2.1
  have hN6 := hI.2.1
  have hc0 := hC.1
  refine zM_of (lv0 := [(0, _), (1, _), (2, _)]) hst rfl (by decide +kernel) (Nat.le_of_ble_eq_true rfl) rfl (fun x hx hf hn => ?_)
  have loop2 : ∀ (n : Nat) (k : Int) (W : Int → Int), 0 ≤ k → k ≤ (N : Int) → (W 0 = I 2 ∧ (∀ t : Int, 0 ≤ t → t < 4 → W (1 + t) = Q 2 t) ∧ ∀ s : Int, 0 ≤ s → s < k → W (5 + s) = P s 8) → ((N : Int) - k).toNat < n → Z l g ({ frames := 5, cells := 0, slots := 0, locals := 106 } : Room) 4 x 0 0 (wD g b c I Q P T N (rA g gA 30 Gr :: rA g tA 60 U :: rA g cA 3 C :: rA g wA 11 W :: rest)) 32 [(0, .ref (b 0)), (1, .ref cA), (2, .ref wA), (3, vi k)] [] := by
    intro n
    induction n with
    | zero => intro k W h0 h1 h2 hm; omega
    | succ n ih =>
      intro k W h0 h1 h2 hm
      refine zz_iload_n hx dL_notes_32 rfl ?_
      refine zz_aload_n hx dL_notes_33 rfl ?_
      refine zz_iconst hx dL_notes_34 ?_
      refine zr_ld hx 2 rfl (by decide) (by omega) (by omega) dL_notes_35 ?_
      refine zz_icmp_ge hx 55 dL_notes_36 rfl (by omega) (by omega) (fun c36 => ?_) (fun c36 => ?_)
      · exact zz_vret hx hf dL_notes_55 ⟨rfl, W, ⟨h2.1, h2.2.1, fun s s0 s1 => h2.2.2 s s0 (by omega)⟩, rfl⟩ (by decide) (by decide)
      · refine zz_aload_n hx dL_notes_39 rfl ?_
        refine zz_iconst hx dL_notes_40 ?_
        refine zz_iload_n hx dL_notes_41 rfl ?_
        refine zz_iadd hx dL_notes_42 ?_
        refine zz_aload_n hx dL_notes_43 rfl ?_
        refine zz_iload_n hx dL_notes_44 rfl ?_
        refine zz_callVi hx me_X3_currentIn lk_L_52 (q_X3_currentIn hst hI hS k (by omega)) 0 rfl rfl ⟨rfl, rfl⟩ (by decide) (by decide) rfl rfl (Nat.le_of_ble_eq_true rfl) dL_notes_45 (fun _ _ h => h.elim) (fun r45 w45 hp45 => ?_)
        obtain ⟨rfl, rfl⟩ := hp45
        refine zr_st3 hx (by decide) (by omega) (by omega) dL_notes_48 ?_
        refine zz_iinc (lv' := [(0, _), (1, _), (2, _), (3, _)]) hx dL_notes_49 (by decide) rfl rfl ?_
        refine zz_goto hx 32 dL_notes_52 rfl ?_
        refine ih (k + 1) _ (by omega) (by omega) ⟨?_, fun t t0 t1 => ?_, fun s s0 s1 => ?_⟩ (by omega)
        · rw [zup_n _ _ (by omega)]; exact h2.1
        · rw [zup_n _ _ (by omega)]; exact h2.2.1 t t0 t1
        · by_cases e9 : s = k
          · rw [e9, zup_s]
          · rw [zup_n _ _ (by omega)]; exact h2.2.2 s s0 (by omega)
  have loop1 : ∀ (n : Nat) (k : Int) (W : Int → Int), 0 ≤ k → k ≤ 4 → (W 0 = I 2 ∧ ∀ t : Int, 0 ≤ t → t < k → W (1 + t) = Q 2 t) → ((4 : Int) - k).toNat < n → Z l g ({ frames := 5, cells := 0, slots := 0, locals := 106 } : Room) 4 x 0 0 (wD g b c I Q P T N (rA g gA 30 Gr :: rA g tA 60 U :: rA g cA 3 C :: rA g wA 11 W :: rest)) 9 [(0, .ref (b 0)), (1, .ref cA), (2, .ref wA), (3, vi k)] [] := by
    intro n
    induction n with
    | zero => intro k W h0 h1 h2 hm; omega
    | succ n ih =>
      intro k W h0 h1 h2 hm
      refine zz_iload_n hx dL_notes_9 rfl ?_
      refine zz_iconst hx dL_notes_10 ?_
      refine zz_icmp_ge hx 30 dL_notes_11 rfl (by omega) (by omega) (fun c11 => ?_) (fun c11 => ?_)
      · refine zz_iconst hx dL_notes_30 ?_
        refine zz_istore_n (lv' := [(0, _), (1, _), (2, _), (3, _)]) hx dL_notes_31 (by decide) rfl ?_
        exact loop2 (N + 1) 0 W (by omega) (by omega) ⟨h2.1, fun t t0 t1 => h2.2 t t0 (by omega), fun s s0 s1 => by omega⟩ (by omega)
      · refine zz_aload_n hx dL_notes_14 rfl ?_
        refine zz_iconst hx dL_notes_15 ?_
        refine zz_iload_n hx dL_notes_16 rfl ?_
        refine zz_iadd hx dL_notes_17 ?_
        refine zz_aload_n hx dL_notes_18 rfl ?_
        refine zz_iload_n hx dL_notes_19 rfl ?_
        refine zz_callVi hx me_X3_currentOf lk_L_65 (q_X3_currentOf hst hI k (by omega)) 0 rfl rfl ⟨rfl, rfl⟩ (by decide) (by decide) rfl rfl (Nat.le_of_ble_eq_true rfl) dL_notes_20 (fun _ _ h => h.elim) (fun r20 w20 hp20 => ?_)
        obtain ⟨rfl, rfl⟩ := hp20
        refine zr_st3 hx (by decide) (by omega) (by omega) dL_notes_23 ?_
        refine zz_iinc (lv' := [(0, _), (1, _), (2, _), (3, _)]) hx dL_notes_24 (by decide) rfl rfl ?_
        refine zz_goto hx 9 dL_notes_27 rfl ?_
        refine ih (k + 1) _ (by omega) (by omega) ⟨?_, fun t t0 t1 => ?_⟩ (by omega)
        · rw [zup_n _ _ (by omega)]; exact h2.1
        · by_cases e9 : t = k
          · rw [e9, zup_s]
          · rw [zup_n _ _ (by omega)]; exact h2.2 t t0 (by omega)
  refine zz_aload_n hx dL_notes_0 rfl ?_
  refine zz_iconst hx dL_notes_1 ?_
  refine zz_aload_n hx dL_notes_2 rfl ?_
  refine zz_callVi hx me_X3_current lk_L_74 (k_X3_current hst) 0 rfl rfl ⟨rfl, rfl⟩ (by decide) (by decide) rfl rfl (Nat.le_of_ble_eq_true rfl) dL_notes_3 (fun _ _ h => h.elim) (fun r3 w3 hp3 => ?_)
  obtain ⟨rfl, rfl⟩ := hp3
  refine zr_st3 hx (by decide) (by omega) (by omega) dL_notes_6 ?_
  refine zz_iconst hx dL_notes_7 ?_
  refine zz_istore_n (lv' := [(0, _), (1, _), (2, _), (3, _)]) hx dL_notes_8 (by decide) rfl ?_
  exact loop1 5 0 _ (by omega) (by omega) ⟨zup_s _ _ _, fun t t0 t1 => by omega⟩ (by omega)

set_option maxHeartbeats 4000000 in
set_option maxRecDepth 100000 in
theorem l_isCurrent {l : Launch} {g : zG} {b : Nat → Nat} {c : Int → Nat → Nat} {I : Nat → Int} {Q : Nat → Int → Int} {P : Int → Nat → Int} {T : Int → Nat → Int → Int} {N : Nat} {ow : Int → Int → Int} {isO : Int → Int → Prop} {L : Int → List Int} {rest : va_W} (hst : l.stackTraces = false) {gA tA cA : Nat} {Gr U C : Int → Int} {wA : Nat} {W : Int → Int} (hJ : J I Q P T N ow isO L) (hC : kC I N C) (hU : kU Q U) (hG : kG P N Gr) (f : Int) (hf : f = -1 ∨ ((0 ≤ f ∧ f < 60) ∧ Q 0 f ≠ -1)) (hW : isC I Q P ow N f W) (hWr : ∀ j : Int, 0 ≤ j → j < 5 + (N : Int) → -1 ≤ W j ∧ W j < 60) : zM l g yL_isCurrent cL_isCurrent 9 (Option.some FieldType.boolean) ({ frames := 5, cells := 0, slots := 0, locals := 108 } : Room) [.ref (b 0), .ref gA, .ref tA, .ref cA, vi f, .ref wA] (wD g b c I Q P T N (rA g gA 30 Gr :: rA g tA 60 U :: rA g cA 3 C :: rA g wA 11 W :: rest)) (zI fun v w => v = 1 ∧ w = (wD g b c I Q P T N (rA g gA 30 Gr :: rA g tA 60 U :: rA g cA 3 C :: rA g wA 11 W :: rest))) zN 0 0 := by
  have hI := hJ.1
  have hS := hJ.2.1
  have hi0 := hI.2.2.2.2.2.2.1
  have hN6 := hI.2.1
  have hc0 := hC.1
  refine zM_of (lv0 := [(0, _), (1, _), (2, _), (3, _), (4, _), (5, _)]) hst rfl (by decide +kernel) (Nat.le_of_ble_eq_true rfl) rfl (fun x hx hf hn => ?_)
  have hi2 := hI.2.2.1
  have hfr : -1 ≤ f ∧ f < 60 := by omega
  have loop2 : ∀ (n : Nat) (k : Int), 0 ≤ k → k ≤ (N : Int) → ((N : Int) - k).toNat < n → Z l g ({ frames := 5, cells := 0, slots := 0, locals := 108 } : Room) 9 x 0 0 (wD g b c I Q P T N (rA g gA 30 Gr :: rA g tA 60 U :: rA g cA 3 C :: rA g wA 11 W :: rest)) 110 [(0, .ref (b 0)), (1, .ref gA), (2, .ref tA), (3, .ref cA), (4, vi f), (5, .ref wA), (6, vi 1), (7, vi k)] [] := by
    intro n
    induction n with
    | zero => intro k h0 h1 hm; omega
    | succ n ih =>
      intro k h0 h1 hm
      have j162 : k < (N : Int) → ∀ i : Int, ((i = 1 ∧ (0 ≤ f ∧ (Q 0 f = P k 0 ∨ 0 ≤ ow k f))) ∨ (i = 0 ∧ ¬ (0 ≤ f ∧ (Q 0 f = P k 0 ∨ 0 ≤ ow k f)))) → Z l g ({ frames := 5, cells := 0, slots := 0, locals := 108 } : Room) 9 x 0 0 (wD g b c I Q P T N (rA g gA 30 Gr :: rA g tA 60 U :: rA g cA 3 C :: rA g wA 11 W :: rest)) 162 [(0, .ref (b 0)), (1, .ref gA), (2, .ref tA), (3, .ref cA), (4, vi f), (5, .ref wA), (6, vi 1), (7, vi k)] [vi i] := by
        intro hk9 i hi9
        have hg9 := kG_at hG hS (s := k) ⟨h0, hk9⟩
        have hW9 := hW.2.2 k h0 hk9
        have hr9 := hWr (5 + k) (by omega) (by omega)
        refine zz_istore (lv' := [(0, _), (1, _), (2, _), (3, _), (4, _), (5, _), (6, _), (7, _), (8, _)]) hx dL_isCurrent_162 (by decide) rfl ?_
        refine zz_aload_n hx dL_isCurrent_164 rfl ?_
        refine zz_iload hx dL_isCurrent_165 rfl ?_
        refine zz_callVi hx me_X3_currentIn lk_L_52 (q_X3_currentIn hst hI hS k ⟨h0, hk9⟩) 0 rfl rfl ⟨rfl, rfl⟩ (by decide) (by decide) rfl rfl (Nat.le_of_ble_eq_true rfl) dL_isCurrent_167 (fun _ _ h => h.elim) (fun r167 w167 hp167 => ?_)
        obtain ⟨rfl, rfl⟩ := hp167
        refine zz_iload hx dL_isCurrent_170 rfl ?_
        refine zz_if_eq hx 180 dL_isCurrent_172 rfl (by omega) (fun c172 => ?_) (fun c172 => ?_)
        · refine zz_aload hx dL_isCurrent_180 rfl ?_
          refine zz_iconst hx dL_isCurrent_182 ?_
          refine zz_iload hx dL_isCurrent_183 rfl ?_
          refine zz_iadd hx dL_isCurrent_185 ?_
          refine zr_ld hx 3 rfl (by decide) (by omega) (by omega) dL_isCurrent_186 ?_
          refine zz_icmp_ne hx 194 dL_isCurrent_187 rfl (by omega) (by omega) (fun c187 => ?_) (fun c187 => ?_)
          · exfalso
            split at hW9 <;> omega
          · refine zz_iconst hx dL_isCurrent_190 ?_
            refine zz_goto hx 195 dL_isCurrent_191 rfl ?_
            refine zz_istore (lv' := [(0, _), (1, _), (2, _), (3, _), (4, _), (5, _), (6, _), (7, _), (8, _)]) hx dL_isCurrent_195 (by decide) rfl ?_
            refine zz_iinc (lv' := [(0, _), (1, _), (2, _), (3, _), (4, _), (5, _), (6, _), (7, _), (8, _)]) hx dL_isCurrent_197 (by decide) rfl rfl ?_
            refine zz_goto hx 110 dL_isCurrent_200 rfl ?_
            refine zz_sub (lv' := [(0, _), (1, _), (2, _), (3, _), (4, _), (5, _), (6, _), (7, _)]) (fun q9 hq9 => List.mem_append_left [_] hq9) ?_
            exact ih (k + 1) (by omega) (by omega) (by omega)
        · refine zz_iload hx dL_isCurrent_175 rfl ?_
          refine zz_goto hx 187 dL_isCurrent_177 rfl ?_
          refine zz_icmp_ne hx 194 dL_isCurrent_187 rfl (by omega) (by omega) (fun c187 => ?_) (fun c187 => ?_)
          · exfalso
            split at hW9 <;> omega
          · refine zz_iconst hx dL_isCurrent_190 ?_
            refine zz_goto hx 195 dL_isCurrent_191 rfl ?_
            refine zz_istore (lv' := [(0, _), (1, _), (2, _), (3, _), (4, _), (5, _), (6, _), (7, _), (8, _)]) hx dL_isCurrent_195 (by decide) rfl ?_
            refine zz_iinc (lv' := [(0, _), (1, _), (2, _), (3, _), (4, _), (5, _), (6, _), (7, _), (8, _)]) hx dL_isCurrent_197 (by decide) rfl rfl ?_
            refine zz_goto hx 110 dL_isCurrent_200 rfl ?_
            refine zz_sub (lv' := [(0, _), (1, _), (2, _), (3, _), (4, _), (5, _), (6, _), (7, _)]) (fun q9 hq9 => List.mem_append_left [_] hq9) ?_
            exact ih (k + 1) (by omega) (by omega) (by omega)
      refine zz_iload hx dL_isCurrent_110 rfl ?_
      refine zz_aload_n hx dL_isCurrent_112 rfl ?_
      refine zz_iconst hx dL_isCurrent_113 ?_
      refine zr_ld hx 2 rfl (by decide) (by omega) (by omega) dL_isCurrent_114 ?_
      refine zz_icmp_ge hx 203 dL_isCurrent_115 rfl (by omega) (by omega) (fun c115 => ?_) (fun c115 => ?_)
      · refine zz_iload hx dL_isCurrent_203 rfl ?_
        exact zz_zret hx hf dL_isCurrent_205 (Or.inr rfl) ⟨_, rfl, rfl, rfl⟩ (by decide) (by decide)
      · have hg9 := kG_at hG hS (s := k) ⟨h0, by omega⟩
        refine zz_iload hx dL_isCurrent_118 rfl ?_
        refine zz_if_eq hx 203 dL_isCurrent_120 rfl (by decide) (fun z => absurd z (by decide)) (fun _ => ?_)
        refine zz_iload hx dL_isCurrent_123 rfl ?_
        refine zz_if_lt hx 161 dL_isCurrent_125 rfl (by omega) (fun c125 => ?_) (fun c125 => ?_)
        · refine zz_iconst hx dL_isCurrent_161 ?_
          exact j162 (by omega) _ (by omega)
        · have hfn : Q 0 f ≠ -1 := by omega
          have hu9 := kU_at hU hI (k := f) (by omega) (by omega)
          refine zz_aload_n hx dL_isCurrent_128 rfl ?_
          refine zz_iload hx dL_isCurrent_129 rfl ?_
          refine zr_ld hx 1 rfl (by decide) (by omega) (by omega) dL_isCurrent_131 ?_
          refine zz_bipush hx dL_isCurrent_132 rfl ?_
          refine zz_and7 hx dL_isCurrent_134 (by omega) (by omega) ?_
          refine zz_iconst hx dL_isCurrent_135 ?_
          refine zz_isub hx dL_isCurrent_136 ?_
          refine zz_aload_n hx dL_isCurrent_137 rfl ?_
          refine zz_iconst hx dL_isCurrent_138 ?_
          refine zz_iload hx dL_isCurrent_139 rfl ?_
          refine zz_imul hx dL_isCurrent_141 ?_
          refine zr_ld hx 0 rfl (by decide) (by omega) (by omega) dL_isCurrent_142 ?_
          refine zz_icmp_eq hx 157 dL_isCurrent_143 rfl (by omega) (by omega) (fun c143 => ?_) (fun c143 => ?_)
          · refine zz_iconst hx dL_isCurrent_157 ?_
            refine zz_goto hx 162 dL_isCurrent_158 rfl ?_
            exact j162 (by omega) _ (by omega)
          · refine zz_aload_n hx dL_isCurrent_146 rfl ?_
            refine zz_iload hx dL_isCurrent_147 rfl ?_
            refine zz_iload hx dL_isCurrent_149 rfl ?_
            refine zz_callVi hx me_X3_ownerOf lk_L_36 (q_X3_ownerOf hst hI hS f (by omega) hfn k (by omega)) 0 rfl rfl ⟨rfl, rfl⟩ (by decide) (by decide) rfl rfl (Nat.le_of_ble_eq_true rfl) dL_isCurrent_151 (fun _ _ h => h.elim) (fun r151 w151 hp151 => ?_)
            obtain ⟨rfl, rfl⟩ := hp151
            have ho9 := J_ow hJ (s := k) h0 (by omega) (u := f) (by omega) (by omega)
            have hob : -1 ≤ ow k f ∧ ow k f < 60 := by
              rcases ho9 with z9 | z9 <;> omega
            clear ho9
            refine zz_if_lt hx 161 dL_isCurrent_154 rfl (by omega) (fun c154 => ?_) (fun c154 => ?_)
            · refine zz_iconst hx dL_isCurrent_161 ?_
              exact j162 (by omega) _ (by omega)
            · refine zz_iconst hx dL_isCurrent_157 ?_
              refine zz_goto hx 162 dL_isCurrent_158 rfl ?_
              exact j162 (by omega) _ (by omega)
  have loop1 : ∀ (n : Nat) (k : Int), 0 ≤ k → k ≤ 4 → ((4 : Int) - k).toNat < n → Z l g ({ frames := 5, cells := 0, slots := 0, locals := 108 } : Room) 9 x 0 0 (wD g b c I Q P T N (rA g gA 30 Gr :: rA g tA 60 U :: rA g cA 3 C :: rA g wA 11 W :: rest)) 31 [(0, .ref (b 0)), (1, .ref gA), (2, .ref tA), (3, .ref cA), (4, vi f), (5, .ref wA), (6, vi 1), (7, vi k)] [] := by
    intro n
    induction n with
    | zero => intro k h0 h1 hm; omega
    | succ n ih =>
      intro k h0 h1 hm
      have j61 : k < 4 → ∀ i : Int, ((i = 1 ∧ (0 ≤ f ∧ Q 0 f = k)) ∨ (i = 0 ∧ ¬ (0 ≤ f ∧ Q 0 f = k))) → Z l g ({ frames := 5, cells := 0, slots := 0, locals := 108 } : Room) 9 x 0 0 (wD g b c I Q P T N (rA g gA 30 Gr :: rA g tA 60 U :: rA g cA 3 C :: rA g wA 11 W :: rest)) 61 [(0, .ref (b 0)), (1, .ref gA), (2, .ref tA), (3, .ref cA), (4, vi f), (5, .ref wA), (6, vi 1), (7, vi k)] [vi i] := by
        intro hk9 i hi9
        have hW9 := hW.2.1 k h0 hk9
        have hr9 := hWr (1 + k) (by omega) (by omega)
        have hq9 := hI.2.2.2.2.2.1 k h0 hk9
        refine zz_istore (lv' := [(0, _), (1, _), (2, _), (3, _), (4, _), (5, _), (6, _), (7, _), (8, _)]) hx dL_isCurrent_61 (by decide) rfl ?_
        refine zz_iload hx dL_isCurrent_63 rfl ?_
        refine zz_if_eq hx 98 dL_isCurrent_65 rfl (by decide) (fun z => absurd z (by decide)) (fun _ => ?_)
        refine zz_aload_n hx dL_isCurrent_68 rfl ?_
        refine zz_iload hx dL_isCurrent_69 rfl ?_
        refine zz_callVi hx me_X3_currentOf lk_L_65 (q_X3_currentOf hst hI k (by omega)) 0 rfl rfl ⟨rfl, rfl⟩ (by decide) (by decide) rfl rfl (Nat.le_of_ble_eq_true rfl) dL_isCurrent_71 (fun _ _ h => h.elim) (fun r71 w71 hp71 => ?_)
        obtain ⟨rfl, rfl⟩ := hp71
        refine zz_iload hx dL_isCurrent_74 rfl ?_
        refine zz_if_eq hx 84 dL_isCurrent_76 rfl (by omega) (fun c76 => ?_) (fun c76 => ?_)
        · refine zz_aload hx dL_isCurrent_84 rfl ?_
          refine zz_iconst hx dL_isCurrent_86 ?_
          refine zz_iload hx dL_isCurrent_87 rfl ?_
          refine zz_iadd hx dL_isCurrent_89 ?_
          refine zr_ld hx 3 rfl (by decide) (by omega) (by omega) dL_isCurrent_90 ?_
          refine zz_icmp_ne hx 98 dL_isCurrent_91 rfl (by omega) (by omega) (fun c91 => ?_) (fun c91 => ?_)
          · exfalso
            split at hW9 <;> omega
          · refine zz_iconst hx dL_isCurrent_94 ?_
            refine zz_goto hx 99 dL_isCurrent_95 rfl ?_
            refine zz_istore (lv' := [(0, _), (1, _), (2, _), (3, _), (4, _), (5, _), (6, _), (7, _), (8, _)]) hx dL_isCurrent_99 (by decide) rfl ?_
            refine zz_iinc (lv' := [(0, _), (1, _), (2, _), (3, _), (4, _), (5, _), (6, _), (7, _), (8, _)]) hx dL_isCurrent_101 (by decide) rfl rfl ?_
            refine zz_goto hx 31 dL_isCurrent_104 rfl ?_
            refine zz_sub (lv' := [(0, _), (1, _), (2, _), (3, _), (4, _), (5, _), (6, _), (7, _)]) (fun q9 hq9 => List.mem_append_left [_] hq9) ?_
            exact ih (k + 1) (by omega) (by omega) (by omega)
        · refine zz_iload hx dL_isCurrent_79 rfl ?_
          refine zz_goto hx 91 dL_isCurrent_81 rfl ?_
          refine zz_icmp_ne hx 98 dL_isCurrent_91 rfl (by omega) (by omega) (fun c91 => ?_) (fun c91 => ?_)
          · exfalso
            split at hW9 <;> omega
          · refine zz_iconst hx dL_isCurrent_94 ?_
            refine zz_goto hx 99 dL_isCurrent_95 rfl ?_
            refine zz_istore (lv' := [(0, _), (1, _), (2, _), (3, _), (4, _), (5, _), (6, _), (7, _), (8, _)]) hx dL_isCurrent_99 (by decide) rfl ?_
            refine zz_iinc (lv' := [(0, _), (1, _), (2, _), (3, _), (4, _), (5, _), (6, _), (7, _), (8, _)]) hx dL_isCurrent_101 (by decide) rfl rfl ?_
            refine zz_goto hx 31 dL_isCurrent_104 rfl ?_
            refine zz_sub (lv' := [(0, _), (1, _), (2, _), (3, _), (4, _), (5, _), (6, _), (7, _)]) (fun q9 hq9 => List.mem_append_left [_] hq9) ?_
            exact ih (k + 1) (by omega) (by omega) (by omega)
      refine zz_iload hx dL_isCurrent_31 rfl ?_
      refine zz_iconst hx dL_isCurrent_33 ?_
      refine zz_icmp_ge hx 107 dL_isCurrent_34 rfl (by omega) (by omega) (fun c34 => ?_) (fun c34 => ?_)
      · refine zz_iconst hx dL_isCurrent_107 ?_
        refine zz_istore (lv' := [(0, _), (1, _), (2, _), (3, _), (4, _), (5, _), (6, _), (7, _)]) hx dL_isCurrent_108 (by decide) rfl ?_
        exact loop2 (N + 1) 0 (by omega) (by omega) (by omega)
      · refine zz_iload hx dL_isCurrent_37 rfl ?_
        refine zz_if_lt hx 60 dL_isCurrent_39 rfl (by omega) (fun c39 => ?_) (fun c39 => ?_)
        · refine zz_iconst hx dL_isCurrent_60 ?_
          exact j61 (by omega) _ (by omega)
        · have hu9 := kU_at hU hI (k := f) (by omega) (by omega)
          refine zz_aload_n hx dL_isCurrent_42 rfl ?_
          refine zz_iload hx dL_isCurrent_43 rfl ?_
          refine zr_ld hx 1 rfl (by decide) (by omega) (by omega) dL_isCurrent_45 ?_
          refine zz_bipush hx dL_isCurrent_46 rfl ?_
          refine zz_and7 hx dL_isCurrent_48 (by omega) (by omega) ?_
          refine zz_iconst hx dL_isCurrent_49 ?_
          refine zz_isub hx dL_isCurrent_50 ?_
          refine zz_iload hx dL_isCurrent_51 rfl ?_
          refine zz_icmp_ne hx 60 dL_isCurrent_53 rfl (by omega) (by omega) (fun c53 => ?_) (fun c53 => ?_)
          · refine zz_iconst hx dL_isCurrent_60 ?_
            exact j61 (by omega) _ (by omega)
          · refine zz_iconst hx dL_isCurrent_56 ?_
            refine zz_goto hx 61 dL_isCurrent_57 rfl ?_
            exact j61 (by omega) _ (by omega)
  have hW0 := hW.1
  have hr0 := hWr 0 (by omega) (by omega)
  refine zz_aload_n hx dL_isCurrent_0 rfl ?_
  refine zz_callVi hx me_X3_current lk_L_74 (k_X3_current hst) 0 rfl rfl ⟨rfl, rfl⟩ (by decide) (by decide) rfl rfl (Nat.le_of_ble_eq_true rfl) dL_isCurrent_1 (fun _ _ h => h.elim) (fun r1 w1 hp1 => ?_)
  obtain ⟨rfl, rfl⟩ := hp1
  refine zz_iload hx dL_isCurrent_4 rfl ?_
  refine zz_if_ge hx 16 dL_isCurrent_6 rfl (by omega) (fun c6 => ?_) (fun c6 => ?_)
  · refine zz_iload hx dL_isCurrent_16 rfl ?_
    refine zz_icmp_ne hx 25 dL_isCurrent_18 rfl (by omega) (by omega) (fun c18 => ?_) (fun c18 => ?_)
    · exfalso
      split at hW0 <;> omega
    · refine zz_iconst hx dL_isCurrent_21 ?_
      refine zz_goto hx 26 dL_isCurrent_22 rfl ?_
      refine zz_istore (lv' := [(0, _), (1, _), (2, _), (3, _), (4, _), (5, _), (6, _)]) hx dL_isCurrent_26 (by decide) rfl ?_
      refine zz_iconst hx dL_isCurrent_28 ?_
      refine zz_istore (lv' := [(0, _), (1, _), (2, _), (3, _), (4, _), (5, _), (6, _), (7, _)]) hx dL_isCurrent_29 (by decide) rfl ?_
      exact loop1 5 0 (by omega) (by omega) (by omega)
  · refine zz_aload hx dL_isCurrent_9 rfl ?_
    refine zz_iconst hx dL_isCurrent_11 ?_
    refine zr_ld hx 3 rfl (by decide) (by omega) (by omega) dL_isCurrent_12 ?_
    refine zz_goto hx 18 dL_isCurrent_13 rfl ?_
    refine zz_icmp_ne hx 25 dL_isCurrent_18 rfl (by omega) (by omega) (fun c18 => ?_) (fun c18 => ?_)
    · exfalso
      split at hW0 <;> omega
    · refine zz_iconst hx dL_isCurrent_21 ?_
      refine zz_goto hx 26 dL_isCurrent_22 rfl ?_
      refine zz_istore (lv' := [(0, _), (1, _), (2, _), (3, _), (4, _), (5, _), (6, _)]) hx dL_isCurrent_26 (by decide) rfl ?_
      refine zz_iconst hx dL_isCurrent_28 ?_
      refine zz_istore (lv' := [(0, _), (1, _), (2, _), (3, _), (4, _), (5, _), (6, _), (7, _)]) hx dL_isCurrent_29 (by decide) rfl ?_
      exact loop1 5 0 (by omega) (by omega) (by omega)
