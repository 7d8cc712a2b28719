theorem aS_own {P : Int → Nat → Int} {T : Int → Nat → Int → Int} {N : Nat} {ow : Int → Int → Int} {isO : Int → Int → Prop} {L : Int → List Int} (h : aS P T N ow isO L) {s : Int} (s0 : 0 ≤ s) (s1 : s < (N : Int)) {r : Int} (r0 : 0 ≤ r) (r1 : r < 60) : (r ≠ -1 ∧ rAt 60 (T s 5) r = r) ↔ isO s r := by
  have h5 := rOK_ring (h s s0 s1).2.1 r0 r1
  rw [rAt_in r0 (by omega)]
  exact ⟨fun z => h5.1.mp z.2, fun z => ⟨by omega, h5.1.mpr z⟩⟩
def mkP (P : Int → Nat → Int) (T : Int → Nat → Int → Int) (r k : Int) : Int → Nat → Int := fun s => if 0 ≤ s ∧ s < k ∧ T s 5 r ≠ -1 then Fup (P s) 8 r else P s
theorem mkP_at (P : Int → Nat → Int) (T : Int → Nat → Int → Int) (r k : Int) : mkP P T r k k = P k := if_neg (fun z => by omega)
theorem mkP_0 (P : Int → Nat → Int) (T : Int → Nat → Int → Int) (r : Int) : mkP P T r 0 = P := funext fun s => if_neg (fun z => by omega)
theorem mkP_yes {P : Int → Nat → Int} {T : Int → Nat → Int → Int} {r k : Int} (k0 : 0 ≤ k) (h : T k 5 r ≠ -1) : upI (mkP P T r k) k (Fup (mkP P T r k k) 8 r) = mkP P T r (k + 1) := funext fun s => by
  by_cases c : s = k
  · subst c
    rw [upI_s, mkP_at]
    exact (if_pos ⟨k0, by omega, h⟩).symm
  · rw [upI_n _ _ c]
    unfold mkP
    by_cases c2 : 0 ≤ s ∧ s < k ∧ T s 5 r ≠ -1
    · rw [if_pos c2, if_pos ⟨c2.1, by omega, c2.2.2⟩]
    · rw [if_neg c2, if_neg (fun z => c2 ⟨z.1, by omega, z.2.2⟩)]
theorem mkP_not {P : Int → Nat → Int} {T : Int → Nat → Int → Int} {r k : Int} (h : T k 5 r = -1) : upI (mkP P T r k) k (mkP P T r k k) = mkP P T r (k + 1) := funext fun s => by
  rw [upI_id]
  unfold mkP
  by_cases c : s = k
  · subst c
    rw [if_neg (fun z => by omega), if_neg (fun z => z.2.2 h)]
  · by_cases c2 : 0 ≤ s ∧ s < k ∧ T s 5 r ≠ -1
    · rw [if_pos c2, if_pos ⟨c2.1, by omega, c2.2.2⟩]
    · rw [if_neg c2, if_neg (fun z => c2 ⟨z.1, by omega, z.2.2⟩)]
def fgP (P : Int → Nat → Int) (ow : Int → Int → Int) (d k : Int) : Int → Nat → Int := fun s => if 0 ≤ s ∧ s < k then Fup (P s) 8 (fC (ow s) d (P s 8)) else P s
theorem fgP_at (P : Int → Nat → Int) (ow : Int → Int → Int) (d k : Int) : fgP P ow d k k = P k := if_neg (fun z => by omega)
theorem fgP_0 (P : Int → Nat → Int) (ow : Int → Int → Int) (d : Int) : fgP P ow d 0 = P := funext fun s => if_neg (fun z => by omega)
theorem fgP_st {P : Int → Nat → Int} {ow : Int → Int → Int} {d k : Int} (k0 : 0 ≤ k) : upI (fgP P ow d k) k (Fup (P k) 8 (fC (ow k) d (P k 8))) = fgP P ow d (k + 1) := funext fun s => by
  by_cases c : s = k
  · subst c
    rw [upI_s]
    exact (if_pos ⟨k0, by omega⟩).symm
  · rw [upI_n _ _ c]
    unfold fgP
    by_cases c2 : 0 ≤ s ∧ s < k
    · rw [if_pos c2, if_pos ⟨c2.1, by omega⟩]
    · rw [if_neg c2, if_neg (fun z => c2 ⟨z.1, by omega⟩)]

set_option maxHeartbeats 4000000 in
set_option maxRecDepth 100000 in
theorem k_X3_lacksSetFor {l : Launch} {g : zG} {b : Nat → Nat} {c : Int → Nat → Nat} {I : Nat → Int} {Q : Nat → Int → Int} {P : Int → Nat → Int} {T : Int → Nat → Int → Int} {N : Nat} {rest : va_W} (hst : l.stackTraces = false) (hI : aI I Q N) {ow : Int → Int → Int} {isO : Int → Int → Prop} {L : Int → List Int} (hS : aS P T N ow isO L) (t : Int) (ht : 0 ≤ t ∧ t ≤ 3) : zM l g yX3_lacksSetFor cX3_lacksSetFor 4 (Option.some FieldType.boolean) ({ frames := 3, cells := 0, slots := 0, locals := 64 } : Room) [.ref (b 0), vi t] (wD g b c I Q P T N rest) (zI fun v w => w = (wD g b c I Q P T N rest) ∧ ((v = 1 ∧ ∃ s : Int, 0 ≤ s ∧ s < (N : Int) ∧ (P s 3 = 1 ∧ P s 1 = t ∧ P s 8 = -1)) ∨ (v = 0 ∧ ∀ s : Int, 0 ≤ s → s < (N : Int) → ¬ (P s 3 = 1 ∧ P s 1 = t ∧ P s 8 = -1)))) zN 0 0 := by
  have hI5 := hI.1
  have hN := hI.2.1
  refine zM_of (lv0 := [(0, _), (1, _)]) hst rfl (by decide +kernel) (Nat.le_of_ble_eq_true rfl) rfl (fun x hx hf hn => ?_)
  have loop : ∀ (n : Nat) (k : Int), 0 ≤ k → k ≤ (N : Int) → (∀ s : Int, 0 ≤ s → s < k → ¬ (P s 3 = 1 ∧ P s 1 = t ∧ P s 8 = -1)) → ((N : Int) - k).toNat < n → Z l g ({ frames := 3, cells := 0, slots := 0, locals := 64 } : Room) 4 x 0 0 (wD g b c I Q P T N rest) 2 [(0, .ref (b 0)), (1, vi t), (2, vi k)] [] := by
    intro n
    induction n with
    | zero => intro k h0 h1 h2 hm; omega
    | succ n ih =>
      intro k h0 h1 h2 hm
      have hst9 := fun z : k < (N : Int) => hS k h0 z
      refine zz_iload_n hx dX3_lacksSetFor_2 rfl ?_
      refine zz_aload_n hx dX3_lacksSetFor_3 rfl ?_
      refine zd_g0 hx lf_X3_10 dX3_lacksSetFor_4 ?_
      refine zz_callVi hx me_Jx4a65c_size_8abf5 lk_X3_62 (k_Jx4a65c_size_8abf5 hst) 1 rfl rfl ⟨rfl, rfl⟩ (by decide) (by decide) rfl rfl (Nat.le_of_ble_eq_true rfl) dX3_lacksSetFor_7 (fun _ _ h => h.elim) (fun r7 w7 hp7 => ?_)
      obtain ⟨rfl, rfl⟩ := hp7
      refine zz_icmp_ge hx 49 dX3_lacksSetFor_10 rfl (by omega) (by omega) (fun c10 => ?_) (fun c10 => ?_)
      · refine zz_iconst hx dX3_lacksSetFor_49 ?_
        exact zz_zret hx hf dX3_lacksSetFor_50 (Or.inl rfl) ⟨_, rfl, rfl, Or.inr ⟨rfl, fun s s0 s1 => h2 s s0 (by omega)⟩⟩ (by decide) (by decide)
      · have hs9 := hst9 (by omega)
        refine zz_aload_n hx dX3_lacksSetFor_13 rfl ?_
        refine zd_g0 hx lf_X3_10 dX3_lacksSetFor_14 ?_
        refine zz_iload_n hx dX3_lacksSetFor_17 rfl ?_
        refine zz_callVa hx me_Jx4a65c_get_915e3 lk_X3_97 (k_Jx4a65c_get_915e3 hst hI5 hN _ (by omega) (by omega)) 1 rfl rfl ⟨rfl, rfl⟩ (by decide) (by decide) rfl rfl (Nat.le_of_ble_eq_true rfl) dX3_lacksSetFor_18 (fun _ _ h => h.elim) (fun r18 w18 hp18 => ?_)
        obtain ⟨rfl, rfl⟩ := hp18
        refine zz_eq (wD_at (s := k) (by omega) (by omega)) rfl ?_
        refine zz_cast hx lc_X3_73 rfl _ (sW_at 0) dX3_lacksSetFor_21 ?_
        refine zz_astore_n (lv' := [(0, _), (1, _), (2, _), (3, _)]) hx dX3_lacksSetFor_24 (by decide) rfl ?_
        refine zz_aload_n hx dX3_lacksSetFor_25 rfl ?_
        refine zz_iload_n hx dX3_lacksSetFor_26 rfl ?_
        refine zz_callVi hx me_X2_takesAtStore lk_X3_223 (k_X2_takesAtStore hst hs9.2.2.2.2.2.2.1 hs9.2.2.2.1 t ht) _ (sW_at 0) rfl ⟨rfl, rfl⟩ (by decide) (by decide) rfl rfl (Nat.le_of_ble_eq_true rfl) dX3_lacksSetFor_27 (fun _ _ h => h.elim) (fun r27 w27 hp27 => ?_)
        obtain ⟨rfl, rfl⟩ := hp27
        refine zz_ifb_eq hx 43 dX3_lacksSetFor_30 rfl (fun c30 => ?_) (fun c30 => ?_)
        · have hno : (P k 3 = 1 ∧ P k 1 = t ∧ P k 8 = -1) → False := fun z9 => c30 ⟨z9.1, z9.2.1⟩
          refine zz_iinc (lv' := [(0, _), (1, _), (2, _), (3, _)]) hx dX3_lacksSetFor_43 (by decide) rfl rfl ?_
          refine zz_goto hx 2 dX3_lacksSetFor_46 rfl ?_
          refine zz_eq (wD_at (by omega) (by omega)).symm rfl ?_
          refine zz_sub (lv' := [(0, _), (1, _), (2, _)]) (fun q9 hq9 => List.mem_append_left [_] hq9) ?_
          exact ih (k + 1) (by omega) (by omega) (fun s s0 s1 z9 => by
            by_cases e9 : s = k
            · subst e9; exact hno z9
            · exact h2 s s0 (by omega) z9) (by omega)
        · refine zz_aload_n hx dX3_lacksSetFor_33 rfl ?_
          refine zs_n8 hx dX3_lacksSetFor_34 ?_
          refine zz_iconst hx dX3_lacksSetFor_37 ?_
          refine zz_icmp_ne hx 43 dX3_lacksSetFor_38 rfl (by omega) (by omega) (fun c38 => ?_) (fun c38 => ?_)
          · have hno : (P k 3 = 1 ∧ P k 1 = t ∧ P k 8 = -1) → False := fun z9 => c38 z9.2.2
            refine zz_iinc (lv' := [(0, _), (1, _), (2, _), (3, _)]) hx dX3_lacksSetFor_43 (by decide) rfl rfl ?_
            refine zz_goto hx 2 dX3_lacksSetFor_46 rfl ?_
            refine zz_eq (wD_at (by omega) (by omega)).symm rfl ?_
            refine zz_sub (lv' := [(0, _), (1, _), (2, _)]) (fun q9 hq9 => List.mem_append_left [_] hq9) ?_
            exact ih (k + 1) (by omega) (by omega) (fun s s0 s1 z9 => by
              by_cases e9 : s = k
              · subst e9; exact hno z9
              · exact h2 s s0 (by omega) z9) (by omega)
          · refine zz_iconst hx dX3_lacksSetFor_41 ?_
            exact zz_zret hx hf dX3_lacksSetFor_42 (Or.inr rfl) ⟨_, rfl, (wD_at (by omega) (by omega)).symm, Or.inl ⟨rfl, k, h0, by omega, c30.1, c30.2, by omega⟩⟩ (by decide) (by decide)
  refine zz_iconst hx dX3_lacksSetFor_0 ?_
  refine zz_istore_n (lv' := [(0, _), (1, _), (2, _)]) hx dX3_lacksSetFor_1 (by decide) rfl ?_
  exact loop (N + 1) 0 (by omega) (by omega) (fun s s0 s1 => by omega) (by omega)

set_option maxHeartbeats 4000000 in
set_option maxRecDepth 100000 in
theorem k_X3_hasMembers {l : Launch} {g : zG} {b : Nat → Nat} {c : Int → Nat → Nat} {I : Nat → Int} {Q : Nat → Int → Int} {P : Int → Nat → Int} {T : Int → Nat → Int → Int} {N : Nat} {rest : va_W} (hst : l.stackTraces = false) (hI : aI I Q N) {ow : Int → Int → Int} {isO : Int → Int → Prop} {L : Int → List Int} (hS : aS P T N ow isO L) (r : Int) (r0 : 0 ≤ r) (r1 : r < 60) : zM l g yX3_hasMembers cX3_hasMembers 4 (Option.some FieldType.boolean) ({ frames := 3, cells := 0, slots := 0, locals := 64 } : Room) [.ref (b 0), vi r] (wD g b c I Q P T N rest) (zI fun v w => w = (wD g b c I Q P T N rest) ∧ ((v = 1 ∧ ∃ s : Int, 0 ≤ s ∧ s < (N : Int) ∧ (isO s r ∧ 0 < ((mOf (ow s) r (L s)).length : Int))) ∨ (v = 0 ∧ ∀ s : Int, 0 ≤ s → s < (N : Int) → ¬ (isO s r ∧ 0 < ((mOf (ow s) r (L s)).length : Int))))) zN 0 0 := by
  have hI5 := hI.1
  have hN := hI.2.1
  refine zM_of (lv0 := [(0, _), (1, _)]) hst rfl (by decide +kernel) (Nat.le_of_ble_eq_true rfl) rfl (fun x hx hf hn => ?_)
  have loop : ∀ (n : Nat) (k : Int), 0 ≤ k → k ≤ (N : Int) → (∀ s : Int, 0 ≤ s → s < k → ¬ (isO s r ∧ 0 < ((mOf (ow s) r (L s)).length : Int))) → ((N : Int) - k).toNat < n → Z l g ({ frames := 3, cells := 0, slots := 0, locals := 64 } : Room) 4 x 0 0 (wD g b c I Q P T N rest) 2 [(0, .ref (b 0)), (1, vi r), (2, vi k)] [] := by
    intro n
    induction n with
    | zero => intro k h0 h1 h2 hm; omega
    | succ n ih =>
      intro k h0 h1 h2 hm
      refine zz_iload_n hx dX3_hasMembers_2 rfl ?_
      refine zz_aload_n hx dX3_hasMembers_3 rfl ?_
      refine zd_g0 hx lf_X3_10 dX3_hasMembers_4 ?_
      refine zz_callVi hx me_Jx4a65c_size_8abf5 lk_X3_62 (k_Jx4a65c_size_8abf5 hst) 1 rfl rfl ⟨rfl, rfl⟩ (by decide) (by decide) rfl rfl (Nat.le_of_ble_eq_true rfl) dX3_hasMembers_7 (fun _ _ h => h.elim) (fun r7 w7 hp7 => ?_)
      obtain ⟨rfl, rfl⟩ := hp7
      refine zz_icmp_ge hx 49 dX3_hasMembers_10 rfl (by omega) (by omega) (fun c10 => ?_) (fun c10 => ?_)
      · refine zz_iconst hx dX3_hasMembers_49 ?_
        exact zz_zret hx hf dX3_hasMembers_50 (Or.inl rfl) ⟨_, rfl, rfl, Or.inr ⟨rfl, fun s s0 s1 => h2 s s0 (by omega)⟩⟩ (by decide) (by decide)
      · have hs9 := hS k h0 (by omega)
        have ho9 := aS_own hS h0 (show k < (N : Int) by omega) r0 r1
        refine zz_aload_n hx dX3_hasMembers_13 rfl ?_
        refine zd_g0 hx lf_X3_10 dX3_hasMembers_14 ?_
        refine zz_iload_n hx dX3_hasMembers_17 rfl ?_
        refine zz_callVa hx me_Jx4a65c_get_915e3 lk_X3_97 (k_Jx4a65c_get_915e3 hst hI5 hN _ (by omega) (by omega)) 1 rfl rfl ⟨rfl, rfl⟩ (by decide) (by decide) rfl rfl (Nat.le_of_ble_eq_true rfl) dX3_hasMembers_18 (fun _ _ h => h.elim) (fun r18 w18 hp18 => ?_)
        obtain ⟨rfl, rfl⟩ := hp18
        refine zz_eq (wD_at (s := k) (by omega) (by omega)) rfl ?_
        refine zz_cast hx lc_X3_73 rfl _ (sW_at 0) dX3_hasMembers_21 ?_
        refine zz_astore_n (lv' := [(0, _), (1, _), (2, _), (3, _)]) hx dX3_hasMembers_24 (by decide) rfl ?_
        refine zz_aload_n hx dX3_hasMembers_25 rfl ?_
        refine zz_iload_n hx dX3_hasMembers_26 rfl ?_
        refine zz_callVi hx me_X2_owns lk_X3_175 (k_X2_owns hst hs9.1 r (by omega)) _ (sW_at 0) rfl ⟨rfl, rfl⟩ (by decide) (by decide) rfl rfl (Nat.le_of_ble_eq_true rfl) dX3_hasMembers_27 (fun _ _ h => h.elim) (fun r27 w27 hp27 => ?_)
        obtain ⟨rfl, rfl⟩ := hp27
        refine zz_ifb_eq hx 43 dX3_hasMembers_30 rfl (fun c30 => ?_) (fun c30 => ?_)
        · have hno : (isO k r ∧ 0 < ((mOf (ow k) r (L k)).length : Int)) → False := fun z9 => c30 (ho9.mpr z9.1)
          refine zz_iinc (lv' := [(0, _), (1, _), (2, _), (3, _)]) hx dX3_hasMembers_43 (by decide) rfl rfl ?_
          refine zz_goto hx 2 dX3_hasMembers_46 rfl ?_
          refine zz_eq (wD_at (by omega) (by omega)).symm rfl ?_
          refine zz_sub (lv' := [(0, _), (1, _), (2, _)]) (fun q9 hq9 => List.mem_append_left [_] hq9) ?_
          exact ih (k + 1) (by omega) (by omega) (fun s s0 s1 z9 => by
            by_cases e9 : s = k
            · subst e9; exact hno z9
            · exact h2 s s0 (by omega) z9) (by omega)
        · have hio := ho9.mp c30
          have hmf := mOf_facts hs9.2.1.1 hio
          refine zz_aload_n hx dX3_hasMembers_33 rfl ?_
          refine zz_iload_n hx dX3_hasMembers_34 rfl ?_
          refine zz_callVi hx me_X2_countByRing lk_X3_157 (k_X2_countByRing hst hs9.1 hs9.2.1 r hio) _ (sW_at 0) rfl ⟨rfl, rfl⟩ (by decide) (by decide) rfl rfl (Nat.le_of_ble_eq_true rfl) dX3_hasMembers_35 (fun _ _ h => h.elim) (fun r35 w35 hp35 => ?_)
          obtain ⟨rfl, rfl⟩ := hp35
          refine zz_if_le hx 43 dX3_hasMembers_38 rfl (by omega) (fun c38 => ?_) (fun c38 => ?_)
          · have hno : (isO k r ∧ 0 < ((mOf (ow k) r (L k)).length : Int)) → False := fun z9 => by omega
            refine zz_iinc (lv' := [(0, _), (1, _), (2, _), (3, _)]) hx dX3_hasMembers_43 (by decide) rfl rfl ?_
            refine zz_goto hx 2 dX3_hasMembers_46 rfl ?_
            refine zz_eq (wD_at (by omega) (by omega)).symm rfl ?_
            refine zz_sub (lv' := [(0, _), (1, _), (2, _)]) (fun q9 hq9 => List.mem_append_left [_] hq9) ?_
            exact ih (k + 1) (by omega) (by omega) (fun s s0 s1 z9 => by
              by_cases e9 : s = k
              · subst e9; exact hno z9
              · exact h2 s s0 (by omega) z9) (by omega)
          · refine zz_iconst hx dX3_hasMembers_41 ?_
            exact zz_zret hx hf dX3_hasMembers_42 (Or.inr rfl) ⟨_, rfl, (wD_at (by omega) (by omega)).symm, Or.inl ⟨rfl, k, h0, by omega, hio, by omega⟩⟩ (by decide) (by decide)
  refine zz_iconst hx dX3_hasMembers_0 ?_
  refine zz_istore_n (lv' := [(0, _), (1, _), (2, _)]) hx dX3_hasMembers_1 (by decide) rfl ?_
  exact loop (N + 1) 0 (by omega) (by omega) (fun s s0 s1 => by omega) (by omega)

set_option maxHeartbeats 4000000 in
set_option maxRecDepth 100000 in
theorem k_X3_makeCurrent {l : Launch} {g : zG} {b : Nat → Nat} {c : Int → Nat → Nat} {I : Nat → Int} {Q : Nat → Int → Int} {P : Int → Nat → Int} {T : Int → Nat → Int → Int} {N : Nat} {rest : va_W} (hst : l.stackTraces = false) (hI : aI I Q N) (hR : ∀ s : Int, 0 ≤ s → s < (N : Int) → rR (T s)) (r : Int) (hr : -2147483648 ≤ r ∧ r < 2147483648) : zM l g yX3_makeCurrent cX3_makeCurrent 5 (Option.some FieldType.int) ({ frames := 3, cells := 0, slots := 0, locals := 64 } : Room) [.ref (b 0), vi r] (wD g b c I Q P T N rest) (zI fun v w => (rAt 60 (Q 0) r = -1 ∧ v = -1 ∧ w = (wD g b c I Q P T N rest)) ∨ (rAt 60 (Q 0) r ≠ -1 ∧ v = r ∧ w = (wD g b c (Fup I 2 r) (Gset Q 2 (zup (Q 2) (Q 0 r) r)) (mkP P T r (N : Int)) T N rest))) zN 0 0 := by
  have hI5 := hI.1
  have hN := hI.2.1
  have hq0 := aI_q0 hI r
  refine zM_of (lv0 := [(0, _), (1, _)]) hst rfl (by decide +kernel) (Nat.le_of_ble_eq_true rfl) rfl (fun x hx hf hn => ?_)
  have loop : rAt 60 (Q 0) r ≠ -1 → 0 ≤ r → r < 60 → ∀ (n : Nat) (k : Int), 0 ≤ k → k ≤ (N : Int) → ((N : Int) - k).toNat < n → Z l g ({ frames := 3, cells := 0, slots := 0, locals := 64 } : Room) 5 x 0 0 (wD g b c (Fup I 2 r) (Gset Q 2 (zup (Q 2) (Q 0 r) r)) (mkP P T r k) T N rest) 32 [(0, .ref (b 0)), (1, vi r), (2, vi (Q 0 r)), (3, vi k)] [] := by
    intro hne r0 r1 n
    have hI5 : (Fup I 2 r) 5 = (N : Int) := by rw [Fup_n _ _ (by decide)]; exact hI.1
    induction n with
    | zero => intro k h0 h1 hm; omega
    | succ n ih =>
      intro k h0 h1 hm
      refine zz_iload_n hx dX3_makeCurrent_32 rfl ?_
      refine zz_aload_n hx dX3_makeCurrent_33 rfl ?_
      refine zd_g0 hx lf_X3_10 dX3_makeCurrent_34 ?_
      refine zz_callVi hx me_Jx4a65c_size_8abf5 lk_X3_62 (k_Jx4a65c_size_8abf5 hst) 1 rfl rfl ⟨rfl, rfl⟩ (by decide) (by decide) rfl rfl (Nat.le_of_ble_eq_true rfl) dX3_makeCurrent_37 (fun _ _ h => h.elim) (fun r37 w37 hp37 => ?_)
      obtain ⟨rfl, rfl⟩ := hp37
      refine zz_icmp_ge hx 81 dX3_makeCurrent_40 rfl (by omega) (by omega) (fun c40 => ?_) (fun c40 => ?_)
      · refine zz_iload_n hx dX3_makeCurrent_81 rfl ?_
        exact zz_iret hx hf dX3_makeCurrent_82 ⟨_, rfl, Or.inr ⟨hne, rfl, by rw [show k = (N : Int) by omega]⟩⟩ (by decide) (by decide)
      · have hs9 := hR k h0 (by omega)
        have h5r := hs9 5 r r0 r1
        refine zz_aload_n hx dX3_makeCurrent_43 rfl ?_
        refine zd_g0 hx lf_X3_10 dX3_makeCurrent_44 ?_
        refine zz_iload_n hx dX3_makeCurrent_47 rfl ?_
        refine zz_callVa hx me_Jx4a65c_get_915e3 lk_X3_97 (k_Jx4a65c_get_915e3 hst hI5 hN _ (by omega) (by omega)) 1 rfl rfl ⟨rfl, rfl⟩ (by decide) (by decide) rfl rfl (Nat.le_of_ble_eq_true rfl) dX3_makeCurrent_48 (fun _ _ h => h.elim) (fun r48 w48 hp48 => ?_)
        obtain ⟨rfl, rfl⟩ := hp48
        refine zz_eq (wD_at (s := k) (by omega) (by omega)) rfl ?_
        refine zz_cast hx lc_X3_73 rfl _ (sW_at 0) dX3_makeCurrent_51 ?_
        refine zz_astore (lv' := [(0, _), (1, _), (2, _), (3, _), (4, _)]) hx dX3_makeCurrent_54 (by decide) rfl ?_
        refine zz_aload hx dX3_makeCurrent_56 rfl ?_
        refine zs_n5 hx dX3_makeCurrent_58 ?_
        refine zz_iload_n hx dX3_makeCurrent_61 rfl ?_
        refine zs_at5 hx hst lk_X3_112 (by decide) (by decide) (by omega) (Nat.le_of_ble_eq_true rfl) dX3_makeCurrent_62 ?_
        rw [rAt_in (by omega) (by omega)]
        refine zz_iconst hx dX3_makeCurrent_65 ?_
        refine zz_icmp_eq hx 75 dX3_makeCurrent_66 rfl (by omega) (by omega) (fun c66 => ?_) (fun c66 => ?_)
        · have hstep := mkP_not (P := P) c66
          refine zz_iinc (lv' := [(0, _), (1, _), (2, _), (3, _), (4, _)]) hx dX3_makeCurrent_75 (by decide) rfl rfl ?_
          refine zz_goto hx 32 dX3_makeCurrent_78 rfl ?_
          refine zz_eq (wD_put (by omega) (by omega) _ _) rfl ?_
          rw [upI_id T, hstep]
          refine zz_sub (lv' := [(0, _), (1, _), (2, _), (3, _)]) (fun q9 hq9 => List.mem_append_left [_] hq9) ?_
          exact ih (k + 1) (by omega) (by omega) (by omega)
        · have hstep := mkP_yes (P := P) h0 c66
          refine zz_aload hx dX3_makeCurrent_69 rfl ?_
          refine zz_iload_n hx dX3_makeCurrent_71 rfl ?_
          refine zs_np8 hx dX3_makeCurrent_72 ?_
          refine zz_iinc (lv' := [(0, _), (1, _), (2, _), (3, _), (4, _)]) hx dX3_makeCurrent_75 (by decide) rfl rfl ?_
          refine zz_goto hx 32 dX3_makeCurrent_78 rfl ?_
          refine zz_eq (wD_put (by omega) (by omega) _ _) rfl ?_
          rw [upI_id T, hstep]
          refine zz_sub (lv' := [(0, _), (1, _), (2, _), (3, _)]) (fun q9 hq9 => List.mem_append_left [_] hq9) ?_
          exact ih (k + 1) (by omega) (by omega) (by omega)
  refine zz_aload_n hx dX3_makeCurrent_0 rfl ?_
  refine zd_g1 hx lf_X3_21 dX3_makeCurrent_1 ?_
  refine zz_iload_n hx dX3_makeCurrent_4 rfl ?_
  refine zd_at0 hx hst lk_X3_112 (by decide) (by decide) (by omega) (Nat.le_of_ble_eq_true rfl) dX3_makeCurrent_5 ?_
  refine zz_istore_n (lv' := [(0, _), (1, _), (2, _)]) hx dX3_makeCurrent_8 (by decide) rfl ?_
  refine zz_iload_n hx dX3_makeCurrent_9 rfl ?_
  refine zz_iconst hx dX3_makeCurrent_10 ?_
  refine zz_icmp_ne hx 16 dX3_makeCurrent_11 rfl (by omega) (by omega) (fun c11 => ?_) (fun c11 => ?_)
  · have r0 : 0 ≤ r ∧ r < 60 := by
      rcases Decidable.em (0 ≤ r ∧ r < ((60 : Nat) : Int)) with z9 | z9
      · omega
      · exact absurd (rAt_no z9) c11
    have hre : rAt 60 (Q 0) r = Q 0 r := rAt_in r0.1 (by omega)
    refine zz_aload_n hx dX3_makeCurrent_16 rfl ?_
    refine zz_iload_n hx dX3_makeCurrent_17 rfl ?_
    refine zd_p7 hx lf_X3_45 dX3_makeCurrent_18 ?_
    refine zz_aload_n hx dX3_makeCurrent_21 rfl ?_
    refine zd_g3 hx lf_X3_28 dX3_makeCurrent_22 ?_
    refine zz_iload_n hx dX3_makeCurrent_25 rfl ?_
    refine zz_iload_n hx dX3_makeCurrent_26 rfl ?_
    refine zd_put2 hx hst lk_X3_93 (by decide) (by decide) (by omega) (Nat.le_of_ble_eq_true rfl) dX3_makeCurrent_27 ?_
    rw [rUp_in (by omega) (by omega)]
    refine zz_iconst hx dX3_makeCurrent_30 ?_
    refine zz_istore_n (lv' := [(0, _), (1, _), (2, _), (3, _)]) hx dX3_makeCurrent_31 (by decide) rfl ?_
    rw [hre]
    refine zz_eq (w' := (wD g b c (Fup I 2 r) (Gset Q 2 (zup (Q 2) (Q 0 r) r)) (mkP P T r 0) T N rest)) (by rw [mkP_0]) rfl ?_
    exact loop c11 r0.1 r0.2 (N + 1) 0 (by omega) (by omega) (by omega)
  · refine zz_iconst hx dX3_makeCurrent_14 ?_
    exact zz_iret hx hf dX3_makeCurrent_15 ⟨_, rfl, Or.inl ⟨c11, rfl, rfl⟩⟩ (by decide) (by decide)
