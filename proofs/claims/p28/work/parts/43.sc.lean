theorem aS_rR {P : Int → Nat → Int} {T : Int → Nat → Int → Int} {N : Nat} {ow : Int → Int → Int} {isO : Int → Int → Prop} {L : Int → List Int} (h : aS P T N ow isO L) : ∀ s : Int, 0 ≤ s → s < (N : Int) → rR (T s) := fun s s0 s1 => (h s s0 s1).1
theorem rAt_ne {N : Nat} {f : Int → Int} {p : Int} (h : rAt N f p ≠ -1) : 0 ≤ p ∧ p < (N : Int) := by
  rcases Decidable.em (0 ≤ p ∧ p < (N : Int)) with z | z
  · exact z
  · exact absurd (rAt_no z) h
theorem ring_ow {T : Nat → Int → Int} {ow : Int → Int} {isO : Int → Prop} {L : List Int} (h : rOK T ow isO L) {r : Int} (r0 : 0 ≤ r) (r1 : r < 60) : ((T 5 r ≠ -1 ∧ T 5 r ≠ r) → T 5 r = ow r) ∧ (¬ (T 5 r ≠ -1 ∧ T 5 r ≠ r) → ow r = -1) := by
  have h5 := rOK_ring h r0 r1
  constructor
  · intro z
    exact ((h5.2.1 (T 5 r) z.1).mp ⟨rfl, fun e => z.2 e.symm⟩).symm
  · intro z
    rcases Decidable.em (ow r = -1) with y | y
    · exact y
    · have hz := (h5.2.1 (ow r) y).mpr rfl
      exact absurd ⟨by rw [hz.1]; exact y, by rw [hz.1]; exact fun e => hz.2 e.symm⟩ z
theorem cur_isO {T : Nat → Int → Int} {ow : Int → Int} {isO : Int → Prop} {L : List Int} (h : rOK T ow isO L) (p : Int) : rAt 60 (T 5) p = -1 ∨ isO (rAt 60 (T 5) p) := by
  by_cases c : 0 ≤ p ∧ p < ((60 : Nat) : Int)
  · rw [rAt_in c.1 c.2]
    have h2 := h.2.1 p c.1 (by omega)
    rcases Classical.em (isO p) with z | z
    · exact Or.inr (by rw [h2.1 z]; exact z)
    · rw [h2.2 z]
      rcases Decidable.em (ow p = -1) with y | y
      · exact Or.inl y
      · exact Or.inr (h.1.2.2.2 p ((h.1.2.2.1 p).mpr ⟨c.1, by omega, y⟩))
  · exact Or.inl (rAt_no c)
def nbC (T : Nat → Int → Int) (z r : Int) : Int := if rAt 60 (T (if z = 0 then 6 else 7)) r = rAt 60 (T 5) r then -1 else rAt 60 (T (if z = 0 then 6 else 7)) r
theorem nbC_rng {T : Nat → Int → Int} (h : rR T) (z r : Int) : -1 ≤ nbC T z r ∧ nbC T z r < 60 := by
  have h1 := rAt_rng h (if z = 0 then 6 else 7) r
  unfold nbC
  generalize rAt 60 (T (if z = 0 then 6 else 7)) r = y at h1 ⊢
  by_cases c : y = rAt 60 (T 5) r
  · rw [if_pos c]; omega
  · rw [if_neg c]; exact h1
/-- what finding record f answers and leaves -/
def mkO (g : zG) (b : Nat → Nat) (c : Int → Nat → Nat) (I : Nat → Int) (Q : Nat → Int → Int) (P : Int → Nat → Int) (T : Int → Nat → Int → Int) (N : Nat) (rest : va_W) (f v : Int) (w : va_W) : Prop := (rAt 60 (Q 0) f = -1 ∧ v = -1 ∧ w = wD g b c I Q P T N rest) ∨ (rAt 60 (Q 0) f ≠ -1 ∧ v = f ∧ w = wD g b c (Fup I 2 f) (Gset Q 2 (zup (Q 2) (Q 0 f) f)) (mkP P T f (N : Int)) T N rest)

set_option maxHeartbeats 4000000 in
set_option maxRecDepth 100000 in
theorem k_X3_setTypes {l : Launch} {g : zG} {b : Nat → Nat} {c : Int → Nat → Nat} {I : Nat → Int} {Q : Nat → Int → Int} {P : Int → Nat → Int} {T : Int → Nat → Int → Int} {N : Nat} {rest : va_W} (hst : l.stackTraces = false)  : zM l g yX3_setTypes cX3_setTypes 1 (Option.some FieldType.int) ({ frames := 1, cells := 0, slots := 0, locals := 20 } : Room) [.ref (b 0)] (wD g b c I Q P T N rest) (zI fun v w => v = I 5 ∧ w = (wD g b c I Q P T N rest)) zN 0 0 := by
  refine zM_of (lv0 := [(0, _)]) hst rfl (by decide +kernel) (Nat.le_of_ble_eq_true rfl) rfl (fun x hx hf hn => ?_)
  refine zz_aload_n hx dX3_setTypes_0 rfl ?_
  refine zd_g0 hx lf_X3_10 dX3_setTypes_1 ?_
  refine zz_callVi hx me_Jx4a65c_size_8abf5 lk_X3_62 (k_Jx4a65c_size_8abf5 hst) 1 rfl rfl ⟨rfl, rfl⟩ (by decide) (by decide) rfl rfl (Nat.le_of_ble_eq_true rfl) dX3_setTypes_4 (fun _ _ h => h.elim) (fun r4 w4 hp4 => ?_)
  obtain ⟨rfl, rfl⟩ := hp4
  exact zz_iret hx hf dX3_setTypes_7 ⟨_, rfl, rfl, rfl⟩ (by decide) (by decide)

set_option maxHeartbeats 4000000 in
set_option maxRecDepth 100000 in
theorem k_X3_records {l : Launch} {g : zG} {b : Nat → Nat} {c : Int → Nat → Nat} {I : Nat → Int} {Q : Nat → Int → Int} {P : Int → Nat → Int} {T : Int → Nat → Int → Int} {N : Nat} {rest : va_W} (hst : l.stackTraces = false)  : zM l g yX3_records cX3_records 1 (Option.some FieldType.int) ({ frames := 0, cells := 0, slots := 0, locals := 0 } : Room) [.ref (b 0)] (wD g b c I Q P T N rest) (zI fun v w => v = I 1 ∧ w = (wD g b c I Q P T N rest)) zN 0 0 := by
  refine zM_of (lv0 := [(0, _)]) hst rfl (by decide +kernel) (Nat.le_of_ble_eq_true rfl) rfl (fun x hx hf hn => ?_)
  refine zz_aload_n hx dX3_records_0 rfl ?_
  refine zd_g6 hx lf_X3_42 dX3_records_1 ?_
  exact zz_iret hx hf dX3_records_4 ⟨_, rfl, rfl, rfl⟩ (by decide) (by decide)

set_option maxHeartbeats 4000000 in
set_option maxRecDepth 100000 in
theorem k_X3_current {l : Launch} {g : zG} {b : Nat → Nat} {c : Int → Nat → Nat} {I : Nat → Int} {Q : Nat → Int → Int} {P : Int → Nat → Int} {T : Int → Nat → Int → Int} {N : Nat} {rest : va_W} (hst : l.stackTraces = false)  : zM l g yX3_current cX3_current 1 (Option.some FieldType.int) ({ frames := 0, cells := 0, slots := 0, locals := 0 } : Room) [.ref (b 0)] (wD g b c I Q P T N rest) (zI fun v w => v = I 2 ∧ w = (wD g b c I Q P T N rest)) zN 0 0 := by
  refine zM_of (lv0 := [(0, _)]) hst rfl (by decide +kernel) (Nat.le_of_ble_eq_true rfl) rfl (fun x hx hf hn => ?_)
  refine zz_aload_n hx dX3_current_0 rfl ?_
  refine zd_g7 hx lf_X3_45 dX3_current_1 ?_
  exact zz_iret hx hf dX3_current_4 ⟨_, rfl, rfl, rfl⟩ (by decide) (by decide)

set_option maxHeartbeats 4000000 in
set_option maxRecDepth 100000 in
theorem k_X3_currentOf {l : Launch} {g : zG} {b : Nat → Nat} {c : Int → Nat → Nat} {I : Nat → Int} {Q : Nat → Int → Int} {P : Int → Nat → Int} {T : Int → Nat → Int → Int} {N : Nat} {rest : va_W} (hst : l.stackTraces = false) (hI : aI I Q N) (t : Int) (ht : -2147483648 ≤ t ∧ t < 2147483648) : zM l g yX3_currentOf cX3_currentOf 2 (Option.some FieldType.int) ({ frames := 7, cells := 1, slots := 6, locals := 103 } : Room) [.ref (b 0), vi t] (wD g b c I Q P T N rest) (zI fun v w => v = Q 2 t ∧ (0 ≤ t ∧ t ≤ 3) ∧ w = (wD g b c I Q P T N rest)) (fun E w1 => E = xA ∧ w1 = (wD g b c I Q P T N rest) ∧ ¬ (0 ≤ t ∧ t ≤ 3)) 1 6 := by
  refine zM_of (lv0 := [(0, _), (1, _)]) hst rfl (by decide +kernel) (Nat.le_of_ble_eq_true rfl) rfl (fun x hx hf hn => ?_)
  refine zz_aload_n hx dX3_currentOf_0 rfl ?_
  refine zz_iload_n hx dX3_currentOf_1 rfl ?_
  refine zz_callVv hx me_X3_requireType lk_X3_48 (k_X3_requireType hst _ (by omega)) 0 rfl rfl ⟨rfl, rfl⟩ (by decide) (by decide) rfl rfl (Nat.le_of_ble_eq_true rfl) dX3_currentOf_2 (fun E9 w9 hX => by obtain ⟨rfl, rfl, hX⟩ := hX; exact zz_out hx hf hn ⟨rfl, rfl, hX⟩ (by decide) (by decide)) (fun w2 hp2 => ?_)
  obtain ⟨rfl, hg1⟩ := hp2
  refine zz_aload_n hx dX3_currentOf_5 rfl ?_
  refine zd_g3 hx lf_X3_28 dX3_currentOf_6 ?_
  refine zz_iload_n hx dX3_currentOf_9 rfl ?_
  refine zd_at2 hx hst lk_X3_112 (by decide) (by decide) (by omega) (Nat.le_of_ble_eq_true rfl) dX3_currentOf_10 ?_
  rw [rAt_in (by omega) (by omega)]
  exact zz_iret hx hf dX3_currentOf_13 ⟨_, rfl, rfl, hg1, rfl⟩ (by decide) (by decide)

set_option maxHeartbeats 4000000 in
set_option maxRecDepth 100000 in
theorem k_X3_currentIn {l : Launch} {g : zG} {b : Nat → Nat} {c : Int → Nat → Nat} {I : Nat → Int} {Q : Nat → Int → Int} {P : Int → Nat → Int} {T : Int → Nat → Int → Int} {N : Nat} {rest : va_W} (hst : l.stackTraces = false) (hI : aI I Q N) {ow : Int → Int → Int} {isO : Int → Int → Prop} {L : Int → List Int} (hS : aS P T N ow isO L) (s : Int) (hs : -2147483648 ≤ s ∧ s < 2147483648) : zM l g yX3_currentIn cX3_currentIn 2 (Option.some FieldType.int) ({ frames := 7, cells := 1, slots := 6, locals := 103 } : Room) [.ref (b 0), vi s] (wD g b c I Q P T N rest) (zI fun v w => v = P s 8 ∧ (0 ≤ s ∧ s < (N : Int)) ∧ w = (wD g b c I Q P T N rest)) (fun E w1 => E = xI ∧ w1 = (wD g b c I Q P T N rest) ∧ ¬ (0 ≤ s ∧ s < (N : Int))) 1 6 := by
  refine zM_of (lv0 := [(0, _), (1, _)]) hst rfl (by decide +kernel) (Nat.le_of_ble_eq_true rfl) rfl (fun x hx hf hn => ?_)
  refine zz_aload_n hx dX3_currentIn_0 rfl ?_
  refine zz_iload_n hx dX3_currentIn_1 rfl ?_
  refine zz_callVa hx me_X3_requireSet lk_X3_132 (k_X3_requireSet hst hI.1 hI.2.1 _ (by omega)) 0 rfl rfl ⟨rfl, rfl⟩ (by decide) (by decide) rfl rfl (Nat.le_of_ble_eq_true rfl) dX3_currentIn_2 (fun E9 w9 hX => by obtain ⟨rfl, rfl, hX⟩ := hX; exact zz_out hx hf hn ⟨rfl, rfl, hX⟩ (by decide) (by decide)) (fun r2 w2 hp2 => ?_)
  obtain ⟨rfl, rfl, hg2⟩ := hp2
  refine zz_eq (wD_at (s := s) (by omega) (by omega)) rfl ?_
  have hs9 := hS s hg2.1 hg2.2
  refine zs_n8 hx dX3_currentIn_5 ?_
  exact zz_iret hx hf dX3_currentIn_8 ⟨_, rfl, rfl, hg2, (wD_at (by omega) (by omega)).symm⟩ (by decide) (by decide)

set_option maxHeartbeats 4000000 in
set_option maxRecDepth 100000 in
theorem k_X3_typeOf {l : Launch} {g : zG} {b : Nat → Nat} {c : Int → Nat → Nat} {I : Nat → Int} {Q : Nat → Int → Int} {P : Int → Nat → Int} {T : Int → Nat → Int → Int} {N : Nat} {rest : va_W} (hst : l.stackTraces = false) (hI : aI I Q N) (r : Int) (hr : -2147483648 ≤ r ∧ r < 2147483648) : zM l g yX3_typeOf cX3_typeOf 2 (Option.some FieldType.int) ({ frames := 7, cells := 1, slots := 6, locals := 103 } : Room) [.ref (b 0), vi r] (wD g b c I Q P T N rest) (zI fun v w => v = Q 0 r ∧ (rAt 60 (Q 0) r ≠ -1) ∧ w = (wD g b c I Q P T N rest)) (fun E w1 => E = xI ∧ w1 = (wD g b c I Q P T N rest) ∧ ¬ (rAt 60 (Q 0) r ≠ -1)) 1 6 := by
  refine zM_of (lv0 := [(0, _), (1, _)]) hst rfl (by decide +kernel) (Nat.le_of_ble_eq_true rfl) rfl (fun x hx hf hn => ?_)
  refine zz_aload_n hx dX3_typeOf_0 rfl ?_
  refine zz_iload_n hx dX3_typeOf_1 rfl ?_
  refine zz_callVv hx me_X3_requireRecord lk_X3_196 (k_X3_requireRecord hst hI _ (by omega)) 0 rfl rfl ⟨rfl, rfl⟩ (by decide) (by decide) rfl rfl (Nat.le_of_ble_eq_true rfl) dX3_typeOf_2 (fun E9 w9 hX => by obtain ⟨rfl, rfl, hX⟩ := hX; exact zz_out hx hf hn ⟨rfl, rfl, hX⟩ (by decide) (by decide)) (fun w2 hp2 => ?_)
  obtain ⟨rfl, hg1⟩ := hp2
  have hr9 := rAt_ne hg1
  refine zz_aload_n hx dX3_typeOf_5 rfl ?_
  refine zd_g1 hx lf_X3_21 dX3_typeOf_6 ?_
  refine zz_iload_n hx dX3_typeOf_9 rfl ?_
  refine zd_at0 hx hst lk_X3_112 (by decide) (by decide) (by omega) (Nat.le_of_ble_eq_true rfl) dX3_typeOf_10 ?_
  rw [rAt_in (by omega) (by omega)]
  exact zz_iret hx hf dX3_typeOf_13 ⟨_, rfl, rfl, hg1, rfl⟩ (by decide) (by decide)

set_option maxHeartbeats 4000000 in
set_option maxRecDepth 100000 in
theorem k_X3_valueOf {l : Launch} {g : zG} {b : Nat → Nat} {c : Int → Nat → Nat} {I : Nat → Int} {Q : Nat → Int → Int} {P : Int → Nat → Int} {T : Int → Nat → Int → Int} {N : Nat} {rest : va_W} (hst : l.stackTraces = false) (hI : aI I Q N) (r : Int) (hr : -2147483648 ≤ r ∧ r < 2147483648) : zM l g yX3_valueOf cX3_valueOf 2 (Option.some FieldType.int) ({ frames := 7, cells := 1, slots := 6, locals := 103 } : Room) [.ref (b 0), vi r] (wD g b c I Q P T N rest) (zI fun v w => v = Q 1 r ∧ (rAt 60 (Q 0) r ≠ -1) ∧ w = (wD g b c I Q P T N rest)) (fun E w1 => E = xI ∧ w1 = (wD g b c I Q P T N rest) ∧ ¬ (rAt 60 (Q 0) r ≠ -1)) 1 6 := by
  refine zM_of (lv0 := [(0, _), (1, _)]) hst rfl (by decide +kernel) (Nat.le_of_ble_eq_true rfl) rfl (fun x hx hf hn => ?_)
  refine zz_aload_n hx dX3_valueOf_0 rfl ?_
  refine zz_iload_n hx dX3_valueOf_1 rfl ?_
  refine zz_callVv hx me_X3_requireRecord lk_X3_196 (k_X3_requireRecord hst hI _ (by omega)) 0 rfl rfl ⟨rfl, rfl⟩ (by decide) (by decide) rfl rfl (Nat.le_of_ble_eq_true rfl) dX3_valueOf_2 (fun E9 w9 hX => by obtain ⟨rfl, rfl, hX⟩ := hX; exact zz_out hx hf hn ⟨rfl, rfl, hX⟩ (by decide) (by decide)) (fun w2 hp2 => ?_)
  obtain ⟨rfl, hg1⟩ := hp2
  have hr9 := rAt_ne hg1
  refine zz_aload_n hx dX3_valueOf_5 rfl ?_
  refine zd_g2 hx lf_X3_25 dX3_valueOf_6 ?_
  refine zz_iload_n hx dX3_valueOf_9 rfl ?_
  refine zd_at1 hx hst lk_X3_112 (by decide) (by decide) (by omega) (Nat.le_of_ble_eq_true rfl) dX3_valueOf_10 ?_
  rw [rAt_in (by omega) (by omega)]
  exact zz_iret hx hf dX3_valueOf_13 ⟨_, rfl, rfl, hg1, rfl⟩ (by decide) (by decide)

set_option maxHeartbeats 4000000 in
set_option maxRecDepth 100000 in
theorem k_X3_ownerOf {l : Launch} {g : zG} {b : Nat → Nat} {c : Int → Nat → Nat} {I : Nat → Int} {Q : Nat → Int → Int} {P : Int → Nat → Int} {T : Int → Nat → Int → Int} {N : Nat} {rest : va_W} (hst : l.stackTraces = false) (hI : aI I Q N) {ow : Int → Int → Int} {isO : Int → Int → Prop} {L : Int → List Int} (hS : aS P T N ow isO L) (r : Int) (hr : -2147483648 ≤ r ∧ r < 2147483648) (s : Int) (hs : -2147483648 ≤ s ∧ s < 2147483648) : zM l g yX3_ownerOf cX3_ownerOf 4 (Option.some FieldType.int) ({ frames := 7, cells := 2, slots := 12, locals := 103 } : Room) [.ref (b 0), vi r, vi s] (wD g b c I Q P T N rest) (zI fun v w => v = ow s r ∧ ((rAt 60 (Q 0) r ≠ -1) ∧ (0 ≤ s ∧ s < (N : Int))) ∧ w = (wD g b c I Q P T N rest)) (fun E w1 => E = xI ∧ w1 = (wD g b c I Q P T N rest) ∧ ¬ ((rAt 60 (Q 0) r ≠ -1) ∧ (0 ≤ s ∧ s < (N : Int)))) 2 12 := by
  refine zM_of (lv0 := [(0, _), (1, _), (2, _)]) hst rfl (by decide +kernel) (Nat.le_of_ble_eq_true rfl) rfl (fun x hx hf hn => ?_)
  refine zz_aload_n hx dX3_ownerOf_0 rfl ?_
  refine zz_iload_n hx dX3_ownerOf_1 rfl ?_
  refine zz_callVv hx me_X3_requireRecord lk_X3_196 (k_X3_requireRecord hst hI _ (by omega)) 0 rfl rfl ⟨rfl, rfl⟩ (by decide) (by decide) rfl rfl (Nat.le_of_ble_eq_true rfl) dX3_ownerOf_2 (fun E9 w9 hX => by obtain ⟨rfl, rfl, hX⟩ := hX; exact zz_out hx hf hn ⟨rfl, rfl, fun z9 => hX z9.1⟩ (by decide) (by decide)) (fun w2 hp2 => ?_)
  obtain ⟨rfl, hg1⟩ := hp2
  have hr9 := rAt_ne hg1
  refine zz_aload_n hx dX3_ownerOf_5 rfl ?_
  refine zz_iload_n hx dX3_ownerOf_6 rfl ?_
  refine zz_callVa hx me_X3_requireSet lk_X3_132 (k_X3_requireSet hst hI.1 hI.2.1 _ (by omega)) 0 rfl rfl ⟨rfl, rfl⟩ (by decide) (by decide) rfl rfl (Nat.le_of_ble_eq_true rfl) dX3_ownerOf_7 (fun E9 w9 hX => by obtain ⟨rfl, rfl, hX⟩ := hX; exact zz_out hx hf hn ⟨rfl, rfl, fun z9 => hX z9.2⟩ (by decide) (by decide)) (fun r7 w7 hp7 => ?_)
  obtain ⟨rfl, rfl, hg2⟩ := hp7
  refine zz_eq (wD_at (s := s) (by omega) (by omega)) rfl ?_
  have hs9 := hS s hg2.1 hg2.2
  refine zz_astore_n (lv' := [(0, _), (1, _), (2, _), (3, _)]) hx dX3_ownerOf_10 (by decide) rfl ?_
  refine zz_aload_n hx dX3_ownerOf_11 rfl ?_
  refine zz_iload_n hx dX3_ownerOf_12 rfl ?_
  refine zz_callVi hx me_X2_isMember lk_X3_141 (k_X2_isMember hst hs9.1 r (by omega)) _ (sW_at 0) rfl ⟨rfl, rfl⟩ (by decide) (by decide) rfl rfl (Nat.le_of_ble_eq_true rfl) dX3_ownerOf_13 (fun _ _ h => h.elim) (fun r13 w13 hp13 => ?_)
  obtain ⟨rfl, rfl⟩ := hp13
  have hro := ring_ow hs9.2.1 hr9.1 hr9.2
  rw [rAt_in hr9.1 hr9.2]
  refine zz_ifb_eq hx 30 dX3_ownerOf_16 rfl (fun c16 => ?_) (fun c16 => ?_)
  · have hv9 := (hro.2 c16).symm
    refine zz_iconst hx dX3_ownerOf_30 ?_
    exact zz_iret hx hf dX3_ownerOf_31 ⟨_, rfl, hv9, ⟨hg1, hg2⟩, (wD_at (by omega) (by omega)).symm⟩ (by decide) (by decide)
  · have hv9 := hro.1 c16
    refine zz_aload_n hx dX3_ownerOf_19 rfl ?_
    refine zs_n5 hx dX3_ownerOf_20 ?_
    refine zz_iload_n hx dX3_ownerOf_23 rfl ?_
    refine zs_at5 hx hst lk_X3_112 (by decide) (by decide) (by omega) (Nat.le_of_ble_eq_true rfl) dX3_ownerOf_24 ?_
    rw [rAt_in (by omega) (by omega)]
    refine zz_goto hx 31 dX3_ownerOf_27 rfl ?_
    exact zz_iret hx hf dX3_ownerOf_31 ⟨_, rfl, hv9, ⟨hg1, hg2⟩, (wD_at (by omega) (by omega)).symm⟩ (by decide) (by decide)

set_option maxHeartbeats 4000000 in
set_option maxRecDepth 100000 in
theorem k_X3_members {l : Launch} {g : zG} {b : Nat → Nat} {c : Int → Nat → Nat} {I : Nat → Int} {Q : Nat → Int → Int} {P : Int → Nat → Int} {T : Int → Nat → Int → Int} {N : Nat} {rest : va_W} (hst : l.stackTraces = false) (hI : aI I Q N) {ow : Int → Int → Int} {isO : Int → Int → Prop} {L : Int → List Int} (hS : aS P T N ow isO L) (r : Int) (hr : -2147483648 ≤ r ∧ r < 2147483648) (s : Int) (hs : -2147483648 ≤ s ∧ s < 2147483648) : zM l g yX3_members cX3_members 4 (Option.some FieldType.int) ({ frames := 7, cells := 2, slots := 12, locals := 103 } : Room) [.ref (b 0), vi r, vi s] (wD g b c I Q P T N rest) (zI fun v w => ((isO s r ∧ v = ((mOf (ow s) r (L s)).length : Int)) ∨ (¬ isO s r ∧ v = -1)) ∧ ((rAt 60 (Q 0) r ≠ -1) ∧ (0 ≤ s ∧ s < (N : Int))) ∧ w = (wD g b c I Q P T N rest)) (fun E w1 => E = xI ∧ w1 = (wD g b c I Q P T N rest) ∧ ¬ ((rAt 60 (Q 0) r ≠ -1) ∧ (0 ≤ s ∧ s < (N : Int)))) 2 12 := by
  refine zM_of (lv0 := [(0, _), (1, _), (2, _)]) hst rfl (by decide +kernel) (Nat.le_of_ble_eq_true rfl) rfl (fun x hx hf hn => ?_)
  refine zz_aload_n hx dX3_members_0 rfl ?_
  refine zz_iload_n hx dX3_members_1 rfl ?_
  refine zz_callVv hx me_X3_requireRecord lk_X3_196 (k_X3_requireRecord hst hI _ (by omega)) 0 rfl rfl ⟨rfl, rfl⟩ (by decide) (by decide) rfl rfl (Nat.le_of_ble_eq_true rfl) dX3_members_2 (fun E9 w9 hX => by obtain ⟨rfl, rfl, hX⟩ := hX; exact zz_out hx hf hn ⟨rfl, rfl, fun z9 => hX z9.1⟩ (by decide) (by decide)) (fun w2 hp2 => ?_)
  obtain ⟨rfl, hg1⟩ := hp2
  have hr9 := rAt_ne hg1
  refine zz_aload_n hx dX3_members_5 rfl ?_
  refine zz_iload_n hx dX3_members_6 rfl ?_
  refine zz_callVa hx me_X3_requireSet lk_X3_132 (k_X3_requireSet hst hI.1 hI.2.1 _ (by omega)) 0 rfl rfl ⟨rfl, rfl⟩ (by decide) (by decide) rfl rfl (Nat.le_of_ble_eq_true rfl) dX3_members_7 (fun E9 w9 hX => by obtain ⟨rfl, rfl, hX⟩ := hX; exact zz_out hx hf hn ⟨rfl, rfl, fun z9 => hX z9.2⟩ (by decide) (by decide)) (fun r7 w7 hp7 => ?_)
  obtain ⟨rfl, rfl, hg2⟩ := hp7
  refine zz_eq (wD_at (s := s) (by omega) (by omega)) rfl ?_
  have hs9 := hS s hg2.1 hg2.2
  refine zz_astore_n (lv' := [(0, _), (1, _), (2, _), (3, _)]) hx dX3_members_10 (by decide) rfl ?_
  refine zz_aload_n hx dX3_members_11 rfl ?_
  refine zz_iload_n hx dX3_members_12 rfl ?_
  refine zz_callVi hx me_X2_owns lk_X3_175 (k_X2_owns hst hs9.1 r (by omega)) _ (sW_at 0) rfl ⟨rfl, rfl⟩ (by decide) (by decide) rfl rfl (Nat.le_of_ble_eq_true rfl) dX3_members_13 (fun _ _ h => h.elim) (fun r13 w13 hp13 => ?_)
  obtain ⟨rfl, rfl⟩ := hp13
  have ho9 := aS_own hS hg2.1 hg2.2 hr9.1 hr9.2
  refine zz_ifb_eq hx 27 dX3_members_16 rfl (fun c16 => ?_) (fun c16 => ?_)
  · have hv9 : isO s r ∨ ¬ isO s r := Or.inr (fun z9 => c16 (ho9.mpr z9))
    refine zz_iconst hx dX3_members_27 ?_
    exact zz_iret hx hf dX3_members_28 (by first | exact ⟨_, rfl, Or.inl ⟨hio, rfl⟩, ⟨hg1, hg2⟩, (wD_at (by omega) (by omega)).symm⟩ | exact ⟨_, rfl, Or.inr ⟨fun z9 => c16 (ho9.mpr z9), rfl⟩, ⟨hg1, hg2⟩, (wD_at (by omega) (by omega)).symm⟩) (by decide) (by decide)
  · have hio := ho9.mp c16
    refine zz_aload_n hx dX3_members_19 rfl ?_
    refine zz_iload_n hx dX3_members_20 rfl ?_
    refine zz_callVi hx me_X2_countByRing lk_X3_157 (k_X2_countByRing hst hs9.1 hs9.2.1 r hio) _ (sW_at 0) rfl ⟨rfl, rfl⟩ (by decide) (by decide) rfl rfl (Nat.le_of_ble_eq_true rfl) dX3_members_21 (fun _ _ h => h.elim) (fun r21 w21 hp21 => ?_)
    obtain ⟨rfl, rfl⟩ := hp21
    refine zz_goto hx 28 dX3_members_24 rfl ?_
    exact zz_iret hx hf dX3_members_28 (by first | exact ⟨_, rfl, Or.inl ⟨hio, rfl⟩, ⟨hg1, hg2⟩, (wD_at (by omega) (by omega)).symm⟩ | exact ⟨_, rfl, Or.inr ⟨fun z9 => c16 (ho9.mpr z9), rfl⟩, ⟨hg1, hg2⟩, (wD_at (by omega) (by omega)).symm⟩) (by decide) (by decide)

set_option maxHeartbeats 4000000 in
set_option maxRecDepth 100000 in
theorem k_X3_membersByTable {l : Launch} {g : zG} {b : Nat → Nat} {c : Int → Nat → Nat} {I : Nat → Int} {Q : Nat → Int → Int} {P : Int → Nat → Int} {T : Int → Nat → Int → Int} {N : Nat} {rest : va_W} (hst : l.stackTraces = false) (hI : aI I Q N) {ow : Int → Int → Int} {isO : Int → Int → Prop} {L : Int → List Int} (hS : aS P T N ow isO L) (r : Int) (hr : -2147483648 ≤ r ∧ r < 2147483648) (s : Int) (hs : -2147483648 ≤ s ∧ s < 2147483648) : zM l g yX3_membersByTable cX3_membersByTable 4 (Option.some FieldType.int) ({ frames := 7, cells := 2, slots := 12, locals := 103 } : Room) [.ref (b 0), vi r, vi s] (wD g b c I Q P T N rest) (zI fun v w => ((isO s r ∧ v = ((mOf (ow s) r (L s)).length : Int)) ∨ (¬ isO s r ∧ v = -1)) ∧ ((rAt 60 (Q 0) r ≠ -1) ∧ (0 ≤ s ∧ s < (N : Int))) ∧ w = (wD g b c I Q P T N rest)) (fun E w1 => E = xI ∧ w1 = (wD g b c I Q P T N rest) ∧ ¬ ((rAt 60 (Q 0) r ≠ -1) ∧ (0 ≤ s ∧ s < (N : Int)))) 2 12 := by
  refine zM_of (lv0 := [(0, _), (1, _), (2, _)]) hst rfl (by decide +kernel) (Nat.le_of_ble_eq_true rfl) rfl (fun x hx hf hn => ?_)
  refine zz_aload_n hx dX3_membersByTable_0 rfl ?_
  refine zz_iload_n hx dX3_membersByTable_1 rfl ?_
  refine zz_callVv hx me_X3_requireRecord lk_X3_196 (k_X3_requireRecord hst hI _ (by omega)) 0 rfl rfl ⟨rfl, rfl⟩ (by decide) (by decide) rfl rfl (Nat.le_of_ble_eq_true rfl) dX3_membersByTable_2 (fun E9 w9 hX => by obtain ⟨rfl, rfl, hX⟩ := hX; exact zz_out hx hf hn ⟨rfl, rfl, fun z9 => hX z9.1⟩ (by decide) (by decide)) (fun w2 hp2 => ?_)
  obtain ⟨rfl, hg1⟩ := hp2
  have hr9 := rAt_ne hg1
  refine zz_aload_n hx dX3_membersByTable_5 rfl ?_
  refine zz_iload_n hx dX3_membersByTable_6 rfl ?_
  refine zz_callVa hx me_X3_requireSet lk_X3_132 (k_X3_requireSet hst hI.1 hI.2.1 _ (by omega)) 0 rfl rfl ⟨rfl, rfl⟩ (by decide) (by decide) rfl rfl (Nat.le_of_ble_eq_true rfl) dX3_membersByTable_7 (fun E9 w9 hX => by obtain ⟨rfl, rfl, hX⟩ := hX; exact zz_out hx hf hn ⟨rfl, rfl, fun z9 => hX z9.2⟩ (by decide) (by decide)) (fun r7 w7 hp7 => ?_)
  obtain ⟨rfl, rfl, hg2⟩ := hp7
  refine zz_eq (wD_at (s := s) (by omega) (by omega)) rfl ?_
  have hs9 := hS s hg2.1 hg2.2
  refine zz_astore_n (lv' := [(0, _), (1, _), (2, _), (3, _)]) hx dX3_membersByTable_10 (by decide) rfl ?_
  refine zz_aload_n hx dX3_membersByTable_11 rfl ?_
  refine zz_iload_n hx dX3_membersByTable_12 rfl ?_
  refine zz_callVi hx me_X2_owns lk_X3_175 (k_X2_owns hst hs9.1 r (by omega)) _ (sW_at 0) rfl ⟨rfl, rfl⟩ (by decide) (by decide) rfl rfl (Nat.le_of_ble_eq_true rfl) dX3_membersByTable_13 (fun _ _ h => h.elim) (fun r13 w13 hp13 => ?_)
  obtain ⟨rfl, rfl⟩ := hp13
  have ho9 := aS_own hS hg2.1 hg2.2 hr9.1 hr9.2
  refine zz_ifb_eq hx 27 dX3_membersByTable_16 rfl (fun c16 => ?_) (fun c16 => ?_)
  · have hv9 : isO s r ∨ ¬ isO s r := Or.inr (fun z9 => c16 (ho9.mpr z9))
    refine zz_iconst hx dX3_membersByTable_27 ?_
    exact zz_iret hx hf dX3_membersByTable_28 (by first | exact ⟨_, rfl, Or.inl ⟨hio, rfl⟩, ⟨hg1, hg2⟩, (wD_at (by omega) (by omega)).symm⟩ | exact ⟨_, rfl, Or.inr ⟨fun z9 => c16 (ho9.mpr z9), rfl⟩, ⟨hg1, hg2⟩, (wD_at (by omega) (by omega)).symm⟩) (by decide) (by decide)
  · have hio := ho9.mp c16
    refine zz_aload_n hx dX3_membersByTable_19 rfl ?_
    refine zz_iload_n hx dX3_membersByTable_20 rfl ?_
    refine zz_callVi hx me_X2_countByTable lk_X3_199 (k_X2_countByTable hst hs9.1 hs9.2.1 r hio) _ (sW_at 0) rfl ⟨rfl, rfl⟩ (by decide) (by decide) rfl rfl (Nat.le_of_ble_eq_true rfl) dX3_membersByTable_21 (fun _ _ h => h.elim) (fun r21 w21 hp21 => ?_)
    obtain ⟨rfl, rfl⟩ := hp21
    refine zz_goto hx 28 dX3_membersByTable_24 rfl ?_
    exact zz_iret hx hf dX3_membersByTable_28 (by first | exact ⟨_, rfl, Or.inl ⟨hio, rfl⟩, ⟨hg1, hg2⟩, (wD_at (by omega) (by omega)).symm⟩ | exact ⟨_, rfl, Or.inr ⟨fun z9 => c16 (ho9.mpr z9), rfl⟩, ⟨hg1, hg2⟩, (wD_at (by omega) (by omega)).symm⟩) (by decide) (by decide)

set_option maxHeartbeats 4000000 in
set_option maxRecDepth 100000 in
theorem k_X3_memberAt {l : Launch} {g : zG} {b : Nat → Nat} {c : Int → Nat → Nat} {I : Nat → Int} {Q : Nat → Int → Int} {P : Int → Nat → Int} {T : Int → Nat → Int → Int} {N : Nat} {rest : va_W} (hst : l.stackTraces = false) (hI : aI I Q N) {ow : Int → Int → Int} {isO : Int → Int → Prop} {L : Int → List Int} (hS : aS P T N ow isO L) (r : Int) (hr : -2147483648 ≤ r ∧ r < 2147483648) (s : Int) (hs : -2147483648 ≤ s ∧ s < 2147483648) (d : Int) (hd : -2147483648 ≤ d ∧ d < 2147483648) : zM l g yX3_memberAt cX3_memberAt 5 (Option.some FieldType.int) ({ frames := 7, cells := 3, slots := 18, locals := 103 } : Room) [.ref (b 0), vi r, vi s, vi d] (wD g b c I Q P T N rest) (zI fun v w => v = zat (mOf (ow s) r (L s)) d ∧ ((rAt 60 (Q 0) r ≠ -1) ∧ (0 ≤ s ∧ s < (N : Int)) ∧ isO s r ∧ 0 ≤ d ∧ d < ((mOf (ow s) r (L s)).length : Int)) ∧ w = (wD g b c I Q P T N rest)) (fun E w1 => E = xI ∧ w1 = (wD g b c I Q P T N rest) ∧ ¬ ((rAt 60 (Q 0) r ≠ -1) ∧ (0 ≤ s ∧ s < (N : Int)) ∧ isO s r ∧ 0 ≤ d ∧ d < ((mOf (ow s) r (L s)).length : Int))) 3 18 := by
  refine zM_of (lv0 := [(0, _), (1, _), (2, _), (3, _)]) hst rfl (by decide +kernel) (Nat.le_of_ble_eq_true rfl) rfl (fun x hx hf hn => ?_)
  refine zz_aload_n hx dX3_memberAt_0 rfl ?_
  refine zz_iload_n hx dX3_memberAt_1 rfl ?_
  refine zz_callVv hx me_X3_requireRecord lk_X3_196 (k_X3_requireRecord hst hI _ (by omega)) 0 rfl rfl ⟨rfl, rfl⟩ (by decide) (by decide) rfl rfl (Nat.le_of_ble_eq_true rfl) dX3_memberAt_2 (fun E9 w9 hX => by obtain ⟨rfl, rfl, hX⟩ := hX; exact zz_out hx hf hn ⟨rfl, rfl, fun z9 => hX z9.1⟩ (by decide) (by decide)) (fun w2 hp2 => ?_)
  obtain ⟨rfl, hg1⟩ := hp2
  have hr9 := rAt_ne hg1
  refine zz_aload_n hx dX3_memberAt_5 rfl ?_
  refine zz_iload_n hx dX3_memberAt_6 rfl ?_
  refine zz_callVa hx me_X3_requireSet lk_X3_132 (k_X3_requireSet hst hI.1 hI.2.1 _ (by omega)) 0 rfl rfl ⟨rfl, rfl⟩ (by decide) (by decide) rfl rfl (Nat.le_of_ble_eq_true rfl) dX3_memberAt_7 (fun E9 w9 hX => by obtain ⟨rfl, rfl, hX⟩ := hX; exact zz_out hx hf hn ⟨rfl, rfl, fun z9 => hX z9.2.1⟩ (by decide) (by decide)) (fun r7 w7 hp7 => ?_)
  obtain ⟨rfl, rfl, hg2⟩ := hp7
  refine zz_eq (wD_at (s := s) (by omega) (by omega)) rfl ?_
  have hs9 := hS s hg2.1 hg2.2
  refine zz_astore (lv' := [(0, _), (1, _), (2, _), (3, _), (4, _)]) hx dX3_memberAt_10 (by decide) rfl ?_
  refine zz_aload hx dX3_memberAt_12 rfl ?_
  refine zz_iload_n hx dX3_memberAt_14 rfl ?_
  refine zz_callVi hx me_X2_owns lk_X3_175 (k_X2_owns hst hs9.1 r (by omega)) _ (sW_at 0) rfl ⟨rfl, rfl⟩ (by decide) (by decide) rfl rfl (Nat.le_of_ble_eq_true rfl) dX3_memberAt_15 (fun _ _ h => h.elim) (fun r15 w15 hp15 => ?_)
  obtain ⟨rfl, rfl⟩ := hp15
  have ho9 := aS_own hS hg2.1 hg2.2 hr9.1 hr9.2
  refine zz_ifb_ne hx 31 dX3_memberAt_18 rfl (fun c18 => ?_) (fun c18 => ?_)
  · have hio := ho9.mp c18
    have hmf := mOf_facts hs9.2.1.1 hio
    refine zz_iload_n hx dX3_memberAt_31 rfl ?_
    refine zz_if_lt hx 45 dX3_memberAt_32 rfl (by omega) (fun c32 => ?_) (fun c32 => ?_)
    · have hnot : ((rAt 60 (Q 0) r ≠ -1) ∧ (0 ≤ s ∧ s < (N : Int)) ∧ isO s r ∧ 0 ≤ d ∧ d < ((mOf (ow s) r (L s)).length : Int)) → False := fun z9 => by have := z9.2.2.2.1; omega
      exact zz_throw hx hf hn zth_I (List.mem_of_getElem? (i := 15) rfl) dX3_memberAt_45 dX3_memberAt_48 dX3_memberAt_49 dX3_memberAt_51 dX3_memberAt_54 (by decide) (by decide) ⟨rfl, (wD_at (by omega) (by omega)).symm, fun z9 => hnot z9⟩
    · refine zz_iload_n hx dX3_memberAt_35 rfl ?_
      refine zz_aload hx dX3_memberAt_36 rfl ?_
      refine zz_iload_n hx dX3_memberAt_38 rfl ?_
      refine zz_callVi hx me_X2_countByRing lk_X3_157 (k_X2_countByRing hst hs9.1 hs9.2.1 r hio) _ (sW_at 0) rfl ⟨rfl, rfl⟩ (by decide) (by decide) rfl rfl (Nat.le_of_ble_eq_true rfl) dX3_memberAt_39 (fun _ _ h => h.elim) (fun r39 w39 hp39 => ?_)
      obtain ⟨rfl, rfl⟩ := hp39
      refine zz_icmp_lt hx 55 dX3_memberAt_42 rfl (by omega) (by omega) (fun c42 => ?_) (fun c42 => ?_)
      · refine zz_aload hx dX3_memberAt_55 rfl ?_
        refine zz_iload_n hx dX3_memberAt_57 rfl ?_
        refine zz_iload_n hx dX3_memberAt_58 rfl ?_
        refine zz_callVi hx me_X2_memberByPlace lk_X3_206 (k_X2_memberByPlace hst hs9.1 hs9.2.1 r d hio (by omega) (by omega)) _ (sW_at 0) rfl ⟨rfl, rfl⟩ (by decide) (by decide) rfl rfl (Nat.le_of_ble_eq_true rfl) dX3_memberAt_59 (fun _ _ h => h.elim) (fun r59 w59 hp59 => ?_)
        obtain ⟨rfl, rfl⟩ := hp59
        exact zz_iret hx hf dX3_memberAt_62 ⟨_, rfl, rfl, ⟨hg1, hg2, hio, by omega, by omega⟩, (wD_at (by omega) (by omega)).symm⟩ (by decide) (by decide)
      · have hnot : ((rAt 60 (Q 0) r ≠ -1) ∧ (0 ≤ s ∧ s < (N : Int)) ∧ isO s r ∧ 0 ≤ d ∧ d < ((mOf (ow s) r (L s)).length : Int)) → False := fun z9 => by have := z9.2.2.2.2; omega
        exact zz_throw hx hf hn zth_I (List.mem_of_getElem? (i := 15) rfl) dX3_memberAt_45 dX3_memberAt_48 dX3_memberAt_49 dX3_memberAt_51 dX3_memberAt_54 (by decide) (by decide) ⟨rfl, (wD_at (by omega) (by omega)).symm, fun z9 => hnot z9⟩
  · have hnot : ((rAt 60 (Q 0) r ≠ -1) ∧ (0 ≤ s ∧ s < (N : Int)) ∧ isO s r ∧ 0 ≤ d ∧ d < ((mOf (ow s) r (L s)).length : Int)) → False := fun z9 => c18 (ho9.mpr z9.2.2.1)
    exact zz_throw hx hf hn zth_I (List.mem_of_getElem? (i := 14) rfl) dX3_memberAt_21 dX3_memberAt_24 dX3_memberAt_25 dX3_memberAt_27 dX3_memberAt_30 (by decide) (by decide) ⟨rfl, (wD_at (by omega) (by omega)).symm, fun z9 => hnot z9⟩

set_option maxHeartbeats 4000000 in
set_option maxRecDepth 100000 in
theorem k_X3_wouldErase {l : Launch} {g : zG} {b : Nat → Nat} {c : Int → Nat → Nat} {I : Nat → Int} {Q : Nat → Int → Int} {P : Int → Nat → Int} {T : Int → Nat → Int → Int} {N : Nat} {rest : va_W} (hst : l.stackTraces = false) (hI : aI I Q N) {ow : Int → Int → Int} {isO : Int → Int → Prop} {L : Int → List Int} (hS : aS P T N ow isO L) (r : Int) (hr : -2147483648 ≤ r ∧ r < 2147483648) (y : Int) (hy : -2147483648 ≤ y ∧ y < 2147483648) : zM l g yX3_wouldErase cX3_wouldErase 3 (Option.some FieldType.int) ({ frames := 7, cells := 2, slots := 12, locals := 114 } : Room) [.ref (b 0), vi r, vi y] (wD g b c I Q P T N rest) (zI fun v w => (rAt 60 (Q 0) r ≠ -1) ∧ (0 ≤ y ∧ y ≤ 2) ∧ ((w = (wD g b c I Q P T N rest) ∧ v = -1 ∧ y = 0 ∧ ∃ s : Int, 0 ≤ s ∧ s < (N : Int) ∧ (isO s r ∧ 0 < ((mOf (ow s) r (L s)).length : Int))) ∨ ∃ (I1 : Nat → Int) (Q1 : Nat → Int → Int) (D : List Int), w = wD g b c I1 Q1 P T N rest ∧ gOK I1 Q1 D ∧ v = (D.length : Int) ∧ aF I I1 Q Q1 ∧ (y = 0 → ∀ s : Int, 0 ≤ s → s < (N : Int) → ¬ (isO s r ∧ 0 < ((mOf (ow s) r (L s)).length : Int))) ∧ gDm P ow isO L N y r D)) (fun E w1 => w1 = (wD g b c I Q P T N rest) ∧ ((E = xI ∧ ¬ (rAt 60 (Q 0) r ≠ -1)) ∨ (E = xA ∧ (rAt 60 (Q 0) r ≠ -1) ∧ ¬ (0 ≤ y ∧ y ≤ 2)))) 2 12 := by
  refine zM_of (lv0 := [(0, _), (1, _), (2, _)]) hst rfl (by decide +kernel) (Nat.le_of_ble_eq_true rfl) rfl (fun x hx hf hn => ?_)
  refine zz_aload_n hx dX3_wouldErase_0 rfl ?_
  refine zz_iload_n hx dX3_wouldErase_1 rfl ?_
  refine zz_callVv hx me_X3_requireRecord lk_X3_196 (k_X3_requireRecord hst hI _ (by omega)) 0 rfl rfl ⟨rfl, rfl⟩ (by decide) (by decide) rfl rfl (Nat.le_of_ble_eq_true rfl) dX3_wouldErase_2 (fun E9 w9 hX => by obtain ⟨rfl, rfl, hX⟩ := hX; exact zz_out hx hf hn ⟨rfl, Or.inl ⟨rfl, hX⟩⟩ (by decide) (by decide)) (fun w2 hp2 => ?_)
  obtain ⟨rfl, hg1⟩ := hp2
  have hr9 := rAt_ne hg1
  refine zz_aload_n hx dX3_wouldErase_5 rfl ?_
  refine zz_iload_n hx dX3_wouldErase_6 rfl ?_
  refine zz_callVv hx me_X3_requireWay lk_X3_119 (k_X3_requireWay hst _ (by omega)) 0 rfl rfl ⟨rfl, rfl⟩ (by decide) (by decide) rfl rfl (Nat.le_of_ble_eq_true rfl) dX3_wouldErase_7 (fun E9 w9 hX => by obtain ⟨rfl, rfl, hX⟩ := hX; exact zz_out hx hf hn ⟨rfl, Or.inr ⟨rfl, hg1, hX⟩⟩ (by decide) (by decide)) (fun w7 hp7 => ?_)
  obtain ⟨rfl, hg2⟩ := hp7
  refine zz_aload_n hx dX3_wouldErase_10 rfl ?_
  refine zz_iload_n hx dX3_wouldErase_11 rfl ?_
  refine zz_iload_n hx dX3_wouldErase_12 rfl ?_
  refine zz_callVi hx me_X3_gatherDoomed lk_X3_122 (k_X3_gatherDoomed hst hI hS r y hr9.1 hr9.2 hg2) 0 rfl rfl ⟨rfl, rfl⟩ (by decide) (by decide) rfl rfl (Nat.le_of_ble_eq_true rfl) dX3_wouldErase_13 (fun _ _ h => h.elim) (fun r13 w13 hp13 => ?_)
  exact zz_iret hx hf dX3_wouldErase_16 ⟨_, rfl, hg1, hg2, hp13⟩ (by decide) (by decide)

set_option maxHeartbeats 4000000 in
set_option maxRecDepth 100000 in
theorem k_X3_find {l : Launch} {g : zG} {b : Nat → Nat} {c : Int → Nat → Nat} {I : Nat → Int} {Q : Nat → Int → Int} {P : Int → Nat → Int} {T : Int → Nat → Int → Int} {N : Nat} {rest : va_W} (hst : l.stackTraces = false) (hI : aI I Q N) {ow : Int → Int → Int} {isO : Int → Int → Prop} {L : Int → List Int} (hS : aS P T N ow isO L) (r : Int) (hr : -2147483648 ≤ r ∧ r < 2147483648) : zM l g yX3_find cX3_find 2 (Option.some FieldType.int) ({ frames := 4, cells := 0, slots := 0, locals := 88 } : Room) [.ref (b 0), vi r] (wD g b c I Q P T N rest) (zI fun v w => mkO g b c I Q P T N rest r v w) zN 0 0 := by
  refine zM_of (lv0 := [(0, _), (1, _)]) hst rfl (by decide +kernel) (Nat.le_of_ble_eq_true rfl) rfl (fun x hx hf hn => ?_)
  refine zz_aload_n hx dX3_find_0 rfl ?_
  refine zz_iload_n hx dX3_find_1 rfl ?_
  refine zz_callVi hx me_X3_makeCurrent lk_X3_105 (k_X3_makeCurrent hst hI (aS_rR hS) r hr) 0 rfl rfl ⟨rfl, rfl⟩ (by decide) (by decide) rfl rfl (Nat.le_of_ble_eq_true rfl) dX3_find_2 (fun _ _ h => h.elim) (fun r2 w2 hp2 => ?_)
  exact zz_iret hx hf dX3_find_5 ⟨_, rfl, hp2⟩ (by decide) (by decide)

set_option maxHeartbeats 4000000 in
set_option maxRecDepth 100000 in
theorem k_X3_findOwner {l : Launch} {g : zG} {b : Nat → Nat} {c : Int → Nat → Nat} {I : Nat → Int} {Q : Nat → Int → Int} {P : Int → Nat → Int} {T : Int → Nat → Int → Int} {N : Nat} {rest : va_W} (hst : l.stackTraces = false) (hI : aI I Q N) {ow : Int → Int → Int} {isO : Int → Int → Prop} {L : Int → List Int} (hS : aS P T N ow isO L) (s : Int) (hs : -2147483648 ≤ s ∧ s < 2147483648) : zM l g yX3_findOwner cX3_findOwner 2 (Option.some FieldType.int) ({ frames := 7, cells := 1, slots := 6, locals := 103 } : Room) [.ref (b 0), vi s] (wD g b c I Q P T N rest) (zI fun v w => (0 ≤ s ∧ s < (N : Int)) ∧ mkO g b c I Q P T N rest (rAt 60 (T s 5) (P s 8)) v w) (fun E w1 => E = xI ∧ w1 = (wD g b c I Q P T N rest) ∧ ¬ (0 ≤ s ∧ s < (N : Int))) 1 6 := by
  refine zM_of (lv0 := [(0, _), (1, _)]) hst rfl (by decide +kernel) (Nat.le_of_ble_eq_true rfl) rfl (fun x hx hf hn => ?_)
  refine zz_aload_n hx dX3_findOwner_0 rfl ?_
  refine zz_aload_n hx dX3_findOwner_1 rfl ?_
  refine zz_iload_n hx dX3_findOwner_2 rfl ?_
  refine zz_callVa hx me_X3_requireSet lk_X3_132 (k_X3_requireSet hst hI.1 hI.2.1 _ (by omega)) 0 rfl rfl ⟨rfl, rfl⟩ (by decide) (by decide) rfl rfl (Nat.le_of_ble_eq_true rfl) dX3_findOwner_3 (fun E9 w9 hX => by obtain ⟨rfl, rfl, hX⟩ := hX; exact zz_out hx hf hn ⟨rfl, rfl, hX⟩ (by decide) (by decide)) (fun r3 w3 hp3 => ?_)
  obtain ⟨rfl, rfl, hg2⟩ := hp3
  refine zz_eq (wD_at (s := s) (by omega) (by omega)) rfl ?_
  have hs9 := hS s hg2.1 hg2.2
  refine zz_callVi hx me_X2_currentOwner lk_X3_146 (k_X2_currentOwner hst hs9.2.2.2.2.2.2.2.2) _ (sW_at 0) rfl ⟨rfl, rfl⟩ (by decide) (by decide) rfl rfl (Nat.le_of_ble_eq_true rfl) dX3_findOwner_6 (fun _ _ h => h.elim) (fun r6 w6 hp6 => ?_)
  obtain ⟨rfl, rfl⟩ := hp6
  have hq9 := rAt_rng hs9.1 5 (P s 8)
  refine zz_eq (wD_at (by omega) (by omega)).symm rfl ?_
  refine zz_callVi hx me_X3_makeCurrent lk_X3_105 (k_X3_makeCurrent hst hI (aS_rR hS) _ (by omega)) 0 rfl rfl ⟨rfl, rfl⟩ (by decide) (by decide) rfl rfl (Nat.le_of_ble_eq_true rfl) dX3_findOwner_9 (fun _ _ h => h.elim) (fun r9 w9 hp9 => ?_)
  exact zz_iret hx hf dX3_findOwner_12 ⟨_, rfl, hg2, hp9⟩ (by decide) (by decide)

set_option maxHeartbeats 4000000 in
set_option maxRecDepth 100000 in
theorem k_X3_findEnd {l : Launch} {g : zG} {b : Nat → Nat} {c : Int → Nat → Nat} {I : Nat → Int} {Q : Nat → Int → Int} {P : Int → Nat → Int} {T : Int → Nat → Int → Int} {N : Nat} {rest : va_W} (hst : l.stackTraces = false) (hI : aI I Q N) {ow : Int → Int → Int} {isO : Int → Int → Prop} {L : Int → List Int} (hS : aS P T N ow isO L) (s : Int) (hs : -2147483648 ≤ s ∧ s < 2147483648) (z : Int) (hz : z = 0 ∨ z = 1) : zM l g yX3_findEnd cX3_findEnd 4 (Option.some FieldType.int) ({ frames := 7, cells := 1, slots := 6, locals := 103 } : Room) [.ref (b 0), vi s, vi z] (wD g b c I Q P T N rest) (zI fun v w => (0 ≤ s ∧ s < (N : Int)) ∧ mkO g b c I Q P T N rest (nbC (T s) z (rAt 60 (T s 5) (P s 8))) v w) (fun E w1 => E = xI ∧ w1 = (wD g b c I Q P T N rest) ∧ ¬ (0 ≤ s ∧ s < (N : Int))) 1 6 := by
  refine zM_of (lv0 := [(0, _), (1, _), (2, _)]) hst rfl (by decide +kernel) (Nat.le_of_ble_eq_true rfl) rfl (fun x hx hf hn => ?_)
  refine zz_aload_n hx dX3_findEnd_0 rfl ?_
  refine zz_iload_n hx dX3_findEnd_1 rfl ?_
  refine zz_callVa hx me_X3_requireSet lk_X3_132 (k_X3_requireSet hst hI.1 hI.2.1 _ (by omega)) 0 rfl rfl ⟨rfl, rfl⟩ (by decide) (by decide) rfl rfl (Nat.le_of_ble_eq_true rfl) dX3_findEnd_2 (fun E9 w9 hX => by obtain ⟨rfl, rfl, hX⟩ := hX; exact zz_out hx hf hn ⟨rfl, rfl, hX⟩ (by decide) (by decide)) (fun r2 w2 hp2 => ?_)
  obtain ⟨rfl, rfl, hg2⟩ := hp2
  refine zz_eq (wD_at (s := s) (by omega) (by omega)) rfl ?_
  have hs9 := hS s hg2.1 hg2.2
  refine zz_astore_n (lv' := [(0, _), (1, _), (2, _), (3, _)]) hx dX3_findEnd_5 (by decide) rfl ?_
  refine zz_aload_n hx dX3_findEnd_6 rfl ?_
  refine zz_aload_n hx dX3_findEnd_7 rfl ?_
  refine zz_aload_n hx dX3_findEnd_8 rfl ?_
  refine zz_callVi hx me_X2_currentOwner lk_X3_146 (k_X2_currentOwner hst hs9.2.2.2.2.2.2.2.2) _ (sW_at 0) rfl ⟨rfl, rfl⟩ (by decide) (by decide) rfl rfl (Nat.le_of_ble_eq_true rfl) dX3_findEnd_9 (fun _ _ h => h.elim) (fun r9 w9 hp9 => ?_)
  obtain ⟨rfl, rfl⟩ := hp9
  have hq9 := rAt_rng hs9.1 5 (P s 8)
  refine zz_iload_n hx dX3_findEnd_12 rfl ?_
  refine zz_callVi hx me_X2_neighbour lk_X3_188 (k_X2_neighbour hst hs9.1 hs9.2.1 _ z hq9 hz) _ (sW_at 0) rfl ⟨rfl, rfl⟩ (by decide) (by decide) rfl rfl (Nat.le_of_ble_eq_true rfl) dX3_findEnd_13 (fun _ _ h => h.elim) (fun r13 w13 hp13 => ?_)
  obtain ⟨rfl, rfl⟩ := hp13
  have hn9 := nbC_rng hs9.1 z (rAt 60 (T s 5) (P s 8))
  unfold nbC at hn9
  refine zz_eq (wD_at (by omega) (by omega)).symm rfl ?_
  refine zz_callVi hx me_X3_makeCurrent lk_X3_105 (k_X3_makeCurrent hst hI (aS_rR hS) _ (by omega)) 0 rfl rfl ⟨rfl, rfl⟩ (by decide) (by decide) rfl rfl (Nat.le_of_ble_eq_true rfl) dX3_findEnd_16 (fun _ _ h => h.elim) (fun r16 w16 hp16 => ?_)
  exact zz_iret hx hf dX3_findEnd_19 ⟨_, rfl, hg2, hp16⟩ (by decide) (by decide)

set_option maxHeartbeats 4000000 in
set_option maxRecDepth 100000 in
theorem k_X3_findNext {l : Launch} {g : zG} {b : Nat → Nat} {c : Int → Nat → Nat} {I : Nat → Int} {Q : Nat → Int → Int} {P : Int → Nat → Int} {T : Int → Nat → Int → Int} {N : Nat} {rest : va_W} (hst : l.stackTraces = false) (hI : aI I Q N) {ow : Int → Int → Int} {isO : Int → Int → Prop} {L : Int → List Int} (hS : aS P T N ow isO L) (s : Int) (hs : -2147483648 ≤ s ∧ s < 2147483648) (z : Int) (hz : z = 0 ∨ z = 1) : zM l g yX3_findNext cX3_findNext 4 (Option.some FieldType.int) ({ frames := 7, cells := 1, slots := 6, locals := 103 } : Room) [.ref (b 0), vi s, vi z] (wD g b c I Q P T N rest) (zI fun v w => (0 ≤ s ∧ s < (N : Int)) ∧ mkO g b c I Q P T N rest (nbC (T s) z (P s 8)) v w) (fun E w1 => E = xI ∧ w1 = (wD g b c I Q P T N rest) ∧ ¬ (0 ≤ s ∧ s < (N : Int))) 1 6 := by
  refine zM_of (lv0 := [(0, _), (1, _), (2, _)]) hst rfl (by decide +kernel) (Nat.le_of_ble_eq_true rfl) rfl (fun x hx hf hn => ?_)
  refine zz_aload_n hx dX3_findNext_0 rfl ?_
  refine zz_iload_n hx dX3_findNext_1 rfl ?_
  refine zz_callVa hx me_X3_requireSet lk_X3_132 (k_X3_requireSet hst hI.1 hI.2.1 _ (by omega)) 0 rfl rfl ⟨rfl, rfl⟩ (by decide) (by decide) rfl rfl (Nat.le_of_ble_eq_true rfl) dX3_findNext_2 (fun E9 w9 hX => by obtain ⟨rfl, rfl, hX⟩ := hX; exact zz_out hx hf hn ⟨rfl, rfl, hX⟩ (by decide) (by decide)) (fun r2 w2 hp2 => ?_)
  obtain ⟨rfl, rfl, hg2⟩ := hp2
  refine zz_eq (wD_at (s := s) (by omega) (by omega)) rfl ?_
  have hs9 := hS s hg2.1 hg2.2
  refine zz_astore_n (lv' := [(0, _), (1, _), (2, _), (3, _)]) hx dX3_findNext_5 (by decide) rfl ?_
  refine zz_aload_n hx dX3_findNext_6 rfl ?_
  refine zz_aload_n hx dX3_findNext_7 rfl ?_
  refine zz_aload_n hx dX3_findNext_8 rfl ?_
  refine zs_n8 hx dX3_findNext_9 ?_
  refine zz_iload_n hx dX3_findNext_12 rfl ?_
  refine zz_callVi hx me_X2_neighbour lk_X3_188 (k_X2_neighbour hst hs9.1 hs9.2.1 _ z hs9.2.2.2.2.2.2.2.2 hz) _ (sW_at 0) rfl ⟨rfl, rfl⟩ (by decide) (by decide) rfl rfl (Nat.le_of_ble_eq_true rfl) dX3_findNext_13 (fun _ _ h => h.elim) (fun r13 w13 hp13 => ?_)
  obtain ⟨rfl, rfl⟩ := hp13
  have hn9 := nbC_rng hs9.1 z (P s 8)
  unfold nbC at hn9
  refine zz_eq (wD_at (by omega) (by omega)).symm rfl ?_
  refine zz_callVi hx me_X3_makeCurrent lk_X3_105 (k_X3_makeCurrent hst hI (aS_rR hS) _ (by omega)) 0 rfl rfl ⟨rfl, rfl⟩ (by decide) (by decide) rfl rfl (Nat.le_of_ble_eq_true rfl) dX3_findNext_16 (fun _ _ h => h.elim) (fun r16 w16 hp16 => ?_)
  exact zz_iret hx hf dX3_findNext_19 ⟨_, rfl, hg2, hp16⟩ (by decide) (by decide)

set_option maxHeartbeats 4000000 in
set_option maxRecDepth 100000 in
theorem k_X3_findValue {l : Launch} {g : zG} {b : Nat → Nat} {c : Int → Nat → Nat} {I : Nat → Int} {Q : Nat → Int → Int} {P : Int → Nat → Int} {T : Int → Nat → Int → Int} {N : Nat} {rest : va_W} (hst : l.stackTraces = false) (hI : aI I Q N) {ow : Int → Int → Int} {isO : Int → Int → Prop} {L : Int → List Int} (hS : aS P T N ow isO L) (s : Int) (hs : -2147483648 ≤ s ∧ s < 2147483648) (z : Int) (hz : -2147483648 ≤ z ∧ z < 2147483648) : zM l g yX3_findValue cX3_findValue 4 (Option.some FieldType.int) ({ frames := 7, cells := 1, slots := 6, locals := 103 } : Room) [.ref (b 0), vi s, vi z] (wD g b c I Q P T N rest) (zI fun v w => (0 ≤ s ∧ s < (N : Int)) ∧ ∃ f : Int, ((((rAt 60 (T s 5) (P s 8)) = -1 → f = -1) ∧ ((rAt 60 (T s 5) (P s 8)) ≠ -1 → (f = -1 ∧ ∀ k : Int, 0 ≤ k → k < ((mOf (ow s) (rAt 60 (T s 5) (P s 8)) (L s)).length : Int) → Q 1 (zat (mOf (ow s) (rAt 60 (T s 5) (P s 8)) (L s)) k) ≠ z) ∨ ∃ k : Int, 0 ≤ k ∧ k < ((mOf (ow s) (rAt 60 (T s 5) (P s 8)) (L s)).length : Int) ∧ f = zat (mOf (ow s) (rAt 60 (T s 5) (P s 8)) (L s)) k ∧ Q 1 f = z ∧ ∀ j : Int, 0 ≤ j → j < k → Q 1 (zat (mOf (ow s) (rAt 60 (T s 5) (P s 8)) (L s)) j) ≠ z))) ∧ mkO g b c I Q P T N rest f v w) (fun E w1 => E = xI ∧ w1 = (wD g b c I Q P T N rest) ∧ ¬ (0 ≤ s ∧ s < (N : Int))) 1 6 := by
  refine zM_of (lv0 := [(0, _), (1, _), (2, _)]) hst rfl (by decide +kernel) (Nat.le_of_ble_eq_true rfl) rfl (fun x hx hf hn => ?_)
  refine zz_aload_n hx dX3_findValue_0 rfl ?_
  refine zz_iload_n hx dX3_findValue_1 rfl ?_
  refine zz_callVa hx me_X3_requireSet lk_X3_132 (k_X3_requireSet hst hI.1 hI.2.1 _ (by omega)) 0 rfl rfl ⟨rfl, rfl⟩ (by decide) (by decide) rfl rfl (Nat.le_of_ble_eq_true rfl) dX3_findValue_2 (fun E9 w9 hX => by obtain ⟨rfl, rfl, hX⟩ := hX; exact zz_out hx hf hn ⟨rfl, rfl, hX⟩ (by decide) (by decide)) (fun r2 w2 hp2 => ?_)
  obtain ⟨rfl, rfl, hg2⟩ := hp2
  refine zz_eq (wD_at (s := s) (by omega) (by omega)) rfl ?_
  have hs9 := hS s hg2.1 hg2.2
  refine zz_astore_n (lv' := [(0, _), (1, _), (2, _), (3, _)]) hx dX3_findValue_5 (by decide) rfl ?_
  refine zz_aload_n hx dX3_findValue_6 rfl ?_
  refine zz_aload_n hx dX3_findValue_7 rfl ?_
  refine zz_aload_n hx dX3_findValue_8 rfl ?_
  refine zz_callVi hx me_X2_currentOwner lk_X3_146 (k_X2_currentOwner hst hs9.2.2.2.2.2.2.2.2) _ (sW_at 0) rfl ⟨rfl, rfl⟩ (by decide) (by decide) rfl rfl (Nat.le_of_ble_eq_true rfl) dX3_findValue_9 (fun _ _ h => h.elim) (fun r9 w9 hp9 => ?_)
  obtain ⟨rfl, rfl⟩ := hp9
  have hq9 := rAt_rng hs9.1 5 (P s 8)
  have hio := cur_isO hs9.2.1 (P s 8)
  refine zz_iload_n hx dX3_findValue_12 rfl ?_
  refine zz_aload_n hx dX3_findValue_13 rfl ?_
  refine zd_g2 hx lf_X3_25 dX3_findValue_14 ?_
  refine zz_callVi hx me_X2_firstWithValue lk_X3_192 (k_X2_firstWithValue hst hs9.1 hs9.2.1 (fun u hu => hI.2.2.2.2.1 u ((hs9.2.1.1.2.2.1 u).mp hu).1 ((hs9.2.1.1.2.2.1 u).mp hu).2.1) _ hio z hz) _ (sW_at 0) rfl ⟨rfl, rfl⟩ (by decide) (by decide) rfl rfl (Nat.le_of_ble_eq_true rfl) dX3_findValue_17 (fun _ _ h => h.elim) (fun r17 w17 hp17 => ?_)
  obtain ⟨rfl, hv1, hv2⟩ := hp17
  have hfr : -1 ≤ r17 ∧ r17 < 60 := by
    rcases Decidable.em ((rAt 60 (T s 5) (P s 8)) = -1) with z9 | z9
    · have := hv1 z9; omega
    · rcases hv2 z9 with ⟨y9, _⟩ | ⟨k9, k0, k1, y9, _⟩
      · omega
      · have hm9 := zat_mem k0 k1
        rw [← y9] at hm9
        have := (hs9.2.1.1.2.2.1 r17).mp (mOf_mem.mp hm9).1
        omega
  refine zz_eq (wD_at (by omega) (by omega)).symm rfl ?_
  refine zz_callVi hx me_X3_makeCurrent lk_X3_105 (k_X3_makeCurrent hst hI (aS_rR hS) _ (by omega)) 0 rfl rfl ⟨rfl, rfl⟩ (by decide) (by decide) rfl rfl (Nat.le_of_ble_eq_true rfl) dX3_findValue_20 (fun _ _ h => h.elim) (fun r20 w20 hp20 => ?_)
  exact zz_iret hx hf dX3_findValue_23 ⟨_, rfl, hg2, r17, ⟨hv1, hv2⟩, hp20⟩ (by decide) (by decide)

set_option maxHeartbeats 4000000 in
set_option maxRecDepth 100000 in
theorem k_X3_findOf {l : Launch} {g : zG} {b : Nat → Nat} {c : Int → Nat → Nat} {I : Nat → Int} {Q : Nat → Int → Int} {P : Int → Nat → Int} {T : Int → Nat → Int → Int} {N : Nat} {rest : va_W} (hst : l.stackTraces = false) (hI : aI I Q N) {ow : Int → Int → Int} {isO : Int → Int → Prop} {L : Int → List Int} (hS : aS P T N ow isO L) (t : Int) (ht : -2147483648 ≤ t ∧ t < 2147483648) (z : Int) (hz : z = 0 ∨ z = 1) : zM l g yX3_findOf cX3_findOf 5 (Option.some FieldType.int) ({ frames := 7, cells := 1, slots := 6, locals := 103 } : Room) [.ref (b 0), vi t, vi z] (wD g b c I Q P T N rest) (zI fun v w => (0 ≤ t ∧ t ≤ 3) ∧ ((v = -1 ∧ w = (wD g b c I Q P T N rest) ∧ ∀ j : Int, (if z ≠ 0 then 0 else Q 2 t + 1) ≤ j → j < I 0 → Q 0 j ≠ t) ∨ (((if z ≠ 0 then 0 else Q 2 t + 1) ≤ v ∧ v < I 0) ∧ Q 0 v = t ∧ (∀ j : Int, (if z ≠ 0 then 0 else Q 2 t + 1) ≤ j → j < v → Q 0 j ≠ t) ∧ mkO g b c I Q P T N rest v v w))) (fun E w1 => E = xA ∧ w1 = (wD g b c I Q P T N rest) ∧ ¬ (0 ≤ t ∧ t ≤ 3)) 1 6 := by
  have hi0 := hI.2.2.2.2.2.2.1
  refine zM_of (lv0 := [(0, _), (1, _), (2, _)]) hst rfl (by decide +kernel) (Nat.le_of_ble_eq_true rfl) rfl (fun x hx hf hn => ?_)
  have loop : (0 ≤ t ∧ t ≤ 3) → ∀ (n : Nat) (a0 k : Int), a0 = (if z ≠ 0 then 0 else Q 2 t + 1) → 0 ≤ a0 → a0 ≤ k → k ≤ 60 → (∀ j : Int, a0 ≤ j → j < k → Q 0 j ≠ t) → (60 - k).toNat < n → Z l g ({ frames := 7, cells := 1, slots := 6, locals := 103 } : Room) 5 x (0 + 1) (0 + 6) (wD g b c I Q P T N rest) 27 [(0, .ref (b 0)), (1, vi t), (2, vi z), (3, vi a0), (4, vi k)] [] := by
    intro hg1 n
    induction n with
    | zero => intro a0 k ha a1 h0 h1 h2 hm; omega
    | succ n ih =>
      intro a0 k ha a1 h0 h1 h2 hm
      refine zz_iload hx dX3_findOf_27 rfl ?_
      refine zz_aload_n hx dX3_findOf_29 rfl ?_
      refine zd_g5 hx lf_X3_38 dX3_findOf_30 ?_
      refine zz_icmp_ge hx 62 dX3_findOf_33 rfl (by omega) (by omega) (fun c33 => ?_) (fun c33 => ?_)
      · refine zz_iconst hx dX3_findOf_62 ?_
        exact zz_iret hx hf dX3_findOf_63 ⟨_, rfl, hg1, Or.inl ⟨rfl, rfl, fun j j0 j1 => h2 j (by rw [ha]; exact j0) (by omega)⟩⟩ (by decide) (by decide)
      · have hq0 := hI.2.2.2.1 k (by omega) (by omega)
        refine zz_aload_n hx dX3_findOf_36 rfl ?_
        refine zd_g1 hx lf_X3_21 dX3_findOf_37 ?_
        refine zz_iload hx dX3_findOf_40 rfl ?_
        refine zd_at0 hx hst lk_X3_112 (by decide) (by decide) (by omega) (Nat.le_of_ble_eq_true rfl) dX3_findOf_42 ?_
        rw [rAt_in (by omega) (by omega)]
        refine zz_iload_n hx dX3_findOf_45 rfl ?_
        refine zz_icmp_ne hx 56 dX3_findOf_46 rfl (by omega) (by omega) (fun c46 => ?_) (fun c46 => ?_)
        · refine zz_iinc (lv' := [(0, _), (1, _), (2, _), (3, _), (4, _)]) hx dX3_findOf_56 (by decide) rfl rfl ?_
          refine zz_goto hx 27 dX3_findOf_59 rfl ?_
          exact ih a0 (k + 1) ha a1 (by omega) (by omega) (fun j j0 j1 => by by_cases e9 : j = k; rw [e9]; omega; exact h2 j j0 (by omega)) (by omega)
        · refine zz_aload_n hx dX3_findOf_49 rfl ?_
          refine zz_iload hx dX3_findOf_50 rfl ?_
          refine zz_callVi hx me_X3_makeCurrent lk_X3_105 (k_X3_makeCurrent hst hI (aS_rR hS) k (by omega)) 0 rfl rfl ⟨rfl, rfl⟩ (by decide) (by decide) rfl rfl (Nat.le_of_ble_eq_true rfl) dX3_findOf_52 (fun _ _ h => h.elim) (fun r52 w52 hp52 => ?_)
          have hmk : mkO g b c I Q P T N rest k r52 w52 := hp52
          have hrk : r52 = k := by
            rcases hp52 with z9 | z9
            · have z8 := z9.1
              rw [rAt_in (by omega) (by omega)] at z8
              omega
            · exact z9.2.1
          subst hrk
          exact zz_iret hx hf dX3_findOf_55 ⟨_, rfl, hg1, Or.inr ⟨⟨by rw [← ha]; exact h0, by omega⟩, by omega, fun j j0 j1 => h2 j (by rw [ha]; exact j0) j1, hmk⟩⟩ (by decide) (by decide)
  refine zz_aload_n hx dX3_findOf_0 rfl ?_
  refine zz_iload_n hx dX3_findOf_1 rfl ?_
  refine zz_callVv hx me_X3_requireType lk_X3_48 (k_X3_requireType hst _ (by omega)) 0 rfl rfl ⟨rfl, rfl⟩ (by decide) (by decide) rfl rfl (Nat.le_of_ble_eq_true rfl) dX3_findOf_2 (fun E9 w9 hX => by obtain ⟨rfl, rfl, hX⟩ := hX; exact zz_out hx hf hn ⟨rfl, rfl, hX⟩ (by decide) (by decide)) (fun w2 hp2 => ?_)
  obtain ⟨rfl, hg1⟩ := hp2
  have hq2 := hI.2.2.2.2.2.1 t (by omega) (by omega)
  refine zz_iload_n hx dX3_findOf_5 rfl ?_
  refine zz_if_eq hx 13 dX3_findOf_6 rfl (by omega) (fun c6 => ?_) (fun c6 => ?_)
  · refine zz_aload_n hx dX3_findOf_13 rfl ?_
    refine zd_g3 hx lf_X3_28 dX3_findOf_14 ?_
    refine zz_iload_n hx dX3_findOf_17 rfl ?_
    refine zd_at2 hx hst lk_X3_112 (by decide) (by decide) (by omega) (Nat.le_of_ble_eq_true rfl) dX3_findOf_18 ?_
    rw [rAt_in (by omega) (by omega)]
    refine zz_iconst hx dX3_findOf_21 ?_
    refine zz_iadd hx dX3_findOf_22 ?_
    refine zz_istore_n (lv' := [(0, _), (1, _), (2, _), (3, _)]) hx dX3_findOf_23 (by decide) rfl ?_
    refine zz_iload_n hx dX3_findOf_24 rfl ?_
    refine zz_istore (lv' := [(0, _), (1, _), (2, _), (3, _), (4, _)]) hx dX3_findOf_25 (by decide) rfl ?_
    first
      | exact loop hg1 61 0 0 (by rw [if_pos (by omega)]) (by omega) (by omega) (by omega) (fun j j0 j1 => by omega) (by omega)
      | exact loop hg1 61 (Q 2 t + 1) (Q 2 t + 1) (by rw [if_neg (by omega)]) (by omega) (by omega) (by omega) (fun j j0 j1 => by omega) (by omega)
  · refine zz_iconst hx dX3_findOf_9 ?_
    refine zz_goto hx 23 dX3_findOf_10 rfl ?_
    refine zz_istore_n (lv' := [(0, _), (1, _), (2, _), (3, _)]) hx dX3_findOf_23 (by decide) rfl ?_
    refine zz_iload_n hx dX3_findOf_24 rfl ?_
    refine zz_istore (lv' := [(0, _), (1, _), (2, _), (3, _), (4, _)]) hx dX3_findOf_25 (by decide) rfl ?_
    first
      | exact loop hg1 61 0 0 (by rw [if_pos (by omega)]) (by omega) (by omega) (by omega) (fun j j0 j1 => by omega) (by omega)
      | exact loop hg1 61 (Q 2 t + 1) (Q 2 t + 1) (by rw [if_neg (by omega)]) (by omega) (by omega) (by omega) (fun j j0 j1 => by omega) (by omega)
