set_option maxHeartbeats 4000000 in
set_option maxRecDepth 100000 in
theorem k_X2_insert {l : Launch} {g : zG} {b c : Nat → Nat} {I P : Nat → Int} {Q T : Nat → Int → Int} {pre post : va_W} {r q : Int} (hst : l.stackTraces = false) {ow : Int → Int} {isO : Int → Prop} {L : List Int} (hrr : rR T) (hk : rOK T ow isO L) (hv1 : ∀ u : Int, u ∈ L ∨ u = r → -1000 ≤ Q 1 u ∧ Q 1 u ≤ 1000) (hqo : isO q) (hrn : r ∉ L) (r0 : 0 ≤ r) (r1 : r < 60) (hro : ¬ isO r) (h2 : 0 ≤ P 2 ∧ P 2 ≤ 4) (h8 : -1 ≤ P 8 ∧ P 8 < 60) : zM l g yX2_insert cX2_insert 6 (Option.none : Option FieldType) ({ frames := 3, cells := 0, slots := 0, locals := 71 } : Room) [.ref (c 0), vi r, vi q, .ref (b 4)] (sW g b I Q pre c P T post) (zV fun w => ∃ (T1 : Nat → Int → Int) (j : Int), w = sW g b I Q pre c P T1 post ∧ (0 ≤ j ∧ j ≤ ((mOf ow q L).length : Int)) ∧ fPl (P 8) (P 2) (Q 1) ow r q L j ∧ insT T T1 ow L r q j) zN 0 0 := by
  have hq := hk.1.1 q hqo
  have hmf := mOf_facts hk.1 hqo
  have hln := hk.2.2 q hqo
  have hsr := sq_rng hk.1 hqo
  have hvr := hv1 r (Or.inr rfl)
  refine zM_of (lv0 := [(0, _), (1, _), (2, _), (3, _)]) hst rfl (by decide +kernel) (Nat.le_of_ble_eq_true rfl) rfl (fun x hx hf hn => ?_)
  refine zz_aload_n hx dX2_insert_0 rfl ?_
  refine zz_iload_n hx dX2_insert_1 rfl ?_
  refine zz_aload_n hx dX2_insert_2 rfl ?_
  refine zz_iload_n hx dX2_insert_3 rfl ?_
  refine zv_at1 hx hst lk_X2_46 (by decide) (by decide) (by omega) (Nat.le_of_ble_eq_true rfl) dX2_insert_4 ?_
  rw [rAt_in (by omega) (by omega)]
  refine zz_aload_n hx dX2_insert_7 rfl ?_
  refine zz_callVi hx me_X2_frontFor lk_X2_69 (k_X2_frontFor hst hrr hk (fun u hu => hv1 u (Or.inl hu)) q (Q 1 r) r hqo rfl hvr h2 h8) (pre.length + 0 + 13) (sW_at 0) rfl ⟨rfl, rfl⟩ (by decide) (by decide) rfl rfl (Nat.le_of_ble_eq_true rfl) dX2_insert_8 (fun _ _ h => h.elim) (fun r8 w8 hp8 => ?_)
  obtain ⟨rfl, j, j1, j2, rfl⟩ := hp8
  have hs1 := hsr (j - 1)
  have hs2 := hsr j
  refine zz_istore (lv' := [(0, _), (1, _), (2, _), (3, _), (4, _)]) hx dX2_insert_11 (by decide) rfl ?_
  refine zz_aload_n hx dX2_insert_13 rfl ?_
  refine zs_g6 hx lf_X2_20 dX2_insert_14 ?_
  refine zz_iload hx dX2_insert_17 rfl ?_
  refine zs_at6 hx hst lk_X2_46 (by decide) (by decide) (by omega) (Nat.le_of_ble_eq_true rfl) dX2_insert_19 ?_
  rw [rAt_in (by omega) (by omega)]
  rw [show T 6 (sq q (mOf ow q L) (j - 1)) = sq q (mOf ow q L) j by have := (hln (j - 1) (by omega) (by omega)).1; rwa [show j - 1 + 1 = j by omega] at this]
  refine zz_istore (lv' := [(0, _), (1, _), (2, _), (3, _), (4, _), (5, _)]) hx dX2_insert_22 (by decide) rfl ?_
  refine zz_aload_n hx dX2_insert_24 rfl ?_
  refine zz_iload hx dX2_insert_25 rfl ?_
  refine zz_iload_n hx dX2_insert_27 rfl ?_
  refine zz_callVv hx me_X2_link lk_X2_54 (k_X2_link hst _ _ (by omega) (by omega)) (pre.length + 0 + 13) (sW_at 0) rfl ⟨rfl, rfl⟩ (by decide) (by decide) rfl rfl (Nat.le_of_ble_eq_true rfl) dX2_insert_28 (fun _ _ h => h.elim) (fun w28 hp28 => ?_)
  obtain rfl := hp28
  refine zz_aload_n hx dX2_insert_31 rfl ?_
  refine zz_iload_n hx dX2_insert_32 rfl ?_
  refine zz_iload hx dX2_insert_33 rfl ?_
  refine zz_callVv hx me_X2_link lk_X2_54 (k_X2_link hst _ _ (by omega) (by omega)) (pre.length + 0 + 13) (sW_at 0) rfl ⟨rfl, rfl⟩ (by decide) (by decide) rfl rfl (Nat.le_of_ble_eq_true rfl) dX2_insert_35 (fun _ _ h => h.elim) (fun w35 hp35 => ?_)
  obtain rfl := hp35
  refine zz_aload_n hx dX2_insert_38 rfl ?_
  refine zs_g5 hx lf_X2_14 dX2_insert_39 ?_
  refine zz_iload_n hx dX2_insert_42 rfl ?_
  refine zz_iload_n hx dX2_insert_43 rfl ?_
  refine zs_put5 hx hst lk_X2_50 (by decide) (by decide) (by omega) (Nat.le_of_ble_eq_true rfl) dX2_insert_44 ?_
  rw [rUp_in (by omega) (by omega)]
  have hR1 : rR (Gset (Gset T 6 (zup (T 6) (sq q (mOf ow q L) (j - 1)) r)) 7 (zup (T 7) r (sq q (mOf ow q L) (j - 1)))) := by
    have h1 := rR_up hrr (k := 6) (i := sq q (mOf ow q L) (j - 1)) (v := r) (by omega)
    exact rR_up h1 (k := 7) (i := r) (v := sq q (mOf ow q L) (j - 1)) (by omega)
  have hR2 := rR_up hR1 (k := 6) (i := r) (v := sq q (mOf ow q L) j) (by omega)
  have hR2b := rR_up hR2 (k := 7) (i := sq q (mOf ow q L) j) (v := r) (by omega)
  have hR3 := rR_up hR2b (k := 5) (i := r) (v := q) (by omega)
  exact zz_vret hx hf dX2_insert_47 ⟨rfl, _, j, rfl, j1, j2, by simp [Gset], by simp [Gset], by simp [Gset], hR3⟩ (by decide) (by decide)

set_option maxHeartbeats 4000000 in
set_option maxRecDepth 100000 in
theorem k_X2_takeOut {l : Launch} {g : zG} {b c : Nat → Nat} {I P : Nat → Int} {Q T : Nat → Int → Int} {pre post : va_W} (hst : l.stackTraces = false) {ow : Int → Int} {isO : Int → Prop} {L : List Int} (hrr : rR T) (hk : rOK T ow isO L) (r : Int) (hr : r ∈ L) : zM l g yX2_takeOut cX2_takeOut 2 (Option.none : Option FieldType) ({ frames := 2, cells := 0, slots := 0, locals := 44 } : Room) [.ref (c 0), vi r] (sW g b I Q pre c P T post) (zV fun w => ∃ T1 : Nat → Int → Int, w = sW g b I Q pre c P T1 post ∧ outT T T1 r) zN 0 0 := by
  have hno := rC_no hk.1 hr
  have hsr := sq_rng hk.1 (hk.1.2.2.2 r hr)
  obtain ⟨p, p0, p1, hp, n6, n7⟩ := ring_nb hk hr
  have hs6 : 0 ≤ T 6 r ∧ T 6 r < 60 := by rw [n6]; exact hsr _
  have hs7 : 0 ≤ T 7 r ∧ T 7 r < 60 := by rw [n7]; exact hsr _
  refine zM_of (lv0 := [(0, _), (1, _)]) hst rfl (by decide +kernel) (Nat.le_of_ble_eq_true rfl) rfl (fun x hx hf hn => ?_)
  refine zz_aload_n hx dX2_takeOut_0 rfl ?_
  refine zz_aload_n hx dX2_takeOut_1 rfl ?_
  refine zs_g7 hx lf_X2_23 dX2_takeOut_2 ?_
  refine zz_iload_n hx dX2_takeOut_5 rfl ?_
  refine zs_at7 hx hst lk_X2_46 (by decide) (by decide) (by omega) (Nat.le_of_ble_eq_true rfl) dX2_takeOut_6 ?_
  rw [rAt_in (by omega) (by omega)]
  refine zz_aload_n hx dX2_takeOut_9 rfl ?_
  refine zs_g6 hx lf_X2_20 dX2_takeOut_10 ?_
  refine zz_iload_n hx dX2_takeOut_13 rfl ?_
  refine zs_at6 hx hst lk_X2_46 (by decide) (by decide) (by omega) (Nat.le_of_ble_eq_true rfl) dX2_takeOut_14 ?_
  rw [rAt_in (by omega) (by omega)]
  refine zz_callVv hx me_X2_link lk_X2_54 (k_X2_link hst _ _ (by omega) (by omega)) (pre.length + 0 + 13) (sW_at 0) rfl ⟨rfl, rfl⟩ (by decide) (by decide) rfl rfl (Nat.le_of_ble_eq_true rfl) dX2_takeOut_17 (fun _ _ h => h.elim) (fun w17 hp17 => ?_)
  obtain rfl := hp17
  refine zz_aload_n hx dX2_takeOut_20 rfl ?_
  refine zs_g5 hx lf_X2_14 dX2_takeOut_21 ?_
  refine zz_iload_n hx dX2_takeOut_24 rfl ?_
  refine zz_iconst hx dX2_takeOut_25 ?_
  refine zs_put5 hx hst lk_X2_50 (by decide) (by decide) (by omega) (Nat.le_of_ble_eq_true rfl) dX2_takeOut_26 ?_
  rw [rUp_in (by omega) (by omega)]
  have hR1 := rR_up hrr (k := 6) (i := T 7 r) (v := T 6 r) (by omega)
  have hR2 : rR (Gset (Gset T 6 (zup (T 6) (T 7 r) (T 6 r))) 7 (zup (T 7) (T 6 r) (T 7 r))) := rR_up hR1 (k := 7) (i := T 6 r) (v := T 7 r) (by omega)
  have hR3 := rR_up hR2 (k := 5) (i := r) (v := -1) (by omega)
  exact zz_vret hx hf dX2_takeOut_29 ⟨rfl, _, rfl, by simp [Gset], by simp [Gset], by simp [Gset], hR3⟩ (by decide) (by decide)

set_option maxHeartbeats 4000000 in
set_option maxRecDepth 100000 in
theorem k_X2_release {l : Launch} {g : zG} {b c : Nat → Nat} {I P : Nat → Int} {Q T : Nat → Int → Int} {pre post : va_W} (hst : l.stackTraces = false) {ow : Int → Int} {isO : Int → Prop} {L : List Int} (hrr : rR T) (hk : rOK T ow isO L) (r : Int) (hr : r ∈ L) (h8 : -1 ≤ P 8 ∧ P 8 < 60) : zM l g yX2_release cX2_release 2 (Option.none : Option FieldType) ({ frames := 3, cells := 0, slots := 0, locals := 65 } : Room) [.ref (c 0), vi r] (sW g b I Q pre c P T post) (zV fun w => ∃ T1 : Nat → Int → Int, w = sW g b I Q pre c (if P 8 = r then Fup P 8 (-1) else P) T1 post ∧ outT T T1 r) zN 0 0 := by
  have hno := rC_no hk.1 hr
  refine zM_of (lv0 := [(0, _), (1, _)]) hst rfl (by decide +kernel) (Nat.le_of_ble_eq_true rfl) rfl (fun x hx hf hn => ?_)
  refine zz_aload_n hx dX2_release_0 rfl ?_
  refine zz_iload_n hx dX2_release_1 rfl ?_
  refine zz_callVv hx me_X2_takeOut lk_X2_76 (k_X2_takeOut hst hrr hk r hr) (pre.length + 0 + 13) (sW_at 0) rfl ⟨rfl, rfl⟩ (by decide) (by decide) rfl rfl (Nat.le_of_ble_eq_true rfl) dX2_release_2 (fun _ _ h => h.elim) (fun w2 hp2 => ?_)
  obtain ⟨T1, rfl, ho1⟩ := hp2
  refine zz_aload_n hx dX2_release_5 rfl ?_
  refine zs_g8 hx lf_X2_26 dX2_release_6 ?_
  refine zz_iload_n hx dX2_release_9 rfl ?_
  refine zz_icmp_ne hx 18 dX2_release_10 rfl (by omega) (by omega) (fun c10 => ?_) (fun c10 => ?_)
  · exact zz_vret hx hf dX2_release_18 ⟨rfl, T1, by first | rw [if_pos (by omega)] | rw [if_neg (by omega)], ho1⟩ (by decide) (by decide)
  · refine zz_aload_n hx dX2_release_13 rfl ?_
    refine zz_iconst hx dX2_release_14 ?_
    refine zs_p8 hx lf_X2_26 dX2_release_15 ?_
    exact zz_vret hx hf dX2_release_18 ⟨rfl, T1, by first | rw [if_pos (by omega)] | rw [if_neg (by omega)], ho1⟩ (by decide) (by decide)

set_option maxHeartbeats 4000000 in
set_option maxRecDepth 100000 in
theorem k_X2_sortAnew {l : Launch} {g : zG} {b c : Nat → Nat} {I P : Nat → Int} {Q T : Nat → Int → Int} {pre post : va_W} {r : Int} (hst : l.stackTraces = false) {ow : Int → Int} {isO : Int → Prop} {L : List Int} (hrr : rR T) (hk : rOK T ow isO L) (hv1 : ∀ u : Int, u ∈ L ∨ u = r → -1000 ≤ Q 1 u ∧ Q 1 u ≤ 1000) (r0 : 0 ≤ r) (r1 : r < 60) (h2 : 0 ≤ P 2 ∧ P 2 ≤ 4) (h8 : -1 ≤ P 8 ∧ P 8 < 60) : zM l g yX2_sortAnew cX2_sortAnew 4 (Option.none : Option FieldType) ({ frames := 4, cells := 0, slots := 0, locals := 96 } : Room) [.ref (c 0), vi r, .ref (b 4)] (sW g b I Q pre c P T post) (zV fun w => (¬ (P 2 = 4 ∧ r ∈ L) ∧ w = sW g b I Q pre c P T post) ∨ ((P 2 = 4 ∧ r ∈ L) ∧ ∃ (T1 T2 : Nat → Int → Int) (j : Int), w = sW g b I Q pre c P T2 post ∧ outT T T1 r ∧ fPl (P 8) (P 2) (Q 1) (zup ow r (-1)) r (ow r) (zdel L r) j ∧ (0 ≤ j ∧ j ≤ ((mOf (zup ow r (-1)) (ow r) (zdel L r)).length : Int)) ∧ insT T1 T2 (zup ow r (-1)) (zdel L r) r (ow r) j)) zN 0 0 := by
  have h5 := rOK_ring hk (r := r) r0 r1
  have hmm : (rAt 60 (T 5) r ≠ -1 ∧ rAt 60 (T 5) r ≠ r) ↔ r ∈ L := by
    rw [rAt_in r0 (by omega), hk.1.2.2.1 r]
    constructor
    · intro z9
      have := (h5.2.1 (T 5 r) z9.1).mp ⟨rfl, fun e => z9.2 e.symm⟩
      exact ⟨r0, r1, by omega⟩
    · intro z9
      have := (h5.2.1 (ow r) z9.2.2).mpr rfl
      omega
  have hmo : r ∈ L → T 5 r = ow r := fun z9 => ((h5.2.1 (ow r) (rC_no hk.1 z9).2.2.2.1).mpr rfl).1
  refine zM_of (lv0 := [(0, _), (1, _), (2, _)]) hst rfl (by decide +kernel) (Nat.le_of_ble_eq_true rfl) rfl (fun x hx hf hn => ?_)
  refine zz_aload_n hx dX2_sortAnew_0 rfl ?_
  refine zs_g2 hx lf_X2_36 dX2_sortAnew_1 ?_
  refine zz_iconst hx dX2_sortAnew_4 ?_
  refine zz_icmp_ne hx 37 dX2_sortAnew_5 rfl (by omega) (by omega) (fun c5 => ?_) (fun c5 => ?_)
  · exact zz_vret hx hf dX2_sortAnew_37 (by first | exact ⟨rfl, Or.inl ⟨fun z9 => c5 z9.1, rfl⟩⟩ | exact ⟨rfl, Or.inl ⟨fun z9 => c13 (hmm.mpr z9.2), rfl⟩⟩ | exact ⟨rfl, Or.inr ⟨⟨by omega, hr⟩, T1, T2, j, rfl, ho1, j2, j1, hi2⟩⟩) (by decide) (by decide)
  · refine zz_aload_n hx dX2_sortAnew_8 rfl ?_
    refine zz_iload_n hx dX2_sortAnew_9 rfl ?_
    refine zz_callVi hx me_X2_isMember lk_X2_79 (k_X2_isMember hst hrr r (by omega)) (pre.length + 0 + 13) (sW_at 0) rfl ⟨rfl, rfl⟩ (by decide) (by decide) rfl rfl (Nat.le_of_ble_eq_true rfl) dX2_sortAnew_10 (fun _ _ h => h.elim) (fun r10 w10 hp10 => ?_)
    obtain ⟨rfl, rfl⟩ := hp10
    refine zz_ifb_eq hx 37 dX2_sortAnew_13 rfl (fun c13 => ?_) (fun c13 => ?_)
    · exact zz_vret hx hf dX2_sortAnew_37 (by first | exact ⟨rfl, Or.inl ⟨fun z9 => c5 z9.1, rfl⟩⟩ | exact ⟨rfl, Or.inl ⟨fun z9 => c13 (hmm.mpr z9.2), rfl⟩⟩ | exact ⟨rfl, Or.inr ⟨⟨by omega, hr⟩, T1, T2, j, rfl, ho1, j2, j1, hi2⟩⟩) (by decide) (by decide)
    · have hr := hmm.mp c13
      have hno := rC_no hk.1 hr
      have hoo := hk.1.2.2.2 r hr
      refine zz_aload_n hx dX2_sortAnew_16 rfl ?_
      refine zs_g5 hx lf_X2_14 dX2_sortAnew_17 ?_
      refine zz_iload_n hx dX2_sortAnew_20 rfl ?_
      refine zs_at5 hx hst lk_X2_46 (by decide) (by decide) (by omega) (Nat.le_of_ble_eq_true rfl) dX2_sortAnew_21 ?_
      rw [rAt_in (by omega) (by omega)]
      rw [hmo hr]
      refine zz_istore_n (lv' := [(0, _), (1, _), (2, _), (3, _)]) hx dX2_sortAnew_24 (by decide) rfl ?_
      refine zz_aload_n hx dX2_sortAnew_25 rfl ?_
      refine zz_iload_n hx dX2_sortAnew_26 rfl ?_
      refine zz_callVv hx me_X2_takeOut lk_X2_76 (k_X2_takeOut hst hrr hk r hr) (pre.length + 0 + 13) (sW_at 0) rfl ⟨rfl, rfl⟩ (by decide) (by decide) rfl rfl (Nat.le_of_ble_eq_true rfl) dX2_sortAnew_27 (fun _ _ h => h.elim) (fun w27 hp27 => ?_)
      obtain ⟨T1, rfl, ho1⟩ := hp27
      have hk1 := rOK_out hk hr ho1.1 ho1.2.1 ho1.2.2.1
      refine zz_aload_n hx dX2_sortAnew_30 rfl ?_
      refine zz_iload_n hx dX2_sortAnew_31 rfl ?_
      refine zz_iload_n hx dX2_sortAnew_32 rfl ?_
      refine zz_aload_n hx dX2_sortAnew_33 rfl ?_
      refine zz_callVv hx me_X2_insert lk_X2_65 (k_X2_insert hst ho1.2.2.2 hk1 (fun u hu => hv1 u (by rcases hu with y | y; exact Or.inl (zdel_mem.mp y).1; exact Or.inr y)) hoo (fun z9 => (zdel_mem.mp z9).2 rfl) r0 r1 hno.1 h2 h8) (pre.length + 0 + 13) (sW_at 0) rfl ⟨rfl, rfl⟩ (by decide) (by decide) rfl rfl (Nat.le_of_ble_eq_true rfl) dX2_sortAnew_34 (fun _ _ h => h.elim) (fun w34 hp34 => ?_)
      obtain ⟨T2, j, rfl, j1, j2, hi2⟩ := hp34
      exact zz_vret hx hf dX2_sortAnew_37 (by first | exact ⟨rfl, Or.inl ⟨fun z9 => c5 z9.1, rfl⟩⟩ | exact ⟨rfl, Or.inl ⟨fun z9 => c13 (hmm.mpr z9.2), rfl⟩⟩ | exact ⟨rfl, Or.inr ⟨⟨by omega, hr⟩, T1, T2, j, rfl, ho1, j2, j1, hi2⟩⟩) (by decide) (by decide)
