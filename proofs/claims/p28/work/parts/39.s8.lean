/-! the database's own methods -/
abbrev xA : String := "java/lang/IllegalArgumentException"
abbrev xS : String := "java/lang/IllegalStateException"
abbrev xI : String := "java/lang/IndexOutOfBoundsException"
section ZN
variable {l : Launch} {g : zG} {R : Room} {nL : Nat} {x : zX} {k n : Nat} {pc : Nat} {lv : List (Nat × Value)} {st : List Value} {cc : ByteArray} {b c : Nat → Nat} {I P : Nat → Int} {Q T : Nat → Int → Int} {pre post rest : va_W}
theorem zs_n1 (hx : zOK l g nL x RX3 cc) (d : decode cc pc = .ok (.getfield 136, 3)) (kk : Z l g R nL x k n (sW g b I Q pre c P T post) (pc + 3) lv (vi (P 1) :: st)) : Z l g R nL x k n (sW g b I Q pre c P T post) pc lv (.ref (c 0) :: st) := zz_getN (C := RX2) (T := TX2) (N := 9) (fk := 1) (fs := [vi (P 0), vi (P 1), vi (P 2), vi (P 3), vi (P 4), .ref (c 1), .ref (c 3), .ref (c 5), vi (P 8)]) hx (by decide +kernel) (by decide) rfl fw_X2 rfl (pre.length + 0 + 13) (sW_at 0) rfl d kk
theorem zs_n4 (hx : zOK l g nL x RX3 cc) (d : decode cc pc = .ok (.getfield 164, 3)) (kk : Z l g R nL x k n (sW g b I Q pre c P T post) (pc + 3) lv (vi (P 4) :: st)) : Z l g R nL x k n (sW g b I Q pre c P T post) pc lv (.ref (c 0) :: st) := zz_getN (C := RX2) (T := TX2) (N := 9) (fk := 4) (fs := [vi (P 0), vi (P 1), vi (P 2), vi (P 3), vi (P 4), .ref (c 1), .ref (c 3), .ref (c 5), vi (P 8)]) hx (by decide +kernel) (by decide) rfl fw_X2 rfl (pre.length + 0 + 13) (sW_at 0) rfl d kk
theorem zs_n5 (hx : zOK l g nL x RX3 cc) (d : decode cc pc = .ok (.getfield 169, 3)) (kk : Z l g R nL x k n (sW g b I Q pre c P T post) (pc + 3) lv (.ref (c 1) :: st)) : Z l g R nL x k n (sW g b I Q pre c P T post) pc lv (.ref (c 0) :: st) := zz_getN (C := RX2) (T := TX2) (N := 9) (fk := 5) (fs := [vi (P 0), vi (P 1), vi (P 2), vi (P 3), vi (P 4), .ref (c 1), .ref (c 3), .ref (c 5), vi (P 8)]) hx (by decide +kernel) (by decide) rfl fw_X2 rfl (pre.length + 0 + 13) (sW_at 0) rfl d kk
theorem zs_n8 (hx : zOK l g nL x RX3 cc) (d : decode cc pc = .ok (.getfield 154, 3)) (kk : Z l g R nL x k n (sW g b I Q pre c P T post) (pc + 3) lv (vi (P 8) :: st)) : Z l g R nL x k n (sW g b I Q pre c P T post) pc lv (.ref (c 0) :: st) := zz_getN (C := RX2) (T := TX2) (N := 9) (fk := 8) (fs := [vi (P 0), vi (P 1), vi (P 2), vi (P 3), vi (P 4), .ref (c 1), .ref (c 3), .ref (c 5), vi (P 8)]) hx (by decide +kernel) (by decide) rfl fw_X2 rfl (pre.length + 0 + 13) (sW_at 0) rfl d kk
theorem zs_np8 (hx : zOK l g nL x RX3 cc) {v : Int} (d : decode cc pc = .ok (.putfield 154, 3)) (kk : Z l g R nL x k n (sW g b I Q pre c (Fup P 8 v) T post) (pc + 3) lv st) : Z l g R nL x k n (sW g b I Q pre c P T post) pc lv (vi v :: .ref (c 0) :: st) := zz_putN (C := RX2) (T := TX2) (N := 9) (fk := 8) (fs := [vi (P 0), vi (P 1), vi (P 2), vi (P 3), vi (P 4), .ref (c 1), .ref (c 3), .ref (c 5), vi (P 8)]) hx (by decide +kernel) (by decide) rfl fw_X2 rfl tyX2 tyX2_ok nmX2 (pre.length + 0 + 13) (sW_at 0) rfl rfl (Nat.le_of_ble_eq_true rfl) d (sW_set 0 _) kk
theorem zg_n2 (hx : zOK l g nL x RX3 cc) (d : decode cc pc = .ok (.getfield 234, 3)) (kk : Z l g R nL x k n (dF g b I Q rest) (pc + 3) lv (vi (I 3) :: st)) : Z l g R nL x k n (dF g b I Q rest) pc lv (.ref (b 8) :: st) := zz_getN (C := RX0) (T := TX0) (N := 3) (fk := 2) (fs := [.ref (b 9), .ref (b 11), vi (I 3)]) hx (by decide +kernel) (by decide) rfl fw_X0 rfl 8 rfl rfl d kk
end ZN
def aI (I : Nat → Int) (Q : Nat → Int → Int) (N : Nat) : Prop := I 5 = (N : Int) ∧ N ≤ 6 ∧ (-1 ≤ I 2 ∧ I 2 < 60) ∧ (∀ u : Int, 0 ≤ u → u < 60 → -1 ≤ Q 0 u ∧ Q 0 u ≤ 3) ∧ (∀ u : Int, 0 ≤ u → u < 60 → -1000 ≤ Q 1 u ∧ Q 1 u ≤ 1000) ∧ (∀ t : Int, 0 ≤ t → t < 4 → -1 ≤ Q 2 t ∧ Q 2 t < 60) ∧ (0 ≤ I 0 ∧ I 0 ≤ 60) ∧ I 1 ≤ 60
def aS (P : Int → Nat → Int) (T : Int → Nat → Int → Int) (N : Nat) (ow : Int → Int → Int) (isO : Int → Int → Prop) (L : Int → List Int) : Prop := ∀ s : Int, 0 ≤ s → s < (N : Int) → rR (T s) ∧ rOK (T s) (ow s) (isO s) (L s) ∧ (0 ≤ P s 0 ∧ P s 0 ≤ 3) ∧ (0 ≤ P s 1 ∧ P s 1 ≤ 3) ∧ P s 0 ≠ P s 1 ∧ (0 ≤ P s 2 ∧ P s 2 ≤ 4) ∧ (P s 3 = 0 ∨ P s 3 = 1) ∧ (0 ≤ P s 4 ∧ P s 4 ≤ 2) ∧ (-1 ≤ P s 8 ∧ P s 8 < 60)
theorem aI_q0 {I : Nat → Int} {Q : Nat → Int → Int} {N : Nat} (h : aI I Q N) (p : Int) : -1 ≤ rAt 60 (Q 0) p ∧ rAt 60 (Q 0) p ≤ 3 := by
  unfold rAt
  split
  · exact h.2.2.2.1 p (by omega) (by omega)
  · omega

set_option maxHeartbeats 4000000 in
set_option maxRecDepth 100000 in
theorem k_X3_requireType {l : Launch} {g : zG} {b : Nat → Nat} {c : Int → Nat → Nat} {I : Nat → Int} {Q : Nat → Int → Int} {P : Int → Nat → Int} {T : Int → Nat → Int → Int} {N : Nat} {rest : va_W} (hst : l.stackTraces = false) (t : Int) (ht : -2147483648 ≤ t ∧ t < 2147483648) : zM l g yX3_requireType cX3_requireType 2 (Option.none : Option FieldType) ({ frames := 6, cells := 1, slots := 6, locals := 82 } : Room) [.ref (b 0), vi t] (wD g b c I Q P T N rest) (zV fun w1 => w1 = (wD g b c I Q P T N rest) ∧ (0 ≤ t ∧ t ≤ 3)) (fun E w1 => E = xA ∧ w1 = (wD g b c I Q P T N rest) ∧ ¬ (0 ≤ t ∧ t ≤ 3)) 1 6 := by
  refine zM_of (lv0 := [(0, _), (1, _)]) hst rfl (by decide +kernel) (Nat.le_of_ble_eq_true rfl) rfl (fun x hx hf hn => ?_)
  refine zz_iload_n hx dX3_requireType_0 rfl ?_
  refine zz_if_lt hx 9 dX3_requireType_1 rfl (by omega) (fun c1 => ?_) (fun c1 => ?_)
  · exact zz_throw hx hf hn zth_A (List.mem_of_getElem? (i := 16) rfl) dX3_requireType_9 dX3_requireType_12 dX3_requireType_13 dX3_requireType_15 dX3_requireType_18 (by decide) (by decide) ⟨rfl, rfl, by omega⟩
  · refine zz_iload_n hx dX3_requireType_4 rfl ?_
    refine zz_iconst hx dX3_requireType_5 ?_
    refine zz_icmp_lt hx 19 dX3_requireType_6 rfl (by omega) (by omega) (fun c6 => ?_) (fun c6 => ?_)
    · exact zz_vret hx hf dX3_requireType_19 ⟨rfl, rfl, by omega⟩ (by decide) (by decide)
    · exact zz_throw hx hf hn zth_A (List.mem_of_getElem? (i := 16) rfl) dX3_requireType_9 dX3_requireType_12 dX3_requireType_13 dX3_requireType_15 dX3_requireType_18 (by decide) (by decide) ⟨rfl, rfl, by omega⟩

set_option maxHeartbeats 4000000 in
set_option maxRecDepth 100000 in
theorem k_X3_requireValue {l : Launch} {g : zG} {b : Nat → Nat} {c : Int → Nat → Nat} {I : Nat → Int} {Q : Nat → Int → Int} {P : Int → Nat → Int} {T : Int → Nat → Int → Int} {N : Nat} {rest : va_W} (hst : l.stackTraces = false) (t : Int) (ht : -2147483648 ≤ t ∧ t < 2147483648) : zM l g yX3_requireValue cX3_requireValue 2 (Option.none : Option FieldType) ({ frames := 6, cells := 1, slots := 6, locals := 82 } : Room) [.ref (b 0), vi t] (wD g b c I Q P T N rest) (zV fun w1 => w1 = (wD g b c I Q P T N rest) ∧ (-1000 ≤ t ∧ t ≤ 1000)) (fun E w1 => E = xA ∧ w1 = (wD g b c I Q P T N rest) ∧ ¬ (-1000 ≤ t ∧ t ≤ 1000)) 1 6 := by
  refine zM_of (lv0 := [(0, _), (1, _)]) hst rfl (by decide +kernel) (Nat.le_of_ble_eq_true rfl) rfl (fun x hx hf hn => ?_)
  refine zz_iload_n hx dX3_requireValue_0 rfl ?_
  refine zz_sipush hx dX3_requireValue_1 rfl ?_
  refine zz_icmp_lt hx 14 dX3_requireValue_4 rfl (by omega) (by omega) (fun c4 => ?_) (fun c4 => ?_)
  · exact zz_throw hx hf hn zth_A (List.mem_of_getElem? (i := 17) rfl) dX3_requireValue_14 dX3_requireValue_17 dX3_requireValue_18 dX3_requireValue_20 dX3_requireValue_23 (by decide) (by decide) ⟨rfl, rfl, by omega⟩
  · refine zz_iload_n hx dX3_requireValue_7 rfl ?_
    refine zz_sipush hx dX3_requireValue_8 rfl ?_
    refine zz_icmp_le hx 24 dX3_requireValue_11 rfl (by omega) (by omega) (fun c11 => ?_) (fun c11 => ?_)
    · exact zz_vret hx hf dX3_requireValue_24 ⟨rfl, rfl, by omega⟩ (by decide) (by decide)
    · exact zz_throw hx hf hn zth_A (List.mem_of_getElem? (i := 17) rfl) dX3_requireValue_14 dX3_requireValue_17 dX3_requireValue_18 dX3_requireValue_20 dX3_requireValue_23 (by decide) (by decide) ⟨rfl, rfl, by omega⟩

set_option maxHeartbeats 4000000 in
set_option maxRecDepth 100000 in
theorem k_X3_requireWay {l : Launch} {g : zG} {b : Nat → Nat} {c : Int → Nat → Nat} {I : Nat → Int} {Q : Nat → Int → Int} {P : Int → Nat → Int} {T : Int → Nat → Int → Int} {N : Nat} {rest : va_W} (hst : l.stackTraces = false) (t : Int) (ht : -2147483648 ≤ t ∧ t < 2147483648) : zM l g yX3_requireWay cX3_requireWay 2 (Option.none : Option FieldType) ({ frames := 6, cells := 1, slots := 6, locals := 82 } : Room) [.ref (b 0), vi t] (wD g b c I Q P T N rest) (zV fun w1 => w1 = (wD g b c I Q P T N rest) ∧ (0 ≤ t ∧ t ≤ 2)) (fun E w1 => E = xA ∧ w1 = (wD g b c I Q P T N rest) ∧ ¬ (0 ≤ t ∧ t ≤ 2)) 1 6 := by
  refine zM_of (lv0 := [(0, _), (1, _)]) hst rfl (by decide +kernel) (Nat.le_of_ble_eq_true rfl) rfl (fun x hx hf hn => ?_)
  refine zz_iload_n hx dX3_requireWay_0 rfl ?_
  refine zz_if_lt hx 9 dX3_requireWay_1 rfl (by omega) (fun c1 => ?_) (fun c1 => ?_)
  · exact zz_throw hx hf hn zth_A (List.mem_of_getElem? (i := 18) rfl) dX3_requireWay_9 dX3_requireWay_12 dX3_requireWay_13 dX3_requireWay_15 dX3_requireWay_18 (by decide) (by decide) ⟨rfl, rfl, by omega⟩
  · refine zz_iload_n hx dX3_requireWay_4 rfl ?_
    refine zz_iconst hx dX3_requireWay_5 ?_
    refine zz_icmp_le hx 19 dX3_requireWay_6 rfl (by omega) (by omega) (fun c6 => ?_) (fun c6 => ?_)
    · exact zz_vret hx hf dX3_requireWay_19 ⟨rfl, rfl, by omega⟩ (by decide) (by decide)
    · exact zz_throw hx hf hn zth_A (List.mem_of_getElem? (i := 18) rfl) dX3_requireWay_9 dX3_requireWay_12 dX3_requireWay_13 dX3_requireWay_15 dX3_requireWay_18 (by decide) (by decide) ⟨rfl, rfl, by omega⟩

set_option maxHeartbeats 4000000 in
set_option maxRecDepth 100000 in
theorem k_X3_requireSet {l : Launch} {g : zG} {b : Nat → Nat} {c : Int → Nat → Nat} {I : Nat → Int} {Q : Nat → Int → Int} {P : Int → Nat → Int} {T : Int → Nat → Int → Int} {N : Nat} {rest : va_W} (hst : l.stackTraces = false) (hI5 : I 5 = (N : Int)) (hN : N ≤ 6) (s : Int) (hs : -2147483648 ≤ s ∧ s < 2147483648) : zM l g yX3_requireSet cX3_requireSet 2 (Option.some (FieldType.object "NetworkDatabase$SetType")) ({ frames := 6, cells := 1, slots := 6, locals := 82 } : Room) [.ref (b 0), vi s] (wD g b c I Q P T N rest) (zA fun r w1 => r = c s 0 ∧ w1 = (wD g b c I Q P T N rest) ∧ (0 ≤ s ∧ s < (N : Int))) (fun E w1 => E = xI ∧ w1 = (wD g b c I Q P T N rest) ∧ ¬ (0 ≤ s ∧ s < (N : Int))) 1 6 := by
  refine zM_of (lv0 := [(0, _), (1, _)]) hst rfl (by decide +kernel) (Nat.le_of_ble_eq_true rfl) rfl (fun x hx hf hn => ?_)
  refine zz_iload_n hx dX3_requireSet_0 rfl ?_
  refine zz_if_lt hx 15 dX3_requireSet_1 rfl (by omega) (fun c1 => ?_) (fun c1 => ?_)
  · exact zz_throw hx hf hn zth_I (List.mem_of_getElem? (i := 19) rfl) dX3_requireSet_15 dX3_requireSet_18 dX3_requireSet_19 dX3_requireSet_21 dX3_requireSet_24 (by decide) (by decide) ⟨rfl, rfl, by omega⟩
  · refine zz_iload_n hx dX3_requireSet_4 rfl ?_
    refine zz_aload_n hx dX3_requireSet_5 rfl ?_
    refine zd_g0 hx lf_X3_10 dX3_requireSet_6 ?_
    refine zz_callVi hx me_Jx4a65c_size_8abf5 lk_X3_62 (k_Jx4a65c_size_8abf5 hst) 1 rfl rfl ⟨rfl, rfl⟩ (by decide) (by decide) rfl rfl (Nat.le_of_ble_eq_true rfl) dX3_requireSet_9 (fun _ _ h => h.elim) (fun r9 w9 hp9 => ?_)
    obtain ⟨rfl, rfl⟩ := hp9
    refine zz_icmp_lt hx 25 dX3_requireSet_12 rfl (by omega) (by omega) (fun c12 => ?_) (fun c12 => ?_)
    · refine zz_aload_n hx dX3_requireSet_25 rfl ?_
      refine zd_g0 hx lf_X3_10 dX3_requireSet_26 ?_
      refine zz_iload_n hx dX3_requireSet_29 rfl ?_
      refine zz_callVa hx me_Jx4a65c_get_915e3 lk_X3_97 (k_Jx4a65c_get_915e3 hst hI5 hN _ (by omega) (by omega)) 1 rfl rfl ⟨rfl, rfl⟩ (by decide) (by decide) rfl rfl (Nat.le_of_ble_eq_true rfl) dX3_requireSet_30 (fun _ _ h => h.elim) (fun r30 w30 hp30 => ?_)
      obtain ⟨rfl, rfl⟩ := hp30
      refine zz_eq (wD_at (s := s) (by omega) (by omega)) rfl ?_
      refine zz_cast hx lc_X3_73 rfl _ (sW_at 0) dX3_requireSet_33 ?_
      exact zz_aret hx hf dX3_requireSet_36 ⟨_, rfl, rfl, (wD_at (by omega) (by omega)).symm, by omega⟩ (by decide) (by decide)
    · exact zz_throw hx hf hn zth_I (List.mem_of_getElem? (i := 19) rfl) dX3_requireSet_15 dX3_requireSet_18 dX3_requireSet_19 dX3_requireSet_21 dX3_requireSet_24 (by decide) (by decide) ⟨rfl, rfl, by omega⟩

set_option maxHeartbeats 4000000 in
set_option maxRecDepth 100000 in
theorem k_X3_requireRecord {l : Launch} {g : zG} {b : Nat → Nat} {c : Int → Nat → Nat} {I : Nat → Int} {Q : Nat → Int → Int} {P : Int → Nat → Int} {T : Int → Nat → Int → Int} {N : Nat} {rest : va_W} (hst : l.stackTraces = false) (hI : aI I Q N) (r : Int) (hr : -2147483648 ≤ r ∧ r < 2147483648) : zM l g yX3_requireRecord cX3_requireRecord 2 (Option.none : Option FieldType) ({ frames := 6, cells := 1, slots := 6, locals := 82 } : Room) [.ref (b 0), vi r] (wD g b c I Q P T N rest) (zV fun w1 => w1 = (wD g b c I Q P T N rest) ∧ (rAt 60 (Q 0) r ≠ -1)) (fun E w1 => E = xI ∧ w1 = (wD g b c I Q P T N rest) ∧ ¬ (rAt 60 (Q 0) r ≠ -1)) 1 6 := by
  have hq0 := aI_q0 hI r
  refine zM_of (lv0 := [(0, _), (1, _)]) hst rfl (by decide +kernel) (Nat.le_of_ble_eq_true rfl) rfl (fun x hx hf hn => ?_)
  refine zz_aload_n hx dX3_requireRecord_0 rfl ?_
  refine zd_g1 hx lf_X3_21 dX3_requireRecord_1 ?_
  refine zz_iload_n hx dX3_requireRecord_4 rfl ?_
  refine zd_at0 hx hst lk_X3_112 (by decide) (by decide) (by omega) (Nat.le_of_ble_eq_true rfl) dX3_requireRecord_5 ?_
  refine zz_iconst hx dX3_requireRecord_8 ?_
  refine zz_icmp_ne hx 22 dX3_requireRecord_9 rfl (by omega) (by omega) (fun c9 => ?_) (fun c9 => ?_)
  · exact zz_vret hx hf dX3_requireRecord_22 ⟨rfl, rfl, by omega⟩ (by decide) (by decide)
  · exact zz_throw hx hf hn zth_I (List.mem_of_getElem? (i := 20) rfl) dX3_requireRecord_12 dX3_requireRecord_15 dX3_requireRecord_16 dX3_requireRecord_18 dX3_requireRecord_21 (by decide) (by decide) ⟨rfl, rfl, by omega⟩

set_option maxHeartbeats 4000000 in
set_option maxRecDepth 100000 in
theorem k_X3_requireRunUnit {l : Launch} {g : zG} {b : Nat → Nat} {I : Nat → Int} {Q : Nat → Int → Int} {rest : va_W} (hst : l.stackTraces = false) (h2 : -1 ≤ I 2 ∧ I 2 < 60) : zM l g yX3_requireRunUnit cX3_requireRunUnit 1 (Option.none : Option FieldType) ({ frames := 6, cells := 1, slots := 6, locals := 82 } : Room) [.ref (b 0)] (dF g b I Q rest) (zV fun w1 => w1 = (dF g b I Q rest) ∧ (I 2 ≠ -1)) (fun E w1 => E = xS ∧ w1 = (dF g b I Q rest) ∧ ¬ (I 2 ≠ -1)) 1 6 := by
  refine zM_of (lv0 := [(0, _)]) hst rfl (by decide +kernel) (Nat.le_of_ble_eq_true rfl) rfl (fun x hx hf hn => ?_)
  refine zz_aload_n hx dX3_requireRunUnit_0 rfl ?_
  refine zd_g7 hx lf_X3_45 dX3_requireRunUnit_1 ?_
  refine zz_iconst hx dX3_requireRunUnit_4 ?_
  refine zz_icmp_ne hx 18 dX3_requireRunUnit_5 rfl (by omega) (by omega) (fun c5 => ?_) (fun c5 => ?_)
  · exact zz_vret hx hf dX3_requireRunUnit_18 ⟨rfl, rfl, by omega⟩ (by decide) (by decide)
  · exact zz_throw hx hf hn zth_S (List.mem_of_getElem? (i := 21) rfl) dX3_requireRunUnit_8 dX3_requireRunUnit_11 dX3_requireRunUnit_12 dX3_requireRunUnit_14 dX3_requireRunUnit_17 (by decide) (by decide) ⟨rfl, rfl, by omega⟩

set_option maxHeartbeats 4000000 in
set_option maxRecDepth 100000 in
theorem k_X3_requireMembership {l : Launch} {g : zG} {b c : Nat → Nat} {I P : Nat → Int} {Q T : Nat → Int → Int} {pre post : va_W} (hst : l.stackTraces = false) (hrr : rR T) (h2 : -1 ≤ I 2 ∧ I 2 < 60) : zM l g yX3_requireMembership cX3_requireMembership 2 (Option.none : Option FieldType) ({ frames := 7, cells := 2, slots := 12, locals := 102 } : Room) [.ref (b 0), .ref (c 0)] (sW g b I Q pre c P T post) (zV fun w1 => w1 = (sW g b I Q pre c P T post) ∧ (I 2 ≠ -1 ∧ rAt 60 (T 5) (I 2) ≠ -1 ∧ rAt 60 (T 5) (I 2) ≠ I 2)) (fun E w1 => E = xS ∧ w1 = (sW g b I Q pre c P T post) ∧ ¬ (I 2 ≠ -1 ∧ rAt 60 (T 5) (I 2) ≠ -1 ∧ rAt 60 (T 5) (I 2) ≠ I 2)) 2 12 := by
  refine zM_of (lv0 := [(0, _), (1, _)]) hst rfl (by decide +kernel) (Nat.le_of_ble_eq_true rfl) rfl (fun x hx hf hn => ?_)
  refine zz_aload_n hx dX3_requireMembership_0 rfl ?_
  refine zz_callVv hx me_X3_requireRunUnit lk_X3_109 (k_X3_requireRunUnit (rest := pre ++ sC g c P T post) hst h2) 0 rfl rfl ⟨rfl, rfl⟩ (by decide) (by decide) rfl rfl (Nat.le_of_ble_eq_true rfl) dX3_requireMembership_1 (fun E9 w9 hX => by obtain ⟨rfl, rfl, hX⟩ := hX; exact zz_out hx hf hn ⟨rfl, rfl, fun z9 => hX z9.1⟩ (by decide) (by decide)) (fun w1 hp1 => ?_)
  obtain ⟨rfl, hu⟩ := hp1
  refine zz_eq (w' := sW g b I Q pre c P T post) rfl rfl ?_
  refine zz_aload_n hx dX3_requireMembership_4 rfl ?_
  refine zz_aload_n hx dX3_requireMembership_5 rfl ?_
  refine zd_g7 hx lf_X3_45 dX3_requireMembership_6 ?_
  refine zz_callVi hx me_X2_isMember lk_X3_141 (k_X2_isMember hst hrr _ (by omega)) _ (sW_at 0) rfl ⟨rfl, rfl⟩ (by decide) (by decide) rfl rfl (Nat.le_of_ble_eq_true rfl) dX3_requireMembership_9 (fun _ _ h => h.elim) (fun r9 w9 hp9 => ?_)
  obtain ⟨rfl, rfl⟩ := hp9
  refine zz_ifb_ne hx 25 dX3_requireMembership_12 rfl (fun c12 => ?_) (fun c12 => ?_)
  · exact zz_vret hx hf dX3_requireMembership_25 ⟨rfl, rfl, hu, c12⟩ (by decide) (by decide)
  · exact zz_throw hx hf hn zth_S (List.mem_of_getElem? (i := 22) rfl) dX3_requireMembership_15 dX3_requireMembership_18 dX3_requireMembership_19 dX3_requireMembership_21 dX3_requireMembership_24 (by decide) (by decide) ⟨rfl, rfl, fun z9 => c12 z9.2⟩
