/-! the queries where they throw nothing: no cell is made -/

set_option maxHeartbeats 4000000 in
set_option maxRecDepth 100000 in
theorem q_X3_requireType {l : Launch} {g : zG} {b : Nat → Nat} {c : Int → Nat → Nat} {I : Nat → Int} {Q : Nat → Int → Int} {P : Int → Nat → Int} {T : Int → Nat → Int → Int} {N : Nat} {rest : va_W} (hst : l.stackTraces = false) (t : Int) (ht : 0 ≤ t ∧ t ≤ 3) : zM l g yX3_requireType cX3_requireType 2 (Option.none : Option FieldType) ({ frames := 0, cells := 0, slots := 0, locals := 0 } : Room) [.ref (b 0), vi t] (wD g b c I Q P T N rest) (zV fun w1 => w1 = (wD g b c I Q P T N rest)) zN 0 0 := by
  refine zM_of (lv0 := [(0, _), (1, _)]) hst rfl (by decide +kernel) (Nat.le_of_ble_eq_true rfl) rfl (fun x hx hf hn => ?_)
  refine zz_iload_n hx dX3_requireType_0 rfl ?_
  refine zz_if_lt hx 9 dX3_requireType_1 rfl (by omega) (fun c1 => ?_) (fun c1 => ?_)
  · omega
  · refine zz_iload_n hx dX3_requireType_4 rfl ?_
    refine zz_iconst hx dX3_requireType_5 ?_
    refine zz_icmp_lt hx 19 dX3_requireType_6 rfl (by omega) (by omega) (fun c6 => ?_) (fun c6 => ?_)
    · exact zz_vret hx hf dX3_requireType_19 ⟨rfl, rfl⟩ (by decide) (by decide)
    · omega

set_option maxHeartbeats 4000000 in
set_option maxRecDepth 100000 in
theorem q_X3_requireWay {l : Launch} {g : zG} {b : Nat → Nat} {c : Int → Nat → Nat} {I : Nat → Int} {Q : Nat → Int → Int} {P : Int → Nat → Int} {T : Int → Nat → Int → Int} {N : Nat} {rest : va_W} (hst : l.stackTraces = false) (t : Int) (ht : 0 ≤ t ∧ t ≤ 2) : zM l g yX3_requireWay cX3_requireWay 2 (Option.none : Option FieldType) ({ frames := 0, cells := 0, slots := 0, locals := 0 } : Room) [.ref (b 0), vi t] (wD g b c I Q P T N rest) (zV fun w1 => w1 = (wD g b c I Q P T N rest)) zN 0 0 := by
  refine zM_of (lv0 := [(0, _), (1, _)]) hst rfl (by decide +kernel) (Nat.le_of_ble_eq_true rfl) rfl (fun x hx hf hn => ?_)
  refine zz_iload_n hx dX3_requireWay_0 rfl ?_
  refine zz_if_lt hx 9 dX3_requireWay_1 rfl (by omega) (fun c1 => ?_) (fun c1 => ?_)
  · omega
  · refine zz_iload_n hx dX3_requireWay_4 rfl ?_
    refine zz_iconst hx dX3_requireWay_5 ?_
    refine zz_icmp_le hx 19 dX3_requireWay_6 rfl (by omega) (by omega) (fun c6 => ?_) (fun c6 => ?_)
    · exact zz_vret hx hf dX3_requireWay_19 ⟨rfl, rfl⟩ (by decide) (by decide)
    · omega

set_option maxHeartbeats 4000000 in
set_option maxRecDepth 100000 in
theorem q_X3_requireSet {l : Launch} {g : zG} {b : Nat → Nat} {c : Int → Nat → Nat} {I : Nat → Int} {Q : Nat → Int → Int} {P : Int → Nat → Int} {T : Int → Nat → Int → Int} {N : Nat} {rest : va_W} (hst : l.stackTraces = false) (hI5 : I 5 = (N : Int)) (hN : N ≤ 6) (s : Int) (hs : 0 ≤ s ∧ s < (N : Int)) : zM l g yX3_requireSet cX3_requireSet 2 (Option.some (FieldType.object "NetworkDatabase$SetType")) ({ frames := 3, cells := 0, slots := 0, locals := 64 } : Room) [.ref (b 0), vi s] (wD g b c I Q P T N rest) (zA fun r w1 => r = c s 0 ∧ w1 = (wD g b c I Q P T N rest)) zN 0 0 := by
  refine zM_of (lv0 := [(0, _), (1, _)]) hst rfl (by decide +kernel) (Nat.le_of_ble_eq_true rfl) rfl (fun x hx hf hn => ?_)
  refine zz_iload_n hx dX3_requireSet_0 rfl ?_
  refine zz_if_lt hx 15 dX3_requireSet_1 rfl (by omega) (fun c1 => ?_) (fun c1 => ?_)
  · omega
  · refine zz_iload_n hx dX3_requireSet_4 rfl ?_
    refine zz_aload_n hx dX3_requireSet_5 rfl ?_
    refine zd_g0 hx lf_X3_10 dX3_requireSet_6 ?_
    refine zz_callVi hx me_Jx4a65c_size_8abf5 lk_X3_62 (k_Jx4a65c_size_8abf5 hst) 1 rfl rfl ⟨rfl, rfl⟩ (by decide) (by decide) rfl rfl (Nat.le_of_ble_eq_true rfl) dX3_requireSet_9 (fun _ _ h => h.elim) (fun r9 w9 hp9 => ?_)
    obtain ⟨rfl, rfl⟩ := hp9
    refine zz_icmp_lt hx 25 dX3_requireSet_12 rfl (by omega) (by omega) (fun c12 => ?_) (fun c12 => ?_)
    · refine zz_aload_n hx dX3_requireSet_25 rfl ?_
      refine zd_g0 hx lf_X3_10 dX3_requireSet_26 ?_
      refine zz_iload_n hx dX3_requireSet_29 rfl ?_
      refine zz_callVa hx me_Jx4a65c_get_915e3 lk_X3_97 (k_Jx4a65c_get_915e3 hst hI5 hN _ (by omega) (by omega)) 1 rfl rfl ⟨rfl, rfl⟩ (by decide) (by decide) rfl rfl (Nat.le_of_ble_eq_true rfl) dX3_requireSet_30 (fun _ _ h => h.elim) (fun r30 w30 hp30 => ?_)
      obtain ⟨rfl, rfl⟩ := hp30
      refine zz_eq (wD_at (s := s) (by omega) (by omega)) rfl ?_
      refine zz_cast hx lc_X3_73 rfl _ (sW_at 0) dX3_requireSet_33 ?_
      exact zz_aret hx hf dX3_requireSet_36 ⟨_, rfl, rfl, (wD_at (by omega) (by omega)).symm⟩ (by decide) (by decide)
    · omega

set_option maxHeartbeats 4000000 in
set_option maxRecDepth 100000 in
theorem q_X3_requireRecord {l : Launch} {g : zG} {b : Nat → Nat} {c : Int → Nat → Nat} {I : Nat → Int} {Q : Nat → Int → Int} {P : Int → Nat → Int} {T : Int → Nat → Int → Int} {N : Nat} {rest : va_W} (hst : l.stackTraces = false) (hI : aI I Q N) (r : Int) (r0 : 0 ≤ r ∧ r < 60) (hr : Q 0 r ≠ -1) : zM l g yX3_requireRecord cX3_requireRecord 2 (Option.none : Option FieldType) ({ frames := 1, cells := 0, slots := 0, locals := 21 } : Room) [.ref (b 0), vi r] (wD g b c I Q P T N rest) (zV fun w1 => w1 = (wD g b c I Q P T N rest)) zN 0 0 := by
  have hq0 := hI.2.2.2.1 r r0.1 r0.2
  refine zM_of (lv0 := [(0, _), (1, _)]) hst rfl (by decide +kernel) (Nat.le_of_ble_eq_true rfl) rfl (fun x hx hf hn => ?_)
  refine zz_aload_n hx dX3_requireRecord_0 rfl ?_
  refine zd_g1 hx lf_X3_21 dX3_requireRecord_1 ?_
  refine zz_iload_n hx dX3_requireRecord_4 rfl ?_
  refine zd_at0 hx hst lk_X3_112 (by decide) (by decide) (by omega) (Nat.le_of_ble_eq_true rfl) dX3_requireRecord_5 ?_
  rw [rAt_in (by omega) (by omega)]
  refine zz_iconst hx dX3_requireRecord_8 ?_
  refine zz_icmp_ne hx 22 dX3_requireRecord_9 rfl (by omega) (by omega) (fun c9 => ?_) (fun c9 => ?_)
  · exact zz_vret hx hf dX3_requireRecord_22 ⟨rfl, rfl⟩ (by decide) (by decide)
  · omega

set_option maxHeartbeats 4000000 in
set_option maxRecDepth 100000 in
theorem q_X3_currentOf {l : Launch} {g : zG} {b : Nat → Nat} {c : Int → Nat → Nat} {I : Nat → Int} {Q : Nat → Int → Int} {P : Int → Nat → Int} {T : Int → Nat → Int → Int} {N : Nat} {rest : va_W} (hst : l.stackTraces = false) (hI : aI I Q N) (t : Int) (ht : 0 ≤ t ∧ t ≤ 3) : zM l g yX3_currentOf cX3_currentOf 2 (Option.some FieldType.int) ({ frames := 1, cells := 0, slots := 0, locals := 21 } : Room) [.ref (b 0), vi t] (wD g b c I Q P T N rest) (zI fun v w => v = Q 2 t ∧ w = (wD g b c I Q P T N rest)) zN 0 0 := by
  refine zM_of (lv0 := [(0, _), (1, _)]) hst rfl (by decide +kernel) (Nat.le_of_ble_eq_true rfl) rfl (fun x hx hf hn => ?_)
  refine zz_aload_n hx dX3_currentOf_0 rfl ?_
  refine zz_iload_n hx dX3_currentOf_1 rfl ?_
  refine zz_callVv hx me_X3_requireType lk_X3_48 (q_X3_requireType hst t ht) 0 rfl rfl ⟨rfl, rfl⟩ (by decide) (by decide) rfl rfl (Nat.le_of_ble_eq_true rfl) dX3_currentOf_2 (fun _ _ h => h.elim) (fun w2 hp2 => ?_)
  obtain rfl := hp2
  refine zz_aload_n hx dX3_currentOf_5 rfl ?_
  refine zd_g3 hx lf_X3_28 dX3_currentOf_6 ?_
  refine zz_iload_n hx dX3_currentOf_9 rfl ?_
  refine zd_at2 hx hst lk_X3_112 (by decide) (by decide) (by omega) (Nat.le_of_ble_eq_true rfl) dX3_currentOf_10 ?_
  rw [rAt_in (by omega) (by omega)]
  exact zz_iret hx hf dX3_currentOf_13 ⟨_, rfl, rfl, rfl⟩ (by decide) (by decide)

set_option maxHeartbeats 4000000 in
set_option maxRecDepth 100000 in
theorem q_X3_currentIn {l : Launch} {g : zG} {b : Nat → Nat} {c : Int → Nat → Nat} {I : Nat → Int} {Q : Nat → Int → Int} {P : Int → Nat → Int} {T : Int → Nat → Int → Int} {N : Nat} {rest : va_W} (hst : l.stackTraces = false) (hI : aI I Q N) {ow : Int → Int → Int} {isO : Int → Int → Prop} {L : Int → List Int} (hS : aS P T N ow isO L) (s : Int) (hs : 0 ≤ s ∧ s < (N : Int)) : zM l g yX3_currentIn cX3_currentIn 2 (Option.some FieldType.int) ({ frames := 4, cells := 0, slots := 0, locals := 85 } : Room) [.ref (b 0), vi s] (wD g b c I Q P T N rest) (zI fun v w => v = P s 8 ∧ w = (wD g b c I Q P T N rest)) zN 0 0 := by
  refine zM_of (lv0 := [(0, _), (1, _)]) hst rfl (by decide +kernel) (Nat.le_of_ble_eq_true rfl) rfl (fun x hx hf hn => ?_)
  refine zz_aload_n hx dX3_currentIn_0 rfl ?_
  refine zz_iload_n hx dX3_currentIn_1 rfl ?_
  refine zz_callVa hx me_X3_requireSet lk_X3_132 (q_X3_requireSet hst hI.1 hI.2.1 s hs) 0 rfl rfl ⟨rfl, rfl⟩ (by decide) (by decide) rfl rfl (Nat.le_of_ble_eq_true rfl) dX3_currentIn_2 (fun _ _ h => h.elim) (fun r2 w2 hp2 => ?_)
  obtain ⟨rfl, rfl⟩ := hp2
  refine zz_eq (wD_at (s := s) hs.1 hs.2) rfl ?_
  have hs9 := hS s hs.1 hs.2
  refine zs_n8 hx dX3_currentIn_5 ?_
  exact zz_iret hx hf dX3_currentIn_8 ⟨_, rfl, rfl, (wD_at (by omega) (by omega)).symm⟩ (by decide) (by decide)

set_option maxHeartbeats 4000000 in
set_option maxRecDepth 100000 in
theorem q_X3_typeOf {l : Launch} {g : zG} {b : Nat → Nat} {c : Int → Nat → Nat} {I : Nat → Int} {Q : Nat → Int → Int} {P : Int → Nat → Int} {T : Int → Nat → Int → Int} {N : Nat} {rest : va_W} (hst : l.stackTraces = false) (hI : aI I Q N) (r : Int) (r0 : 0 ≤ r ∧ r < 60) (hr : Q 0 r ≠ -1) : zM l g yX3_typeOf cX3_typeOf 2 (Option.some FieldType.int) ({ frames := 2, cells := 0, slots := 0, locals := 42 } : Room) [.ref (b 0), vi r] (wD g b c I Q P T N rest) (zI fun v w => v = Q 0 r ∧ w = (wD g b c I Q P T N rest)) zN 0 0 := by
  refine zM_of (lv0 := [(0, _), (1, _)]) hst rfl (by decide +kernel) (Nat.le_of_ble_eq_true rfl) rfl (fun x hx hf hn => ?_)
  refine zz_aload_n hx dX3_typeOf_0 rfl ?_
  refine zz_iload_n hx dX3_typeOf_1 rfl ?_
  refine zz_callVv hx me_X3_requireRecord lk_X3_196 (q_X3_requireRecord hst hI _ r0 hr) 0 rfl rfl ⟨rfl, rfl⟩ (by decide) (by decide) rfl rfl (Nat.le_of_ble_eq_true rfl) dX3_typeOf_2 (fun _ _ h => h.elim) (fun w2 hp2 => ?_)
  obtain rfl := hp2
  refine zz_aload_n hx dX3_typeOf_5 rfl ?_
  refine zd_g1 hx lf_X3_21 dX3_typeOf_6 ?_
  refine zz_iload_n hx dX3_typeOf_9 rfl ?_
  refine zd_at0 hx hst lk_X3_112 (by decide) (by decide) (by omega) (Nat.le_of_ble_eq_true rfl) dX3_typeOf_10 ?_
  rw [rAt_in (by omega) (by omega)]
  exact zz_iret hx hf dX3_typeOf_13 ⟨_, rfl, rfl, rfl⟩ (by decide) (by decide)

set_option maxHeartbeats 4000000 in
set_option maxRecDepth 100000 in
theorem q_X3_valueOf {l : Launch} {g : zG} {b : Nat → Nat} {c : Int → Nat → Nat} {I : Nat → Int} {Q : Nat → Int → Int} {P : Int → Nat → Int} {T : Int → Nat → Int → Int} {N : Nat} {rest : va_W} (hst : l.stackTraces = false) (hI : aI I Q N) (r : Int) (r0 : 0 ≤ r ∧ r < 60) (hr : Q 0 r ≠ -1) : zM l g yX3_valueOf cX3_valueOf 2 (Option.some FieldType.int) ({ frames := 2, cells := 0, slots := 0, locals := 42 } : Room) [.ref (b 0), vi r] (wD g b c I Q P T N rest) (zI fun v w => v = Q 1 r ∧ w = (wD g b c I Q P T N rest)) zN 0 0 := by
  refine zM_of (lv0 := [(0, _), (1, _)]) hst rfl (by decide +kernel) (Nat.le_of_ble_eq_true rfl) rfl (fun x hx hf hn => ?_)
  refine zz_aload_n hx dX3_valueOf_0 rfl ?_
  refine zz_iload_n hx dX3_valueOf_1 rfl ?_
  refine zz_callVv hx me_X3_requireRecord lk_X3_196 (q_X3_requireRecord hst hI _ r0 hr) 0 rfl rfl ⟨rfl, rfl⟩ (by decide) (by decide) rfl rfl (Nat.le_of_ble_eq_true rfl) dX3_valueOf_2 (fun _ _ h => h.elim) (fun w2 hp2 => ?_)
  obtain rfl := hp2
  refine zz_aload_n hx dX3_valueOf_5 rfl ?_
  refine zd_g2 hx lf_X3_25 dX3_valueOf_6 ?_
  refine zz_iload_n hx dX3_valueOf_9 rfl ?_
  refine zd_at1 hx hst lk_X3_112 (by decide) (by decide) (by omega) (Nat.le_of_ble_eq_true rfl) dX3_valueOf_10 ?_
  rw [rAt_in (by omega) (by omega)]
  exact zz_iret hx hf dX3_valueOf_13 ⟨_, rfl, rfl, rfl⟩ (by decide) (by decide)

set_option maxHeartbeats 4000000 in
set_option maxRecDepth 100000 in
theorem q_X3_ownerOf {l : Launch} {g : zG} {b : Nat → Nat} {c : Int → Nat → Nat} {I : Nat → Int} {Q : Nat → Int → Int} {P : Int → Nat → Int} {T : Int → Nat → Int → Int} {N : Nat} {rest : va_W} (hst : l.stackTraces = false) (hI : aI I Q N) {ow : Int → Int → Int} {isO : Int → Int → Prop} {L : Int → List Int} (hS : aS P T N ow isO L) (r : Int) (r0 : 0 ≤ r ∧ r < 60) (hr : Q 0 r ≠ -1) (s : Int) (hs : 0 ≤ s ∧ s < (N : Int)) : zM l g yX3_ownerOf cX3_ownerOf 4 (Option.some FieldType.int) ({ frames := 4, cells := 0, slots := 0, locals := 85 } : Room) [.ref (b 0), vi r, vi s] (wD g b c I Q P T N rest) (zI fun v w => v = ow s r ∧ w = (wD g b c I Q P T N rest)) zN 0 0 := by
  refine zM_of (lv0 := [(0, _), (1, _), (2, _)]) hst rfl (by decide +kernel) (Nat.le_of_ble_eq_true rfl) rfl (fun x hx hf hn => ?_)
  refine zz_aload_n hx dX3_ownerOf_0 rfl ?_
  refine zz_iload_n hx dX3_ownerOf_1 rfl ?_
  refine zz_callVv hx me_X3_requireRecord lk_X3_196 (q_X3_requireRecord hst hI _ r0 hr) 0 rfl rfl ⟨rfl, rfl⟩ (by decide) (by decide) rfl rfl (Nat.le_of_ble_eq_true rfl) dX3_ownerOf_2 (fun _ _ h => h.elim) (fun w2 hp2 => ?_)
  obtain rfl := hp2
  refine zz_aload_n hx dX3_ownerOf_5 rfl ?_
  refine zz_iload_n hx dX3_ownerOf_6 rfl ?_
  refine zz_callVa hx me_X3_requireSet lk_X3_132 (q_X3_requireSet hst hI.1 hI.2.1 s hs) 0 rfl rfl ⟨rfl, rfl⟩ (by decide) (by decide) rfl rfl (Nat.le_of_ble_eq_true rfl) dX3_ownerOf_7 (fun _ _ h => h.elim) (fun r7 w7 hp7 => ?_)
  obtain ⟨rfl, rfl⟩ := hp7
  refine zz_eq (wD_at (s := s) hs.1 hs.2) rfl ?_
  have hs9 := hS s hs.1 hs.2
  refine zz_astore_n (lv' := [(0, _), (1, _), (2, _), (3, _)]) hx dX3_ownerOf_10 (by decide) rfl ?_
  refine zz_aload_n hx dX3_ownerOf_11 rfl ?_
  refine zz_iload_n hx dX3_ownerOf_12 rfl ?_
  refine zz_callVi hx me_X2_isMember lk_X3_141 (k_X2_isMember hst hs9.1 r (by omega)) _ (sW_at 0) rfl ⟨rfl, rfl⟩ (by decide) (by decide) rfl rfl (Nat.le_of_ble_eq_true rfl) dX3_ownerOf_13 (fun _ _ h => h.elim) (fun r13 w13 hp13 => ?_)
  obtain ⟨rfl, rfl⟩ := hp13
  have hro := ring_ow hs9.2.1 r0.1 r0.2
  have h60 : r < ((60 : Nat) : Int) := r0.2
  rw [rAt_in r0.1 h60]
  refine zz_ifb_eq hx 30 dX3_ownerOf_16 rfl (fun c16 => ?_) (fun c16 => ?_)
  · have hv9 := (hro.2 c16).symm
    refine zz_iconst hx dX3_ownerOf_30 ?_
    exact zz_iret hx hf dX3_ownerOf_31 ⟨_, rfl, hv9, (wD_at (by omega) (by omega)).symm⟩ (by decide) (by decide)
  · have hv9 := hro.1 c16
    refine zz_aload_n hx dX3_ownerOf_19 rfl ?_
    refine zs_n5 hx dX3_ownerOf_20 ?_
    refine zz_iload_n hx dX3_ownerOf_23 rfl ?_
    refine zs_at5 hx hst lk_X3_112 (by decide) (by decide) (by omega) (Nat.le_of_ble_eq_true rfl) dX3_ownerOf_24 ?_
    rw [rAt_in (by omega) (by omega)]
    refine zz_goto hx 31 dX3_ownerOf_27 rfl ?_
    exact zz_iret hx hf dX3_ownerOf_31 ⟨_, rfl, hv9, (wD_at (by omega) (by omega)).symm⟩ (by decide) (by decide)

set_option maxHeartbeats 4000000 in
set_option maxRecDepth 100000 in
theorem q_X3_members {l : Launch} {g : zG} {b : Nat → Nat} {c : Int → Nat → Nat} {I : Nat → Int} {Q : Nat → Int → Int} {P : Int → Nat → Int} {T : Int → Nat → Int → Int} {N : Nat} {rest : va_W} (hst : l.stackTraces = false) (hI : aI I Q N) {ow : Int → Int → Int} {isO : Int → Int → Prop} {L : Int → List Int} (hS : aS P T N ow isO L) (r : Int) (r0 : 0 ≤ r ∧ r < 60) (hr : Q 0 r ≠ -1) (s : Int) (hs : 0 ≤ s ∧ s < (N : Int)) : zM l g yX3_members cX3_members 4 (Option.some FieldType.int) ({ frames := 4, cells := 0, slots := 0, locals := 85 } : Room) [.ref (b 0), vi r, vi s] (wD g b c I Q P T N rest) (zI fun v w => ((isO s r ∧ v = ((mOf (ow s) r (L s)).length : Int)) ∨ (¬ isO s r ∧ v = -1)) ∧ w = (wD g b c I Q P T N rest)) zN 0 0 := by
  refine zM_of (lv0 := [(0, _), (1, _), (2, _)]) hst rfl (by decide +kernel) (Nat.le_of_ble_eq_true rfl) rfl (fun x hx hf hn => ?_)
  refine zz_aload_n hx dX3_members_0 rfl ?_
  refine zz_iload_n hx dX3_members_1 rfl ?_
  refine zz_callVv hx me_X3_requireRecord lk_X3_196 (q_X3_requireRecord hst hI _ r0 hr) 0 rfl rfl ⟨rfl, rfl⟩ (by decide) (by decide) rfl rfl (Nat.le_of_ble_eq_true rfl) dX3_members_2 (fun _ _ h => h.elim) (fun w2 hp2 => ?_)
  obtain rfl := hp2
  refine zz_aload_n hx dX3_members_5 rfl ?_
  refine zz_iload_n hx dX3_members_6 rfl ?_
  refine zz_callVa hx me_X3_requireSet lk_X3_132 (q_X3_requireSet hst hI.1 hI.2.1 s hs) 0 rfl rfl ⟨rfl, rfl⟩ (by decide) (by decide) rfl rfl (Nat.le_of_ble_eq_true rfl) dX3_members_7 (fun _ _ h => h.elim) (fun r7 w7 hp7 => ?_)
  obtain ⟨rfl, rfl⟩ := hp7
  refine zz_eq (wD_at (s := s) hs.1 hs.2) rfl ?_
  have hs9 := hS s hs.1 hs.2
  refine zz_astore_n (lv' := [(0, _), (1, _), (2, _), (3, _)]) hx dX3_members_10 (by decide) rfl ?_
  refine zz_aload_n hx dX3_members_11 rfl ?_
  refine zz_iload_n hx dX3_members_12 rfl ?_
  refine zz_callVi hx me_X2_owns lk_X3_175 (k_X2_owns hst hs9.1 r (by omega)) _ (sW_at 0) rfl ⟨rfl, rfl⟩ (by decide) (by decide) rfl rfl (Nat.le_of_ble_eq_true rfl) dX3_members_13 (fun _ _ h => h.elim) (fun r13 w13 hp13 => ?_)
  obtain ⟨rfl, rfl⟩ := hp13
  have ho9 := aS_own hS hs.1 hs.2 r0.1 r0.2
  refine zz_ifb_eq hx 27 dX3_members_16 rfl (fun c16 => ?_) (fun c16 => ?_)
  · have hv9 : isO s r ∨ ¬ isO s r := Or.inr (fun z9 => c16 (ho9.mpr z9))
    refine zz_iconst hx dX3_members_27 ?_
    exact zz_iret hx hf dX3_members_28 (by first | exact ⟨_, rfl, Or.inl ⟨hio, rfl⟩, (wD_at (by omega) (by omega)).symm⟩ | exact ⟨_, rfl, Or.inr ⟨fun z9 => c16 (ho9.mpr z9), rfl⟩, (wD_at (by omega) (by omega)).symm⟩) (by decide) (by decide)
  · have hio := ho9.mp c16
    refine zz_aload_n hx dX3_members_19 rfl ?_
    refine zz_iload_n hx dX3_members_20 rfl ?_
    refine zz_callVi hx me_X2_countByRing lk_X3_157 (k_X2_countByRing hst hs9.1 hs9.2.1 r hio) _ (sW_at 0) rfl ⟨rfl, rfl⟩ (by decide) (by decide) rfl rfl (Nat.le_of_ble_eq_true rfl) dX3_members_21 (fun _ _ h => h.elim) (fun r21 w21 hp21 => ?_)
    obtain ⟨rfl, rfl⟩ := hp21
    refine zz_goto hx 28 dX3_members_24 rfl ?_
    exact zz_iret hx hf dX3_members_28 (by first | exact ⟨_, rfl, Or.inl ⟨hio, rfl⟩, (wD_at (by omega) (by omega)).symm⟩ | exact ⟨_, rfl, Or.inr ⟨fun z9 => c16 (ho9.mpr z9), rfl⟩, (wD_at (by omega) (by omega)).symm⟩) (by decide) (by decide)

set_option maxHeartbeats 4000000 in
set_option maxRecDepth 100000 in
theorem q_X3_membersByTable {l : Launch} {g : zG} {b : Nat → Nat} {c : Int → Nat → Nat} {I : Nat → Int} {Q : Nat → Int → Int} {P : Int → Nat → Int} {T : Int → Nat → Int → Int} {N : Nat} {rest : va_W} (hst : l.stackTraces = false) (hI : aI I Q N) {ow : Int → Int → Int} {isO : Int → Int → Prop} {L : Int → List Int} (hS : aS P T N ow isO L) (r : Int) (r0 : 0 ≤ r ∧ r < 60) (hr : Q 0 r ≠ -1) (s : Int) (hs : 0 ≤ s ∧ s < (N : Int)) : zM l g yX3_membersByTable cX3_membersByTable 4 (Option.some FieldType.int) ({ frames := 4, cells := 0, slots := 0, locals := 85 } : Room) [.ref (b 0), vi r, vi s] (wD g b c I Q P T N rest) (zI fun v w => ((isO s r ∧ v = ((mOf (ow s) r (L s)).length : Int)) ∨ (¬ isO s r ∧ v = -1)) ∧ w = (wD g b c I Q P T N rest)) zN 0 0 := by
  refine zM_of (lv0 := [(0, _), (1, _), (2, _)]) hst rfl (by decide +kernel) (Nat.le_of_ble_eq_true rfl) rfl (fun x hx hf hn => ?_)
  refine zz_aload_n hx dX3_membersByTable_0 rfl ?_
  refine zz_iload_n hx dX3_membersByTable_1 rfl ?_
  refine zz_callVv hx me_X3_requireRecord lk_X3_196 (q_X3_requireRecord hst hI _ r0 hr) 0 rfl rfl ⟨rfl, rfl⟩ (by decide) (by decide) rfl rfl (Nat.le_of_ble_eq_true rfl) dX3_membersByTable_2 (fun _ _ h => h.elim) (fun w2 hp2 => ?_)
  obtain rfl := hp2
  refine zz_aload_n hx dX3_membersByTable_5 rfl ?_
  refine zz_iload_n hx dX3_membersByTable_6 rfl ?_
  refine zz_callVa hx me_X3_requireSet lk_X3_132 (q_X3_requireSet hst hI.1 hI.2.1 s hs) 0 rfl rfl ⟨rfl, rfl⟩ (by decide) (by decide) rfl rfl (Nat.le_of_ble_eq_true rfl) dX3_membersByTable_7 (fun _ _ h => h.elim) (fun r7 w7 hp7 => ?_)
  obtain ⟨rfl, rfl⟩ := hp7
  refine zz_eq (wD_at (s := s) hs.1 hs.2) rfl ?_
  have hs9 := hS s hs.1 hs.2
  refine zz_astore_n (lv' := [(0, _), (1, _), (2, _), (3, _)]) hx dX3_membersByTable_10 (by decide) rfl ?_
  refine zz_aload_n hx dX3_membersByTable_11 rfl ?_
  refine zz_iload_n hx dX3_membersByTable_12 rfl ?_
  refine zz_callVi hx me_X2_owns lk_X3_175 (k_X2_owns hst hs9.1 r (by omega)) _ (sW_at 0) rfl ⟨rfl, rfl⟩ (by decide) (by decide) rfl rfl (Nat.le_of_ble_eq_true rfl) dX3_membersByTable_13 (fun _ _ h => h.elim) (fun r13 w13 hp13 => ?_)
  obtain ⟨rfl, rfl⟩ := hp13
  have ho9 := aS_own hS hs.1 hs.2 r0.1 r0.2
  refine zz_ifb_eq hx 27 dX3_membersByTable_16 rfl (fun c16 => ?_) (fun c16 => ?_)
  · have hv9 : isO s r ∨ ¬ isO s r := Or.inr (fun z9 => c16 (ho9.mpr z9))
    refine zz_iconst hx dX3_membersByTable_27 ?_
    exact zz_iret hx hf dX3_membersByTable_28 (by first | exact ⟨_, rfl, Or.inl ⟨hio, rfl⟩, (wD_at (by omega) (by omega)).symm⟩ | exact ⟨_, rfl, Or.inr ⟨fun z9 => c16 (ho9.mpr z9), rfl⟩, (wD_at (by omega) (by omega)).symm⟩) (by decide) (by decide)
  · have hio := ho9.mp c16
    refine zz_aload_n hx dX3_membersByTable_19 rfl ?_
    refine zz_iload_n hx dX3_membersByTable_20 rfl ?_
    refine zz_callVi hx me_X2_countByTable lk_X3_199 (k_X2_countByTable hst hs9.1 hs9.2.1 r hio) _ (sW_at 0) rfl ⟨rfl, rfl⟩ (by decide) (by decide) rfl rfl (Nat.le_of_ble_eq_true rfl) dX3_membersByTable_21 (fun _ _ h => h.elim) (fun r21 w21 hp21 => ?_)
    obtain ⟨rfl, rfl⟩ := hp21
    refine zz_goto hx 28 dX3_membersByTable_24 rfl ?_
    exact zz_iret hx hf dX3_membersByTable_28 (by first | exact ⟨_, rfl, Or.inl ⟨hio, rfl⟩, (wD_at (by omega) (by omega)).symm⟩ | exact ⟨_, rfl, Or.inr ⟨fun z9 => c16 (ho9.mpr z9), rfl⟩, (wD_at (by omega) (by omega)).symm⟩) (by decide) (by decide)

set_option maxHeartbeats 4000000 in
set_option maxRecDepth 100000 in
theorem q_X3_memberAt {l : Launch} {g : zG} {b : Nat → Nat} {c : Int → Nat → Nat} {I : Nat → Int} {Q : Nat → Int → Int} {P : Int → Nat → Int} {T : Int → Nat → Int → Int} {N : Nat} {rest : va_W} (hst : l.stackTraces = false) (hI : aI I Q N) {ow : Int → Int → Int} {isO : Int → Int → Prop} {L : Int → List Int} (hS : aS P T N ow isO L) (r : Int) (r0 : 0 ≤ r ∧ r < 60) (hr : Q 0 r ≠ -1) (s : Int) (hs : 0 ≤ s ∧ s < (N : Int)) (hio : isO s r) (d : Int) (hd : 0 ≤ d ∧ d < ((mOf (ow s) r (L s)).length : Int)) : zM l g yX3_memberAt cX3_memberAt 5 (Option.some FieldType.int) ({ frames := 4, cells := 0, slots := 0, locals := 85 } : Room) [.ref (b 0), vi r, vi s, vi d] (wD g b c I Q P T N rest) (zI fun v w => v = zat (mOf (ow s) r (L s)) d ∧ w = (wD g b c I Q P T N rest)) zN 0 0 := by
  refine zM_of (lv0 := [(0, _), (1, _), (2, _), (3, _)]) hst rfl (by decide +kernel) (Nat.le_of_ble_eq_true rfl) rfl (fun x hx hf hn => ?_)
  refine zz_aload_n hx dX3_memberAt_0 rfl ?_
  refine zz_iload_n hx dX3_memberAt_1 rfl ?_
  refine zz_callVv hx me_X3_requireRecord lk_X3_196 (q_X3_requireRecord hst hI _ r0 hr) 0 rfl rfl ⟨rfl, rfl⟩ (by decide) (by decide) rfl rfl (Nat.le_of_ble_eq_true rfl) dX3_memberAt_2 (fun _ _ h => h.elim) (fun w2 hp2 => ?_)
  obtain rfl := hp2
  refine zz_aload_n hx dX3_memberAt_5 rfl ?_
  refine zz_iload_n hx dX3_memberAt_6 rfl ?_
  refine zz_callVa hx me_X3_requireSet lk_X3_132 (q_X3_requireSet hst hI.1 hI.2.1 s hs) 0 rfl rfl ⟨rfl, rfl⟩ (by decide) (by decide) rfl rfl (Nat.le_of_ble_eq_true rfl) dX3_memberAt_7 (fun _ _ h => h.elim) (fun r7 w7 hp7 => ?_)
  obtain ⟨rfl, rfl⟩ := hp7
  refine zz_eq (wD_at (s := s) hs.1 hs.2) rfl ?_
  have hs9 := hS s hs.1 hs.2
  refine zz_astore (lv' := [(0, _), (1, _), (2, _), (3, _), (4, _)]) hx dX3_memberAt_10 (by decide) rfl ?_
  refine zz_aload hx dX3_memberAt_12 rfl ?_
  refine zz_iload_n hx dX3_memberAt_14 rfl ?_
  refine zz_callVi hx me_X2_owns lk_X3_175 (k_X2_owns hst hs9.1 r (by omega)) _ (sW_at 0) rfl ⟨rfl, rfl⟩ (by decide) (by decide) rfl rfl (Nat.le_of_ble_eq_true rfl) dX3_memberAt_15 (fun _ _ h => h.elim) (fun r15 w15 hp15 => ?_)
  obtain ⟨rfl, rfl⟩ := hp15
  have ho9 := aS_own hS hs.1 hs.2 r0.1 r0.2
  have hmf := mOf_facts hs9.2.1.1 hio
  refine zz_ifb_ne hx 31 dX3_memberAt_18 rfl (fun c18 => ?_) (fun c18 => ?_)
  · refine zz_iload_n hx dX3_memberAt_31 rfl ?_
    refine zz_if_lt hx 45 dX3_memberAt_32 rfl (by omega) (fun c32 => ?_) (fun c32 => ?_)
    · omega
    · refine zz_iload_n hx dX3_memberAt_35 rfl ?_
      refine zz_aload hx dX3_memberAt_36 rfl ?_
      refine zz_iload_n hx dX3_memberAt_38 rfl ?_
      refine zz_callVi hx me_X2_countByRing lk_X3_157 (k_X2_countByRing hst hs9.1 hs9.2.1 r hio) _ (sW_at 0) rfl ⟨rfl, rfl⟩ (by decide) (by decide) rfl rfl (Nat.le_of_ble_eq_true rfl) dX3_memberAt_39 (fun _ _ h => h.elim) (fun r39 w39 hp39 => ?_)
      obtain ⟨rfl, rfl⟩ := hp39
      refine zz_icmp_lt hx 55 dX3_memberAt_42 rfl (by omega) (by omega) (fun c42 => ?_) (fun c42 => ?_)
      · refine zz_aload hx dX3_memberAt_55 rfl ?_
        refine zz_iload_n hx dX3_memberAt_57 rfl ?_
        refine zz_iload_n hx dX3_memberAt_58 rfl ?_
        refine zz_callVi hx me_X2_memberByPlace lk_X3_206 (k_X2_memberByPlace hst hs9.1 hs9.2.1 r d hio (by omega) (by omega)) _ (sW_at 0) rfl ⟨rfl, rfl⟩ (by decide) (by decide) rfl rfl (Nat.le_of_ble_eq_true rfl) dX3_memberAt_59 (fun _ _ h => h.elim) (fun r59 w59 hp59 => ?_)
        obtain ⟨rfl, rfl⟩ := hp59
        exact zz_iret hx hf dX3_memberAt_62 ⟨_, rfl, rfl, (wD_at (by omega) (by omega)).symm⟩ (by decide) (by decide)
      · omega
  · exact absurd (ho9.mpr hio) c18

set_option maxHeartbeats 4000000 in
set_option maxRecDepth 100000 in
theorem q_X3_wouldErase {l : Launch} {g : zG} {b : Nat → Nat} {c : Int → Nat → Nat} {I : Nat → Int} {Q : Nat → Int → Int} {P : Int → Nat → Int} {T : Int → Nat → Int → Int} {N : Nat} {rest : va_W} (hst : l.stackTraces = false) (hI : aI I Q N) {ow : Int → Int → Int} {isO : Int → Int → Prop} {L : Int → List Int} (hS : aS P T N ow isO L) (r : Int) (r0 : 0 ≤ r ∧ r < 60) (hr : Q 0 r ≠ -1) (y : Int) (hy : 0 ≤ y ∧ y ≤ 2) : zM l g yX3_wouldErase cX3_wouldErase 3 (Option.some FieldType.int) ({ frames := 5, cells := 0, slots := 0, locals := 114 } : Room) [.ref (b 0), vi r, vi y] (wD g b c I Q P T N rest) (zI fun v w => ((w = (wD g b c I Q P T N rest) ∧ v = -1 ∧ y = 0 ∧ ∃ s : Int, 0 ≤ s ∧ s < (N : Int) ∧ (isO s r ∧ 0 < ((mOf (ow s) r (L s)).length : Int))) ∨ ∃ (I1 : Nat → Int) (Q1 : Nat → Int → Int) (D : List Int), w = wD g b c I1 Q1 P T N rest ∧ gOK I1 Q1 D ∧ v = (D.length : Int) ∧ aF I I1 Q Q1 ∧ (y = 0 → ∀ s : Int, 0 ≤ s → s < (N : Int) → ¬ (isO s r ∧ 0 < ((mOf (ow s) r (L s)).length : Int))) ∧ gDm P ow isO L N y r D)) zN 0 0 := by
  refine zM_of (lv0 := [(0, _), (1, _), (2, _)]) hst rfl (by decide +kernel) (Nat.le_of_ble_eq_true rfl) rfl (fun x hx hf hn => ?_)
  refine zz_aload_n hx dX3_wouldErase_0 rfl ?_
  refine zz_iload_n hx dX3_wouldErase_1 rfl ?_
  refine zz_callVv hx me_X3_requireRecord lk_X3_196 (q_X3_requireRecord hst hI _ r0 hr) 0 rfl rfl ⟨rfl, rfl⟩ (by decide) (by decide) rfl rfl (Nat.le_of_ble_eq_true rfl) dX3_wouldErase_2 (fun _ _ h => h.elim) (fun w2 hp2 => ?_)
  obtain rfl := hp2
  refine zz_aload_n hx dX3_wouldErase_5 rfl ?_
  refine zz_iload_n hx dX3_wouldErase_6 rfl ?_
  refine zz_callVv hx me_X3_requireWay lk_X3_119 (q_X3_requireWay hst _ hy) 0 rfl rfl ⟨rfl, rfl⟩ (by decide) (by decide) rfl rfl (Nat.le_of_ble_eq_true rfl) dX3_wouldErase_7 (fun _ _ h => h.elim) (fun w7 hp7 => ?_)
  obtain rfl := hp7
  refine zz_aload_n hx dX3_wouldErase_10 rfl ?_
  refine zz_iload_n hx dX3_wouldErase_11 rfl ?_
  refine zz_iload_n hx dX3_wouldErase_12 rfl ?_
  refine zz_callVi hx me_X3_gatherDoomed lk_X3_122 (k_X3_gatherDoomed hst hI hS r y r0.1 r0.2 hy) 0 rfl rfl ⟨rfl, rfl⟩ (by decide) (by decide) rfl rfl (Nat.le_of_ble_eq_true rfl) dX3_wouldErase_13 (fun _ _ h => h.elim) (fun r13 w13 hp13 => ?_)
  exact zz_iret hx hf dX3_wouldErase_16 ⟨_, rfl, hp13⟩ (by decide) (by decide)
