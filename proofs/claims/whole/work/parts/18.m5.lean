set_option maxHeartbeats 4000000 in
set_option maxRecDepth 100000 in
theorem c_setTypes {l : Launch} {g : zG} {a : Nat → Nat} {F : Nat → Int} {G : Nat → Int → Int} {rest : va_W} (hst : l.stackTraces = false)  : zM l g yX4_setTypes cX4_setTypes 1 (Option.some FieldType.int) ({ frames := 0, cells := 0, slots := 0, locals := 0 } : Room) [.ref (a 0)] (mW g a F G rest) (zI fun v w => v = F 0 ∧ w = mW g a (Fup F 18 0) G rest) zN 0 0 := by
  refine zM_of (lv0 := [(0, _)]) hst rfl (by decide +kernel) (Nat.le_of_ble_eq_true rfl) rfl (fun x hx hf hn => ?_)
  refine zz_aload_n hx dX4_setTypes_0 rfl ?_
  refine zz_iconst hx dX4_setTypes_1 ?_
  refine zm_p18 hx lf_X4_57 dX4_setTypes_2 ?_
  refine zz_aload_n hx dX4_setTypes_5 rfl ?_
  refine zm_g0 hx lf_X4_60 dX4_setTypes_6 ?_
  exact zz_iret hx hf dX4_setTypes_9 ⟨_, rfl, rfl, rfl⟩ (by decide) (by decide)

set_option maxHeartbeats 4000000 in
set_option maxRecDepth 100000 in
theorem c_records {l : Launch} {g : zG} {a : Nat → Nat} {F : Nat → Int} {G : Nat → Int → Int} {rest : va_W} (hst : l.stackTraces = false)  : zM l g yX4_records cX4_records 1 (Option.some FieldType.int) ({ frames := 0, cells := 0, slots := 0, locals := 0 } : Room) [.ref (a 0)] (mW g a F G rest) (zI fun v w => v = F 7 ∧ w = mW g a (Fup F 18 0) G rest) zN 0 0 := by
  refine zM_of (lv0 := [(0, _)]) hst rfl (by decide +kernel) (Nat.le_of_ble_eq_true rfl) rfl (fun x hx hf hn => ?_)
  refine zz_aload_n hx dX4_records_0 rfl ?_
  refine zz_iconst hx dX4_records_1 ?_
  refine zm_p18 hx lf_X4_57 dX4_records_2 ?_
  refine zz_aload_n hx dX4_records_5 rfl ?_
  refine zm_g7 hx lf_X4_85 dX4_records_6 ?_
  exact zz_iret hx hf dX4_records_9 ⟨_, rfl, rfl, rfl⟩ (by decide) (by decide)

set_option maxHeartbeats 4000000 in
set_option maxRecDepth 100000 in
theorem c_current {l : Launch} {g : zG} {a : Nat → Nat} {F : Nat → Int} {G : Nat → Int → Int} {rest : va_W} (hst : l.stackTraces = false)  : zM l g yX4_current cX4_current 1 (Option.some FieldType.int) ({ frames := 0, cells := 0, slots := 0, locals := 0 } : Room) [.ref (a 0)] (mW g a F G rest) (zI fun v w => v = F 14 ∧ w = mW g a (Fup F 18 0) G rest) zN 0 0 := by
  refine zM_of (lv0 := [(0, _)]) hst rfl (by decide +kernel) (Nat.le_of_ble_eq_true rfl) rfl (fun x hx hf hn => ?_)
  refine zz_aload_n hx dX4_current_0 rfl ?_
  refine zz_iconst hx dX4_current_1 ?_
  refine zm_p18 hx lf_X4_57 dX4_current_2 ?_
  refine zz_aload_n hx dX4_current_5 rfl ?_
  refine zm_g14 hx lf_X4_53 dX4_current_6 ?_
  exact zz_iret hx hf dX4_current_9 ⟨_, rfl, rfl, rfl⟩ (by decide) (by decide)

set_option maxHeartbeats 4000000 in
set_option maxRecDepth 100000 in
theorem c_currentOf {l : Launch} {g : zG} {a : Nat → Nat} {F : Nat → Int} {G : Nat → Int → Int} {rest : va_W} (hst : l.stackTraces = false) {Rw : Int → List Int} (h : mI F G Rw) (t : Int) (ht : -2147483648 ≤ t ∧ t < 2147483648) : zM l g yX4_currentOf cX4_currentOf 2 (Option.some FieldType.int) ({ frames := 1, cells := 0, slots := 0, locals := 22 } : Room) [.ref (a 0), vi t] (mW g a F G rest) (zI fun v w => ∃ c : Int, ((c = 0 ∧ (0 ≤ t ∧ t ≤ 3) ∧ v = G 15 t) ∨ (c = 1 ∧ ¬ (0 ≤ t ∧ t ≤ 3))) ∧ w = mW g a (Fup F 18 c) G rest) zN 0 0 := by
  have hF0 := h.1.1
  have hF6 := h.1.2.1
  refine zM_of (lv0 := [(0, _), (1, _)]) hst rfl (by decide +kernel) (Nat.le_of_ble_eq_true rfl) rfl (fun x hx hf hn => ?_)
  refine zz_aload_n hx dX4_currentOf_0 rfl ?_
  refine zz_iload_n hx dX4_currentOf_1 rfl ?_
  refine zz_iconst hx dX4_currentOf_2 ?_
  refine zz_iconst hx dX4_currentOf_3 ?_
  refine zz_callSi hx ms_X4_isIn lk_X4_63 (c_isIn (a := a) (F := F) (G := G) hst _ _ _ (by omega) (by omega) (by omega)) ⟨rfl, rfl⟩ (by decide) (by decide) rfl rfl (Nat.le_of_ble_eq_true rfl) dX4_currentOf_4 (fun _ _ h => h.elim) (fun r4 w4 hp4 => ?_)
  obtain ⟨rfl, rfl⟩ := hp4
  refine zz_ifb_eq hx 14 dX4_currentOf_7 rfl (fun c7 => ?_) (fun c7 => ?_)
  · refine zz_iconst hx dX4_currentOf_14 ?_
    refine zz_callVi hx me_X4_can lk_X4_70 (c_can hst _ (by omega)) 0 rfl rfl ⟨rfl, rfl⟩ (by decide) (by decide) rfl rfl (Nat.le_of_ble_eq_true rfl) dX4_currentOf_15 (fun _ _ h => h.elim) (fun r15 w15 hp15 => ?_)
    obtain ⟨rfl, rfl⟩ := hp15
    refine zz_ifb_eq hx 30 dX4_currentOf_18 rfl (fun _ => ?_) (fun z => absurd z (by decide))
    refine zz_iconst hx dX4_currentOf_30 ?_
    exact zz_iret hx hf dX4_currentOf_31 ⟨_, rfl, by first | exact ⟨0, Or.inl ⟨rfl, by omega, rfl⟩, rfl⟩ | exact ⟨1, Or.inr ⟨rfl, by omega⟩, rfl⟩⟩ (by decide) (by decide)
  · refine zz_iconst hx dX4_currentOf_10 ?_
    refine zz_goto hx 15 dX4_currentOf_11 rfl ?_
    refine zz_callVi hx me_X4_can lk_X4_70 (c_can hst _ (by omega)) 0 rfl rfl ⟨rfl, rfl⟩ (by decide) (by decide) rfl rfl (Nat.le_of_ble_eq_true rfl) dX4_currentOf_15 (fun _ _ h => h.elim) (fun r15 w15 hp15 => ?_)
    obtain ⟨rfl, rfl⟩ := hp15
    refine zz_ifb_eq hx 30 dX4_currentOf_18 rfl (fun z => absurd rfl z) (fun _ => ?_)
    refine zz_aload_n hx dX4_currentOf_21 rfl ?_
    refine zm_g15 hx lf_X4_44 dX4_currentOf_22 ?_
    refine zz_iload_n hx dX4_currentOf_25 rfl ?_
    refine zm_l15 hx dX4_currentOf_26 (by omega) (by omega) ?_
    refine zz_goto hx 31 dX4_currentOf_27 rfl ?_
    exact zz_iret hx hf dX4_currentOf_31 ⟨_, rfl, by first | exact ⟨0, Or.inl ⟨rfl, by omega, rfl⟩, rfl⟩ | exact ⟨1, Or.inr ⟨rfl, by omega⟩, rfl⟩⟩ (by decide) (by decide)

set_option maxHeartbeats 4000000 in
set_option maxRecDepth 100000 in
theorem c_currentIn {l : Launch} {g : zG} {a : Nat → Nat} {F : Nat → Int} {G : Nat → Int → Int} {rest : va_W} (hst : l.stackTraces = false) {Rw : Int → List Int} (h : mI F G Rw) (s : Int) (hs : -2147483648 ≤ s ∧ s < 2147483648) : zM l g yX4_currentIn cX4_currentIn 2 (Option.some FieldType.int) ({ frames := 2, cells := 0, slots := 0, locals := 43 } : Room) [.ref (a 0), vi s] (mW g a F G rest) (zI fun v w => ∃ c : Int, ((c = 0 ∧ (0 ≤ s ∧ s < F 0) ∧ v = G 16 s) ∨ (c = 1 ∧ ¬ (0 ≤ s ∧ s < F 0))) ∧ w = mW g a (Fup F 18 c) G rest) zN 0 0 := by
  have hF0 := h.1.1
  have hF6 := h.1.2.1
  refine zM_of (lv0 := [(0, _), (1, _)]) hst rfl (by decide +kernel) (Nat.le_of_ble_eq_true rfl) rfl (fun x hx hf hn => ?_)
  refine zz_aload_n hx dX4_currentIn_0 rfl ?_
  refine zz_aload_n hx dX4_currentIn_1 rfl ?_
  refine zz_iload_n hx dX4_currentIn_2 rfl ?_
  refine zz_callVi hx me_X4_isSet lk_X4_109 (c_isSet hst _ (by omega) hF0) 0 rfl rfl ⟨rfl, rfl⟩ (by decide) (by decide) rfl rfl (Nat.le_of_ble_eq_true rfl) dX4_currentIn_3 (fun _ _ h => h.elim) (fun r3 w3 hp3 => ?_)
  obtain ⟨rfl, rfl⟩ := hp3
  refine zz_ifb_eq hx 13 dX4_currentIn_6 rfl (fun c6 => ?_) (fun c6 => ?_)
  · refine zz_iconst hx dX4_currentIn_13 ?_
    refine zz_callVi hx me_X4_can lk_X4_70 (c_can hst _ (by omega)) 0 rfl rfl ⟨rfl, rfl⟩ (by decide) (by decide) rfl rfl (Nat.le_of_ble_eq_true rfl) dX4_currentIn_14 (fun _ _ h => h.elim) (fun r14 w14 hp14 => ?_)
    obtain ⟨rfl, rfl⟩ := hp14
    refine zz_ifb_eq hx 29 dX4_currentIn_17 rfl (fun _ => ?_) (fun z => absurd z (by decide))
    refine zz_iconst hx dX4_currentIn_29 ?_
    exact zz_iret hx hf dX4_currentIn_30 ⟨_, rfl, by first | exact ⟨0, Or.inl ⟨rfl, by omega, rfl⟩, rfl⟩ | exact ⟨1, Or.inr ⟨rfl, by omega⟩, rfl⟩⟩ (by decide) (by decide)
  · refine zz_iconst hx dX4_currentIn_9 ?_
    refine zz_goto hx 14 dX4_currentIn_10 rfl ?_
    refine zz_callVi hx me_X4_can lk_X4_70 (c_can hst _ (by omega)) 0 rfl rfl ⟨rfl, rfl⟩ (by decide) (by decide) rfl rfl (Nat.le_of_ble_eq_true rfl) dX4_currentIn_14 (fun _ _ h => h.elim) (fun r14 w14 hp14 => ?_)
    obtain ⟨rfl, rfl⟩ := hp14
    refine zz_ifb_eq hx 29 dX4_currentIn_17 rfl (fun z => absurd rfl z) (fun _ => ?_)
    refine zz_aload_n hx dX4_currentIn_20 rfl ?_
    refine zm_g16 hx lf_X4_47 dX4_currentIn_21 ?_
    refine zz_iload_n hx dX4_currentIn_24 rfl ?_
    refine zm_l16 hx dX4_currentIn_25 (by omega) (by omega) ?_
    refine zz_goto hx 30 dX4_currentIn_26 rfl ?_
    exact zz_iret hx hf dX4_currentIn_30 ⟨_, rfl, by first | exact ⟨0, Or.inl ⟨rfl, by omega, rfl⟩, rfl⟩ | exact ⟨1, Or.inr ⟨rfl, by omega⟩, rfl⟩⟩ (by decide) (by decide)

set_option maxHeartbeats 4000000 in
set_option maxRecDepth 100000 in
theorem c_typeOf {l : Launch} {g : zG} {a : Nat → Nat} {F : Nat → Int} {G : Nat → Int → Int} {rest : va_W} (hst : l.stackTraces = false) {Rw : Int → List Int} (h : mI F G Rw) (r : Int) (hr : -2147483648 ≤ r ∧ r < 2147483648) : zM l g yX4_typeOf cX4_typeOf 2 (Option.some FieldType.int) ({ frames := 2, cells := 0, slots := 0, locals := 43 } : Room) [.ref (a 0), vi r] (mW g a F G rest) (zI fun v w => ∃ c : Int, ((c = 0 ∧ (0 ≤ r ∧ r < F 6 ∧ G 8 r = 1) ∧ v = G 9 r) ∨ (c = 1 ∧ ¬ (0 ≤ r ∧ r < F 6 ∧ G 8 r = 1))) ∧ w = mW g a (Fup F 18 c) G rest) zN 0 0 := by
  have hF0 := h.1.1
  have hF6 := h.1.2.1
  refine zM_of (lv0 := [(0, _), (1, _)]) hst rfl (by decide +kernel) (Nat.le_of_ble_eq_true rfl) rfl (fun x hx hf hn => ?_)
  refine zz_aload_n hx dX4_typeOf_0 rfl ?_
  refine zz_aload_n hx dX4_typeOf_1 rfl ?_
  refine zz_iload_n hx dX4_typeOf_2 rfl ?_
  refine zz_callVi hx me_X4_isRecord lk_X4_115 (c_isRecord hst _ (by omega) hF6 (fun r h1 h2 => (h.1.2.2.2.1 r h1 h2).2.2)) 0 rfl rfl ⟨rfl, rfl⟩ (by decide) (by decide) rfl rfl (Nat.le_of_ble_eq_true rfl) dX4_typeOf_3 (fun _ _ h => h.elim) (fun r3 w3 hp3 => ?_)
  obtain ⟨rfl, rfl⟩ := hp3
  refine zz_ifb_eq hx 13 dX4_typeOf_6 rfl (fun c6 => ?_) (fun c6 => ?_)
  · refine zz_iconst hx dX4_typeOf_13 ?_
    refine zz_callVi hx me_X4_can lk_X4_70 (c_can hst _ (by omega)) 0 rfl rfl ⟨rfl, rfl⟩ (by decide) (by decide) rfl rfl (Nat.le_of_ble_eq_true rfl) dX4_typeOf_14 (fun _ _ h => h.elim) (fun r14 w14 hp14 => ?_)
    obtain ⟨rfl, rfl⟩ := hp14
    refine zz_ifb_eq hx 29 dX4_typeOf_17 rfl (fun _ => ?_) (fun z => absurd z (by decide))
    refine zz_iconst hx dX4_typeOf_29 ?_
    exact zz_iret hx hf dX4_typeOf_30 ⟨_, rfl, by first | exact ⟨0, Or.inl ⟨rfl, by omega, rfl⟩, rfl⟩ | exact ⟨1, Or.inr ⟨rfl, by omega⟩, rfl⟩⟩ (by decide) (by decide)
  · refine zz_iconst hx dX4_typeOf_9 ?_
    refine zz_goto hx 14 dX4_typeOf_10 rfl ?_
    refine zz_callVi hx me_X4_can lk_X4_70 (c_can hst _ (by omega)) 0 rfl rfl ⟨rfl, rfl⟩ (by decide) (by decide) rfl rfl (Nat.le_of_ble_eq_true rfl) dX4_typeOf_14 (fun _ _ h => h.elim) (fun r14 w14 hp14 => ?_)
    obtain ⟨rfl, rfl⟩ := hp14
    refine zz_ifb_eq hx 29 dX4_typeOf_17 rfl (fun z => absurd rfl z) (fun _ => ?_)
    refine zz_aload_n hx dX4_typeOf_20 rfl ?_
    refine zm_g9 hx lf_X4_29 dX4_typeOf_21 ?_
    refine zz_iload_n hx dX4_typeOf_24 rfl ?_
    refine zm_l9 hx dX4_typeOf_25 (by omega) (by omega) ?_
    refine zz_goto hx 30 dX4_typeOf_26 rfl ?_
    exact zz_iret hx hf dX4_typeOf_30 ⟨_, rfl, by first | exact ⟨0, Or.inl ⟨rfl, by omega, rfl⟩, rfl⟩ | exact ⟨1, Or.inr ⟨rfl, by omega⟩, rfl⟩⟩ (by decide) (by decide)

set_option maxHeartbeats 4000000 in
set_option maxRecDepth 100000 in
theorem c_valueOf {l : Launch} {g : zG} {a : Nat → Nat} {F : Nat → Int} {G : Nat → Int → Int} {rest : va_W} (hst : l.stackTraces = false) {Rw : Int → List Int} (h : mI F G Rw) (r : Int) (hr : -2147483648 ≤ r ∧ r < 2147483648) : zM l g yX4_valueOf cX4_valueOf 2 (Option.some FieldType.int) ({ frames := 2, cells := 0, slots := 0, locals := 43 } : Room) [.ref (a 0), vi r] (mW g a F G rest) (zI fun v w => ∃ c : Int, ((c = 0 ∧ (0 ≤ r ∧ r < F 6 ∧ G 8 r = 1) ∧ v = G 10 r) ∨ (c = 1 ∧ ¬ (0 ≤ r ∧ r < F 6 ∧ G 8 r = 1))) ∧ w = mW g a (Fup F 18 c) G rest) zN 0 0 := by
  have hF0 := h.1.1
  have hF6 := h.1.2.1
  refine zM_of (lv0 := [(0, _), (1, _)]) hst rfl (by decide +kernel) (Nat.le_of_ble_eq_true rfl) rfl (fun x hx hf hn => ?_)
  refine zz_aload_n hx dX4_valueOf_0 rfl ?_
  refine zz_aload_n hx dX4_valueOf_1 rfl ?_
  refine zz_iload_n hx dX4_valueOf_2 rfl ?_
  refine zz_callVi hx me_X4_isRecord lk_X4_115 (c_isRecord hst _ (by omega) hF6 (fun r h1 h2 => (h.1.2.2.2.1 r h1 h2).2.2)) 0 rfl rfl ⟨rfl, rfl⟩ (by decide) (by decide) rfl rfl (Nat.le_of_ble_eq_true rfl) dX4_valueOf_3 (fun _ _ h => h.elim) (fun r3 w3 hp3 => ?_)
  obtain ⟨rfl, rfl⟩ := hp3
  refine zz_ifb_eq hx 13 dX4_valueOf_6 rfl (fun c6 => ?_) (fun c6 => ?_)
  · refine zz_iconst hx dX4_valueOf_13 ?_
    refine zz_callVi hx me_X4_can lk_X4_70 (c_can hst _ (by omega)) 0 rfl rfl ⟨rfl, rfl⟩ (by decide) (by decide) rfl rfl (Nat.le_of_ble_eq_true rfl) dX4_valueOf_14 (fun _ _ h => h.elim) (fun r14 w14 hp14 => ?_)
    obtain ⟨rfl, rfl⟩ := hp14
    refine zz_ifb_eq hx 29 dX4_valueOf_17 rfl (fun _ => ?_) (fun z => absurd z (by decide))
    refine zz_iconst hx dX4_valueOf_29 ?_
    exact zz_iret hx hf dX4_valueOf_30 ⟨_, rfl, by first | exact ⟨0, Or.inl ⟨rfl, by omega, rfl⟩, rfl⟩ | exact ⟨1, Or.inr ⟨rfl, by omega⟩, rfl⟩⟩ (by decide) (by decide)
  · refine zz_iconst hx dX4_valueOf_9 ?_
    refine zz_goto hx 14 dX4_valueOf_10 rfl ?_
    refine zz_callVi hx me_X4_can lk_X4_70 (c_can hst _ (by omega)) 0 rfl rfl ⟨rfl, rfl⟩ (by decide) (by decide) rfl rfl (Nat.le_of_ble_eq_true rfl) dX4_valueOf_14 (fun _ _ h => h.elim) (fun r14 w14 hp14 => ?_)
    obtain ⟨rfl, rfl⟩ := hp14
    refine zz_ifb_eq hx 29 dX4_valueOf_17 rfl (fun z => absurd rfl z) (fun _ => ?_)
    refine zz_aload_n hx dX4_valueOf_20 rfl ?_
    refine zm_g10 hx lf_X4_32 dX4_valueOf_21 ?_
    refine zz_iload_n hx dX4_valueOf_24 rfl ?_
    refine zm_l10 hx dX4_valueOf_25 (by omega) (by omega) ?_
    refine zz_goto hx 30 dX4_valueOf_26 rfl ?_
    exact zz_iret hx hf dX4_valueOf_30 ⟨_, rfl, by first | exact ⟨0, Or.inl ⟨rfl, by omega, rfl⟩, rfl⟩ | exact ⟨1, Or.inr ⟨rfl, by omega⟩, rfl⟩⟩ (by decide) (by decide)

set_option maxHeartbeats 4000000 in
set_option maxRecDepth 100000 in
theorem c_areAsked {l : Launch} {g : zG} {a : Nat → Nat} {F : Nat → Int} {G : Nat → Int → Int} {rest : va_W} (hst : l.stackTraces = false) {Rw : Int → List Int} (h : mI F G Rw) (r : Int) (hr : -2147483648 ≤ r ∧ r < 2147483648) (s : Int) (hs : -2147483648 ≤ s ∧ s < 2147483648) : zM l g yX4_areAsked cX4_areAsked 3 (Option.some FieldType.boolean) ({ frames := 2, cells := 0, slots := 0, locals := 43 } : Room) [.ref (a 0), vi r, vi s] (mW g a F G rest) (zI fun v w => v = zb ((0 ≤ r ∧ r < F 6 ∧ G 8 r = 1) ∧ 0 ≤ s ∧ s < F 0) ∧ w = mW g a (Fup F 18 (if ((0 ≤ r ∧ r < F 6 ∧ G 8 r = 1) ∧ 0 ≤ s ∧ s < F 0) then 0 else 1)) G rest) zN 0 0 := by
  have hF0 := h.1.1
  have hF6 := h.1.2.1
  refine zM_of (lv0 := [(0, _), (1, _), (2, _)]) hst rfl (by decide +kernel) (Nat.le_of_ble_eq_true rfl) rfl (fun x hx hf hn => ?_)
  refine zz_aload_n hx dX4_areAsked_0 rfl ?_
  refine zz_aload_n hx dX4_areAsked_1 rfl ?_
  refine zz_iload_n hx dX4_areAsked_2 rfl ?_
  refine zz_callVi hx me_X4_isRecord lk_X4_115 (c_isRecord hst _ (by omega) hF6 (fun r h1 h2 => (h.1.2.2.2.1 r h1 h2).2.2)) 0 rfl rfl ⟨rfl, rfl⟩ (by decide) (by decide) rfl rfl (Nat.le_of_ble_eq_true rfl) dX4_areAsked_3 (fun _ _ h => h.elim) (fun r3 w3 hp3 => ?_)
  obtain ⟨rfl, rfl⟩ := hp3
  refine zz_ifb_eq hx 21 dX4_areAsked_6 rfl (fun c6 => ?_) (fun c6 => ?_)
  · refine zz_iconst hx dX4_areAsked_21 ?_
    refine zz_callVi hx me_X4_can lk_X4_70 (c_can hst _ (by omega)) 0 rfl rfl ⟨rfl, rfl⟩ (by decide) (by decide) rfl rfl (Nat.le_of_ble_eq_true rfl) dX4_areAsked_22 (fun _ _ h => h.elim) (fun r22 w22 hp22 => ?_)
    obtain ⟨rfl, rfl⟩ := hp22
    exact zz_zret hx hf dX4_areAsked_25 (by first | decide | exact zb_01 _) ⟨_, rfl, by first | (rw [if_pos (by omega : ((0 ≤ r ∧ r < F 6 ∧ G 8 r = 1) ∧ 0 ≤ s ∧ s < F 0))]; exact ⟨zb_congr (by omega), rfl⟩) | (rw [if_neg (by omega : ¬ ((0 ≤ r ∧ r < F 6 ∧ G 8 r = 1) ∧ 0 ≤ s ∧ s < F 0))]; exact ⟨zb_congr (by omega), rfl⟩)⟩ (by decide) (by decide)
  · refine zz_aload_n hx dX4_areAsked_9 rfl ?_
    refine zz_iload_n hx dX4_areAsked_10 rfl ?_
    refine zz_callVi hx me_X4_isSet lk_X4_109 (c_isSet hst _ (by omega) hF0) 0 rfl rfl ⟨rfl, rfl⟩ (by decide) (by decide) rfl rfl (Nat.le_of_ble_eq_true rfl) dX4_areAsked_11 (fun _ _ h => h.elim) (fun r11 w11 hp11 => ?_)
    obtain ⟨rfl, rfl⟩ := hp11
    refine zz_ifb_eq hx 21 dX4_areAsked_14 rfl (fun c14 => ?_) (fun c14 => ?_)
    · refine zz_iconst hx dX4_areAsked_21 ?_
      refine zz_callVi hx me_X4_can lk_X4_70 (c_can hst _ (by omega)) 0 rfl rfl ⟨rfl, rfl⟩ (by decide) (by decide) rfl rfl (Nat.le_of_ble_eq_true rfl) dX4_areAsked_22 (fun _ _ h => h.elim) (fun r22 w22 hp22 => ?_)
      obtain ⟨rfl, rfl⟩ := hp22
      exact zz_zret hx hf dX4_areAsked_25 (by first | decide | exact zb_01 _) ⟨_, rfl, by first | (rw [if_pos (by omega : ((0 ≤ r ∧ r < F 6 ∧ G 8 r = 1) ∧ 0 ≤ s ∧ s < F 0))]; exact ⟨zb_congr (by omega), rfl⟩) | (rw [if_neg (by omega : ¬ ((0 ≤ r ∧ r < F 6 ∧ G 8 r = 1) ∧ 0 ≤ s ∧ s < F 0))]; exact ⟨zb_congr (by omega), rfl⟩)⟩ (by decide) (by decide)
    · refine zz_iconst hx dX4_areAsked_17 ?_
      refine zz_goto hx 22 dX4_areAsked_18 rfl ?_
      refine zz_callVi hx me_X4_can lk_X4_70 (c_can hst _ (by omega)) 0 rfl rfl ⟨rfl, rfl⟩ (by decide) (by decide) rfl rfl (Nat.le_of_ble_eq_true rfl) dX4_areAsked_22 (fun _ _ h => h.elim) (fun r22 w22 hp22 => ?_)
      obtain ⟨rfl, rfl⟩ := hp22
      exact zz_zret hx hf dX4_areAsked_25 (by first | decide | exact zb_01 _) ⟨_, rfl, by first | (rw [if_pos (by omega : ((0 ≤ r ∧ r < F 6 ∧ G 8 r = 1) ∧ 0 ≤ s ∧ s < F 0))]; exact ⟨zb_congr (by omega), rfl⟩) | (rw [if_neg (by omega : ¬ ((0 ≤ r ∧ r < F 6 ∧ G 8 r = 1) ∧ 0 ≤ s ∧ s < F 0))]; exact ⟨zb_congr (by omega), rfl⟩)⟩ (by decide) (by decide)

set_option maxHeartbeats 4000000 in
set_option maxRecDepth 100000 in
theorem c_ownerOf {l : Launch} {g : zG} {a : Nat → Nat} {F : Nat → Int} {G : Nat → Int → Int} {rest : va_W} (hst : l.stackTraces = false) {Rw : Int → List Int} (h : mI F G Rw) (r : Int) (hr : -2147483648 ≤ r ∧ r < 2147483648) (s : Int) (hs : -2147483648 ≤ s ∧ s < 2147483648) : zM l g yX4_ownerOf cX4_ownerOf 3 (Option.some FieldType.int) ({ frames := 3, cells := 0, slots := 0, locals := 65 } : Room) [.ref (a 0), vi r, vi s] (mW g a F G rest) (zI fun v w => ∃ c : Int, ((c = 0 ∧ ((0 ≤ r ∧ r < F 6 ∧ G 8 r = 1) ∧ 0 ≤ s ∧ s < F 0) ∧ v = G 11 (60 * s + r)) ∨ (c = 1 ∧ ¬ ((0 ≤ r ∧ r < F 6 ∧ G 8 r = 1) ∧ 0 ≤ s ∧ s < F 0))) ∧ w = mW g a (Fup F 18 c) G rest) zN 0 0 := by
  have hF0 := h.1.1
  have hF6 := h.1.2.1
  refine zM_of (lv0 := [(0, _), (1, _), (2, _)]) hst rfl (by decide +kernel) (Nat.le_of_ble_eq_true rfl) rfl (fun x hx hf hn => ?_)
  refine zz_aload_n hx dX4_ownerOf_0 rfl ?_
  refine zz_iload_n hx dX4_ownerOf_1 rfl ?_
  refine zz_iload_n hx dX4_ownerOf_2 rfl ?_
  refine zz_callVi hx me_X4_areAsked lk_X4_121 (c_areAsked hst h _ (by omega) _ (by omega)) 0 rfl rfl ⟨rfl, rfl⟩ (by decide) (by decide) rfl rfl (Nat.le_of_ble_eq_true rfl) dX4_ownerOf_3 (fun _ _ h => h.elim) (fun r3 w3 hp3 => ?_)
  obtain ⟨rfl, rfl⟩ := hp3
  refine zz_ifb_eq hx 18 dX4_ownerOf_6 rfl (fun c6 => ?_) (fun c6 => ?_)
  · refine zz_iconst hx dX4_ownerOf_18 ?_
    exact zz_iret hx hf dX4_ownerOf_19 ⟨_, rfl, by first | (rw [if_pos (by omega : ((0 ≤ r ∧ r < F 6 ∧ G 8 r = 1) ∧ 0 ≤ s ∧ s < F 0))]; exact ⟨0, Or.inl ⟨rfl, by omega, rfl⟩, rfl⟩) | (rw [if_neg (by omega : ¬ ((0 ≤ r ∧ r < F 6 ∧ G 8 r = 1) ∧ 0 ≤ s ∧ s < F 0))]; exact ⟨1, Or.inr ⟨rfl, by omega⟩, rfl⟩)⟩ (by decide) (by decide)
  · refine zz_aload_n hx dX4_ownerOf_9 rfl ?_
    refine zz_iload_n hx dX4_ownerOf_10 rfl ?_
    refine zz_iload_n hx dX4_ownerOf_11 rfl ?_
    refine zz_callVi hx me_X4_ownerIn lk_X4_78 (c_ownerIn hst _ _ (by omega) (by omega) (by omega) (by omega)) 0 rfl rfl ⟨rfl, rfl⟩ (by decide) (by decide) rfl rfl (Nat.le_of_ble_eq_true rfl) dX4_ownerOf_12 (fun _ _ h => h.elim) (fun r12 w12 hp12 => ?_)
    obtain ⟨rfl, rfl⟩ := hp12
    refine zz_goto hx 19 dX4_ownerOf_15 rfl ?_
    exact zz_iret hx hf dX4_ownerOf_19 ⟨_, rfl, by first | (rw [if_pos (by omega : ((0 ≤ r ∧ r < F 6 ∧ G 8 r = 1) ∧ 0 ≤ s ∧ s < F 0))]; exact ⟨0, Or.inl ⟨rfl, by omega, rfl⟩, rfl⟩) | (rw [if_neg (by omega : ¬ ((0 ≤ r ∧ r < F 6 ∧ G 8 r = 1) ∧ 0 ≤ s ∧ s < F 0))]; exact ⟨1, Or.inr ⟨rfl, by omega⟩, rfl⟩)⟩ (by decide) (by decide)

set_option maxHeartbeats 4000000 in
set_option maxRecDepth 100000 in
theorem c_countOf {l : Launch} {g : zG} {a : Nat → Nat} {F : Nat → Int} {G : Nat → Int → Int} {rest : va_W} (hst : l.stackTraces = false) {Rw : Int → List Int} (h : mS F G Rw) (r s : Int) (r0 : 0 ≤ r) (r1 : r < F 6) (s0 : 0 ≤ s) (s1 : s < F 0) : zM l g yX4_countOf cX4_countOf 3 (Option.some FieldType.int) ({ frames := 2, cells := 0, slots := 0, locals := 46 } : Room) [.ref (a 0), vi r, vi s] (mW g a F G rest) (zI fun v w => v = (if G 9 r = G 1 s then ((zmem G s r (Rw s)).length : Int) else -1) ∧ w = mW g a F G rest) zN 0 0 := by
  have hF0 := h.1
  have hF6 := h.2.1
  have hd := h.2.2.1 s s0 s1
  have hvr := h.2.2.2.1 r r0 r1
  refine zM_of (lv0 := [(0, _), (1, _), (2, _)]) hst rfl (by decide +kernel) (Nat.le_of_ble_eq_true rfl) rfl (fun x hx hf hn => ?_)
  refine zz_aload_n hx dX4_countOf_0 rfl ?_
  refine zm_g9 hx lf_X4_29 dX4_countOf_1 ?_
  refine zz_iload_n hx dX4_countOf_4 rfl ?_
  refine zm_l9 hx dX4_countOf_5 (by omega) (by omega) ?_
  refine zz_aload_n hx dX4_countOf_6 rfl ?_
  refine zm_g1 hx lf_X4_7 dX4_countOf_7 ?_
  refine zz_iload_n hx dX4_countOf_10 rfl ?_
  refine zm_l1 hx dX4_countOf_11 (by omega) (by omega) ?_
  refine zz_icmp_ne hx 24 dX4_countOf_12 rfl (by omega) (by omega) (fun c12 => ?_) (fun c12 => ?_)
  · refine zz_iconst hx dX4_countOf_24 ?_
    exact zz_iret hx hf dX4_countOf_25 ⟨_, rfl, by first | rw [if_pos c12] | rw [if_neg c12], rfl⟩ (by decide) (by decide)
  · refine zz_aload_n hx dX4_countOf_15 rfl ?_
    refine zz_iload_n hx dX4_countOf_16 rfl ?_
    refine zz_iload_n hx dX4_countOf_17 rfl ?_
    refine zz_callVi hx me_X4_membersOf lk_X4_112 (c_membersOf hst h _ _ (by omega) (by omega) (by omega)) 0 rfl rfl ⟨rfl, rfl⟩ (by decide) (by decide) rfl rfl (Nat.le_of_ble_eq_true rfl) dX4_countOf_18 (fun _ _ h => h.elim) (fun r18 w18 hp18 => ?_)
    obtain ⟨rfl, rfl⟩ := hp18
    refine zz_goto hx 25 dX4_countOf_21 rfl ?_
    exact zz_iret hx hf dX4_countOf_25 ⟨_, rfl, by first | rw [if_pos c12] | rw [if_neg c12], rfl⟩ (by decide) (by decide)

set_option maxHeartbeats 4000000 in
set_option maxRecDepth 100000 in
theorem c_members {l : Launch} {g : zG} {a : Nat → Nat} {F : Nat → Int} {G : Nat → Int → Int} {rest : va_W} (hst : l.stackTraces = false) {Rw : Int → List Int} (h : mI F G Rw) (r : Int) (hr : -2147483648 ≤ r ∧ r < 2147483648) (s : Int) (hs : -2147483648 ≤ s ∧ s < 2147483648) : zM l g yX4_members cX4_members 3 (Option.some FieldType.int) ({ frames := 3, cells := 0, slots := 0, locals := 68 } : Room) [.ref (a 0), vi r, vi s] (mW g a F G rest) (zI fun v w => ∃ c : Int, ((c = 0 ∧ ((0 ≤ r ∧ r < F 6 ∧ G 8 r = 1) ∧ 0 ≤ s ∧ s < F 0) ∧ v = (if G 9 r = G 1 s then ((zmem G s r (Rw s)).length : Int) else -1)) ∨ (c = 1 ∧ ¬ ((0 ≤ r ∧ r < F 6 ∧ G 8 r = 1) ∧ 0 ≤ s ∧ s < F 0))) ∧ w = mW g a (Fup F 18 c) G rest) zN 0 0 := by
  have hF0 := h.1.1
  have hF6 := h.1.2.1
  refine zM_of (lv0 := [(0, _), (1, _), (2, _)]) hst rfl (by decide +kernel) (Nat.le_of_ble_eq_true rfl) rfl (fun x hx hf hn => ?_)
  refine zz_aload_n hx dX4_members_0 rfl ?_
  refine zz_iload_n hx dX4_members_1 rfl ?_
  refine zz_iload_n hx dX4_members_2 rfl ?_
  refine zz_callVi hx me_X4_areAsked lk_X4_121 (c_areAsked hst h _ (by omega) _ (by omega)) 0 rfl rfl ⟨rfl, rfl⟩ (by decide) (by decide) rfl rfl (Nat.le_of_ble_eq_true rfl) dX4_members_3 (fun _ _ h => h.elim) (fun r3 w3 hp3 => ?_)
  obtain ⟨rfl, rfl⟩ := hp3
  refine zz_ifb_eq hx 18 dX4_members_6 rfl (fun c6 => ?_) (fun c6 => ?_)
  · refine zz_iconst hx dX4_members_18 ?_
    exact zz_iret hx hf dX4_members_19 ⟨_, rfl, by first | (rw [if_pos (by omega : ((0 ≤ r ∧ r < F 6 ∧ G 8 r = 1) ∧ 0 ≤ s ∧ s < F 0))]; exact ⟨0, Or.inl ⟨rfl, by omega, rfl⟩, rfl⟩) | (rw [if_neg (by omega : ¬ ((0 ≤ r ∧ r < F 6 ∧ G 8 r = 1) ∧ 0 ≤ s ∧ s < F 0))]; exact ⟨1, Or.inr ⟨rfl, by omega⟩, rfl⟩)⟩ (by decide) (by decide)
  · refine zz_aload_n hx dX4_members_9 rfl ?_
    refine zz_iload_n hx dX4_members_10 rfl ?_
    refine zz_iload_n hx dX4_members_11 rfl ?_
    refine zz_callVi hx me_X4_countOf lk_X4_125 (c_countOf (F := Fup F 18 _) hst (mS_18 h.1) _ _ (by omega) (show _ < F 6 by omega) (by omega) (show _ < F 0 by omega)) 0 rfl rfl ⟨rfl, rfl⟩ (by decide) (by decide) rfl rfl (Nat.le_of_ble_eq_true rfl) dX4_members_12 (fun _ _ h => h.elim) (fun r12 w12 hp12 => ?_)
    obtain ⟨rfl, rfl⟩ := hp12
    refine zz_goto hx 19 dX4_members_15 rfl ?_
    exact zz_iret hx hf dX4_members_19 ⟨_, rfl, by first | (rw [if_pos (by omega : ((0 ≤ r ∧ r < F 6 ∧ G 8 r = 1) ∧ 0 ≤ s ∧ s < F 0))]; exact ⟨0, Or.inl ⟨rfl, by omega, rfl⟩, rfl⟩) | (rw [if_neg (by omega : ¬ ((0 ≤ r ∧ r < F 6 ∧ G 8 r = 1) ∧ 0 ≤ s ∧ s < F 0))]; exact ⟨1, Or.inr ⟨rfl, by omega⟩, rfl⟩)⟩ (by decide) (by decide)

set_option maxHeartbeats 4000000 in
set_option maxRecDepth 100000 in
theorem c_membersByTable {l : Launch} {g : zG} {a : Nat → Nat} {F : Nat → Int} {G : Nat → Int → Int} {rest : va_W} (hst : l.stackTraces = false) {Rw : Int → List Int} (h : mI F G Rw) (r : Int) (hr : -2147483648 ≤ r ∧ r < 2147483648) (s : Int) (hs : -2147483648 ≤ s ∧ s < 2147483648) : zM l g yX4_membersByTable cX4_membersByTable 3 (Option.some FieldType.int) ({ frames := 3, cells := 0, slots := 0, locals := 68 } : Room) [.ref (a 0), vi r, vi s] (mW g a F G rest) (zI fun v w => ∃ c : Int, ((c = 0 ∧ ((0 ≤ r ∧ r < F 6 ∧ G 8 r = 1) ∧ 0 ≤ s ∧ s < F 0) ∧ v = (if G 9 r = G 1 s then ((zmem G s r (Rw s)).length : Int) else -1)) ∨ (c = 1 ∧ ¬ ((0 ≤ r ∧ r < F 6 ∧ G 8 r = 1) ∧ 0 ≤ s ∧ s < F 0))) ∧ w = mW g a (Fup F 18 c) G rest) zN 0 0 := by
  have hF0 := h.1.1
  have hF6 := h.1.2.1
  refine zM_of (lv0 := [(0, _), (1, _), (2, _)]) hst rfl (by decide +kernel) (Nat.le_of_ble_eq_true rfl) rfl (fun x hx hf hn => ?_)
  refine zz_aload_n hx dX4_membersByTable_0 rfl ?_
  refine zz_iload_n hx dX4_membersByTable_1 rfl ?_
  refine zz_iload_n hx dX4_membersByTable_2 rfl ?_
  refine zz_callVi hx me_X4_areAsked lk_X4_121 (c_areAsked hst h _ (by omega) _ (by omega)) 0 rfl rfl ⟨rfl, rfl⟩ (by decide) (by decide) rfl rfl (Nat.le_of_ble_eq_true rfl) dX4_membersByTable_3 (fun _ _ h => h.elim) (fun r3 w3 hp3 => ?_)
  obtain ⟨rfl, rfl⟩ := hp3
  refine zz_ifb_eq hx 18 dX4_membersByTable_6 rfl (fun c6 => ?_) (fun c6 => ?_)
  · refine zz_iconst hx dX4_membersByTable_18 ?_
    exact zz_iret hx hf dX4_membersByTable_19 ⟨_, rfl, by first | (rw [if_pos (by omega : ((0 ≤ r ∧ r < F 6 ∧ G 8 r = 1) ∧ 0 ≤ s ∧ s < F 0))]; exact ⟨0, Or.inl ⟨rfl, by omega, rfl⟩, rfl⟩) | (rw [if_neg (by omega : ¬ ((0 ≤ r ∧ r < F 6 ∧ G 8 r = 1) ∧ 0 ≤ s ∧ s < F 0))]; exact ⟨1, Or.inr ⟨rfl, by omega⟩, rfl⟩)⟩ (by decide) (by decide)
  · refine zz_aload_n hx dX4_membersByTable_9 rfl ?_
    refine zz_iload_n hx dX4_membersByTable_10 rfl ?_
    refine zz_iload_n hx dX4_membersByTable_11 rfl ?_
    refine zz_callVi hx me_X4_countOf lk_X4_125 (c_countOf (F := Fup F 18 _) hst (mS_18 h.1) _ _ (by omega) (show _ < F 6 by omega) (by omega) (show _ < F 0 by omega)) 0 rfl rfl ⟨rfl, rfl⟩ (by decide) (by decide) rfl rfl (Nat.le_of_ble_eq_true rfl) dX4_membersByTable_12 (fun _ _ h => h.elim) (fun r12 w12 hp12 => ?_)
    obtain ⟨rfl, rfl⟩ := hp12
    refine zz_goto hx 19 dX4_membersByTable_15 rfl ?_
    exact zz_iret hx hf dX4_membersByTable_19 ⟨_, rfl, by first | (rw [if_pos (by omega : ((0 ≤ r ∧ r < F 6 ∧ G 8 r = 1) ∧ 0 ≤ s ∧ s < F 0))]; exact ⟨0, Or.inl ⟨rfl, by omega, rfl⟩, rfl⟩) | (rw [if_neg (by omega : ¬ ((0 ≤ r ∧ r < F 6 ∧ G 8 r = 1) ∧ 0 ≤ s ∧ s < F 0))]; exact ⟨1, Or.inr ⟨rfl, by omega⟩, rfl⟩)⟩ (by decide) (by decide)
