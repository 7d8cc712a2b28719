set_option maxHeartbeats 4000000 in
set_option maxRecDepth 100000 in
theorem c_thrown {l : Launch} {g : zG} {a : Nat → Nat} {F : Nat → Int} {G : Nat → Int → Int} {rest : va_W} (hst : l.stackTraces = false)  : zM l g yX4_thrown cX4_thrown 1 (Option.some FieldType.int) ({ frames := 0, cells := 0, slots := 0, locals := 0 } : Room) [.ref (a 0)] (mW g a F G rest) (zI fun r w => r = F 18 ∧ w = mW g a F G rest) zN 0 0 := by
  refine zM_of (lv0 := [(0, _)]) hst rfl (by decide +kernel) (Nat.le_of_ble_eq_true rfl) rfl (fun x hx hf hn => ?_)
  refine zz_aload_n hx dX4_thrown_0 rfl ?_
  refine zm_g18 hx lf_X4_57 dX4_thrown_1 ?_
  exact zz_iret hx hf dX4_thrown_4 ⟨_, rfl, rfl, rfl⟩ (by decide) (by decide)

set_option maxHeartbeats 4000000 in
set_option maxRecDepth 100000 in
theorem c_can {l : Launch} {g : zG} {a : Nat → Nat} {F : Nat → Int} {G : Nat → Int → Int} {rest : va_W} (hst : l.stackTraces = false) (f : Int) (hf0 : 0 ≤ f ∧ f < 3) : zM l g yX4_can cX4_can 2 (Option.some FieldType.boolean) ({ frames := 0, cells := 0, slots := 0, locals := 0 } : Room) [.ref (a 0), vi f] (mW g a F G rest) (zI fun r w => r = zb (f = 0) ∧ w = mW g a (Fup F 18 f) G rest) zN 0 0 := by
  refine zM_of (lv0 := [(0, _), (1, _)]) hst rfl (by decide +kernel) (Nat.le_of_ble_eq_true rfl) rfl (fun x hx hf hn => ?_)
  refine zz_aload_n hx dX4_can_0 rfl ?_
  refine zz_iload_n hx dX4_can_1 rfl ?_
  refine zm_p18 hx lf_X4_57 dX4_can_2 ?_
  refine zz_iload_n hx dX4_can_5 rfl ?_
  refine zz_if_ne hx 13 dX4_can_6 rfl (by omega) (fun c6 => ?_) (fun c6 => ?_)
  · refine zz_iconst hx dX4_can_13 ?_
    exact zz_zret hx hf dX4_can_14 (by first | decide | exact zb_01 _) ⟨_, rfl, by first | exact (zb_t (by omega)).symm | exact (zb_f (by omega)).symm, rfl⟩ (by decide) (by decide)
  · refine zz_iconst hx dX4_can_9 ?_
    refine zz_goto hx 14 dX4_can_10 rfl ?_
    exact zz_zret hx hf dX4_can_14 (by first | decide | exact zb_01 _) ⟨_, rfl, by first | exact (zb_t (by omega)).symm | exact (zb_f (by omega)).symm, rfl⟩ (by decide) (by decide)

set_option maxHeartbeats 4000000 in
set_option maxRecDepth 100000 in
theorem c_isIn {l : Launch} {g : zG} {a : Nat → Nat} {F : Nat → Int} {G : Nat → Int → Int} {rest : va_W} (hst : l.stackTraces = false) (n b c : Int) (hn : -2147483648 ≤ n ∧ n < 2147483648) (hb : -2147483648 ≤ b ∧ b < 2147483648) (hc : -2147483648 ≤ c ∧ c < 2147483648) : zM l g yX4_isIn cX4_isIn 3 (Option.some FieldType.boolean) ({ frames := 0, cells := 0, slots := 0, locals := 0 } : Room) [vi n, vi b, vi c] (mW g a F G rest) (zI fun r w => r = zb (b ≤ n ∧ n ≤ c) ∧ w = mW g a F G rest) zN 0 0 := by
  refine zM_of (lv0 := [(0, _), (1, _), (2, _)]) hst rfl (by decide +kernel) (Nat.le_of_ble_eq_true rfl) rfl (fun x hx hf hn => ?_)
  refine zz_iload_n hx dX4_isIn_0 rfl ?_
  refine zz_iload_n hx dX4_isIn_1 rfl ?_
  refine zz_icmp_lt hx 14 dX4_isIn_2 rfl (by omega) (by omega) (fun c2 => ?_) (fun c2 => ?_)
  · refine zz_iconst hx dX4_isIn_14 ?_
    exact zz_zret hx hf dX4_isIn_15 (by first | decide | exact zb_01 _) ⟨_, rfl, by first | exact (zb_t (by omega)).symm | exact (zb_f (by omega)).symm, rfl⟩ (by decide) (by decide)
  · refine zz_iload_n hx dX4_isIn_5 rfl ?_
    refine zz_iload_n hx dX4_isIn_6 rfl ?_
    refine zz_icmp_gt hx 14 dX4_isIn_7 rfl (by omega) (by omega) (fun c7 => ?_) (fun c7 => ?_)
    · refine zz_iconst hx dX4_isIn_14 ?_
      exact zz_zret hx hf dX4_isIn_15 (by first | decide | exact zb_01 _) ⟨_, rfl, by first | exact (zb_t (by omega)).symm | exact (zb_f (by omega)).symm, rfl⟩ (by decide) (by decide)
    · refine zz_iconst hx dX4_isIn_10 ?_
      refine zz_goto hx 15 dX4_isIn_11 rfl ?_
      exact zz_zret hx hf dX4_isIn_15 (by first | decide | exact zb_01 _) ⟨_, rfl, by first | exact (zb_t (by omega)).symm | exact (zb_f (by omega)).symm, rfl⟩ (by decide) (by decide)

set_option maxHeartbeats 4000000 in
set_option maxRecDepth 100000 in
theorem c_isSet {l : Launch} {g : zG} {a : Nat → Nat} {F : Nat → Int} {G : Nat → Int → Int} {rest : va_W} (hst : l.stackTraces = false) (s : Int) (hs : -2147483648 ≤ s ∧ s < 2147483648) (h0 : 0 ≤ F 0 ∧ F 0 ≤ 6) : zM l g yX4_isSet cX4_isSet 2 (Option.some FieldType.boolean) ({ frames := 1, cells := 0, slots := 0, locals := 22 } : Room) [.ref (a 0), vi s] (mW g a F G rest) (zI fun r w => r = zb (0 ≤ s ∧ s < F 0) ∧ w = mW g a F G rest) zN 0 0 := by
  refine zM_of (lv0 := [(0, _), (1, _)]) hst rfl (by decide +kernel) (Nat.le_of_ble_eq_true rfl) rfl (fun x hx hf hn => ?_)
  refine zz_iload_n hx dX4_isSet_0 rfl ?_
  refine zz_iconst hx dX4_isSet_1 ?_
  refine zz_aload_n hx dX4_isSet_2 rfl ?_
  refine zm_g0 hx lf_X4_60 dX4_isSet_3 ?_
  refine zz_iconst hx dX4_isSet_6 ?_
  refine zz_isub hx dX4_isSet_7 ?_
  refine zz_callSi hx ms_X4_isIn lk_X4_63 (c_isIn (a := a) (F := F) (G := G) hst _ _ _ (by omega) (by omega) (by omega)) ⟨rfl, rfl⟩ (by decide) (by decide) rfl rfl (Nat.le_of_ble_eq_true rfl) dX4_isSet_8 (fun _ _ h => h.elim) (fun r8 w8 hp8 => ?_)
  obtain ⟨rfl, rfl⟩ := hp8
  exact zz_zret hx hf dX4_isSet_11 (by first | decide | exact zb_01 _) ⟨_, rfl, zb_congr (by omega), rfl⟩ (by decide) (by decide)

set_option maxHeartbeats 4000000 in
set_option maxRecDepth 100000 in
theorem c_isRecord {l : Launch} {g : zG} {a : Nat → Nat} {F : Nat → Int} {G : Nat → Int → Int} {rest : va_W} (hst : l.stackTraces = false) (r : Int) (hr : -2147483648 ≤ r ∧ r < 2147483648) (h6 : 0 ≤ F 6 ∧ F 6 ≤ 60) (h8 : ∀ r, 0 ≤ r → r < F 6 → G 8 r = 0 ∨ G 8 r = 1) : zM l g yX4_isRecord cX4_isRecord 2 (Option.some FieldType.boolean) ({ frames := 1, cells := 0, slots := 0, locals := 22 } : Room) [.ref (a 0), vi r] (mW g a F G rest) (zI fun r' w => r' = zb (0 ≤ r ∧ r < F 6 ∧ G 8 r = 1) ∧ w = mW g a F G rest) zN 0 0 := by
  refine zM_of (lv0 := [(0, _), (1, _)]) hst rfl (by decide +kernel) (Nat.le_of_ble_eq_true rfl) rfl (fun x hx hf hn => ?_)
  refine zz_iload_n hx dX4_isRecord_0 rfl ?_
  refine zz_iconst hx dX4_isRecord_1 ?_
  refine zz_aload_n hx dX4_isRecord_2 rfl ?_
  refine zm_g6 hx lf_X4_67 dX4_isRecord_3 ?_
  refine zz_iconst hx dX4_isRecord_6 ?_
  refine zz_isub hx dX4_isRecord_7 ?_
  refine zz_callSi hx ms_X4_isIn lk_X4_63 (c_isIn (a := a) (F := F) (G := G) hst _ _ _ (by omega) (by omega) (by omega)) ⟨rfl, rfl⟩ (by decide) (by decide) rfl rfl (Nat.le_of_ble_eq_true rfl) dX4_isRecord_8 (fun _ _ h => h.elim) (fun r8 w8 hp8 => ?_)
  obtain ⟨rfl, rfl⟩ := hp8
  refine zz_ifb_eq hx 27 dX4_isRecord_11 rfl (fun c11 => ?_) (fun c11 => ?_)
  · refine zz_iconst hx dX4_isRecord_27 ?_
    exact zz_zret hx hf dX4_isRecord_28 (by first | decide | exact zb_01 _) ⟨_, rfl, by first | exact (zb_t (by omega)).symm | exact (zb_f (by omega)).symm, rfl⟩ (by decide) (by decide)
  · refine zz_aload_n hx dX4_isRecord_14 rfl ?_
    refine zm_g8 hx lf_X4_26 dX4_isRecord_15 ?_
    refine zz_iload_n hx dX4_isRecord_18 rfl ?_
    refine zm_l8 hx dX4_isRecord_19 (by omega) (by omega) ?_
    have h8r := h8 r (by omega) (by omega)
    refine zz_if_eq hx 27 dX4_isRecord_20 rfl (by omega) (fun c20 => ?_) (fun c20 => ?_)
    · refine zz_iconst hx dX4_isRecord_27 ?_
      exact zz_zret hx hf dX4_isRecord_28 (by first | decide | exact zb_01 _) ⟨_, rfl, by first | exact (zb_t (by omega)).symm | exact (zb_f (by omega)).symm, rfl⟩ (by decide) (by decide)
    · refine zz_iconst hx dX4_isRecord_23 ?_
      refine zz_goto hx 28 dX4_isRecord_24 rfl ?_
      exact zz_zret hx hf dX4_isRecord_28 (by first | decide | exact zb_01 _) ⟨_, rfl, by first | exact (zb_t (by omega)).symm | exact (zb_f (by omega)).symm, rfl⟩ (by decide) (by decide)
