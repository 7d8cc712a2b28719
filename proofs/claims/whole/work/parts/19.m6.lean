set_option maxHeartbeats 4000000 in
set_option maxRecDepth 100000 in
theorem c_find {l : Launch} {g : zG} {a : Nat → Nat} {F : Nat → Int} {G : Nat → Int → Int} {rest : va_W} (hst : l.stackTraces = false) {Rw : Int → List Int} (h : mI F G Rw) (r : Int) (hr : -2147483648 ≤ r ∧ r < 2147483648) : zM l g yX4_find cX4_find 2 (Option.some FieldType.int) ({ frames := 2, cells := 0, slots := 0, locals := 44 } : Room) [.ref (a 0), vi r] (mW g a F G rest) (zI fun v w => ∃ f : Int, v = f ∧ f = (if 0 ≤ r ∧ r < F 6 ∧ G 8 r = 1 then r else -1) ∧ (f = -1 ∨ 0 ≤ f ∧ f < F 6 ∧ G 8 f = 1) ∧ w = mW g a (Fup (becF F f) 18 0) (becG F G f) rest) zN 0 0 := by
  have hF0 := h.1.1
  have hF6 := h.1.2.1
  refine zM_of (lv0 := [(0, _), (1, _)]) hst rfl (by decide +kernel) (Nat.le_of_ble_eq_true rfl) rfl (fun x hx hf hn => ?_)
  refine zz_aload_n hx dX4_find_0 rfl ?_
  refine zz_iconst hx dX4_find_1 ?_
  refine zm_p18 hx lf_X4_57 dX4_find_2 ?_
  refine zz_aload_n hx dX4_find_5 rfl ?_
  refine zz_aload_n hx dX4_find_6 rfl ?_
  refine zz_iload_n hx dX4_find_7 rfl ?_
  refine zz_callVi hx me_X4_isRecord lk_X4_115 (c_isRecord (F := Fup F 18 0) hst _ (by omega) hF6 (fun r h1 h2 => (h.1.2.2.2.1 r h1 h2).2.2)) 0 rfl rfl ⟨rfl, rfl⟩ (by decide) (by decide) rfl rfl (Nat.le_of_ble_eq_true rfl) dX4_find_8 (fun _ _ h => h.elim) (fun r8 w8 hp8 => ?_)
  obtain ⟨rfl, rfl⟩ := hp8
  refine zz_ifb_eq hx 18 dX4_find_11 rfl (fun c11 => ?_) (fun c11 => ?_)
  · have c11 : ¬ (0 ≤ r ∧ r < F 6 ∧ G 8 r = 1) := c11
    refine zz_iconst hx dX4_find_18 ?_
    refine zz_callVi hx me_X4_becomes lk_X4_96 (c_becomes (F := Fup F 18 0) hst (mS_18 h.1) _ (show _ = -1 ∨ 0 ≤ _ ∧ _ < F 6 by omega)) 0 rfl rfl ⟨rfl, rfl⟩ (by decide) (by decide) rfl rfl (Nat.le_of_ble_eq_true rfl) dX4_find_19 (fun _ _ h => h.elim) (fun r19 w19 hp19 => ?_)
    obtain ⟨rfl, rfl⟩ := hp19
    exact zz_iret hx hf dX4_find_22 ⟨_, rfl, _, rfl, by first | rw [if_pos (by omega)] | rw [if_neg (by omega)], by omega, by rw [bec_18, becG_18]⟩ (by decide) (by decide)
  · have c11 : 0 ≤ r ∧ r < F 6 ∧ G 8 r = 1 := c11
    refine zz_iload_n hx dX4_find_14 rfl ?_
    refine zz_goto hx 19 dX4_find_15 rfl ?_
    refine zz_callVi hx me_X4_becomes lk_X4_96 (c_becomes (F := Fup F 18 0) hst (mS_18 h.1) _ (show _ = -1 ∨ 0 ≤ _ ∧ _ < F 6 by omega)) 0 rfl rfl ⟨rfl, rfl⟩ (by decide) (by decide) rfl rfl (Nat.le_of_ble_eq_true rfl) dX4_find_19 (fun _ _ h => h.elim) (fun r19 w19 hp19 => ?_)
    obtain ⟨rfl, rfl⟩ := hp19
    exact zz_iret hx hf dX4_find_22 ⟨_, rfl, _, rfl, by first | rw [if_pos (by omega)] | rw [if_neg (by omega)], by omega, by rw [bec_18, becG_18]⟩ (by decide) (by decide)

set_option maxHeartbeats 4000000 in
set_option maxRecDepth 100000 in
theorem c_findOwner {l : Launch} {g : zG} {a : Nat → Nat} {F : Nat → Int} {G : Nat → Int → Int} {rest : va_W} (hst : l.stackTraces = false) {Rw : Int → List Int} (h : mI F G Rw) (s : Int) (hs : -2147483648 ≤ s ∧ s < 2147483648) : zM l g yX4_findOwner cX4_findOwner 2 (Option.some FieldType.int) ({ frames := 2, cells := 0, slots := 0, locals := 44 } : Room) [.ref (a 0), vi s] (mW g a F G rest) (zI fun v w => ∃ c f : Int, ((c = 0 ∧ (0 ≤ s ∧ s < F 0) ∧ (f = (if G 16 s = -1 then -1 else curO G s)) ∧ v = f) ∨ (c = 1 ∧ ¬ (0 ≤ s ∧ s < F 0) ∧ f = -1)) ∧ (f = -1 ∨ 0 ≤ f ∧ f < F 6 ∧ G 8 f = 1) ∧ w = mW g a (Fup (becF F f) 18 c) (becG F G f) rest) zN 0 0 := by
  have hF0 := h.1.1
  have hF6 := h.1.2.1
  have hin := fun (z : 0 ≤ s ∧ s < F 0) => h.2.2.2 s z.1 (by omega)
  have hcu := fun (z : 0 ≤ s ∧ s < F 0) (q : G 16 s ≠ -1) => curO_ok h z.1 z.2 q
  refine zM_of (lv0 := [(0, _), (1, _)]) hst rfl (by decide +kernel) (Nat.le_of_ble_eq_true rfl) rfl (fun x hx hf hn => ?_)
  refine zz_aload_n hx dX4_findOwner_0 rfl ?_
  refine zz_aload_n hx dX4_findOwner_1 rfl ?_
  refine zz_iload_n hx dX4_findOwner_2 rfl ?_
  refine zz_callVi hx me_X4_isSet lk_X4_109 (c_isSet hst _ (by omega) hF0) 0 rfl rfl ⟨rfl, rfl⟩ (by decide) (by decide) rfl rfl (Nat.le_of_ble_eq_true rfl) dX4_findOwner_3 (fun _ _ h => h.elim) (fun r3 w3 hp3 => ?_)
  obtain ⟨rfl, rfl⟩ := hp3
  refine zz_ifb_eq hx 13 dX4_findOwner_6 rfl (fun c6 => ?_) (fun c6 => ?_)
  · refine zz_iconst hx dX4_findOwner_13 ?_
    refine zz_callVi hx me_X4_can lk_X4_70 (c_can hst _ (by omega)) 0 rfl rfl ⟨rfl, rfl⟩ (by decide) (by decide) rfl rfl (Nat.le_of_ble_eq_true rfl) dX4_findOwner_14 (fun _ _ h => h.elim) (fun r14 w14 hp14 => ?_)
    obtain ⟨rfl, rfl⟩ := hp14
    refine zz_ifb_eq hx 30 dX4_findOwner_17 rfl (fun _ => ?_) (fun z => absurd z (by decide))
    refine zz_aload_n hx dX4_findOwner_30 rfl ?_
    refine zm_g18 hx lf_X4_57 dX4_findOwner_31 ?_
    rw [Fup_s]
    refine zz_if_ne hx 41 dX4_findOwner_34 rfl (by decide) (fun _ => ?_) (fun z => absurd z (by decide))
    refine zz_iconst hx dX4_findOwner_41 ?_
    exact zz_iret hx hf dX4_findOwner_42 (by first | exact ⟨_, rfl, 0, -1, Or.inl ⟨rfl, by omega, by rw [if_pos (by omega)], rfl⟩, Or.inl rfl, by rw [becF_none, becG_none]⟩ | exact ⟨_, rfl, 1, -1, Or.inr ⟨rfl, by omega, rfl⟩, Or.inl rfl, by rw [becF_none, becG_none]⟩) (by decide) (by decide)
  · refine zz_iconst hx dX4_findOwner_9 ?_
    refine zz_goto hx 14 dX4_findOwner_10 rfl ?_
    refine zz_callVi hx me_X4_can lk_X4_70 (c_can hst _ (by omega)) 0 rfl rfl ⟨rfl, rfl⟩ (by decide) (by decide) rfl rfl (Nat.le_of_ble_eq_true rfl) dX4_findOwner_14 (fun _ _ h => h.elim) (fun r14 w14 hp14 => ?_)
    obtain ⟨rfl, rfl⟩ := hp14
    refine zz_ifb_eq hx 30 dX4_findOwner_17 rfl (fun z => absurd rfl z) (fun _ => ?_)
    refine zz_aload_n hx dX4_findOwner_20 rfl ?_
    refine zm_g16 hx lf_X4_47 dX4_findOwner_21 ?_
    refine zz_iload_n hx dX4_findOwner_24 rfl ?_
    refine zm_l16 hx dX4_findOwner_25 (by omega) (by omega) ?_
    refine zz_iconst hx dX4_findOwner_26 ?_
    have hi16 := hin (by omega)
    refine zz_icmp_ne hx 43 dX4_findOwner_27 rfl (by omega) (by omega) (fun c27 => ?_) (fun c27 => ?_)
    · have hi16 := hin (by omega)
      have hcu2 := hcu (by omega) (by omega)
      refine zz_aload_n hx dX4_findOwner_43 rfl ?_
      refine zz_aload_n hx dX4_findOwner_44 rfl ?_
      refine zz_iload_n hx dX4_findOwner_45 rfl ?_
      refine zz_callVi hx me_X4_currentOwner lk_X4_88 (c_currentOwner (F := Fup F 18 0) hst (mS_18 h.1) _ (by omega) (show _ < F 0 by omega) (show G 16 _ = -1 ∨ 0 ≤ G 16 _ ∧ G 16 _ < F 6 by omega)) 0 rfl rfl ⟨rfl, rfl⟩ (by decide) (by decide) rfl rfl (Nat.le_of_ble_eq_true rfl) dX4_findOwner_46 (fun _ _ h => h.elim) (fun r46 w46 hp46 => ?_)
      obtain ⟨rfl, rfl⟩ := hp46
      refine zz_callVi hx me_X4_becomes lk_X4_96 (c_becomes (F := Fup F 18 0) hst (mS_18 h.1) _ (show _ = -1 ∨ 0 ≤ _ ∧ _ < F 6 by omega)) 0 rfl rfl ⟨rfl, rfl⟩ (by decide) (by decide) rfl rfl (Nat.le_of_ble_eq_true rfl) dX4_findOwner_49 (fun _ _ h => h.elim) (fun r49 w49 hp49 => ?_)
      obtain ⟨rfl, rfl⟩ := hp49
      exact zz_iret hx hf dX4_findOwner_52 ⟨_, rfl, 0, _, Or.inl ⟨rfl, by omega, by rw [if_neg (by omega)], rfl⟩, by omega, by rw [bec_18, becG_18]⟩ (by decide) (by decide)
    · refine zz_aload_n hx dX4_findOwner_30 rfl ?_
      refine zm_g18 hx lf_X4_57 dX4_findOwner_31 ?_
      rw [Fup_s]
      refine zz_if_ne hx 41 dX4_findOwner_34 rfl (by decide) (fun z => absurd rfl z) (fun _ => ?_)
      refine zz_iconst hx dX4_findOwner_37 ?_
      refine zz_goto hx 42 dX4_findOwner_38 rfl ?_
      exact zz_iret hx hf dX4_findOwner_42 (by first | exact ⟨_, rfl, 0, -1, Or.inl ⟨rfl, by omega, by rw [if_pos (by omega)], rfl⟩, Or.inl rfl, by rw [becF_none, becG_none]⟩ | exact ⟨_, rfl, 1, -1, Or.inr ⟨rfl, by omega, rfl⟩, Or.inl rfl, by rw [becF_none, becG_none]⟩) (by decide) (by decide)

set_option maxHeartbeats 4000000 in
set_option maxRecDepth 100000 in
theorem c_findEnd {l : Launch} {g : zG} {a : Nat → Nat} {F : Nat → Int} {G : Nat → Int → Int} {rest : va_W} (hst : l.stackTraces = false) {Rw : Int → List Int} (h : mI F G Rw) (s : Int) (hs : -2147483648 ≤ s ∧ s < 2147483648) (z : Int) (hz : z = 0 ∨ z = 1) : zM l g yX4_findEnd cX4_findEnd 4 (Option.some FieldType.int) ({ frames := 2, cells := 0, slots := 0, locals := 49 } : Room) [.ref (a 0), vi s, vi z] (mW g a F G rest) (zI fun v w => ∃ c f : Int, ((c = 0 ∧ (0 ≤ s ∧ s < F 0) ∧ (f = (if G 16 s = -1 then -1 else if z = 0 then zat (zmem G s (curO G s) (Rw s)) 0 else if 0 ≤ ((zmem G s (curO G s) (Rw s)).length : Int) - 1 then zat (zmem G s (curO G s) (Rw s)) (((zmem G s (curO G s) (Rw s)).length : Int) - 1) else -1)) ∧ v = f) ∨ (c = 1 ∧ ¬ (0 ≤ s ∧ s < F 0) ∧ f = -1)) ∧ (f = -1 ∨ 0 ≤ f ∧ f < F 6 ∧ G 8 f = 1) ∧ w = mW g a (Fup (becF F f) 18 c) (becG F G f) rest) zN 0 0 := by
  have hF0 := h.1.1
  have hF6 := h.1.2.1
  have hin := fun (z : 0 ≤ s ∧ s < F 0) => h.2.2.2 s z.1 (by omega)
  have hcu := fun (z : 0 ≤ s ∧ s < F 0) (q : G 16 s ≠ -1) => curO_ok h z.1 z.2 q
  refine zM_of (lv0 := [(0, _), (1, _), (2, _)]) hst rfl (by decide +kernel) (Nat.le_of_ble_eq_true rfl) rfl (fun x hx hf hn => ?_)
  refine zz_aload_n hx dX4_findEnd_0 rfl ?_
  refine zz_aload_n hx dX4_findEnd_1 rfl ?_
  refine zz_iload_n hx dX4_findEnd_2 rfl ?_
  refine zz_callVi hx me_X4_isSet lk_X4_109 (c_isSet hst _ (by omega) hF0) 0 rfl rfl ⟨rfl, rfl⟩ (by decide) (by decide) rfl rfl (Nat.le_of_ble_eq_true rfl) dX4_findEnd_3 (fun _ _ h => h.elim) (fun r3 w3 hp3 => ?_)
  obtain ⟨rfl, rfl⟩ := hp3
  refine zz_ifb_eq hx 13 dX4_findEnd_6 rfl (fun c6 => ?_) (fun c6 => ?_)
  · refine zz_iconst hx dX4_findEnd_13 ?_
    refine zz_callVi hx me_X4_can lk_X4_70 (c_can hst _ (by omega)) 0 rfl rfl ⟨rfl, rfl⟩ (by decide) (by decide) rfl rfl (Nat.le_of_ble_eq_true rfl) dX4_findEnd_14 (fun _ _ h => h.elim) (fun r14 w14 hp14 => ?_)
    obtain ⟨rfl, rfl⟩ := hp14
    refine zz_ifb_eq hx 30 dX4_findEnd_17 rfl (fun _ => ?_) (fun z => absurd z (by decide))
    refine zz_aload_n hx dX4_findEnd_30 rfl ?_
    refine zm_g18 hx lf_X4_57 dX4_findEnd_31 ?_
    rw [Fup_s]
    refine zz_if_ne hx 41 dX4_findEnd_34 rfl (by decide) (fun _ => ?_) (fun z => absurd z (by decide))
    refine zz_iconst hx dX4_findEnd_41 ?_
    exact zz_iret hx hf dX4_findEnd_42 (by first | exact ⟨_, rfl, 0, -1, Or.inl ⟨rfl, by omega, by rw [if_pos (by omega)], rfl⟩, Or.inl rfl, by rw [becF_none, becG_none]⟩ | exact ⟨_, rfl, 1, -1, Or.inr ⟨rfl, by omega, rfl⟩, Or.inl rfl, by rw [becF_none, becG_none]⟩) (by decide) (by decide)
  · refine zz_iconst hx dX4_findEnd_9 ?_
    refine zz_goto hx 14 dX4_findEnd_10 rfl ?_
    refine zz_callVi hx me_X4_can lk_X4_70 (c_can hst _ (by omega)) 0 rfl rfl ⟨rfl, rfl⟩ (by decide) (by decide) rfl rfl (Nat.le_of_ble_eq_true rfl) dX4_findEnd_14 (fun _ _ h => h.elim) (fun r14 w14 hp14 => ?_)
    obtain ⟨rfl, rfl⟩ := hp14
    refine zz_ifb_eq hx 30 dX4_findEnd_17 rfl (fun z => absurd rfl z) (fun _ => ?_)
    refine zz_aload_n hx dX4_findEnd_20 rfl ?_
    refine zm_g16 hx lf_X4_47 dX4_findEnd_21 ?_
    refine zz_iload_n hx dX4_findEnd_24 rfl ?_
    refine zm_l16 hx dX4_findEnd_25 (by omega) (by omega) ?_
    refine zz_iconst hx dX4_findEnd_26 ?_
    have hi16 := hin (by omega)
    refine zz_icmp_ne hx 43 dX4_findEnd_27 rfl (by omega) (by omega) (fun c27 => ?_) (fun c27 => ?_)
    · have hi16 := hin (by omega)
      have hcu2 := hcu (by omega) (by omega)
      have hz0 := zmem_at h.1 (s := s) (o := curO G s) (by omega) (by omega) 0
      have hz1 := zmem_at h.1 (s := s) (o := curO G s) (by omega) (by omega) (((zmem G s (curO G s) (Rw s)).length : Int) - 1)
      have hzl := zmem_len h.1 (s := s) (o := curO G s) (by omega) (by omega)
      refine zz_aload_n hx dX4_findEnd_43 rfl ?_
      refine zz_iload_n hx dX4_findEnd_44 rfl ?_
      refine zz_callVi hx me_X4_currentOwner lk_X4_88 (c_currentOwner (F := Fup F 18 0) hst (mS_18 h.1) _ (by omega) (show _ < F 0 by omega) (show G 16 _ = -1 ∨ 0 ≤ G 16 _ ∧ G 16 _ < F 6 by omega)) 0 rfl rfl ⟨rfl, rfl⟩ (by decide) (by decide) rfl rfl (Nat.le_of_ble_eq_true rfl) dX4_findEnd_45 (fun _ _ h => h.elim) (fun r45 w45 hp45 => ?_)
      obtain ⟨rfl, rfl⟩ := hp45
      refine zz_istore_n (lv' := [(0, _), (1, _), (2, _), (3, _)]) hx dX4_findEnd_48 (by decide) rfl ?_
      refine zz_aload_n hx dX4_findEnd_49 rfl ?_
      refine zz_aload_n hx dX4_findEnd_50 rfl ?_
      refine zz_iload_n hx dX4_findEnd_51 rfl ?_
      refine zz_iload_n hx dX4_findEnd_52 rfl ?_
      refine zz_iload_n hx dX4_findEnd_53 rfl ?_
      refine zz_if_eq hx 68 dX4_findEnd_54 rfl (by omega) (fun c54 => ?_) (fun c54 => ?_)
      · refine zz_iconst hx dX4_findEnd_68 ?_
        refine zz_callVi hx me_X4_memberOf lk_X4_118 (c_memberOf (F := Fup F 18 0) hst (mS_18 h.1) _ _ _ (by omega) (show _ < F 0 by omega) (by omega) (by omega)) 0 rfl rfl ⟨rfl, rfl⟩ (by decide) (by decide) rfl rfl (Nat.le_of_ble_eq_true rfl) dX4_findEnd_69 (fun _ _ h => h.elim) (fun r69 w69 hp69 => ?_)
        obtain ⟨rfl, rfl⟩ := hp69
        first | rw [if_pos (by omega)] | skip
        refine zz_callVi hx me_X4_becomes lk_X4_96 (c_becomes (F := Fup F 18 0) hst (mS_18 h.1) _ (by first | (show _ = -1 ∨ 0 ≤ _ ∧ _ < F 6; omega) | (split <;> (show _ = -1 ∨ 0 ≤ _ ∧ _ < F 6; omega)))) 0 rfl rfl ⟨rfl, rfl⟩ (by decide) (by decide) rfl rfl (Nat.le_of_ble_eq_true rfl) dX4_findEnd_72 (fun _ _ h => h.elim) (fun r72 w72 hp72 => ?_)
        obtain ⟨rfl, rfl⟩ := hp72
        exact zz_iret hx hf dX4_findEnd_75 ⟨_, rfl, 0, _, Or.inl ⟨rfl, by omega, by first | rw [if_neg (show ¬ G 16 s = -1 by omega), if_pos (show z = 0 by omega)] | rw [if_neg (show ¬ G 16 s = -1 by omega), if_neg (show ¬ z = 0 by omega)], rfl⟩, by first | omega | (split <;> omega), by rw [bec_18, becG_18]⟩ (by decide) (by decide)
      · refine zz_aload_n hx dX4_findEnd_57 rfl ?_
        refine zz_iload_n hx dX4_findEnd_58 rfl ?_
        refine zz_iload_n hx dX4_findEnd_59 rfl ?_
        refine zz_callVi hx me_X4_membersOf lk_X4_112 (c_membersOf (F := Fup F 18 0) hst (mS_18 h.1) _ _ (by omega) (show _ < F 0 by omega) (by omega)) 0 rfl rfl ⟨rfl, rfl⟩ (by decide) (by decide) rfl rfl (Nat.le_of_ble_eq_true rfl) dX4_findEnd_60 (fun _ _ h => h.elim) (fun r60 w60 hp60 => ?_)
        obtain ⟨rfl, rfl⟩ := hp60
        refine zz_iconst hx dX4_findEnd_63 ?_
        refine zz_isub hx dX4_findEnd_64 ?_
        refine zz_goto hx 69 dX4_findEnd_65 rfl ?_
        refine zz_callVi hx me_X4_memberOf lk_X4_118 (c_memberOf (F := Fup F 18 0) hst (mS_18 h.1) _ _ _ (by omega) (show _ < F 0 by omega) (by omega) (by omega)) 0 rfl rfl ⟨rfl, rfl⟩ (by decide) (by decide) rfl rfl (Nat.le_of_ble_eq_true rfl) dX4_findEnd_69 (fun _ _ h => h.elim) (fun r69 w69 hp69 => ?_)
        obtain ⟨rfl, rfl⟩ := hp69
        first | rw [if_pos (by omega)] | skip
        refine zz_callVi hx me_X4_becomes lk_X4_96 (c_becomes (F := Fup F 18 0) hst (mS_18 h.1) _ (by first | (show _ = -1 ∨ 0 ≤ _ ∧ _ < F 6; omega) | (split <;> (show _ = -1 ∨ 0 ≤ _ ∧ _ < F 6; omega)))) 0 rfl rfl ⟨rfl, rfl⟩ (by decide) (by decide) rfl rfl (Nat.le_of_ble_eq_true rfl) dX4_findEnd_72 (fun _ _ h => h.elim) (fun r72 w72 hp72 => ?_)
        obtain ⟨rfl, rfl⟩ := hp72
        exact zz_iret hx hf dX4_findEnd_75 ⟨_, rfl, 0, _, Or.inl ⟨rfl, by omega, by first | rw [if_neg (show ¬ G 16 s = -1 by omega), if_pos (show z = 0 by omega)] | rw [if_neg (show ¬ G 16 s = -1 by omega), if_neg (show ¬ z = 0 by omega)], rfl⟩, by first | omega | (split <;> omega), by rw [bec_18, becG_18]⟩ (by decide) (by decide)
    · refine zz_aload_n hx dX4_findEnd_30 rfl ?_
      refine zm_g18 hx lf_X4_57 dX4_findEnd_31 ?_
      rw [Fup_s]
      refine zz_if_ne hx 41 dX4_findEnd_34 rfl (by decide) (fun z => absurd rfl z) (fun _ => ?_)
      refine zz_iconst hx dX4_findEnd_37 ?_
      refine zz_goto hx 42 dX4_findEnd_38 rfl ?_
      exact zz_iret hx hf dX4_findEnd_42 (by first | exact ⟨_, rfl, 0, -1, Or.inl ⟨rfl, by omega, by rw [if_pos (by omega)], rfl⟩, Or.inl rfl, by rw [becF_none, becG_none]⟩ | exact ⟨_, rfl, 1, -1, Or.inr ⟨rfl, by omega, rfl⟩, Or.inl rfl, by rw [becF_none, becG_none]⟩) (by decide) (by decide)

set_option maxHeartbeats 4000000 in
set_option maxRecDepth 100000 in
theorem c_findNext {l : Launch} {g : zG} {a : Nat → Nat} {F : Nat → Int} {G : Nat → Int → Int} {rest : va_W} (hst : l.stackTraces = false) {Rw : Int → List Int} (h : mI F G Rw) (s : Int) (hs : -2147483648 ≤ s ∧ s < 2147483648) (z : Int) (hz : z = 0 ∨ z = 1) : zM l g yX4_findNext cX4_findNext 7 (Option.some FieldType.int) ({ frames := 2, cells := 0, slots := 0, locals := 49 } : Room) [.ref (a 0), vi s, vi z] (mW g a F G rest) (zI fun v w => ∃ c f : Int, ((c = 0 ∧ (0 ≤ s ∧ s < F 0) ∧ ((G 16 s = -1 → f = -1) ∧ (G 16 s ≠ -1 → ∃ pl : Int, ((0 ≤ pl ∧ pl < ((zmem G s (curO G s) (Rw s)).length : Int) ∧ zat (zmem G s (curO G s) (Rw s)) pl = G 16 s) ∨ ((∀ k : Int, 0 ≤ k → k < ((zmem G s (curO G s) (Rw s)).length : Int) → zat (zmem G s (curO G s) (Rw s)) k ≠ G 16 s) ∧ pl = if z = 0 then -1 else ((zmem G s (curO G s) (Rw s)).length : Int))) ∧ f = if 0 ≤ (if z = 0 then pl + 1 else pl - 1) then zat (zmem G s (curO G s) (Rw s)) (if z = 0 then pl + 1 else pl - 1) else -1)) ∧ v = f) ∨ (c = 1 ∧ ¬ (0 ≤ s ∧ s < F 0) ∧ f = -1)) ∧ (f = -1 ∨ 0 ≤ f ∧ f < F 6 ∧ G 8 f = 1) ∧ w = mW g a (Fup (becF F f) 18 c) (becG F G f) rest) zN 0 0 := by
  have hF0 := h.1.1
  have hF6 := h.1.2.1
  have hin := fun (z : 0 ≤ s ∧ s < F 0) => h.2.2.2 s z.1 (by omega)
  have hcu := fun (z : 0 ≤ s ∧ s < F 0) (q : G 16 s ≠ -1) => curO_ok h z.1 z.2 q
  refine zM_of (lv0 := [(0, _), (1, _), (2, _)]) hst rfl (by decide +kernel) (Nat.le_of_ble_eq_true rfl) rfl (fun x hx hf hn => ?_)
  have loop : ∀ (m : Nat) (j pl : Int), 0 ≤ s ∧ s < F 0 → G 16 s ≠ -1 → 0 ≤ j → j ≤ ((zmem G s (curO G s) (Rw s)).length : Int) → ((0 ≤ pl ∧ pl < ((zmem G s (curO G s) (Rw s)).length : Int) ∧ zat (zmem G s (curO G s) (Rw s)) pl = G 16 s) ∨ ((∀ k : Int, 0 ≤ k → k < j → zat (zmem G s (curO G s) (Rw s)) k ≠ G 16 s) ∧ pl = if z = 0 then -1 else ((zmem G s (curO G s) (Rw s)).length : Int))) → (((zmem G s (curO G s) (Rw s)).length : Int) - j).toNat < m → Z l g ({ frames := 2, cells := 0, slots := 0, locals := 49 } : Room) 7 x 0 0 (mW g a (Fup F 18 0) G rest) 72 [(0, .ref (a 0)), (1, vi s), (2, vi z), (3, vi (curO G s)), (4, vi ((zmem G s (curO G s) (Rw s)).length : Int)), (5, vi pl), (6, vi j)] [] := by
    intro m
    induction m with
    | zero => intro j pl hs0 hi h0 h1 hp hm; omega
    | succ m ih =>
      intro j pl hs0 hi h0 h1 hp hm
      have hi16 := hin hs0
      have hcu2 := hcu hs0 hi
      have hzl := zmem_len h.1 (s := s) (o := curO G s) (by omega) (by omega)
      have hza := fun d => zmem_at h.1 (s := s) (o := curO G s) (by omega) (by omega) d
      have hpl : -1 ≤ pl ∧ pl ≤ ((zmem G s (curO G s) (Rw s)).length : Int) := by
        rcases hp with q | ⟨-, q⟩
        · omega
        · split at q <;> omega
      refine zz_iload hx dX4_findNext_72 rfl ?_
      refine zz_iload hx dX4_findNext_74 rfl ?_
      refine zz_icmp_ge hx 111 dX4_findNext_76 rfl (by omega) (by omega) (fun c76 => ?_) (fun c76 => ?_)
      · refine zz_aload_n hx dX4_findNext_111 rfl ?_
        refine zz_aload_n hx dX4_findNext_112 rfl ?_
        refine zz_iload_n hx dX4_findNext_113 rfl ?_
        refine zz_iload_n hx dX4_findNext_114 rfl ?_
        refine zz_iload_n hx dX4_findNext_115 rfl ?_
        refine zz_if_eq hx 126 dX4_findNext_116 rfl (by omega) (fun c116 => ?_) (fun c116 => ?_)
        · refine zz_iload hx dX4_findNext_126 rfl ?_
          refine zz_iconst hx dX4_findNext_128 ?_
          refine zz_iadd hx dX4_findNext_129 ?_
          first | rw [show pl - 1 = (if z = 0 then pl + 1 else pl - 1) by rw [if_neg c116]] | rw [show pl + 1 = (if z = 0 then pl + 1 else pl - 1) by rw [if_pos c116]]
          have hdr : -1000 ≤ (if z = 0 then pl + 1 else pl - 1) ∧ (if z = 0 then pl + 1 else pl - 1) ≤ 1000 := by split <;> omega
          generalize hdd : (if z = 0 then pl + 1 else pl - 1) = dd at hdr ⊢
          refine zz_callVi hx me_X4_memberOf lk_X4_118 (c_memberOf (F := Fup F 18 0) hst (mS_18 h.1) _ _ dd (by omega) (show _ < F 0 by omega) (by omega) hdr) 0 rfl rfl ⟨rfl, rfl⟩ (by decide) (by decide) rfl rfl (Nat.le_of_ble_eq_true rfl) dX4_findNext_130 (fun _ _ h => h.elim) (fun r130 w130 hp130 => ?_)
          obtain ⟨rfl, rfl⟩ := hp130
          refine zz_callVi hx me_X4_becomes lk_X4_96 (c_becomes (F := Fup F 18 0) hst (mS_18 h.1) _ (by have q1 := hza dd; split <;> (show _ = -1 ∨ 0 ≤ _ ∧ _ < F 6; omega))) 0 rfl rfl ⟨rfl, rfl⟩ (by decide) (by decide) rfl rfl (Nat.le_of_ble_eq_true rfl) dX4_findNext_133 (fun _ _ h => h.elim) (fun r133 w133 hp133 => ?_)
          obtain ⟨rfl, rfl⟩ := hp133
          exact zz_iret hx hf dX4_findNext_136 ⟨_, rfl, 0, _, Or.inl ⟨rfl, by omega, ⟨fun q => absurd q hi, fun _ => ⟨pl, by rw [show j = ((zmem G s (curO G s) (Rw s)).length : Int) by omega] at hp; exact hp, by rw [hdd]⟩⟩, rfl⟩, by have q1 := hza dd; split <;> omega, by rw [bec_18, becG_18]⟩ (by decide) (by decide)
        · refine zz_iload hx dX4_findNext_119 rfl ?_
          refine zz_iconst hx dX4_findNext_121 ?_
          refine zz_isub hx dX4_findNext_122 ?_
          refine zz_goto hx 130 dX4_findNext_123 rfl ?_
          first | rw [show pl - 1 = (if z = 0 then pl + 1 else pl - 1) by rw [if_neg c116]] | rw [show pl + 1 = (if z = 0 then pl + 1 else pl - 1) by rw [if_pos c116]]
          have hdr : -1000 ≤ (if z = 0 then pl + 1 else pl - 1) ∧ (if z = 0 then pl + 1 else pl - 1) ≤ 1000 := by split <;> omega
          generalize hdd : (if z = 0 then pl + 1 else pl - 1) = dd at hdr ⊢
          refine zz_callVi hx me_X4_memberOf lk_X4_118 (c_memberOf (F := Fup F 18 0) hst (mS_18 h.1) _ _ dd (by omega) (show _ < F 0 by omega) (by omega) hdr) 0 rfl rfl ⟨rfl, rfl⟩ (by decide) (by decide) rfl rfl (Nat.le_of_ble_eq_true rfl) dX4_findNext_130 (fun _ _ h => h.elim) (fun r130 w130 hp130 => ?_)
          obtain ⟨rfl, rfl⟩ := hp130
          refine zz_callVi hx me_X4_becomes lk_X4_96 (c_becomes (F := Fup F 18 0) hst (mS_18 h.1) _ (by have q1 := hza dd; split <;> (show _ = -1 ∨ 0 ≤ _ ∧ _ < F 6; omega))) 0 rfl rfl ⟨rfl, rfl⟩ (by decide) (by decide) rfl rfl (Nat.le_of_ble_eq_true rfl) dX4_findNext_133 (fun _ _ h => h.elim) (fun r133 w133 hp133 => ?_)
          obtain ⟨rfl, rfl⟩ := hp133
          exact zz_iret hx hf dX4_findNext_136 ⟨_, rfl, 0, _, Or.inl ⟨rfl, by omega, ⟨fun q => absurd q hi, fun _ => ⟨pl, by rw [show j = ((zmem G s (curO G s) (Rw s)).length : Int) by omega] at hp; exact hp, by rw [hdd]⟩⟩, rfl⟩, by have q1 := hza dd; split <;> omega, by rw [bec_18, becG_18]⟩ (by decide) (by decide)
      · refine zz_aload_n hx dX4_findNext_79 rfl ?_
        refine zz_iload_n hx dX4_findNext_80 rfl ?_
        refine zz_iload_n hx dX4_findNext_81 rfl ?_
        refine zz_iload hx dX4_findNext_82 rfl ?_
        refine zz_callVi hx me_X4_memberOf lk_X4_118 (c_memberOf (F := Fup F 18 0) hst (mS_18 h.1) _ _ _ (by omega) (show _ < F 0 by omega) (by omega) (by omega)) 0 rfl rfl ⟨rfl, rfl⟩ (by decide) (by decide) rfl rfl (Nat.le_of_ble_eq_true rfl) dX4_findNext_84 (fun _ _ h => h.elim) (fun r84 w84 hp84 => ?_)
        obtain ⟨rfl, rfl⟩ := hp84
        refine zz_aload_n hx dX4_findNext_87 rfl ?_
        refine zm_g16 hx lf_X4_47 dX4_findNext_88 ?_
        refine zz_iload_n hx dX4_findNext_91 rfl ?_
        refine zm_l16 hx dX4_findNext_92 (by omega) (by omega) ?_
        have hj := hza j
        rw [if_pos h0]
        refine zz_icmp_ne hx 101 dX4_findNext_93 rfl (by omega) (by omega) (fun c93 => ?_) (fun c93 => ?_)
        · refine zz_iload hx dX4_findNext_101 rfl ?_
          refine zz_istore (lv' := [(0, _), (1, _), (2, _), (3, _), (4, _), (5, _), (6, _)]) hx dX4_findNext_103 (by decide) rfl ?_
          refine zz_iinc (lv' := [(0, _), (1, _), (2, _), (3, _), (4, _), (5, _), (6, _)]) hx dX4_findNext_105 (by decide) rfl rfl ?_
          refine zz_goto hx 72 dX4_findNext_108 rfl ?_
          first
            | exact ih (j + 1) j hs0 hi (by omega) (by omega) (Or.inl ⟨h0, by omega, c93⟩) (by omega)
            | (refine ih (j + 1) pl hs0 hi (by omega) (by omega) ?_ (by omega)
               rcases hp with q | ⟨q1, q2⟩
               · exact Or.inl q
               · refine Or.inr ⟨fun k k0 k1 => ?_, q2⟩
                 rcases Int.lt_or_eq_of_le (show k ≤ j by omega) with y | y
                 · exact q1 k k0 y
                 · rw [y]; exact c93)
        · refine zz_iload hx dX4_findNext_96 rfl ?_
          refine zz_goto hx 103 dX4_findNext_98 rfl ?_
          refine zz_istore (lv' := [(0, _), (1, _), (2, _), (3, _), (4, _), (5, _), (6, _)]) hx dX4_findNext_103 (by decide) rfl ?_
          refine zz_iinc (lv' := [(0, _), (1, _), (2, _), (3, _), (4, _), (5, _), (6, _)]) hx dX4_findNext_105 (by decide) rfl rfl ?_
          refine zz_goto hx 72 dX4_findNext_108 rfl ?_
          first
            | exact ih (j + 1) j hs0 hi (by omega) (by omega) (Or.inl ⟨h0, by omega, c93⟩) (by omega)
            | (refine ih (j + 1) pl hs0 hi (by omega) (by omega) ?_ (by omega)
               rcases hp with q | ⟨q1, q2⟩
               · exact Or.inl q
               · refine Or.inr ⟨fun k k0 k1 => ?_, q2⟩
                 rcases Int.lt_or_eq_of_le (show k ≤ j by omega) with y | y
                 · exact q1 k k0 y
                 · rw [y]; exact c93)
  refine zz_aload_n hx dX4_findNext_0 rfl ?_
  refine zz_aload_n hx dX4_findNext_1 rfl ?_
  refine zz_iload_n hx dX4_findNext_2 rfl ?_
  refine zz_callVi hx me_X4_isSet lk_X4_109 (c_isSet hst _ (by omega) hF0) 0 rfl rfl ⟨rfl, rfl⟩ (by decide) (by decide) rfl rfl (Nat.le_of_ble_eq_true rfl) dX4_findNext_3 (fun _ _ h => h.elim) (fun r3 w3 hp3 => ?_)
  obtain ⟨rfl, rfl⟩ := hp3
  refine zz_ifb_eq hx 13 dX4_findNext_6 rfl (fun c6 => ?_) (fun c6 => ?_)
  · refine zz_iconst hx dX4_findNext_13 ?_
    refine zz_callVi hx me_X4_can lk_X4_70 (c_can hst _ (by omega)) 0 rfl rfl ⟨rfl, rfl⟩ (by decide) (by decide) rfl rfl (Nat.le_of_ble_eq_true rfl) dX4_findNext_14 (fun _ _ h => h.elim) (fun r14 w14 hp14 => ?_)
    obtain ⟨rfl, rfl⟩ := hp14
    refine zz_ifb_eq hx 30 dX4_findNext_17 rfl (fun _ => ?_) (fun z => absurd z (by decide))
    refine zz_aload_n hx dX4_findNext_30 rfl ?_
    refine zm_g18 hx lf_X4_57 dX4_findNext_31 ?_
    rw [Fup_s]
    refine zz_if_ne hx 41 dX4_findNext_34 rfl (by decide) (fun _ => ?_) (fun z => absurd z (by decide))
    refine zz_iconst hx dX4_findNext_41 ?_
    exact zz_iret hx hf dX4_findNext_42 (by first | exact ⟨_, rfl, 0, -1, Or.inl ⟨rfl, by omega, ⟨fun _ => rfl, fun q => absurd (show G 16 s = -1 by omega) q⟩, rfl⟩, Or.inl rfl, by rw [becF_none, becG_none]⟩ | exact ⟨_, rfl, 1, -1, Or.inr ⟨rfl, by omega, rfl⟩, Or.inl rfl, by rw [becF_none, becG_none]⟩) (by decide) (by decide)
  · refine zz_iconst hx dX4_findNext_9 ?_
    refine zz_goto hx 14 dX4_findNext_10 rfl ?_
    refine zz_callVi hx me_X4_can lk_X4_70 (c_can hst _ (by omega)) 0 rfl rfl ⟨rfl, rfl⟩ (by decide) (by decide) rfl rfl (Nat.le_of_ble_eq_true rfl) dX4_findNext_14 (fun _ _ h => h.elim) (fun r14 w14 hp14 => ?_)
    obtain ⟨rfl, rfl⟩ := hp14
    refine zz_ifb_eq hx 30 dX4_findNext_17 rfl (fun z => absurd rfl z) (fun _ => ?_)
    refine zz_aload_n hx dX4_findNext_20 rfl ?_
    refine zm_g16 hx lf_X4_47 dX4_findNext_21 ?_
    refine zz_iload_n hx dX4_findNext_24 rfl ?_
    refine zm_l16 hx dX4_findNext_25 (by omega) (by omega) ?_
    refine zz_iconst hx dX4_findNext_26 ?_
    have hi16 := hin (by omega)
    refine zz_icmp_ne hx 43 dX4_findNext_27 rfl (by omega) (by omega) (fun c27 => ?_) (fun c27 => ?_)
    · have hi16 := hin (by omega)
      have hcu2 := hcu (by omega) (by omega)
      have hzl := zmem_len h.1 (s := s) (o := curO G s) (by omega) (by omega)
      have hza := fun d => zmem_at h.1 (s := s) (o := curO G s) (by omega) (by omega) d
      refine zz_aload_n hx dX4_findNext_43 rfl ?_
      refine zz_iload_n hx dX4_findNext_44 rfl ?_
      refine zz_callVi hx me_X4_currentOwner lk_X4_88 (c_currentOwner (F := Fup F 18 0) hst (mS_18 h.1) _ (by omega) (show _ < F 0 by omega) (show G 16 _ = -1 ∨ 0 ≤ G 16 _ ∧ G 16 _ < F 6 by omega)) 0 rfl rfl ⟨rfl, rfl⟩ (by decide) (by decide) rfl rfl (Nat.le_of_ble_eq_true rfl) dX4_findNext_45 (fun _ _ h => h.elim) (fun r45 w45 hp45 => ?_)
      obtain ⟨rfl, rfl⟩ := hp45
      refine zz_istore_n (lv' := [(0, _), (1, _), (2, _), (3, _)]) hx dX4_findNext_48 (by decide) rfl ?_
      refine zz_aload_n hx dX4_findNext_49 rfl ?_
      refine zz_iload_n hx dX4_findNext_50 rfl ?_
      refine zz_iload_n hx dX4_findNext_51 rfl ?_
      refine zz_callVi hx me_X4_membersOf lk_X4_112 (c_membersOf (F := Fup F 18 0) hst (mS_18 h.1) _ _ (by omega) (show _ < F 0 by omega) (by omega)) 0 rfl rfl ⟨rfl, rfl⟩ (by decide) (by decide) rfl rfl (Nat.le_of_ble_eq_true rfl) dX4_findNext_52 (fun _ _ h => h.elim) (fun r52 w52 hp52 => ?_)
      obtain ⟨rfl, rfl⟩ := hp52
      refine zz_istore (lv' := [(0, _), (1, _), (2, _), (3, _), (4, _)]) hx dX4_findNext_55 (by decide) rfl ?_
      refine zz_iload_n hx dX4_findNext_57 rfl ?_
      refine zz_if_eq hx 66 dX4_findNext_58 rfl (by omega) (fun c58 => ?_) (fun c58 => ?_)
      · refine zz_iconst hx dX4_findNext_66 ?_
        refine zz_istore (lv' := [(0, _), (1, _), (2, _), (3, _), (4, _), (5, _)]) hx dX4_findNext_67 (by decide) rfl ?_
        refine zz_iconst hx dX4_findNext_69 ?_
        refine zz_istore (lv' := [(0, _), (1, _), (2, _), (3, _), (4, _), (5, _), (6, _)]) hx dX4_findNext_70 (by decide) rfl ?_
        first
          | exact loop (((zmem G s (curO G s) (Rw s)).length : Int).toNat + 1) 0 (-1) (by omega) (by omega) (by omega) (by omega) (Or.inr ⟨fun k _ _ => by omega, by rw [if_pos c58]⟩) (by omega)
          | exact loop (((zmem G s (curO G s) (Rw s)).length : Int).toNat + 1) 0 ((zmem G s (curO G s) (Rw s)).length : Int) (by omega) (by omega) (by omega) (by omega) (Or.inr ⟨fun k _ _ => by omega, by rw [if_neg c58]⟩) (by omega)
      · refine zz_iload hx dX4_findNext_61 rfl ?_
        refine zz_goto hx 67 dX4_findNext_63 rfl ?_
        refine zz_istore (lv' := [(0, _), (1, _), (2, _), (3, _), (4, _), (5, _)]) hx dX4_findNext_67 (by decide) rfl ?_
        refine zz_iconst hx dX4_findNext_69 ?_
        refine zz_istore (lv' := [(0, _), (1, _), (2, _), (3, _), (4, _), (5, _), (6, _)]) hx dX4_findNext_70 (by decide) rfl ?_
        first
          | exact loop (((zmem G s (curO G s) (Rw s)).length : Int).toNat + 1) 0 (-1) (by omega) (by omega) (by omega) (by omega) (Or.inr ⟨fun k _ _ => by omega, by rw [if_pos c58]⟩) (by omega)
          | exact loop (((zmem G s (curO G s) (Rw s)).length : Int).toNat + 1) 0 ((zmem G s (curO G s) (Rw s)).length : Int) (by omega) (by omega) (by omega) (by omega) (Or.inr ⟨fun k _ _ => by omega, by rw [if_neg c58]⟩) (by omega)
    · refine zz_aload_n hx dX4_findNext_30 rfl ?_
      refine zm_g18 hx lf_X4_57 dX4_findNext_31 ?_
      rw [Fup_s]
      refine zz_if_ne hx 41 dX4_findNext_34 rfl (by decide) (fun z => absurd rfl z) (fun _ => ?_)
      refine zz_iconst hx dX4_findNext_37 ?_
      refine zz_goto hx 42 dX4_findNext_38 rfl ?_
      exact zz_iret hx hf dX4_findNext_42 (by first | exact ⟨_, rfl, 0, -1, Or.inl ⟨rfl, by omega, ⟨fun _ => rfl, fun q => absurd (show G 16 s = -1 by omega) q⟩, rfl⟩, Or.inl rfl, by rw [becF_none, becG_none]⟩ | exact ⟨_, rfl, 1, -1, Or.inr ⟨rfl, by omega, rfl⟩, Or.inl rfl, by rw [becF_none, becG_none]⟩) (by decide) (by decide)

set_option maxHeartbeats 4000000 in
set_option maxRecDepth 100000 in
theorem c_findValue {l : Launch} {g : zG} {a : Nat → Nat} {F : Nat → Int} {G : Nat → Int → Int} {rest : va_W} (hst : l.stackTraces = false) {Rw : Int → List Int} (h : mI F G Rw) (s : Int) (hs : -2147483648 ≤ s ∧ s < 2147483648) (z : Int) (hz : -2147483648 ≤ z ∧ z < 2147483648) : zM l g yX4_findValue cX4_findValue 7 (Option.some FieldType.int) ({ frames := 2, cells := 0, slots := 0, locals := 49 } : Room) [.ref (a 0), vi s, vi z] (mW g a F G rest) (zI fun v w => ∃ c f : Int, ((c = 0 ∧ (0 ≤ s ∧ s < F 0) ∧ ((G 16 s = -1 → f = -1) ∧ (G 16 s ≠ -1 → (f = -1 ∧ ∀ k : Int, 0 ≤ k → k < ((zmem G s (curO G s) (Rw s)).length : Int) → G 10 (zat (zmem G s (curO G s) (Rw s)) k) ≠ z) ∨ ∃ k : Int, 0 ≤ k ∧ k < ((zmem G s (curO G s) (Rw s)).length : Int) ∧ f = zat (zmem G s (curO G s) (Rw s)) k ∧ G 10 f = z ∧ ∀ j : Int, 0 ≤ j → j < k → G 10 (zat (zmem G s (curO G s) (Rw s)) j) ≠ z)) ∧ v = f) ∨ (c = 1 ∧ ¬ (0 ≤ s ∧ s < F 0) ∧ f = -1)) ∧ (f = -1 ∨ 0 ≤ f ∧ f < F 6 ∧ G 8 f = 1) ∧ w = mW g a (Fup (becF F f) 18 c) (becG F G f) rest) zN 0 0 := by
  have hF0 := h.1.1
  have hF6 := h.1.2.1
  have hin := fun (z : 0 ≤ s ∧ s < F 0) => h.2.2.2 s z.1 (by omega)
  have hcu := fun (z : 0 ≤ s ∧ s < F 0) (q : G 16 s ≠ -1) => curO_ok h z.1 z.2 q
  refine zM_of (lv0 := [(0, _), (1, _), (2, _)]) hst rfl (by decide +kernel) (Nat.le_of_ble_eq_true rfl) rfl (fun x hx hf hn => ?_)
  have loop : ∀ (m : Nat) (j f : Int) (v6 : List (Nat × Value)), 0 ≤ s ∧ s < F 0 → G 16 s ≠ -1 → -1 ≤ j → j < ((zmem G s (curO G s) (Rw s)).length : Int) → (f = -1 ∨ 0 ≤ f ∧ f < F 6 ∧ G 8 f = 1) → ((f = -1 ∧ ∀ k : Int, j < k → k < ((zmem G s (curO G s) (Rw s)).length : Int) → G 10 (zat (zmem G s (curO G s) (Rw s)) k) ≠ z) ∨ ∃ k : Int, j < k ∧ k < ((zmem G s (curO G s) (Rw s)).length : Int) ∧ f = zat (zmem G s (curO G s) (Rw s)) k ∧ G 10 f = z ∧ ∀ i : Int, j < i → i < k → G 10 (zat (zmem G s (curO G s) (Rw s)) i) ≠ z) → (j + 1).toNat < m → Z l g ({ frames := 2, cells := 0, slots := 0, locals := 49 } : Room) 7 x 0 0 (mW g a (Fup F 18 0) G rest) 62 ([(0, .ref (a 0)), (1, vi s), (2, vi z), (3, vi (curO G s)), (4, vi f), (5, vi j)] ++ v6) [] := by
    intro m
    induction m with
    | zero => intro j f v6 hs0 hi h0 h1 hf0 hp hm; omega
    | succ m ih =>
      intro j f v6 hs0 hi h0 h1 hf0 hp hm
      have hi16 := hin hs0
      have hcu2 := hcu hs0 hi
      have hzl := zmem_len h.1 (s := s) (o := curO G s) (by omega) (by omega)
      refine zz_sub (lv' := [(0, .ref (a 0)), (1, vi s), (2, vi z), (3, vi (curO G s)), (4, vi f), (5, vi j)]) (fun q hq => List.mem_append_left _ hq) ?_
      refine zz_iload hx dX4_findValue_62 rfl ?_
      refine zz_if_lt hx 103 dX4_findValue_64 rfl (by omega) (fun c64 => ?_) (fun c64 => ?_)
      · have hj1 : j = -1 := by omega
        subst hj1
        have hp2 : (f = -1 ∧ ∀ k : Int, 0 ≤ k → k < ((zmem G s (curO G s) (Rw s)).length : Int) → G 10 (zat (zmem G s (curO G s) (Rw s)) k) ≠ z) ∨ ∃ k : Int, 0 ≤ k ∧ k < ((zmem G s (curO G s) (Rw s)).length : Int) ∧ f = zat (zmem G s (curO G s) (Rw s)) k ∧ G 10 f = z ∧ ∀ j : Int, 0 ≤ j → j < k → G 10 (zat (zmem G s (curO G s) (Rw s)) j) ≠ z := by
          rcases hp with ⟨q1, q2⟩ | ⟨k, q1, q2, q3, q4, q5⟩
          · exact Or.inl ⟨q1, fun k k0 k1 => q2 k (by omega) k1⟩
          · exact Or.inr ⟨k, by omega, q2, q3, q4, fun i i0 i1 => q5 i (by omega) i1⟩
        refine zz_aload_n hx dX4_findValue_103 rfl ?_
        refine zz_iload hx dX4_findValue_104 rfl ?_
        refine zz_callVi hx me_X4_becomes lk_X4_96 (c_becomes (F := Fup F 18 0) hst (mS_18 h.1) _ (by clear hp hp2; show _ = -1 ∨ 0 ≤ _ ∧ _ < F 6; omega)) 0 rfl rfl ⟨rfl, rfl⟩ (by decide) (by decide) rfl rfl (Nat.le_of_ble_eq_true rfl) dX4_findValue_106 (fun _ _ h => h.elim) (fun r106 w106 hp106 => ?_)
        obtain ⟨rfl, rfl⟩ := hp106
        exact zz_iret hx hf dX4_findValue_109 ⟨_, rfl, 0, _, Or.inl ⟨rfl, by omega, ⟨fun q => absurd q hi, fun _ => hp2⟩, rfl⟩, hf0, by rw [bec_18, becG_18]⟩ (by decide) (by decide)
      · have hj := zat_val h.1 (s := s) (o := curO G s) (k := j) (by omega) (by omega) (by omega) h1
        have hvj := h.1.2.2.2.1 (zat (zmem G s (curO G s) (Rw s)) j) (by omega) (by omega)
        refine zz_aload_n hx dX4_findValue_67 rfl ?_
        refine zz_iload_n hx dX4_findValue_68 rfl ?_
        refine zz_iload_n hx dX4_findValue_69 rfl ?_
        refine zz_iload hx dX4_findValue_70 rfl ?_
        refine zz_callVi hx me_X4_memberOf lk_X4_118 (c_memberOf (F := Fup F 18 0) hst (mS_18 h.1) _ _ _ (by omega) (show _ < F 0 by omega) (by omega) (by omega)) 0 rfl rfl ⟨rfl, rfl⟩ (by decide) (by decide) rfl rfl (Nat.le_of_ble_eq_true rfl) dX4_findValue_72 (fun _ _ h => h.elim) (fun r72 w72 hp72 => ?_)
        obtain ⟨rfl, rfl⟩ := hp72
        rw [if_pos (show 0 ≤ j by omega)]
        refine zz_istore (lv' := [(0, _), (1, _), (2, _), (3, _), (4, _), (5, _), (6, _)]) hx dX4_findValue_75 (by decide) rfl ?_
        refine zz_aload_n hx dX4_findValue_77 rfl ?_
        refine zm_g10 hx lf_X4_32 dX4_findValue_78 ?_
        refine zz_iload hx dX4_findValue_81 rfl ?_
        refine zm_l10 hx dX4_findValue_83 (by omega) (by omega) ?_
        refine zz_iload_n hx dX4_findValue_84 rfl ?_
        refine zz_icmp_ne hx 93 dX4_findValue_85 rfl (by omega) (by omega) (fun c85 => ?_) (fun c85 => ?_)
        · refine zz_iload hx dX4_findValue_93 rfl ?_
          refine zz_istore (lv' := [(0, _), (1, _), (2, _), (3, _), (4, _), (5, _), (6, _)]) hx dX4_findValue_95 (by decide) rfl ?_
          refine zz_iinc (lv' := [(0, _), (1, _), (2, _), (3, _), (4, _), (5, _), (6, _)]) hx dX4_findValue_97 (by decide) rfl rfl ?_
          refine zz_goto hx 62 dX4_findValue_100 rfl ?_
          first
            | exact ih (j + -1) (zat (zmem G s (curO G s) (Rw s)) j) [(6, vi (zat (zmem G s (curO G s) (Rw s)) j))] hs0 hi (by omega) (by omega) (by omega) (Or.inr ⟨j, by omega, h1, rfl, c85, fun i i0 i1 => by omega⟩) (by omega)
            | (refine ih (j + -1) f [(6, vi (zat (zmem G s (curO G s) (Rw s)) j))] hs0 hi (by omega) (by omega) hf0 ?_ (by omega)
               rcases hp with ⟨q1, q2⟩ | ⟨k, q1, q2, q3, q4, q5⟩
               · refine Or.inl ⟨q1, fun k k0 k1 => ?_⟩
                 rcases Int.lt_or_eq_of_le (show j ≤ k by omega) with y | y
                 · exact q2 k y k1
                 · rw [← y]; exact c85
               · refine Or.inr ⟨k, by omega, q2, q3, q4, fun i i0 i1 => ?_⟩
                 rcases Int.lt_or_eq_of_le (show j ≤ i by omega) with y | y
                 · exact q5 i y i1
                 · rw [← y]; exact c85)
        · refine zz_iload hx dX4_findValue_88 rfl ?_
          refine zz_goto hx 95 dX4_findValue_90 rfl ?_
          refine zz_istore (lv' := [(0, _), (1, _), (2, _), (3, _), (4, _), (5, _), (6, _)]) hx dX4_findValue_95 (by decide) rfl ?_
          refine zz_iinc (lv' := [(0, _), (1, _), (2, _), (3, _), (4, _), (5, _), (6, _)]) hx dX4_findValue_97 (by decide) rfl rfl ?_
          refine zz_goto hx 62 dX4_findValue_100 rfl ?_
          first
            | exact ih (j + -1) (zat (zmem G s (curO G s) (Rw s)) j) [(6, vi (zat (zmem G s (curO G s) (Rw s)) j))] hs0 hi (by omega) (by omega) (by omega) (Or.inr ⟨j, by omega, h1, rfl, c85, fun i i0 i1 => by omega⟩) (by omega)
            | (refine ih (j + -1) f [(6, vi (zat (zmem G s (curO G s) (Rw s)) j))] hs0 hi (by omega) (by omega) hf0 ?_ (by omega)
               rcases hp with ⟨q1, q2⟩ | ⟨k, q1, q2, q3, q4, q5⟩
               · refine Or.inl ⟨q1, fun k k0 k1 => ?_⟩
                 rcases Int.lt_or_eq_of_le (show j ≤ k by omega) with y | y
                 · exact q2 k y k1
                 · rw [← y]; exact c85
               · refine Or.inr ⟨k, by omega, q2, q3, q4, fun i i0 i1 => ?_⟩
                 rcases Int.lt_or_eq_of_le (show j ≤ i by omega) with y | y
                 · exact q5 i y i1
                 · rw [← y]; exact c85)
  refine zz_aload_n hx dX4_findValue_0 rfl ?_
  refine zz_aload_n hx dX4_findValue_1 rfl ?_
  refine zz_iload_n hx dX4_findValue_2 rfl ?_
  refine zz_callVi hx me_X4_isSet lk_X4_109 (c_isSet hst _ (by omega) hF0) 0 rfl rfl ⟨rfl, rfl⟩ (by decide) (by decide) rfl rfl (Nat.le_of_ble_eq_true rfl) dX4_findValue_3 (fun _ _ h => h.elim) (fun r3 w3 hp3 => ?_)
  obtain ⟨rfl, rfl⟩ := hp3
  refine zz_ifb_eq hx 13 dX4_findValue_6 rfl (fun c6 => ?_) (fun c6 => ?_)
  · refine zz_iconst hx dX4_findValue_13 ?_
    refine zz_callVi hx me_X4_can lk_X4_70 (c_can hst _ (by omega)) 0 rfl rfl ⟨rfl, rfl⟩ (by decide) (by decide) rfl rfl (Nat.le_of_ble_eq_true rfl) dX4_findValue_14 (fun _ _ h => h.elim) (fun r14 w14 hp14 => ?_)
    obtain ⟨rfl, rfl⟩ := hp14
    refine zz_ifb_eq hx 30 dX4_findValue_17 rfl (fun _ => ?_) (fun z => absurd z (by decide))
    refine zz_aload_n hx dX4_findValue_30 rfl ?_
    refine zm_g18 hx lf_X4_57 dX4_findValue_31 ?_
    rw [Fup_s]
    refine zz_if_ne hx 41 dX4_findValue_34 rfl (by decide) (fun _ => ?_) (fun z => absurd z (by decide))
    refine zz_iconst hx dX4_findValue_41 ?_
    exact zz_iret hx hf dX4_findValue_42 (by first | exact ⟨_, rfl, 0, -1, Or.inl ⟨rfl, by omega, ⟨fun _ => rfl, fun q => absurd (show G 16 s = -1 by omega) q⟩, rfl⟩, Or.inl rfl, by rw [becF_none, becG_none]⟩ | exact ⟨_, rfl, 1, -1, Or.inr ⟨rfl, by omega, rfl⟩, Or.inl rfl, by rw [becF_none, becG_none]⟩) (by decide) (by decide)
  · refine zz_iconst hx dX4_findValue_9 ?_
    refine zz_goto hx 14 dX4_findValue_10 rfl ?_
    refine zz_callVi hx me_X4_can lk_X4_70 (c_can hst _ (by omega)) 0 rfl rfl ⟨rfl, rfl⟩ (by decide) (by decide) rfl rfl (Nat.le_of_ble_eq_true rfl) dX4_findValue_14 (fun _ _ h => h.elim) (fun r14 w14 hp14 => ?_)
    obtain ⟨rfl, rfl⟩ := hp14
    refine zz_ifb_eq hx 30 dX4_findValue_17 rfl (fun z => absurd rfl z) (fun _ => ?_)
    refine zz_aload_n hx dX4_findValue_20 rfl ?_
    refine zm_g16 hx lf_X4_47 dX4_findValue_21 ?_
    refine zz_iload_n hx dX4_findValue_24 rfl ?_
    refine zm_l16 hx dX4_findValue_25 (by omega) (by omega) ?_
    refine zz_iconst hx dX4_findValue_26 ?_
    have hi16 := hin (by omega)
    refine zz_icmp_ne hx 43 dX4_findValue_27 rfl (by omega) (by omega) (fun c27 => ?_) (fun c27 => ?_)
    · have hi16 := hin (by omega)
      have hcu2 := hcu (by omega) (by omega)
      have hzl := zmem_len h.1 (s := s) (o := curO G s) (by omega) (by omega)
      have hza := fun d => zmem_at h.1 (s := s) (o := curO G s) (by omega) (by omega) d
      refine zz_aload_n hx dX4_findValue_43 rfl ?_
      refine zz_iload_n hx dX4_findValue_44 rfl ?_
      refine zz_callVi hx me_X4_currentOwner lk_X4_88 (c_currentOwner (F := Fup F 18 0) hst (mS_18 h.1) _ (by omega) (show _ < F 0 by omega) (show G 16 _ = -1 ∨ 0 ≤ G 16 _ ∧ G 16 _ < F 6 by omega)) 0 rfl rfl ⟨rfl, rfl⟩ (by decide) (by decide) rfl rfl (Nat.le_of_ble_eq_true rfl) dX4_findValue_45 (fun _ _ h => h.elim) (fun r45 w45 hp45 => ?_)
      obtain ⟨rfl, rfl⟩ := hp45
      refine zz_istore_n (lv' := [(0, _), (1, _), (2, _), (3, _)]) hx dX4_findValue_48 (by decide) rfl ?_
      refine zz_iconst hx dX4_findValue_49 ?_
      refine zz_istore (lv' := [(0, _), (1, _), (2, _), (3, _), (4, _)]) hx dX4_findValue_50 (by decide) rfl ?_
      refine zz_aload_n hx dX4_findValue_52 rfl ?_
      refine zz_iload_n hx dX4_findValue_53 rfl ?_
      refine zz_iload_n hx dX4_findValue_54 rfl ?_
      refine zz_callVi hx me_X4_membersOf lk_X4_112 (c_membersOf (F := Fup F 18 0) hst (mS_18 h.1) _ _ (by omega) (show _ < F 0 by omega) (by omega)) 0 rfl rfl ⟨rfl, rfl⟩ (by decide) (by decide) rfl rfl (Nat.le_of_ble_eq_true rfl) dX4_findValue_55 (fun _ _ h => h.elim) (fun r55 w55 hp55 => ?_)
      obtain ⟨rfl, rfl⟩ := hp55
      refine zz_iconst hx dX4_findValue_58 ?_
      refine zz_isub hx dX4_findValue_59 ?_
      refine zz_istore (lv' := [(0, _), (1, _), (2, _), (3, _), (4, _), (5, _)]) hx dX4_findValue_60 (by decide) rfl ?_
      exact loop (((zmem G s (curO G s) (Rw s)).length : Int).toNat + 1) (((zmem G s (curO G s) (Rw s)).length : Int) - 1) (-1) [] (by omega) (by omega) (by omega) (by omega) (Or.inl rfl) (Or.inl ⟨rfl, fun k _ _ => by omega⟩) (by omega)
    · refine zz_aload_n hx dX4_findValue_30 rfl ?_
      refine zm_g18 hx lf_X4_57 dX4_findValue_31 ?_
      rw [Fup_s]
      refine zz_if_ne hx 41 dX4_findValue_34 rfl (by decide) (fun z => absurd rfl z) (fun _ => ?_)
      refine zz_iconst hx dX4_findValue_37 ?_
      refine zz_goto hx 42 dX4_findValue_38 rfl ?_
      exact zz_iret hx hf dX4_findValue_42 (by first | exact ⟨_, rfl, 0, -1, Or.inl ⟨rfl, by omega, ⟨fun _ => rfl, fun q => absurd (show G 16 s = -1 by omega) q⟩, rfl⟩, Or.inl rfl, by rw [becF_none, becG_none]⟩ | exact ⟨_, rfl, 1, -1, Or.inr ⟨rfl, by omega, rfl⟩, Or.inl rfl, by rw [becF_none, becG_none]⟩) (by decide) (by decide)
