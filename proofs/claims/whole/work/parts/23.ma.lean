set_option maxHeartbeats 4000000 in
set_option maxRecDepth 100000 in
theorem c_connect {l : Launch} {g : zG} {a : Nat → Nat} {F : Nat → Int} {G : Nat → Int → Int} {rest : va_W} (hst : l.stackTraces = false) {Rw : Int → List Int} (h : mI F G Rw) (s : Int) (hs : -2147483648 ≤ s ∧ s < 2147483648) : zM l g yX4_connect cX4_connect 4 (Option.some FieldType.int) ({ frames := 3, cells := 0, slots := 0, locals := 74 } : Room) [.ref (a 0), vi s] (mW g a F G rest) (zI fun v w => (¬ (0 ≤ s ∧ s < F 0) ∧ w = mW g a (Fup F 18 1) G rest) ∨ (¬ ¬ (0 ≤ s ∧ s < F 0) ∧ ¬ (F 14 ≠ -1 ∧ G 9 (F 14) = G 2 s ∧ G 11 (60 * s + F 14) = -1 ∧ G 16 s ≠ -1) ∧ w = mW g a (Fup F 18 2) G rest) ∨ (¬ ¬ (0 ≤ s ∧ s < F 0) ∧ (F 14 ≠ -1 ∧ G 9 (F 14) = G 2 s ∧ G 11 (60 * s + F 14) = -1 ∧ G 16 s ≠ -1) ∧ ∃ (G1 : Nat → Int → Int) (Rw1 : Int → List Int), insO F G Rw s (F 14) (curO G s) G1 Rw1 ∧ v = ((zmem G1 s (curO G s) (Rw1 s)).length : Int) ∧ w = mW g a (Fup F 18 0) (Gup G1 16 s (F 14)) rest)) zN 0 0 := by
  have hF0 := h.1.1
  have hF6 := h.1.2.1
  have hin := fun (z : 0 ≤ s ∧ s < F 0) => h.2.2.2 s z.1 (by omega)
  have hcu := fun (z : 0 ≤ s ∧ s < F 0) (q : G 16 s ≠ -1) => curO_ok h z.1 z.2 q
  have hds := fun (z : 0 ≤ s ∧ s < F 0) => h.1.2.2.1 s z.1 z.2
  have hrn := h.2.1
  have hvr := fun (q : F 14 ≠ -1) => h.1.2.2.2.1 (F 14) (by omega) (by omega)
  have hon := fun (z : 0 ≤ s ∧ s < F 0) (q : F 14 ≠ -1) => h.1.2.2.2.2.1 s (F 14) z.1 (by omega) (by omega) (by omega)
  refine zM_of (lv0 := [(0, _), (1, _)]) hst rfl (by decide +kernel) (Nat.le_of_ble_eq_true rfl) rfl (fun x hx hf hn => ?_)
  have J : ∀ b : Int, (b = 0 ∨ b = 1) → (b = 1 ↔ ((0 ≤ s ∧ s < F 0) ∧ (F 14 ≠ -1 ∧ G 9 (F 14) = G 2 s ∧ G 11 (60 * s + F 14) = -1 ∧ G 16 s ≠ -1))) → Z l g ({ frames := 3, cells := 0, slots := 0, locals := 74 } : Room) 4 x 0 0 (mW g a F G rest) 62 [(0, .ref (a 0)), (1, vi s)] [vi b] := by
    intro b hb hbi
    refine zz_istore_n (lv' := [(0, _), (1, _), (2, _)]) hx dX4_connect_62 (by decide) rfl ?_
    refine zz_aload_n hx dX4_connect_63 rfl ?_
    refine zz_aload_n hx dX4_connect_64 rfl ?_
    refine zz_iload_n hx dX4_connect_65 rfl ?_
    refine zz_callVi hx me_X4_isSet lk_X4_109 (c_isSet hst _ (by omega) hF0) 0 rfl rfl ⟨rfl, rfl⟩ (by decide) (by decide) rfl rfl (Nat.le_of_ble_eq_true rfl) dX4_connect_66 (fun _ _ h => h.elim) (fun r66 w66 hp66 => ?_)
    obtain ⟨rfl, rfl⟩ := hp66
    refine zz_ifb_ne hx 76 dX4_connect_69 rfl (fun c69 => ?_) (fun c69 => ?_)
    · refine zz_iload_n hx dX4_connect_76 rfl ?_
      refine zz_if_eq hx 84 dX4_connect_77 rfl (by omega) (fun c77 => ?_) (fun c77 => ?_)
      · have hbn : ¬ ((0 ≤ s ∧ s < F 0) ∧ (F 14 ≠ -1 ∧ G 9 (F 14) = G 2 s ∧ G 11 (60 * s + F 14) = -1 ∧ G 16 s ≠ -1)) := fun z9 => by have := hbi.mpr z9; omega
        refine zz_iconst hx dX4_connect_84 ?_
        refine zz_callVi hx me_X4_can lk_X4_70 (c_can hst _ (by omega)) 0 rfl rfl ⟨rfl, rfl⟩ (by decide) (by decide) rfl rfl (Nat.le_of_ble_eq_true rfl) dX4_connect_85 (fun _ _ h => h.elim) (fun r85 w85 hp85 => ?_)
        obtain ⟨rfl, rfl⟩ := hp85
        refine zz_ifb_ne hx 93 dX4_connect_88 rfl (fun z => absurd z (by decide)) (fun _ => ?_)
        refine zz_iconst hx dX4_connect_91 ?_
        exact zz_iret hx hf dX4_connect_92 ⟨_, rfl, by first | exact Or.inl ⟨by omega, rfl⟩ | exact Or.inr (Or.inl ⟨by omega, by omega, rfl⟩)⟩ (by decide) (by decide)
      · have hgd := hbi.mp (by omega)
        have hi16 := hin hgd.1
        have hcu2 := hcu hgd.1 (by omega)
        have hon2 := hon hgd.1 (by omega)
        refine zz_iconst hx dX4_connect_80 ?_
        refine zz_goto hx 85 dX4_connect_81 rfl ?_
        refine zz_callVi hx me_X4_can lk_X4_70 (c_can hst _ (by omega)) 0 rfl rfl ⟨rfl, rfl⟩ (by decide) (by decide) rfl rfl (Nat.le_of_ble_eq_true rfl) dX4_connect_85 (fun _ _ h => h.elim) (fun r85 w85 hp85 => ?_)
        obtain ⟨rfl, rfl⟩ := hp85
        refine zz_ifb_ne hx 93 dX4_connect_88 rfl (fun _ => ?_) (fun z => absurd rfl z)
        refine zz_aload_n hx dX4_connect_93 rfl ?_
        refine zz_iload_n hx dX4_connect_94 rfl ?_
        refine zz_callVi hx me_X4_currentOwner lk_X4_88 (c_currentOwner (F := Fup F 18 0) hst (mS_18 h.1) _ (by omega) (show _ < F 0 by omega) (show G 16 _ = -1 ∨ 0 ≤ G 16 _ ∧ G 16 _ < F 6 by omega)) 0 rfl rfl ⟨rfl, rfl⟩ (by decide) (by decide) rfl rfl (Nat.le_of_ble_eq_true rfl) dX4_connect_95 (fun _ _ h => h.elim) (fun r95 w95 hp95 => ?_)
        obtain ⟨rfl, rfl⟩ := hp95
        refine zz_istore_n (lv' := [(0, _), (1, _), (2, _), (3, _)]) hx dX4_connect_98 (by decide) rfl ?_
        refine zz_aload_n hx dX4_connect_99 rfl ?_
        refine zz_iload_n hx dX4_connect_100 rfl ?_
        refine zz_aload_n hx dX4_connect_101 rfl ?_
        refine zm_g14 hx lf_X4_53 dX4_connect_102 ?_
        refine zz_iload_n hx dX4_connect_105 rfl ?_
        refine zz_callVv hx me_X4_insert lk_X4_92 (c_insert (F := Fup F 18 0) hst (mS_18 h.1) s (F 14) (curO G s) (by omega) (show s < F 0 by omega) (by omega) (show F 14 < F 6 by omega) (by omega) (by omega) (by omega) (by omega) (show curO G s < F 6 by omega) (by omega) (by omega) (show G 16 _ = -1 ∨ 0 ≤ G 16 _ ∧ G 16 _ < F 6 by omega)) 0 rfl rfl ⟨rfl, rfl⟩ (by decide) (by decide) rfl rfl (Nat.le_of_ble_eq_true rfl) dX4_connect_106 (fun _ _ h => h.elim) (fun w106 hp106 => ?_)
        obtain ⟨G1, p, rfl, i1, i2, i3, i4⟩ := hp106
        refine zz_aload_n hx dX4_connect_109 rfl ?_
        refine zm_g16 hx lf_X4_47 dX4_connect_110 ?_
        refine zz_iload_n hx dX4_connect_113 rfl ?_
        refine zz_aload_n hx dX4_connect_114 rfl ?_
        refine zm_g14 hx lf_X4_53 dX4_connect_115 ?_
        refine zm_s16 hx dX4_connect_118 (by omega) (by omega) ?_
        refine zz_aload_n hx dX4_connect_119 rfl ?_
        refine zz_iload_n hx dX4_connect_120 rfl ?_
        refine zz_iload_n hx dX4_connect_121 rfl ?_
        refine zz_callVi hx me_X4_membersOf lk_X4_112 (c_membersOf (F := Fup F 18 0) hst (mS_16 i2 s (F 14)) _ _ (by omega) (show _ < F 0 by omega) (by omega)) 0 rfl rfl ⟨rfl, rfl⟩ (by decide) (by decide) rfl rfl (Nat.le_of_ble_eq_true rfl) dX4_connect_122 (fun _ _ h => h.elim) (fun r122 w122 hp122 => ?_)
        obtain ⟨rfl, rfl⟩ := hp122
        exact zz_iret hx hf dX4_connect_125 ⟨_, rfl, Or.inr (Or.inr ⟨by omega, by omega, G1, _, ⟨⟨p, i1, rfl⟩, i2, i3, i4⟩, rfl, rfl⟩)⟩ (by decide) (by decide)
    · refine zz_iconst hx dX4_connect_72 ?_
      refine zz_goto hx 85 dX4_connect_73 rfl ?_
      refine zz_callVi hx me_X4_can lk_X4_70 (c_can hst _ (by omega)) 0 rfl rfl ⟨rfl, rfl⟩ (by decide) (by decide) rfl rfl (Nat.le_of_ble_eq_true rfl) dX4_connect_85 (fun _ _ h => h.elim) (fun r85 w85 hp85 => ?_)
      obtain ⟨rfl, rfl⟩ := hp85
      refine zz_ifb_ne hx 93 dX4_connect_88 rfl (fun z => absurd z (by decide)) (fun _ => ?_)
      refine zz_iconst hx dX4_connect_91 ?_
      exact zz_iret hx hf dX4_connect_92 ⟨_, rfl, by first | exact Or.inl ⟨by omega, rfl⟩ | exact Or.inr (Or.inl ⟨by omega, by omega, rfl⟩)⟩ (by decide) (by decide)
  refine zz_aload_n hx dX4_connect_0 rfl ?_
  refine zz_iload_n hx dX4_connect_1 rfl ?_
  refine zz_callVi hx me_X4_isSet lk_X4_109 (c_isSet hst _ (by omega) hF0) 0 rfl rfl ⟨rfl, rfl⟩ (by decide) (by decide) rfl rfl (Nat.le_of_ble_eq_true rfl) dX4_connect_2 (fun _ _ h => h.elim) (fun r2 w2 hp2 => ?_)
  obtain ⟨rfl, rfl⟩ := hp2
  refine zz_ifb_eq hx 61 dX4_connect_5 rfl (fun c5 => ?_) (fun c5 => ?_)
  · refine zz_iconst hx dX4_connect_61 ?_
    exact J _ (by omega) (by omega)
  · refine zz_aload_n hx dX4_connect_8 rfl ?_
    refine zm_g14 hx lf_X4_53 dX4_connect_9 ?_
    refine zz_iconst hx dX4_connect_12 ?_
    refine zz_icmp_eq hx 61 dX4_connect_13 rfl (by omega) (by omega) (fun c13 => ?_) (fun c13 => ?_)
    · refine zz_iconst hx dX4_connect_61 ?_
      exact J _ (by omega) (by omega)
    · refine zz_aload_n hx dX4_connect_16 rfl ?_
      refine zm_g9 hx lf_X4_29 dX4_connect_17 ?_
      refine zz_aload_n hx dX4_connect_20 rfl ?_
      refine zm_g14 hx lf_X4_53 dX4_connect_21 ?_
      have hvr2 := hvr (by omega)
      have hds2 := hds (by omega)
      refine zm_l9 hx dX4_connect_24 (by omega) (by omega) ?_
      refine zz_aload_n hx dX4_connect_25 rfl ?_
      refine zm_g2 hx lf_X4_13 dX4_connect_26 ?_
      refine zz_iload_n hx dX4_connect_29 rfl ?_
      refine zm_l2 hx dX4_connect_30 (by omega) (by omega) ?_
      refine zz_icmp_ne hx 61 dX4_connect_31 rfl (by omega) (by omega) (fun c31 => ?_) (fun c31 => ?_)
      · refine zz_iconst hx dX4_connect_61 ?_
        exact J _ (by omega) (by omega)
      · refine zz_aload_n hx dX4_connect_34 rfl ?_
        refine zz_iload_n hx dX4_connect_35 rfl ?_
        refine zz_aload_n hx dX4_connect_36 rfl ?_
        refine zm_g14 hx lf_X4_53 dX4_connect_37 ?_
        have hon2 := hon (by omega) (by omega)
        refine zz_callVi hx me_X4_ownerIn lk_X4_78 (c_ownerIn hst _ _ (by omega) (by omega) (by omega) (by omega)) 0 rfl rfl ⟨rfl, rfl⟩ (by decide) (by decide) rfl rfl (Nat.le_of_ble_eq_true rfl) dX4_connect_40 (fun _ _ h => h.elim) (fun r40 w40 hp40 => ?_)
        obtain ⟨rfl, rfl⟩ := hp40
        refine zz_iconst hx dX4_connect_43 ?_
        refine zz_icmp_ne hx 61 dX4_connect_44 rfl (by omega) (by omega) (fun c44 => ?_) (fun c44 => ?_)
        · refine zz_iconst hx dX4_connect_61 ?_
          exact J _ (by omega) (by omega)
        · refine zz_aload_n hx dX4_connect_47 rfl ?_
          refine zm_g16 hx lf_X4_47 dX4_connect_48 ?_
          refine zz_iload_n hx dX4_connect_51 rfl ?_
          refine zm_l16 hx dX4_connect_52 (by omega) (by omega) ?_
          refine zz_iconst hx dX4_connect_53 ?_
          have hi16 := hin (by omega)
          refine zz_icmp_eq hx 61 dX4_connect_54 rfl (by omega) (by omega) (fun c54 => ?_) (fun c54 => ?_)
          · refine zz_iconst hx dX4_connect_61 ?_
            exact J _ (by omega) (by omega)
          · refine zz_iconst hx dX4_connect_57 ?_
            refine zz_goto hx 62 dX4_connect_58 rfl ?_
            exact J _ (by omega) (by omega)

set_option maxHeartbeats 4000000 in
set_option maxRecDepth 100000 in
theorem c_disconnect {l : Launch} {g : zG} {a : Nat → Nat} {F : Nat → Int} {G : Nat → Int → Int} {rest : va_W} (hst : l.stackTraces = false) {Rw : Int → List Int} (h : mI F G Rw) (s : Int) (hs : -2147483648 ≤ s ∧ s < 2147483648) : zM l g yX4_disconnect cX4_disconnect 4 (Option.some FieldType.int) ({ frames := 2, cells := 0, slots := 0, locals := 46 } : Room) [.ref (a 0), vi s] (mW g a F G rest) (zI fun v w => (¬ (0 ≤ s ∧ s < F 0) ∧ w = mW g a (Fup F 18 1) G rest) ∨ (¬ ¬ (0 ≤ s ∧ s < F 0) ∧ ¬ (F 14 ≠ -1 ∧ G 11 (60 * s + F 14) ≠ -1 ∧ G 5 s = 2) ∧ w = mW g a (Fup F 18 2) G rest) ∨ (¬ ¬ (0 ≤ s ∧ s < F 0) ∧ (F 14 ≠ -1 ∧ G 11 (60 * s + F 14) ≠ -1 ∧ G 5 s = 2) ∧ ∃ (G1 : Nat → Int → Int) (Rw1 : Int → List Int), outO F G Rw s (F 14) G1 Rw1 ∧ v = ((zmem G1 s (G 11 (60 * s + F 14)) (Rw1 s)).length : Int) ∧ w = mW g a (Fup F 18 0) (Gup G1 16 s (if G 16 s = F 14 then -1 else G 16 s)) rest)) zN 0 0 := by
  have hF0 := h.1.1
  have hF6 := h.1.2.1
  have hin := fun (z : 0 ≤ s ∧ s < F 0) => h.2.2.2 s z.1 (by omega)
  have hcu := fun (z : 0 ≤ s ∧ s < F 0) (q : G 16 s ≠ -1) => curO_ok h z.1 z.2 q
  have hds := fun (z : 0 ≤ s ∧ s < F 0) => h.1.2.2.1 s z.1 z.2
  have hrn := h.2.1
  have hvr := fun (q : F 14 ≠ -1) => h.1.2.2.2.1 (F 14) (by omega) (by omega)
  have hon := fun (z : 0 ≤ s ∧ s < F 0) (q : F 14 ≠ -1) => h.1.2.2.2.2.1 s (F 14) z.1 (by omega) (by omega) (by omega)
  refine zM_of (lv0 := [(0, _), (1, _)]) hst rfl (by decide +kernel) (Nat.le_of_ble_eq_true rfl) rfl (fun x hx hf hn => ?_)
  have J : ∀ b : Int, (b = 0 ∨ b = 1) → (b = 1 ↔ ((0 ≤ s ∧ s < F 0) ∧ (F 14 ≠ -1 ∧ G 11 (60 * s + F 14) ≠ -1 ∧ G 5 s = 2))) → Z l g ({ frames := 2, cells := 0, slots := 0, locals := 46 } : Room) 4 x 0 0 (mW g a F G rest) 44 [(0, .ref (a 0)), (1, vi s)] [vi b] := by
    intro b hb hbi
    refine zz_istore_n (lv' := [(0, _), (1, _), (2, _)]) hx dX4_disconnect_44 (by decide) rfl ?_
    refine zz_aload_n hx dX4_disconnect_45 rfl ?_
    refine zz_aload_n hx dX4_disconnect_46 rfl ?_
    refine zz_iload_n hx dX4_disconnect_47 rfl ?_
    refine zz_callVi hx me_X4_isSet lk_X4_109 (c_isSet hst _ (by omega) hF0) 0 rfl rfl ⟨rfl, rfl⟩ (by decide) (by decide) rfl rfl (Nat.le_of_ble_eq_true rfl) dX4_disconnect_48 (fun _ _ h => h.elim) (fun r48 w48 hp48 => ?_)
    obtain ⟨rfl, rfl⟩ := hp48
    refine zz_ifb_ne hx 58 dX4_disconnect_51 rfl (fun c51 => ?_) (fun c51 => ?_)
    · refine zz_iload_n hx dX4_disconnect_58 rfl ?_
      refine zz_if_eq hx 66 dX4_disconnect_59 rfl (by omega) (fun c59 => ?_) (fun c59 => ?_)
      · have hbn : ¬ ((0 ≤ s ∧ s < F 0) ∧ (F 14 ≠ -1 ∧ G 11 (60 * s + F 14) ≠ -1 ∧ G 5 s = 2)) := fun z9 => by have := hbi.mpr z9; omega
        refine zz_iconst hx dX4_disconnect_66 ?_
        refine zz_callVi hx me_X4_can lk_X4_70 (c_can hst _ (by omega)) 0 rfl rfl ⟨rfl, rfl⟩ (by decide) (by decide) rfl rfl (Nat.le_of_ble_eq_true rfl) dX4_disconnect_67 (fun _ _ h => h.elim) (fun r67 w67 hp67 => ?_)
        obtain ⟨rfl, rfl⟩ := hp67
        refine zz_ifb_ne hx 75 dX4_disconnect_70 rfl (fun z => absurd z (by decide)) (fun _ => ?_)
        refine zz_iconst hx dX4_disconnect_73 ?_
        exact zz_iret hx hf dX4_disconnect_74 ⟨_, rfl, by first | exact Or.inl ⟨by omega, rfl⟩ | exact Or.inr (Or.inl ⟨by omega, by omega, rfl⟩)⟩ (by decide) (by decide)
      · have hgd := hbi.mp (by omega)
        have hi16 := hin hgd.1
        have hon2 := hon hgd.1 (by omega)
        refine zz_iconst hx dX4_disconnect_62 ?_
        refine zz_goto hx 67 dX4_disconnect_63 rfl ?_
        refine zz_callVi hx me_X4_can lk_X4_70 (c_can hst _ (by omega)) 0 rfl rfl ⟨rfl, rfl⟩ (by decide) (by decide) rfl rfl (Nat.le_of_ble_eq_true rfl) dX4_disconnect_67 (fun _ _ h => h.elim) (fun r67 w67 hp67 => ?_)
        obtain ⟨rfl, rfl⟩ := hp67
        refine zz_ifb_ne hx 75 dX4_disconnect_70 rfl (fun _ => ?_) (fun z => absurd rfl z)
        refine zz_aload_n hx dX4_disconnect_75 rfl ?_
        refine zz_iload_n hx dX4_disconnect_76 rfl ?_
        refine zz_aload_n hx dX4_disconnect_77 rfl ?_
        refine zm_g14 hx lf_X4_53 dX4_disconnect_78 ?_
        refine zz_callVi hx me_X4_ownerIn lk_X4_78 (c_ownerIn (F := Fup F 18 0) hst _ _ (by omega) (by omega) (show 0 ≤ F 14 by omega) (show F 14 < 60 by omega)) 0 rfl rfl ⟨rfl, rfl⟩ (by decide) (by decide) rfl rfl (Nat.le_of_ble_eq_true rfl) dX4_disconnect_81 (fun _ _ h => h.elim) (fun r81 w81 hp81 => ?_)
        obtain ⟨rfl, rfl⟩ := hp81
        refine zz_istore_n (lv' := [(0, _), (1, _), (2, _), (3, _)]) hx dX4_disconnect_84 (by decide) rfl ?_
        refine zz_aload_n hx dX4_disconnect_85 rfl ?_
        refine zz_iload_n hx dX4_disconnect_86 rfl ?_
        refine zz_aload_n hx dX4_disconnect_87 rfl ?_
        refine zm_g14 hx lf_X4_53 dX4_disconnect_88 ?_
        refine zz_callVv hx me_X4_takeOut lk_X4_99 (c_takeOut (F := Fup F 18 0) hst (mS_18 h.1) s (F 14) (by omega) (by omega) (by omega) (by omega) (by omega)) 0 rfl rfl ⟨rfl, rfl⟩ (by decide) (by decide) rfl rfl (Nat.le_of_ble_eq_true rfl) dX4_disconnect_91 (fun _ _ h => h.elim) (fun w91 hp91 => ?_)
        obtain ⟨G1, rfl, i2, i3, i4⟩ := hp91
        have e16 : G1 16 = G 16 := i4 16 (by decide) (by decide) (by decide)
        refine zz_aload_n hx dX4_disconnect_94 rfl ?_
        refine zm_g16 hx lf_X4_47 dX4_disconnect_95 ?_
        refine zz_iload_n hx dX4_disconnect_98 rfl ?_
        refine zz_aload_n hx dX4_disconnect_99 rfl ?_
        refine zm_g16 hx lf_X4_47 dX4_disconnect_100 ?_
        refine zz_iload_n hx dX4_disconnect_103 rfl ?_
        refine zm_l16 hx dX4_disconnect_104 (by omega) (by omega) ?_
        refine zz_aload_n hx dX4_disconnect_105 rfl ?_
        refine zm_g14 hx lf_X4_53 dX4_disconnect_106 ?_
        rw [e16]
        refine zz_icmp_ne hx 116 dX4_disconnect_109 rfl (by omega) (show -2147483648 ≤ F 14 ∧ F 14 < 2147483648 by omega) (fun c109 => ?_) (fun c109 => ?_)
        · have c109 : ¬ G 16 s = F 14 := c109
          refine zz_aload_n hx dX4_disconnect_116 rfl ?_
          refine zm_g16 hx lf_X4_47 dX4_disconnect_117 ?_
          refine zz_iload_n hx dX4_disconnect_120 rfl ?_
          refine zm_l16 hx dX4_disconnect_121 (by omega) (by omega) ?_
          first | rw [show (-1 : Int) = (if G 16 s = F 14 then -1 else G 16 s) by rw [if_pos (by omega)]] | rw [e16, show G 16 s = (if G 16 s = F 14 then -1 else G 16 s) by rw [if_neg (by omega)]]
          refine zm_s16 hx dX4_disconnect_122 (by omega) (by omega) ?_
          refine zz_aload_n hx dX4_disconnect_123 rfl ?_
          refine zz_iload_n hx dX4_disconnect_124 rfl ?_
          refine zz_iload_n hx dX4_disconnect_125 rfl ?_
          refine zz_callVi hx me_X4_membersOf lk_X4_112 (c_membersOf (F := Fup F 18 0) hst (mS_16 i2 s _) _ _ (by omega) (show _ < F 0 by omega) (by omega)) 0 rfl rfl ⟨rfl, rfl⟩ (by decide) (by decide) rfl rfl (Nat.le_of_ble_eq_true rfl) dX4_disconnect_126 (fun _ _ h => h.elim) (fun r126 w126 hp126 => ?_)
          obtain ⟨rfl, rfl⟩ := hp126
          exact zz_iret hx hf dX4_disconnect_129 ⟨_, rfl, Or.inr (Or.inr ⟨by omega, by omega, G1, _, ⟨rfl, i2, i3, i4⟩, rfl, rfl⟩)⟩ (by decide) (by decide)
        · have c109 : G 16 s = F 14 := c109
          refine zz_iconst hx dX4_disconnect_112 ?_
          refine zz_goto hx 122 dX4_disconnect_113 rfl ?_
          first | rw [show (-1 : Int) = (if G 16 s = F 14 then -1 else G 16 s) by rw [if_pos (by omega)]] | rw [e16, show G 16 s = (if G 16 s = F 14 then -1 else G 16 s) by rw [if_neg (by omega)]]
          refine zm_s16 hx dX4_disconnect_122 (by omega) (by omega) ?_
          refine zz_aload_n hx dX4_disconnect_123 rfl ?_
          refine zz_iload_n hx dX4_disconnect_124 rfl ?_
          refine zz_iload_n hx dX4_disconnect_125 rfl ?_
          refine zz_callVi hx me_X4_membersOf lk_X4_112 (c_membersOf (F := Fup F 18 0) hst (mS_16 i2 s _) _ _ (by omega) (show _ < F 0 by omega) (by omega)) 0 rfl rfl ⟨rfl, rfl⟩ (by decide) (by decide) rfl rfl (Nat.le_of_ble_eq_true rfl) dX4_disconnect_126 (fun _ _ h => h.elim) (fun r126 w126 hp126 => ?_)
          obtain ⟨rfl, rfl⟩ := hp126
          exact zz_iret hx hf dX4_disconnect_129 ⟨_, rfl, Or.inr (Or.inr ⟨by omega, by omega, G1, _, ⟨rfl, i2, i3, i4⟩, rfl, rfl⟩)⟩ (by decide) (by decide)
    · refine zz_iconst hx dX4_disconnect_54 ?_
      refine zz_goto hx 67 dX4_disconnect_55 rfl ?_
      refine zz_callVi hx me_X4_can lk_X4_70 (c_can hst _ (by omega)) 0 rfl rfl ⟨rfl, rfl⟩ (by decide) (by decide) rfl rfl (Nat.le_of_ble_eq_true rfl) dX4_disconnect_67 (fun _ _ h => h.elim) (fun r67 w67 hp67 => ?_)
      obtain ⟨rfl, rfl⟩ := hp67
      refine zz_ifb_ne hx 75 dX4_disconnect_70 rfl (fun z => absurd z (by decide)) (fun _ => ?_)
      refine zz_iconst hx dX4_disconnect_73 ?_
      exact zz_iret hx hf dX4_disconnect_74 ⟨_, rfl, by first | exact Or.inl ⟨by omega, rfl⟩ | exact Or.inr (Or.inl ⟨by omega, by omega, rfl⟩)⟩ (by decide) (by decide)
  refine zz_aload_n hx dX4_disconnect_0 rfl ?_
  refine zz_iload_n hx dX4_disconnect_1 rfl ?_
  refine zz_callVi hx me_X4_isSet lk_X4_109 (c_isSet hst _ (by omega) hF0) 0 rfl rfl ⟨rfl, rfl⟩ (by decide) (by decide) rfl rfl (Nat.le_of_ble_eq_true rfl) dX4_disconnect_2 (fun _ _ h => h.elim) (fun r2 w2 hp2 => ?_)
  obtain ⟨rfl, rfl⟩ := hp2
  refine zz_ifb_eq hx 43 dX4_disconnect_5 rfl (fun c5 => ?_) (fun c5 => ?_)
  · refine zz_iconst hx dX4_disconnect_43 ?_
    exact J _ (by omega) (by omega)
  · refine zz_aload_n hx dX4_disconnect_8 rfl ?_
    refine zm_g14 hx lf_X4_53 dX4_disconnect_9 ?_
    refine zz_iconst hx dX4_disconnect_12 ?_
    refine zz_icmp_eq hx 43 dX4_disconnect_13 rfl (by omega) (by omega) (fun c13 => ?_) (fun c13 => ?_)
    · refine zz_iconst hx dX4_disconnect_43 ?_
      exact J _ (by omega) (by omega)
    · refine zz_aload_n hx dX4_disconnect_16 rfl ?_
      refine zz_iload_n hx dX4_disconnect_17 rfl ?_
      refine zz_aload_n hx dX4_disconnect_18 rfl ?_
      refine zm_g14 hx lf_X4_53 dX4_disconnect_19 ?_
      have hon2 := hon (by omega) (by omega)
      refine zz_callVi hx me_X4_ownerIn lk_X4_78 (c_ownerIn hst _ _ (by omega) (by omega) (by omega) (by omega)) 0 rfl rfl ⟨rfl, rfl⟩ (by decide) (by decide) rfl rfl (Nat.le_of_ble_eq_true rfl) dX4_disconnect_22 (fun _ _ h => h.elim) (fun r22 w22 hp22 => ?_)
      obtain ⟨rfl, rfl⟩ := hp22
      refine zz_iconst hx dX4_disconnect_25 ?_
      refine zz_icmp_eq hx 43 dX4_disconnect_26 rfl (by omega) (by omega) (fun c26 => ?_) (fun c26 => ?_)
      · refine zz_iconst hx dX4_disconnect_43 ?_
        exact J _ (by omega) (by omega)
      · refine zz_aload_n hx dX4_disconnect_29 rfl ?_
        refine zm_g5 hx lf_X4_23 dX4_disconnect_30 ?_
        refine zz_iload_n hx dX4_disconnect_33 rfl ?_
        refine zm_l5 hx dX4_disconnect_34 (by omega) (by omega) ?_
        refine zz_iconst hx dX4_disconnect_35 ?_
        have hds2 := hds (by omega)
        refine zz_icmp_ne hx 43 dX4_disconnect_36 rfl (by omega) (by omega) (fun c36 => ?_) (fun c36 => ?_)
        · refine zz_iconst hx dX4_disconnect_43 ?_
          exact J _ (by omega) (by omega)
        · refine zz_iconst hx dX4_disconnect_39 ?_
          refine zz_goto hx 44 dX4_disconnect_40 rfl ?_
          exact J _ (by omega) (by omega)

set_option maxHeartbeats 4000000 in
set_option maxRecDepth 100000 in
theorem c_reconnect {l : Launch} {g : zG} {a : Nat → Nat} {F : Nat → Int} {G : Nat → Int → Int} {rest : va_W} (hst : l.stackTraces = false) {Rw : Int → List Int} (h : mI F G Rw) (s : Int) (hs : -2147483648 ≤ s ∧ s < 2147483648) (q : Int) (hq : -2147483648 ≤ q ∧ q < 2147483648) : zM l g yX4_reconnect cX4_reconnect 5 (Option.some FieldType.int) ({ frames := 3, cells := 0, slots := 0, locals := 74 } : Room) [.ref (a 0), vi s, vi q] (mW g a F G rest) (zI fun v w => (¬ ((0 ≤ s ∧ s < F 0) ∧ (0 ≤ q ∧ q < F 6 ∧ G 8 q = 1) ∧ G 9 q = G 1 s) ∧ w = mW g a (Fup F 18 1) G rest) ∨ (¬ ¬ ((0 ≤ s ∧ s < F 0) ∧ (0 ≤ q ∧ q < F 6 ∧ G 8 q = 1) ∧ G 9 q = G 1 s) ∧ ¬ (F 14 ≠ -1 ∧ G 11 (60 * s + F 14) ≠ -1 ∧ G 5 s ≠ 0) ∧ w = mW g a (Fup F 18 2) G rest) ∨ (¬ ¬ ((0 ≤ s ∧ s < F 0) ∧ (0 ≤ q ∧ q < F 6 ∧ G 8 q = 1) ∧ G 9 q = G 1 s) ∧ (F 14 ≠ -1 ∧ G 11 (60 * s + F 14) ≠ -1 ∧ G 5 s ≠ 0) ∧ ∃ (G1 G2 : Nat → Int → Int) (Rw1 Rw2 : Int → List Int), outO F G Rw s (F 14) G1 Rw1 ∧ insO F G1 Rw1 s (F 14) q G2 Rw2 ∧ v = ((zmem G2 s q (Rw2 s)).length : Int) ∧ w = mW g a (Fup F 18 0) (Gup G2 16 s (F 14)) rest)) zN 0 0 := by
  have hF0 := h.1.1
  have hF6 := h.1.2.1
  have hin := fun (z : 0 ≤ s ∧ s < F 0) => h.2.2.2 s z.1 (by omega)
  have hcu := fun (z : 0 ≤ s ∧ s < F 0) (q : G 16 s ≠ -1) => curO_ok h z.1 z.2 q
  have hds := fun (z : 0 ≤ s ∧ s < F 0) => h.1.2.2.1 s z.1 z.2
  have hrn := h.2.1
  have hvr := fun (q : F 14 ≠ -1) => h.1.2.2.2.1 (F 14) (by omega) (by omega)
  have hon := fun (z : 0 ≤ s ∧ s < F 0) (q : F 14 ≠ -1) => h.1.2.2.2.2.1 s (F 14) z.1 (by omega) (by omega) (by omega)
  refine zM_of (lv0 := [(0, _), (1, _), (2, _)]) hst rfl (by decide +kernel) (Nat.le_of_ble_eq_true rfl) rfl (fun x hx hf hn => ?_)
  have J2 : ∀ n b : Int, (n = 0 ∨ n = 1) → (n = 1 ↔ ((0 ≤ s ∧ s < F 0) ∧ (0 ≤ q ∧ q < F 6 ∧ G 8 q = 1) ∧ G 9 q = G 1 s)) → (b = 0 ∨ b = 1) → (b = 1 ↔ (((0 ≤ s ∧ s < F 0) ∧ (0 ≤ q ∧ q < F 6 ∧ G 8 q = 1) ∧ G 9 q = G 1 s) ∧ (F 14 ≠ -1 ∧ G 11 (60 * s + F 14) ≠ -1 ∧ G 5 s ≠ 0))) → Z l g ({ frames := 3, cells := 0, slots := 0, locals := 74 } : Room) 5 x 0 0 (mW g a F G rest) 76 [(0, .ref (a 0)), (1, vi s), (2, vi q), (3, vi n)] [vi b] := by
    intro n b hn1 hni hb hbi
    refine zz_istore (lv' := [(0, _), (1, _), (2, _), (3, _), (4, _)]) hx dX4_reconnect_76 (by decide) rfl ?_
    refine zz_aload_n hx dX4_reconnect_78 rfl ?_
    refine zz_iload_n hx dX4_reconnect_79 rfl ?_
    refine zz_if_ne hx 87 dX4_reconnect_80 rfl (by omega) (fun c80 => ?_) (fun c80 => ?_)
    · have hnm := hni.mp (by omega)
      refine zz_iload hx dX4_reconnect_87 rfl ?_
      refine zz_if_eq hx 96 dX4_reconnect_89 rfl (by omega) (fun c89 => ?_) (fun c89 => ?_)
      · have hbn : ¬ (((0 ≤ s ∧ s < F 0) ∧ (0 ≤ q ∧ q < F 6 ∧ G 8 q = 1) ∧ G 9 q = G 1 s) ∧ (F 14 ≠ -1 ∧ G 11 (60 * s + F 14) ≠ -1 ∧ G 5 s ≠ 0)) := fun z9 => by have := hbi.mpr z9; omega
        refine zz_iconst hx dX4_reconnect_96 ?_
        refine zz_callVi hx me_X4_can lk_X4_70 (c_can hst _ (by omega)) 0 rfl rfl ⟨rfl, rfl⟩ (by decide) (by decide) rfl rfl (Nat.le_of_ble_eq_true rfl) dX4_reconnect_97 (fun _ _ h => h.elim) (fun r97 w97 hp97 => ?_)
        obtain ⟨rfl, rfl⟩ := hp97
        refine zz_ifb_ne hx 105 dX4_reconnect_100 rfl (fun z => absurd z (by decide)) (fun _ => ?_)
        refine zz_iconst hx dX4_reconnect_103 ?_
        exact zz_iret hx hf dX4_reconnect_104 ⟨_, rfl, by first | exact Or.inl ⟨by omega, rfl⟩ | exact Or.inr (Or.inl ⟨by omega, by omega, rfl⟩)⟩ (by decide) (by decide)
      · have hgd := hbi.mp (by omega)
        have hi16 := hin hgd.1.1
        have hon2 := hon hgd.1.1 (by omega)
        refine zz_iconst hx dX4_reconnect_92 ?_
        refine zz_goto hx 97 dX4_reconnect_93 rfl ?_
        refine zz_callVi hx me_X4_can lk_X4_70 (c_can hst _ (by omega)) 0 rfl rfl ⟨rfl, rfl⟩ (by decide) (by decide) rfl rfl (Nat.le_of_ble_eq_true rfl) dX4_reconnect_97 (fun _ _ h => h.elim) (fun r97 w97 hp97 => ?_)
        obtain ⟨rfl, rfl⟩ := hp97
        refine zz_ifb_ne hx 105 dX4_reconnect_100 rfl (fun _ => ?_) (fun z => absurd rfl z)
        refine zz_aload_n hx dX4_reconnect_105 rfl ?_
        refine zz_iload_n hx dX4_reconnect_106 rfl ?_
        refine zz_aload_n hx dX4_reconnect_107 rfl ?_
        refine zm_g14 hx lf_X4_53 dX4_reconnect_108 ?_
        refine zz_callVv hx me_X4_takeOut lk_X4_99 (c_takeOut (F := Fup F 18 0) hst (mS_18 h.1) s (F 14) (by omega) (by omega) (by omega) (by omega) (by omega)) 0 rfl rfl ⟨rfl, rfl⟩ (by decide) (by decide) rfl rfl (Nat.le_of_ble_eq_true rfl) dX4_reconnect_111 (fun _ _ h => h.elim) (fun w111 hp111 => ?_)
        obtain ⟨G1, rfl, i2, i3, i4⟩ := hp111
        have e1 : G1 1 = G 1 := i4 1 (by decide) (by decide) (by decide)
        have e2 : G1 2 = G 2 := i4 2 (by decide) (by decide) (by decide)
        have e8 : G1 8 = G 8 := i4 8 (by decide) (by decide) (by decide)
        have e9 : G1 9 = G 9 := i4 9 (by decide) (by decide) (by decide)
        have e16 : G1 16 = G 16 := i4 16 (by decide) (by decide) (by decide)
        refine zz_aload_n hx dX4_reconnect_114 rfl ?_
        refine zz_iload_n hx dX4_reconnect_115 rfl ?_
        refine zz_aload_n hx dX4_reconnect_116 rfl ?_
        refine zm_g14 hx lf_X4_53 dX4_reconnect_117 ?_
        refine zz_iload_n hx dX4_reconnect_120 rfl ?_
        refine zz_callVv hx me_X4_insert lk_X4_92 (c_insert (F := Fup F 18 0) hst i2 s (F 14) q (by omega) (show s < F 0 by omega) (by omega) (show F 14 < F 6 by omega) (by rw [i3]; exact zup_s _ _ _) (by rw [e8]; omega) (by rw [e9, e2]; omega) (by omega) (show q < F 6 by omega) (by rw [e8]; omega) (by rw [e9, e1]; omega) (by rw [e16]; show G 16 _ = -1 ∨ 0 ≤ G 16 _ ∧ G 16 _ < F 6; omega)) 0 rfl rfl ⟨rfl, rfl⟩ (by decide) (by decide) rfl rfl (Nat.le_of_ble_eq_true rfl) dX4_reconnect_121 (fun _ _ h => h.elim) (fun w121 hp121 => ?_)
        obtain ⟨G2, p, rfl, j1, j2, j3, j4⟩ := hp121
        refine zz_aload_n hx dX4_reconnect_124 rfl ?_
        refine zm_g16 hx lf_X4_47 dX4_reconnect_125 ?_
        refine zz_iload_n hx dX4_reconnect_128 rfl ?_
        refine zz_aload_n hx dX4_reconnect_129 rfl ?_
        refine zm_g14 hx lf_X4_53 dX4_reconnect_130 ?_
        refine zm_s16 hx dX4_reconnect_133 (by omega) (by omega) ?_
        refine zz_aload_n hx dX4_reconnect_134 rfl ?_
        refine zz_iload_n hx dX4_reconnect_135 rfl ?_
        refine zz_iload_n hx dX4_reconnect_136 rfl ?_
        refine zz_callVi hx me_X4_membersOf lk_X4_112 (c_membersOf (F := Fup F 18 0) hst (mS_16 j2 s (F 14)) _ _ (by omega) (show _ < F 0 by omega) (by omega)) 0 rfl rfl ⟨rfl, rfl⟩ (by decide) (by decide) rfl rfl (Nat.le_of_ble_eq_true rfl) dX4_reconnect_137 (fun _ _ h => h.elim) (fun r137 w137 hp137 => ?_)
        obtain ⟨rfl, rfl⟩ := hp137
        exact zz_iret hx hf dX4_reconnect_140 ⟨_, rfl, Or.inr (Or.inr ⟨by omega, by omega, G1, G2, _, _, ⟨rfl, i2, i3, i4⟩, ⟨⟨p, j1, rfl⟩, j2, j3, j4⟩, rfl, rfl⟩)⟩ (by decide) (by decide)
    · have hnm : ¬ ((0 ≤ s ∧ s < F 0) ∧ (0 ≤ q ∧ q < F 6 ∧ G 8 q = 1) ∧ G 9 q = G 1 s) := fun z9 => by have := hni.mpr z9; omega
      refine zz_iconst hx dX4_reconnect_83 ?_
      refine zz_goto hx 97 dX4_reconnect_84 rfl ?_
      refine zz_callVi hx me_X4_can lk_X4_70 (c_can hst _ (by omega)) 0 rfl rfl ⟨rfl, rfl⟩ (by decide) (by decide) rfl rfl (Nat.le_of_ble_eq_true rfl) dX4_reconnect_97 (fun _ _ h => h.elim) (fun r97 w97 hp97 => ?_)
      obtain ⟨rfl, rfl⟩ := hp97
      refine zz_ifb_ne hx 105 dX4_reconnect_100 rfl (fun z => absurd z (by decide)) (fun _ => ?_)
      refine zz_iconst hx dX4_reconnect_103 ?_
      exact zz_iret hx hf dX4_reconnect_104 ⟨_, rfl, by first | exact Or.inl ⟨by omega, rfl⟩ | exact Or.inr (Or.inl ⟨by omega, by omega, rfl⟩)⟩ (by decide) (by decide)
  have J : ∀ n : Int, (n = 0 ∨ n = 1) → (n = 1 ↔ ((0 ≤ s ∧ s < F 0) ∧ (0 ≤ q ∧ q < F 6 ∧ G 8 q = 1) ∧ G 9 q = G 1 s)) → Z l g ({ frames := 3, cells := 0, slots := 0, locals := 74 } : Room) 5 x 0 0 (mW g a F G rest) 36 [(0, .ref (a 0)), (1, vi s), (2, vi q)] [vi n] := by
    intro n hn1 hni
    refine zz_istore_n (lv' := [(0, _), (1, _), (2, _), (3, _)]) hx dX4_reconnect_36 (by decide) rfl ?_
    refine zz_iload_n hx dX4_reconnect_37 rfl ?_
    refine zz_if_eq hx 75 dX4_reconnect_38 rfl (by omega) (fun c38 => ?_) (fun c38 => ?_)
    · have hnm : ¬ ((0 ≤ s ∧ s < F 0) ∧ (0 ≤ q ∧ q < F 6 ∧ G 8 q = 1) ∧ G 9 q = G 1 s) := fun z9 => by have := hni.mpr z9; omega
      refine zz_iconst hx dX4_reconnect_75 ?_
      exact J2 _ _ hn1 hni (by omega) (by omega)
    · have hnm := hni.mp (by omega)
      refine zz_aload_n hx dX4_reconnect_41 rfl ?_
      refine zm_g14 hx lf_X4_53 dX4_reconnect_42 ?_
      refine zz_iconst hx dX4_reconnect_45 ?_
      refine zz_icmp_eq hx 75 dX4_reconnect_46 rfl (by omega) (by omega) (fun c46 => ?_) (fun c46 => ?_)
      · refine zz_iconst hx dX4_reconnect_75 ?_
        exact J2 _ _ hn1 hni (by omega) (by omega)
      · refine zz_aload_n hx dX4_reconnect_49 rfl ?_
        refine zz_iload_n hx dX4_reconnect_50 rfl ?_
        refine zz_aload_n hx dX4_reconnect_51 rfl ?_
        refine zm_g14 hx lf_X4_53 dX4_reconnect_52 ?_
        have hon2 := hon hnm.1 (by omega)
        refine zz_callVi hx me_X4_ownerIn lk_X4_78 (c_ownerIn hst _ _ (by omega) (by omega) (by omega) (by omega)) 0 rfl rfl ⟨rfl, rfl⟩ (by decide) (by decide) rfl rfl (Nat.le_of_ble_eq_true rfl) dX4_reconnect_55 (fun _ _ h => h.elim) (fun r55 w55 hp55 => ?_)
        obtain ⟨rfl, rfl⟩ := hp55
        refine zz_iconst hx dX4_reconnect_58 ?_
        refine zz_icmp_eq hx 75 dX4_reconnect_59 rfl (by omega) (by omega) (fun c59 => ?_) (fun c59 => ?_)
        · refine zz_iconst hx dX4_reconnect_75 ?_
          exact J2 _ _ hn1 hni (by omega) (by omega)
        · refine zz_aload_n hx dX4_reconnect_62 rfl ?_
          refine zm_g5 hx lf_X4_23 dX4_reconnect_63 ?_
          refine zz_iload_n hx dX4_reconnect_66 rfl ?_
          refine zm_l5 hx dX4_reconnect_67 (by omega) (by omega) ?_
          have hds2 := hds hnm.1
          refine zz_if_eq hx 75 dX4_reconnect_68 rfl (by omega) (fun c68 => ?_) (fun c68 => ?_)
          · refine zz_iconst hx dX4_reconnect_75 ?_
            exact J2 _ _ hn1 hni (by omega) (by omega)
          · refine zz_iconst hx dX4_reconnect_71 ?_
            refine zz_goto hx 76 dX4_reconnect_72 rfl ?_
            exact J2 _ _ hn1 hni (by omega) (by omega)
  refine zz_aload_n hx dX4_reconnect_0 rfl ?_
  refine zz_iload_n hx dX4_reconnect_1 rfl ?_
  refine zz_callVi hx me_X4_isSet lk_X4_109 (c_isSet hst _ (by omega) hF0) 0 rfl rfl ⟨rfl, rfl⟩ (by decide) (by decide) rfl rfl (Nat.le_of_ble_eq_true rfl) dX4_reconnect_2 (fun _ _ h => h.elim) (fun r2 w2 hp2 => ?_)
  obtain ⟨rfl, rfl⟩ := hp2
  refine zz_ifb_eq hx 35 dX4_reconnect_5 rfl (fun c5 => ?_) (fun c5 => ?_)
  · refine zz_iconst hx dX4_reconnect_35 ?_
    exact J _ (by omega) (by omega)
  · refine zz_aload_n hx dX4_reconnect_8 rfl ?_
    refine zz_iload_n hx dX4_reconnect_9 rfl ?_
    refine zz_callVi hx me_X4_isRecord lk_X4_115 (c_isRecord hst _ (by omega) hF6 (fun r h1 h2 => (h.1.2.2.2.1 r h1 h2).2.2)) 0 rfl rfl ⟨rfl, rfl⟩ (by decide) (by decide) rfl rfl (Nat.le_of_ble_eq_true rfl) dX4_reconnect_10 (fun _ _ h => h.elim) (fun r10 w10 hp10 => ?_)
    obtain ⟨rfl, rfl⟩ := hp10
    refine zz_ifb_eq hx 35 dX4_reconnect_13 rfl (fun c13 => ?_) (fun c13 => ?_)
    · refine zz_iconst hx dX4_reconnect_35 ?_
      exact J _ (by omega) (by omega)
    · refine zz_aload_n hx dX4_reconnect_16 rfl ?_
      refine zm_g9 hx lf_X4_29 dX4_reconnect_17 ?_
      refine zz_iload_n hx dX4_reconnect_20 rfl ?_
      refine zm_l9 hx dX4_reconnect_21 (by omega) (by omega) ?_
      refine zz_aload_n hx dX4_reconnect_22 rfl ?_
      refine zm_g1 hx lf_X4_7 dX4_reconnect_23 ?_
      refine zz_iload_n hx dX4_reconnect_26 rfl ?_
      refine zm_l1 hx dX4_reconnect_27 (by omega) (by omega) ?_
      have hvq := h.1.2.2.2.1 q (by omega) (by omega)
      have hds2 := hds (by omega)
      refine zz_icmp_ne hx 35 dX4_reconnect_28 rfl (by omega) (by omega) (fun c28 => ?_) (fun c28 => ?_)
      · refine zz_iconst hx dX4_reconnect_35 ?_
        exact J _ (by omega) (by omega)
      · refine zz_iconst hx dX4_reconnect_31 ?_
        refine zz_goto hx 36 dX4_reconnect_32 rfl ?_
        exact J _ (by omega) (by omega)
