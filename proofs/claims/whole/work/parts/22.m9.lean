set_option maxHeartbeats 4000000 in
set_option maxRecDepth 100000 in
theorem c_wouldErase {l : Launch} {g : zG} {a : Nat → Nat} {F : Nat → Int} {G : Nat → Int → Int} {rest : va_W} (hst : l.stackTraces = false) {Rw : Int → List Int} (h : mI F G Rw) (r : Int) (hr : -2147483648 ≤ r ∧ r < 2147483648) (y : Int) (hy : -2147483648 ≤ y ∧ y < 2147483648) : zM l g yX4_wouldErase cX4_wouldErase 3 (Option.some FieldType.int) ({ frames := 2, cells := 0, slots := 0, locals := 43 } : Room) [.ref (a 0), vi r, vi y] (mW g a F G rest) (zI fun v w => ∃ (c : Int) (f : Int → Int), ((c = 0 ∧ (0 ≤ r ∧ r < F 6 ∧ G 8 r = 1) ∧ (0 ≤ y ∧ y ≤ 2) ∧ wEr G r y v) ∨ (c = 1 ∧ ¬ (0 ≤ r ∧ r < F 6 ∧ G 8 r = 1)) ∨ (c = 2 ∧ (0 ≤ r ∧ r < F 6 ∧ G 8 r = 1) ∧ ¬ (0 ≤ y ∧ y ≤ 2))) ∧ w = mW g a (Fup F 18 c) (Gset G 17 f) rest) zN 0 0 := by
  have hF0 := h.1.1
  have hF6 := h.1.2.1
  refine zM_of (lv0 := [(0, _), (1, _), (2, _)]) hst rfl (by decide +kernel) (Nat.le_of_ble_eq_true rfl) rfl (fun x hx hf hn => ?_)
  refine zz_aload_n hx dX4_wouldErase_0 rfl ?_
  refine zz_aload_n hx dX4_wouldErase_1 rfl ?_
  refine zz_iload_n hx dX4_wouldErase_2 rfl ?_
  refine zz_callVi hx me_X4_isRecord lk_X4_115 (c_isRecord hst _ (by omega) hF6 (fun r h1 h2 => (h.1.2.2.2.1 r h1 h2).2.2)) 0 rfl rfl ⟨rfl, rfl⟩ (by decide) (by decide) rfl rfl (Nat.le_of_ble_eq_true rfl) dX4_wouldErase_3 (fun _ _ h => h.elim) (fun r3 w3 hp3 => ?_)
  obtain ⟨rfl, rfl⟩ := hp3
  refine zz_ifb_ne hx 13 dX4_wouldErase_6 rfl (fun c6 => ?_) (fun c6 => ?_)
  · refine zz_iload_n hx dX4_wouldErase_13 rfl ?_
    refine zz_iconst hx dX4_wouldErase_14 ?_
    refine zz_iconst hx dX4_wouldErase_15 ?_
    refine zz_callSi hx ms_X4_isIn lk_X4_63 (c_isIn (a := a) hst _ _ _ (by omega) (by omega) (by omega)) ⟨rfl, rfl⟩ (by decide) (by decide) rfl rfl (Nat.le_of_ble_eq_true rfl) dX4_wouldErase_16 (fun _ _ h => h.elim) (fun r16 w16 hp16 => ?_)
    obtain ⟨rfl, rfl⟩ := hp16
    refine zz_ifb_eq hx 26 dX4_wouldErase_19 rfl (fun c19 => ?_) (fun c19 => ?_)
    · refine zz_iconst hx dX4_wouldErase_26 ?_
      refine zz_callVi hx me_X4_can lk_X4_70 (c_can hst _ (by omega)) 0 rfl rfl ⟨rfl, rfl⟩ (by decide) (by decide) rfl rfl (Nat.le_of_ble_eq_true rfl) dX4_wouldErase_27 (fun _ _ h => h.elim) (fun r27 w27 hp27 => ?_)
      obtain ⟨rfl, rfl⟩ := hp27
      refine zz_ifb_eq hx 42 dX4_wouldErase_30 rfl (fun _ => ?_) (fun z => absurd z (by decide))
      refine zz_iconst hx dX4_wouldErase_42 ?_
      exact zz_iret hx hf dX4_wouldErase_43 ⟨_, rfl, by first | exact ⟨0, f, Or.inl ⟨rfl, by omega, by omega, hwe2⟩, rfl⟩ | exact ⟨1, G 17, Or.inr (Or.inl ⟨rfl, by omega⟩), by rw [Gset_id]⟩ | exact ⟨2, G 17, Or.inr (Or.inr ⟨rfl, by omega, by omega⟩), by rw [Gset_id]⟩⟩ (by decide) (by decide)
    · refine zz_iconst hx dX4_wouldErase_22 ?_
      refine zz_goto hx 27 dX4_wouldErase_23 rfl ?_
      refine zz_callVi hx me_X4_can lk_X4_70 (c_can hst _ (by omega)) 0 rfl rfl ⟨rfl, rfl⟩ (by decide) (by decide) rfl rfl (Nat.le_of_ble_eq_true rfl) dX4_wouldErase_27 (fun _ _ h => h.elim) (fun r27 w27 hp27 => ?_)
      obtain ⟨rfl, rfl⟩ := hp27
      refine zz_ifb_eq hx 42 dX4_wouldErase_30 rfl (fun z => absurd rfl z) (fun _ => ?_)
      refine zz_aload_n hx dX4_wouldErase_33 rfl ?_
      refine zz_iload_n hx dX4_wouldErase_34 rfl ?_
      refine zz_iload_n hx dX4_wouldErase_35 rfl ?_
      refine zz_callVi hx me_X4_marks lk_X4_103 (c_marks (F := Fup F 18 0) hst (mS_18 h.1) _ _ (by omega) (show _ < F 6 by omega) (by omega)) 0 rfl rfl ⟨rfl, rfl⟩ (by decide) (by decide) rfl rfl (Nat.le_of_ble_eq_true rfl) dX4_wouldErase_36 (fun _ _ h => h.elim) (fun r36 w36 hp36 => ?_)
      obtain ⟨f, rfl, hwe⟩ := hp36
      have hwe2 : wEr G r y r36 := by
        rcases hwe with q | ⟨⟨M, q1, q2, q3, q4, q5⟩, q6⟩
        · exact Or.inl q
        · exact Or.inr ⟨⟨M, q1, q2, q3, q5⟩, q6⟩
      refine zz_goto hx 43 dX4_wouldErase_39 rfl ?_
      exact zz_iret hx hf dX4_wouldErase_43 ⟨_, rfl, by first | exact ⟨0, f, Or.inl ⟨rfl, by omega, by omega, hwe2⟩, rfl⟩ | exact ⟨1, G 17, Or.inr (Or.inl ⟨rfl, by omega⟩), by rw [Gset_id]⟩ | exact ⟨2, G 17, Or.inr (Or.inr ⟨rfl, by omega, by omega⟩), by rw [Gset_id]⟩⟩ (by decide) (by decide)
  · refine zz_iconst hx dX4_wouldErase_9 ?_
    refine zz_goto hx 27 dX4_wouldErase_10 rfl ?_
    refine zz_callVi hx me_X4_can lk_X4_70 (c_can hst _ (by omega)) 0 rfl rfl ⟨rfl, rfl⟩ (by decide) (by decide) rfl rfl (Nat.le_of_ble_eq_true rfl) dX4_wouldErase_27 (fun _ _ h => h.elim) (fun r27 w27 hp27 => ?_)
    obtain ⟨rfl, rfl⟩ := hp27
    refine zz_ifb_eq hx 42 dX4_wouldErase_30 rfl (fun _ => ?_) (fun z => absurd z (by decide))
    refine zz_iconst hx dX4_wouldErase_42 ?_
    exact zz_iret hx hf dX4_wouldErase_43 ⟨_, rfl, by first | exact ⟨0, f, Or.inl ⟨rfl, by omega, by omega, hwe2⟩, rfl⟩ | exact ⟨1, G 17, Or.inr (Or.inl ⟨rfl, by omega⟩), by rw [Gset_id]⟩ | exact ⟨2, G 17, Or.inr (Or.inr ⟨rfl, by omega, by omega⟩), by rw [Gset_id]⟩⟩ (by decide) (by decide)

set_option maxHeartbeats 4000000 in
set_option maxRecDepth 100000 in
theorem c_declare {l : Launch} {g : zG} {a : Nat → Nat} {F : Nat → Int} {G : Nat → Int → Int} {rest : va_W} (hst : l.stackTraces = false) {Rw : Int → List Int} (h : mI F G Rw) (p : Int) (hp : -2147483648 ≤ p ∧ p < 2147483648) (q : Int) (hq : -2147483648 ≤ q ∧ q < 2147483648) (i : Int) (hi : -2147483648 ≤ i ∧ i < 2147483648) (z : Int) (hz : z = 0 ∨ z = 1) (y : Int) (hy : -2147483648 ≤ y ∧ y < 2147483648) : zM l g yX4_declare cX4_declare 7 (Option.some FieldType.int) ({ frames := 1, cells := 0, slots := 0, locals := 22 } : Room) [.ref (a 0), vi p, vi q, vi i, vi z, vi y] (mW g a F G rest) (zI fun v w => (¬ ((0 ≤ p ∧ p ≤ 3) ∧ (0 ≤ q ∧ q ≤ 3) ∧ (0 ≤ i ∧ i ≤ 4) ∧ (0 ≤ y ∧ y ≤ 2) ∧ p ≠ q) ∧ w = mW g a (Fup F 18 1) G rest) ∨ (((0 ≤ p ∧ p ≤ 3) ∧ (0 ≤ q ∧ q ≤ 3) ∧ (0 ≤ i ∧ i ≤ 4) ∧ (0 ≤ y ∧ y ≤ 2) ∧ p ≠ q) ∧ (F 0 = 6 ∨ 0 < F 6) ∧ w = mW g a (Fup F 18 2) G rest) ∨ (((0 ≤ p ∧ p ≤ 3) ∧ (0 ≤ q ∧ q ≤ 3) ∧ (0 ≤ i ∧ i ≤ 4) ∧ (0 ≤ y ∧ y ≤ 2) ∧ p ≠ q) ∧ ¬ (F 0 = 6 ∨ 0 < F 6) ∧ v = F 0 ∧ w = mW g a (Fup (Fup F 0 (F 0 + 1)) 18 0) (Gup (Gup (Gup (Gup (Gup G 1 (F 0) p) 2 (F 0) q) 3 (F 0) i) 4 (F 0) z) 5 (F 0) y) rest)) zN 0 0 := by
  have hF0 := h.1.1
  have hF6 := h.1.2.1
  refine zM_of (lv0 := [(0, _), (1, _), (2, _), (3, _), (4, _), (5, _)]) hst rfl (by decide +kernel) (Nat.le_of_ble_eq_true rfl) rfl (fun x hx hf hn => ?_)
  have J : ∀ b : Int, (b = 0 ∨ b = 1) → (b = 1 ↔ ((0 ≤ p ∧ p ≤ 3) ∧ (0 ≤ q ∧ q ≤ 3) ∧ (0 ≤ i ∧ i ≤ 4) ∧ (0 ≤ y ∧ y ≤ 2) ∧ p ≠ q)) → Z l g ({ frames := 1, cells := 0, slots := 0, locals := 22 } : Room) 7 x 0 0 (mW g a F G rest) 47 [(0, .ref (a 0)), (1, vi p), (2, vi q), (3, vi i), (4, vi z), (5, vi y)] [vi b] := by
    intro b hb hbi
    refine zz_istore (lv' := [(0, _), (1, _), (2, _), (3, _), (4, _), (5, _), (6, _)]) hx dX4_declare_47 (by decide) rfl ?_
    refine zz_aload_n hx dX4_declare_49 rfl ?_
    refine zz_iload hx dX4_declare_50 rfl ?_
    refine zz_if_ne hx 59 dX4_declare_52 rfl (by omega) (fun c52 => ?_) (fun c52 => ?_)
    · have hgd := hbi.mp (by omega)
      refine zz_aload_n hx dX4_declare_59 rfl ?_
      refine zm_g0 hx lf_X4_60 dX4_declare_60 ?_
      refine zz_bipush hx dX4_declare_63 rfl ?_
      refine zz_icmp_eq hx 75 dX4_declare_65 rfl (by omega) (by omega) (fun c65 => ?_) (fun c65 => ?_)
      · refine zz_iconst hx dX4_declare_75 ?_
        refine zz_goto hx 80 dX4_declare_76 rfl ?_
        refine zz_callVi hx me_X4_can lk_X4_70 (c_can hst _ (by omega)) 0 rfl rfl ⟨rfl, rfl⟩ (by decide) (by decide) rfl rfl (Nat.le_of_ble_eq_true rfl) dX4_declare_80 (fun _ _ h => h.elim) (fun r80 w80 hp80 => ?_)
        obtain ⟨rfl, rfl⟩ := hp80
        refine zz_ifb_ne hx 88 dX4_declare_83 rfl (fun z => absurd z (by decide)) (fun _ => ?_)
        refine zz_iconst hx dX4_declare_86 ?_
        exact zz_iret hx hf dX4_declare_87 (by first | exact ⟨_, rfl, Or.inl ⟨hgd, rfl⟩⟩ | exact ⟨_, rfl, Or.inr (Or.inl ⟨hgd, by omega, rfl⟩)⟩) (by decide) (by decide)
      · refine zz_aload_n hx dX4_declare_68 rfl ?_
        refine zm_g6 hx lf_X4_67 dX4_declare_69 ?_
        refine zz_if_le hx 79 dX4_declare_72 rfl (by omega) (fun c72 => ?_) (fun c72 => ?_)
        · refine zz_iconst hx dX4_declare_79 ?_
          refine zz_callVi hx me_X4_can lk_X4_70 (c_can hst _ (by omega)) 0 rfl rfl ⟨rfl, rfl⟩ (by decide) (by decide) rfl rfl (Nat.le_of_ble_eq_true rfl) dX4_declare_80 (fun _ _ h => h.elim) (fun r80 w80 hp80 => ?_)
          obtain ⟨rfl, rfl⟩ := hp80
          refine zz_ifb_ne hx 88 dX4_declare_83 rfl (fun _ => ?_) (fun z => absurd rfl z)
          refine zz_aload_n hx dX4_declare_88 rfl ?_
          refine zm_g1 hx lf_X4_7 dX4_declare_89 ?_
          refine zz_aload_n hx dX4_declare_92 rfl ?_
          refine zm_g0 hx lf_X4_60 dX4_declare_93 ?_
          refine zz_iload_n hx dX4_declare_96 rfl ?_
          simp only [Fup, reduceIte, Nat.reduceEqDiff]
          refine zm_s1 hx dX4_declare_97 (by omega) (by omega) ?_
          refine zz_aload_n hx dX4_declare_98 rfl ?_
          refine zm_g2 hx lf_X4_13 dX4_declare_99 ?_
          refine zz_aload_n hx dX4_declare_102 rfl ?_
          refine zm_g0 hx lf_X4_60 dX4_declare_103 ?_
          refine zz_iload_n hx dX4_declare_106 rfl ?_
          simp only [Fup, reduceIte, Nat.reduceEqDiff]
          refine zm_s2 hx dX4_declare_107 (by omega) (by omega) ?_
          refine zz_aload_n hx dX4_declare_108 rfl ?_
          refine zm_g3 hx lf_X4_16 dX4_declare_109 ?_
          refine zz_aload_n hx dX4_declare_112 rfl ?_
          refine zm_g0 hx lf_X4_60 dX4_declare_113 ?_
          refine zz_iload_n hx dX4_declare_116 rfl ?_
          simp only [Fup, reduceIte, Nat.reduceEqDiff]
          refine zm_s3 hx dX4_declare_117 (by omega) (by omega) ?_
          refine zz_aload_n hx dX4_declare_118 rfl ?_
          refine zm_g4 hx lf_X4_19 dX4_declare_119 ?_
          refine zz_aload_n hx dX4_declare_122 rfl ?_
          refine zm_g0 hx lf_X4_60 dX4_declare_123 ?_
          refine zz_iload hx dX4_declare_126 rfl ?_
          simp only [Fup, reduceIte, Nat.reduceEqDiff]
          refine zm_s4 hx dX4_declare_128 (by omega) (by omega) (by omega) ?_
          refine zz_aload_n hx dX4_declare_129 rfl ?_
          refine zm_g5 hx lf_X4_23 dX4_declare_130 ?_
          refine zz_aload_n hx dX4_declare_133 rfl ?_
          refine zm_g0 hx lf_X4_60 dX4_declare_134 ?_
          refine zz_iload hx dX4_declare_137 rfl ?_
          simp only [Fup, reduceIte, Nat.reduceEqDiff]
          refine zm_s5 hx dX4_declare_139 (by omega) (by omega) ?_
          refine zz_aload_n hx dX4_declare_140 rfl ?_
          refine zz_dup hx dX4_declare_141 rfl ?_
          refine zm_g0 hx lf_X4_60 dX4_declare_142 ?_
          refine zz_iconst hx dX4_declare_145 ?_
          refine zz_iadd hx dX4_declare_146 ?_
          refine zm_p0 hx lf_X4_60 dX4_declare_147 ?_
          refine zz_aload_n hx dX4_declare_150 rfl ?_
          refine zm_g0 hx lf_X4_60 dX4_declare_151 ?_
          refine zz_iconst hx dX4_declare_154 ?_
          refine zz_isub hx dX4_declare_155 ?_
          exact zz_iret hx hf dX4_declare_156 ⟨_, rfl, Or.inr (Or.inr ⟨hgd, by omega, by simp only [Fup, reduceIte, Nat.reduceEqDiff]; omega, by rw [show Fup (Fup F 18 0) 0 (Fup F 18 0 0 + 1) = Fup (Fup F 0 (F 0 + 1)) 18 0 from Fup_comm F (by decide) _ _]⟩)⟩ (by decide) (by decide)
        · refine zz_iconst hx dX4_declare_75 ?_
          refine zz_goto hx 80 dX4_declare_76 rfl ?_
          refine zz_callVi hx me_X4_can lk_X4_70 (c_can hst _ (by omega)) 0 rfl rfl ⟨rfl, rfl⟩ (by decide) (by decide) rfl rfl (Nat.le_of_ble_eq_true rfl) dX4_declare_80 (fun _ _ h => h.elim) (fun r80 w80 hp80 => ?_)
          obtain ⟨rfl, rfl⟩ := hp80
          refine zz_ifb_ne hx 88 dX4_declare_83 rfl (fun z => absurd z (by decide)) (fun _ => ?_)
          refine zz_iconst hx dX4_declare_86 ?_
          exact zz_iret hx hf dX4_declare_87 (by first | exact ⟨_, rfl, Or.inl ⟨hgd, rfl⟩⟩ | exact ⟨_, rfl, Or.inr (Or.inl ⟨hgd, by omega, rfl⟩)⟩) (by decide) (by decide)
    · have hgd : ¬ ((0 ≤ p ∧ p ≤ 3) ∧ (0 ≤ q ∧ q ≤ 3) ∧ (0 ≤ i ∧ i ≤ 4) ∧ (0 ≤ y ∧ y ≤ 2) ∧ p ≠ q) := fun z9 => by have := hbi.mpr z9; omega
      refine zz_iconst hx dX4_declare_55 ?_
      refine zz_goto hx 80 dX4_declare_56 rfl ?_
      refine zz_callVi hx me_X4_can lk_X4_70 (c_can hst _ (by omega)) 0 rfl rfl ⟨rfl, rfl⟩ (by decide) (by decide) rfl rfl (Nat.le_of_ble_eq_true rfl) dX4_declare_80 (fun _ _ h => h.elim) (fun r80 w80 hp80 => ?_)
      obtain ⟨rfl, rfl⟩ := hp80
      refine zz_ifb_ne hx 88 dX4_declare_83 rfl (fun z => absurd z (by decide)) (fun _ => ?_)
      refine zz_iconst hx dX4_declare_86 ?_
      exact zz_iret hx hf dX4_declare_87 (by first | exact ⟨_, rfl, Or.inl ⟨hgd, rfl⟩⟩ | exact ⟨_, rfl, Or.inr (Or.inl ⟨hgd, by omega, rfl⟩)⟩) (by decide) (by decide)
  refine zz_iload_n hx dX4_declare_0 rfl ?_
  refine zz_iconst hx dX4_declare_1 ?_
  refine zz_iconst hx dX4_declare_2 ?_
  refine zz_callSi hx ms_X4_isIn lk_X4_63 (c_isIn (a := a) hst _ _ _ (by omega) (by omega) (by omega)) ⟨rfl, rfl⟩ (by decide) (by decide) rfl rfl (Nat.le_of_ble_eq_true rfl) dX4_declare_3 (fun _ _ h => h.elim) (fun r3 w3 hp3 => ?_)
  obtain ⟨rfl, rfl⟩ := hp3
  refine zz_ifb_eq hx 46 dX4_declare_6 rfl (fun c6 => ?_) (fun c6 => ?_)
  · refine zz_iconst hx dX4_declare_46 ?_
    exact J _ (by omega) (by omega)
  · refine zz_iload_n hx dX4_declare_9 rfl ?_
    refine zz_iconst hx dX4_declare_10 ?_
    refine zz_iconst hx dX4_declare_11 ?_
    refine zz_callSi hx ms_X4_isIn lk_X4_63 (c_isIn (a := a) hst _ _ _ (by omega) (by omega) (by omega)) ⟨rfl, rfl⟩ (by decide) (by decide) rfl rfl (Nat.le_of_ble_eq_true rfl) dX4_declare_12 (fun _ _ h => h.elim) (fun r12 w12 hp12 => ?_)
    obtain ⟨rfl, rfl⟩ := hp12
    refine zz_ifb_eq hx 46 dX4_declare_15 rfl (fun c15 => ?_) (fun c15 => ?_)
    · refine zz_iconst hx dX4_declare_46 ?_
      exact J _ (by omega) (by omega)
    · refine zz_iload_n hx dX4_declare_18 rfl ?_
      refine zz_iconst hx dX4_declare_19 ?_
      refine zz_iconst hx dX4_declare_20 ?_
      refine zz_callSi hx ms_X4_isIn lk_X4_63 (c_isIn (a := a) hst _ _ _ (by omega) (by omega) (by omega)) ⟨rfl, rfl⟩ (by decide) (by decide) rfl rfl (Nat.le_of_ble_eq_true rfl) dX4_declare_21 (fun _ _ h => h.elim) (fun r21 w21 hp21 => ?_)
      obtain ⟨rfl, rfl⟩ := hp21
      refine zz_ifb_eq hx 46 dX4_declare_24 rfl (fun c24 => ?_) (fun c24 => ?_)
      · refine zz_iconst hx dX4_declare_46 ?_
        exact J _ (by omega) (by omega)
      · refine zz_iload hx dX4_declare_27 rfl ?_
        refine zz_iconst hx dX4_declare_29 ?_
        refine zz_iconst hx dX4_declare_30 ?_
        refine zz_callSi hx ms_X4_isIn lk_X4_63 (c_isIn (a := a) hst _ _ _ (by omega) (by omega) (by omega)) ⟨rfl, rfl⟩ (by decide) (by decide) rfl rfl (Nat.le_of_ble_eq_true rfl) dX4_declare_31 (fun _ _ h => h.elim) (fun r31 w31 hp31 => ?_)
        obtain ⟨rfl, rfl⟩ := hp31
        refine zz_ifb_eq hx 46 dX4_declare_34 rfl (fun c34 => ?_) (fun c34 => ?_)
        · refine zz_iconst hx dX4_declare_46 ?_
          exact J _ (by omega) (by omega)
        · refine zz_iload_n hx dX4_declare_37 rfl ?_
          refine zz_iload_n hx dX4_declare_38 rfl ?_
          refine zz_icmp_eq hx 46 dX4_declare_39 rfl (by omega) (by omega) (fun c39 => ?_) (fun c39 => ?_)
          · refine zz_iconst hx dX4_declare_46 ?_
            exact J _ (by omega) (by omega)
          · refine zz_iconst hx dX4_declare_42 ?_
            refine zz_goto hx 47 dX4_declare_43 rfl ?_
            exact J _ (by omega) (by omega)
