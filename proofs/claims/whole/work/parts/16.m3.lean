set_option maxHeartbeats 4000000 in
set_option maxRecDepth 100000 in
theorem c_currentOwner {l : Launch} {g : zG} {a : Nat → Nat} {F : Nat → Int} {G : Nat → Int → Int} {rest : va_W} (hst : l.stackTraces = false) {Rw : Int → List Int} (h : mS F G Rw) (s : Int) (s0 : 0 ≤ s) (s1 : s < F 0) (hi : G 16 s = -1 ∨ 0 ≤ G 16 s ∧ G 16 s < F 6) : zM l g yX4_currentOwner cX4_currentOwner 3 (Option.some FieldType.int) ({ frames := 1, cells := 0, slots := 0, locals := 22 } : Room) [.ref (a 0), vi s] (mW g a F G rest) (zI fun v w => v = curO G s ∧ w = mW g a F G rest) zN 0 0 := by
  have hF0 := h.1
  have hF6 := h.2.1
  have hd := h.2.2.1 s s0 s1
  refine zM_of (lv0 := [(0, _), (1, _)]) hst rfl (by decide +kernel) (Nat.le_of_ble_eq_true rfl) rfl (fun x hx hf hn => ?_)
  refine zz_aload_n hx dX4_currentOwner_0 rfl ?_
  refine zm_g16 hx lf_X4_47 dX4_currentOwner_1 ?_
  refine zz_iload_n hx dX4_currentOwner_4 rfl ?_
  refine zm_l16 hx dX4_currentOwner_5 (by omega) (by omega) ?_
  refine zz_istore_n (lv' := [(0, _), (1, _), (2, _)]) hx dX4_currentOwner_6 (by decide) rfl ?_
  refine zz_iload_n hx dX4_currentOwner_7 rfl ?_
  refine zz_iconst hx dX4_currentOwner_8 ?_
  refine zz_icmp_eq hx 27 dX4_currentOwner_9 rfl (by omega) (by omega) (fun c9 => ?_) (fun c9 => ?_)
  · refine zz_iload_n hx dX4_currentOwner_27 rfl ?_
    refine zz_goto hx 37 dX4_currentOwner_28 rfl ?_
    exact zz_iret hx hf dX4_currentOwner_37 ⟨_, rfl, by first | rw [curO, if_pos (Or.inl c9)] | rw [curO, if_neg (by omega)] | rw [curO, if_pos (Or.inr (by omega))], rfl⟩ (by decide) (by decide)
  · have hr9 := h.2.2.2.1 (G 16 s) (by omega) (by omega)
    refine zz_aload_n hx dX4_currentOwner_12 rfl ?_
    refine zm_g9 hx lf_X4_29 dX4_currentOwner_13 ?_
    refine zz_iload_n hx dX4_currentOwner_16 rfl ?_
    refine zm_l9 hx dX4_currentOwner_17 (by omega) (by omega) ?_
    refine zz_aload_n hx dX4_currentOwner_18 rfl ?_
    refine zm_g1 hx lf_X4_7 dX4_currentOwner_19 ?_
    refine zz_iload_n hx dX4_currentOwner_22 rfl ?_
    refine zm_l1 hx dX4_currentOwner_23 (by omega) (by omega) ?_
    refine zz_icmp_ne hx 31 dX4_currentOwner_24 rfl (by omega) (by omega) (fun c24 => ?_) (fun c24 => ?_)
    · refine zz_aload_n hx dX4_currentOwner_31 rfl ?_
      refine zz_iload_n hx dX4_currentOwner_32 rfl ?_
      refine zz_iload_n hx dX4_currentOwner_33 rfl ?_
      refine zz_callVi hx me_X4_ownerIn lk_X4_78 (c_ownerIn hst _ _ (by omega) (by omega) (by omega) (by omega)) 0 rfl rfl ⟨rfl, rfl⟩ (by decide) (by decide) rfl rfl (Nat.le_of_ble_eq_true rfl) dX4_currentOwner_34 (fun _ _ h => h.elim) (fun r34 w34 hp34 => ?_)
      obtain ⟨rfl, rfl⟩ := hp34
      exact zz_iret hx hf dX4_currentOwner_37 ⟨_, rfl, by first | rw [curO, if_pos (Or.inl c9)] | rw [curO, if_neg (by omega)] | rw [curO, if_pos (Or.inr (by omega))], rfl⟩ (by decide) (by decide)
    · refine zz_iload_n hx dX4_currentOwner_27 rfl ?_
      refine zz_goto hx 37 dX4_currentOwner_28 rfl ?_
      exact zz_iret hx hf dX4_currentOwner_37 ⟨_, rfl, by first | rw [curO, if_pos (Or.inl c9)] | rw [curO, if_neg (by omega)] | rw [curO, if_pos (Or.inr (by omega))], rfl⟩ (by decide) (by decide)

set_option maxHeartbeats 4000000 in
set_option maxRecDepth 100000 in
theorem c_newPlace {l : Launch} {g : zG} {a : Nat → Nat} {F : Nat → Int} {G : Nat → Int → Int} {rest : va_W} (hst : l.stackTraces = false) {Rw : Int → List Int} (h : mS F G Rw) (s r q : Int) (s0 : 0 ≤ s) (s1 : s < F 0) (r0 : 0 ≤ r) (r1 : r < F 6) (o0 : 0 ≤ q) (o1 : q < F 6) (hi : G 16 s = -1 ∨ 0 ≤ G 16 s ∧ G 16 s < F 6) : zM l g yX4_newPlace cX4_newPlace 7 (Option.some FieldType.int) ({ frames := 1, cells := 0, slots := 0, locals := 23 } : Room) [.ref (a 0), vi s, vi r, vi q] (mW g a F G rest) (zI fun p w => nPl G s r q (Rw s) p ∧ w = mW g a F G rest) zN 0 0 := by
  have hF0 := h.1
  have hF6 := h.2.1
  have hd := h.2.2.1 s s0 s1
  have hlen := mS_len h s0 (by omega)
  have hrow := h.2.2.2.2.2 s s0 (by omega)
  have hvr := h.2.2.2.1 r r0 r1
  refine zM_of (lv0 := [(0, _), (1, _), (2, _), (3, _)]) hst rfl (by decide +kernel) (Nat.le_of_ble_eq_true rfl) rfl (fun x hx hf hn => ?_)
  have sorted : ∀ (m : Nat) (k : Int), G 3 s = 4 → 0 ≤ k → k ≤ G 12 s → (∀ j : Int, 0 ≤ j → j < k → ¬ (G 11 (60 * s + zat (Rw s) j) = q ∧ G 10 r < G 10 (zat (Rw s) j))) → (G 12 s - k).toNat < m → Z l g ({ frames := 1, cells := 0, slots := 0, locals := 23 } : Room) 7 x 0 0 (mW g a F G rest) 25 [(0, .ref (a 0)), (1, vi s), (2, vi r), (3, vi q), (4, vi (G 16 s)), (5, vi (G 3 s)), (6, vi k)] [] := by
    intro m
    induction m with
    | zero => intro k h4 h0 h1 h2 hm; omega
    | succ m ih =>
      intro k h4 h0 h1 h2 hm
      refine zz_iload hx dX4_newPlace_25 rfl ?_
      refine zz_aload_n hx dX4_newPlace_27 rfl ?_
      refine zm_g12 hx lf_X4_38 dX4_newPlace_28 ?_
      refine zz_iload_n hx dX4_newPlace_31 rfl ?_
      refine zm_l12 hx dX4_newPlace_32 (by omega) (by omega) ?_
      refine zz_icmp_ge hx 89 dX4_newPlace_33 rfl (by omega) (by omega) (fun c33 => ?_) (fun c33 => ?_)
      · refine zz_iload hx dX4_newPlace_89 rfl ?_
        exact zz_iret hx hf dX4_newPlace_91 ⟨_, rfl, ⟨fun _ => ⟨by omega, h2, fun z => by first | exact ⟨by omega, by omega⟩ | exact absurd z (by omega)⟩, fun z => absurd h4 z, fun z => absurd h4 z⟩, rfl⟩ (by decide) (by decide)
      · have hk := mS_at h s0 (by omega) h0 (show k < G 12 s by omega)
        have hvk := h.2.2.2.1 (zat (Rw s) k) (by omega) (by omega)
        have hok := h.2.2.2.2.1 s (zat (Rw s) k) (by omega) (by omega) (by omega) (by omega)
        refine zz_aload_n hx dX4_newPlace_36 rfl ?_
        refine zz_iload_n hx dX4_newPlace_37 rfl ?_
        refine zz_aload_n hx dX4_newPlace_38 rfl ?_
        refine zm_g13 hx lf_X4_41 dX4_newPlace_39 ?_
        refine zz_bipush hx dX4_newPlace_42 rfl ?_
        refine zz_iload_n hx dX4_newPlace_44 rfl ?_
        refine zz_imul hx dX4_newPlace_45 ?_
        refine zz_iload hx dX4_newPlace_46 rfl ?_
        refine zz_iadd hx dX4_newPlace_48 ?_
        refine zm_l13 hx dX4_newPlace_49 (by omega) (by omega) ?_
        rw [hk.1]
        refine zz_callVi hx me_X4_ownerIn lk_X4_78 (c_ownerIn hst _ _ (by omega) (by omega) (by omega) (by omega)) 0 rfl rfl ⟨rfl, rfl⟩ (by decide) (by decide) rfl rfl (Nat.le_of_ble_eq_true rfl) dX4_newPlace_50 (fun _ _ h => h.elim) (fun r50 w50 hp50 => ?_)
        obtain ⟨rfl, rfl⟩ := hp50
        refine zz_iload_n hx dX4_newPlace_53 rfl ?_
        refine zz_icmp_ne hx 83 dX4_newPlace_54 rfl (by omega) (by omega) (fun c54 => ?_) (fun c54 => ?_)
        · refine zz_iinc (lv' := [(0, _), (1, _), (2, _), (3, _), (4, _), (5, _), (6, _)]) hx dX4_newPlace_83 (by decide) rfl rfl ?_
          refine zz_goto hx 25 dX4_newPlace_86 rfl ?_
          refine ih (k + 1) h4 (by omega) (by omega) (fun j j0 j1 => ?_) (by omega)
          rcases Int.lt_or_eq_of_le (show j ≤ k by omega) with z | z
          · exact h2 j j0 z
          · subst z
            first | exact fun z => c54 z.1 | exact fun z => c80 z.2
        · refine zz_aload_n hx dX4_newPlace_57 rfl ?_
          refine zm_g10 hx lf_X4_32 dX4_newPlace_58 ?_
          refine zz_aload_n hx dX4_newPlace_61 rfl ?_
          refine zm_g13 hx lf_X4_41 dX4_newPlace_62 ?_
          refine zz_bipush hx dX4_newPlace_65 rfl ?_
          refine zz_iload_n hx dX4_newPlace_67 rfl ?_
          refine zz_imul hx dX4_newPlace_68 ?_
          refine zz_iload hx dX4_newPlace_69 rfl ?_
          refine zz_iadd hx dX4_newPlace_71 ?_
          refine zm_l13 hx dX4_newPlace_72 (by omega) (by omega) ?_
          rw [hk.1]
          refine zm_l10 hx dX4_newPlace_73 (by omega) (by omega) ?_
          refine zz_aload_n hx dX4_newPlace_74 rfl ?_
          refine zm_g10 hx lf_X4_32 dX4_newPlace_75 ?_
          refine zz_iload_n hx dX4_newPlace_78 rfl ?_
          refine zm_l10 hx dX4_newPlace_79 (by omega) (by omega) ?_
          refine zz_icmp_gt hx 89 dX4_newPlace_80 rfl (by omega) (by omega) (fun c80 => ?_) (fun c80 => ?_)
          · refine zz_iload hx dX4_newPlace_89 rfl ?_
            exact zz_iret hx hf dX4_newPlace_91 ⟨_, rfl, ⟨fun _ => ⟨by omega, h2, fun z => by first | exact ⟨by omega, by omega⟩ | exact absurd z (by omega)⟩, fun z => absurd h4 z, fun z => absurd h4 z⟩, rfl⟩ (by decide) (by decide)
          · refine zz_iinc (lv' := [(0, _), (1, _), (2, _), (3, _), (4, _), (5, _), (6, _)]) hx dX4_newPlace_83 (by decide) rfl rfl ?_
            refine zz_goto hx 25 dX4_newPlace_86 rfl ?_
            refine ih (k + 1) h4 (by omega) (by omega) (fun j j0 j1 => ?_) (by omega)
            rcases Int.lt_or_eq_of_le (show j ≤ k by omega) with z | z
            · exact h2 j j0 z
            · subst z
              first | exact fun z => c54 z.1 | exact fun z => c80 z.2
  have J : ∀ b : Int, (b = 0 ∨ b = 1) → (b = 1 ↔ (G 16 s ≠ -1 ∧ G 11 (60 * s + G 16 s) = q)) → G 3 s ≠ 4 → Z l g ({ frames := 1, cells := 0, slots := 0, locals := 23 } : Room) 7 x 0 0 (mW g a F G rest) 114 [(0, .ref (a 0)), (1, vi s), (2, vi r), (3, vi q), (4, vi (G 16 s)), (5, vi (G 3 s))] [vi b] := by
    intro b hb hbi h4
    refine zz_istore (lv' := [(0, _), (1, _), (2, _), (3, _), (4, _), (5, _), (6, _)]) hx dX4_newPlace_114 (by decide) rfl ?_
    refine zz_iload hx dX4_newPlace_116 rfl ?_
    refine zz_if_eq hx 147 dX4_newPlace_118 rfl (by omega) (fun c118 => ?_) (fun c118 => ?_)
    · refine zz_iload hx dX4_newPlace_147 rfl ?_
      refine zz_if_eq hx 158 dX4_newPlace_149 rfl (by omega) (fun c149 => ?_) (fun c149 => ?_)
      · refine zz_iconst hx dX4_newPlace_158 ?_
        refine zz_goto hx 168 dX4_newPlace_159 rfl ?_
        exact zz_iret hx hf dX4_newPlace_168 ⟨_, rfl, ⟨fun z => absurd z h4, fun _ z => by have := hbi.mpr z.1; omega, fun _ _ => by first | (rw [if_pos (by omega)]; done) | (rw [if_neg (by omega)]; omega)⟩, rfl⟩ (by decide) (by decide)
      · refine zz_iload hx dX4_newPlace_152 rfl ?_
        refine zz_iconst hx dX4_newPlace_154 ?_
        refine zz_icmp_ne hx 162 dX4_newPlace_155 rfl (by omega) (by omega) (fun c155 => ?_) (fun c155 => ?_)
        · refine zz_aload_n hx dX4_newPlace_162 rfl ?_
          refine zm_g12 hx lf_X4_38 dX4_newPlace_163 ?_
          refine zz_iload_n hx dX4_newPlace_166 rfl ?_
          refine zm_l12 hx dX4_newPlace_167 (by omega) (by omega) ?_
          exact zz_iret hx hf dX4_newPlace_168 ⟨_, rfl, ⟨fun z => absurd z h4, fun _ z => by have := hbi.mpr z.1; omega, fun _ _ => by first | (rw [if_pos (by omega)]; done) | (rw [if_neg (by omega)]; omega)⟩, rfl⟩ (by decide) (by decide)
        · refine zz_iconst hx dX4_newPlace_158 ?_
          refine zz_goto hx 168 dX4_newPlace_159 rfl ?_
          exact zz_iret hx hf dX4_newPlace_168 ⟨_, rfl, ⟨fun z => absurd z h4, fun _ z => by have := hbi.mpr z.1; omega, fun _ _ => by first | (rw [if_pos (by omega)]; done) | (rw [if_neg (by omega)]; omega)⟩, rfl⟩ (by decide) (by decide)
    · refine zz_iload hx dX4_newPlace_121 rfl ?_
      refine zz_iconst hx dX4_newPlace_123 ?_
      refine zz_icmp_lt hx 147 dX4_newPlace_124 rfl (by omega) (by omega) (fun c124 => ?_) (fun c124 => ?_)
      · refine zz_iload hx dX4_newPlace_147 rfl ?_
        refine zz_if_eq hx 158 dX4_newPlace_149 rfl (by omega) (fun c149 => ?_) (fun c149 => ?_)
        · refine zz_iconst hx dX4_newPlace_158 ?_
          refine zz_goto hx 168 dX4_newPlace_159 rfl ?_
          exact zz_iret hx hf dX4_newPlace_168 ⟨_, rfl, ⟨fun z => absurd z h4, fun _ z => by have := hbi.mpr z.1; omega, fun _ _ => by first | (rw [if_pos (by omega)]; done) | (rw [if_neg (by omega)]; omega)⟩, rfl⟩ (by decide) (by decide)
        · refine zz_iload hx dX4_newPlace_152 rfl ?_
          refine zz_iconst hx dX4_newPlace_154 ?_
          refine zz_icmp_ne hx 162 dX4_newPlace_155 rfl (by omega) (by omega) (fun c155 => ?_) (fun c155 => ?_)
          · refine zz_aload_n hx dX4_newPlace_162 rfl ?_
            refine zm_g12 hx lf_X4_38 dX4_newPlace_163 ?_
            refine zz_iload_n hx dX4_newPlace_166 rfl ?_
            refine zm_l12 hx dX4_newPlace_167 (by omega) (by omega) ?_
            exact zz_iret hx hf dX4_newPlace_168 ⟨_, rfl, ⟨fun z => absurd z h4, fun _ z => by have := hbi.mpr z.1; omega, fun _ _ => by first | (rw [if_pos (by omega)]; done) | (rw [if_neg (by omega)]; omega)⟩, rfl⟩ (by decide) (by decide)
          · refine zz_iconst hx dX4_newPlace_158 ?_
            refine zz_goto hx 168 dX4_newPlace_159 rfl ?_
            exact zz_iret hx hf dX4_newPlace_168 ⟨_, rfl, ⟨fun z => absurd z h4, fun _ z => by have := hbi.mpr z.1; omega, fun _ _ => by first | (rw [if_pos (by omega)]; done) | (rw [if_neg (by omega)]; omega)⟩, rfl⟩ (by decide) (by decide)
      · have hone := hbi.mp (by omega)
        have hon := h.2.2.2.2.1 s (G 16 s) (by omega) (by omega) (by omega) (by omega)
        have hnm : G 16 s ∈ Rw s := (hrow.2.2.2 _).mpr ⟨by omega, by omega, by omega⟩
        refine zz_aload_n hx dX4_newPlace_127 rfl ?_
        refine zz_iload_n hx dX4_newPlace_128 rfl ?_
        refine zz_iload hx dX4_newPlace_129 rfl ?_
        refine zz_callVi hx me_X4_placeOf lk_X4_74 (c_placeOf hst _ _ (by omega) (by omega) (by omega) (by omega) (fun k k0 k1 => by
      have := mS_at h s0 (by omega) k0 k1
      omega)) 0 rfl rfl ⟨rfl, rfl⟩ (by decide) (by decide) rfl rfl (Nat.le_of_ble_eq_true rfl) dX4_newPlace_131 (fun _ _ h => h.elim) (fun r131 w131 hp131 => ?_)
        obtain ⟨rfl, a1, a2, a3, a4⟩ := hp131
        have hlt : r131 < G 12 s := by
          rcases Int.lt_or_le r131 (G 12 s) with z | z
          · exact z
          · obtain ⟨j, j0, j1, hj⟩ := zat_of_mem hnm
            have hjk := mS_at h s0 (by omega) j0 (show j < G 12 s by omega)
            exact absurd (by rw [hjk.1, hj]) (a3 j j0 (by omega))
        have hat := mS_at h s0 (by omega) a1 hlt
        have he4 := a4 hlt
        refine zz_iload hx dX4_newPlace_134 rfl ?_
        refine zz_iconst hx dX4_newPlace_136 ?_
        refine zz_icmp_ne hx 144 dX4_newPlace_137 rfl (by omega) (by omega) (fun c137 => ?_) (fun c137 => ?_)
        · refine zz_iconst hx dX4_newPlace_144 ?_
          refine zz_iadd hx dX4_newPlace_145 ?_
          exact zz_iret hx hf dX4_newPlace_146 ⟨_, rfl, ⟨fun z => absurd z h4, fun _ _ => ⟨r131, a1, by omega, by omega, by first | rw [if_pos (by omega)] | rw [if_neg (by omega)]⟩, fun _ z => absurd ⟨hone, by omega⟩ z⟩, rfl⟩ (by decide) (by decide)
        · refine zz_iconst hx dX4_newPlace_140 ?_
          refine zz_goto hx 145 dX4_newPlace_141 rfl ?_
          refine zz_iadd hx dX4_newPlace_145 ?_
          exact zz_iret hx hf dX4_newPlace_146 ⟨_, rfl, ⟨fun z => absurd z h4, fun _ _ => ⟨r131, a1, by omega, by omega, by first | rw [if_pos (by omega)] | rw [if_neg (by omega)]⟩, fun _ z => absurd ⟨hone, by omega⟩ z⟩, rfl⟩ (by decide) (by decide)
  refine zz_aload_n hx dX4_newPlace_0 rfl ?_
  refine zm_g16 hx lf_X4_47 dX4_newPlace_1 ?_
  refine zz_iload_n hx dX4_newPlace_4 rfl ?_
  refine zm_l16 hx dX4_newPlace_5 (by omega) (by omega) ?_
  refine zz_istore (lv' := [(0, _), (1, _), (2, _), (3, _), (4, _)]) hx dX4_newPlace_6 (by decide) rfl ?_
  refine zz_aload_n hx dX4_newPlace_8 rfl ?_
  refine zm_g3 hx lf_X4_16 dX4_newPlace_9 ?_
  refine zz_iload_n hx dX4_newPlace_12 rfl ?_
  refine zm_l3 hx dX4_newPlace_13 (by omega) (by omega) ?_
  refine zz_istore (lv' := [(0, _), (1, _), (2, _), (3, _), (4, _), (5, _)]) hx dX4_newPlace_14 (by decide) rfl ?_
  refine zz_iload hx dX4_newPlace_16 rfl ?_
  refine zz_iconst hx dX4_newPlace_18 ?_
  refine zz_icmp_ne hx 92 dX4_newPlace_19 rfl (by omega) (by omega) (fun c19 => ?_) (fun c19 => ?_)
  · refine zz_iload hx dX4_newPlace_92 rfl ?_
    refine zz_iconst hx dX4_newPlace_94 ?_
    refine zz_icmp_eq hx 113 dX4_newPlace_95 rfl (by omega) (by omega) (fun c95 => ?_) (fun c95 => ?_)
    · refine zz_iconst hx dX4_newPlace_113 ?_
      exact J _ (by omega) (by omega) (by omega)
    · have hon := h.2.2.2.2.1 s (G 16 s) (by omega) (by omega) (by omega) (by omega)
      refine zz_aload_n hx dX4_newPlace_98 rfl ?_
      refine zz_iload_n hx dX4_newPlace_99 rfl ?_
      refine zz_iload hx dX4_newPlace_100 rfl ?_
      refine zz_callVi hx me_X4_ownerIn lk_X4_78 (c_ownerIn hst _ _ (by omega) (by omega) (by omega) (by omega)) 0 rfl rfl ⟨rfl, rfl⟩ (by decide) (by decide) rfl rfl (Nat.le_of_ble_eq_true rfl) dX4_newPlace_102 (fun _ _ h => h.elim) (fun r102 w102 hp102 => ?_)
      obtain ⟨rfl, rfl⟩ := hp102
      refine zz_iload_n hx dX4_newPlace_105 rfl ?_
      refine zz_icmp_ne hx 113 dX4_newPlace_106 rfl (by omega) (by omega) (fun c106 => ?_) (fun c106 => ?_)
      · refine zz_iconst hx dX4_newPlace_113 ?_
        exact J _ (by omega) (by omega) (by omega)
      · refine zz_iconst hx dX4_newPlace_109 ?_
        refine zz_goto hx 114 dX4_newPlace_110 rfl ?_
        exact J _ (by omega) (by omega) (by omega)
  · refine zz_iconst hx dX4_newPlace_22 ?_
    refine zz_istore (lv' := [(0, _), (1, _), (2, _), (3, _), (4, _), (5, _), (6, _)]) hx dX4_newPlace_23 (by decide) rfl ?_
    exact sorted ((G 12 s).toNat + 1) 0 (by omega) (by omega) (by omega) (fun j _ _ => by omega) (by omega)

set_option maxHeartbeats 4000000 in
set_option maxRecDepth 100000 in
theorem c_insert {l : Launch} {g : zG} {a : Nat → Nat} {F : Nat → Int} {G : Nat → Int → Int} {rest : va_W} (hst : l.stackTraces = false) {Rw : Int → List Int} (h : mS F G Rw) (s r q : Int) (s0 : 0 ≤ s) (s1 : s < F 0) (r0 : 0 ≤ r) (r1 : r < F 6) (hr0 : G 11 (60 * s + r) = -1) (g8 : G 8 r = 1) (g9 : G 9 r = G 2 s) (o0 : 0 ≤ q) (o1 : q < F 6) (o8 : G 8 q = 1) (o9 : G 9 q = G 1 s) (hi : G 16 s = -1 ∨ 0 ≤ G 16 s ∧ G 16 s < F 6) : zM l g yX4_insert cX4_insert 6 (Option.none : Option FieldType) ({ frames := 2, cells := 0, slots := 0, locals := 49 } : Room) [.ref (a 0), vi s, vi r, vi q] (mW g a F G rest) (zV fun w => ∃ (G' : Nat → Int → Int) (p : Int), w = mW g a F G' rest ∧ nPl G s r q (Rw s) p ∧ mS F G' (Lup Rw s (zinsl (Rw s) p r)) ∧ G' 11 = zup (G 11) (60 * s + r) q ∧ ∀ k : Nat, k ≠ 11 → k ≠ 12 → k ≠ 13 → G' k = G k) zN 0 0 := by
  have hF0 := h.1
  have hF6 := h.2.1
  have hlen := mS_len h s0 (by omega)
  have hrow := h.2.2.2.2.2 s s0 (by omega)
  refine zM_of (lv0 := [(0, _), (1, _), (2, _), (3, _)]) hst rfl (by decide +kernel) (Nat.le_of_ble_eq_true rfl) rfl (fun x hx hf hn => ?_)
  have loop : ∀ (p : Int) (hp : nPl G s r q (Rw s) p) (m : Nat) (k : Int) (f : Int → Int), p ≤ k → k ≤ G 12 s → G 12 s < 60 → (∀ j : Int, f j = if 60 * s + k < j ∧ j ≤ 60 * s + G 12 s then G 13 (j - 1) else G 13 j) → (k - p).toNat < m → Z l g ({ frames := 2, cells := 0, slots := 0, locals := 49 } : Room) 6 x 0 0 (mW g a F (Gset G 13 f) rest) 17 [(0, .ref (a 0)), (1, vi s), (2, vi r), (3, vi q), (4, vi p), (5, vi k)] [] := by
    intro p hp m
    have hpr := nPl_rng hp
    induction m with
    | zero => intro k f h0 h1 h60 h2 hm; omega
    | succ m ih =>
      intro k f h0 h1 h60 h2 hm
      refine zz_iload hx dX4_insert_17 rfl ?_
      refine zz_iload hx dX4_insert_19 rfl ?_
      refine zz_icmp_le hx 56 dX4_insert_21 rfl (by omega) (by omega) (fun c21 => ?_) (fun c21 => ?_)
      · refine zz_aload_n hx dX4_insert_56 rfl ?_
        refine zm_g13 hx lf_X4_41 dX4_insert_57 ?_
        refine zz_bipush hx dX4_insert_60 rfl ?_
        refine zz_iload_n hx dX4_insert_62 rfl ?_
        refine zz_imul hx dX4_insert_63 ?_
        refine zz_iload hx dX4_insert_64 rfl ?_
        refine zz_iadd hx dX4_insert_66 ?_
        refine zz_iload_n hx dX4_insert_67 rfl ?_
        refine zm_s13 hx dX4_insert_68 (by omega) (by omega) ?_
        refine zz_aload_n hx dX4_insert_69 rfl ?_
        refine zm_g12 hx lf_X4_38 dX4_insert_70 ?_
        refine zz_iload_n hx dX4_insert_73 rfl ?_
        refine zz_dup2 hx dX4_insert_74 rfl rfl ?_
        refine zm_l12 hx dX4_insert_75 (by omega) (by omega) ?_
        refine zz_iconst hx dX4_insert_76 ?_
        refine zz_iadd hx dX4_insert_77 ?_
        simp only [Gup, Gset, reduceIte, Nat.reduceEqDiff]
        refine zm_s12 hx dX4_insert_78 (by omega) (by omega) ?_
        refine zz_aload_n hx dX4_insert_79 rfl ?_
        refine zm_g11 hx lf_X4_35 dX4_insert_80 ?_
        refine zz_bipush hx dX4_insert_83 rfl ?_
        refine zz_iload_n hx dX4_insert_85 rfl ?_
        refine zz_imul hx dX4_insert_86 ?_
        refine zz_iload_n hx dX4_insert_87 rfl ?_
        refine zz_iadd hx dX4_insert_88 ?_
        refine zz_iload_n hx dX4_insert_89 rfl ?_
        refine zm_s11 hx dX4_insert_90 (by omega) (by omega) ?_
        have hkp : k = p := by omega
        have e12 : (Gup (Gup (Gup (Gset G 13 f) 13 (60 * s + p) r) 12 s (G 12 s + 1)) 11 (60 * s + r) q) 12 = zup (G 12) s (G 12 s + 1) := by simp [Gup, Gset]
        have e13 : ∀ j : Int, (Gup (Gup (Gup (Gset G 13 f) 13 (60 * s + p) r) 12 s (G 12 s + 1)) 11 (60 * s + r) q) 13 j = if j = 60 * s + p then r else if 60 * s + p < j ∧ j ≤ 60 * s + G 12 s then G 13 (j - 1) else G 13 j := fun j => by
          simp only [Gup, Gset, reduceIte, Nat.reduceEqDiff, zup]
          by_cases c1 : j = 60 * s + p
          · rw [if_pos c1, if_pos c1]
          · rw [if_neg c1, if_neg c1, h2]
            by_cases c2 : 60 * s + k < j ∧ j ≤ 60 * s + G 12 s
            · rw [if_pos c2, if_pos (by omega)]
            · rw [if_neg c2, if_neg (by omega)]
        have e11 : (Gup (Gup (Gup (Gset G 13 f) 13 (60 * s + p) r) 12 s (G 12 s + 1)) 11 (60 * s + r) q) 11 = zup (G 11) (60 * s + r) q := by simp [Gup, Gset]
        have ek : ∀ k : Nat, k ≠ 11 → k ≠ 12 → k ≠ 13 → (Gup (Gup (Gup (Gset G 13 f) 13 (60 * s + p) r) 12 s (G 12 s + 1)) 11 (60 * s + r) q) k = G k := fun k h1 h2 h3 => by simp [Gup, Gset, h1, h2, h3]
        exact zz_vret hx hf dX4_insert_91 ⟨rfl, _, p, rfl, hp, (mS_ins h s0 s1 r0 r1 hr0 g8 g9 o0 o1 o8 o9 hpr.1 hpr.2 e12 e13 e11 ek).1, e11, ek⟩ (by decide) (by decide)
      · refine zz_aload_n hx dX4_insert_24 rfl ?_
        refine zm_g13 hx lf_X4_41 dX4_insert_25 ?_
        refine zz_bipush hx dX4_insert_28 rfl ?_
        refine zz_iload_n hx dX4_insert_30 rfl ?_
        refine zz_imul hx dX4_insert_31 ?_
        refine zz_iload hx dX4_insert_32 rfl ?_
        refine zz_iadd hx dX4_insert_34 ?_
        refine zz_aload_n hx dX4_insert_35 rfl ?_
        refine zm_g13 hx lf_X4_41 dX4_insert_36 ?_
        refine zz_bipush hx dX4_insert_39 rfl ?_
        refine zz_iload_n hx dX4_insert_41 rfl ?_
        refine zz_imul hx dX4_insert_42 ?_
        refine zz_iload hx dX4_insert_43 rfl ?_
        refine zz_iadd hx dX4_insert_45 ?_
        refine zz_iconst hx dX4_insert_46 ?_
        refine zz_isub hx dX4_insert_47 ?_
        refine zm_l13 hx dX4_insert_48 (by omega) (by omega) ?_
        simp only [Gset, reduceIte, Nat.reduceEqDiff]
        refine zm_s13 hx dX4_insert_49 (by omega) (by omega) ?_
        refine zz_iinc (lv' := [(0, _), (1, _), (2, _), (3, _), (4, _), (5, _)]) hx dX4_insert_50 (by decide) rfl rfl ?_
        refine zz_goto hx 17 dX4_insert_53 rfl ?_
        rw [Gup_eq, Gset_Gset, Gset_s]
        refine ih (k + -1) _ (by omega) (by omega) h60 (fun j => ?_) (by omega)
        by_cases cj : j = 60 * s + k
        · subst cj
          rw [zup_s, if_pos (by omega), h2, if_neg (by omega)]
        · rw [zup_n _ _ cj, h2]
          by_cases c2 : 60 * s + k < j ∧ j ≤ 60 * s + G 12 s
          · rw [if_pos c2, if_pos (by omega)]
          · rw [if_neg c2, if_neg (by omega)]
  refine zz_aload_n hx dX4_insert_0 rfl ?_
  refine zz_iload_n hx dX4_insert_1 rfl ?_
  refine zz_iload_n hx dX4_insert_2 rfl ?_
  refine zz_iload_n hx dX4_insert_3 rfl ?_
  refine zz_callVi hx me_X4_newPlace lk_X4_81 (c_newPlace hst h _ _ _ (by omega) (by omega) (by omega) (by omega) (by omega) (by omega) (by omega)) 0 rfl rfl ⟨rfl, rfl⟩ (by decide) (by decide) rfl rfl (Nat.le_of_ble_eq_true rfl) dX4_insert_4 (fun _ _ h => h.elim) (fun r4 w4 hp4 => ?_)
  obtain ⟨hp, rfl⟩ := hp4
  have hpr := nPl_rng hp
  refine zz_istore (lv' := [(0, _), (1, _), (2, _), (3, _), (4, _)]) hx dX4_insert_7 (by decide) rfl ?_
  refine zz_aload_n hx dX4_insert_9 rfl ?_
  refine zm_g12 hx lf_X4_38 dX4_insert_10 ?_
  refine zz_iload_n hx dX4_insert_13 rfl ?_
  refine zm_l12 hx dX4_insert_14 (by omega) (by omega) ?_
  refine zz_istore (lv' := [(0, _), (1, _), (2, _), (3, _), (4, _), (5, _)]) hx dX4_insert_15 (by decide) rfl ?_
  have h60 := mS_len_ins h s0 s1 r0 r1 hr0
  rw [← Gset_id G 13]
  exact loop r4 hp ((G 12 s - r4).toNat + 1) (G 12 s) (G 13) (by omega) (by omega) h60 (fun j => by rw [if_neg (by omega)]) (by omega)
