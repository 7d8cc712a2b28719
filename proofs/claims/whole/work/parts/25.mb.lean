set_option maxHeartbeats 4000000 in
set_option maxRecDepth 100000 in
theorem c_modify {l : Launch} {g : zG} {a : Nat → Nat} {F : Nat → Int} {G : Nat → Int → Int} {rest : va_W} (hst : l.stackTraces = false) {Rw : Int → List Int} (h : mI F G Rw) (v : Int) (hv : -2147483648 ≤ v ∧ v < 2147483648) : zM l g yX4_modify cX4_modify 5 (Option.some FieldType.int) ({ frames := 3, cells := 0, slots := 0, locals := 74 } : Room) [.ref (a 0), vi v] (mW g a F G rest) (zI fun u w => (¬ (-1000 ≤ v ∧ v ≤ 1000) ∧ w = mW g a (Fup F 18 1) G rest) ∨ ((-1000 ≤ v ∧ v ≤ 1000) ∧ F 14 = -1 ∧ w = mW g a (Fup F 18 2) G rest) ∨ ((-1000 ≤ v ∧ v ≤ 1000) ∧ F 14 ≠ -1 ∧ u = G 10 (F 14) ∧ ∃ (G1 : Nat → Int → Int) (Rw1 : Int → List Int), modO F G Rw v G1 Rw1 (F 0) ∧ w = mW g a (Fup F 18 0) G1 rest)) zN 0 0 := by
  have hF0 := h.1.1
  have hF6 := h.1.2.1
  have hrn := h.2.1
  refine zM_of (lv0 := [(0, _), (1, _)]) hst rfl (by decide +kernel) (Nat.le_of_ble_eq_true rfl) rfl (fun x hx hf hn => ?_)
  have loop : ∀ (m : Nat) (k : Int) (G1 : Nat → Int → Int) (Rw1 : Int → List Int) (v4 : List (Nat × Value)), (-1000 ≤ v ∧ v ≤ 1000) → F 14 ≠ -1 → 0 ≤ k → k ≤ F 0 → modO F G Rw v G1 Rw1 k → (F 0 - k).toNat < m → Z l g ({ frames := 3, cells := 0, slots := 0, locals := 74 } : Room) 5 x 0 0 (mW g a (Fup F 18 0) G1 rest) 61 ([(0, .ref (a 0)), (1, vi v), (2, vi (G 10 (F 14))), (3, vi k)] ++ v4) [] := by
    intro m
    induction m with
    | zero => intro k G1 Rw1 v4 hv2 hne h0 h1 hmo hm; omega
    | succ m ih =>
      intro k G1 Rw1 v4 hv2 hne h0 h1 hmo hm
      refine zz_sub (lv' := [(0, .ref (a 0)), (1, vi v), (2, vi (G 10 (F 14))), (3, vi k)]) (fun q hq => List.mem_append_left _ hq) ?_
      obtain ⟨m1, m2, m3, m4⟩ := id hmo
      have e3 : G1 3 = G 3 := m3 3 (by decide) (by decide) (by decide)
      have e16 : G1 16 = G 16 := m3 16 (by decide) (by decide) (by decide)
      have e8 : G1 8 = G 8 := m3 8 (by decide) (by decide) (by decide)
      have e9 : G1 9 = G 9 := m3 9 (by decide) (by decide) (by decide)
      have e1 : G1 1 = G 1 := m3 1 (by decide) (by decide) (by decide)
      have e2 : G1 2 = G 2 := m3 2 (by decide) (by decide) (by decide)
      have e10 : G1 10 = zup (G 10) (F 14) v := m3 10 (by decide) (by decide) (by decide)
      have hrw : k < F 0 → Rw1 k = Rw k := fun z => (m4 k h0 (by omega)).2 (fun z9 => by omega)
      refine zz_iload_n hx dX4_modify_61 rfl ?_
      refine zz_aload_n hx dX4_modify_62 rfl ?_
      refine zm_g0 hx lf_X4_60 dX4_modify_63 ?_
      try rw [show Fup F 18 0 0 = F 0 from rfl]
      refine zz_icmp_ge hx 122 dX4_modify_66 rfl (by omega) (by omega) (fun c66 => ?_) (fun c66 => ?_)
      · refine zz_iload_n hx dX4_modify_122 rfl ?_
        exact zz_iret hx hf dX4_modify_123 ⟨_, rfl, Or.inr (Or.inr ⟨hv2, hne, rfl, G1, Rw1, by rw [show F 0 = k by omega]; exact hmo, rfl⟩)⟩ (by decide) (by decide)
      · refine zz_aload_n hx dX4_modify_69 rfl ?_
        refine zz_iload_n hx dX4_modify_70 rfl ?_
        refine zz_aload_n hx dX4_modify_71 rfl ?_
        refine zm_g14 hx lf_X4_53 dX4_modify_72 ?_
        try rw [show Fup F 18 0 14 = F 14 from rfl]
        refine zz_callVi hx me_X4_ownerIn lk_X4_78 (c_ownerIn (F := Fup F 18 0) hst _ _ (by omega) (by omega) (show 0 ≤ F 14 by omega) (show F 14 < 60 by omega)) 0 rfl rfl ⟨rfl, rfl⟩ (by decide) (by decide) rfl rfl (Nat.le_of_ble_eq_true rfl) dX4_modify_75 (fun _ _ h => h.elim) (fun r75 w75 hp75 => ?_)
        obtain ⟨rfl, rfl⟩ := hp75
        rw [m2]
        have ho := h.1.2.2.2.2.1 k (F 14) (by omega) (by omega) (by omega) (by omega)
        have hdk := h.1.2.2.1 k (by omega) (by omega)
        have hck := h.2.2.2 k (by omega) (by omega)
        refine zz_istore (lv' := [(0, _), (1, _), (2, _), (3, _), (4, _)]) hx dX4_modify_78 (by decide) rfl ?_
        refine zz_iload hx dX4_modify_80 rfl ?_
        refine zz_iconst hx dX4_modify_82 ?_
        refine zz_icmp_eq hx 116 dX4_modify_83 rfl (by omega) (by omega) (fun c83 => ?_) (fun c83 => ?_)
        · refine zz_iinc (lv' := [(0, _), (1, _), (2, _), (3, _), (4, _)]) hx dX4_modify_116 (by decide) rfl rfl ?_
          refine zz_goto hx 61 dX4_modify_119 rfl ?_
          first
            | exact ih (k + 1) G3 _ [(4, _)] hv2 hne (by omega) (by omega) hmo3 (by omega)
            | (refine ih (k + 1) G1 Rw1 [(4, _)] hv2 hne (by omega) (by omega) ?_ (by omega)
               refine ⟨m1, m2, m3, fun s s0 s1 => ⟨fun z => ?_, fun z => ?_⟩⟩
               · refine (m4 s s0 s1).1 ⟨?_, z.2⟩
                 rcases Int.lt_or_eq_of_le (show s ≤ k by omega) with y | y
                 · exact y
                 · rw [y] at z; exfalso; omega
               · exact (m4 s s0 s1).2 (fun z9 => z ⟨by omega, z9.2⟩))
        · refine zz_aload_n hx dX4_modify_86 rfl ?_
          refine zm_g3 hx lf_X4_16 dX4_modify_87 ?_
          refine zz_iload_n hx dX4_modify_90 rfl ?_
          refine zm_l3 hx dX4_modify_91 (by omega) (by omega) ?_
          rw [e3]
          refine zz_iconst hx dX4_modify_92 ?_
          refine zz_icmp_ne hx 116 dX4_modify_93 rfl (by omega) (by omega) (fun c93 => ?_) (fun c93 => ?_)
          · refine zz_iinc (lv' := [(0, _), (1, _), (2, _), (3, _), (4, _)]) hx dX4_modify_116 (by decide) rfl rfl ?_
            refine zz_goto hx 61 dX4_modify_119 rfl ?_
            first
              | exact ih (k + 1) G3 _ [(4, _)] hv2 hne (by omega) (by omega) hmo3 (by omega)
              | (refine ih (k + 1) G1 Rw1 [(4, _)] hv2 hne (by omega) (by omega) ?_ (by omega)
                 refine ⟨m1, m2, m3, fun s s0 s1 => ⟨fun z => ?_, fun z => ?_⟩⟩
                 · refine (m4 s s0 s1).1 ⟨?_, z.2⟩
                   rcases Int.lt_or_eq_of_le (show s ≤ k by omega) with y | y
                   · exact y
                   · rw [y] at z; exfalso; omega
                 · exact (m4 s s0 s1).2 (fun z9 => z ⟨by omega, z9.2⟩))
          · refine zz_aload_n hx dX4_modify_96 rfl ?_
            refine zz_iload_n hx dX4_modify_97 rfl ?_
            refine zz_aload_n hx dX4_modify_98 rfl ?_
            refine zm_g14 hx lf_X4_53 dX4_modify_99 ?_
            try rw [show Fup F 18 0 14 = F 14 from rfl]
            refine zz_callVv hx me_X4_takeOut lk_X4_99 (c_takeOut (F := Fup F 18 0) hst m1 k (F 14) (by omega) (by omega) (by omega) (by omega) (by rw [m2]; exact c83)) 0 rfl rfl ⟨rfl, rfl⟩ (by decide) (by decide) rfl rfl (Nat.le_of_ble_eq_true rfl) dX4_modify_102 (fun _ _ h => h.elim) (fun w102 hp102 => ?_)
            obtain ⟨G2, rfl, i2, i3, i4⟩ := hp102
            refine zz_aload_n hx dX4_modify_105 rfl ?_
            refine zz_iload_n hx dX4_modify_106 rfl ?_
            refine zz_aload_n hx dX4_modify_107 rfl ?_
            refine zm_g14 hx lf_X4_53 dX4_modify_108 ?_
            try rw [show Fup F 18 0 14 = F 14 from rfl]
            refine zz_iload hx dX4_modify_111 rfl ?_
            refine zz_callVv hx me_X4_insert lk_X4_92 (c_insert (F := Fup F 18 0) hst i2 k (F 14) (G 11 (60 * k + F 14)) (by omega) (show k < F 0 by omega) (by omega) (show F 14 < F 6 by omega) (by rw [i3]; exact zup_s _ _ _) (by rw [i4 8 (by decide) (by decide) (by decide), e8]; omega) (by rw [i4 9 (by decide) (by decide) (by decide), i4 2 (by decide) (by decide) (by decide), e9, e2]; omega) (by omega) (show G 11 (60 * k + F 14) < F 6 by omega) (by rw [i4 8 (by decide) (by decide) (by decide), e8]; omega) (by rw [i4 9 (by decide) (by decide) (by decide), i4 1 (by decide) (by decide) (by decide), e9, e1]; omega) (by rw [i4 16 (by decide) (by decide) (by decide), e16]; show G 16 _ = -1 ∨ 0 ≤ G 16 _ ∧ G 16 _ < F 6; omega)) 0 rfl rfl ⟨rfl, rfl⟩ (by decide) (by decide) rfl rfl (Nat.le_of_ble_eq_true rfl) dX4_modify_113 (fun _ _ h => h.elim) (fun w113 hp113 => ?_)
            obtain ⟨G3, p, rfl, j1, j2, j3, j4⟩ := hp113
            have hmo3 : modO F G Rw v G3 (Lup (Lup Rw1 k (zdel (Rw1 k) (F 14))) k (zinsl ((Lup Rw1 k (zdel (Rw1 k) (F 14))) k) p (F 14))) (k + 1) := by
              refine ⟨j2, ?_, fun j a1 a2 a3 => ?_, fun s s0 s1 => ?_⟩
              · rw [j3, i3, m2, zup_zup, zup_id]
              · rw [j4 j a1 a2 a3, i4 j a1 a2 a3]; exact m3 j a1 a2 a3
              · by_cases cs : s = k
                · subst cs
                  refine ⟨fun z => ⟨p, ?_, by rw [Lup_s, Lup_s, hrw (by omega)]⟩, fun z => absurd ⟨by omega, c83, by omega⟩ z⟩
                  rw [Lup_s, hrw (by omega)] at j1
                  refine nPl_congr (G' := G2) ?_ ?_ ?_ (fun u hu => ?_) (fun z9 => absurd (show G 3 s = 4 by omega) z9) j1
                  · rw [i4 3 (by decide) (by decide) (by decide), e3]; rfl
                  · rw [i4 10 (by decide) (by decide) (by decide), e10]; rfl
                  · rw [i4 16 (by decide) (by decide) (by decide), e16]; rfl
                  · have hu2 := zdel_mem.mp hu
                    rw [i3, zup_n _ _ (by omega), m2]; rfl
                · rw [Lup_n _ _ cs, Lup_n _ _ cs]
                  exact ⟨fun z => (m4 s s0 s1).1 ⟨by omega, z.2⟩, fun z => (m4 s s0 s1).2 (fun z9 => z ⟨by omega, z9.2⟩)⟩
            refine zz_iinc (lv' := [(0, _), (1, _), (2, _), (3, _), (4, _)]) hx dX4_modify_116 (by decide) rfl rfl ?_
            refine zz_goto hx 61 dX4_modify_119 rfl ?_
            first
              | exact ih (k + 1) G3 _ [(4, _)] hv2 hne (by omega) (by omega) hmo3 (by omega)
              | (refine ih (k + 1) G1 Rw1 [(4, _)] hv2 hne (by omega) (by omega) ?_ (by omega)
                 refine ⟨m1, m2, m3, fun s s0 s1 => ⟨fun z => ?_, fun z => ?_⟩⟩
                 · refine (m4 s s0 s1).1 ⟨?_, z.2⟩
                   rcases Int.lt_or_eq_of_le (show s ≤ k by omega) with y | y
                   · exact y
                   · rw [y] at z; exfalso; omega
                 · exact (m4 s s0 s1).2 (fun z9 => z ⟨by omega, z9.2⟩))
  refine zz_aload_n hx dX4_modify_0 rfl ?_
  refine zz_iload_n hx dX4_modify_1 rfl ?_
  refine zz_sipush hx dX4_modify_2 rfl ?_
  refine zz_sipush hx dX4_modify_5 rfl ?_
  refine zz_callSi hx ms_X4_isIn lk_X4_63 (c_isIn (a := a) hst _ _ _ (by omega) (by omega) (by omega)) ⟨rfl, rfl⟩ (by decide) (by decide) rfl rfl (Nat.le_of_ble_eq_true rfl) dX4_modify_8 (fun _ _ h => h.elim) (fun r8 w8 hp8 => ?_)
  obtain ⟨rfl, rfl⟩ := hp8
  refine zz_ifb_ne hx 18 dX4_modify_11 rfl (fun c11 => ?_) (fun c11 => ?_)
  · refine zz_aload_n hx dX4_modify_18 rfl ?_
    refine zm_g14 hx lf_X4_53 dX4_modify_19 ?_
    refine zz_iconst hx dX4_modify_22 ?_
    refine zz_icmp_ne hx 30 dX4_modify_23 rfl (by omega) (by omega) (fun c23 => ?_) (fun c23 => ?_)
    · refine zz_iconst hx dX4_modify_30 ?_
      refine zz_callVi hx me_X4_can lk_X4_70 (c_can hst _ (by omega)) 0 rfl rfl ⟨rfl, rfl⟩ (by decide) (by decide) rfl rfl (Nat.le_of_ble_eq_true rfl) dX4_modify_31 (fun _ _ h => h.elim) (fun r31 w31 hp31 => ?_)
      obtain ⟨rfl, rfl⟩ := hp31
      refine zz_ifb_ne hx 39 dX4_modify_34 rfl (fun _ => ?_) (fun z => absurd rfl z)
      refine zz_aload_n hx dX4_modify_39 rfl ?_
      refine zm_g10 hx lf_X4_32 dX4_modify_40 ?_
      refine zz_aload_n hx dX4_modify_43 rfl ?_
      refine zm_g14 hx lf_X4_53 dX4_modify_44 ?_
      refine zm_l10 hx dX4_modify_47 (show 0 ≤ F 14 by omega) (show F 14 < 60 by omega) ?_
      refine zz_istore_n (lv' := [(0, _), (1, _), (2, _)]) hx dX4_modify_48 (by decide) rfl ?_
      refine zz_aload_n hx dX4_modify_49 rfl ?_
      refine zm_g10 hx lf_X4_32 dX4_modify_50 ?_
      refine zz_aload_n hx dX4_modify_53 rfl ?_
      refine zm_g14 hx lf_X4_53 dX4_modify_54 ?_
      refine zz_iload_n hx dX4_modify_57 rfl ?_
      refine zm_s10 hx dX4_modify_58 (show 0 ≤ F 14 by omega) (show F 14 < 60 by omega) ?_
      refine zz_iconst hx dX4_modify_59 ?_
      refine zz_istore_n (lv' := [(0, _), (1, _), (2, _), (3, _)]) hx dX4_modify_60 (by decide) rfl ?_
      refine loop ((F 0).toNat + 1) 0 _ Rw [] (by omega) (by omega) (by omega) (by omega) ⟨?_, rfl, fun j _ _ _ => rfl, fun s s0 s1 => ⟨fun z => by omega, fun _ => rfl⟩⟩ (by omega)
      exact mS_10 h.1 (by omega)
    · refine zz_iconst hx dX4_modify_26 ?_
      refine zz_goto hx 31 dX4_modify_27 rfl ?_
      refine zz_callVi hx me_X4_can lk_X4_70 (c_can hst _ (by omega)) 0 rfl rfl ⟨rfl, rfl⟩ (by decide) (by decide) rfl rfl (Nat.le_of_ble_eq_true rfl) dX4_modify_31 (fun _ _ h => h.elim) (fun r31 w31 hp31 => ?_)
      obtain ⟨rfl, rfl⟩ := hp31
      refine zz_ifb_ne hx 39 dX4_modify_34 rfl (fun z => absurd z (by decide)) (fun _ => ?_)
      refine zz_iconst hx dX4_modify_37 ?_
      exact zz_iret hx hf dX4_modify_38 ⟨_, rfl, by first | exact Or.inl ⟨by omega, rfl⟩ | exact Or.inr (Or.inl ⟨by omega, by omega, rfl⟩)⟩ (by decide) (by decide)
  · refine zz_iconst hx dX4_modify_14 ?_
    refine zz_goto hx 31 dX4_modify_15 rfl ?_
    refine zz_callVi hx me_X4_can lk_X4_70 (c_can hst _ (by omega)) 0 rfl rfl ⟨rfl, rfl⟩ (by decide) (by decide) rfl rfl (Nat.le_of_ble_eq_true rfl) dX4_modify_31 (fun _ _ h => h.elim) (fun r31 w31 hp31 => ?_)
    obtain ⟨rfl, rfl⟩ := hp31
    refine zz_ifb_ne hx 39 dX4_modify_34 rfl (fun z => absurd z (by decide)) (fun _ => ?_)
    refine zz_iconst hx dX4_modify_37 ?_
    exact zz_iret hx hf dX4_modify_38 ⟨_, rfl, by first | exact Or.inl ⟨by omega, rfl⟩ | exact Or.inr (Or.inl ⟨by omega, by omega, rfl⟩)⟩ (by decide) (by decide)
