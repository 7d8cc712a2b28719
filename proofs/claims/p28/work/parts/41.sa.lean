/-- what an erasing way gathers of an owner's members -/
def gRl (P : Int → Nat → Int) (ow : Int → Int → Int) (isO : Int → Int → Prop) (L : Int → List Int) (way q u s : Int) : Prop := isO s q ∧ (way = 2 ∨ (way ≠ 0 ∧ P s 4 ≠ 2)) ∧ u ∈ mOf (ow s) q (L s)
def aF (I I1 : Nat → Int) (Q Q1 : Nat → Int → Int) : Prop := (∀ k : Nat, k ≠ 3 → I1 k = I k) ∧ ∀ k : Nat, k ≠ 3 → k ≠ 4 → Q1 k = Q k
theorem aF.trans {I I1 I2 : Nat → Int} {Q Q1 Q2 : Nat → Int → Int} (h : aF I I1 Q Q1) (h' : aF I1 I2 Q1 Q2) : aF I I2 Q Q2 := ⟨fun k hk => by rw [h'.1 k hk, h.1 k hk], fun k h3 h4 => by rw [h'.2 k h3 h4, h.2 k h3 h4]⟩
theorem aF.rfl (I : Nat → Int) (Q : Nat → Int → Int) : aF I I Q Q := ⟨fun _ _ => Eq.refl _, fun _ _ _ => Eq.refl _⟩
theorem aF_aI {I I1 : Nat → Int} {Q Q1 : Nat → Int → Int} {N : Nat} (h : aF I I1 Q Q1) (hI : aI I Q N) : aI I1 Q1 N := by
  unfold aI
  rw [h.1 5 (by decide), h.1 2 (by decide), h.1 0 (by decide), h.1 1 (by decide), h.2 0 (by decide) (by decide), h.2 1 (by decide) (by decide), h.2 2 (by decide) (by decide)]
  exact hI

set_option maxHeartbeats 4000000 in
set_option maxRecDepth 100000 in
theorem k_X3_gatherMembers {l : Launch} {g : zG} {b : Nat → Nat} {c : Int → Nat → Nat} {I : Nat → Int} {Q : Nat → Int → Int} {P : Int → Nat → Int} {T : Int → Nat → Int → Int} {N : Nat} {rest : va_W} (hst : l.stackTraces = false) (hI : aI I Q N) {ow : Int → Int → Int} {isO : Int → Int → Prop} {L : Int → List Int} (hS : aS P T N ow isO L) {D : List Int} (hg : gOK I Q D) (q way : Int) (r0 : 0 ≤ q) (r1 : q < 60) (hw : 0 ≤ way ∧ way ≤ 2) : zM l g yX3_gatherMembers cX3_gatherMembers 5 (Option.none : Option FieldType) ({ frames := 3, cells := 0, slots := 0, locals := 67 } : Room) [.ref (b 0), vi q, vi way] (wD g b c I Q P T N rest) (zV fun w => ∃ (I1 : Nat → Int) (Q1 : Nat → Int → Int) (D1 : List Int), w = wD g b c I1 Q1 P T N rest ∧ gOK I1 Q1 D1 ∧ (∃ E : List Int, D1 = D ++ E) ∧ (∀ u : Int, u ∈ D1 ↔ u ∈ D ∨ ∃ s : Int, 0 ≤ s ∧ s < (N : Int) ∧ gRl P ow isO L way q u s) ∧ aF I I1 Q Q1) zN 0 0 := by
  refine zM_of (lv0 := [(0, _), (1, _), (2, _)]) hst rfl (by decide +kernel) (Nat.le_of_ble_eq_true rfl) rfl (fun x hx hf hn => ?_)
  have loop : ∀ (n : Nat) (k : Int) (I1 : Nat → Int) (Q1 : Nat → Int → Int) (D1 : List Int), 0 ≤ k → k ≤ (N : Int) → gOK I1 Q1 D1 → (∃ E : List Int, D1 = D ++ E) → (∀ u : Int, u ∈ D1 ↔ u ∈ D ∨ ∃ s : Int, 0 ≤ s ∧ s < k ∧ gRl P ow isO L way q u s) → aF I I1 Q Q1 → ((N : Int) - k).toNat < n → Z l g ({ frames := 3, cells := 0, slots := 0, locals := 67 } : Room) 5 x 0 0 (wD g b c I1 Q1 P T N rest) 2 [(0, .ref (b 0)), (1, vi q), (2, vi way), (3, vi k)] [] := by
    intro n
    induction n with
    | zero => intro k I1 Q1 D1 h0 h1 hg1 hE hu hfr hm; omega
    | succ n ih =>
      intro k I1 Q1 D1 h0 h1 hg1 hE hu hfr hm
      have hI9 := aF_aI hfr hI
      have hI5 := hI9.1
      have hN := hI9.2.1
      have keep : (∀ u : Int, ¬ gRl P ow isO L way q u k) → ∀ u : Int, u ∈ D1 ↔ u ∈ D ∨ ∃ s : Int, 0 ≤ s ∧ s < k + 1 ∧ gRl P ow isO L way q u s := fun hno u => by
        rw [hu u]
        constructor
        · rintro (z | ⟨s, s0, s1, z⟩)
          · exact Or.inl z
          · exact Or.inr ⟨s, s0, by omega, z⟩
        · rintro (z | ⟨s, s0, s1, z⟩)
          · exact Or.inl z
          · by_cases e9 : s = k
            · subst e9; exact absurd z (hno u)
            · exact Or.inr ⟨s, s0, by omega, z⟩
      refine zz_iload_n hx dX3_gatherMembers_2 rfl ?_
      refine zz_aload_n hx dX3_gatherMembers_3 rfl ?_
      refine zd_g0 hx lf_X3_10 dX3_gatherMembers_4 ?_
      refine zz_callVi hx me_Jx4a65c_size_8abf5 lk_X3_62 (k_Jx4a65c_size_8abf5 hst) 1 rfl rfl ⟨rfl, rfl⟩ (by decide) (by decide) rfl rfl (Nat.le_of_ble_eq_true rfl) dX3_gatherMembers_7 (fun _ _ h => h.elim) (fun r7 w7 hp7 => ?_)
      obtain ⟨rfl, rfl⟩ := hp7
      refine zz_icmp_ge hx 60 dX3_gatherMembers_10 rfl (by omega) (by omega) (fun c10 => ?_) (fun c10 => ?_)
      · exact zz_vret hx hf dX3_gatherMembers_60 ⟨rfl, I1, Q1, D1, rfl, hg1, hE, by rw [show k = (N : Int) by omega] at hu; exact hu, hfr⟩ (by decide) (by decide)
      · have hs9 := hS k h0 (by omega)
        have ho9 := aS_own hS h0 (show k < (N : Int) by omega) r0 r1
        refine zz_aload_n hx dX3_gatherMembers_13 rfl ?_
        refine zd_g0 hx lf_X3_10 dX3_gatherMembers_14 ?_
        refine zz_iload_n hx dX3_gatherMembers_17 rfl ?_
        refine zz_callVa hx me_Jx4a65c_get_915e3 lk_X3_97 (k_Jx4a65c_get_915e3 hst hI5 hN _ (by omega) (by omega)) 1 rfl rfl ⟨rfl, rfl⟩ (by decide) (by decide) rfl rfl (Nat.le_of_ble_eq_true rfl) dX3_gatherMembers_18 (fun _ _ h => h.elim) (fun r18 w18 hp18 => ?_)
        obtain ⟨rfl, rfl⟩ := hp18
        refine zz_eq (wD_at (s := k) (by omega) (by omega)) rfl ?_
        refine zz_cast hx lc_X3_73 rfl _ (sW_at 0) dX3_gatherMembers_21 ?_
        refine zz_astore (lv' := [(0, _), (1, _), (2, _), (3, _), (4, _)]) hx dX3_gatherMembers_24 (by decide) rfl ?_
        refine zz_aload hx dX3_gatherMembers_26 rfl ?_
        refine zz_iload_n hx dX3_gatherMembers_28 rfl ?_
        refine zz_callVi hx me_X2_owns lk_X3_175 (k_X2_owns hst hs9.1 q (by omega)) _ (sW_at 0) rfl ⟨rfl, rfl⟩ (by decide) (by decide) rfl rfl (Nat.le_of_ble_eq_true rfl) dX3_gatherMembers_29 (fun _ _ h => h.elim) (fun r29 w29 hp29 => ?_)
        obtain ⟨rfl, rfl⟩ := hp29
        refine zz_ifb_eq hx 54 dX3_gatherMembers_32 rfl (fun c32 => ?_) (fun c32 => ?_)
        · have hnext := keep (fun u z9 => c32 (ho9.mpr z9.1))
          refine zz_iinc (lv' := [(0, _), (1, _), (2, _), (3, _), (4, _)]) hx dX3_gatherMembers_54 (by decide) rfl rfl ?_
          refine zz_goto hx 2 dX3_gatherMembers_57 rfl ?_
          refine zz_eq (wD_at (by omega) (by omega)).symm rfl ?_
          refine zz_sub (lv' := [(0, _), (1, _), (2, _), (3, _)]) (fun q9 hq9 => List.mem_append_left [_] hq9) ?_
          exact ih (k + 1) I1 Q1 D1 (by omega) (by omega) hg1 hE hnext hfr (by omega)
        · have hio := ho9.mp c32
          refine zz_aload hx dX3_gatherMembers_35 rfl ?_
          refine zz_iload_n hx dX3_gatherMembers_37 rfl ?_
          refine zz_callVi hx me_X2_erasesMembers lk_X3_239 (k_X2_erasesMembers hst hs9.2.2.2.2.2.2.2.1 way hw) _ (sW_at 0) rfl ⟨rfl, rfl⟩ (by decide) (by decide) rfl rfl (Nat.le_of_ble_eq_true rfl) dX3_gatherMembers_38 (fun _ _ h => h.elim) (fun r38 w38 hp38 => ?_)
          obtain ⟨rfl, rfl⟩ := hp38
          refine zz_ifb_eq hx 54 dX3_gatherMembers_41 rfl (fun c41 => ?_) (fun c41 => ?_)
          · have hnext := keep (fun u z9 => c41 z9.2.1)
            refine zz_iinc (lv' := [(0, _), (1, _), (2, _), (3, _), (4, _)]) hx dX3_gatherMembers_54 (by decide) rfl rfl ?_
            refine zz_goto hx 2 dX3_gatherMembers_57 rfl ?_
            refine zz_eq (wD_at (by omega) (by omega)).symm rfl ?_
            refine zz_sub (lv' := [(0, _), (1, _), (2, _), (3, _)]) (fun q9 hq9 => List.mem_append_left [_] hq9) ?_
            exact ih (k + 1) I1 Q1 D1 (by omega) (by omega) hg1 hE hnext hfr (by omega)
          · refine zz_aload hx dX3_gatherMembers_44 rfl ?_
            refine zz_iload_n hx dX3_gatherMembers_46 rfl ?_
            refine zz_aload_n hx dX3_gatherMembers_47 rfl ?_
            refine zd_g4 hx lf_X3_34 dX3_gatherMembers_48 ?_
            refine zz_callVv hx me_X2_gather lk_X3_242 (k_X2_gather hst hs9.1 hs9.2.1 hg1 q hio) _ (sW_at 0) rfl ⟨rfl, rfl⟩ (by decide) (by decide) rfl rfl (Nat.le_of_ble_eq_true rfl) dX3_gatherMembers_51 (fun _ _ h => h.elim) (fun w51 hp51 => ?_)
            obtain ⟨I2, Q2, rfl, hg2, hf2⟩ := hp51
            refine zz_iinc (lv' := [(0, _), (1, _), (2, _), (3, _), (4, _)]) hx dX3_gatherMembers_54 (by decide) rfl rfl ?_
            refine zz_goto hx 2 dX3_gatherMembers_57 rfl ?_
            refine zz_eq (wD_at (by omega) (by omega)).symm rfl ?_
            refine zz_sub (lv' := [(0, _), (1, _), (2, _), (3, _)]) (fun q9 hq9 => List.mem_append_left [_] hq9) ?_
            refine ih (k + 1) I2 Q2 _ (by omega) (by omega) hg2 ?_ (fun u => ?_) (hfr.trans ⟨hf2.1, hf2.2⟩) (by omega)
            · obtain ⟨E1, e1⟩ := hE
              obtain ⟨E2, e2⟩ := gAdd_pre (l := mOf (ow k) q (L k)) (D := D1)
              exact ⟨E1 ++ E2, by rw [e2, e1, List.append_assoc]⟩
            · rw [gAdd_mem, hu u]
              constructor
              · rintro ((z | ⟨s, s0, s1, z⟩) | z)
                · exact Or.inl z
                · exact Or.inr ⟨s, s0, by omega, z⟩
                · exact Or.inr ⟨k, h0, by omega, hio, c41, z⟩
              · rintro (z | ⟨s, s0, s1, z⟩)
                · exact Or.inl (Or.inl z)
                · by_cases e9 : s = k
                  · subst e9; exact Or.inr z.2.2
                  · exact Or.inl (Or.inr ⟨s, s0, by omega, z⟩)
  refine zz_iconst hx dX3_gatherMembers_0 ?_
  refine zz_istore_n (lv' := [(0, _), (1, _), (2, _), (3, _)]) hx dX3_gatherMembers_1 (by decide) rfl ?_
  exact loop (N + 1) 0 I Q D (by omega) (by omega) hg ⟨[], by simp⟩ (fun u => ⟨Or.inl, fun z => by rcases z with y | ⟨s, s0, s1, -⟩; exact y; omega⟩) (aF.rfl I Q) (by omega)

set_option maxHeartbeats 4000000 in
set_option maxRecDepth 100000 in
theorem k_X3_remove {l : Launch} {g : zG} {b : Nat → Nat} {c : Int → Nat → Nat} {I : Nat → Int} {Q : Nat → Int → Int} {P : Int → Nat → Int} {T : Int → Nat → Int → Int} {N : Nat} {rest : va_W} (hst : l.stackTraces = false) (hI : aI I Q N) {ow : Int → Int → Int} {isO : Int → Int → Prop} {L : Int → List Int} (hS : aS P T N ow isO L) (d : Int) (r0 : 0 ≤ d) (r1 : d < 60) (hq : 0 ≤ Q 0 d) : zM l g yX3_remove cX3_remove 3 (Option.none : Option FieldType) ({ frames := 6, cells := 0, slots := 0, locals := 129 } : Room) [.ref (b 0), vi d] (wD g b c I Q P T N rest) (zV fun w => ∃ (I1 : Nat → Int) (Q1 : Nat → Int → Int) (T1 : Int → Nat → Int → Int), w = wD g b c I1 Q1 (fgP P ow d (N : Int)) T1 N rest ∧ (I1 1 = I 1 - 1 ∧ I1 2 = (if I 2 = d then -1 else I 2) ∧ ∀ k : Nat, k ≠ 1 → k ≠ 2 → I1 k = I k) ∧ (Q1 0 = zup (Q 0) d (-1) ∧ Q1 2 = (if Q 2 (Q 0 d) = d then zup (Q 2) (Q 0 d) (-1) else Q 2) ∧ ∀ k : Nat, k ≠ 0 → k ≠ 2 → Q1 k = Q k) ∧ ∀ s : Int, 0 ≤ s → s < (N : Int) → rR (T1 s) ∧ rOK (T1 s) (fOw (ow s) d) (fO (isO s) d) (fL (ow s) d (L s))) zN 0 0 := by
  have hI5 := hI.1
  have hN := hI.2.1
  have hq0 := hI.2.2.2.1 d r0 r1
  have hq2 := hI.2.2.2.2.2.1 (Q 0 d) hq (by omega)
  have hi2 := hI.2.2.1
  refine zM_of (lv0 := [(0, _), (1, _)]) hst rfl (by decide +kernel) (Nat.le_of_ble_eq_true rfl) rfl (fun x hx hf hn => ?_)
  have fin : ∀ (T1 : Int → Nat → Int → Int), (∀ s : Int, 0 ≤ s → s < (N : Int) → rR (T1 s) ∧ rOK (T1 s) (fOw (ow s) d) (fO (isO s) d) (fL (ow s) d (L s))) → Z l g ({ frames := 6, cells := 0, slots := 0, locals := 129 } : Room) 3 x 0 0 (wD g b c I Q (fgP P ow d (N : Int)) T1 N rest) 34 [(0, .ref (b 0)), (1, vi d), (2, vi (N : Int))] [] := by
    intro T1 hT1
    refine zz_aload_n hx dX3_remove_34 rfl ?_
    refine zd_g1 hx lf_X3_21 dX3_remove_35 ?_
    refine zz_iload_n hx dX3_remove_38 rfl ?_
    refine zd_at0 hx hst lk_X3_112 (by decide) (by decide) (by omega) (Nat.le_of_ble_eq_true rfl) dX3_remove_39 ?_
    rw [rAt_in (by omega) (by omega)]
    refine zz_istore_n (lv' := [(0, _), (1, _), (2, _)]) hx dX3_remove_42 (by decide) rfl ?_
    refine zz_aload_n hx dX3_remove_43 rfl ?_
    refine zd_g3 hx lf_X3_28 dX3_remove_44 ?_
    refine zz_iload_n hx dX3_remove_47 rfl ?_
    refine zd_at2 hx hst lk_X3_112 (by decide) (by decide) (by omega) (Nat.le_of_ble_eq_true rfl) dX3_remove_48 ?_
    rw [rAt_in (by omega) (by omega)]
    refine zz_iload_n hx dX3_remove_51 rfl ?_
    refine zz_icmp_ne hx 64 dX3_remove_52 rfl (by omega) (by omega) (fun c52 => ?_) (fun c52 => ?_)
    · refine zz_aload_n hx dX3_remove_64 rfl ?_
      refine zd_g7 hx lf_X3_45 dX3_remove_65 ?_
      refine zz_iload_n hx dX3_remove_68 rfl ?_
      refine zz_icmp_ne hx 77 dX3_remove_69 rfl (by omega) (by omega) (fun c69 => ?_) (fun c69 => ?_)
      · refine zz_aload_n hx dX3_remove_77 rfl ?_
        refine zd_g1 hx lf_X3_21 dX3_remove_78 ?_
        refine zz_iload_n hx dX3_remove_81 rfl ?_
        refine zz_iconst hx dX3_remove_82 ?_
        refine zd_put0 hx hst lk_X3_93 (by decide) (by decide) (by omega) (Nat.le_of_ble_eq_true rfl) dX3_remove_83 ?_
        rw [rUp_in (by omega) (by omega)]
        refine zz_aload_n hx dX3_remove_86 rfl ?_
        refine zz_dup hx dX3_remove_87 rfl ?_
        refine zd_g6 hx lf_X3_42 dX3_remove_88 ?_
        refine zz_iconst hx dX3_remove_91 ?_
        refine zz_isub hx dX3_remove_92 ?_
        refine zd_p6 hx lf_X3_42 dX3_remove_93 ?_
        exact zz_vret hx hf dX3_remove_96 (by first | exact ⟨rfl, _, _, T1, rfl, ⟨rfl, by simp [Fup, *], fun k h1 h2 => by simp [Fup, h1, h2]⟩, ⟨by simp [Gset], by simp [Gset, *], fun k h1 h2 => by simp [Gset, h1, h2]⟩, hT1⟩) (by decide) (by decide)
      · refine zz_aload_n hx dX3_remove_72 rfl ?_
        refine zz_iconst hx dX3_remove_73 ?_
        refine zd_p7 hx lf_X3_45 dX3_remove_74 ?_
        refine zz_aload_n hx dX3_remove_77 rfl ?_
        refine zd_g1 hx lf_X3_21 dX3_remove_78 ?_
        refine zz_iload_n hx dX3_remove_81 rfl ?_
        refine zz_iconst hx dX3_remove_82 ?_
        refine zd_put0 hx hst lk_X3_93 (by decide) (by decide) (by omega) (Nat.le_of_ble_eq_true rfl) dX3_remove_83 ?_
        rw [rUp_in (by omega) (by omega)]
        refine zz_aload_n hx dX3_remove_86 rfl ?_
        refine zz_dup hx dX3_remove_87 rfl ?_
        refine zd_g6 hx lf_X3_42 dX3_remove_88 ?_
        refine zz_iconst hx dX3_remove_91 ?_
        refine zz_isub hx dX3_remove_92 ?_
        refine zd_p6 hx lf_X3_42 dX3_remove_93 ?_
        exact zz_vret hx hf dX3_remove_96 (by first | exact ⟨rfl, _, _, T1, rfl, ⟨rfl, by simp [Fup, *], fun k h1 h2 => by simp [Fup, h1, h2]⟩, ⟨by simp [Gset], by simp [Gset, *], fun k h1 h2 => by simp [Gset, h1, h2]⟩, hT1⟩) (by decide) (by decide)
    · refine zz_aload_n hx dX3_remove_55 rfl ?_
      refine zd_g3 hx lf_X3_28 dX3_remove_56 ?_
      refine zz_iload_n hx dX3_remove_59 rfl ?_
      refine zz_iconst hx dX3_remove_60 ?_
      refine zd_put2 hx hst lk_X3_93 (by decide) (by decide) (by omega) (Nat.le_of_ble_eq_true rfl) dX3_remove_61 ?_
      rw [rUp_in (by omega) (by omega)]
      refine zz_aload_n hx dX3_remove_64 rfl ?_
      refine zd_g7 hx lf_X3_45 dX3_remove_65 ?_
      refine zz_iload_n hx dX3_remove_68 rfl ?_
      refine zz_icmp_ne hx 77 dX3_remove_69 rfl (by omega) (by omega) (fun c69 => ?_) (fun c69 => ?_)
      · refine zz_aload_n hx dX3_remove_77 rfl ?_
        refine zd_g1 hx lf_X3_21 dX3_remove_78 ?_
        refine zz_iload_n hx dX3_remove_81 rfl ?_
        refine zz_iconst hx dX3_remove_82 ?_
        refine zd_put0 hx hst lk_X3_93 (by decide) (by decide) (by omega) (Nat.le_of_ble_eq_true rfl) dX3_remove_83 ?_
        rw [rUp_in (by omega) (by omega)]
        refine zz_aload_n hx dX3_remove_86 rfl ?_
        refine zz_dup hx dX3_remove_87 rfl ?_
        refine zd_g6 hx lf_X3_42 dX3_remove_88 ?_
        refine zz_iconst hx dX3_remove_91 ?_
        refine zz_isub hx dX3_remove_92 ?_
        refine zd_p6 hx lf_X3_42 dX3_remove_93 ?_
        exact zz_vret hx hf dX3_remove_96 (by first | exact ⟨rfl, _, _, T1, rfl, ⟨rfl, by simp [Fup, *], fun k h1 h2 => by simp [Fup, h1, h2]⟩, ⟨by simp [Gset], by simp [Gset, *], fun k h1 h2 => by simp [Gset, h1, h2]⟩, hT1⟩) (by decide) (by decide)
      · refine zz_aload_n hx dX3_remove_72 rfl ?_
        refine zz_iconst hx dX3_remove_73 ?_
        refine zd_p7 hx lf_X3_45 dX3_remove_74 ?_
        refine zz_aload_n hx dX3_remove_77 rfl ?_
        refine zd_g1 hx lf_X3_21 dX3_remove_78 ?_
        refine zz_iload_n hx dX3_remove_81 rfl ?_
        refine zz_iconst hx dX3_remove_82 ?_
        refine zd_put0 hx hst lk_X3_93 (by decide) (by decide) (by omega) (Nat.le_of_ble_eq_true rfl) dX3_remove_83 ?_
        rw [rUp_in (by omega) (by omega)]
        refine zz_aload_n hx dX3_remove_86 rfl ?_
        refine zz_dup hx dX3_remove_87 rfl ?_
        refine zd_g6 hx lf_X3_42 dX3_remove_88 ?_
        refine zz_iconst hx dX3_remove_91 ?_
        refine zz_isub hx dX3_remove_92 ?_
        refine zd_p6 hx lf_X3_42 dX3_remove_93 ?_
        exact zz_vret hx hf dX3_remove_96 (by first | exact ⟨rfl, _, _, T1, rfl, ⟨rfl, by simp [Fup, *], fun k h1 h2 => by simp [Fup, h1, h2]⟩, ⟨by simp [Gset], by simp [Gset, *], fun k h1 h2 => by simp [Gset, h1, h2]⟩, hT1⟩) (by decide) (by decide)
  have loop : ∀ (n : Nat) (k : Int) (T9 : Int → Nat → Int → Int), 0 ≤ k → k ≤ (N : Int) → (∀ s : Int, k ≤ s → s < (N : Int) → T9 s = T s) → (∀ s : Int, 0 ≤ s → s < k → rR (T9 s) ∧ rOK (T9 s) (fOw (ow s) d) (fO (isO s) d) (fL (ow s) d (L s))) → ((N : Int) - k).toNat < n → Z l g ({ frames := 6, cells := 0, slots := 0, locals := 129 } : Room) 3 x 0 0 (wD g b c I Q (fgP P ow d k) T9 N rest) 2 [(0, .ref (b 0)), (1, vi d), (2, vi k)] [] := by
    intro n
    induction n with
    | zero => intro k T9 h0 h1 h2 h3 hm; omega
    | succ n ih =>
      intro k T9 h0 h1 h2 h3 hm
      refine zz_iload_n hx dX3_remove_2 rfl ?_
      refine zz_aload_n hx dX3_remove_3 rfl ?_
      refine zd_g0 hx lf_X3_10 dX3_remove_4 ?_
      refine zz_callVi hx me_Jx4a65c_size_8abf5 lk_X3_62 (k_Jx4a65c_size_8abf5 hst) 1 rfl rfl ⟨rfl, rfl⟩ (by decide) (by decide) rfl rfl (Nat.le_of_ble_eq_true rfl) dX3_remove_7 (fun _ _ h => h.elim) (fun r7 w7 hp7 => ?_)
      obtain ⟨rfl, rfl⟩ := hp7
      refine zz_icmp_ge hx 34 dX3_remove_10 rfl (by omega) (by omega) (fun c10 => ?_) (fun c10 => ?_)
      · have hkN : k = (N : Int) := by omega
        subst hkN
        exact fin T9 h3
      · have hs9 := hS k h0 (by omega)
        have hT9 := h2 k (by omega) (by omega)
        have hP9 := fgP_at P ow d k
        refine zz_aload_n hx dX3_remove_13 rfl ?_
        refine zd_g0 hx lf_X3_10 dX3_remove_14 ?_
        refine zz_iload_n hx dX3_remove_17 rfl ?_
        refine zz_callVa hx me_Jx4a65c_get_915e3 lk_X3_97 (k_Jx4a65c_get_915e3 hst hI5 hN _ (by omega) (by omega)) 1 rfl rfl ⟨rfl, rfl⟩ (by decide) (by decide) rfl rfl (Nat.le_of_ble_eq_true rfl) dX3_remove_18 (fun _ _ h => h.elim) (fun r18 w18 hp18 => ?_)
        obtain ⟨rfl, rfl⟩ := hp18
        refine zz_eq (wD_at (s := k) (by omega) (by omega)) rfl ?_
        refine zz_cast hx lc_X3_73 rfl _ (sW_at 0) dX3_remove_21 ?_
        refine zz_iload_n hx dX3_remove_24 rfl ?_
        rw [hT9, hP9]
        refine zz_callVv hx me_X2_forget lk_X3_246 (k_X2_forget hst hs9.1 hs9.2.1 d r0 r1 hs9.2.2.2.2.2.2.2.2) _ (sW_at 0) rfl ⟨rfl, rfl⟩ (by decide) (by decide) rfl rfl (Nat.le_of_ble_eq_true rfl) dX3_remove_25 (fun _ _ h => h.elim) (fun w25 hp25 => ?_)
        obtain ⟨T2, rfl, hr2, hk2⟩ := hp25
        refine zz_iinc (lv' := [(0, _), (1, _), (2, _)]) hx dX3_remove_28 (by decide) rfl rfl ?_
        refine zz_goto hx 2 dX3_remove_31 rfl ?_
        refine zz_eq (wD_put (by omega) (by omega) _ _) rfl ?_
        rw [fgP_st h0]
        exact ih (k + 1) _ (by omega) (by omega) (fun s s0 s1 => by rw [upI_n _ _ (by omega)]; exact h2 s (by omega) s1) (fun s s0 s1 => by
          by_cases e9 : s = k
          · subst e9; rw [upI_s]; exact ⟨hr2, hk2⟩
          · rw [upI_n _ _ e9]; exact h3 s s0 (by omega)) (by omega)
  refine zz_iconst hx dX3_remove_0 ?_
  refine zz_istore_n (lv' := [(0, _), (1, _), (2, _)]) hx dX3_remove_1 (by decide) rfl ?_
  refine zz_eq (w' := (wD g b c I Q (fgP P ow d 0) T N rest)) (by rw [fgP_0]) rfl ?_
  exact loop (N + 1) 0 T (by omega) (by omega) (fun s s0 s1 => rfl) (fun s s0 s1 => by omega) (by omega)
