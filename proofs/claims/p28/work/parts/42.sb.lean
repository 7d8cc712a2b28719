/-- the records that an erasing way takes along with r -/
def gDm (P : Int → Nat → Int) (ow : Int → Int → Int) (isO : Int → Int → Prop) (L : Int → List Int) (N : Nat) (way r : Int) (D : List Int) : Prop := r ∈ D ∧ (∀ q ∈ D, ∀ s u : Int, 0 ≤ s → s < (N : Int) → gRl P ow isO L way q u s → u ∈ D) ∧ ∀ X : Int → Prop, X r → (∀ q u s : Int, X q → 0 ≤ s → s < (N : Int) → gRl P ow isO L way q u s → X u) → ∀ u ∈ D, X u
theorem zat_pre {D E : List Int} {k : Int} (k0 : 0 ≤ k) (k1 : k < (D.length : Int)) : zat (D ++ E) k = zat D k := by
  unfold zat
  rw [List.getD_eq_getElem?_getD, List.getD_eq_getElem?_getD, List.getElem?_append_left (by omega)]

set_option maxHeartbeats 4000000 in
set_option maxRecDepth 100000 in
theorem k_X3_gatherDoomed {l : Launch} {g : zG} {b : Nat → Nat} {c : Int → Nat → Nat} {I : Nat → Int} {Q : Nat → Int → Int} {P : Int → Nat → Int} {T : Int → Nat → Int → Int} {N : Nat} {rest : va_W} (hst : l.stackTraces = false) (hI : aI I Q N) {ow : Int → Int → Int} {isO : Int → Int → Prop} {L : Int → List Int} (hS : aS P T N ow isO L) (r way : Int) (r0 : 0 ≤ r) (r1 : r < 60) (hw : 0 ≤ way ∧ way ≤ 2) : zM l g yX3_gatherDoomed cX3_gatherDoomed 4 (Option.some FieldType.int) ({ frames := 4, cells := 0, slots := 0, locals := 91 } : Room) [.ref (b 0), vi r, vi way] (wD g b c I Q P T N rest) (zI fun v w => (w = (wD g b c I Q P T N rest) ∧ v = -1 ∧ way = 0 ∧ ∃ s : Int, 0 ≤ s ∧ s < (N : Int) ∧ (isO s r ∧ 0 < ((mOf (ow s) r (L s)).length : Int))) ∨ ∃ (I1 : Nat → Int) (Q1 : Nat → Int → Int) (D : List Int), w = wD g b c I1 Q1 P T N rest ∧ gOK I1 Q1 D ∧ v = (D.length : Int) ∧ aF I I1 Q Q1 ∧ (way = 0 → ∀ s : Int, 0 ≤ s → s < (N : Int) → ¬ (isO s r ∧ 0 < ((mOf (ow s) r (L s)).length : Int))) ∧ gDm P ow isO L N way r D) zN 0 0 := by
  refine zM_of (lv0 := [(0, _), (1, _), (2, _)]) hst rfl (by decide +kernel) (Nat.le_of_ble_eq_true rfl) rfl (fun x hx hf hn => ?_)
  have fin : (way = 0 → ∀ s : Int, 0 ≤ s → s < (N : Int) → ¬ (isO s r ∧ 0 < ((mOf (ow s) r (L s)).length : Int))) → ∀ (k : Int) (I1 : Nat → Int) (Q1 : Nat → Int → Int) (D : List Int), k = (D.length : Int) → gOK I1 Q1 D → aF I I1 Q Q1 → r ∈ D → (∀ i : Int, 0 ≤ i → i < k → ∀ s u : Int, 0 ≤ s → s < (N : Int) → gRl P ow isO L way (zat D i) u s → u ∈ D) → (∀ X : Int → Prop, X r → (∀ q u s : Int, X q → 0 ≤ s → s < (N : Int) → gRl P ow isO L way q u s → X u) → ∀ u ∈ D, X u) → Z l g ({ frames := 4, cells := 0, slots := 0, locals := 91 } : Room) 4 x 0 0 (wD g b c I1 Q1 P T N rest) 67 [(0, .ref (b 0)), (1, vi r), (2, vi way), (3, vi k)] [] := by
    intro hno k I1 Q1 D hk hg1 hfr hrD hcl hmin
    refine zz_aload_n hx dX3_gatherDoomed_67 rfl ?_
    refine zd_g4 hx lf_X3_34 dX3_gatherDoomed_68 ?_
    refine zg_n2 hx dX3_gatherDoomed_71 ?_
    exact zz_iret hx hf dX3_gatherDoomed_74 ⟨_, rfl, Or.inr ⟨I1, Q1, D, rfl, hg1, hg1.1, hfr, hno, hrD, fun q hq s u s0 s1 hh => by obtain ⟨i, i0, i1, ie⟩ := zat_of_mem hq; exact hcl i i0 (by omega) s u s0 s1 (by rw [ie]; exact hh), hmin⟩⟩ (by decide) (by decide)
  have loop : (way = 0 → ∀ s : Int, 0 ≤ s → s < (N : Int) → ¬ (isO s r ∧ 0 < ((mOf (ow s) r (L s)).length : Int))) → ∀ (n : Nat) (k : Int) (I1 : Nat → Int) (Q1 : Nat → Int → Int) (D : List Int), 0 ≤ k → k ≤ (D.length : Int) → gOK I1 Q1 D → aF I I1 Q Q1 → r ∈ D → (∀ i : Int, 0 ≤ i → i < k → ∀ s u : Int, 0 ≤ s → s < (N : Int) → gRl P ow isO L way (zat D i) u s → u ∈ D) → (∀ X : Int → Prop, X r → (∀ q u s : Int, X q → 0 ≤ s → s < (N : Int) → gRl P ow isO L way q u s → X u) → ∀ u ∈ D, X u) → (60 - k).toNat < n → Z l g ({ frames := 4, cells := 0, slots := 0, locals := 91 } : Room) 4 x 0 0 (wD g b c I1 Q1 P T N rest) 31 [(0, .ref (b 0)), (1, vi r), (2, vi way), (3, vi k)] [] := by
    intro hno n
    induction n with
    | zero =>
      intro k I1 Q1 D h0 h1 hg1 hfr hrD hcl hmin hm
      omega
    | succ n ih =>
      intro k I1 Q1 D h0 h1 hg1 hfr hrD hcl hmin hm
      have hI9 := aF_aI hfr hI
      have hi3 := hg1.1
      have hdl : (D.length : Int) ≤ 60 := by
        have := nodup_len 60 D hg1.2.1 (fun u hu => hg1.2.2.1 u hu)
        omega
      refine zz_iload_n hx dX3_gatherDoomed_31 rfl ?_
      refine zz_bipush hx dX3_gatherDoomed_32 rfl ?_
      refine zz_icmp_ge hx 67 dX3_gatherDoomed_34 rfl (by omega) (by omega) (fun c34 => ?_) (fun c34 => ?_)
      · exact fin hno k I1 Q1 D (by omega) hg1 hfr hrD hcl hmin
      · refine zz_iload_n hx dX3_gatherDoomed_37 rfl ?_
        refine zz_aload_n hx dX3_gatherDoomed_38 rfl ?_
        refine zd_g4 hx lf_X3_34 dX3_gatherDoomed_39 ?_
        refine zg_n2 hx dX3_gatherDoomed_42 ?_
        refine zz_icmp_ge hx 67 dX3_gatherDoomed_45 rfl (by omega) (by omega) (fun c45 => ?_) (fun c45 => ?_)
        · exact fin hno k I1 Q1 D (by omega) hg1 hfr hrD hcl hmin
        · have hkD : k < (D.length : Int) := by omega
          have hz := hg1.2.2.1 _ (zat_mem h0 hkD)
          have hq3 : rAt 60 (Q1 3) k = zat D k := by rw [rAt_in h0 (by omega)]; exact hg1.2.2.2.1 k h0 hkD
          refine zz_aload_n hx dX3_gatherDoomed_48 rfl ?_
          refine zz_aload_n hx dX3_gatherDoomed_49 rfl ?_
          refine zd_g4 hx lf_X3_34 dX3_gatherDoomed_50 ?_
          refine zz_iload_n hx dX3_gatherDoomed_53 rfl ?_
          refine zz_callVi hx me_X0_at lk_X3_128 (k_X0_at hst k (by omega)) 8 rfl rfl ⟨rfl, rfl⟩ (by decide) (by decide) rfl rfl (Nat.le_of_ble_eq_true rfl) dX3_gatherDoomed_54 (fun _ _ h => h.elim) (fun r54 w54 hp54 => ?_)
          obtain ⟨rfl, rfl⟩ := hp54
          rw [hq3]
          refine zz_eq (w' := wD g b c I1 Q1 P T N rest) rfl rfl ?_
          refine zz_iload_n hx dX3_gatherDoomed_57 rfl ?_
          refine zz_callVv hx me_X3_gatherMembers lk_X3_236 (k_X3_gatherMembers hst hI9 hS hg1 (zat D k) way hz.1 hz.2 hw) 0 rfl rfl ⟨rfl, rfl⟩ (by decide) (by decide) rfl rfl (Nat.le_of_ble_eq_true rfl) dX3_gatherDoomed_58 (fun _ _ h => h.elim) (fun w58 hp58 => ?_)
          obtain ⟨I2, Q2, D2, rfl, hg2, ⟨E2, hE2⟩, hu2, hf2⟩ := hp58
          refine zz_iinc (lv' := [(0, _), (1, _), (2, _), (3, _)]) hx dX3_gatherDoomed_61 (by decide) rfl rfl ?_
          refine zz_goto hx 31 dX3_gatherDoomed_64 rfl ?_
          refine ih (k + 1) I2 Q2 D2 (by omega) (by rw [hE2, List.length_append]; omega) hg2 (hfr.trans hf2) ((hu2 r).mpr (Or.inl hrD)) (fun i i0 i1 s u s0 s1 hh => ?_) (fun X hX hXc u hu => ?_) (by omega)
          · by_cases e9 : i = k
            · rw [e9, hE2, zat_pre h0 hkD] at hh
              exact (hu2 u).mpr (Or.inr ⟨s, s0, s1, hh⟩)
            · rw [hE2, zat_pre i0 (by omega)] at hh
              exact (hu2 u).mpr (Or.inl (hcl i i0 (by omega) s u s0 s1 hh))
          · rcases (hu2 u).mp hu with z | ⟨s, s0, s1, z⟩
            · exact hmin X hX hXc u z
            · exact hXc (zat D k) u s (hmin X hX hXc _ (zat_mem h0 hkD)) s0 s1 z
  have J : (way = 0 → ∀ s : Int, 0 ≤ s → s < (N : Int) → ¬ (isO s r ∧ 0 < ((mOf (ow s) r (L s)).length : Int))) → Z l g ({ frames := 4, cells := 0, slots := 0, locals := 91 } : Room) 4 x 0 0 (wD g b c I Q P T N rest) 14 [(0, .ref (b 0)), (1, vi r), (2, vi way)] [] := by
    intro hno
    refine zz_aload_n hx dX3_gatherDoomed_14 rfl ?_
    refine zd_g4 hx lf_X3_34 dX3_gatherDoomed_15 ?_
    refine zz_callVv hx me_X0_clear lk_X3_229 (k_X0_clear hst) 8 rfl rfl ⟨rfl, rfl⟩ (by decide) (by decide) rfl rfl (Nat.le_of_ble_eq_true rfl) dX3_gatherDoomed_18 (fun _ _ h => h.elim) (fun w18 hp18 => ?_)
    obtain ⟨I1, Q1, rfl, hg1, hf1⟩ := hp18
    refine zz_aload_n hx dX3_gatherDoomed_21 rfl ?_
    refine zd_g4 hx lf_X3_34 dX3_gatherDoomed_22 ?_
    refine zz_iload_n hx dX3_gatherDoomed_25 rfl ?_
    refine zz_callVv hx me_X0_add lk_X3_232 (k_X0_add hst hg1 r r0 r1) 8 rfl rfl ⟨rfl, rfl⟩ (by decide) (by decide) rfl rfl (Nat.le_of_ble_eq_true rfl) dX3_gatherDoomed_26 (fun _ _ h => h.elim) (fun w26 hp26 => ?_)
    obtain ⟨I2, Q2, rfl, hg2, hf2⟩ := hp26
    rw [show gA1 [] r = [r] by simp [gA1]] at hg2
    refine zz_eq (w' := wD g b c I2 Q2 P T N rest) rfl rfl ?_
    refine zz_iconst hx dX3_gatherDoomed_29 ?_
    refine zz_istore_n (lv' := [(0, _), (1, _), (2, _), (3, _)]) hx dX3_gatherDoomed_30 (by decide) rfl ?_
    exact loop hno 61 0 I2 Q2 [r] (by omega) (by simp) hg2 (aF.trans (I1 := I1) (Q1 := Q1) ⟨hf1.1, hf1.2⟩ ⟨hf2.1, hf2.2⟩) (by simp) (fun i i0 i1 => by omega) (fun X hX _ u hu => by rw [List.mem_singleton] at hu; rw [hu]; exact hX) (by omega)
  refine zz_iload_n hx dX3_gatherDoomed_0 rfl ?_
  refine zz_if_ne hx 14 dX3_gatherDoomed_1 rfl (by omega) (fun c1 => ?_) (fun c1 => ?_)
  · exact J (fun z => absurd z c1)
  · refine zz_aload_n hx dX3_gatherDoomed_4 rfl ?_
    refine zz_iload_n hx dX3_gatherDoomed_5 rfl ?_
    refine zz_callVi hx me_X3_hasMembers lk_X3_226 (k_X3_hasMembers hst hI hS _ r0 r1) 0 rfl rfl ⟨rfl, rfl⟩ (by decide) (by decide) rfl rfl (Nat.le_of_ble_eq_true rfl) dX3_gatherDoomed_6 (fun _ _ h => h.elim) (fun r6 w6 hp6 => ?_)
    obtain ⟨rfl, hm6⟩ := hp6
    refine zz_if_eq hx 14 dX3_gatherDoomed_9 rfl (by rcases hm6 with z9 | z9 <;> omega) (fun c9 => ?_) (fun c9 => ?_)
    · refine J (fun _ => ?_)
      rcases hm6 with z9 | z9
      · omega
      · exact z9.2
    · have hm7 : ∃ s : Int, 0 ≤ s ∧ s < (N : Int) ∧ (isO s r ∧ 0 < ((mOf (ow s) r (L s)).length : Int)) := by
        rcases hm6 with z9 | z9
        · exact z9.2
        · omega
      refine zz_iconst hx dX3_gatherDoomed_12 ?_
      exact zz_iret hx hf dX3_gatherDoomed_13 ⟨_, rfl, Or.inl ⟨rfl, rfl, by omega, hm7⟩⟩ (by decide) (by decide)
