theorem take_fresh {D : List Int} (hD : D.Nodup) {k : Int} (k0 : 0 ≤ k) (k1 : k < (D.length : Int)) : zat D k ∉ D.take k.toNat := by
  intro z
  obtain ⟨i, i0, i1, ie⟩ := zat_of_mem z
  have hl : ((D.take k.toNat).length : Int) ≤ k := by rw [List.length_take]; omega
  have h10 : zat D i = zat D k := by
    rw [← ie]
    unfold zat
    rw [List.getD_eq_getElem?_getD, List.getD_eq_getElem?_getD, List.getElem?_take_of_lt (by omega)]
  have h11 : i = k := zat_inj hD ⟨i0, by omega⟩ ⟨k0, k1⟩ h10
  omega

set_option maxHeartbeats 4000000 in
set_option maxRecDepth 100000 in
theorem k_X3_erase {l : Launch} {g : zG} {b : Nat → Nat} {c : Int → Nat → Nat} {I : Nat → Int} {Q : Nat → Int → Int} {P : Int → Nat → Int} {T : Int → Nat → Int → Int} {N : Nat} {rest : va_W} (hst : l.stackTraces = false) (hI : aI I Q N) {ow : Int → Int → Int} {isO : Int → Int → Prop} {L : Int → List Int} (hS : aS P T N ow isO L) (hRl : aR Q P N isO L) (hU : I 2 ≠ -1 → Q 0 (I 2) ≠ -1) (hqt : ∀ t : Int, 0 ≤ t → t < 4 → Q 2 t ≠ -1 → Q 0 (Q 2 t) = t) (y : Int) (hy : -2147483648 ≤ y ∧ y < 2147483648) : zM l g yX3_erase cX3_erase 4 (Option.some FieldType.int) ({ frames := 7, cells := 3, slots := 18, locals := 151 } : Room) [.ref (b 0), vi y] (wD g b c I Q P T N rest) (zI fun v w => (0 ≤ y ∧ y ≤ 2) ∧ (I 2 ≠ -1 ∧ (y = 0 → ∀ s : Int, 0 ≤ s → s < (N : Int) → ¬ (isO s (I 2) ∧ 0 < ((mOf (ow s) (I 2) (L s)).length : Int)))) ∧ ∃ (I1 : Nat → Int) (Q1 : Nat → Int → Int) (T1 : Int → Nat → Int → Int) (D : List Int), w = wD g b c I1 Q1 (PD P ow D N) T1 N rest ∧ v = (D.length : Int) ∧ D.Nodup ∧ (∀ u ∈ D, 0 ≤ u ∧ u < 60) ∧ gDm P ow isO L N y (I 2) D ∧ eL g b c I Q P N ow isO L D (D.length : Int) I1 Q1 T1) (fun E w1 => (E = xA ∧ w1 = (wD g b c I Q P T N rest) ∧ ¬ (0 ≤ y ∧ y ≤ 2)) ∨ (E = xS ∧ w1 = (wD g b c I Q P T N rest) ∧ (0 ≤ y ∧ y ≤ 2) ∧ ¬ (I 2 ≠ -1 ∧ (y = 0 → ∀ s : Int, 0 ≤ s → s < (N : Int) → ¬ (isO s (I 2) ∧ 0 < ((mOf (ow s) (I 2) (L s)).length : Int)))))) 3 18 := by
  have hi2 := hI.2.2.1
  refine zM_of (lv0 := [(0, _), (1, _)]) hst rfl (by decide +kernel) (Nat.le_of_ble_eq_true rfl) rfl (fun x hx hf hn => ?_)
  have loop : (0 ≤ y ∧ y ≤ 2) → (I 2 ≠ -1 ∧ (y = 0 → ∀ s : Int, 0 ≤ s → s < (N : Int) → ¬ (isO s (I 2) ∧ 0 < ((mOf (ow s) (I 2) (L s)).length : Int)))) → ∀ (D : List Int), D.Nodup → (∀ u ∈ D, 0 ≤ u ∧ u < 60) → (∀ u ∈ D, 0 ≤ Q 0 u ∧ Q 0 u ≤ 3) → (D.length : Int) ≤ 60 → gDm P ow isO L N y (I 2) D → ∀ (n : Nat) (k : Int) (I9 : Nat → Int) (Q9 : Nat → Int → Int) (T9 : Int → Nat → Int → Int), 0 ≤ k → k ≤ (D.length : Int) → eL g b c I Q P N ow isO L D k I9 Q9 T9 → ((D.length : Int) - k).toNat < n → Z l g ({ frames := 7, cells := 3, slots := 18, locals := 151 } : Room) 4 x (0 + 1 + 1 + 0) (0 + 6 + 6 + 0) (wD g b c I9 Q9 (PD P ow (D.take k.toNat) N) T9 N rest) 36 [(0, .ref (b 0)), (1, vi y), (2, vi (D.length : Int)), (3, vi k)] [] := by
    intro hgw hge D hnd hrg hqD hlen hdm n
    induction n with
    | zero => intro k I9 Q9 T9 h0 h1 he hm; omega
    | succ n ih =>
      intro k I9 Q9 T9 h0 h1 he hm
      have hg9 := he.2.2.2.2.2.2.2.2
      refine zz_iload_n hx dX3_erase_36 rfl ?_
      refine zz_iload_n hx dX3_erase_37 rfl ?_
      refine zz_icmp_ge hx 59 dX3_erase_38 rfl (by omega) (by omega) (fun c38 => ?_) (fun c38 => ?_)
      · refine zz_iload_n hx dX3_erase_59 rfl ?_
        exact zz_iret hx hf dX3_erase_60 ⟨_, rfl, hgw, hge, I9, Q9, T9, D, by rw [show k = (D.length : Int) by omega, take_all (Int.le_refl _)], rfl, hnd, hrg, hdm, by rw [show (D.length : Int) = k by omega]; exact he⟩ (by decide) (by decide)
      · have hkl : k < (D.length : Int) := by omega
        have hmz9 : ((D.length : Int) - (k + 1)).toNat < n := by omega
        have hdr := hrg _ (zat_mem h0 hkl)
        have hfr := take_fresh hnd h0 hkl
        have hd1 : zat D k ≠ -1 := by omega
        have hq3 : rAt 60 (Q9 3) k = zat D k := by rw [rAt_in h0 (by omega)]; exact hg9.2.2.2.1 k h0 hkl
        have hq0 : 0 ≤ Q9 0 (zat D k) := by
          rw [he.2.2.2.2.2.1, if_neg hfr]
          exact (hqD _ (zat_mem h0 hkl)).1
        refine zz_aload_n hx dX3_erase_41 rfl ?_
        refine zz_aload_n hx dX3_erase_42 rfl ?_
        refine zd_g4 hx lf_X3_34 dX3_erase_43 ?_
        refine zz_iload_n hx dX3_erase_46 rfl ?_
        refine zz_callVi hx me_X0_at lk_X3_128 (k_X0_at hst k (by omega)) 8 rfl rfl ⟨rfl, rfl⟩ (by decide) (by decide) rfl rfl (Nat.le_of_ble_eq_true rfl) dX3_erase_47 (fun _ _ h => h.elim) (fun r47 w47 hp47 => ?_)
        obtain ⟨rfl, rfl⟩ := hp47
        rw [hq3]
        refine zz_eq (w' := wD g b c I9 Q9 (PD P ow (D.take k.toNat) N) T9 N rest) rfl rfl ?_
        refine zz_callVv hx me_X3_remove lk_X3_129 (k_X3_remove hst he.1 he.2.1 (zat D k) hdr.1 hdr.2 hq0) 0 rfl rfl ⟨rfl, rfl⟩ (by decide) (by decide) rfl rfl (Nat.le_of_ble_eq_true rfl) dX3_erase_50 (fun _ _ h => h.elim) (fun w50 hp50 => ?_)
        obtain ⟨I2, Q2, T2, rfl, hI2, hQ2, hT2⟩ := hp50
        rw [PD_st hd1, ← take_snoc h0 hkl]
        have he2 := eL_step hS hnd hrg hqD hqt he h0 hkl hI2 hQ2 hT2
        refine zz_iinc (lv' := [(0, _), (1, _), (2, _), (3, _)]) hx dX3_erase_53 (by decide) rfl rfl ?_
        refine zz_goto hx 36 dX3_erase_56 rfl ?_
        exact ih (k + 1) I2 Q2 T2 (by omega) (by omega) he2 hmz9
  refine zz_aload_n hx dX3_erase_0 rfl ?_
  refine zz_iload_n hx dX3_erase_1 rfl ?_
  refine zz_callVv hx me_X3_requireWay lk_X3_119 (k_X3_requireWay hst _ (by omega)) 0 rfl rfl ⟨rfl, rfl⟩ (by decide) (by decide) rfl rfl (Nat.le_of_ble_eq_true rfl) dX3_erase_2 (fun E9 w9 hX => by obtain ⟨rfl, rfl, hX⟩ := hX; exact zz_out hx hf hn (Or.inl ⟨rfl, rfl, hX⟩) (by decide) (by decide)) (fun w2 hp2 => ?_)
  obtain ⟨rfl, hgw⟩ := hp2
  refine zz_aload_n hx dX3_erase_5 rfl ?_
  refine zz_callVv hx me_X3_requireRunUnit lk_X3_109 (k_X3_requireRunUnit hst hi2) 0 rfl rfl ⟨rfl, rfl⟩ (by decide) (by decide) rfl rfl (Nat.le_of_ble_eq_true rfl) dX3_erase_6 (fun E9 w9 hX => by obtain ⟨rfl, rfl, hX⟩ := hX; exact zz_out hx hf hn (Or.inr ⟨rfl, rfl, hgw, fun z9 => hX z9.1⟩) (by decide) (by decide)) (fun w6 hp6 => ?_)
  obtain ⟨rfl, hu9⟩ := hp6
  have hi0 : 0 ≤ I 2 ∧ I 2 < 60 := by omega
  refine zz_aload_n hx dX3_erase_9 rfl ?_
  refine zz_aload_n hx dX3_erase_10 rfl ?_
  refine zd_g7 hx lf_X3_45 dX3_erase_11 ?_
  refine zz_iload_n hx dX3_erase_14 rfl ?_
  refine zz_callVi hx me_X3_gatherDoomed lk_X3_122 (k_X3_gatherDoomed hst hI hS (I 2) y hi0.1 hi0.2 hgw) 0 rfl rfl ⟨rfl, rfl⟩ (by decide) (by decide) rfl rfl (Nat.le_of_ble_eq_true rfl) dX3_erase_15 (fun _ _ h => h.elim) (fun r15 w15 hp15 => ?_)
  have hr15 : -1 ≤ r15 ∧ r15 ≤ 60 := by
    rcases hp15 with z | ⟨I1, Q1, D, z⟩
    · have z7 := z.2.1
      clear z
      omega
    · have z7 := z.2.2.1
      have z8 := nodup_len 60 D z.2.1.2.1 (fun u hu => z.2.1.2.2.1 u hu)
      clear z
      omega
  refine zz_istore_n (lv' := [(0, _), (1, _), (2, _)]) hx dX3_erase_18 (by decide) rfl ?_
  refine zz_iload_n hx dX3_erase_19 rfl ?_
  refine zz_iconst hx dX3_erase_20 ?_
  refine zz_icmp_ne hx 34 dX3_erase_21 rfl (by omega) (by omega) (fun c21 => ?_) (fun c21 => ?_)
  · obtain ⟨I1, Q1, D, hw15, hg15, hv15, hf15, hno15, hd15⟩ := hp15.resolve_left (fun z => c21 z.2.1)
    subst hw15
    subst hv15
    have hqD : ∀ u ∈ D, 0 ≤ Q 0 u ∧ Q 0 u ≤ 3 := fun u hu => by
      have hX := hd15.2.2 (fun u => 0 ≤ u ∧ u < 60 ∧ 0 ≤ Q 0 u) ⟨hi0.1, hi0.2, by
        have := hI.2.2.2.1 (I 2) hi0.1 hi0.2
        have := hU hu9
        omega⟩ (fun q u s _ s0 s1 hg => by
        have hm := (mOf_mem.mp hg.2.2).1
        have hr := ((hS s s0 s1).2.1.1.2.2.1 u).mp hm
        have hq := (hRl s s0 s1).2 u hm
        have := (hS s s0 s1).2.2.2.1
        exact ⟨hr.1, hr.2.1, by omega⟩) u hu
      exact ⟨hX.2.2, (hI.2.2.2.1 u hX.1 hX.2.1).2⟩
    have he0 : eL g b c I Q P N ow isO L D 0 I1 Q1 T := by
      have h00 : D.take (0 : Int).toNat = [] := rfl
      unfold eL
      rw [h00, PD_nil]
      refine ⟨aF_aI hf15 hI, ?_, hf15.1 0 (by decide), by rw [hf15.1 1 (by decide)]; omega, by rw [hf15.1 2 (by decide), if_neg (by simp)], fun u => by rw [hf15.2 0 (by decide) (by decide), if_neg (by simp)], hf15.2 1 (by decide) (by decide), fun t _ _ => by rw [hf15.2 2 (by decide) (by decide), if_neg (by simp)], hg15⟩
      have e1 : (fun s => owD (ow s) []) = ow := funext fun s => owD_nil _
      have e2 : (fun s => isD (isO s) []) = isO := funext fun s => isD_nil _
      have e3 : (fun s => LD (ow s) [] (L s)) = L := funext fun s => LD_nil _ _
      rw [e1, e2, e3]
      exact hS
    refine zz_iconst hx dX3_erase_34 ?_
    refine zz_istore_n (lv' := [(0, _), (1, _), (2, _), (3, _)]) hx dX3_erase_35 (by decide) rfl ?_
    refine zz_eq (w' := wD g b c I1 Q1 (PD P ow (D.take (0 : Int).toNat) N) T N rest) (by rw [show D.take (0 : Int).toNat = [] from rfl, PD_nil]) rfl ?_
    exact loop hgw ⟨hu9, hno15⟩ D hg15.2.1 hg15.2.2.1 hqD hr15.2 hd15 (D.length + 1) 0 I1 Q1 T (Int.le_refl 0) (Int.natCast_nonneg _) he0 (by clear hp15 hd15 hno15 hqD; omega)
  · have hx15 : w15 = (wD g b c I Q P T N rest) ∧ y = 0 ∧ ∃ s : Int, 0 ≤ s ∧ s < (N : Int) ∧ (isO s (I 2) ∧ 0 < ((mOf (ow s) (I 2) (L s)).length : Int)) := by
      rcases hp15 with z | ⟨I1, Q1, D, z⟩
      · exact ⟨z.1, z.2.2⟩
      · have z7 := z.2.2.1
        clear z
        omega
    exact zz_throw hx hf hn zth_S (List.mem_of_getElem? (i := 7) rfl) dX3_erase_24 dX3_erase_27 dX3_erase_28 dX3_erase_30 dX3_erase_33 (by decide) (by decide) (Or.inr ⟨rfl, hx15.1, hgw, fun z9 => by obtain ⟨s, s0, s1, hh⟩ := hx15.2.2; exact z9.2 hx15.2.1 s s0 s1 hh⟩)
