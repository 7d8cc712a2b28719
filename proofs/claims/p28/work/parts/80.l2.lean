/-! the law: a place, calls that are caught -/

set_option maxHeartbeats 4000000 in
set_option maxRecDepth 100000 in
theorem l_isPlaced {l : Launch} {g : zG} {b : Nat → Nat} {c : Int → Nat → Nat} {I : Nat → Int} {Q : Nat → Int → Int} {P : Int → Nat → Int} {T : Int → Nat → Int → Int} {N : Nat} {ow : Int → Int → Int} {isO : Int → Int → Prop} {L : Int → List Int} {rest : va_W} (hst : l.stackTraces = false) {gA tA cA : Nat} {Gr U C : Int → Int} (hJ : J I Q P T N ow isO L) (hC : kC I N C) (hU : kU Q U) (hG : kG P N Gr) (s : Int) (hs : 0 ≤ s ∧ s < (N : Int)) (q : Int) (hio : isO s q) (r n a j : Int) (ha : -1 ≤ a ∧ a ≤ 60) (hpl : plO (Q 1) (P s 2) n a (mOf (ow s) q (L s)) r j) : zM l g yL_isPlaced cL_isPlaced 10 (Option.some FieldType.boolean) ({ frames := 6, cells := 0, slots := 0, locals := 133 } : Room) [.ref (b 0), .ref gA, vi s, vi q, vi r, vi n, vi a] (wD g b c I Q P T N (rA g gA 30 Gr :: rA g tA 60 U :: rA g cA 3 C :: rest)) (zI fun v w => v = 1 ∧ w = (wD g b c I Q P T N (rA g gA 30 Gr :: rA g tA 60 U :: rA g cA 3 C :: rest))) zN 0 0 := by
  have hI := hJ.1
  have hS := hJ.2.1
  have hi0 := hI.2.2.2.2.2.2.1
  have hN6 := hI.2.1
  have hg9 := kG_at hG hS hs
  obtain ⟨hq0, hq1, -, -⟩ := J_own hJ hs.1 hs.2 hio
  have hqn : Q 0 q ≠ -1 := by omega
  obtain ⟨mm1, mm2, mm3⟩ := J_mm hJ hs.1 hs.2 hio
  obtain ⟨p1, p2, p3, p4, p5, p6, p7, p8⟩ := hpl
  have p7' : P s 2 = 3 → (a < 0 → j = n) ∧ (¬ a < 0 → j = a) := fun z9 => by
    have z8 := p7 z9
    by_cases c9 : a < 0
    · rw [if_pos c9] at z8; exact ⟨fun _ => z8, fun y9 => absurd c9 y9⟩
    · rw [if_neg c9] at z8; exact ⟨fun y9 => absurd y9 c9, fun _ => z8⟩
  clear p7
  have hrm := mm3 _ (zat_mem (l := (mOf (ow s) q (L s))) (k := j) (by omega) (by omega))
  rw [p3] at hrm
  have hrv := hI.2.2.2.2.1 r (by omega) (by omega)
  refine zM_of (lv0 := [(0, _), (1, _), (2, _), (3, _), (4, _), (5, _), (6, _)]) hst rfl (by decide +kernel) (Nat.le_of_ble_eq_true rfl) rfl (fun x hx hf hn => ?_)
  refine zz_aload_n hx dL_isPlaced_0 rfl ?_
  refine zz_iload_n hx dL_isPlaced_1 rfl ?_
  refine zz_iload_n hx dL_isPlaced_2 rfl ?_
  refine zz_iload hx dL_isPlaced_3 rfl ?_
  refine zz_callSi hx ms_L_placeOf lk_L_92 (l_placeOf hst hJ s hs q hio r (by omega)) ⟨rfl, rfl⟩ (by decide) (by decide) rfl rfl (Nat.le_of_ble_eq_true rfl) dL_isPlaced_5 (fun _ _ h => h.elim) (fun r5 w5 hp5 => ?_)
  obtain ⟨hx9, rfl⟩ := hp5
  have e5 : j = r5 := (ixO_in mm1 hx9 (by omega) (by omega) p3).symm
  subst e5
  clear hx9
  refine zz_istore (lv' := [(0, _), (1, _), (2, _), (3, _), (4, _), (5, _), (6, _), (7, _)]) hx dL_isPlaced_8 (by decide) rfl ?_
  refine zz_aload_n hx dL_isPlaced_10 rfl ?_
  refine zz_iconst hx dL_isPlaced_11 ?_
  refine zz_iload_n hx dL_isPlaced_12 rfl ?_
  refine zz_imul hx dL_isPlaced_13 ?_
  refine zz_iconst hx dL_isPlaced_14 ?_
  refine zz_iadd hx dL_isPlaced_15 ?_
  refine zr_ld hx 0 rfl (by decide) (by omega) (by omega) dL_isPlaced_16 ?_
  refine zz_istore (lv' := [(0, _), (1, _), (2, _), (3, _), (4, _), (5, _), (6, _), (7, _), (8, _)]) hx dL_isPlaced_17 (by decide) rfl ?_
  refine zz_iload hx dL_isPlaced_19 rfl ?_
  refine zz_iconst hx dL_isPlaced_21 ?_
  refine zz_icmp_ne hx 89 dL_isPlaced_22 rfl (by omega) (by omega) (fun c22 => ?_) (fun c22 => ?_)
  · clear p8
    refine zz_aload_n hx dL_isPlaced_89 rfl ?_
    refine zz_iload_n hx dL_isPlaced_90 rfl ?_
    refine zz_iload_n hx dL_isPlaced_91 rfl ?_
    refine zz_callVi hx me_X3_members lk_L_39 (q_X3_members hst hI hS q (by omega) hqn s hs) 0 rfl rfl ⟨rfl, rfl⟩ (by decide) (by decide) rfl rfl (Nat.le_of_ble_eq_true rfl) dL_isPlaced_92 (fun _ _ h => h.elim) (fun r92 w92 hp92 => ?_)
    obtain ⟨hm9, rfl⟩ := hp92
    obtain rfl : r92 = ((mOf (ow s) q (L s)).length : Int) := by
      rcases hm9 with z9 | z9
      · exact z9.2
      · exact absurd hio z9.1
    clear hm9
    refine zz_iload hx dL_isPlaced_95 rfl ?_
    refine zz_iconst hx dL_isPlaced_97 ?_
    refine zz_iadd hx dL_isPlaced_98 ?_
    refine zz_icmp_ne hx 156 dL_isPlaced_99 rfl (by omega) (by omega) (fun c99 => ?_) (fun c99 => ?_)
    · omega
    · refine zz_iload hx dL_isPlaced_102 rfl ?_
      refine zz_iload hx dL_isPlaced_104 rfl ?_
      refine zz_if_ne hx 113 dL_isPlaced_106 rfl (by omega) (fun c106 => ?_) (fun c106 => ?_)
      · refine zz_iload hx dL_isPlaced_113 rfl ?_
        refine zz_iconst hx dL_isPlaced_115 ?_
        refine zz_icmp_ne hx 124 dL_isPlaced_116 rfl (by omega) (by omega) (fun c116 => ?_) (fun c116 => ?_)
        · refine zz_iload hx dL_isPlaced_124 rfl ?_
          refine zz_iconst hx dL_isPlaced_126 ?_
          refine zz_icmp_ne hx 137 dL_isPlaced_127 rfl (by omega) (by omega) (fun c127 => ?_) (fun c127 => ?_)
          · refine zz_iload hx dL_isPlaced_137 rfl ?_
            refine zz_if_ge hx 147 dL_isPlaced_139 rfl (by omega) (fun c139 => ?_) (fun c139 => ?_)
            · refine zz_iload hx dL_isPlaced_147 rfl ?_
              refine zz_icmp_ne hx 156 dL_isPlaced_149 rfl (by omega) (by omega) (fun c149 => ?_) (fun c149 => ?_)
              · omega
              · refine zz_iconst hx dL_isPlaced_152 ?_
                refine zz_goto hx 157 dL_isPlaced_153 rfl ?_
                exact zz_zret hx hf dL_isPlaced_157 (Or.inr rfl) ⟨_, rfl, rfl, rfl⟩ (by decide) (by decide)
            · refine zz_iload hx dL_isPlaced_142 rfl ?_
              refine zz_goto hx 149 dL_isPlaced_144 rfl ?_
              refine zz_icmp_ne hx 156 dL_isPlaced_149 rfl (by omega) (by omega) (fun c149 => ?_) (fun c149 => ?_)
              · omega
              · refine zz_iconst hx dL_isPlaced_152 ?_
                refine zz_goto hx 157 dL_isPlaced_153 rfl ?_
                exact zz_zret hx hf dL_isPlaced_157 (Or.inr rfl) ⟨_, rfl, rfl, rfl⟩ (by decide) (by decide)
          · refine zz_iload hx dL_isPlaced_130 rfl ?_
            refine zz_iconst hx dL_isPlaced_132 ?_
            refine zz_iadd hx dL_isPlaced_133 ?_
            refine zz_goto hx 149 dL_isPlaced_134 rfl ?_
            refine zz_icmp_ne hx 156 dL_isPlaced_149 rfl (by omega) (by omega) (fun c149 => ?_) (fun c149 => ?_)
            · omega
            · refine zz_iconst hx dL_isPlaced_152 ?_
              refine zz_goto hx 157 dL_isPlaced_153 rfl ?_
              exact zz_zret hx hf dL_isPlaced_157 (Or.inr rfl) ⟨_, rfl, rfl, rfl⟩ (by decide) (by decide)
        · refine zz_iload hx dL_isPlaced_119 rfl ?_
          refine zz_goto hx 149 dL_isPlaced_121 rfl ?_
          refine zz_icmp_ne hx 156 dL_isPlaced_149 rfl (by omega) (by omega) (fun c149 => ?_) (fun c149 => ?_)
          · omega
          · refine zz_iconst hx dL_isPlaced_152 ?_
            refine zz_goto hx 157 dL_isPlaced_153 rfl ?_
            exact zz_zret hx hf dL_isPlaced_157 (Or.inr rfl) ⟨_, rfl, rfl, rfl⟩ (by decide) (by decide)
      · refine zz_iconst hx dL_isPlaced_109 ?_
        refine zz_goto hx 149 dL_isPlaced_110 rfl ?_
        refine zz_icmp_ne hx 156 dL_isPlaced_149 rfl (by omega) (by omega) (fun c149 => ?_) (fun c149 => ?_)
        · omega
        · refine zz_iconst hx dL_isPlaced_152 ?_
          refine zz_goto hx 157 dL_isPlaced_153 rfl ?_
          exact zz_zret hx hf dL_isPlaced_157 (Or.inr rfl) ⟨_, rfl, rfl, rfl⟩ (by decide) (by decide)
  · have p8b := p8 (by omega)
    clear p8
    refine zz_aload_n hx dL_isPlaced_25 rfl ?_
    refine zz_iload hx dL_isPlaced_26 rfl ?_
    refine zz_callVi hx me_X3_valueOf lk_L_49 (q_X3_valueOf hst hI r (by omega) hrm.2.2.2.2.2) 0 rfl rfl ⟨rfl, rfl⟩ (by decide) (by decide) rfl rfl (Nat.le_of_ble_eq_true rfl) dL_isPlaced_28 (fun _ _ h => h.elim) (fun r28 w28 hp28 => ?_)
    obtain ⟨rfl, rfl⟩ := hp28
    refine zz_istore (lv' := [(0, _), (1, _), (2, _), (3, _), (4, _), (5, _), (6, _), (7, _), (8, _), (9, _)]) hx dL_isPlaced_31 (by decide) rfl ?_
    refine zz_iload hx dL_isPlaced_33 rfl ?_
    refine zz_if_eq hx 57 dL_isPlaced_35 rfl (by omega) (fun c35 => ?_) (fun c35 => ?_)
    · refine zz_iload hx dL_isPlaced_57 rfl ?_
      refine zz_iload hx dL_isPlaced_59 rfl ?_
      refine zz_icmp_eq hx 83 dL_isPlaced_61 rfl (by omega) (by omega) (fun c61 => ?_) (fun c61 => ?_)
      · refine zz_iconst hx dL_isPlaced_83 ?_
        refine zz_goto hx 88 dL_isPlaced_84 rfl ?_
        exact zz_zret hx hf dL_isPlaced_88 (Or.inr rfl) ⟨_, rfl, rfl, rfl⟩ (by decide) (by decide)
      · refine zz_aload_n hx dL_isPlaced_64 rfl ?_
        refine zz_aload_n hx dL_isPlaced_65 rfl ?_
        refine zz_iload_n hx dL_isPlaced_66 rfl ?_
        refine zz_iload_n hx dL_isPlaced_67 rfl ?_
        refine zz_iload hx dL_isPlaced_68 rfl ?_
        refine zz_iconst hx dL_isPlaced_70 ?_
        refine zz_iadd hx dL_isPlaced_71 ?_
        refine zz_callVi hx me_X3_memberAt lk_L_45 (q_X3_memberAt hst hI hS q (by omega) hqn s hs hio (j + 1) ⟨by omega, by omega⟩) 0 rfl rfl ⟨rfl, rfl⟩ (by decide) (by decide) rfl rfl (Nat.le_of_ble_eq_true rfl) dL_isPlaced_72 (fun _ _ h => h.elim) (fun r72 w72 hp72 => ?_)
        obtain ⟨rfl, rfl⟩ := hp72
        have hz9 := mm3 _ (zat_mem (l := (mOf (ow s) q (L s))) (k := j + 1) (by omega) (by omega))
        have hv9 := hI.2.2.2.2.1 (zat (mOf (ow s) q (L s)) (j + 1)) (by omega) (by omega)
        refine zz_callVi hx me_X3_valueOf lk_L_49 (q_X3_valueOf hst hI (zat (mOf (ow s) q (L s)) (j + 1)) (by omega) hz9.2.2.2.2.2) 0 rfl rfl ⟨rfl, rfl⟩ (by decide) (by decide) rfl rfl (Nat.le_of_ble_eq_true rfl) dL_isPlaced_75 (fun _ _ h => h.elim) (fun r75 w75 hp75 => ?_)
        obtain ⟨rfl, rfl⟩ := hp75
        refine zz_iload hx dL_isPlaced_78 rfl ?_
        refine zz_icmp_le hx 87 dL_isPlaced_80 rfl (by omega) (by omega) (fun c80 => ?_) (fun c80 => ?_)
        · omega
        · refine zz_iconst hx dL_isPlaced_83 ?_
          refine zz_goto hx 88 dL_isPlaced_84 rfl ?_
          exact zz_zret hx hf dL_isPlaced_88 (Or.inr rfl) ⟨_, rfl, rfl, rfl⟩ (by decide) (by decide)
    · refine zz_aload_n hx dL_isPlaced_38 rfl ?_
      refine zz_aload_n hx dL_isPlaced_39 rfl ?_
      refine zz_iload_n hx dL_isPlaced_40 rfl ?_
      refine zz_iload_n hx dL_isPlaced_41 rfl ?_
      refine zz_iload hx dL_isPlaced_42 rfl ?_
      refine zz_iconst hx dL_isPlaced_44 ?_
      refine zz_isub hx dL_isPlaced_45 ?_
      refine zz_callVi hx me_X3_memberAt lk_L_45 (q_X3_memberAt hst hI hS q (by omega) hqn s hs hio (j - 1) ⟨by omega, by omega⟩) 0 rfl rfl ⟨rfl, rfl⟩ (by decide) (by decide) rfl rfl (Nat.le_of_ble_eq_true rfl) dL_isPlaced_46 (fun _ _ h => h.elim) (fun r46 w46 hp46 => ?_)
      obtain ⟨rfl, rfl⟩ := hp46
      have hz9 := mm3 _ (zat_mem (l := (mOf (ow s) q (L s))) (k := j - 1) (by omega) (by omega))
      have hv9 := hI.2.2.2.2.1 (zat (mOf (ow s) q (L s)) (j - 1)) (by omega) (by omega)
      refine zz_callVi hx me_X3_valueOf lk_L_49 (q_X3_valueOf hst hI (zat (mOf (ow s) q (L s)) (j - 1)) (by omega) hz9.2.2.2.2.2) 0 rfl rfl ⟨rfl, rfl⟩ (by decide) (by decide) rfl rfl (Nat.le_of_ble_eq_true rfl) dL_isPlaced_49 (fun _ _ h => h.elim) (fun r49 w49 hp49 => ?_)
      obtain ⟨rfl, rfl⟩ := hp49
      refine zz_iload hx dL_isPlaced_52 rfl ?_
      refine zz_icmp_gt hx 87 dL_isPlaced_54 rfl (by omega) (by omega) (fun c54 => ?_) (fun c54 => ?_)
      · omega
      · refine zz_iload hx dL_isPlaced_57 rfl ?_
        refine zz_iload hx dL_isPlaced_59 rfl ?_
        refine zz_icmp_eq hx 83 dL_isPlaced_61 rfl (by omega) (by omega) (fun c61 => ?_) (fun c61 => ?_)
        · refine zz_iconst hx dL_isPlaced_83 ?_
          refine zz_goto hx 88 dL_isPlaced_84 rfl ?_
          exact zz_zret hx hf dL_isPlaced_88 (Or.inr rfl) ⟨_, rfl, rfl, rfl⟩ (by decide) (by decide)
        · refine zz_aload_n hx dL_isPlaced_64 rfl ?_
          refine zz_aload_n hx dL_isPlaced_65 rfl ?_
          refine zz_iload_n hx dL_isPlaced_66 rfl ?_
          refine zz_iload_n hx dL_isPlaced_67 rfl ?_
          refine zz_iload hx dL_isPlaced_68 rfl ?_
          refine zz_iconst hx dL_isPlaced_70 ?_
          refine zz_iadd hx dL_isPlaced_71 ?_
          refine zz_callVi hx me_X3_memberAt lk_L_45 (q_X3_memberAt hst hI hS q (by omega) hqn s hs hio (j + 1) ⟨by omega, by omega⟩) 0 rfl rfl ⟨rfl, rfl⟩ (by decide) (by decide) rfl rfl (Nat.le_of_ble_eq_true rfl) dL_isPlaced_72 (fun _ _ h => h.elim) (fun r72 w72 hp72 => ?_)
          obtain ⟨rfl, rfl⟩ := hp72
          have hz9 := mm3 _ (zat_mem (l := (mOf (ow s) q (L s))) (k := j + 1) (by omega) (by omega))
          have hv9 := hI.2.2.2.2.1 (zat (mOf (ow s) q (L s)) (j + 1)) (by omega) (by omega)
          refine zz_callVi hx me_X3_valueOf lk_L_49 (q_X3_valueOf hst hI (zat (mOf (ow s) q (L s)) (j + 1)) (by omega) hz9.2.2.2.2.2) 0 rfl rfl ⟨rfl, rfl⟩ (by decide) (by decide) rfl rfl (Nat.le_of_ble_eq_true rfl) dL_isPlaced_75 (fun _ _ h => h.elim) (fun r75 w75 hp75 => ?_)
          obtain ⟨rfl, rfl⟩ := hp75
          refine zz_iload hx dL_isPlaced_78 rfl ?_
          refine zz_icmp_le hx 87 dL_isPlaced_80 rfl (by omega) (by omega) (fun c80 => ?_) (fun c80 => ?_)
          · omega
          · refine zz_iconst hx dL_isPlaced_83 ?_
            refine zz_goto hx 88 dL_isPlaced_84 rfl ?_
            exact zz_zret hx hf dL_isPlaced_88 (Or.inr rfl) ⟨_, rfl, rfl, rfl⟩ (by decide) (by decide)

theorem zNc_SI {x : zX} (h : zNc x) : zNcE xS xI x := by obtain ⟨p, e, s, m, args, below, meth, c, A, Q⟩ := x; exact h

set_option maxHeartbeats 4000000 in
set_option maxRecDepth 100000 in
theorem l_isThere {l : Launch} {g : zG} {b : Nat → Nat} {c : Int → Nat → Nat} {I : Nat → Int} {Q : Nat → Int → Int} {P : Int → Nat → Int} {T : Int → Nat → Int → Int} {N : Nat} {ow : Int → Int → Int} {isO : Int → Int → Prop} {L : Int → List Int} {rest : va_W} (hst : l.stackTraces = false) (hI : aI I Q N) (r : Int) (hr : -2147483648 ≤ r ∧ r < 2147483648) : zMw l g yL_isThere cL_isThere 3 (Option.some FieldType.boolean) [(0, 13, 14, 32)] ({ frames := 8, cells := 1, slots := 6, locals := 124 } : Room) [.ref (b 0), vi r] (wD g b c I Q P T N rest) (zI fun v w => ((v = 1 ∧ (rAt 60 (Q 0) r) ≠ -1) ∨ (v = 0 ∧ (rAt 60 (Q 0) r) = -1)) ∧ w = (wD g b c I Q P T N rest)) 1 6 := by
  refine zMw_of (lv0 := [(0, _), (1, _)]) hst rfl (by decide +kernel) (Nat.le_of_ble_eq_true rfl) rfl (fun x hx hf ht9 hnc => ?_)
  refine zz_aload_n hx dL_isThere_0 rfl ?_
  refine zz_iload_n hx dL_isThere_1 rfl ?_
  have hkI : (rAt 60 (Q 0) r) = -1 → ZT l g ({ frames := 8, cells := 1, slots := 6, locals := 124 } : Room) 3 x 1 6 (wD g b c I Q P T N rest) 2 [(0, .ref (b 0)), (1, vi r)] [] xI := by
    intro z9
    refine zz_catch hx ht9 [] [] 0 13 14 32 rfl (fun z9 hz9 => absurd hz9 List.not_mem_nil) (by decide) (by decide) lc_L_32 (List.mem_of_getElem? (i := 5) rfl) (fun q9 => ?_)
    refine zz_astore_n (lv' := [(0, _), (1, _), (2, _)]) hx dL_isThere_14 (by decide) rfl ?_
    refine zz_iconst hx dL_isThere_15 ?_
    exact zz_zret hx hf dL_isThere_16 (Or.inl rfl) ⟨0, rfl, Or.inr ⟨rfl, z9⟩, rfl⟩ (by decide) (by decide)
  refine zz_callVi hx me_X3_typeOf lk_L_62 (k_X3_typeOf hst hI r hr) 0 rfl rfl ⟨rfl, rfl⟩ (by decide) (by decide) rfl rfl (Nat.le_of_ble_eq_true rfl) dL_isThere_2 (fun E9 w9 hX9 => by obtain ⟨rfl, rfl, hX9⟩ := hX9; exact hkI (by omega)) (fun r2 w2 hp2 => ?_)
  obtain ⟨rfl, hne9, rfl⟩ := hp2
  have hra := rAt_ne hne9
  have hq9 := aI_q0 hI r
  rw [rAt_in hra.1 hra.2] at hq9
  have hne8 := hne9
  rw [rAt_in hra.1 hra.2] at hne8
  refine zz_if_lt hx 12 dL_isThere_5 rfl (by omega) (fun c5 => ?_) (fun c5 => ?_)
  · omega
  · refine zz_iconst hx dL_isThere_8 ?_
    refine zz_goto hx 13 dL_isThere_9 rfl ?_
    exact zz_zret hx hf dL_isThere_13 (Or.inr rfl) ⟨_, rfl, Or.inl ⟨rfl, hne9⟩, rfl⟩ (by decide) (by decide)

set_option maxHeartbeats 4000000 in
set_option maxRecDepth 100000 in
theorem l_acts0 {l : Launch} {g : zG} {b : Nat → Nat} {c : Int → Nat → Nat} {I : Nat → Int} {Q : Nat → Int → Int} {P : Int → Nat → Int} {T : Int → Nat → Int → Int} {N : Nat} {ow : Int → Int → Int} {isO : Int → Int → Prop} {L : Int → List Int} {rest : va_W} (hst : l.stackTraces = false) (hJ : J I Q P T N ow isO L) (t v : Int) (ht : 0 ≤ t ∧ t ≤ 3) (hv : -1000 ≤ v ∧ v ≤ 1000) : zMw l g yL_acts cL_acts 5 (Option.some FieldType.int) [(0, 71, 72, 32), (0, 71, 78, 34)] ({ frames := 8, cells := 3, slots := 18, locals := 143 } : Room) [.ref (b 0), vi 0, vi t, vi v] (wD g b c I Q P T N rest) (zI fun v9 w => (v9 = -5002 ∧ w = (wD g b c I Q P T N rest) ∧ ¬ (I 0 < 60 ∧ ∀ s : Int, 0 ≤ s → s < (N : Int) → ¬ (P s 3 = 1 ∧ P s 1 = t ∧ P s 8 = -1))) ∨ ((I 0 < 60 ∧ ∀ s : Int, 0 ≤ s → s < (N : Int) → ¬ (P s 3 = 1 ∧ P s 1 = t ∧ P s 8 = -1)) ∧ ∃ T1 : Int → Nat → Int → Int, (∀ s : Int, 0 ≤ s → s < (N : Int) → adO (P s) (stQ I Q t v 1) (ow s) (L s) t (I 0) (T s) (T1 s)) ∧ mkO g b c (stI I) (stQ I Q t v) P T1 N rest (I 0) v9 w)) 3 18 := by
  have hI := hJ.1
  have hS := hJ.2.1
  refine zMw_of (lv0 := [(0, _), (1, _), (2, _), (3, _)]) hst rfl (by decide +kernel) (Nat.le_of_ble_eq_true rfl) rfl (fun x hx hf ht9 hnc => ?_)
  refine zz_iload_n hx dL_acts_0 rfl ?_
  refine zz_if_ne hx 13 dL_acts_1 rfl (by decide) (fun z => absurd rfl z) (fun _ => ?_)
  refine zz_aload_n hx dL_acts_4 rfl ?_
  refine zz_iload_n hx dL_acts_5 rfl ?_
  refine zz_iload_n hx dL_acts_6 rfl ?_
  have hkS : ¬ (I 0 < 60 ∧ ∀ s : Int, 0 ≤ s → s < (N : Int) → ¬ (P s 3 = 1 ∧ P s 1 = t ∧ P s 8 = -1)) → ZT l g ({ frames := 8, cells := 3, slots := 18, locals := 143 } : Room) 5 x 3 18 (wD g b c I Q P T N rest) 7 [(0, .ref (b 0)), (1, vi 0), (2, vi t), (3, vi v)] [] xS := by
    intro z9
    refine zz_catch hx ht9 [(0, 71, 72, 32)] [] 0 71 78 34 rfl (fun z9 hz9 => by rw [List.mem_singleton.mp hz9]; exact ⟨by decide, xI, lc_L_32, zNc_SI hnc⟩) (by decide) (by decide) lc_L_34 (List.mem_of_getElem? (i := 4) rfl) (fun q9 => ?_)
    refine zz_astore (lv' := [(0, _), (1, _), (2, _), (3, _), (4, _)]) hx dL_acts_78 (by decide) rfl ?_
    refine zz_sipush hx dL_acts_80 (by decide +kernel) ?_
    exact zz_iret hx hf dL_acts_83 ⟨-5002, rfl, Or.inl ⟨rfl, rfl, z9⟩⟩ (by decide) (by decide)
  refine zz_callVi hx me_X3_store lk_L_10 (k_X3_store hst hI hS hJ.2.2.1 (J_aC hJ) hJ.2.2.2.2.2.2.2.1 (J_I1 hJ).2 t (by omega) v (by omega)) 0 rfl rfl ⟨rfl, rfl⟩ (by decide) (by decide) rfl rfl (Nat.le_of_ble_eq_true rfl) dL_acts_7 (fun E9 w9 hX9 => by obtain ⟨rfl, hX9⟩ := hX9; exact hX9.elim (fun z9 => absurd ⟨ht, hv⟩ z9.2) (fun z9 => by rw [z9.1]; exact hkS z9.2.2)) (fun r7 w7 hp7 => ?_)
  refine zz_goto hx 71 dL_acts_10 rfl ?_
  exact zz_iret hx hf dL_acts_71 ⟨_, rfl, Or.inr hp7.2⟩ (by decide) (by decide)

set_option maxHeartbeats 4000000 in
set_option maxRecDepth 100000 in
theorem l_acts1 {l : Launch} {g : zG} {b : Nat → Nat} {c : Int → Nat → Nat} {I : Nat → Int} {Q : Nat → Int → Int} {P : Int → Nat → Int} {T : Int → Nat → Int → Int} {N : Nat} {ow : Int → Int → Int} {isO : Int → Int → Prop} {L : Int → List Int} {rest : va_W} (hst : l.stackTraces = false) (hJ : J I Q P T N ow isO L) (v z : Int) (hv : -1000 ≤ v ∧ v ≤ 1000) : zMw l g yL_acts cL_acts 5 (Option.some FieldType.int) [(0, 71, 72, 32), (0, 71, 78, 34)] ({ frames := 8, cells := 2, slots := 12, locals := 142 } : Room) [.ref (b 0), vi 1, vi v, vi z] (wD g b c I Q P T N rest) (zI fun v9 w => (v9 = -5002 ∧ w = (wD g b c I Q P T N rest) ∧ ¬ (I 2 ≠ -1)) ∨ ((I 2 ≠ -1) ∧ v9 = Q 1 (I 2) ∧ ∃ T1 : Int → Nat → Int → Int, w = wD g b c I (Gset Q 1 (zup (Q 1) (I 2) v)) P T1 N rest ∧ ∀ s : Int, 0 ≤ s → s < (N : Int) → soO (P s) ((Gset Q 1 (zup (Q 1) (I 2) v)) 1) (ow s) (L s) (I 2) (T s) (T1 s))) 2 12 := by
  have hI := hJ.1
  have hS := hJ.2.1
  refine zMw_of (lv0 := [(0, _), (1, _), (2, _), (3, _)]) hst rfl (by decide +kernel) (Nat.le_of_ble_eq_true rfl) rfl (fun x hx hf ht9 hnc => ?_)
  refine zz_iload_n hx dL_acts_0 rfl ?_
  refine zz_if_ne hx 13 dL_acts_1 rfl (by decide) (fun _ => ?_) (fun z => absurd z (by decide))
  refine zz_iload_n hx dL_acts_13 rfl ?_
  refine zz_iconst hx dL_acts_14 ?_
  refine zz_icmp_ne hx 26 dL_acts_15 rfl (by omega) (by omega) (fun c15 => ?_) (fun c15 => ?_)
  · omega
  · refine zz_aload_n hx dL_acts_18 rfl ?_
    refine zz_iload_n hx dL_acts_19 rfl ?_
    have hkS : ¬ (I 2 ≠ -1) → ZT l g ({ frames := 8, cells := 2, slots := 12, locals := 142 } : Room) 5 x 2 12 (wD g b c I Q P T N rest) 20 [(0, .ref (b 0)), (1, vi 1), (2, vi v), (3, vi z)] [] xS := by
      intro z9
      refine zz_catch hx ht9 [(0, 71, 72, 32)] [] 0 71 78 34 rfl (fun z9 hz9 => by rw [List.mem_singleton.mp hz9]; exact ⟨by decide, xI, lc_L_32, zNc_SI hnc⟩) (by decide) (by decide) lc_L_34 (List.mem_of_getElem? (i := 4) rfl) (fun q9 => ?_)
      refine zz_astore (lv' := [(0, _), (1, _), (2, _), (3, _), (4, _)]) hx dL_acts_78 (by decide) rfl ?_
      refine zz_sipush hx dL_acts_80 (by decide +kernel) ?_
      exact zz_iret hx hf dL_acts_83 ⟨-5002, rfl, Or.inl ⟨rfl, rfl, z9⟩⟩ (by decide) (by decide)
    refine zz_callVi hx me_X3_modify lk_L_16 (k_X3_modify hst hI hS v (by omega)) 0 rfl rfl ⟨rfl, rfl⟩ (by decide) (by decide) rfl rfl (Nat.le_of_ble_eq_true rfl) dL_acts_20 (fun E9 w9 hX9 => by obtain ⟨rfl, hX9⟩ := hX9; exact hX9.elim (fun z9 => absurd hv z9.2) (fun z9 => by rw [z9.1]; exact hkS z9.2.2)) (fun r20 w20 hp20 => ?_)
    refine zz_goto hx 71 dL_acts_23 rfl ?_
    exact zz_iret hx hf dL_acts_71 ⟨_, rfl, Or.inr hp20.2⟩ (by decide) (by decide)

set_option maxHeartbeats 4000000 in
set_option maxRecDepth 100000 in
theorem l_acts2 {l : Launch} {g : zG} {b : Nat → Nat} {c : Int → Nat → Nat} {I : Nat → Int} {Q : Nat → Int → Int} {P : Int → Nat → Int} {T : Int → Nat → Int → Int} {N : Nat} {ow : Int → Int → Int} {isO : Int → Int → Prop} {L : Int → List Int} {rest : va_W} (hst : l.stackTraces = false) (hJ : J I Q P T N ow isO L) (y z : Int) (hy : 0 ≤ y ∧ y ≤ 2) : zMw l g yL_acts cL_acts 5 (Option.some FieldType.int) [(0, 71, 72, 32), (0, 71, 78, 34)] ({ frames := 8, cells := 3, slots := 18, locals := 174 } : Room) [.ref (b 0), vi 2, vi y, vi z] (wD g b c I Q P T N rest) (zI fun v w => (v = -5002 ∧ w = (wD g b c I Q P T N rest) ∧ ¬ (I 2 ≠ -1 ∧ (y = 0 → ∀ s : Int, 0 ≤ s → s < (N : Int) → ¬ (isO s (I 2) ∧ 0 < ((mOf (ow s) (I 2) (L s)).length : Int))))) ∨ ((I 2 ≠ -1 ∧ (y = 0 → ∀ s : Int, 0 ≤ s → s < (N : Int) → ¬ (isO s (I 2) ∧ 0 < ((mOf (ow s) (I 2) (L s)).length : Int)))) ∧ ∃ (I1 : Nat → Int) (Q1 : Nat → Int → Int) (T1 : Int → Nat → Int → Int) (D : List Int), w = wD g b c I1 Q1 (PD P ow D N) T1 N rest ∧ v = (D.length : Int) ∧ D.Nodup ∧ (∀ u ∈ D, 0 ≤ u ∧ u < 60) ∧ gDm P ow isO L N y (I 2) D ∧ eL g b c I Q P N ow isO L D (D.length : Int) I1 Q1 T1)) 3 18 := by
  have hI := hJ.1
  have hS := hJ.2.1
  refine zMw_of (lv0 := [(0, _), (1, _), (2, _), (3, _)]) hst rfl (by decide +kernel) (Nat.le_of_ble_eq_true rfl) rfl (fun x hx hf ht9 hnc => ?_)
  refine zz_iload_n hx dL_acts_0 rfl ?_
  refine zz_if_ne hx 13 dL_acts_1 rfl (by decide) (fun _ => ?_) (fun z => absurd z (by decide))
  refine zz_iload_n hx dL_acts_13 rfl ?_
  refine zz_iconst hx dL_acts_14 ?_
  refine zz_icmp_ne hx 26 dL_acts_15 rfl (by omega) (by omega) (fun c15 => ?_) (fun c15 => ?_)
  · refine zz_iload_n hx dL_acts_26 rfl ?_
    refine zz_iconst hx dL_acts_27 ?_
    refine zz_icmp_ne hx 39 dL_acts_28 rfl (by omega) (by omega) (fun c28 => ?_) (fun c28 => ?_)
    · omega
    · refine zz_aload_n hx dL_acts_31 rfl ?_
      refine zz_iload_n hx dL_acts_32 rfl ?_
      have hkS : ¬ (I 2 ≠ -1 ∧ (y = 0 → ∀ s : Int, 0 ≤ s → s < (N : Int) → ¬ (isO s (I 2) ∧ 0 < ((mOf (ow s) (I 2) (L s)).length : Int)))) → ZT l g ({ frames := 8, cells := 3, slots := 18, locals := 174 } : Room) 5 x 3 18 (wD g b c I Q P T N rest) 33 [(0, .ref (b 0)), (1, vi 2), (2, vi y), (3, vi z)] [] xS := by
        intro z9
        refine zz_catch hx ht9 [(0, 71, 72, 32)] [] 0 71 78 34 rfl (fun z9 hz9 => by rw [List.mem_singleton.mp hz9]; exact ⟨by decide, xI, lc_L_32, zNc_SI hnc⟩) (by decide) (by decide) lc_L_34 (List.mem_of_getElem? (i := 4) rfl) (fun q9 => ?_)
        refine zz_astore (lv' := [(0, _), (1, _), (2, _), (3, _), (4, _)]) hx dL_acts_78 (by decide) rfl ?_
        refine zz_sipush hx dL_acts_80 (by decide +kernel) ?_
        exact zz_iret hx hf dL_acts_83 ⟨-5002, rfl, Or.inl ⟨rfl, rfl, z9⟩⟩ (by decide) (by decide)
      refine zz_callVi hx me_X3_erase lk_L_20 (k_X3_erase hst hI hS hJ.2.2.1 hJ.2.2.2.2.2.2.1 hJ.2.2.2.2.2.1 y (by omega)) 0 rfl rfl ⟨rfl, rfl⟩ (by decide) (by decide) rfl rfl (Nat.le_of_ble_eq_true rfl) dL_acts_33 (fun E9 w9 hX9 => by rcases hX9 with ⟨-, -, z9⟩ | ⟨rfl, rfl, -, z9⟩; exact absurd hy z9; exact hkS z9) (fun r33 w33 hp33 => ?_)
      refine zz_goto hx 71 dL_acts_36 rfl ?_
      exact zz_iret hx hf dL_acts_71 ⟨_, rfl, Or.inr hp33.2⟩ (by decide) (by decide)
  · omega

set_option maxHeartbeats 4000000 in
set_option maxRecDepth 100000 in
theorem l_acts3 {l : Launch} {g : zG} {b : Nat → Nat} {c : Int → Nat → Nat} {I : Nat → Int} {Q : Nat → Int → Int} {P : Int → Nat → Int} {T : Int → Nat → Int → Int} {N : Nat} {ow : Int → Int → Int} {isO : Int → Int → Prop} {L : Int → List Int} {rest : va_W} (hst : l.stackTraces = false) (hJ : J I Q P T N ow isO L) (s z : Int) (hs : 0 ≤ s ∧ s < (N : Int)) : zMw l g yL_acts cL_acts 5 (Option.some FieldType.int) [(0, 71, 72, 32), (0, 71, 78, 34)] ({ frames := 8, cells := 3, slots := 18, locals := 126 } : Room) [.ref (b 0), vi 3, vi s, vi z] (wD g b c I Q P T N rest) (zI fun v w => (v = -5002 ∧ w = (wD g b c I Q P T N rest) ∧ ¬ (I 2 ≠ -1 ∧ Q 0 (I 2) = P s 1 ∧ ¬ (T s 5 (I 2) ≠ -1 ∧ T s 5 (I 2) ≠ I 2) ∧ (rAt 60 (T s 5) (P s 8)) ≠ -1)) ∨ ((I 2 ≠ -1 ∧ Q 0 (I 2) = P s 1 ∧ ¬ (T s 5 (I 2) ≠ -1 ∧ T s 5 (I 2) ≠ I 2) ∧ (rAt 60 (T s 5) (P s 8)) ≠ -1) ∧ ∃ (T1 : Nat → Int → Int) (j p : Int), w = wD g b c I Q (upI P s (Fup (P s) 8 (I 2))) (upI T s T1) N rest ∧ j = ((mOf (ow s) (rAt 60 (T s 5) (P s 8)) ((L s).take p.toNat)).length : Int) ∧ fPl (P s 8) (P s 2) (Q 1) (ow s) (I 2) (rAt 60 (T s 5) (P s 8)) (L s) j ∧ insT (T s) T1 (ow s) (L s) (I 2) (rAt 60 (T s 5) (P s 8)) j ∧ v = ((mOf (zup (ow s) (I 2) (rAt 60 (T s 5) (P s 8))) (rAt 60 (T s 5) (P s 8)) (zinsl (L s) p (I 2))).length : Int))) 3 18 := by
  have hI := hJ.1
  have hS := hJ.2.1
  have hN6 := hI.2.1
  refine zMw_of (lv0 := [(0, _), (1, _), (2, _), (3, _)]) hst rfl (by decide +kernel) (Nat.le_of_ble_eq_true rfl) rfl (fun x hx hf ht9 hnc => ?_)
  refine zz_iload_n hx dL_acts_0 rfl ?_
  refine zz_if_ne hx 13 dL_acts_1 rfl (by decide) (fun _ => ?_) (fun z => absurd z (by decide))
  refine zz_iload_n hx dL_acts_13 rfl ?_
  refine zz_iconst hx dL_acts_14 ?_
  refine zz_icmp_ne hx 26 dL_acts_15 rfl (by omega) (by omega) (fun c15 => ?_) (fun c15 => ?_)
  · refine zz_iload_n hx dL_acts_26 rfl ?_
    refine zz_iconst hx dL_acts_27 ?_
    refine zz_icmp_ne hx 39 dL_acts_28 rfl (by omega) (by omega) (fun c28 => ?_) (fun c28 => ?_)
    · refine zz_iload_n hx dL_acts_39 rfl ?_
      refine zz_iconst hx dL_acts_40 ?_
      refine zz_icmp_ne hx 52 dL_acts_41 rfl (by omega) (by omega) (fun c41 => ?_) (fun c41 => ?_)
      · omega
      · refine zz_aload_n hx dL_acts_44 rfl ?_
        refine zz_iload_n hx dL_acts_45 rfl ?_
        have hkS : ¬ (I 2 ≠ -1 ∧ Q 0 (I 2) = P s 1 ∧ ¬ (T s 5 (I 2) ≠ -1 ∧ T s 5 (I 2) ≠ I 2) ∧ (rAt 60 (T s 5) (P s 8)) ≠ -1) → ZT l g ({ frames := 8, cells := 3, slots := 18, locals := 126 } : Room) 5 x 3 18 (wD g b c I Q P T N rest) 46 [(0, .ref (b 0)), (1, vi 3), (2, vi s), (3, vi z)] [] xS := by
          intro z9
          refine zz_catch hx ht9 [(0, 71, 72, 32)] [] 0 71 78 34 rfl (fun z9 hz9 => by rw [List.mem_singleton.mp hz9]; exact ⟨by decide, xI, lc_L_32, zNc_SI hnc⟩) (by decide) (by decide) lc_L_34 (List.mem_of_getElem? (i := 4) rfl) (fun q9 => ?_)
          refine zz_astore (lv' := [(0, _), (1, _), (2, _), (3, _), (4, _)]) hx dL_acts_78 (by decide) rfl ?_
          refine zz_sipush hx dL_acts_80 (by decide +kernel) ?_
          exact zz_iret hx hf dL_acts_83 ⟨-5002, rfl, Or.inl ⟨rfl, rfl, z9⟩⟩ (by decide) (by decide)
        refine zz_callVi hx me_X3_connect lk_L_23 (k_X3_connect hst hI hS hJ.2.2.1 s (by omega)) 0 rfl rfl ⟨rfl, rfl⟩ (by decide) (by decide) rfl rfl (Nat.le_of_ble_eq_true rfl) dL_acts_46 (fun E9 w9 hX9 => by obtain ⟨rfl, hX9⟩ := hX9; exact hX9.elim (fun z9 => absurd hs z9.2) (fun z9 => by rw [z9.1]; exact hkS z9.2.2)) (fun r46 w46 hp46 => ?_)
        refine zz_goto hx 71 dL_acts_49 rfl ?_
        exact zz_iret hx hf dL_acts_71 ⟨_, rfl, Or.inr hp46.2⟩ (by decide) (by decide)
    · omega
  · omega

set_option maxHeartbeats 4000000 in
set_option maxRecDepth 100000 in
theorem l_acts4 {l : Launch} {g : zG} {b : Nat → Nat} {c : Int → Nat → Nat} {I : Nat → Int} {Q : Nat → Int → Int} {P : Int → Nat → Int} {T : Int → Nat → Int → Int} {N : Nat} {ow : Int → Int → Int} {isO : Int → Int → Prop} {L : Int → List Int} {rest : va_W} (hst : l.stackTraces = false) (hJ : J I Q P T N ow isO L) (s z : Int) (hs : 0 ≤ s ∧ s < (N : Int)) : zMw l g yL_acts cL_acts 5 (Option.some FieldType.int) [(0, 71, 72, 32), (0, 71, 78, 34)] ({ frames := 9, cells := 4, slots := 24, locals := 146 } : Room) [.ref (b 0), vi 4, vi s, vi z] (wD g b c I Q P T N rest) (zI fun v w => (v = -5002 ∧ w = (wD g b c I Q P T N rest) ∧ ¬ ((I 2 ≠ -1 ∧ (rAt 60 (T s 5) (I 2) ≠ -1 ∧ rAt 60 (T s 5) (I 2) ≠ I 2)) ∧ P s 4 = 2)) ∨ (((I 2 ≠ -1 ∧ (rAt 60 (T s 5) (I 2) ≠ -1 ∧ rAt 60 (T s 5) (I 2) ≠ I 2)) ∧ P s 4 = 2) ∧ ∃ (T1 : Nat → Int → Int), w = wD g b c I Q (upI P s (if P s 8 = I 2 then Fup (P s) 8 (-1) else P s)) (upI T s T1) N rest ∧ outT (T s) T1 (I 2) ∧ v = ((mOf (zup (ow s) (I 2) (-1)) (ow s (I 2)) (zdel (L s) (I 2))).length : Int))) 4 24 := by
  have hI := hJ.1
  have hS := hJ.2.1
  have hN6 := hI.2.1
  refine zMw_of (lv0 := [(0, _), (1, _), (2, _), (3, _)]) hst rfl (by decide +kernel) (Nat.le_of_ble_eq_true rfl) rfl (fun x hx hf ht9 hnc => ?_)
  refine zz_iload_n hx dL_acts_0 rfl ?_
  refine zz_if_ne hx 13 dL_acts_1 rfl (by decide) (fun _ => ?_) (fun z => absurd z (by decide))
  refine zz_iload_n hx dL_acts_13 rfl ?_
  refine zz_iconst hx dL_acts_14 ?_
  refine zz_icmp_ne hx 26 dL_acts_15 rfl (by omega) (by omega) (fun c15 => ?_) (fun c15 => ?_)
  · refine zz_iload_n hx dL_acts_26 rfl ?_
    refine zz_iconst hx dL_acts_27 ?_
    refine zz_icmp_ne hx 39 dL_acts_28 rfl (by omega) (by omega) (fun c28 => ?_) (fun c28 => ?_)
    · refine zz_iload_n hx dL_acts_39 rfl ?_
      refine zz_iconst hx dL_acts_40 ?_
      refine zz_icmp_ne hx 52 dL_acts_41 rfl (by omega) (by omega) (fun c41 => ?_) (fun c41 => ?_)
      · refine zz_iload_n hx dL_acts_52 rfl ?_
        refine zz_iconst hx dL_acts_53 ?_
        refine zz_icmp_ne hx 65 dL_acts_54 rfl (by omega) (by omega) (fun c54 => ?_) (fun c54 => ?_)
        · omega
        · refine zz_aload_n hx dL_acts_57 rfl ?_
          refine zz_iload_n hx dL_acts_58 rfl ?_
          have hkS : ¬ ((I 2 ≠ -1 ∧ (rAt 60 (T s 5) (I 2) ≠ -1 ∧ rAt 60 (T s 5) (I 2) ≠ I 2)) ∧ P s 4 = 2) → ZT l g ({ frames := 9, cells := 4, slots := 24, locals := 146 } : Room) 5 x 4 24 (wD g b c I Q P T N rest) 59 [(0, .ref (b 0)), (1, vi 4), (2, vi s), (3, vi z)] [] xS := by
            intro z9
            refine zz_catch hx ht9 [(0, 71, 72, 32)] [] 0 71 78 34 rfl (fun z9 hz9 => by rw [List.mem_singleton.mp hz9]; exact ⟨by decide, xI, lc_L_32, zNc_SI hnc⟩) (by decide) (by decide) lc_L_34 (List.mem_of_getElem? (i := 4) rfl) (fun q9 => ?_)
            refine zz_astore (lv' := [(0, _), (1, _), (2, _), (3, _), (4, _)]) hx dL_acts_78 (by decide) rfl ?_
            refine zz_sipush hx dL_acts_80 (by decide +kernel) ?_
            exact zz_iret hx hf dL_acts_83 ⟨-5002, rfl, Or.inl ⟨rfl, rfl, z9⟩⟩ (by decide) (by decide)
          refine zz_callVi hx me_X3_disconnect lk_L_26 (k_X3_disconnect hst hI hS s (by omega)) 0 rfl rfl ⟨rfl, rfl⟩ (by decide) (by decide) rfl rfl (Nat.le_of_ble_eq_true rfl) dL_acts_59 (fun E9 w9 hX9 => by obtain ⟨rfl, hX9⟩ := hX9; exact hX9.elim (fun z9 => absurd hs z9.2) (fun z9 => by rw [z9.1]; exact hkS z9.2.2)) (fun r59 w59 hp59 => ?_)
          refine zz_goto hx 71 dL_acts_62 rfl ?_
          exact zz_iret hx hf dL_acts_71 ⟨_, rfl, Or.inr hp59.2⟩ (by decide) (by decide)
      · omega
    · omega
  · omega

set_option maxHeartbeats 4000000 in
set_option maxRecDepth 100000 in
theorem l_acts5 {l : Launch} {g : zG} {b : Nat → Nat} {c : Int → Nat → Nat} {I : Nat → Int} {Q : Nat → Int → Int} {P : Int → Nat → Int} {T : Int → Nat → Int → Int} {N : Nat} {ow : Int → Int → Int} {isO : Int → Int → Prop} {L : Int → List Int} {rest : va_W} (hst : l.stackTraces = false) (hJ : J I Q P T N ow isO L) (s q : Int) (hs : 0 ≤ s ∧ s < (N : Int)) (hq : -2147483648 ≤ q ∧ q < 2147483648) : zMw l g yL_acts cL_acts 5 (Option.some FieldType.int) [(0, 71, 72, 32), (0, 71, 78, 34)] ({ frames := 9, cells := 4, slots := 24, locals := 146 } : Room) [.ref (b 0), vi 5, vi s, vi q] (wD g b c I Q P T N rest) (zI fun v w => (v = -5002 ∧ w = (wD g b c I Q P T N rest) ∧ ¬ (isO s q → ((I 2 ≠ -1 ∧ (rAt 60 (T s 5) (I 2) ≠ -1 ∧ rAt 60 (T s 5) (I 2) ≠ I 2)) ∧ P s 4 ≠ 0))) ∨ (v = -5001 ∧ w = (wD g b c I Q P T N rest) ∧ ¬ isO s q) ∨ (isO s q ∧ ((I 2 ≠ -1 ∧ (rAt 60 (T s 5) (I 2) ≠ -1 ∧ rAt 60 (T s 5) (I 2) ≠ I 2)) ∧ P s 4 ≠ 0) ∧ ∃ (T1 T2 : Nat → Int → Int) (j p : Int), w = wD g b c I Q (upI P s (Fup (P s) 8 (I 2))) (upI T s T2) N rest ∧ outT (T s) T1 (I 2) ∧ j = ((mOf (zup (ow s) (I 2) (-1)) q ((zdel (L s) (I 2)).take p.toNat)).length : Int) ∧ fPl (P s 8) (P s 2) (Q 1) (zup (ow s) (I 2) (-1)) (I 2) q (zdel (L s) (I 2)) j ∧ insT T1 T2 (zup (ow s) (I 2) (-1)) (zdel (L s) (I 2)) (I 2) q j ∧ v = ((mOf (zup (zup (ow s) (I 2) (-1)) (I 2) q) q (zinsl (zdel (L s) (I 2)) p (I 2))).length : Int))) 4 24 := by
  have hI := hJ.1
  have hS := hJ.2.1
  have hN6 := hI.2.1
  refine zMw_of (lv0 := [(0, _), (1, _), (2, _), (3, _)]) hst rfl (by decide +kernel) (Nat.le_of_ble_eq_true rfl) rfl (fun x hx hf ht9 hnc => ?_)
  refine zz_iload_n hx dL_acts_0 rfl ?_
  refine zz_if_ne hx 13 dL_acts_1 rfl (by decide) (fun _ => ?_) (fun z => absurd z (by decide))
  refine zz_iload_n hx dL_acts_13 rfl ?_
  refine zz_iconst hx dL_acts_14 ?_
  refine zz_icmp_ne hx 26 dL_acts_15 rfl (by omega) (by omega) (fun c15 => ?_) (fun c15 => ?_)
  · refine zz_iload_n hx dL_acts_26 rfl ?_
    refine zz_iconst hx dL_acts_27 ?_
    refine zz_icmp_ne hx 39 dL_acts_28 rfl (by omega) (by omega) (fun c28 => ?_) (fun c28 => ?_)
    · refine zz_iload_n hx dL_acts_39 rfl ?_
      refine zz_iconst hx dL_acts_40 ?_
      refine zz_icmp_ne hx 52 dL_acts_41 rfl (by omega) (by omega) (fun c41 => ?_) (fun c41 => ?_)
      · refine zz_iload_n hx dL_acts_52 rfl ?_
        refine zz_iconst hx dL_acts_53 ?_
        refine zz_icmp_ne hx 65 dL_acts_54 rfl (by omega) (by omega) (fun c54 => ?_) (fun c54 => ?_)
        · refine zz_aload_n hx dL_acts_65 rfl ?_
          refine zz_iload_n hx dL_acts_66 rfl ?_
          refine zz_iload_n hx dL_acts_67 rfl ?_
          have hkS : ¬ (isO s q → ((I 2 ≠ -1 ∧ (rAt 60 (T s 5) (I 2) ≠ -1 ∧ rAt 60 (T s 5) (I 2) ≠ I 2)) ∧ P s 4 ≠ 0)) → ZT l g ({ frames := 9, cells := 4, slots := 24, locals := 146 } : Room) 5 x 4 24 (wD g b c I Q P T N rest) 68 [(0, .ref (b 0)), (1, vi 5), (2, vi s), (3, vi q)] [] xS := by
            intro z9
            refine zz_catch hx ht9 [(0, 71, 72, 32)] [] 0 71 78 34 rfl (fun z9 hz9 => by rw [List.mem_singleton.mp hz9]; exact ⟨by decide, xI, lc_L_32, zNc_SI hnc⟩) (by decide) (by decide) lc_L_34 (List.mem_of_getElem? (i := 4) rfl) (fun q9 => ?_)
            refine zz_astore (lv' := [(0, _), (1, _), (2, _), (3, _), (4, _)]) hx dL_acts_78 (by decide) rfl ?_
            refine zz_sipush hx dL_acts_80 (by decide +kernel) ?_
            exact zz_iret hx hf dL_acts_83 ⟨-5002, rfl, Or.inl ⟨rfl, rfl, z9⟩⟩ (by decide) (by decide)
          have hkI : ¬ isO s q → ZT l g ({ frames := 9, cells := 4, slots := 24, locals := 146 } : Room) 5 x 4 24 (wD g b c I Q P T N rest) 68 [(0, .ref (b 0)), (1, vi 5), (2, vi s), (3, vi q)] [] xI := by
            intro z9
            refine zz_catch hx ht9 [] [(0, 71, 78, 34)] 0 71 72 32 rfl (fun z9 hz9 => absurd hz9 List.not_mem_nil) (by decide) (by decide) lc_L_32 (List.mem_of_getElem? (i := 5) rfl) (fun q9 => ?_)
            refine zz_astore (lv' := [(0, _), (1, _), (2, _), (3, _), (4, _)]) hx dL_acts_72 (by decide) rfl ?_
            refine zz_sipush hx dL_acts_74 (by decide +kernel) ?_
            exact zz_iret hx hf dL_acts_77 ⟨-5001, rfl, Or.inr (Or.inl ⟨rfl, rfl, z9⟩)⟩ (by decide) (by decide)
          refine zz_callVi hx me_X3_reconnect lk_L_29 (k_X3_reconnect hst hI hS s (by omega) q hq) 0 rfl rfl ⟨rfl, rfl⟩ (by decide) (by decide) rfl rfl (Nat.le_of_ble_eq_true rfl) dL_acts_68 (fun E9 w9 hX9 => by obtain ⟨rfl, hX9⟩ := hX9; exact hX9.elim (fun z9 => by rw [z9.1]; exact hkI (fun y9 => z9.2 ⟨hs, y9⟩)) (fun z9 => by rw [z9.1]; exact hkS (fun y9 => z9.2.2 (y9 z9.2.1.2)))) (fun r68 w68 hp68 => ?_)
          exact zz_iret hx hf dL_acts_71 ⟨_, rfl, Or.inr (Or.inr ⟨hp68.1.2, hp68.2⟩)⟩ (by decide) (by decide)
        · omega
      · omega
    · omega
  · omega
