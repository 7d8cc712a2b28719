/-! the law: finding -/
theorem nb_cur {I : Nat → Int} {Q : Nat → Int → Int} {P : Int → Nat → Int} {T : Int → Nat → Int → Int} {N : Nat} {ow : Int → Int → Int} {isO : Int → Int → Prop} {L : Int → List Int} (h : J I Q P T N ow isO L) {s z a nx : Int} (s0 : 0 ≤ s) (s1 : s < (N : Int)) (h8 : P s 8 ≠ -1) (hz : z = 0 ∨ z = 1) (ha : ixO (mOf (ow s) (cO Q P ow s) (L s)) (P s 8) a) (hn : (z = 0 ∧ nx = a + 1) ∨ (z = 1 ∧ a < 0 ∧ nx = ((mOf (ow s) (cO Q P ow s) (L s)).length : Int) - 1) ∨ (z = 1 ∧ 0 ≤ a ∧ nx = a - 1)) : ((0 ≤ nx ∧ nx < ((mOf (ow s) (cO Q P ow s) (L s)).length : Int)) → nbC (T s) z (P s 8) = zat (mOf (ow s) (cO Q P ow s) (L s)) nx) ∧ (¬ (0 ≤ nx ∧ nx < ((mOf (ow s) (cO Q P ow s) (L s)).length : Int)) → nbC (T s) z (P s 8) = -1) := by
  rcases J_cur h s0 s1 with ⟨c, -⟩ | ⟨c0, c1, c2, c3, c4, c | c⟩
  · exact absurd c h8
  · obtain ⟨-, e, hi, hnm⟩ := c
    have ham : a = -1 := ixO_no ha (fun y => hnm (mOf_mem.mp y).1)
    obtain ⟨n1, n2⟩ := nb_own h s0 s1 hi hz
    rw [e] at hn ⊢
    have hl : (0 : Int) ≤ ((mOf (ow s) (P s 8) (L s)).length : Int) := by omega
    constructor
    · intro hc
      rw [n2 (by omega)]
      congr 1
      rcases hz with rfl | rfl
      · rw [if_pos rfl]; omega
      · rw [if_neg (by decide)]; omega
    · intro hc
      exact n1 (by omega)
  · obtain ⟨-, e, hi, -⟩ := c
    rw [e] at ha hn ⊢
    obtain ⟨n0, n1, n2⟩ := nb_mem h s0 s1 hi hz ha
    have hx : (if z = 0 then a + 1 else a - 1) = nx := by
      rcases hz with rfl | rfl
      · rw [if_pos rfl]; omega
      · rw [if_neg (by decide)]; omega
    rw [hx] at n1 n2
    exact ⟨n1, n2⟩

set_option maxHeartbeats 4000000 in
set_option maxRecDepth 100000 in
theorem l_finds0 {l : Launch} {g : zG} {b : Nat → Nat} {c : Int → Nat → Nat} {I : Nat → Int} {Q : Nat → Int → Int} {P : Int → Nat → Int} {T : Int → Nat → Int → Int} {N : Nat} {ow : Int → Int → Int} {isO : Int → Int → Prop} {L : Int → List Int} {rest : va_W} (hst : l.stackTraces = false) {gA tA cA : Nat} {Gr U C : Int → Int} (hJ : J I Q P T N ow isO L) (hC : kC I N C) (hU : kU Q U) (hG : kG P N Gr) (hN0 : 0 < N) (xa ya : Int) (hx0 : 0 ≤ xa ∧ xa < 1073741824) (hy0 : 0 ≤ ya ∧ ya < 1073741824) : zM l g yL_finds cL_finds 16 (Option.some FieldType.boolean) ({ frames := 8, cells := 2, slots := 17, locals := 136 } : Room) [.ref (b 0), vi 0, vi xa, vi ya, .ref gA, .ref tA, .ref cA] (wD g b c I Q P T N (rA g gA 30 Gr :: rA g tA 60 U :: rA g cA 3 C :: rest)) (zI fun v w => v = 1 ∧ (jW g b c N gA tA cA Gr rest w)) zN 2 17 := by
  have hI := hJ.1
  have hS := hJ.2.1
  have hi0 := hI.2.2.2.2.2.2.1
  have hN6 := hI.2.1
  obtain ⟨hc0, hc1, hc2⟩ := id hC
  have hi2 := hI.2.2.1
  refine zM_of (lv0 := [(0, _), (1, _), (2, _), (3, _), (4, _), (5, _), (6, _)]) hst rfl (by decide +kernel) (Nat.le_of_ble_eq_true rfl) rfl (fun x hx hf hn => ?_)
  refine zz_bipush hx dL_finds_0 rfl ?_
  refine zz_newi (N := 11) hx (by decide) (by decide) dL_finds_2 (fun q2 => ?_)
  refine zz_perm (pN3 _) ?_
  refine zz_astore (lv' := [(0, _), (1, _), (2, _), (3, _), (4, _), (5, _), (6, _), (7, _)]) hx dL_finds_4 (by decide) rfl ?_
  refine zz_aload_n hx dL_finds_6 rfl ?_
  refine zz_aload hx dL_finds_7 rfl ?_
  refine zz_aload hx dL_finds_9 rfl ?_
  refine zz_callSv hx ms_L_notes lk_L_77 (l_notes hst hJ hC) ⟨rfl, rfl⟩ (by decide) (by decide) rfl rfl (Nat.le_of_ble_eq_true rfl) dL_finds_11 (fun _ _ h => h.elim) (fun w11 hp11 => ?_)
  obtain ⟨W1, hW1, rfl⟩ := hp11
  have hw0 := hW1.1
  refine zz_iconst hx dL_finds_14 ?_
  refine zz_istore (lv' := [(0, _), (1, _), (2, _), (3, _), (4, _), (5, _), (6, _), (7, _), (8, _)]) hx dL_finds_15 (by decide) rfl ?_
  refine zz_iconst hx dL_finds_17 ?_
  refine zz_istore (lv' := [(0, _), (1, _), (2, _), (3, _), (4, _), (5, _), (6, _), (7, _), (8, _), (9, _)]) hx dL_finds_18 (by decide) rfl ?_
  refine zz_aload hx dL_finds_20 rfl ?_
  refine zz_iconst hx dL_finds_22 ?_
  refine zr_ld hx 2 rfl (by decide) (by omega) (by omega) dL_finds_23 ?_
  refine zz_if_ne hx 31 dL_finds_24 rfl (by omega) (fun c24 => ?_) (fun c24 => ?_)
  · refine zz_iload_n hx dL_finds_31 rfl ?_
    refine zz_aload hx dL_finds_32 rfl ?_
    refine zz_iconst hx dL_finds_34 ?_
    refine zr_ld hx 2 rfl (by decide) (by omega) (by omega) dL_finds_35 ?_
    rw [hc0]
    refine zz_irem hx dL_finds_36 (by omega) (by omega) (by omega) (by omega) ?_
    have hs : 0 ≤ xa % (N : Int) ∧ xa % (N : Int) < (N : Int) := ⟨Int.emod_nonneg xa (by omega), Int.emod_lt_of_pos xa (by omega)⟩
    generalize hse : xa % (N : Int) = s at *
    refine zz_istore (lv' := [(0, _), (1, _), (2, _), (3, _), (4, _), (5, _), (6, _), (7, _), (8, _), (9, _), (10, _)]) hx dL_finds_37 (by decide) rfl ?_
    refine zz_iload_n hx dL_finds_39 rfl ?_
    refine zz_if_eq hx 48 dL_finds_40 rfl (by decide) (fun _ => ?_) (fun z => absurd rfl z)
    refine zz_iload_n hx dL_finds_48 rfl ?_
    refine zz_bipush hx dL_finds_49 rfl ?_
    refine zz_irem hx dL_finds_51 (by omega) (by omega) (by omega) (by omega) ?_
    refine zz_iconst hx dL_finds_52 ?_
    refine zz_isub hx dL_finds_53 ?_
    refine zz_istore (lv' := [(0, _), (1, _), (2, _), (3, _), (4, _), (5, _), (6, _), (7, _), (8, _), (9, _), (10, _), (11, _)]) hx dL_finds_54 (by decide) rfl ?_
    have hra : (0 ≤ (ya % 62 - 1) ∧ (ya % 62 - 1) < 60 ∧ rAt 60 (Q 0) (ya % 62 - 1) = Q 0 (ya % 62 - 1)) ∨ (¬ (0 ≤ (ya % 62 - 1) ∧ (ya % 62 - 1) < 60) ∧ rAt 60 (Q 0) (ya % 62 - 1) = -1) := by
      by_cases z9 : 0 ≤ (ya % 62 - 1) ∧ (ya % 62 - 1) < 60
      · exact Or.inl ⟨z9.1, z9.2, rAt_in z9.1 (by omega)⟩
      · exact Or.inr ⟨z9, rAt_no (by omega)⟩
    have hnw : I 0 ≤ (ya % 62 - 1) → (ya % 62 - 1) < 60 → Q 0 (ya % 62 - 1) = -1 := fun y1 y2 => hJ.2.2.2.2.2.2.2.1 (ya % 62 - 1) y1 y2
    have j84 : ∀ d : Int, ((rAt 60 (Q 0) (ya % 62 - 1) = -1 ∧ d = -1) ∨ (rAt 60 (Q 0) (ya % 62 - 1) ≠ -1 ∧ d = (ya % 62 - 1))) → Z l g ({ frames := 8, cells := 2, slots := 17, locals := 136 } : Room) 16 x 1 11 (wD g b c I Q P T N (rA g gA 30 Gr :: rA g tA 60 U :: rA g cA 3 C :: rA g q2 11 W1 :: rest)) 84 [(0, .ref (b 0)), (1, vi 0), (2, vi xa), (3, vi ya), (4, .ref gA), (5, .ref tA), (6, .ref cA), (7, .ref q2), (8, vi (-1)), (9, vi (-1)), (10, vi s), (11, vi (ya % 62 - 1))] [vi d] := by
      intro d hd9
      refine zz_istore (lv' := [(0, _), (1, _), (2, _), (3, _), (4, _), (5, _), (6, _), (7, _), (8, _), (9, _), (10, _), (11, _)]) hx dL_finds_84 (by decide) rfl ?_
      refine zz_aload_n hx dL_finds_86 rfl ?_
      refine zz_iload hx dL_finds_87 rfl ?_
      refine zz_callVi hx me_X3_find lk_L_81 (k_X3_find hst hI hS (ya % 62 - 1) (by omega)) 0 rfl rfl ⟨rfl, rfl⟩ (by decide) (by decide) rfl rfl (Nat.le_of_ble_eq_true rfl) dL_finds_89 (fun _ _ h => h.elim) (fun r89 w89 hp89 => ?_)
      have hp9 := hp89
      obtain ⟨I1, Q1, P1, rfl, hJ1, hC1, hv1, e0, e1, e2, e3, e4, hv9⟩ := mkO_J hJ hW1 hp9
      have hvr : -1 ≤ r89 ∧ r89 < 60 := by omega
      refine zz_istore (lv' := [(0, _), (1, _), (2, _), (3, _), (4, _), (5, _), (6, _), (7, _), (8, _), (9, _), (10, _), (11, _)]) hx dL_finds_92 (by decide) rfl ?_
      refine zz_goto hx 525 dL_finds_94 rfl ?_
      refine zz_iload hx dL_finds_525 rfl ?_
      refine zz_iload hx dL_finds_527 rfl ?_
      refine zz_icmp_ne hx 553 dL_finds_529 rfl (by omega) (by omega) (fun c529 => ?_) (fun c529 => ?_)
      · omega
      · refine zz_aload_n hx dL_finds_532 rfl ?_
        refine zz_aload hx dL_finds_533 rfl ?_
        refine zz_aload hx dL_finds_535 rfl ?_
        refine zz_aload hx dL_finds_537 rfl ?_
        refine zz_iload hx dL_finds_539 rfl ?_
        refine zz_aload hx dL_finds_541 rfl ?_
        refine zz_callSi hx ms_L_isCurrent lk_L_108 (l_isCurrent hst hJ1 (kC_of hC e2 e3) (kU_of hU e0 e1) (kG_P hG (fun s _ _ k hk => e4 s k hk)) r89 hv1 hC1 (nW_rng hJ hW1)) ⟨rfl, rfl⟩ (by decide) (by decide) rfl rfl (Nat.le_of_ble_eq_true rfl) dL_finds_543 (fun _ _ h => h.elim) (fun r543 w543 hp543 => ?_)
        obtain ⟨rfl, rfl⟩ := hp543
        refine zz_if_eq hx 553 dL_finds_546 rfl (by decide) (fun z => absurd z (by decide)) (fun _ => ?_)
        refine zz_iconst hx dL_finds_549 ?_
        refine zz_goto hx 554 dL_finds_550 rfl ?_
        refine zz_less pL1 ?_
        exact zz_zret hx hf dL_finds_554 (Or.inr rfl) ⟨_, rfl, rfl, I1, Q1, P1, T, ow, isO, L, U, C, rfl, hJ1, kC_of hC e2 e3, kU_of hU e0 e1, kG_P hG (fun s _ _ k hk => e4 s k hk)⟩ (by decide) (by decide)
    refine zz_iload hx dL_finds_56 rfl ?_
    refine zz_if_lt hx 83 dL_finds_58 rfl (by omega) (fun c58 => ?_) (fun c58 => ?_)
    · refine zz_iconst hx dL_finds_83 ?_
      exact j84 _ (by omega)
    · refine zz_iload hx dL_finds_61 rfl ?_
      refine zz_aload hx dL_finds_63 rfl ?_
      refine zz_iconst hx dL_finds_65 ?_
      refine zr_ld hx 2 rfl (by decide) (by omega) (by omega) dL_finds_66 ?_
      refine zz_icmp_ge hx 83 dL_finds_67 rfl (by omega) (by omega) (fun c67 => ?_) (fun c67 => ?_)
      · refine zz_iconst hx dL_finds_83 ?_
        exact j84 _ (by omega)
      · have hu9 := kU_at hU hI (k := (ya % 62 - 1)) (by omega) (by omega)
        refine zz_aload hx dL_finds_70 rfl ?_
        refine zz_iload hx dL_finds_72 rfl ?_
        refine zr_ld hx 1 rfl (by decide) (by omega) (by omega) dL_finds_74 ?_
        refine zz_if_eq hx 83 dL_finds_75 rfl (by omega) (fun c75 => ?_) (fun c75 => ?_)
        · refine zz_iconst hx dL_finds_83 ?_
          exact j84 _ (by omega)
        · refine zz_iload hx dL_finds_78 rfl ?_
          refine zz_goto hx 84 dL_finds_80 rfl ?_
          exact j84 _ (by omega)
  · omega

set_option maxHeartbeats 4000000 in
set_option maxRecDepth 100000 in
theorem l_finds1 {l : Launch} {g : zG} {b : Nat → Nat} {c : Int → Nat → Nat} {I : Nat → Int} {Q : Nat → Int → Int} {P : Int → Nat → Int} {T : Int → Nat → Int → Int} {N : Nat} {ow : Int → Int → Int} {isO : Int → Int → Prop} {L : Int → List Int} {rest : va_W} (hst : l.stackTraces = false) {gA tA cA : Nat} {Gr U C : Int → Int} (hJ : J I Q P T N ow isO L) (hC : kC I N C) (hU : kU Q U) (hG : kG P N Gr) (hN0 : 0 < N) (xa ya : Int) (hx0 : 0 ≤ xa ∧ xa < 1073741824) (hy0 : 0 ≤ ya ∧ ya < 1073741824) : zM l g yL_finds cL_finds 16 (Option.some FieldType.boolean) ({ frames := 8, cells := 2, slots := 17, locals := 136 } : Room) [.ref (b 0), vi 1, vi xa, vi ya, .ref gA, .ref tA, .ref cA] (wD g b c I Q P T N (rA g gA 30 Gr :: rA g tA 60 U :: rA g cA 3 C :: rest)) (zI fun v w => v = 1 ∧ (jW g b c N gA tA cA Gr rest w)) zN 2 17 := by
  have hI := hJ.1
  have hS := hJ.2.1
  have hi0 := hI.2.2.2.2.2.2.1
  have hN6 := hI.2.1
  obtain ⟨hc0, hc1, hc2⟩ := id hC
  have hi2 := hI.2.2.1
  refine zM_of (lv0 := [(0, _), (1, _), (2, _), (3, _), (4, _), (5, _), (6, _)]) hst rfl (by decide +kernel) (Nat.le_of_ble_eq_true rfl) rfl (fun x hx hf hn => ?_)
  refine zz_bipush hx dL_finds_0 rfl ?_
  refine zz_newi (N := 11) hx (by decide) (by decide) dL_finds_2 (fun q2 => ?_)
  refine zz_perm (pN3 _) ?_
  refine zz_astore (lv' := [(0, _), (1, _), (2, _), (3, _), (4, _), (5, _), (6, _), (7, _)]) hx dL_finds_4 (by decide) rfl ?_
  refine zz_aload_n hx dL_finds_6 rfl ?_
  refine zz_aload hx dL_finds_7 rfl ?_
  refine zz_aload hx dL_finds_9 rfl ?_
  refine zz_callSv hx ms_L_notes lk_L_77 (l_notes hst hJ hC) ⟨rfl, rfl⟩ (by decide) (by decide) rfl rfl (Nat.le_of_ble_eq_true rfl) dL_finds_11 (fun _ _ h => h.elim) (fun w11 hp11 => ?_)
  obtain ⟨W1, hW1, rfl⟩ := hp11
  have hw0 := hW1.1
  refine zz_iconst hx dL_finds_14 ?_
  refine zz_istore (lv' := [(0, _), (1, _), (2, _), (3, _), (4, _), (5, _), (6, _), (7, _), (8, _)]) hx dL_finds_15 (by decide) rfl ?_
  refine zz_iconst hx dL_finds_17 ?_
  refine zz_istore (lv' := [(0, _), (1, _), (2, _), (3, _), (4, _), (5, _), (6, _), (7, _), (8, _), (9, _)]) hx dL_finds_18 (by decide) rfl ?_
  refine zz_aload hx dL_finds_20 rfl ?_
  refine zz_iconst hx dL_finds_22 ?_
  refine zr_ld hx 2 rfl (by decide) (by omega) (by omega) dL_finds_23 ?_
  refine zz_if_ne hx 31 dL_finds_24 rfl (by omega) (fun c24 => ?_) (fun c24 => ?_)
  · refine zz_iload_n hx dL_finds_31 rfl ?_
    refine zz_aload hx dL_finds_32 rfl ?_
    refine zz_iconst hx dL_finds_34 ?_
    refine zr_ld hx 2 rfl (by decide) (by omega) (by omega) dL_finds_35 ?_
    rw [hc0]
    refine zz_irem hx dL_finds_36 (by omega) (by omega) (by omega) (by omega) ?_
    have hs : 0 ≤ xa % (N : Int) ∧ xa % (N : Int) < (N : Int) := ⟨Int.emod_nonneg xa (by omega), Int.emod_lt_of_pos xa (by omega)⟩
    generalize hse : xa % (N : Int) = s at *
    refine zz_istore (lv' := [(0, _), (1, _), (2, _), (3, _), (4, _), (5, _), (6, _), (7, _), (8, _), (9, _), (10, _)]) hx dL_finds_37 (by decide) rfl ?_
    refine zz_iload_n hx dL_finds_39 rfl ?_
    refine zz_if_eq hx 48 dL_finds_40 rfl (by decide) (fun z => absurd z (by decide)) (fun _ => ?_)
    refine zz_iload hx dL_finds_43 rfl ?_
    refine zz_if_ge hx 97 dL_finds_45 rfl (by omega) (fun c45 => ?_) (fun c45 => ?_)
    · refine zz_iload_n hx dL_finds_97 rfl ?_
      refine zz_iconst hx dL_finds_98 ?_
      refine zz_icmp_ne hx 191 dL_finds_99 rfl (by omega) (by omega) (fun c99 => ?_) (fun c99 => ?_)
      · omega
      · have ht4 : 0 ≤ xa % 4 ∧ xa % 4 < 4 := by omega
        have hq2 := hI.2.2.2.2.2.1 (xa % 4) ht4.1 ht4.2
        have hwt := hW1.2.1 (xa % 4) ht4.1 ht4.2
        have hq8 : Q 2 (xa % 4) < I 0 := by
          by_cases z9 : Q 2 (xa % 4) = -1
          · omega
          · exact J_new hJ (by omega) hq2.2 (by rw [hJ.2.2.2.2.2.1 (xa % 4) ht4.1 ht4.2 z9]; omega)
        have j183 : ∀ d fm k z : Int, ((d = -1 ∧ ∀ j : Int, fm < j → j < I 0 → Q 0 j ≠ (xa % 4)) ∨ ((fm < d ∧ d < I 0) ∧ Q 0 d = (xa % 4) ∧ ∀ j : Int, fm < j → j < d → Q 0 j ≠ (xa % 4))) → (((ya % 2 = 0 ∧ fm = -1) ∧ z = 1) ∨ ((ya % 2 ≠ 0 ∧ fm = Q 2 (xa % 4)) ∧ z = 0)) → Z l g ({ frames := 8, cells := 2, slots := 17, locals := 136 } : Room) 16 x 1 11 (wD g b c I Q P T N (rA g gA 30 Gr :: rA g tA 60 U :: rA g cA 3 C :: rA g q2 11 W1 :: rest)) 183 [(0, .ref (b 0)), (1, vi 1), (2, vi xa), (3, vi ya), (4, .ref gA), (5, .ref tA), (6, .ref cA), (7, .ref q2), (8, vi (-1)), (9, vi d), (10, vi s), (11, vi fm), (12, vi k)] [vi z, vi (xa % 4), .ref (b 0)] := by
          intro d fm k z hd9 hz9
          refine zz_callVi hx me_X3_findOf lk_L_84 (k_X3_findOf hst hI hS (xa % 4) (by omega) z (by omega)) 0 rfl rfl ⟨rfl, rfl⟩ (by decide) (by decide) rfl rfl (Nat.le_of_ble_eq_true rfl) dL_finds_183 (fun E9 w9 hX9 => absurd (show 0 ≤ xa % 4 ∧ xa % 4 ≤ 3 by omega) hX9.2.2) (fun r183 w183 hp183 => ?_)
          obtain ⟨-, hp8⟩ := hp183
          have hst9 : (if z ≠ 0 then 0 else Q 2 (xa % 4) + 1) = fm + 1 := by
            by_cases c9 : z ≠ 0
            · rw [if_pos c9]; omega
            · rw [if_neg c9]; omega
          rw [hst9] at hp8
          have hp9 : mkO g b c I Q P T N (rA g gA 30 Gr :: rA g tA 60 U :: rA g cA 3 C :: rA g q2 11 W1 :: rest) r183 r183 w183 := by
            rcases hp8 with ⟨y1, y2, -⟩ | ⟨-, -, -, y1⟩
            · exact Or.inl ⟨by rw [y1]; exact rAt_no (by omega), y1, y2⟩
            · exact y1
          have hvd : r183 = d := by
            rcases hp8 with ⟨y1, -, y2⟩ | ⟨y1, y2, y3, -⟩
            · rcases hd9 with ⟨x1, -⟩ | ⟨x1, x2, -⟩
              · omega
              · exact absurd x2 (y2 d (by omega) x1.2)
            · rcases hd9 with ⟨-, x2⟩ | ⟨x1, x2, x3⟩
              · exact absurd y2 (x2 r183 (by omega) y1.2)
              · rcases Int.lt_trichotomy r183 d with z1 | z1 | z1
                · exact absurd y2 (x3 r183 (by omega) z1)
                · exact z1
                · exact absurd x2 (y3 d (by omega) z1)
          have hdr : -1 ≤ d ∧ d < 60 := by
            clear hp8 hp9
            rcases hd9 with ⟨x1, -⟩ | ⟨x1, -⟩ <;> omega
          clear hp8 hd9
          obtain ⟨I1, Q1, P1, rfl, hJ1, hC1, hv1, e0, e1, e2, e3, e4, hv9⟩ := mkO_J hJ hW1 hp9
          refine zz_istore (lv' := [(0, _), (1, _), (2, _), (3, _), (4, _), (5, _), (6, _), (7, _), (8, _), (9, _), (10, _), (11, _), (12, _)]) hx dL_finds_186 (by decide) rfl ?_
          refine zz_goto hx 525 dL_finds_188 rfl ?_
          refine zz_iload hx dL_finds_525 rfl ?_
          refine zz_iload hx dL_finds_527 rfl ?_
          refine zz_icmp_ne hx 553 dL_finds_529 rfl (by omega) (by omega) (fun c529 => ?_) (fun c529 => ?_)
          · omega
          · refine zz_aload_n hx dL_finds_532 rfl ?_
            refine zz_aload hx dL_finds_533 rfl ?_
            refine zz_aload hx dL_finds_535 rfl ?_
            refine zz_aload hx dL_finds_537 rfl ?_
            refine zz_iload hx dL_finds_539 rfl ?_
            refine zz_aload hx dL_finds_541 rfl ?_
            refine zz_callSi hx ms_L_isCurrent lk_L_108 (l_isCurrent hst hJ1 (kC_of hC e2 e3) (kU_of hU e0 e1) (kG_P hG (fun s _ _ k hk => e4 s k hk)) r183 hv1 hC1 (nW_rng hJ hW1)) ⟨rfl, rfl⟩ (by decide) (by decide) rfl rfl (Nat.le_of_ble_eq_true rfl) dL_finds_543 (fun _ _ h => h.elim) (fun r543 w543 hp543 => ?_)
            obtain ⟨rfl, rfl⟩ := hp543
            refine zz_if_eq hx 553 dL_finds_546 rfl (by decide) (fun z => absurd z (by decide)) (fun _ => ?_)
            refine zz_iconst hx dL_finds_549 ?_
            refine zz_goto hx 554 dL_finds_550 rfl ?_
            refine zz_less pL1 ?_
            exact zz_zret hx hf dL_finds_554 (Or.inr rfl) ⟨_, rfl, rfl, I1, Q1, P1, T, ow, isO, L, U, C, rfl, hJ1, kC_of hC e2 e3, kU_of hU e0 e1, kG_P hG (fun s _ _ k hk => e4 s k hk)⟩ (by decide) (by decide)
        have j168 : ∀ d fm k : Int, ((ya % 2 = 0 ∧ fm = -1) ∨ (ya % 2 ≠ 0 ∧ fm = Q 2 (xa % 4))) → ((d = -1 ∧ ∀ j : Int, fm < j → j < I 0 → Q 0 j ≠ (xa % 4)) ∨ ((fm < d ∧ d < I 0) ∧ Q 0 d = (xa % 4) ∧ ∀ j : Int, fm < j → j < d → Q 0 j ≠ (xa % 4))) → Z l g ({ frames := 8, cells := 2, slots := 17, locals := 136 } : Room) 16 x 1 11 (wD g b c I Q P T N (rA g gA 30 Gr :: rA g tA 60 U :: rA g cA 3 C :: rA g q2 11 W1 :: rest)) 168 [(0, .ref (b 0)), (1, vi 1), (2, vi xa), (3, vi ya), (4, .ref gA), (5, .ref tA), (6, .ref cA), (7, .ref q2), (8, vi (-1)), (9, vi d), (10, vi s), (11, vi fm), (12, vi k)] [] := by
          intro d fm k h1 hd9
          refine zz_aload_n hx dL_finds_168 rfl ?_
          refine zz_iload_n hx dL_finds_169 rfl ?_
          refine zz_iconst hx dL_finds_170 ?_
          refine zz_irem hx dL_finds_171 (by omega) (by omega) (by omega) (by omega) ?_
          refine zz_iload_n hx dL_finds_172 rfl ?_
          refine zz_iconst hx dL_finds_173 ?_
          refine zz_irem hx dL_finds_174 (by omega) (by omega) (by omega) (by omega) ?_
          refine zz_if_ne hx 182 dL_finds_175 rfl (by omega) (fun c175 => ?_) (fun c175 => ?_)
          · refine zz_iconst hx dL_finds_182 ?_
            exact j183 d fm k _ hd9 (by clear hd9; omega)
          · refine zz_iconst hx dL_finds_178 ?_
            refine zz_goto hx 183 dL_finds_179 rfl ?_
            exact j183 d fm k _ hd9 (by clear hd9; omega)
        have loop : ∀ (n : Nat) (fm k d : Int), ((ya % 2 = 0 ∧ fm = -1) ∨ (ya % 2 ≠ 0 ∧ fm = Q 2 (xa % 4))) → fm ≤ k → k < I 0 → -1 ≤ d ∧ d < 60 → ((d = -1 ∧ ∀ j : Int, k < j → j < I 0 → Q 0 j ≠ (xa % 4)) ∨ ((k < d ∧ d < I 0) ∧ Q 0 d = (xa % 4) ∧ ∀ j : Int, k < j → j < d → Q 0 j ≠ (xa % 4))) → (k + 1).toNat < n → Z l g ({ frames := 8, cells := 2, slots := 17, locals := 136 } : Room) 16 x 1 11 (wD g b c I Q P T N (rA g gA 30 Gr :: rA g tA 60 U :: rA g cA 3 C :: rA g q2 11 W1 :: rest)) 130 [(0, .ref (b 0)), (1, vi 1), (2, vi xa), (3, vi ya), (4, .ref gA), (5, .ref tA), (6, .ref cA), (7, .ref q2), (8, vi (-1)), (9, vi d), (10, vi s), (11, vi fm), (12, vi k)] [] := by
          intro n
          induction n with
          | zero => intro fm k d h1 h2 h3 h5 h6 hm9; omega
          | succ n ih =>
            intro fm k d h1 h2 h3 h5 h6 hm9
            refine zz_iload hx dL_finds_130 rfl ?_
            refine zz_iload hx dL_finds_132 rfl ?_
            refine zz_icmp_le hx 168 dL_finds_134 rfl (by omega) (by omega) (fun c134 => ?_) (fun c134 => ?_)
            · have hd9 : ((d = -1 ∧ ∀ j : Int, fm < j → j < I 0 → Q 0 j ≠ (xa % 4)) ∨ ((fm < d ∧ d < I 0) ∧ Q 0 d = (xa % 4) ∧ ∀ j : Int, fm < j → j < d → Q 0 j ≠ (xa % 4))) := by
                rcases h6 with ⟨y1, y2⟩ | ⟨y1, y2, y3⟩
                · exact Or.inl ⟨y1, fun j j0 j1 => y2 j (by omega) j1⟩
                · exact Or.inr ⟨⟨by omega, y1.2⟩, y2, fun j j0 j1 => y3 j (by omega) j1⟩
              obtain ⟨k9, hk9⟩ : ∃ k9 : Int, k = k9 := ⟨k, rfl⟩
              exact j168 d fm k h1 hd9
            · have hu9 := kU_at hU hI (k := k) (by omega) (by omega)
              refine zz_aload hx dL_finds_137 rfl ?_
              refine zz_iload hx dL_finds_139 rfl ?_
              refine zr_ld hx 1 rfl (by decide) (by omega) (by omega) dL_finds_141 ?_
              refine zz_bipush hx dL_finds_142 rfl ?_
              refine zz_and7 hx dL_finds_144 (by omega) (by omega) ?_
              refine zz_iconst hx dL_finds_145 ?_
              refine zz_isub hx dL_finds_146 ?_
              refine zz_iload_n hx dL_finds_147 rfl ?_
              refine zz_iconst hx dL_finds_148 ?_
              refine zz_irem hx dL_finds_149 (by omega) (by omega) (by omega) (by omega) ?_
              refine zz_icmp_ne hx 158 dL_finds_150 rfl (by omega) (by omega) (fun c150 => ?_) (fun c150 => ?_)
              · refine zz_iload hx dL_finds_158 rfl ?_
                refine zz_istore (lv' := [(0, _), (1, _), (2, _), (3, _), (4, _), (5, _), (6, _), (7, _), (8, _), (9, _), (10, _), (11, _), (12, _)]) hx dL_finds_160 (by decide) rfl ?_
                refine zz_iinc (lv' := [(0, _), (1, _), (2, _), (3, _), (4, _), (5, _), (6, _), (7, _), (8, _), (9, _), (10, _), (11, _), (12, _)]) hx dL_finds_162 (by decide) rfl rfl ?_
                refine zz_goto hx 130 dL_finds_165 rfl ?_
                refine ih fm (k + -1) _ h1 (by omega) (by omega) (by first | omega | exact h5) ?_ (by omega)
                first
                  | exact Or.inr ⟨by omega, by omega, fun j j0 j1 => by omega⟩
                  | rcases h6 with ⟨y1, y2⟩ | ⟨y1, y2, y3⟩
                    · exact Or.inl ⟨y1, fun j j0 j1 => by
                        by_cases e9 : j = k
                        · rw [e9]; omega
                        · exact y2 j (by omega) j1⟩
                    · exact Or.inr ⟨⟨by omega, y1.2⟩, y2, fun j j0 j1 => by
                        by_cases e9 : j = k
                        · rw [e9]; omega
                        · exact y3 j (by omega) j1⟩
              · refine zz_iload hx dL_finds_153 rfl ?_
                refine zz_goto hx 160 dL_finds_155 rfl ?_
                refine zz_istore (lv' := [(0, _), (1, _), (2, _), (3, _), (4, _), (5, _), (6, _), (7, _), (8, _), (9, _), (10, _), (11, _), (12, _)]) hx dL_finds_160 (by decide) rfl ?_
                refine zz_iinc (lv' := [(0, _), (1, _), (2, _), (3, _), (4, _), (5, _), (6, _), (7, _), (8, _), (9, _), (10, _), (11, _), (12, _)]) hx dL_finds_162 (by decide) rfl rfl ?_
                refine zz_goto hx 130 dL_finds_165 rfl ?_
                refine ih fm (k + -1) _ h1 (by omega) (by omega) (by first | omega | exact h5) ?_ (by omega)
                first
                  | exact Or.inr ⟨by omega, by omega, fun j j0 j1 => by omega⟩
                  | rcases h6 with ⟨y1, y2⟩ | ⟨y1, y2, y3⟩
                    · exact Or.inl ⟨y1, fun j j0 j1 => by
                        by_cases e9 : j = k
                        · rw [e9]; omega
                        · exact y2 j (by omega) j1⟩
                    · exact Or.inr ⟨⟨by omega, y1.2⟩, y2, fun j j0 j1 => by
                        by_cases e9 : j = k
                        · rw [e9]; omega
                        · exact y3 j (by omega) j1⟩
        have j120 : ∀ fm : Int, ((ya % 2 = 0 ∧ fm = -1) ∨ (ya % 2 ≠ 0 ∧ fm = Q 2 (xa % 4))) → Z l g ({ frames := 8, cells := 2, slots := 17, locals := 136 } : Room) 16 x 1 11 (wD g b c I Q P T N (rA g gA 30 Gr :: rA g tA 60 U :: rA g cA 3 C :: rA g q2 11 W1 :: rest)) 120 [(0, .ref (b 0)), (1, vi 1), (2, vi xa), (3, vi ya), (4, .ref gA), (5, .ref tA), (6, .ref cA), (7, .ref q2), (8, vi (-1)), (9, vi (-1)), (10, vi s)] [vi fm] := by
          intro fm h1
          refine zz_istore (lv' := [(0, _), (1, _), (2, _), (3, _), (4, _), (5, _), (6, _), (7, _), (8, _), (9, _), (10, _), (11, _)]) hx dL_finds_120 (by decide) rfl ?_
          refine zz_aload hx dL_finds_122 rfl ?_
          refine zz_iconst hx dL_finds_124 ?_
          refine zr_ld hx 2 rfl (by decide) (by omega) (by omega) dL_finds_125 ?_
          rw [hc1]
          refine zz_iconst hx dL_finds_126 ?_
          refine zz_isub hx dL_finds_127 ?_
          refine zz_istore (lv' := [(0, _), (1, _), (2, _), (3, _), (4, _), (5, _), (6, _), (7, _), (8, _), (9, _), (10, _), (11, _), (12, _)]) hx dL_finds_128 (by decide) rfl ?_
          exact loop ((I 0).toNat + 2) fm (I 0 - 1) (-1) h1 (by omega) (by omega) (by omega) (Or.inl ⟨rfl, fun j j0 j1 => by omega⟩) (by omega)
        refine zz_iload_n hx dL_finds_102 rfl ?_
        refine zz_iconst hx dL_finds_103 ?_
        refine zz_irem hx dL_finds_104 (by omega) (by omega) (by omega) (by omega) ?_
        refine zz_if_ne hx 112 dL_finds_105 rfl (by omega) (fun c105 => ?_) (fun c105 => ?_)
        · refine zz_aload hx dL_finds_112 rfl ?_
          refine zz_iconst hx dL_finds_114 ?_
          refine zz_iload_n hx dL_finds_115 rfl ?_
          refine zz_iconst hx dL_finds_116 ?_
          refine zz_irem hx dL_finds_117 (by omega) (by omega) (by omega) (by omega) ?_
          refine zz_iadd hx dL_finds_118 ?_
          refine zr_ld hx 3 rfl (by decide) (by omega) (by omega) dL_finds_119 ?_
          rw [hwt]
          exact j120 _ (by omega)
        · refine zz_iconst hx dL_finds_108 ?_
          refine zz_goto hx 120 dL_finds_109 rfl ?_
          exact j120 _ (by omega)
    · omega
  · omega
