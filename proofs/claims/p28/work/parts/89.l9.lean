/-! the law: connecting, disconnecting, reconnecting -/
theorem J_conB {I : Nat → Int} {Q : Nat → Int → Int} {P : Int → Nat → Int} {T : Int → Nat → Int → Int} {N : Nat} {ow : Int → Int → Int} {isO : Int → Int → Prop} {L : Int → List Int} (h : J I Q P T N ow isO L) {s : Int} (s0 : 0 ≤ s) (s1 : s < (N : Int)) : (I 2 ≠ -1 ∧ Q 0 (I 2) = P s 1 ∧ ¬ (T s 5 (I 2) ≠ -1 ∧ T s 5 (I 2) ≠ I 2) ∧ rAt 60 (T s 5) (P s 8) ≠ -1) ↔ (0 ≤ I 2 ∧ Q 0 (I 2) = P s 1 ∧ ow s (I 2) = -1 ∧ P s 8 ≠ -1) := by
  rw [J_ring h s0 s1]
  have hc : cO Q P ow s ≠ -1 ↔ P s 8 ≠ -1 := by
    rcases J_cur h s0 s1 with ⟨c, e⟩ | ⟨c0, -, -, -, c4, -⟩
    · rw [c, e]
    · exact ⟨fun _ => by omega, fun _ => by omega⟩
  rw [hc]
  by_cases hm : I 2 = -1
  · exact ⟨fun z => absurd hm z.1, fun z => by omega⟩
  · obtain ⟨a0, a1, a2, -⟩ := J_i2 h hm
    have hro := ring_ow (h.2.1 s s0 s1).2.1 a0 a2
    constructor
    · rintro ⟨-, z2, z3, z4⟩
      exact ⟨a0, z2, hro.2 z3, z4⟩
    · rintro ⟨-, z2, z3, z4⟩
      exact ⟨hm, z2, fun z5 => z5.1 ((hro.1 z5).trans z3), z4⟩
theorem upP_if {P : Int → Nat → Int} {s x c : Int} (t : Int) {k : Nat} (hk : k ≠ 8) : upI P s (if x = c then Fup (P s) 8 (-1) else P s) t k = P t k := by
  by_cases e : t = s
  · rw [e, upI_s]
    split
    · exact Fup_n _ _ hk
    · rfl
  · rw [upI_n _ _ e]

set_option maxHeartbeats 4000000 in
set_option maxRecDepth 100000 in
theorem l_ties3 {l : Launch} {g : zG} {b : Nat → Nat} {c : Int → Nat → Nat} {I : Nat → Int} {Q : Nat → Int → Int} {P : Int → Nat → Int} {T : Int → Nat → Int → Int} {N : Nat} {ow : Int → Int → Int} {isO : Int → Int → Prop} {L : Int → List Int} {rest : va_W} (hst : l.stackTraces = false) {gA tA cA : Nat} {Gr U C : Int → Int} (hJ : J I Q P T N ow isO L) (hC : kC I N C) (hU : kU Q U) (hG : kG P N Gr) (hN0 : 0 < N) (xa ya : Int) (hx0 : 0 ≤ xa ∧ xa < 1073741824) (hy0 : 0 ≤ ya ∧ ya < 1073741824) : zMn l g yL_ties cL_ties 22 (Option.some FieldType.boolean) ({ frames := 10, cells := 4, slots := 24, locals := 198 } : Room) [.ref (b 0), vi 3, vi xa, vi ya, .ref gA, .ref tA, .ref cA] (wD g b c I Q P T N (rA g gA 30 Gr :: rA g tA 60 U :: rA g cA 3 C :: rest)) (zI fun v w => v = 1 ∧ (jW g b c N gA tA cA Gr rest w)) 4 24 := by
  have hI := hJ.1
  have hS := hJ.2.1
  have hi0 := hI.2.2.2.2.2.2.1
  have hN6 := hI.2.1
  obtain ⟨hc0, hc1, hc2⟩ := id hC
  have hi2 := hI.2.2.1
  refine zMn_of (lv0 := [(0, _), (1, _), (2, _), (3, _), (4, _), (5, _), (6, _)]) hst rfl (by decide +kernel) (Nat.le_of_ble_eq_true rfl) rfl (fun x hx hf hnc => ?_)
  refine zz_iload_n hx dL_ties_0 rfl ?_
  refine zz_aload hx dL_ties_1 rfl ?_
  refine zz_iconst hx dL_ties_3 ?_
  refine zr_ld hx 2 rfl (by decide) (by omega) (by omega) dL_ties_4 ?_
  rw [hc0]
  refine zz_irem hx dL_ties_5 (by omega) (by omega) (by omega) (by omega) ?_
  have hs : 0 ≤ xa % (N : Int) ∧ xa % (N : Int) < (N : Int) := ⟨Int.emod_nonneg xa (by omega), Int.emod_lt_of_pos xa (by omega)⟩
  generalize hse : xa % (N : Int) = s at *
  refine zz_istore (lv' := [(0, _), (1, _), (2, _), (3, _), (4, _), (5, _), (6, _), (7, _)]) hx dL_ties_6 (by decide) rfl ?_
  have hg9 := kG_at hG hS hs
  have hr8 := hg9.2.2.2.2.2.2.2
  have j175 : ∀ ov fi to : Int, ((I 2 = -1 ∧ ov = -1) ∨ (0 ≤ I 2 ∧ ov = ow s (I 2))) → (0 ≤ ov → isO s ov ∧ (0 ≤ ov ∧ ov < I 0) ∧ Q 0 ov ≠ -1) → (-1 ≤ ov ∧ ov < 60) → ((fi = 1 ∧ (0 ≤ I 2 ∧ Q 0 (I 2) = P s 1)) ∨ (fi = 0 ∧ ¬ (0 ≤ I 2 ∧ Q 0 (I 2) = P s 1))) → (-1 ≤ to ∧ to < 60) → (0 ≤ to → isO s to) → to = cO Q P ow s → Z l g ({ frames := 10, cells := 4, slots := 24, locals := 198 } : Room) 22 x 0 0 (wD g b c I Q P T N (rA g gA 30 Gr :: rA g tA 60 U :: rA g cA 3 C :: rest)) 175 [(0, .ref (b 0)), (1, vi 3), (2, vi xa), (3, vi ya), (4, .ref gA), (5, .ref tA), (6, .ref cA), (7, vi s), (8, vi (I 2)), (9, vi ov), (10, vi (P s 8)), (11, vi fi), (12, vi to)] [] := by
    intro ov fi to hov hoo hor hfi htr hto htoh
    have j328 : ∀ nn a cn ou mi : Int, (to < 0 → nn = 0 ∧ a = -1) → (0 ≤ to → nn = ((mOf (ow s) to (L s)).length : Int) ∧ ixO (mOf (ow s) to (L s)) (P s 8) a) → ((cn = 1 ∧ ((0 ≤ I 2 ∧ Q 0 (I 2) = P s 1) ∧ ov < 0 ∧ 0 ≤ P s 8)) ∨ (cn = 0 ∧ ¬ ((0 ≤ I 2 ∧ Q 0 (I 2) = P s 1) ∧ ov < 0 ∧ 0 ≤ P s 8))) → (ov < 0 → ou = 0 ∧ mi = -1) → (0 ≤ ov → ou = ((mOf (ow s) ov (L s)).length : Int) ∧ ixO (mOf (ow s) ov (L s)) (I 2) mi) → Z l g ({ frames := 10, cells := 4, slots := 24, locals := 198 } : Room) 22 x 0 0 (wD g b c I Q P T N (rA g gA 30 Gr :: rA g tA 60 U :: rA g cA 3 C :: rest)) 328 [(0, .ref (b 0)), (1, vi 3), (2, vi xa), (3, vi ya), (4, .ref gA), (5, .ref tA), (6, .ref cA), (7, vi s), (8, vi (I 2)), (9, vi ov), (10, vi (P s 8)), (11, vi fi), (12, vi to), (13, vi nn), (14, vi a), (15, vi cn), (16, vi ou), (17, vi mi)] [] := by
      intro nn a cn ou mi hnn hyn hcn hno hyo
      refine zz_aload_n hx dL_ties_328 rfl ?_
      refine zz_iload_n hx dL_ties_329 rfl ?_
      refine zz_iload hx dL_ties_330 rfl ?_
      refine zz_iload hx dL_ties_332 rfl ?_
      refine zz_callW hx hnc mw_L_acts lk_L_112 (l_acts3 hst hJ s to hs) ⟨rfl, rfl⟩ (by decide) (by decide) rfl rfl (Nat.le_of_ble_eq_true rfl) dL_ties_334 (fun r334 w334 hp334 => ?_)
      rcases hp334 with ⟨e334, rfl, hnB⟩ | ⟨hB, T1, j, p, rfl, hj, hfp, hi, hv⟩
      · have hncan : ¬ ((0 ≤ I 2 ∧ Q 0 (I 2) = P s 1) ∧ ov < 0 ∧ 0 ≤ P s 8) := fun z9 => hnB ((J_conB hJ hs.1 hs.2).mpr ⟨by omega, by omega, by omega, by omega⟩)
        refine zz_istore (lv' := [(0, _), (1, _), (2, _), (3, _), (4, _), (5, _), (6, _), (7, _), (8, _), (9, _), (10, _), (11, _), (12, _), (13, _), (14, _), (15, _), (16, _), (17, _), (18, _)]) hx dL_ties_337 (by decide) rfl ?_
        refine zz_iload hx dL_ties_339 rfl ?_
        refine zz_if_ne hx 358 dL_ties_341 rfl (by omega) (fun c341 => ?_) (fun c341 => ?_)
        · omega
        · refine zz_iload hx dL_ties_344 rfl ?_
          refine zz_sipush hx dL_ties_346 rfl ?_
          refine zz_icmp_ne hx 356 dL_ties_349 rfl (by omega) (by omega) (fun c349 => ?_) (fun c349 => ?_)
          · omega
          · refine zz_iconst hx dL_ties_352 ?_
            refine zz_goto hx 357 dL_ties_353 rfl ?_
            exact zz_zret hx hf dL_ties_357 (Or.inr rfl) ⟨_, rfl, rfl, I, Q, P, T, ow, isO, L, U, C, rfl, hJ, hC, hU, hG⟩ (by decide) (by decide)
      · have hB2 := (J_conB hJ hs.1 hs.2).mp hB
        have hi20 := J_i2 hJ hB.1
        rw [J_ring hJ hs.1 hs.2] at hv
        obtain ⟨hJ2, hpl, hlen, hio2⟩ := J_con hJ hs.1 hs.2 hB hj hfp hi
        have hq2 := J_own hJ hs.1 hs.2 hio2
        have hto2 : 0 ≤ to := by omega
        obtain ⟨hn1, hn2⟩ := hyn hto2
        rw [htoh] at hn1 hn2
        have eo : (upI ow s (zup (ow s) (I 2) (cO Q P ow s))) s (I 2) = cO Q P ow s := by rw [upI_s, zup_s]
        have ep : (upI P s (Fup (P s) 8 (I 2))) s 8 = I 2 := by rw [upI_s, Fup_s]
        have eM : ((mOf ((upI ow s (zup (ow s) (I 2) (cO Q P ow s))) s) (cO Q P ow s) ((upI L s (zinsl (L s) p (I 2))) s)).length : Int) = nn + 1 := by rw [upI_s, upI_s, hlen, hn1]; omega
        have hpl2 : plO (Q 1) ((upI P s (Fup (P s) 8 (I 2))) s 2) nn a (mOf ((upI ow s (zup (ow s) (I 2) (cO Q P ow s))) s) (cO Q P ow s) ((upI L s (zinsl (L s) p (I 2))) s)) (I 2) j := by
          rw [upP_k s (by decide), upI_s, upI_s, hn1]
          exact hpl a hn2
        have har := ixO_rng hn2
        have hm60 := (J_mm hJ hs.1 hs.2 hio2).2.1
        refine zz_istore (lv' := [(0, _), (1, _), (2, _), (3, _), (4, _), (5, _), (6, _), (7, _), (8, _), (9, _), (10, _), (11, _), (12, _), (13, _), (14, _), (15, _), (16, _), (17, _), (18, _)]) hx dL_ties_337 (by decide) rfl ?_
        refine zz_iload hx dL_ties_339 rfl ?_
        refine zz_if_ne hx 358 dL_ties_341 rfl (by omega) (fun c341 => ?_) (fun c341 => ?_)
        · refine zz_iload_n hx dL_ties_358 rfl ?_
          refine zz_iconst hx dL_ties_359 ?_
          refine zz_icmp_ne hx 421 dL_ties_360 rfl (by omega) (by omega) (fun c360 => ?_) (fun c360 => ?_)
          · refine zz_iload hx dL_ties_421 rfl ?_
            refine zz_iload hx dL_ties_423 rfl ?_
            refine zz_icmp_ne hx 432 dL_ties_425 rfl (by omega) (by omega) (fun c425 => ?_) (fun c425 => ?_)
            · refine zz_iconst hx dL_ties_432 ?_
              refine zz_istore (lv' := [(0, _), (1, _), (2, _), (3, _), (4, _), (5, _), (6, _), (7, _), (8, _), (9, _), (10, _), (11, _), (12, _), (13, _), (14, _), (15, _), (16, _), (17, _), (18, _), (19, _)]) hx dL_ties_433 (by decide) rfl ?_
              refine zz_iload hx dL_ties_435 rfl ?_
              refine zz_if_eq hx 451 dL_ties_437 rfl (by decide) (fun _ => ?_) (fun z => absurd rfl z)
              refine zz_iload hx dL_ties_451 rfl ?_
              refine zz_if_eq hx 470 dL_ties_453 rfl (by decide) (fun _ => ?_) (fun z => absurd rfl z)
              refine zz_iload hx dL_ties_470 rfl ?_
              refine zz_istore (lv' := [(0, _), (1, _), (2, _), (3, _), (4, _), (5, _), (6, _), (7, _), (8, _), (9, _), (10, _), (11, _), (12, _), (13, _), (14, _), (15, _), (16, _), (17, _), (18, _), (19, _), (20, _)]) hx dL_ties_472 (by decide) rfl ?_
              refine zz_aload_n hx dL_ties_474 rfl ?_
              refine zz_iload hx dL_ties_475 rfl ?_
              refine zz_iload hx dL_ties_477 rfl ?_
              refine zz_callVi hx me_X3_ownerOf lk_L_36 (q_X3_ownerOf hst hJ2.1 hJ2.2.1 (I 2) ⟨hi20.1, hi20.2.2.1⟩ hi20.2.2.2 s hs) 0 rfl rfl ⟨rfl, rfl⟩ (by decide) (by decide) rfl rfl (Nat.le_of_ble_eq_true rfl) dL_ties_479 (fun _ _ h => h.elim) (fun r479 w479 hp479 => ?_)
              obtain ⟨rfl, rfl⟩ := hp479
              refine zz_iload hx dL_ties_482 rfl ?_
              refine zz_icmp_ne hx 542 dL_ties_484 rfl (by omega) (by omega) (fun c484 => ?_) (fun c484 => ?_)
              · omega
              · refine zz_aload_n hx dL_ties_487 rfl ?_
                refine zz_iload hx dL_ties_488 rfl ?_
                refine zz_callVi hx me_X3_currentIn lk_L_52 (q_X3_currentIn hst hJ2.1 hJ2.2.1 s hs) 0 rfl rfl ⟨rfl, rfl⟩ (by decide) (by decide) rfl rfl (Nat.le_of_ble_eq_true rfl) dL_ties_490 (fun _ _ h => h.elim) (fun r490 w490 hp490 => ?_)
                obtain ⟨rfl, rfl⟩ := hp490
                refine zz_iload hx dL_ties_493 rfl ?_
                refine zz_icmp_ne hx 542 dL_ties_495 rfl (by omega) (by omega) (fun c495 => ?_) (fun c495 => ?_)
                · omega
                · refine zz_aload_n hx dL_ties_498 rfl ?_
                  refine zz_callVi hx me_X3_current lk_L_74 (k_X3_current hst) 0 rfl rfl ⟨rfl, rfl⟩ (by decide) (by decide) rfl rfl (Nat.le_of_ble_eq_true rfl) dL_ties_499 (fun _ _ h => h.elim) (fun r499 w499 hp499 => ?_)
                  obtain ⟨rfl, rfl⟩ := hp499
                  refine zz_iload hx dL_ties_502 rfl ?_
                  refine zz_icmp_ne hx 542 dL_ties_504 rfl (by omega) (by omega) (fun c504 => ?_) (fun c504 => ?_)
                  · omega
                  · refine zz_iload hx dL_ties_507 rfl ?_
                    refine zz_aload_n hx dL_ties_509 rfl ?_
                    refine zz_iload hx dL_ties_510 rfl ?_
                    refine zz_iload hx dL_ties_512 rfl ?_
                    rw [htoh]
                    refine zz_callVi hx me_X3_members lk_L_39 (q_X3_members hst hJ2.1 hJ2.2.1 (cO Q P ow s) ⟨hq2.1.1, by omega⟩ (by have := hq2.2.1; omega) s hs) 0 rfl rfl ⟨rfl, rfl⟩ (by decide) (by decide) rfl rfl (Nat.le_of_ble_eq_true rfl) dL_ties_514 (fun _ _ h => h.elim) (fun r514 w514 hp514 => ?_)
                    obtain ⟨hm9, rfl⟩ := hp514
                    obtain rfl : r514 = ((mOf ((upI ow s (zup (ow s) (I 2) (cO Q P ow s))) s) (cO Q P ow s) ((upI L s (zinsl (L s) p (I 2))) s)).length : Int) := by
                      rcases hm9 with z9 | z9
                      · exact z9.2
                      · exact absurd hio2 z9.1
                    have hv2 : r334 = ((mOf ((upI ow s (zup (ow s) (I 2) (cO Q P ow s))) s) (cO Q P ow s) ((upI L s (zinsl (L s) p (I 2))) s)).length : Int) := by rw [hv, upI_s, upI_s]
                    refine zz_icmp_ne hx 542 dL_ties_517 rfl (by omega) (by omega) (fun c517 => ?_) (fun c517 => ?_)
                    · omega
                    · refine zz_iload hx dL_ties_520 rfl ?_
                      refine zz_iload hx dL_ties_522 rfl ?_
                      refine zz_iload hx dL_ties_524 rfl ?_
                      refine zz_if_eq hx 533 dL_ties_526 rfl (by decide) (fun _ => ?_) (fun z => absurd rfl z)
                      refine zz_iconst hx dL_ties_533 ?_
                      refine zz_iadd hx dL_ties_534 ?_
                      refine zz_icmp_ne hx 542 dL_ties_535 rfl (by omega) (by omega) (fun c535 => ?_) (fun c535 => ?_)
                      · omega
                      · refine zz_iconst hx dL_ties_538 ?_
                        refine zz_goto hx 543 dL_ties_539 rfl ?_
                        refine zz_istore (lv' := [(0, _), (1, _), (2, _), (3, _), (4, _), (5, _), (6, _), (7, _), (8, _), (9, _), (10, _), (11, _), (12, _), (13, _), (14, _), (15, _), (16, _), (17, _), (18, _), (19, _), (20, _), (21, _)]) hx dL_ties_543 (by decide) rfl ?_
                        refine zz_iload hx dL_ties_545 rfl ?_
                        refine zz_if_eq hx 585 dL_ties_547 rfl (by decide) (fun z => absurd z (by decide)) (fun _ => ?_)
                        refine zz_aload_n hx dL_ties_550 rfl ?_
                        refine zz_aload hx dL_ties_551 rfl ?_
                        refine zz_iload hx dL_ties_553 rfl ?_
                        refine zz_iload hx dL_ties_555 rfl ?_
                        refine zz_iload hx dL_ties_557 rfl ?_
                        refine zz_iload hx dL_ties_559 rfl ?_
                        refine zz_if_eq hx 571 dL_ties_561 rfl (by decide) (fun _ => ?_) (fun z => absurd rfl z)
                        refine zz_iload hx dL_ties_571 rfl ?_
                        refine zz_iload hx dL_ties_573 rfl ?_
                        refine zz_callSi hx ms_L_isPlaced lk_L_115 (l_isPlaced hst hJ2 hC hU (kG_P hG (fun t _ _ k hk => upP_k t hk)) s hs (cO Q P ow s) hio2 (I 2) nn a j (by omega) hpl2) ⟨rfl, rfl⟩ (by decide) (by decide) rfl rfl (Nat.le_of_ble_eq_true rfl) dL_ties_575 (fun _ _ h => h.elim) (fun r575 w575 hp575 => ?_)
                        obtain ⟨rfl, rfl⟩ := hp575
                        refine zz_if_eq hx 585 dL_ties_578 rfl (by decide) (fun z => absurd z (by decide)) (fun _ => ?_)
                        refine zz_iconst hx dL_ties_581 ?_
                        refine zz_goto hx 586 dL_ties_582 rfl ?_
                        exact zz_zret hx hf dL_ties_586 (Or.inr rfl) ⟨_, rfl, rfl, I, Q, (upI P s (Fup (P s) 8 (I 2))), (upI T s T1), (upI ow s (zup (ow s) (I 2) (cO Q P ow s))), isO, (upI L s (zinsl (L s) p (I 2))), U, C, rfl, hJ2, hC, hU, kG_P hG (fun t _ _ k hk => upP_k t hk)⟩ (by decide) (by decide)
            · omega
          · omega
        · omega
    have j288 : ∀ nn a cn : Int, (to < 0 → nn = 0 ∧ a = -1) → (0 ≤ to → nn = ((mOf (ow s) to (L s)).length : Int) ∧ ixO (mOf (ow s) to (L s)) (P s 8) a) → ((cn = 1 ∧ ((0 ≤ I 2 ∧ Q 0 (I 2) = P s 1) ∧ ov < 0 ∧ 0 ≤ P s 8)) ∨ (cn = 0 ∧ ¬ ((0 ≤ I 2 ∧ Q 0 (I 2) = P s 1) ∧ ov < 0 ∧ 0 ≤ P s 8))) → Z l g ({ frames := 10, cells := 4, slots := 24, locals := 198 } : Room) 22 x 0 0 (wD g b c I Q P T N (rA g gA 30 Gr :: rA g tA 60 U :: rA g cA 3 C :: rest)) 288 [(0, .ref (b 0)), (1, vi 3), (2, vi xa), (3, vi ya), (4, .ref gA), (5, .ref tA), (6, .ref cA), (7, vi s), (8, vi (I 2)), (9, vi ov), (10, vi (P s 8)), (11, vi fi), (12, vi to), (13, vi nn), (14, vi a), (15, vi cn)] [] := by
      intro nn a cn hnn hyn hcn
      by_cases hovc : ov < 0
      · refine zz_iload hx dL_ties_288 rfl ?_
        refine zz_if_ge hx 297 dL_ties_290 rfl (by omega) (fun c290 => ?_) (fun c290 => ?_)
        · omega
        · refine zz_iconst hx dL_ties_293 ?_
          refine zz_goto hx 305 dL_ties_294 rfl ?_
          refine zz_istore (lv' := [(0, _), (1, _), (2, _), (3, _), (4, _), (5, _), (6, _), (7, _), (8, _), (9, _), (10, _), (11, _), (12, _), (13, _), (14, _), (15, _), (16, _)]) hx dL_ties_305 (by decide) rfl ?_
          refine zz_iload hx dL_ties_307 rfl ?_
          refine zz_if_ge hx 316 dL_ties_309 rfl (by omega) (fun c309 => ?_) (fun c309 => ?_)
          · omega
          · refine zz_iconst hx dL_ties_312 ?_
            refine zz_goto hx 326 dL_ties_313 rfl ?_
            refine zz_istore (lv' := [(0, _), (1, _), (2, _), (3, _), (4, _), (5, _), (6, _), (7, _), (8, _), (9, _), (10, _), (11, _), (12, _), (13, _), (14, _), (15, _), (16, _), (17, _)]) hx dL_ties_326 (by decide) rfl ?_
            exact j328 nn a cn _ _ hnn hyn hcn (fun _ => ⟨rfl, rfl⟩) (fun z9 => absurd hovc (by omega))
      · obtain ⟨hiv, hvr, hqn⟩ := hoo (by omega)
        refine zz_iload hx dL_ties_288 rfl ?_
        refine zz_if_ge hx 297 dL_ties_290 rfl (by omega) (fun c290 => ?_) (fun c290 => ?_)
        · refine zz_aload_n hx dL_ties_297 rfl ?_
          refine zz_iload hx dL_ties_298 rfl ?_
          refine zz_iload hx dL_ties_300 rfl ?_
          refine zz_callVi hx me_X3_members lk_L_39 (q_X3_members hst hI hS ov ⟨by omega, by omega⟩ hqn s hs) 0 rfl rfl ⟨rfl, rfl⟩ (by decide) (by decide) rfl rfl (Nat.le_of_ble_eq_true rfl) dL_ties_302 (fun _ _ h => h.elim) (fun r302 w302 hp302 => ?_)
          obtain ⟨hm9, rfl⟩ := hp302
          obtain rfl : r302 = ((mOf (ow s) ov (L s)).length : Int) := by
            rcases hm9 with z9 | z9
            · exact z9.2
            · exact absurd hiv z9.1
          clear hm9
          refine zz_istore (lv' := [(0, _), (1, _), (2, _), (3, _), (4, _), (5, _), (6, _), (7, _), (8, _), (9, _), (10, _), (11, _), (12, _), (13, _), (14, _), (15, _), (16, _)]) hx dL_ties_305 (by decide) rfl ?_
          refine zz_iload hx dL_ties_307 rfl ?_
          refine zz_if_ge hx 316 dL_ties_309 rfl (by omega) (fun c309 => ?_) (fun c309 => ?_)
          · refine zz_aload_n hx dL_ties_316 rfl ?_
            refine zz_iload hx dL_ties_317 rfl ?_
            refine zz_iload hx dL_ties_319 rfl ?_
            refine zz_iload hx dL_ties_321 rfl ?_
            refine zz_callSi hx ms_L_placeOf lk_L_92 (l_placeOf hst hJ s hs ov hiv (I 2) (by omega)) ⟨rfl, rfl⟩ (by decide) (by decide) rfl rfl (Nat.le_of_ble_eq_true rfl) dL_ties_323 (fun _ _ h => h.elim) (fun r323 w323 hp323 => ?_)
            obtain ⟨hx9, rfl⟩ := hp323
            refine zz_istore (lv' := [(0, _), (1, _), (2, _), (3, _), (4, _), (5, _), (6, _), (7, _), (8, _), (9, _), (10, _), (11, _), (12, _), (13, _), (14, _), (15, _), (16, _), (17, _)]) hx dL_ties_326 (by decide) rfl ?_
            exact j328 nn a cn _ _ hnn hyn hcn (fun z9 => absurd z9 hovc) (fun _ => ⟨rfl, hx9⟩)
          · omega
        · omega
    have j215 : ∀ nn a : Int, (to < 0 → nn = 0 ∧ a = -1) → (0 ≤ to → nn = ((mOf (ow s) to (L s)).length : Int) ∧ ixO (mOf (ow s) to (L s)) (P s 8) a) → Z l g ({ frames := 10, cells := 4, slots := 24, locals := 198 } : Room) 22 x 0 0 (wD g b c I Q P T N (rA g gA 30 Gr :: rA g tA 60 U :: rA g cA 3 C :: rest)) 215 [(0, .ref (b 0)), (1, vi 3), (2, vi xa), (3, vi ya), (4, .ref gA), (5, .ref tA), (6, .ref cA), (7, vi s), (8, vi (I 2)), (9, vi ov), (10, vi (P s 8)), (11, vi fi), (12, vi to), (13, vi nn), (14, vi a)] [] := by
      intro nn a hnn hyn
      refine zz_iload_n hx dL_ties_215 rfl ?_
      refine zz_iconst hx dL_ties_216 ?_
      refine zz_icmp_ne hx 243 dL_ties_217 rfl (by omega) (by omega) (fun c217 => ?_) (fun c217 => ?_)
      · omega
      · refine zz_iload hx dL_ties_220 rfl ?_
        refine zz_if_eq hx 239 dL_ties_222 rfl (by omega) (fun c222 => ?_) (fun c222 => ?_)
        · refine zz_iconst hx dL_ties_239 ?_
          refine zz_goto hx 286 dL_ties_240 rfl ?_
          refine zz_istore (lv' := [(0, _), (1, _), (2, _), (3, _), (4, _), (5, _), (6, _), (7, _), (8, _), (9, _), (10, _), (11, _), (12, _), (13, _), (14, _), (15, _)]) hx dL_ties_286 (by decide) rfl ?_
          exact j288 nn a _ hnn hyn (by clear hyn; omega)
        · refine zz_iload hx dL_ties_225 rfl ?_
          refine zz_if_ge hx 239 dL_ties_227 rfl (by omega) (fun c227 => ?_) (fun c227 => ?_)
          · refine zz_iconst hx dL_ties_239 ?_
            refine zz_goto hx 286 dL_ties_240 rfl ?_
            refine zz_istore (lv' := [(0, _), (1, _), (2, _), (3, _), (4, _), (5, _), (6, _), (7, _), (8, _), (9, _), (10, _), (11, _), (12, _), (13, _), (14, _), (15, _)]) hx dL_ties_286 (by decide) rfl ?_
            exact j288 nn a _ hnn hyn (by clear hyn; omega)
          · refine zz_iload hx dL_ties_230 rfl ?_
            refine zz_if_lt hx 239 dL_ties_232 rfl (by omega) (fun c232 => ?_) (fun c232 => ?_)
            · refine zz_iconst hx dL_ties_239 ?_
              refine zz_goto hx 286 dL_ties_240 rfl ?_
              refine zz_istore (lv' := [(0, _), (1, _), (2, _), (3, _), (4, _), (5, _), (6, _), (7, _), (8, _), (9, _), (10, _), (11, _), (12, _), (13, _), (14, _), (15, _)]) hx dL_ties_286 (by decide) rfl ?_
              exact j288 nn a _ hnn hyn (by clear hyn; omega)
            · refine zz_iconst hx dL_ties_235 ?_
              refine zz_goto hx 286 dL_ties_236 rfl ?_
              refine zz_istore (lv' := [(0, _), (1, _), (2, _), (3, _), (4, _), (5, _), (6, _), (7, _), (8, _), (9, _), (10, _), (11, _), (12, _), (13, _), (14, _), (15, _)]) hx dL_ties_286 (by decide) rfl ?_
              exact j288 nn a _ hnn hyn (by clear hyn; omega)
    by_cases htc : to < 0
    · refine zz_iload hx dL_ties_175 rfl ?_
      refine zz_if_ge hx 184 dL_ties_177 rfl (by omega) (fun c177 => ?_) (fun c177 => ?_)
      · omega
      · refine zz_iconst hx dL_ties_180 ?_
        refine zz_goto hx 192 dL_ties_181 rfl ?_
        refine zz_istore (lv' := [(0, _), (1, _), (2, _), (3, _), (4, _), (5, _), (6, _), (7, _), (8, _), (9, _), (10, _), (11, _), (12, _), (13, _)]) hx dL_ties_192 (by decide) rfl ?_
        refine zz_iload hx dL_ties_194 rfl ?_
        refine zz_if_ge hx 203 dL_ties_196 rfl (by omega) (fun c196 => ?_) (fun c196 => ?_)
        · omega
        · refine zz_iconst hx dL_ties_199 ?_
          refine zz_goto hx 213 dL_ties_200 rfl ?_
          refine zz_istore (lv' := [(0, _), (1, _), (2, _), (3, _), (4, _), (5, _), (6, _), (7, _), (8, _), (9, _), (10, _), (11, _), (12, _), (13, _), (14, _)]) hx dL_ties_213 (by decide) rfl ?_
          exact j215 _ _ (fun _ => ⟨rfl, rfl⟩) (fun z9 => absurd htc (by omega))
    · have hiv := hto (by omega)
      have hvo := J_own hJ hs.1 hs.2 hiv
      have hqn : Q 0 to ≠ -1 := by have := hvo.2.1; omega
      have hvr := hvo.1
      refine zz_iload hx dL_ties_175 rfl ?_
      refine zz_if_ge hx 184 dL_ties_177 rfl (by omega) (fun c177 => ?_) (fun c177 => ?_)
      · refine zz_aload_n hx dL_ties_184 rfl ?_
        refine zz_iload hx dL_ties_185 rfl ?_
        refine zz_iload hx dL_ties_187 rfl ?_
        refine zz_callVi hx me_X3_members lk_L_39 (q_X3_members hst hI hS to ⟨by omega, by omega⟩ hqn s hs) 0 rfl rfl ⟨rfl, rfl⟩ (by decide) (by decide) rfl rfl (Nat.le_of_ble_eq_true rfl) dL_ties_189 (fun _ _ h => h.elim) (fun r189 w189 hp189 => ?_)
        obtain ⟨hm9, rfl⟩ := hp189
        obtain rfl : r189 = ((mOf (ow s) to (L s)).length : Int) := by
          rcases hm9 with z9 | z9
          · exact z9.2
          · exact absurd hiv z9.1
        clear hm9
        refine zz_istore (lv' := [(0, _), (1, _), (2, _), (3, _), (4, _), (5, _), (6, _), (7, _), (8, _), (9, _), (10, _), (11, _), (12, _), (13, _)]) hx dL_ties_192 (by decide) rfl ?_
        refine zz_iload hx dL_ties_194 rfl ?_
        refine zz_if_ge hx 203 dL_ties_196 rfl (by omega) (fun c196 => ?_) (fun c196 => ?_)
        · refine zz_aload_n hx dL_ties_203 rfl ?_
          refine zz_iload hx dL_ties_204 rfl ?_
          refine zz_iload hx dL_ties_206 rfl ?_
          refine zz_iload hx dL_ties_208 rfl ?_
          refine zz_callSi hx ms_L_placeOf lk_L_92 (l_placeOf hst hJ s hs to hiv (P s 8) (by omega)) ⟨rfl, rfl⟩ (by decide) (by decide) rfl rfl (Nat.le_of_ble_eq_true rfl) dL_ties_210 (fun _ _ h => h.elim) (fun r210 w210 hp210 => ?_)
          obtain ⟨hx9, rfl⟩ := hp210
          refine zz_istore (lv' := [(0, _), (1, _), (2, _), (3, _), (4, _), (5, _), (6, _), (7, _), (8, _), (9, _), (10, _), (11, _), (12, _), (13, _), (14, _)]) hx dL_ties_213 (by decide) rfl ?_
          exact j215 _ _ (fun z9 => absurd z9 htc) (fun _ => ⟨rfl, hx9⟩)
        · omega
      · omega
  have j75 : ∀ ov fi : Int, ((I 2 = -1 ∧ ov = -1) ∨ (0 ≤ I 2 ∧ ov = ow s (I 2))) → (0 ≤ ov → isO s ov ∧ (0 ≤ ov ∧ ov < I 0) ∧ Q 0 ov ≠ -1) → (-1 ≤ ov ∧ ov < 60) → ((fi = 1 ∧ (0 ≤ I 2 ∧ Q 0 (I 2) = P s 1)) ∨ (fi = 0 ∧ ¬ (0 ≤ I 2 ∧ Q 0 (I 2) = P s 1))) → Z l g ({ frames := 10, cells := 4, slots := 24, locals := 198 } : Room) 22 x 0 0 (wD g b c I Q P T N (rA g gA 30 Gr :: rA g tA 60 U :: rA g cA 3 C :: rest)) 75 [(0, .ref (b 0)), (1, vi 3), (2, vi xa), (3, vi ya), (4, .ref gA), (5, .ref tA), (6, .ref cA), (7, vi s), (8, vi (I 2)), (9, vi ov), (10, vi (P s 8)), (11, vi fi)] [] := by
    intro ov fi hov hoo hor hfi
    have hcr : -1 ≤ cO Q P ow s ∧ cO Q P ow s < 60 := by
      rcases J_cur hJ hs.1 hs.2 with ⟨-, e⟩ | ⟨-, -, -, -, c4, -⟩
      · omega
      · omega
    have hcy : 0 ≤ cO Q P ow s → isO s (cO Q P ow s) := fun z9 => by
      rcases J_cur hJ hs.1 hs.2 with ⟨-, e⟩ | ⟨-, -, -, c3, -⟩
      · omega
      · exact c3
    refine zz_iload_n hx dL_ties_75 rfl ?_
    refine zz_iconst hx dL_ties_76 ?_
    refine zz_icmp_ne hx 93 dL_ties_77 rfl (by omega) (by omega) (fun c77 => ?_) (fun c77 => ?_)
    · omega
    · refine zz_aload_n hx dL_ties_80 rfl ?_
      refine zz_aload hx dL_ties_81 rfl ?_
      refine zz_aload hx dL_ties_83 rfl ?_
      refine zz_iload hx dL_ties_85 rfl ?_
      refine zz_callSi hx ms_L_owner lk_L_88 (l_owner hst hJ hC hU hG s hs) ⟨rfl, rfl⟩ (by decide) (by decide) rfl rfl (Nat.le_of_ble_eq_true rfl) dL_ties_87 (fun _ _ h => h.elim) (fun r87 w87 hp87 => ?_)
      obtain ⟨rfl, rfl⟩ := hp87
      refine zz_goto hx 110 dL_ties_90 rfl ?_
      refine zz_istore (lv' := [(0, _), (1, _), (2, _), (3, _), (4, _), (5, _), (6, _), (7, _), (8, _), (9, _), (10, _), (11, _), (12, _)]) hx dL_ties_110 (by decide) rfl ?_
      refine zz_iload_n hx dL_ties_112 rfl ?_
      refine zz_iconst hx dL_ties_113 ?_
      refine zz_icmp_ne hx 175 dL_ties_114 rfl (by omega) (by omega) (fun c114 => ?_) (fun c114 => ?_)
      · exact j175 ov fi _ hov hoo hor hfi hcr hcy rfl
      · omega
  have j31 : ∀ ov : Int, ((I 2 = -1 ∧ ov = -1) ∨ (0 ≤ I 2 ∧ ov = ow s (I 2))) → (0 ≤ ov → isO s ov ∧ (0 ≤ ov ∧ ov < I 0) ∧ Q 0 ov ≠ -1) → (-1 ≤ ov ∧ ov < 60) → Z l g ({ frames := 10, cells := 4, slots := 24, locals := 198 } : Room) 22 x 0 0 (wD g b c I Q P T N (rA g gA 30 Gr :: rA g tA 60 U :: rA g cA 3 C :: rest)) 31 [(0, .ref (b 0)), (1, vi 3), (2, vi xa), (3, vi ya), (4, .ref gA), (5, .ref tA), (6, .ref cA), (7, vi s), (8, vi (I 2))] [vi ov] := by
    intro ov hov hoo hor
    refine zz_istore (lv' := [(0, _), (1, _), (2, _), (3, _), (4, _), (5, _), (6, _), (7, _), (8, _), (9, _)]) hx dL_ties_31 (by decide) rfl ?_
    refine zz_aload_n hx dL_ties_33 rfl ?_
    refine zz_iload hx dL_ties_34 rfl ?_
    refine zz_callVi hx me_X3_currentIn lk_L_52 (q_X3_currentIn hst hI hS s hs) 0 rfl rfl ⟨rfl, rfl⟩ (by decide) (by decide) rfl rfl (Nat.le_of_ble_eq_true rfl) dL_ties_36 (fun _ _ h => h.elim) (fun r36 w36 hp36 => ?_)
    obtain ⟨rfl, rfl⟩ := hp36
    refine zz_istore (lv' := [(0, _), (1, _), (2, _), (3, _), (4, _), (5, _), (6, _), (7, _), (8, _), (9, _), (10, _)]) hx dL_ties_39 (by decide) rfl ?_
    refine zz_iload hx dL_ties_41 rfl ?_
    refine zz_if_lt hx 72 dL_ties_43 rfl (by omega) (fun c43 => ?_) (fun c43 => ?_)
    · refine zz_iconst hx dL_ties_72 ?_
      refine zz_istore (lv' := [(0, _), (1, _), (2, _), (3, _), (4, _), (5, _), (6, _), (7, _), (8, _), (9, _), (10, _), (11, _)]) hx dL_ties_73 (by decide) rfl ?_
      exact j75 ov _ hov hoo hor (by clear hoo; omega)
    · have hu9 := kU_at hU hI (k := I 2) (by omega) (by omega)
      refine zz_aload hx dL_ties_46 rfl ?_
      refine zz_iload hx dL_ties_48 rfl ?_
      refine zr_ld hx 1 rfl (by decide) (by omega) (by omega) dL_ties_50 ?_
      refine zz_bipush hx dL_ties_51 rfl ?_
      refine zz_and7 hx dL_ties_53 (by omega) (by omega) ?_
      refine zz_iconst hx dL_ties_54 ?_
      refine zz_isub hx dL_ties_55 ?_
      refine zz_aload hx dL_ties_56 rfl ?_
      refine zz_iconst hx dL_ties_58 ?_
      refine zz_iload hx dL_ties_59 rfl ?_
      refine zz_imul hx dL_ties_61 ?_
      refine zz_iconst hx dL_ties_62 ?_
      refine zz_iadd hx dL_ties_63 ?_
      refine zr_ld hx 0 rfl (by decide) (by omega) (by omega) dL_ties_64 ?_
      refine zz_icmp_ne hx 72 dL_ties_65 rfl (by omega) (by omega) (fun c65 => ?_) (fun c65 => ?_)
      · refine zz_iconst hx dL_ties_72 ?_
        refine zz_istore (lv' := [(0, _), (1, _), (2, _), (3, _), (4, _), (5, _), (6, _), (7, _), (8, _), (9, _), (10, _), (11, _)]) hx dL_ties_73 (by decide) rfl ?_
        exact j75 ov _ hov hoo hor (by clear hoo; omega)
      · refine zz_iconst hx dL_ties_68 ?_
        refine zz_goto hx 73 dL_ties_69 rfl ?_
        refine zz_istore (lv' := [(0, _), (1, _), (2, _), (3, _), (4, _), (5, _), (6, _), (7, _), (8, _), (9, _), (10, _), (11, _)]) hx dL_ties_73 (by decide) rfl ?_
        exact j75 ov _ hov hoo hor (by clear hoo; omega)
  refine zz_aload_n hx dL_ties_8 rfl ?_
  refine zz_callVi hx me_X3_current lk_L_74 (k_X3_current hst) 0 rfl rfl ⟨rfl, rfl⟩ (by decide) (by decide) rfl rfl (Nat.le_of_ble_eq_true rfl) dL_ties_9 (fun _ _ h => h.elim) (fun r9 w9 hp9 => ?_)
  obtain ⟨rfl, rfl⟩ := hp9
  refine zz_istore (lv' := [(0, _), (1, _), (2, _), (3, _), (4, _), (5, _), (6, _), (7, _), (8, _)]) hx dL_ties_12 (by decide) rfl ?_
  refine zz_iload hx dL_ties_14 rfl ?_
  refine zz_if_ge hx 23 dL_ties_16 rfl (by omega) (fun c16 => ?_) (fun c16 => ?_)
  · have hi20 := J_i2 hJ (show I 2 ≠ -1 by omega)
    refine zz_aload_n hx dL_ties_23 rfl ?_
    refine zz_iload hx dL_ties_24 rfl ?_
    refine zz_iload hx dL_ties_26 rfl ?_
    refine zz_callVi hx me_X3_ownerOf lk_L_36 (q_X3_ownerOf hst hI hS (I 2) ⟨hi20.1, hi20.2.2.1⟩ hi20.2.2.2 s hs) 0 rfl rfl ⟨rfl, rfl⟩ (by decide) (by decide) rfl rfl (Nat.le_of_ble_eq_true rfl) dL_ties_28 (fun _ _ h => h.elim) (fun r28 w28 hp28 => ?_)
    obtain ⟨rfl, rfl⟩ := hp28
    have how := J_ow hJ hs.1 hs.2 hi20.1 hi20.2.2.1
    have hob : -1 ≤ ow s (I 2) ∧ ow s (I 2) < 60 := by
      rcases how with ⟨z, -⟩ | z
      · omega
      · exact ⟨by omega, by omega⟩
    have hov9 : 0 ≤ ow s (I 2) → isO s (ow s (I 2)) ∧ (0 ≤ ow s (I 2) ∧ ow s (I 2) < I 0) ∧ Q 0 (ow s (I 2)) ≠ -1 := fun z9 => by
      rcases how with ⟨z, -⟩ | z
      · omega
      · exact ⟨z.2.2.2.2.1, ⟨z.1, z.2.1⟩, by have := z.2.2.2.2.2.2; omega⟩
    first
      | exact j31 _ (Or.inr ⟨by omega, rfl⟩) hov9 hob
      | exact j31 _ (Or.inl ⟨by omega, rfl⟩) (fun z9 => absurd z9 (by decide)) (by omega)
  · refine zz_iconst hx dL_ties_19 ?_
    refine zz_goto hx 31 dL_ties_20 rfl ?_
    first
      | exact j31 _ (Or.inr ⟨by omega, rfl⟩) hov9 hob
      | exact j31 _ (Or.inl ⟨by omega, rfl⟩) (fun z9 => absurd z9 (by decide)) (by omega)

set_option maxHeartbeats 4000000 in
set_option maxRecDepth 100000 in
theorem l_ties4 {l : Launch} {g : zG} {b : Nat → Nat} {c : Int → Nat → Nat} {I : Nat → Int} {Q : Nat → Int → Int} {P : Int → Nat → Int} {T : Int → Nat → Int → Int} {N : Nat} {ow : Int → Int → Int} {isO : Int → Int → Prop} {L : Int → List Int} {rest : va_W} (hst : l.stackTraces = false) {gA tA cA : Nat} {Gr U C : Int → Int} (hJ : J I Q P T N ow isO L) (hC : kC I N C) (hU : kU Q U) (hG : kG P N Gr) (hN0 : 0 < N) (xa ya : Int) (hx0 : 0 ≤ xa ∧ xa < 1073741824) (hy0 : 0 ≤ ya ∧ ya < 1073741824) : zMn l g yL_ties cL_ties 22 (Option.some FieldType.boolean) ({ frames := 10, cells := 4, slots := 24, locals := 198 } : Room) [.ref (b 0), vi 4, vi xa, vi ya, .ref gA, .ref tA, .ref cA] (wD g b c I Q P T N (rA g gA 30 Gr :: rA g tA 60 U :: rA g cA 3 C :: rest)) (zI fun v w => v = 1 ∧ (jW g b c N gA tA cA Gr rest w)) 4 24 := by
  have hI := hJ.1
  have hS := hJ.2.1
  have hi0 := hI.2.2.2.2.2.2.1
  have hN6 := hI.2.1
  obtain ⟨hc0, hc1, hc2⟩ := id hC
  have hi2 := hI.2.2.1
  refine zMn_of (lv0 := [(0, _), (1, _), (2, _), (3, _), (4, _), (5, _), (6, _)]) hst rfl (by decide +kernel) (Nat.le_of_ble_eq_true rfl) rfl (fun x hx hf hnc => ?_)
  refine zz_iload_n hx dL_ties_0 rfl ?_
  refine zz_aload hx dL_ties_1 rfl ?_
  refine zz_iconst hx dL_ties_3 ?_
  refine zr_ld hx 2 rfl (by decide) (by omega) (by omega) dL_ties_4 ?_
  rw [hc0]
  refine zz_irem hx dL_ties_5 (by omega) (by omega) (by omega) (by omega) ?_
  have hs : 0 ≤ xa % (N : Int) ∧ xa % (N : Int) < (N : Int) := ⟨Int.emod_nonneg xa (by omega), Int.emod_lt_of_pos xa (by omega)⟩
  generalize hse : xa % (N : Int) = s at *
  refine zz_istore (lv' := [(0, _), (1, _), (2, _), (3, _), (4, _), (5, _), (6, _), (7, _)]) hx dL_ties_6 (by decide) rfl ?_
  have hg9 := kG_at hG hS hs
  have hr8 := hg9.2.2.2.2.2.2.2
  have j175 : ∀ ov fi to : Int, ((I 2 = -1 ∧ ov = -1) ∨ (0 ≤ I 2 ∧ ov = ow s (I 2))) → (0 ≤ ov → isO s ov ∧ (0 ≤ ov ∧ ov < I 0) ∧ Q 0 ov ≠ -1) → (-1 ≤ ov ∧ ov < 60) → ((fi = 1 ∧ (0 ≤ I 2 ∧ Q 0 (I 2) = P s 1)) ∨ (fi = 0 ∧ ¬ (0 ≤ I 2 ∧ Q 0 (I 2) = P s 1))) → (-1 ≤ to ∧ to < 60) → (0 ≤ to → isO s to) → to = -1 → Z l g ({ frames := 10, cells := 4, slots := 24, locals := 198 } : Room) 22 x 0 0 (wD g b c I Q P T N (rA g gA 30 Gr :: rA g tA 60 U :: rA g cA 3 C :: rest)) 175 [(0, .ref (b 0)), (1, vi 4), (2, vi xa), (3, vi ya), (4, .ref gA), (5, .ref tA), (6, .ref cA), (7, vi s), (8, vi (I 2)), (9, vi ov), (10, vi (P s 8)), (11, vi fi), (12, vi to)] [] := by
    intro ov fi to hov hoo hor hfi htr hto htoh
    have j328 : ∀ nn a cn ou mi : Int, (to < 0 → nn = 0 ∧ a = -1) → (0 ≤ to → nn = ((mOf (ow s) to (L s)).length : Int) ∧ ixO (mOf (ow s) to (L s)) (P s 8) a) → ((cn = 1 ∧ (0 ≤ ov ∧ P s 4 = 2)) ∨ (cn = 0 ∧ ¬ (0 ≤ ov ∧ P s 4 = 2))) → (ov < 0 → ou = 0 ∧ mi = -1) → (0 ≤ ov → ou = ((mOf (ow s) ov (L s)).length : Int) ∧ ixO (mOf (ow s) ov (L s)) (I 2) mi) → Z l g ({ frames := 10, cells := 4, slots := 24, locals := 198 } : Room) 22 x 0 0 (wD g b c I Q P T N (rA g gA 30 Gr :: rA g tA 60 U :: rA g cA 3 C :: rest)) 328 [(0, .ref (b 0)), (1, vi 4), (2, vi xa), (3, vi ya), (4, .ref gA), (5, .ref tA), (6, .ref cA), (7, vi s), (8, vi (I 2)), (9, vi ov), (10, vi (P s 8)), (11, vi fi), (12, vi to), (13, vi nn), (14, vi a), (15, vi cn), (16, vi ou), (17, vi mi)] [] := by
      intro nn a cn ou mi hnn hyn hcn hno hyo
      refine zz_aload_n hx dL_ties_328 rfl ?_
      refine zz_iload_n hx dL_ties_329 rfl ?_
      refine zz_iload hx dL_ties_330 rfl ?_
      refine zz_iload hx dL_ties_332 rfl ?_
      refine zz_callW hx hnc mw_L_acts lk_L_112 (l_acts4 hst hJ s to hs) ⟨rfl, rfl⟩ (by decide) (by decide) rfl rfl (Nat.le_of_ble_eq_true rfl) dL_ties_334 (fun r334 w334 hp334 => ?_)
      rcases hp334 with ⟨e334, rfl, hnB⟩ | ⟨hB, T1, rfl, hot, hv⟩
      · have hncan : ¬ (0 ≤ ov ∧ P s 4 = 2) := fun z9 => hnB ⟨(J_isM hJ hs.1 hs.2).mpr ⟨by omega, by omega⟩, by omega⟩
        refine zz_istore (lv' := [(0, _), (1, _), (2, _), (3, _), (4, _), (5, _), (6, _), (7, _), (8, _), (9, _), (10, _), (11, _), (12, _), (13, _), (14, _), (15, _), (16, _), (17, _), (18, _)]) hx dL_ties_337 (by decide) rfl ?_
        refine zz_iload hx dL_ties_339 rfl ?_
        refine zz_if_ne hx 358 dL_ties_341 rfl (by omega) (fun c341 => ?_) (fun c341 => ?_)
        · omega
        · refine zz_iload hx dL_ties_344 rfl ?_
          refine zz_sipush hx dL_ties_346 rfl ?_
          refine zz_icmp_ne hx 356 dL_ties_349 rfl (by omega) (by omega) (fun c349 => ?_) (fun c349 => ?_)
          · omega
          · refine zz_iconst hx dL_ties_352 ?_
            refine zz_goto hx 357 dL_ties_353 rfl ?_
            exact zz_zret hx hf dL_ties_357 (Or.inr rfl) ⟨_, rfl, rfl, I, Q, P, T, ow, isO, L, U, C, rfl, hJ, hC, hU, hG⟩ (by decide) (by decide)
      · have hB2 := (J_isM hJ hs.1 hs.2).mp hB.1
        have hi20 := J_i2 hJ hB.1.1
        have hov2 : ov = ow s (I 2) := by omega
        obtain ⟨hJ2, hlen, hio2, e8⟩ := J_dis hJ hs.1 hs.2 hB2 hot
        obtain ⟨ho1, ho2⟩ := hyo (by omega)
        rw [hov2] at ho1
        have eo : (upI ow s (zup (ow s) (I 2) (-1))) s (I 2) = -1 := by rw [upI_s, zup_s]
        have e8b : (P s 8 = I 2 ∧ (upI P s (if P s 8 = I 2 then Fup (P s) 8 (-1) else P s)) s 8 = -1) ∨ (P s 8 ≠ I 2 ∧ (upI P s (if P s 8 = I 2 then Fup (P s) 8 (-1) else P s)) s 8 = P s 8) := by
          by_cases c9 : P s 8 = I 2
          · exact Or.inl ⟨c9, e8.trans (if_pos c9)⟩
          · exact Or.inr ⟨c9, e8.trans (if_neg c9)⟩
        clear e8
        have hm61 := (J_mm hJ hs.1 hs.2 hio2).2.1
        refine zz_istore (lv' := [(0, _), (1, _), (2, _), (3, _), (4, _), (5, _), (6, _), (7, _), (8, _), (9, _), (10, _), (11, _), (12, _), (13, _), (14, _), (15, _), (16, _), (17, _), (18, _)]) hx dL_ties_337 (by decide) rfl ?_
        refine zz_iload hx dL_ties_339 rfl ?_
        refine zz_if_ne hx 358 dL_ties_341 rfl (by omega) (fun c341 => ?_) (fun c341 => ?_)
        · refine zz_iload_n hx dL_ties_358 rfl ?_
          refine zz_iconst hx dL_ties_359 ?_
          refine zz_icmp_ne hx 421 dL_ties_360 rfl (by omega) (by omega) (fun c360 => ?_) (fun c360 => ?_)
          · omega
          · refine zz_iload hx dL_ties_363 rfl ?_
            refine zz_iload hx dL_ties_365 rfl ?_
            refine zz_iconst hx dL_ties_367 ?_
            refine zz_isub hx dL_ties_368 ?_
            refine zz_icmp_ne hx 419 dL_ties_369 rfl (by omega) (by omega) (fun c369 => ?_) (fun c369 => ?_)
            · omega
            · refine zz_aload_n hx dL_ties_372 rfl ?_
              refine zz_iload hx dL_ties_373 rfl ?_
              refine zz_iload hx dL_ties_375 rfl ?_
              refine zz_callVi hx me_X3_ownerOf lk_L_36 (q_X3_ownerOf hst hJ2.1 hJ2.2.1 (I 2) ⟨hi20.1, hi20.2.2.1⟩ hi20.2.2.2 s hs) 0 rfl rfl ⟨rfl, rfl⟩ (by decide) (by decide) rfl rfl (Nat.le_of_ble_eq_true rfl) dL_ties_377 (fun _ _ h => h.elim) (fun r377 w377 hp377 => ?_)
              obtain ⟨rfl, rfl⟩ := hp377
              refine zz_iconst hx dL_ties_380 ?_
              refine zz_icmp_ne hx 419 dL_ties_381 rfl (by omega) (by omega) (fun c381 => ?_) (fun c381 => ?_)
              · omega
              · refine zz_aload_n hx dL_ties_384 rfl ?_
                refine zz_iload hx dL_ties_385 rfl ?_
                refine zz_callVi hx me_X3_currentIn lk_L_52 (q_X3_currentIn hst hJ2.1 hJ2.2.1 s hs) 0 rfl rfl ⟨rfl, rfl⟩ (by decide) (by decide) rfl rfl (Nat.le_of_ble_eq_true rfl) dL_ties_387 (fun _ _ h => h.elim) (fun r387 w387 hp387 => ?_)
                obtain ⟨rfl, rfl⟩ := hp387
                refine zz_iload hx dL_ties_390 rfl ?_
                refine zz_iload hx dL_ties_392 rfl ?_
                refine zz_icmp_ne hx 401 dL_ties_394 rfl (by omega) (by omega) (fun c394 => ?_) (fun c394 => ?_)
                · refine zz_iload hx dL_ties_401 rfl ?_
                  refine zz_icmp_ne hx 419 dL_ties_403 rfl (by omega) (by omega) (fun c403 => ?_) (fun c403 => ?_)
                  · omega
                  · refine zz_aload_n hx dL_ties_406 rfl ?_
                    refine zz_callVi hx me_X3_current lk_L_74 (k_X3_current hst) 0 rfl rfl ⟨rfl, rfl⟩ (by decide) (by decide) rfl rfl (Nat.le_of_ble_eq_true rfl) dL_ties_407 (fun _ _ h => h.elim) (fun r407 w407 hp407 => ?_)
                    obtain ⟨rfl, rfl⟩ := hp407
                    refine zz_iload hx dL_ties_410 rfl ?_
                    refine zz_icmp_ne hx 419 dL_ties_412 rfl (by omega) (by omega) (fun c412 => ?_) (fun c412 => ?_)
                    · omega
                    · refine zz_iconst hx dL_ties_415 ?_
                      refine zz_goto hx 420 dL_ties_416 rfl ?_
                      exact zz_zret hx hf dL_ties_420 (Or.inr rfl) ⟨_, rfl, rfl, I, Q, (upI P s (if P s 8 = I 2 then Fup (P s) 8 (-1) else P s)), (upI T s T1), (upI ow s (zup (ow s) (I 2) (-1))), isO, (upI L s (zdel (L s) (I 2))), U, C, rfl, hJ2, hC, hU, kG_P hG (fun t _ _ k hk => upP_if t hk)⟩ (by decide) (by decide)
                · refine zz_iconst hx dL_ties_397 ?_
                  refine zz_goto hx 403 dL_ties_398 rfl ?_
                  refine zz_icmp_ne hx 419 dL_ties_403 rfl (by omega) (by omega) (fun c403 => ?_) (fun c403 => ?_)
                  · omega
                  · refine zz_aload_n hx dL_ties_406 rfl ?_
                    refine zz_callVi hx me_X3_current lk_L_74 (k_X3_current hst) 0 rfl rfl ⟨rfl, rfl⟩ (by decide) (by decide) rfl rfl (Nat.le_of_ble_eq_true rfl) dL_ties_407 (fun _ _ h => h.elim) (fun r407 w407 hp407 => ?_)
                    obtain ⟨rfl, rfl⟩ := hp407
                    refine zz_iload hx dL_ties_410 rfl ?_
                    refine zz_icmp_ne hx 419 dL_ties_412 rfl (by omega) (by omega) (fun c412 => ?_) (fun c412 => ?_)
                    · omega
                    · refine zz_iconst hx dL_ties_415 ?_
                      refine zz_goto hx 420 dL_ties_416 rfl ?_
                      exact zz_zret hx hf dL_ties_420 (Or.inr rfl) ⟨_, rfl, rfl, I, Q, (upI P s (if P s 8 = I 2 then Fup (P s) 8 (-1) else P s)), (upI T s T1), (upI ow s (zup (ow s) (I 2) (-1))), isO, (upI L s (zdel (L s) (I 2))), U, C, rfl, hJ2, hC, hU, kG_P hG (fun t _ _ k hk => upP_if t hk)⟩ (by decide) (by decide)
        · omega
    have j288 : ∀ nn a cn : Int, (to < 0 → nn = 0 ∧ a = -1) → (0 ≤ to → nn = ((mOf (ow s) to (L s)).length : Int) ∧ ixO (mOf (ow s) to (L s)) (P s 8) a) → ((cn = 1 ∧ (0 ≤ ov ∧ P s 4 = 2)) ∨ (cn = 0 ∧ ¬ (0 ≤ ov ∧ P s 4 = 2))) → Z l g ({ frames := 10, cells := 4, slots := 24, locals := 198 } : Room) 22 x 0 0 (wD g b c I Q P T N (rA g gA 30 Gr :: rA g tA 60 U :: rA g cA 3 C :: rest)) 288 [(0, .ref (b 0)), (1, vi 4), (2, vi xa), (3, vi ya), (4, .ref gA), (5, .ref tA), (6, .ref cA), (7, vi s), (8, vi (I 2)), (9, vi ov), (10, vi (P s 8)), (11, vi fi), (12, vi to), (13, vi nn), (14, vi a), (15, vi cn)] [] := by
      intro nn a cn hnn hyn hcn
      by_cases hovc : ov < 0
      · refine zz_iload hx dL_ties_288 rfl ?_
        refine zz_if_ge hx 297 dL_ties_290 rfl (by omega) (fun c290 => ?_) (fun c290 => ?_)
        · omega
        · refine zz_iconst hx dL_ties_293 ?_
          refine zz_goto hx 305 dL_ties_294 rfl ?_
          refine zz_istore (lv' := [(0, _), (1, _), (2, _), (3, _), (4, _), (5, _), (6, _), (7, _), (8, _), (9, _), (10, _), (11, _), (12, _), (13, _), (14, _), (15, _), (16, _)]) hx dL_ties_305 (by decide) rfl ?_
          refine zz_iload hx dL_ties_307 rfl ?_
          refine zz_if_ge hx 316 dL_ties_309 rfl (by omega) (fun c309 => ?_) (fun c309 => ?_)
          · omega
          · refine zz_iconst hx dL_ties_312 ?_
            refine zz_goto hx 326 dL_ties_313 rfl ?_
            refine zz_istore (lv' := [(0, _), (1, _), (2, _), (3, _), (4, _), (5, _), (6, _), (7, _), (8, _), (9, _), (10, _), (11, _), (12, _), (13, _), (14, _), (15, _), (16, _), (17, _)]) hx dL_ties_326 (by decide) rfl ?_
            exact j328 nn a cn _ _ hnn hyn hcn (fun _ => ⟨rfl, rfl⟩) (fun z9 => absurd hovc (by omega))
      · obtain ⟨hiv, hvr, hqn⟩ := hoo (by omega)
        refine zz_iload hx dL_ties_288 rfl ?_
        refine zz_if_ge hx 297 dL_ties_290 rfl (by omega) (fun c290 => ?_) (fun c290 => ?_)
        · refine zz_aload_n hx dL_ties_297 rfl ?_
          refine zz_iload hx dL_ties_298 rfl ?_
          refine zz_iload hx dL_ties_300 rfl ?_
          refine zz_callVi hx me_X3_members lk_L_39 (q_X3_members hst hI hS ov ⟨by omega, by omega⟩ hqn s hs) 0 rfl rfl ⟨rfl, rfl⟩ (by decide) (by decide) rfl rfl (Nat.le_of_ble_eq_true rfl) dL_ties_302 (fun _ _ h => h.elim) (fun r302 w302 hp302 => ?_)
          obtain ⟨hm9, rfl⟩ := hp302
          obtain rfl : r302 = ((mOf (ow s) ov (L s)).length : Int) := by
            rcases hm9 with z9 | z9
            · exact z9.2
            · exact absurd hiv z9.1
          clear hm9
          refine zz_istore (lv' := [(0, _), (1, _), (2, _), (3, _), (4, _), (5, _), (6, _), (7, _), (8, _), (9, _), (10, _), (11, _), (12, _), (13, _), (14, _), (15, _), (16, _)]) hx dL_ties_305 (by decide) rfl ?_
          refine zz_iload hx dL_ties_307 rfl ?_
          refine zz_if_ge hx 316 dL_ties_309 rfl (by omega) (fun c309 => ?_) (fun c309 => ?_)
          · refine zz_aload_n hx dL_ties_316 rfl ?_
            refine zz_iload hx dL_ties_317 rfl ?_
            refine zz_iload hx dL_ties_319 rfl ?_
            refine zz_iload hx dL_ties_321 rfl ?_
            refine zz_callSi hx ms_L_placeOf lk_L_92 (l_placeOf hst hJ s hs ov hiv (I 2) (by omega)) ⟨rfl, rfl⟩ (by decide) (by decide) rfl rfl (Nat.le_of_ble_eq_true rfl) dL_ties_323 (fun _ _ h => h.elim) (fun r323 w323 hp323 => ?_)
            obtain ⟨hx9, rfl⟩ := hp323
            refine zz_istore (lv' := [(0, _), (1, _), (2, _), (3, _), (4, _), (5, _), (6, _), (7, _), (8, _), (9, _), (10, _), (11, _), (12, _), (13, _), (14, _), (15, _), (16, _), (17, _)]) hx dL_ties_326 (by decide) rfl ?_
            exact j328 nn a cn _ _ hnn hyn hcn (fun z9 => absurd z9 hovc) (fun _ => ⟨rfl, hx9⟩)
          · omega
        · omega
    have j215 : ∀ nn a : Int, (to < 0 → nn = 0 ∧ a = -1) → (0 ≤ to → nn = ((mOf (ow s) to (L s)).length : Int) ∧ ixO (mOf (ow s) to (L s)) (P s 8) a) → Z l g ({ frames := 10, cells := 4, slots := 24, locals := 198 } : Room) 22 x 0 0 (wD g b c I Q P T N (rA g gA 30 Gr :: rA g tA 60 U :: rA g cA 3 C :: rest)) 215 [(0, .ref (b 0)), (1, vi 4), (2, vi xa), (3, vi ya), (4, .ref gA), (5, .ref tA), (6, .ref cA), (7, vi s), (8, vi (I 2)), (9, vi ov), (10, vi (P s 8)), (11, vi fi), (12, vi to), (13, vi nn), (14, vi a)] [] := by
      intro nn a hnn hyn
      refine zz_iload_n hx dL_ties_215 rfl ?_
      refine zz_iconst hx dL_ties_216 ?_
      refine zz_icmp_ne hx 243 dL_ties_217 rfl (by omega) (by omega) (fun c217 => ?_) (fun c217 => ?_)
      · refine zz_iload hx dL_ties_243 rfl ?_
        refine zz_if_lt hx 285 dL_ties_245 rfl (by omega) (fun c245 => ?_) (fun c245 => ?_)
        · refine zz_iconst hx dL_ties_285 ?_
          refine zz_istore (lv' := [(0, _), (1, _), (2, _), (3, _), (4, _), (5, _), (6, _), (7, _), (8, _), (9, _), (10, _), (11, _), (12, _), (13, _), (14, _), (15, _)]) hx dL_ties_286 (by decide) rfl ?_
          exact j288 nn a _ hnn hyn (by clear hyn; omega)
        · refine zz_iload_n hx dL_ties_248 rfl ?_
          refine zz_iconst hx dL_ties_249 ?_
          refine zz_icmp_ne hx 269 dL_ties_250 rfl (by omega) (by omega) (fun c250 => ?_) (fun c250 => ?_)
          · omega
          · refine zz_aload hx dL_ties_253 rfl ?_
            refine zz_iconst hx dL_ties_255 ?_
            refine zz_iload hx dL_ties_256 rfl ?_
            refine zz_imul hx dL_ties_258 ?_
            refine zz_iconst hx dL_ties_259 ?_
            refine zz_iadd hx dL_ties_260 ?_
            refine zr_ld hx 0 rfl (by decide) (by omega) (by omega) dL_ties_261 ?_
            refine zz_iconst hx dL_ties_262 ?_
            refine zz_icmp_ne hx 285 dL_ties_263 rfl (by omega) (by omega) (fun c263 => ?_) (fun c263 => ?_)
            · refine zz_iconst hx dL_ties_285 ?_
              refine zz_istore (lv' := [(0, _), (1, _), (2, _), (3, _), (4, _), (5, _), (6, _), (7, _), (8, _), (9, _), (10, _), (11, _), (12, _), (13, _), (14, _), (15, _)]) hx dL_ties_286 (by decide) rfl ?_
              exact j288 nn a _ hnn hyn (by clear hyn; omega)
            · refine zz_goto hx 281 dL_ties_266 rfl ?_
              refine zz_iconst hx dL_ties_281 ?_
              refine zz_goto hx 286 dL_ties_282 rfl ?_
              refine zz_istore (lv' := [(0, _), (1, _), (2, _), (3, _), (4, _), (5, _), (6, _), (7, _), (8, _), (9, _), (10, _), (11, _), (12, _), (13, _), (14, _), (15, _)]) hx dL_ties_286 (by decide) rfl ?_
              exact j288 nn a _ hnn hyn (by clear hyn; omega)
      · omega
    by_cases htc : to < 0
    · refine zz_iload hx dL_ties_175 rfl ?_
      refine zz_if_ge hx 184 dL_ties_177 rfl (by omega) (fun c177 => ?_) (fun c177 => ?_)
      · omega
      · refine zz_iconst hx dL_ties_180 ?_
        refine zz_goto hx 192 dL_ties_181 rfl ?_
        refine zz_istore (lv' := [(0, _), (1, _), (2, _), (3, _), (4, _), (5, _), (6, _), (7, _), (8, _), (9, _), (10, _), (11, _), (12, _), (13, _)]) hx dL_ties_192 (by decide) rfl ?_
        refine zz_iload hx dL_ties_194 rfl ?_
        refine zz_if_ge hx 203 dL_ties_196 rfl (by omega) (fun c196 => ?_) (fun c196 => ?_)
        · omega
        · refine zz_iconst hx dL_ties_199 ?_
          refine zz_goto hx 213 dL_ties_200 rfl ?_
          refine zz_istore (lv' := [(0, _), (1, _), (2, _), (3, _), (4, _), (5, _), (6, _), (7, _), (8, _), (9, _), (10, _), (11, _), (12, _), (13, _), (14, _)]) hx dL_ties_213 (by decide) rfl ?_
          exact j215 _ _ (fun _ => ⟨rfl, rfl⟩) (fun z9 => absurd htc (by omega))
    · have hiv := hto (by omega)
      have hvo := J_own hJ hs.1 hs.2 hiv
      have hqn : Q 0 to ≠ -1 := by have := hvo.2.1; omega
      have hvr := hvo.1
      refine zz_iload hx dL_ties_175 rfl ?_
      refine zz_if_ge hx 184 dL_ties_177 rfl (by omega) (fun c177 => ?_) (fun c177 => ?_)
      · refine zz_aload_n hx dL_ties_184 rfl ?_
        refine zz_iload hx dL_ties_185 rfl ?_
        refine zz_iload hx dL_ties_187 rfl ?_
        refine zz_callVi hx me_X3_members lk_L_39 (q_X3_members hst hI hS to ⟨by omega, by omega⟩ hqn s hs) 0 rfl rfl ⟨rfl, rfl⟩ (by decide) (by decide) rfl rfl (Nat.le_of_ble_eq_true rfl) dL_ties_189 (fun _ _ h => h.elim) (fun r189 w189 hp189 => ?_)
        obtain ⟨hm9, rfl⟩ := hp189
        obtain rfl : r189 = ((mOf (ow s) to (L s)).length : Int) := by
          rcases hm9 with z9 | z9
          · exact z9.2
          · exact absurd hiv z9.1
        clear hm9
        refine zz_istore (lv' := [(0, _), (1, _), (2, _), (3, _), (4, _), (5, _), (6, _), (7, _), (8, _), (9, _), (10, _), (11, _), (12, _), (13, _)]) hx dL_ties_192 (by decide) rfl ?_
        refine zz_iload hx dL_ties_194 rfl ?_
        refine zz_if_ge hx 203 dL_ties_196 rfl (by omega) (fun c196 => ?_) (fun c196 => ?_)
        · refine zz_aload_n hx dL_ties_203 rfl ?_
          refine zz_iload hx dL_ties_204 rfl ?_
          refine zz_iload hx dL_ties_206 rfl ?_
          refine zz_iload hx dL_ties_208 rfl ?_
          refine zz_callSi hx ms_L_placeOf lk_L_92 (l_placeOf hst hJ s hs to hiv (P s 8) (by omega)) ⟨rfl, rfl⟩ (by decide) (by decide) rfl rfl (Nat.le_of_ble_eq_true rfl) dL_ties_210 (fun _ _ h => h.elim) (fun r210 w210 hp210 => ?_)
          obtain ⟨hx9, rfl⟩ := hp210
          refine zz_istore (lv' := [(0, _), (1, _), (2, _), (3, _), (4, _), (5, _), (6, _), (7, _), (8, _), (9, _), (10, _), (11, _), (12, _), (13, _), (14, _)]) hx dL_ties_213 (by decide) rfl ?_
          exact j215 _ _ (fun z9 => absurd z9 htc) (fun _ => ⟨rfl, hx9⟩)
        · omega
      · omega
  have j75 : ∀ ov fi : Int, ((I 2 = -1 ∧ ov = -1) ∨ (0 ≤ I 2 ∧ ov = ow s (I 2))) → (0 ≤ ov → isO s ov ∧ (0 ≤ ov ∧ ov < I 0) ∧ Q 0 ov ≠ -1) → (-1 ≤ ov ∧ ov < 60) → ((fi = 1 ∧ (0 ≤ I 2 ∧ Q 0 (I 2) = P s 1)) ∨ (fi = 0 ∧ ¬ (0 ≤ I 2 ∧ Q 0 (I 2) = P s 1))) → Z l g ({ frames := 10, cells := 4, slots := 24, locals := 198 } : Room) 22 x 0 0 (wD g b c I Q P T N (rA g gA 30 Gr :: rA g tA 60 U :: rA g cA 3 C :: rest)) 75 [(0, .ref (b 0)), (1, vi 4), (2, vi xa), (3, vi ya), (4, .ref gA), (5, .ref tA), (6, .ref cA), (7, vi s), (8, vi (I 2)), (9, vi ov), (10, vi (P s 8)), (11, vi fi)] [] := by
    intro ov fi hov hoo hor hfi
    refine zz_iload_n hx dL_ties_75 rfl ?_
    refine zz_iconst hx dL_ties_76 ?_
    refine zz_icmp_ne hx 93 dL_ties_77 rfl (by omega) (by omega) (fun c77 => ?_) (fun c77 => ?_)
    · refine zz_iload_n hx dL_ties_93 rfl ?_
      refine zz_iconst hx dL_ties_94 ?_
      refine zz_icmp_ne hx 109 dL_ties_95 rfl (by omega) (by omega) (fun c95 => ?_) (fun c95 => ?_)
      · refine zz_iconst hx dL_ties_109 ?_
        refine zz_istore (lv' := [(0, _), (1, _), (2, _), (3, _), (4, _), (5, _), (6, _), (7, _), (8, _), (9, _), (10, _), (11, _), (12, _)]) hx dL_ties_110 (by decide) rfl ?_
        refine zz_iload_n hx dL_ties_112 rfl ?_
        refine zz_iconst hx dL_ties_113 ?_
        refine zz_icmp_ne hx 175 dL_ties_114 rfl (by omega) (by omega) (fun c114 => ?_) (fun c114 => ?_)
        · exact j175 ov fi _ hov hoo hor hfi (by omega) (fun z9 => absurd z9 (by decide)) rfl
        · omega
      · omega
    · omega
  have j31 : ∀ ov : Int, ((I 2 = -1 ∧ ov = -1) ∨ (0 ≤ I 2 ∧ ov = ow s (I 2))) → (0 ≤ ov → isO s ov ∧ (0 ≤ ov ∧ ov < I 0) ∧ Q 0 ov ≠ -1) → (-1 ≤ ov ∧ ov < 60) → Z l g ({ frames := 10, cells := 4, slots := 24, locals := 198 } : Room) 22 x 0 0 (wD g b c I Q P T N (rA g gA 30 Gr :: rA g tA 60 U :: rA g cA 3 C :: rest)) 31 [(0, .ref (b 0)), (1, vi 4), (2, vi xa), (3, vi ya), (4, .ref gA), (5, .ref tA), (6, .ref cA), (7, vi s), (8, vi (I 2))] [vi ov] := by
    intro ov hov hoo hor
    refine zz_istore (lv' := [(0, _), (1, _), (2, _), (3, _), (4, _), (5, _), (6, _), (7, _), (8, _), (9, _)]) hx dL_ties_31 (by decide) rfl ?_
    refine zz_aload_n hx dL_ties_33 rfl ?_
    refine zz_iload hx dL_ties_34 rfl ?_
    refine zz_callVi hx me_X3_currentIn lk_L_52 (q_X3_currentIn hst hI hS s hs) 0 rfl rfl ⟨rfl, rfl⟩ (by decide) (by decide) rfl rfl (Nat.le_of_ble_eq_true rfl) dL_ties_36 (fun _ _ h => h.elim) (fun r36 w36 hp36 => ?_)
    obtain ⟨rfl, rfl⟩ := hp36
    refine zz_istore (lv' := [(0, _), (1, _), (2, _), (3, _), (4, _), (5, _), (6, _), (7, _), (8, _), (9, _), (10, _)]) hx dL_ties_39 (by decide) rfl ?_
    refine zz_iload hx dL_ties_41 rfl ?_
    refine zz_if_lt hx 72 dL_ties_43 rfl (by omega) (fun c43 => ?_) (fun c43 => ?_)
    · refine zz_iconst hx dL_ties_72 ?_
      refine zz_istore (lv' := [(0, _), (1, _), (2, _), (3, _), (4, _), (5, _), (6, _), (7, _), (8, _), (9, _), (10, _), (11, _)]) hx dL_ties_73 (by decide) rfl ?_
      exact j75 ov _ hov hoo hor (by clear hoo; omega)
    · have hu9 := kU_at hU hI (k := I 2) (by omega) (by omega)
      refine zz_aload hx dL_ties_46 rfl ?_
      refine zz_iload hx dL_ties_48 rfl ?_
      refine zr_ld hx 1 rfl (by decide) (by omega) (by omega) dL_ties_50 ?_
      refine zz_bipush hx dL_ties_51 rfl ?_
      refine zz_and7 hx dL_ties_53 (by omega) (by omega) ?_
      refine zz_iconst hx dL_ties_54 ?_
      refine zz_isub hx dL_ties_55 ?_
      refine zz_aload hx dL_ties_56 rfl ?_
      refine zz_iconst hx dL_ties_58 ?_
      refine zz_iload hx dL_ties_59 rfl ?_
      refine zz_imul hx dL_ties_61 ?_
      refine zz_iconst hx dL_ties_62 ?_
      refine zz_iadd hx dL_ties_63 ?_
      refine zr_ld hx 0 rfl (by decide) (by omega) (by omega) dL_ties_64 ?_
      refine zz_icmp_ne hx 72 dL_ties_65 rfl (by omega) (by omega) (fun c65 => ?_) (fun c65 => ?_)
      · refine zz_iconst hx dL_ties_72 ?_
        refine zz_istore (lv' := [(0, _), (1, _), (2, _), (3, _), (4, _), (5, _), (6, _), (7, _), (8, _), (9, _), (10, _), (11, _)]) hx dL_ties_73 (by decide) rfl ?_
        exact j75 ov _ hov hoo hor (by clear hoo; omega)
      · refine zz_iconst hx dL_ties_68 ?_
        refine zz_goto hx 73 dL_ties_69 rfl ?_
        refine zz_istore (lv' := [(0, _), (1, _), (2, _), (3, _), (4, _), (5, _), (6, _), (7, _), (8, _), (9, _), (10, _), (11, _)]) hx dL_ties_73 (by decide) rfl ?_
        exact j75 ov _ hov hoo hor (by clear hoo; omega)
  refine zz_aload_n hx dL_ties_8 rfl ?_
  refine zz_callVi hx me_X3_current lk_L_74 (k_X3_current hst) 0 rfl rfl ⟨rfl, rfl⟩ (by decide) (by decide) rfl rfl (Nat.le_of_ble_eq_true rfl) dL_ties_9 (fun _ _ h => h.elim) (fun r9 w9 hp9 => ?_)
  obtain ⟨rfl, rfl⟩ := hp9
  refine zz_istore (lv' := [(0, _), (1, _), (2, _), (3, _), (4, _), (5, _), (6, _), (7, _), (8, _)]) hx dL_ties_12 (by decide) rfl ?_
  refine zz_iload hx dL_ties_14 rfl ?_
  refine zz_if_ge hx 23 dL_ties_16 rfl (by omega) (fun c16 => ?_) (fun c16 => ?_)
  · have hi20 := J_i2 hJ (show I 2 ≠ -1 by omega)
    refine zz_aload_n hx dL_ties_23 rfl ?_
    refine zz_iload hx dL_ties_24 rfl ?_
    refine zz_iload hx dL_ties_26 rfl ?_
    refine zz_callVi hx me_X3_ownerOf lk_L_36 (q_X3_ownerOf hst hI hS (I 2) ⟨hi20.1, hi20.2.2.1⟩ hi20.2.2.2 s hs) 0 rfl rfl ⟨rfl, rfl⟩ (by decide) (by decide) rfl rfl (Nat.le_of_ble_eq_true rfl) dL_ties_28 (fun _ _ h => h.elim) (fun r28 w28 hp28 => ?_)
    obtain ⟨rfl, rfl⟩ := hp28
    have how := J_ow hJ hs.1 hs.2 hi20.1 hi20.2.2.1
    have hob : -1 ≤ ow s (I 2) ∧ ow s (I 2) < 60 := by
      rcases how with ⟨z, -⟩ | z
      · omega
      · exact ⟨by omega, by omega⟩
    have hov9 : 0 ≤ ow s (I 2) → isO s (ow s (I 2)) ∧ (0 ≤ ow s (I 2) ∧ ow s (I 2) < I 0) ∧ Q 0 (ow s (I 2)) ≠ -1 := fun z9 => by
      rcases how with ⟨z, -⟩ | z
      · omega
      · exact ⟨z.2.2.2.2.1, ⟨z.1, z.2.1⟩, by have := z.2.2.2.2.2.2; omega⟩
    first
      | exact j31 _ (Or.inr ⟨by omega, rfl⟩) hov9 hob
      | exact j31 _ (Or.inl ⟨by omega, rfl⟩) (fun z9 => absurd z9 (by decide)) (by omega)
  · refine zz_iconst hx dL_ties_19 ?_
    refine zz_goto hx 31 dL_ties_20 rfl ?_
    first
      | exact j31 _ (Or.inr ⟨by omega, rfl⟩) hov9 hob
      | exact j31 _ (Or.inl ⟨by omega, rfl⟩) (fun z9 => absurd z9 (by decide)) (by omega)

set_option maxHeartbeats 4000000 in
set_option maxRecDepth 100000 in
theorem l_ties5 {l : Launch} {g : zG} {b : Nat → Nat} {c : Int → Nat → Nat} {I : Nat → Int} {Q : Nat → Int → Int} {P : Int → Nat → Int} {T : Int → Nat → Int → Int} {N : Nat} {ow : Int → Int → Int} {isO : Int → Int → Prop} {L : Int → List Int} {rest : va_W} (hst : l.stackTraces = false) {gA tA cA : Nat} {Gr U C : Int → Int} (hJ : J I Q P T N ow isO L) (hC : kC I N C) (hU : kU Q U) (hG : kG P N Gr) (hN0 : 0 < N) (xa ya : Int) (hx0 : 0 ≤ xa ∧ xa < 1073741824) (hy0 : 0 ≤ ya ∧ ya < 1073741824) : zMn l g yL_ties cL_ties 22 (Option.some FieldType.boolean) ({ frames := 10, cells := 4, slots := 24, locals := 198 } : Room) [.ref (b 0), vi 5, vi xa, vi ya, .ref gA, .ref tA, .ref cA] (wD g b c I Q P T N (rA g gA 30 Gr :: rA g tA 60 U :: rA g cA 3 C :: rest)) (zI fun v w => v = 1 ∧ (jW g b c N gA tA cA Gr rest w)) 4 24 := by
  have hI := hJ.1
  have hS := hJ.2.1
  have hi0 := hI.2.2.2.2.2.2.1
  have hN6 := hI.2.1
  obtain ⟨hc0, hc1, hc2⟩ := id hC
  have hi2 := hI.2.2.1
  refine zMn_of (lv0 := [(0, _), (1, _), (2, _), (3, _), (4, _), (5, _), (6, _)]) hst rfl (by decide +kernel) (Nat.le_of_ble_eq_true rfl) rfl (fun x hx hf hnc => ?_)
  refine zz_iload_n hx dL_ties_0 rfl ?_
  refine zz_aload hx dL_ties_1 rfl ?_
  refine zz_iconst hx dL_ties_3 ?_
  refine zr_ld hx 2 rfl (by decide) (by omega) (by omega) dL_ties_4 ?_
  rw [hc0]
  refine zz_irem hx dL_ties_5 (by omega) (by omega) (by omega) (by omega) ?_
  have hs : 0 ≤ xa % (N : Int) ∧ xa % (N : Int) < (N : Int) := ⟨Int.emod_nonneg xa (by omega), Int.emod_lt_of_pos xa (by omega)⟩
  generalize hse : xa % (N : Int) = s at *
  refine zz_istore (lv' := [(0, _), (1, _), (2, _), (3, _), (4, _), (5, _), (6, _), (7, _)]) hx dL_ties_6 (by decide) rfl ?_
  have hg9 := kG_at hG hS hs
  have hr8 := hg9.2.2.2.2.2.2.2
  have j175 : ∀ ov fi to : Int, ((I 2 = -1 ∧ ov = -1) ∨ (0 ≤ I 2 ∧ ov = ow s (I 2))) → (0 ≤ ov → isO s ov ∧ (0 ≤ ov ∧ ov < I 0) ∧ Q 0 ov ≠ -1) → (-1 ≤ ov ∧ ov < 60) → ((fi = 1 ∧ (0 ≤ I 2 ∧ Q 0 (I 2) = P s 1)) ∨ (fi = 0 ∧ ¬ (0 ≤ I 2 ∧ Q 0 (I 2) = P s 1))) → (-1 ≤ to ∧ to < 60) → (0 ≤ to → isO s to) → 0 ≤ to → Z l g ({ frames := 10, cells := 4, slots := 24, locals := 198 } : Room) 22 x 0 0 (wD g b c I Q P T N (rA g gA 30 Gr :: rA g tA 60 U :: rA g cA 3 C :: rest)) 175 [(0, .ref (b 0)), (1, vi 5), (2, vi xa), (3, vi ya), (4, .ref gA), (5, .ref tA), (6, .ref cA), (7, vi s), (8, vi (I 2)), (9, vi ov), (10, vi (P s 8)), (11, vi fi), (12, vi to)] [] := by
    intro ov fi to hov hoo hor hfi htr hto htoh
    have j328 : ∀ nn a cn ou mi : Int, (to < 0 → nn = 0 ∧ a = -1) → (0 ≤ to → nn = ((mOf (ow s) to (L s)).length : Int) ∧ ixO (mOf (ow s) to (L s)) (P s 8) a) → ((cn = 1 ∧ (0 ≤ ov ∧ 0 < P s 4)) ∨ (cn = 0 ∧ ¬ (0 ≤ ov ∧ 0 < P s 4))) → (ov < 0 → ou = 0 ∧ mi = -1) → (0 ≤ ov → ou = ((mOf (ow s) ov (L s)).length : Int) ∧ ixO (mOf (ow s) ov (L s)) (I 2) mi) → Z l g ({ frames := 10, cells := 4, slots := 24, locals := 198 } : Room) 22 x 0 0 (wD g b c I Q P T N (rA g gA 30 Gr :: rA g tA 60 U :: rA g cA 3 C :: rest)) 328 [(0, .ref (b 0)), (1, vi 5), (2, vi xa), (3, vi ya), (4, .ref gA), (5, .ref tA), (6, .ref cA), (7, vi s), (8, vi (I 2)), (9, vi ov), (10, vi (P s 8)), (11, vi fi), (12, vi to), (13, vi nn), (14, vi a), (15, vi cn), (16, vi ou), (17, vi mi)] [] := by
      intro nn a cn ou mi hnn hyn hcn hno hyo
      refine zz_aload_n hx dL_ties_328 rfl ?_
      refine zz_iload_n hx dL_ties_329 rfl ?_
      refine zz_iload hx dL_ties_330 rfl ?_
      refine zz_iload hx dL_ties_332 rfl ?_
      refine zz_callW hx hnc mw_L_acts lk_L_112 (l_acts5 hst hJ s to hs (by omega)) ⟨rfl, rfl⟩ (by decide) (by decide) rfl rfl (Nat.le_of_ble_eq_true rfl) dL_ties_334 (fun r334 w334 hp334 => ?_)
      rcases hp334 with ⟨e334, rfl, hnB⟩ | ⟨-, -, hni⟩ | ⟨hio2, hB, T1, T2, j, p, rfl, hot, hj, hfp, hi, hv⟩
      · have hncan : ¬ (0 ≤ ov ∧ 0 < P s 4) := fun z9 => hnB (fun _ => ⟨(J_isM hJ hs.1 hs.2).mpr ⟨by omega, by omega⟩, by omega⟩)
        refine zz_istore (lv' := [(0, _), (1, _), (2, _), (3, _), (4, _), (5, _), (6, _), (7, _), (8, _), (9, _), (10, _), (11, _), (12, _), (13, _), (14, _), (15, _), (16, _), (17, _), (18, _)]) hx dL_ties_337 (by decide) rfl ?_
        refine zz_iload hx dL_ties_339 rfl ?_
        refine zz_if_ne hx 358 dL_ties_341 rfl (by omega) (fun c341 => ?_) (fun c341 => ?_)
        · omega
        · refine zz_iload hx dL_ties_344 rfl ?_
          refine zz_sipush hx dL_ties_346 rfl ?_
          refine zz_icmp_ne hx 356 dL_ties_349 rfl (by omega) (by omega) (fun c349 => ?_) (fun c349 => ?_)
          · omega
          · refine zz_iconst hx dL_ties_352 ?_
            refine zz_goto hx 357 dL_ties_353 rfl ?_
            exact zz_zret hx hf dL_ties_357 (Or.inr rfl) ⟨_, rfl, rfl, I, Q, P, T, ow, isO, L, U, C, rfl, hJ, hC, hU, hG⟩ (by decide) (by decide)
      · exact absurd (hto (by omega)) hni
      · have hB2 := (J_isM hJ hs.1 hs.2).mp hB.1
        have hi20 := J_i2 hJ hB.1.1
        have hov2 : ov = ow s (I 2) := by omega
        obtain ⟨hJ2, hpl, hlen, hsm, hdf⟩ := J_rec hJ hs.1 hs.2 hB2 hio2 hot hj hfp hi
        have hq2 := J_own hJ hs.1 hs.2 hio2
        obtain ⟨hn1, hn2⟩ := hyn (by omega)
        obtain ⟨ho1, ho2⟩ := hyo (by omega)
        have har := ixO_rng hn2
        have hmr := ixO_rng ho2
        have hm60 := (J_mm hJ hs.1 hs.2 hio2).2.1
        have hm61 := (J_mm hJ hs.1 hs.2 (hoo (by omega)).1).2.1
        have eo : (upI ow s (zup (zup (ow s) (I 2) (-1)) (I 2) to)) s (I 2) = to := by rw [upI_s, zup_s]
        have ep : (upI P s (Fup (P s) 8 (I 2))) s 8 = I 2 := by rw [upI_s, Fup_s]
        have eM : ((mOf ((upI ow s (zup (zup (ow s) (I 2) (-1)) (I 2) to)) s) to ((upI L s (zinsl (zdel (L s) (I 2)) p (I 2))) s)).length : Int) = ((mOf (zup (ow s) (I 2) (-1)) to (zdel (L s) (I 2))).length : Int) + 1 := by rw [upI_s, upI_s, hlen]; omega
        have hpl2 : ∀ a2 : Int, ixO (mOf (zup (ow s) (I 2) (-1)) to (zdel (L s) (I 2))) (P s 8) a2 → plO (Q 1) ((upI P s (Fup (P s) 8 (I 2))) s 2) ((mOf (zup (ow s) (I 2) (-1)) to (zdel (L s) (I 2))).length : Int) a2 (mOf ((upI ow s (zup (zup (ow s) (I 2) (-1)) (I 2) to)) s) to ((upI L s (zinsl (zdel (L s) (I 2)) p (I 2))) s)) (I 2) j := fun a2 ha2 => by
          rw [upP_k s (by decide), upI_s, upI_s]
          exact hpl a2 ha2
        by_cases hst9 : ov = to
        · have hmem : I 2 ∈ mOf (ow s) to (L s) := by
            rcases J_ow hJ hs.1 hs.2 hi20.1 hi20.2.2.1 with ⟨y9, -⟩ | y9
            · omega
            · exact mOf_mem.mpr ⟨y9.2.2.2.1, by omega⟩
          have hM1 := hsm (by omega)
          have hl1 : ((mOf (zup (ow s) (I 2) (-1)) to (zdel (L s) (I 2))).length : Int) = nn - 1 := by
            rw [hM1, hn1]
            have := len_del (J_mm hJ hs.1 hs.2 hio2).1 hmem
            omega
          rw [hst9] at ho2
          have hdel := ixO_del (J_mm hJ hs.1 hs.2 hio2).1 hn2 ho2 hmem
          rw [← hM1] at hdel
          rw [hl1] at eM hpl2
          have j472 : ∀ pv : Int, ((P s 8 = I 2 ∧ pv = -1) ∨ (P s 8 ≠ I 2 ∧ mi < a ∧ pv = a - 1) ∨ (P s 8 ≠ I 2 ∧ ¬ mi < a ∧ pv = a)) → Z l g ({ frames := 10, cells := 4, slots := 24, locals := 198 } : Room) 22 x 4 24 (wD g b c I Q (upI P s (Fup (P s) 8 (I 2))) (upI T s T2) N (rA g gA 30 Gr :: rA g tA 60 U :: rA g cA 3 C :: rest)) 472 [(0, .ref (b 0)), (1, vi 5), (2, vi xa), (3, vi ya), (4, .ref gA), (5, .ref tA), (6, .ref cA), (7, vi s), (8, vi (I 2)), (9, vi ov), (10, vi (P s 8)), (11, vi fi), (12, vi to), (13, vi nn), (14, vi a), (15, vi cn), (16, vi ou), (17, vi mi), (18, vi r334), (19, vi 1)] [vi pv] := by
            intro pv hpv
            have hpe : (if P s 8 = I 2 then -1 else if mi < a then a - 1 else a) = pv := by
              by_cases c1 : P s 8 = I 2
              · rw [if_pos c1]; omega
              · rw [if_neg c1]
                by_cases c2 : mi < a
                · rw [if_pos c2]; omega
                · rw [if_neg c2]; omega
            rw [hpe] at hdel
            have hpl3 := hpl2 pv hdel
            refine zz_istore (lv' := [(0, _), (1, _), (2, _), (3, _), (4, _), (5, _), (6, _), (7, _), (8, _), (9, _), (10, _), (11, _), (12, _), (13, _), (14, _), (15, _), (16, _), (17, _), (18, _), (19, _), (20, _)]) hx dL_ties_472 (by decide) rfl ?_
            refine zz_aload_n hx dL_ties_474 rfl ?_
            refine zz_iload hx dL_ties_475 rfl ?_
            refine zz_iload hx dL_ties_477 rfl ?_
            refine zz_callVi hx me_X3_ownerOf lk_L_36 (q_X3_ownerOf hst hJ2.1 hJ2.2.1 (I 2) ⟨hi20.1, hi20.2.2.1⟩ hi20.2.2.2 s hs) 0 rfl rfl ⟨rfl, rfl⟩ (by decide) (by decide) rfl rfl (Nat.le_of_ble_eq_true rfl) dL_ties_479 (fun _ _ h => h.elim) (fun r479 w479 hp479 => ?_)
            obtain ⟨rfl, rfl⟩ := hp479
            refine zz_iload hx dL_ties_482 rfl ?_
            refine zz_icmp_ne hx 542 dL_ties_484 rfl (by omega) (by omega) (fun c484 => ?_) (fun c484 => ?_)
            · omega
            · refine zz_aload_n hx dL_ties_487 rfl ?_
              refine zz_iload hx dL_ties_488 rfl ?_
              refine zz_callVi hx me_X3_currentIn lk_L_52 (q_X3_currentIn hst hJ2.1 hJ2.2.1 s hs) 0 rfl rfl ⟨rfl, rfl⟩ (by decide) (by decide) rfl rfl (Nat.le_of_ble_eq_true rfl) dL_ties_490 (fun _ _ h => h.elim) (fun r490 w490 hp490 => ?_)
              obtain ⟨rfl, rfl⟩ := hp490
              refine zz_iload hx dL_ties_493 rfl ?_
              refine zz_icmp_ne hx 542 dL_ties_495 rfl (by omega) (by omega) (fun c495 => ?_) (fun c495 => ?_)
              · omega
              · refine zz_aload_n hx dL_ties_498 rfl ?_
                refine zz_callVi hx me_X3_current lk_L_74 (k_X3_current hst) 0 rfl rfl ⟨rfl, rfl⟩ (by decide) (by decide) rfl rfl (Nat.le_of_ble_eq_true rfl) dL_ties_499 (fun _ _ h => h.elim) (fun r499 w499 hp499 => ?_)
                obtain ⟨rfl, rfl⟩ := hp499
                refine zz_iload hx dL_ties_502 rfl ?_
                refine zz_icmp_ne hx 542 dL_ties_504 rfl (by omega) (by omega) (fun c504 => ?_) (fun c504 => ?_)
                · omega
                · refine zz_iload hx dL_ties_507 rfl ?_
                  refine zz_aload_n hx dL_ties_509 rfl ?_
                  refine zz_iload hx dL_ties_510 rfl ?_
                  refine zz_iload hx dL_ties_512 rfl ?_
                  refine zz_callVi hx me_X3_members lk_L_39 (q_X3_members hst hJ2.1 hJ2.2.1 to ⟨hq2.1.1, by omega⟩ (by have := hq2.2.1; omega) s hs) 0 rfl rfl ⟨rfl, rfl⟩ (by decide) (by decide) rfl rfl (Nat.le_of_ble_eq_true rfl) dL_ties_514 (fun _ _ h => h.elim) (fun r514 w514 hp514 => ?_)
                  obtain ⟨hm9, rfl⟩ := hp514
                  obtain rfl : r514 = ((mOf ((upI ow s (zup (zup (ow s) (I 2) (-1)) (I 2) to)) s) to ((upI L s (zinsl (zdel (L s) (I 2)) p (I 2))) s)).length : Int) := by
                    rcases hm9 with z9 | z9
                    · exact z9.2
                    · exact absurd hio2 z9.1
                  have hv2 : r334 = ((mOf ((upI ow s (zup (zup (ow s) (I 2) (-1)) (I 2) to)) s) to ((upI L s (zinsl (zdel (L s) (I 2)) p (I 2))) s)).length : Int) := by rw [hv, upI_s, upI_s]
                  refine zz_icmp_ne hx 542 dL_ties_517 rfl (by omega) (by omega) (fun c517 => ?_) (fun c517 => ?_)
                  · omega
                  · refine zz_iload hx dL_ties_520 rfl ?_
                    refine zz_iload hx dL_ties_522 rfl ?_
                    refine zz_iload hx dL_ties_524 rfl ?_
                    refine zz_if_eq hx 533 dL_ties_526 rfl (by decide) (fun z => absurd z (by decide)) (fun _ => ?_)
                    refine zz_iconst hx dL_ties_529 ?_
                    refine zz_goto hx 534 dL_ties_530 rfl ?_
                    refine zz_iadd hx dL_ties_534 ?_
                    refine zz_icmp_ne hx 542 dL_ties_535 rfl (by omega) (by omega) (fun c535 => ?_) (fun c535 => ?_)
                    · omega
                    · refine zz_iconst hx dL_ties_538 ?_
                      refine zz_goto hx 543 dL_ties_539 rfl ?_
                      refine zz_istore (lv' := [(0, _), (1, _), (2, _), (3, _), (4, _), (5, _), (6, _), (7, _), (8, _), (9, _), (10, _), (11, _), (12, _), (13, _), (14, _), (15, _), (16, _), (17, _), (18, _), (19, _), (20, _), (21, _)]) hx dL_ties_543 (by decide) rfl ?_
                      refine zz_iload hx dL_ties_545 rfl ?_
                      refine zz_if_eq hx 585 dL_ties_547 rfl (by decide) (fun z => absurd z (by decide)) (fun _ => ?_)
                      refine zz_aload_n hx dL_ties_550 rfl ?_
                      refine zz_aload hx dL_ties_551 rfl ?_
                      refine zz_iload hx dL_ties_553 rfl ?_
                      refine zz_iload hx dL_ties_555 rfl ?_
                      refine zz_iload hx dL_ties_557 rfl ?_
                      refine zz_iload hx dL_ties_559 rfl ?_
                      refine zz_if_eq hx 571 dL_ties_561 rfl (by decide) (fun z => absurd z (by decide)) (fun _ => ?_)
                      refine zz_iload hx dL_ties_564 rfl ?_
                      refine zz_iconst hx dL_ties_566 ?_
                      refine zz_isub hx dL_ties_567 ?_
                      refine zz_goto hx 573 dL_ties_568 rfl ?_
                      refine zz_iload hx dL_ties_573 rfl ?_
                      refine zz_callSi hx ms_L_isPlaced lk_L_115 (l_isPlaced hst hJ2 hC hU (kG_P hG (fun t _ _ k hk => upP_k t hk)) s hs to hio2 (I 2) (nn - 1) pv j (by omega) hpl3) ⟨rfl, rfl⟩ (by decide) (by decide) rfl rfl (Nat.le_of_ble_eq_true rfl) dL_ties_575 (fun _ _ h => h.elim) (fun r575 w575 hp575 => ?_)
                      obtain ⟨rfl, rfl⟩ := hp575
                      refine zz_if_eq hx 585 dL_ties_578 rfl (by decide) (fun z => absurd z (by decide)) (fun _ => ?_)
                      refine zz_iconst hx dL_ties_581 ?_
                      refine zz_goto hx 586 dL_ties_582 rfl ?_
                      exact zz_zret hx hf dL_ties_586 (Or.inr rfl) ⟨_, rfl, rfl, I, Q, (upI P s (Fup (P s) 8 (I 2))), (upI T s T2), (upI ow s (zup (zup (ow s) (I 2) (-1)) (I 2) to)), isO, (upI L s (zinsl (zdel (L s) (I 2)) p (I 2))), U, C, rfl, hJ2, hC, hU, kG_P hG (fun t _ _ k hk => upP_k t hk)⟩ (by decide) (by decide)
          refine zz_istore (lv' := [(0, _), (1, _), (2, _), (3, _), (4, _), (5, _), (6, _), (7, _), (8, _), (9, _), (10, _), (11, _), (12, _), (13, _), (14, _), (15, _), (16, _), (17, _), (18, _)]) hx dL_ties_337 (by decide) rfl ?_
          refine zz_iload hx dL_ties_339 rfl ?_
          refine zz_if_ne hx 358 dL_ties_341 rfl (by omega) (fun c341 => ?_) (fun c341 => ?_)
          · refine zz_iload_n hx dL_ties_358 rfl ?_
            refine zz_iconst hx dL_ties_359 ?_
            refine zz_icmp_ne hx 421 dL_ties_360 rfl (by omega) (by omega) (fun c360 => ?_) (fun c360 => ?_)
            · refine zz_iload hx dL_ties_421 rfl ?_
              refine zz_iload hx dL_ties_423 rfl ?_
              refine zz_icmp_ne hx 432 dL_ties_425 rfl (by omega) (by omega) (fun c425 => ?_) (fun c425 => ?_)
              · omega
              · refine zz_iconst hx dL_ties_428 ?_
                refine zz_goto hx 433 dL_ties_429 rfl ?_
                refine zz_istore (lv' := [(0, _), (1, _), (2, _), (3, _), (4, _), (5, _), (6, _), (7, _), (8, _), (9, _), (10, _), (11, _), (12, _), (13, _), (14, _), (15, _), (16, _), (17, _), (18, _), (19, _)]) hx dL_ties_433 (by decide) rfl ?_
                refine zz_iload hx dL_ties_435 rfl ?_
                refine zz_if_eq hx 451 dL_ties_437 rfl (by decide) (fun z => absurd z (by decide)) (fun _ => ?_)
                refine zz_iload hx dL_ties_440 rfl ?_
                refine zz_iload hx dL_ties_442 rfl ?_
                refine zz_icmp_ne hx 451 dL_ties_444 rfl (by omega) (by omega) (fun c444 => ?_) (fun c444 => ?_)
                · refine zz_iload hx dL_ties_451 rfl ?_
                  refine zz_if_eq hx 470 dL_ties_453 rfl (by decide) (fun z => absurd z (by decide)) (fun _ => ?_)
                  refine zz_iload hx dL_ties_456 rfl ?_
                  refine zz_iload hx dL_ties_458 rfl ?_
                  refine zz_icmp_le hx 470 dL_ties_460 rfl (by omega) (by omega) (fun c460 => ?_) (fun c460 => ?_)
                  · refine zz_iload hx dL_ties_470 rfl ?_
                    exact j472 _ (by omega)
                  · refine zz_iload hx dL_ties_463 rfl ?_
                    refine zz_iconst hx dL_ties_465 ?_
                    refine zz_isub hx dL_ties_466 ?_
                    refine zz_goto hx 472 dL_ties_467 rfl ?_
                    exact j472 _ (by omega)
                · refine zz_iconst hx dL_ties_447 ?_
                  refine zz_goto hx 472 dL_ties_448 rfl ?_
                  exact j472 _ (by omega)
            · omega
          · omega
        · have hM1 := hdf (by omega)
          rw [hM1] at eM hpl2
          rw [← hn1] at eM hpl2
          have hpl3 := hpl2 a hn2
          refine zz_istore (lv' := [(0, _), (1, _), (2, _), (3, _), (4, _), (5, _), (6, _), (7, _), (8, _), (9, _), (10, _), (11, _), (12, _), (13, _), (14, _), (15, _), (16, _), (17, _), (18, _)]) hx dL_ties_337 (by decide) rfl ?_
          refine zz_iload hx dL_ties_339 rfl ?_
          refine zz_if_ne hx 358 dL_ties_341 rfl (by omega) (fun c341 => ?_) (fun c341 => ?_)
          · refine zz_iload_n hx dL_ties_358 rfl ?_
            refine zz_iconst hx dL_ties_359 ?_
            refine zz_icmp_ne hx 421 dL_ties_360 rfl (by omega) (by omega) (fun c360 => ?_) (fun c360 => ?_)
            · refine zz_iload hx dL_ties_421 rfl ?_
              refine zz_iload hx dL_ties_423 rfl ?_
              refine zz_icmp_ne hx 432 dL_ties_425 rfl (by omega) (by omega) (fun c425 => ?_) (fun c425 => ?_)
              · refine zz_iconst hx dL_ties_432 ?_
                refine zz_istore (lv' := [(0, _), (1, _), (2, _), (3, _), (4, _), (5, _), (6, _), (7, _), (8, _), (9, _), (10, _), (11, _), (12, _), (13, _), (14, _), (15, _), (16, _), (17, _), (18, _), (19, _)]) hx dL_ties_433 (by decide) rfl ?_
                refine zz_iload hx dL_ties_435 rfl ?_
                refine zz_if_eq hx 451 dL_ties_437 rfl (by decide) (fun _ => ?_) (fun z => absurd rfl z)
                refine zz_iload hx dL_ties_451 rfl ?_
                refine zz_if_eq hx 470 dL_ties_453 rfl (by decide) (fun _ => ?_) (fun z => absurd rfl z)
                refine zz_iload hx dL_ties_470 rfl ?_
                refine zz_istore (lv' := [(0, _), (1, _), (2, _), (3, _), (4, _), (5, _), (6, _), (7, _), (8, _), (9, _), (10, _), (11, _), (12, _), (13, _), (14, _), (15, _), (16, _), (17, _), (18, _), (19, _), (20, _)]) hx dL_ties_472 (by decide) rfl ?_
                refine zz_aload_n hx dL_ties_474 rfl ?_
                refine zz_iload hx dL_ties_475 rfl ?_
                refine zz_iload hx dL_ties_477 rfl ?_
                refine zz_callVi hx me_X3_ownerOf lk_L_36 (q_X3_ownerOf hst hJ2.1 hJ2.2.1 (I 2) ⟨hi20.1, hi20.2.2.1⟩ hi20.2.2.2 s hs) 0 rfl rfl ⟨rfl, rfl⟩ (by decide) (by decide) rfl rfl (Nat.le_of_ble_eq_true rfl) dL_ties_479 (fun _ _ h => h.elim) (fun r479 w479 hp479 => ?_)
                obtain ⟨rfl, rfl⟩ := hp479
                refine zz_iload hx dL_ties_482 rfl ?_
                refine zz_icmp_ne hx 542 dL_ties_484 rfl (by omega) (by omega) (fun c484 => ?_) (fun c484 => ?_)
                · omega
                · refine zz_aload_n hx dL_ties_487 rfl ?_
                  refine zz_iload hx dL_ties_488 rfl ?_
                  refine zz_callVi hx me_X3_currentIn lk_L_52 (q_X3_currentIn hst hJ2.1 hJ2.2.1 s hs) 0 rfl rfl ⟨rfl, rfl⟩ (by decide) (by decide) rfl rfl (Nat.le_of_ble_eq_true rfl) dL_ties_490 (fun _ _ h => h.elim) (fun r490 w490 hp490 => ?_)
                  obtain ⟨rfl, rfl⟩ := hp490
                  refine zz_iload hx dL_ties_493 rfl ?_
                  refine zz_icmp_ne hx 542 dL_ties_495 rfl (by omega) (by omega) (fun c495 => ?_) (fun c495 => ?_)
                  · omega
                  · refine zz_aload_n hx dL_ties_498 rfl ?_
                    refine zz_callVi hx me_X3_current lk_L_74 (k_X3_current hst) 0 rfl rfl ⟨rfl, rfl⟩ (by decide) (by decide) rfl rfl (Nat.le_of_ble_eq_true rfl) dL_ties_499 (fun _ _ h => h.elim) (fun r499 w499 hp499 => ?_)
                    obtain ⟨rfl, rfl⟩ := hp499
                    refine zz_iload hx dL_ties_502 rfl ?_
                    refine zz_icmp_ne hx 542 dL_ties_504 rfl (by omega) (by omega) (fun c504 => ?_) (fun c504 => ?_)
                    · omega
                    · refine zz_iload hx dL_ties_507 rfl ?_
                      refine zz_aload_n hx dL_ties_509 rfl ?_
                      refine zz_iload hx dL_ties_510 rfl ?_
                      refine zz_iload hx dL_ties_512 rfl ?_
                      refine zz_callVi hx me_X3_members lk_L_39 (q_X3_members hst hJ2.1 hJ2.2.1 to ⟨hq2.1.1, by omega⟩ (by have := hq2.2.1; omega) s hs) 0 rfl rfl ⟨rfl, rfl⟩ (by decide) (by decide) rfl rfl (Nat.le_of_ble_eq_true rfl) dL_ties_514 (fun _ _ h => h.elim) (fun r514 w514 hp514 => ?_)
                      obtain ⟨hm9, rfl⟩ := hp514
                      obtain rfl : r514 = ((mOf ((upI ow s (zup (zup (ow s) (I 2) (-1)) (I 2) to)) s) to ((upI L s (zinsl (zdel (L s) (I 2)) p (I 2))) s)).length : Int) := by
                        rcases hm9 with z9 | z9
                        · exact z9.2
                        · exact absurd hio2 z9.1
                      have hv2 : r334 = ((mOf ((upI ow s (zup (zup (ow s) (I 2) (-1)) (I 2) to)) s) to ((upI L s (zinsl (zdel (L s) (I 2)) p (I 2))) s)).length : Int) := by rw [hv, upI_s, upI_s]
                      refine zz_icmp_ne hx 542 dL_ties_517 rfl (by omega) (by omega) (fun c517 => ?_) (fun c517 => ?_)
                      · omega
                      · refine zz_iload hx dL_ties_520 rfl ?_
                        refine zz_iload hx dL_ties_522 rfl ?_
                        refine zz_iload hx dL_ties_524 rfl ?_
                        refine zz_if_eq hx 533 dL_ties_526 rfl (by decide) (fun _ => ?_) (fun z => absurd rfl z)
                        refine zz_iconst hx dL_ties_533 ?_
                        refine zz_iadd hx dL_ties_534 ?_
                        refine zz_icmp_ne hx 542 dL_ties_535 rfl (by omega) (by omega) (fun c535 => ?_) (fun c535 => ?_)
                        · omega
                        · refine zz_iconst hx dL_ties_538 ?_
                          refine zz_goto hx 543 dL_ties_539 rfl ?_
                          refine zz_istore (lv' := [(0, _), (1, _), (2, _), (3, _), (4, _), (5, _), (6, _), (7, _), (8, _), (9, _), (10, _), (11, _), (12, _), (13, _), (14, _), (15, _), (16, _), (17, _), (18, _), (19, _), (20, _), (21, _)]) hx dL_ties_543 (by decide) rfl ?_
                          refine zz_iload hx dL_ties_545 rfl ?_
                          refine zz_if_eq hx 585 dL_ties_547 rfl (by decide) (fun z => absurd z (by decide)) (fun _ => ?_)
                          refine zz_aload_n hx dL_ties_550 rfl ?_
                          refine zz_aload hx dL_ties_551 rfl ?_
                          refine zz_iload hx dL_ties_553 rfl ?_
                          refine zz_iload hx dL_ties_555 rfl ?_
                          refine zz_iload hx dL_ties_557 rfl ?_
                          refine zz_iload hx dL_ties_559 rfl ?_
                          refine zz_if_eq hx 571 dL_ties_561 rfl (by decide) (fun _ => ?_) (fun z => absurd rfl z)
                          refine zz_iload hx dL_ties_571 rfl ?_
                          refine zz_iload hx dL_ties_573 rfl ?_
                          refine zz_callSi hx ms_L_isPlaced lk_L_115 (l_isPlaced hst hJ2 hC hU (kG_P hG (fun t _ _ k hk => upP_k t hk)) s hs to hio2 (I 2) nn a j (by omega) hpl3) ⟨rfl, rfl⟩ (by decide) (by decide) rfl rfl (Nat.le_of_ble_eq_true rfl) dL_ties_575 (fun _ _ h => h.elim) (fun r575 w575 hp575 => ?_)
                          obtain ⟨rfl, rfl⟩ := hp575
                          refine zz_if_eq hx 585 dL_ties_578 rfl (by decide) (fun z => absurd z (by decide)) (fun _ => ?_)
                          refine zz_iconst hx dL_ties_581 ?_
                          refine zz_goto hx 586 dL_ties_582 rfl ?_
                          exact zz_zret hx hf dL_ties_586 (Or.inr rfl) ⟨_, rfl, rfl, I, Q, (upI P s (Fup (P s) 8 (I 2))), (upI T s T2), (upI ow s (zup (zup (ow s) (I 2) (-1)) (I 2) to)), isO, (upI L s (zinsl (zdel (L s) (I 2)) p (I 2))), U, C, rfl, hJ2, hC, hU, kG_P hG (fun t _ _ k hk => upP_k t hk)⟩ (by decide) (by decide)
              · omega
            · omega
          · omega
    have j288 : ∀ nn a cn : Int, (to < 0 → nn = 0 ∧ a = -1) → (0 ≤ to → nn = ((mOf (ow s) to (L s)).length : Int) ∧ ixO (mOf (ow s) to (L s)) (P s 8) a) → ((cn = 1 ∧ (0 ≤ ov ∧ 0 < P s 4)) ∨ (cn = 0 ∧ ¬ (0 ≤ ov ∧ 0 < P s 4))) → Z l g ({ frames := 10, cells := 4, slots := 24, locals := 198 } : Room) 22 x 0 0 (wD g b c I Q P T N (rA g gA 30 Gr :: rA g tA 60 U :: rA g cA 3 C :: rest)) 288 [(0, .ref (b 0)), (1, vi 5), (2, vi xa), (3, vi ya), (4, .ref gA), (5, .ref tA), (6, .ref cA), (7, vi s), (8, vi (I 2)), (9, vi ov), (10, vi (P s 8)), (11, vi fi), (12, vi to), (13, vi nn), (14, vi a), (15, vi cn)] [] := by
      intro nn a cn hnn hyn hcn
      by_cases hovc : ov < 0
      · refine zz_iload hx dL_ties_288 rfl ?_
        refine zz_if_ge hx 297 dL_ties_290 rfl (by omega) (fun c290 => ?_) (fun c290 => ?_)
        · omega
        · refine zz_iconst hx dL_ties_293 ?_
          refine zz_goto hx 305 dL_ties_294 rfl ?_
          refine zz_istore (lv' := [(0, _), (1, _), (2, _), (3, _), (4, _), (5, _), (6, _), (7, _), (8, _), (9, _), (10, _), (11, _), (12, _), (13, _), (14, _), (15, _), (16, _)]) hx dL_ties_305 (by decide) rfl ?_
          refine zz_iload hx dL_ties_307 rfl ?_
          refine zz_if_ge hx 316 dL_ties_309 rfl (by omega) (fun c309 => ?_) (fun c309 => ?_)
          · omega
          · refine zz_iconst hx dL_ties_312 ?_
            refine zz_goto hx 326 dL_ties_313 rfl ?_
            refine zz_istore (lv' := [(0, _), (1, _), (2, _), (3, _), (4, _), (5, _), (6, _), (7, _), (8, _), (9, _), (10, _), (11, _), (12, _), (13, _), (14, _), (15, _), (16, _), (17, _)]) hx dL_ties_326 (by decide) rfl ?_
            exact j328 nn a cn _ _ hnn hyn hcn (fun _ => ⟨rfl, rfl⟩) (fun z9 => absurd hovc (by omega))
      · obtain ⟨hiv, hvr, hqn⟩ := hoo (by omega)
        refine zz_iload hx dL_ties_288 rfl ?_
        refine zz_if_ge hx 297 dL_ties_290 rfl (by omega) (fun c290 => ?_) (fun c290 => ?_)
        · refine zz_aload_n hx dL_ties_297 rfl ?_
          refine zz_iload hx dL_ties_298 rfl ?_
          refine zz_iload hx dL_ties_300 rfl ?_
          refine zz_callVi hx me_X3_members lk_L_39 (q_X3_members hst hI hS ov ⟨by omega, by omega⟩ hqn s hs) 0 rfl rfl ⟨rfl, rfl⟩ (by decide) (by decide) rfl rfl (Nat.le_of_ble_eq_true rfl) dL_ties_302 (fun _ _ h => h.elim) (fun r302 w302 hp302 => ?_)
          obtain ⟨hm9, rfl⟩ := hp302
          obtain rfl : r302 = ((mOf (ow s) ov (L s)).length : Int) := by
            rcases hm9 with z9 | z9
            · exact z9.2
            · exact absurd hiv z9.1
          clear hm9
          refine zz_istore (lv' := [(0, _), (1, _), (2, _), (3, _), (4, _), (5, _), (6, _), (7, _), (8, _), (9, _), (10, _), (11, _), (12, _), (13, _), (14, _), (15, _), (16, _)]) hx dL_ties_305 (by decide) rfl ?_
          refine zz_iload hx dL_ties_307 rfl ?_
          refine zz_if_ge hx 316 dL_ties_309 rfl (by omega) (fun c309 => ?_) (fun c309 => ?_)
          · refine zz_aload_n hx dL_ties_316 rfl ?_
            refine zz_iload hx dL_ties_317 rfl ?_
            refine zz_iload hx dL_ties_319 rfl ?_
            refine zz_iload hx dL_ties_321 rfl ?_
            refine zz_callSi hx ms_L_placeOf lk_L_92 (l_placeOf hst hJ s hs ov hiv (I 2) (by omega)) ⟨rfl, rfl⟩ (by decide) (by decide) rfl rfl (Nat.le_of_ble_eq_true rfl) dL_ties_323 (fun _ _ h => h.elim) (fun r323 w323 hp323 => ?_)
            obtain ⟨hx9, rfl⟩ := hp323
            refine zz_istore (lv' := [(0, _), (1, _), (2, _), (3, _), (4, _), (5, _), (6, _), (7, _), (8, _), (9, _), (10, _), (11, _), (12, _), (13, _), (14, _), (15, _), (16, _), (17, _)]) hx dL_ties_326 (by decide) rfl ?_
            exact j328 nn a cn _ _ hnn hyn hcn (fun z9 => absurd z9 hovc) (fun _ => ⟨rfl, hx9⟩)
          · omega
        · omega
    have j215 : ∀ nn a : Int, (to < 0 → nn = 0 ∧ a = -1) → (0 ≤ to → nn = ((mOf (ow s) to (L s)).length : Int) ∧ ixO (mOf (ow s) to (L s)) (P s 8) a) → Z l g ({ frames := 10, cells := 4, slots := 24, locals := 198 } : Room) 22 x 0 0 (wD g b c I Q P T N (rA g gA 30 Gr :: rA g tA 60 U :: rA g cA 3 C :: rest)) 215 [(0, .ref (b 0)), (1, vi 5), (2, vi xa), (3, vi ya), (4, .ref gA), (5, .ref tA), (6, .ref cA), (7, vi s), (8, vi (I 2)), (9, vi ov), (10, vi (P s 8)), (11, vi fi), (12, vi to), (13, vi nn), (14, vi a)] [] := by
      intro nn a hnn hyn
      refine zz_iload_n hx dL_ties_215 rfl ?_
      refine zz_iconst hx dL_ties_216 ?_
      refine zz_icmp_ne hx 243 dL_ties_217 rfl (by omega) (by omega) (fun c217 => ?_) (fun c217 => ?_)
      · refine zz_iload hx dL_ties_243 rfl ?_
        refine zz_if_lt hx 285 dL_ties_245 rfl (by omega) (fun c245 => ?_) (fun c245 => ?_)
        · refine zz_iconst hx dL_ties_285 ?_
          refine zz_istore (lv' := [(0, _), (1, _), (2, _), (3, _), (4, _), (5, _), (6, _), (7, _), (8, _), (9, _), (10, _), (11, _), (12, _), (13, _), (14, _), (15, _)]) hx dL_ties_286 (by decide) rfl ?_
          exact j288 nn a _ hnn hyn (by clear hyn; omega)
        · refine zz_iload_n hx dL_ties_248 rfl ?_
          refine zz_iconst hx dL_ties_249 ?_
          refine zz_icmp_ne hx 269 dL_ties_250 rfl (by omega) (by omega) (fun c250 => ?_) (fun c250 => ?_)
          · refine zz_aload hx dL_ties_269 rfl ?_
            refine zz_iconst hx dL_ties_271 ?_
            refine zz_iload hx dL_ties_272 rfl ?_
            refine zz_imul hx dL_ties_274 ?_
            refine zz_iconst hx dL_ties_275 ?_
            refine zz_iadd hx dL_ties_276 ?_
            refine zr_ld hx 0 rfl (by decide) (by omega) (by omega) dL_ties_277 ?_
            refine zz_if_le hx 285 dL_ties_278 rfl (by omega) (fun c278 => ?_) (fun c278 => ?_)
            · refine zz_iconst hx dL_ties_285 ?_
              refine zz_istore (lv' := [(0, _), (1, _), (2, _), (3, _), (4, _), (5, _), (6, _), (7, _), (8, _), (9, _), (10, _), (11, _), (12, _), (13, _), (14, _), (15, _)]) hx dL_ties_286 (by decide) rfl ?_
              exact j288 nn a _ hnn hyn (by clear hyn; omega)
            · refine zz_iconst hx dL_ties_281 ?_
              refine zz_goto hx 286 dL_ties_282 rfl ?_
              refine zz_istore (lv' := [(0, _), (1, _), (2, _), (3, _), (4, _), (5, _), (6, _), (7, _), (8, _), (9, _), (10, _), (11, _), (12, _), (13, _), (14, _), (15, _)]) hx dL_ties_286 (by decide) rfl ?_
              exact j288 nn a _ hnn hyn (by clear hyn; omega)
          · omega
      · omega
    by_cases htc : to < 0
    · refine zz_iload hx dL_ties_175 rfl ?_
      refine zz_if_ge hx 184 dL_ties_177 rfl (by omega) (fun c177 => ?_) (fun c177 => ?_)
      · omega
      · refine zz_iconst hx dL_ties_180 ?_
        refine zz_goto hx 192 dL_ties_181 rfl ?_
        refine zz_istore (lv' := [(0, _), (1, _), (2, _), (3, _), (4, _), (5, _), (6, _), (7, _), (8, _), (9, _), (10, _), (11, _), (12, _), (13, _)]) hx dL_ties_192 (by decide) rfl ?_
        refine zz_iload hx dL_ties_194 rfl ?_
        refine zz_if_ge hx 203 dL_ties_196 rfl (by omega) (fun c196 => ?_) (fun c196 => ?_)
        · omega
        · refine zz_iconst hx dL_ties_199 ?_
          refine zz_goto hx 213 dL_ties_200 rfl ?_
          refine zz_istore (lv' := [(0, _), (1, _), (2, _), (3, _), (4, _), (5, _), (6, _), (7, _), (8, _), (9, _), (10, _), (11, _), (12, _), (13, _), (14, _)]) hx dL_ties_213 (by decide) rfl ?_
          exact j215 _ _ (fun _ => ⟨rfl, rfl⟩) (fun z9 => absurd htc (by omega))
    · have hiv := hto (by omega)
      have hvo := J_own hJ hs.1 hs.2 hiv
      have hqn : Q 0 to ≠ -1 := by have := hvo.2.1; omega
      have hvr := hvo.1
      refine zz_iload hx dL_ties_175 rfl ?_
      refine zz_if_ge hx 184 dL_ties_177 rfl (by omega) (fun c177 => ?_) (fun c177 => ?_)
      · refine zz_aload_n hx dL_ties_184 rfl ?_
        refine zz_iload hx dL_ties_185 rfl ?_
        refine zz_iload hx dL_ties_187 rfl ?_
        refine zz_callVi hx me_X3_members lk_L_39 (q_X3_members hst hI hS to ⟨by omega, by omega⟩ hqn s hs) 0 rfl rfl ⟨rfl, rfl⟩ (by decide) (by decide) rfl rfl (Nat.le_of_ble_eq_true rfl) dL_ties_189 (fun _ _ h => h.elim) (fun r189 w189 hp189 => ?_)
        obtain ⟨hm9, rfl⟩ := hp189
        obtain rfl : r189 = ((mOf (ow s) to (L s)).length : Int) := by
          rcases hm9 with z9 | z9
          · exact z9.2
          · exact absurd hiv z9.1
        clear hm9
        refine zz_istore (lv' := [(0, _), (1, _), (2, _), (3, _), (4, _), (5, _), (6, _), (7, _), (8, _), (9, _), (10, _), (11, _), (12, _), (13, _)]) hx dL_ties_192 (by decide) rfl ?_
        refine zz_iload hx dL_ties_194 rfl ?_
        refine zz_if_ge hx 203 dL_ties_196 rfl (by omega) (fun c196 => ?_) (fun c196 => ?_)
        · refine zz_aload_n hx dL_ties_203 rfl ?_
          refine zz_iload hx dL_ties_204 rfl ?_
          refine zz_iload hx dL_ties_206 rfl ?_
          refine zz_iload hx dL_ties_208 rfl ?_
          refine zz_callSi hx ms_L_placeOf lk_L_92 (l_placeOf hst hJ s hs to hiv (P s 8) (by omega)) ⟨rfl, rfl⟩ (by decide) (by decide) rfl rfl (Nat.le_of_ble_eq_true rfl) dL_ties_210 (fun _ _ h => h.elim) (fun r210 w210 hp210 => ?_)
          obtain ⟨hx9, rfl⟩ := hp210
          refine zz_istore (lv' := [(0, _), (1, _), (2, _), (3, _), (4, _), (5, _), (6, _), (7, _), (8, _), (9, _), (10, _), (11, _), (12, _), (13, _), (14, _)]) hx dL_ties_213 (by decide) rfl ?_
          exact j215 _ _ (fun z9 => absurd z9 htc) (fun _ => ⟨rfl, hx9⟩)
        · omega
      · omega
  have j75 : ∀ ov fi : Int, ((I 2 = -1 ∧ ov = -1) ∨ (0 ≤ I 2 ∧ ov = ow s (I 2))) → (0 ≤ ov → isO s ov ∧ (0 ≤ ov ∧ ov < I 0) ∧ Q 0 ov ≠ -1) → (-1 ≤ ov ∧ ov < 60) → ((fi = 1 ∧ (0 ≤ I 2 ∧ Q 0 (I 2) = P s 1)) ∨ (fi = 0 ∧ ¬ (0 ≤ I 2 ∧ Q 0 (I 2) = P s 1))) → Z l g ({ frames := 10, cells := 4, slots := 24, locals := 198 } : Room) 22 x 0 0 (wD g b c I Q P T N (rA g gA 30 Gr :: rA g tA 60 U :: rA g cA 3 C :: rest)) 75 [(0, .ref (b 0)), (1, vi 5), (2, vi xa), (3, vi ya), (4, .ref gA), (5, .ref tA), (6, .ref cA), (7, vi s), (8, vi (I 2)), (9, vi ov), (10, vi (P s 8)), (11, vi fi)] [] := by
    intro ov fi hov hoo hor hfi
    have j154 : ∀ to : Int, (0 ≤ to ∧ to < 100) → ¬ isO s to → Z l g ({ frames := 10, cells := 4, slots := 24, locals := 198 } : Room) 22 x 0 0 (wD g b c I Q P T N (rA g gA 30 Gr :: rA g tA 60 U :: rA g cA 3 C :: rest)) 154 [(0, .ref (b 0)), (1, vi 5), (2, vi xa), (3, vi ya), (4, .ref gA), (5, .ref tA), (6, .ref cA), (7, vi s), (8, vi (I 2)), (9, vi ov), (10, vi (P s 8)), (11, vi fi), (12, vi to)] [] := by
      intro to htr hni
      refine zz_aload_n hx dL_ties_154 rfl ?_
      refine zz_iconst hx dL_ties_155 ?_
      refine zz_iload hx dL_ties_156 rfl ?_
      refine zz_iload hx dL_ties_158 rfl ?_
      refine zz_callW hx hnc mw_L_acts lk_L_112 (l_acts5 hst hJ s to hs (by omega)) ⟨rfl, rfl⟩ (by decide) (by decide) rfl rfl (Nat.le_of_ble_eq_true rfl) dL_ties_160 (fun r160 w160 hp160 => ?_)
      rcases hp160 with ⟨-, -, hnB⟩ | ⟨e160, rfl, -⟩ | ⟨hio2, -⟩
      · exact absurd (fun z9 => absurd z9 hni) hnB
      · skip
        refine zz_sipush hx dL_ties_163 rfl ?_
        refine zz_icmp_ne hx 173 dL_ties_166 rfl (by omega) (by omega) (fun c166 => ?_) (fun c166 => ?_)
        · omega
        · refine zz_iconst hx dL_ties_169 ?_
          refine zz_goto hx 174 dL_ties_170 rfl ?_
          exact zz_zret hx hf dL_ties_174 (Or.inr rfl) ⟨_, rfl, rfl, I, Q, P, T, ow, isO, L, U, C, rfl, hJ, hC, hU, hG⟩ (by decide) (by decide)
      · exact absurd hio2 hni
    have hto0 := Int.emod_nonneg ya (show I 0 + 1 ≠ 0 by omega)
    have hto1 := Int.emod_lt_of_pos ya (show 0 < I 0 + 1 by omega)
    refine zz_iload_n hx dL_ties_75 rfl ?_
    refine zz_iconst hx dL_ties_76 ?_
    refine zz_icmp_ne hx 93 dL_ties_77 rfl (by omega) (by omega) (fun c77 => ?_) (fun c77 => ?_)
    · refine zz_iload_n hx dL_ties_93 rfl ?_
      refine zz_iconst hx dL_ties_94 ?_
      refine zz_icmp_ne hx 109 dL_ties_95 rfl (by omega) (by omega) (fun c95 => ?_) (fun c95 => ?_)
      · omega
      · refine zz_iload_n hx dL_ties_98 rfl ?_
        refine zz_aload hx dL_ties_99 rfl ?_
        refine zz_iconst hx dL_ties_101 ?_
        refine zr_ld hx 2 rfl (by decide) (by omega) (by omega) dL_ties_102 ?_
        rw [hc1]
        refine zz_iconst hx dL_ties_103 ?_
        refine zz_iadd hx dL_ties_104 ?_
        refine zz_irem hx dL_ties_105 (by omega) (by omega) (by omega) (by omega) ?_
        generalize hte : ya % (I 0 + 1) = to at *
        have hisO := (hJ.2.2.1 s hs.1 hs.2).1 to
        refine zz_goto hx 110 dL_ties_106 rfl ?_
        refine zz_istore (lv' := [(0, _), (1, _), (2, _), (3, _), (4, _), (5, _), (6, _), (7, _), (8, _), (9, _), (10, _), (11, _), (12, _)]) hx dL_ties_110 (by decide) rfl ?_
        refine zz_iload_n hx dL_ties_112 rfl ?_
        refine zz_iconst hx dL_ties_113 ?_
        refine zz_icmp_ne hx 175 dL_ties_114 rfl (by omega) (by omega) (fun c114 => ?_) (fun c114 => ?_)
        · omega
        · refine zz_iload hx dL_ties_117 rfl ?_
          refine zz_aload hx dL_ties_119 rfl ?_
          refine zz_iconst hx dL_ties_121 ?_
          refine zr_ld hx 2 rfl (by decide) (by omega) (by omega) dL_ties_122 ?_
          refine zz_icmp_ge hx 154 dL_ties_123 rfl (by omega) (by omega) (fun c123 => ?_) (fun c123 => ?_)
          · refine j154 to (by omega) (fun z9 => ?_)
            have z8 := hisO.mp z9
            first
              | omega
              | (have z7 := J_own hJ hs.1 hs.2 z9; omega)
          · have hu9 := kU_at hU hI (k := to) (by omega) (by omega)
            refine zz_aload hx dL_ties_126 rfl ?_
            refine zz_iload hx dL_ties_128 rfl ?_
            refine zr_ld hx 1 rfl (by decide) (by omega) (by omega) dL_ties_130 ?_
            refine zz_if_eq hx 154 dL_ties_131 rfl (by omega) (fun c131 => ?_) (fun c131 => ?_)
            · refine j154 to (by omega) (fun z9 => ?_)
              have z8 := hisO.mp z9
              first
                | omega
                | (have z7 := J_own hJ hs.1 hs.2 z9; omega)
            · refine zz_aload hx dL_ties_134 rfl ?_
              refine zz_iload hx dL_ties_136 rfl ?_
              refine zr_ld hx 1 rfl (by decide) (by omega) (by omega) dL_ties_138 ?_
              refine zz_bipush hx dL_ties_139 rfl ?_
              refine zz_and7 hx dL_ties_141 (by omega) (by omega) ?_
              refine zz_iconst hx dL_ties_142 ?_
              refine zz_isub hx dL_ties_143 ?_
              refine zz_aload hx dL_ties_144 rfl ?_
              refine zz_iconst hx dL_ties_146 ?_
              refine zz_iload hx dL_ties_147 rfl ?_
              refine zz_imul hx dL_ties_149 ?_
              refine zr_ld hx 0 rfl (by decide) (by omega) (by omega) dL_ties_150 ?_
              refine zz_icmp_eq hx 175 dL_ties_151 rfl (by omega) (by omega) (fun c151 => ?_) (fun c151 => ?_)
              · exact j175 ov fi to hov hoo hor hfi (by omega) (fun _ => hisO.mpr ⟨by omega, by omega, by omega⟩) hto0
              · refine j154 to (by omega) (fun z9 => ?_)
                have z8 := hisO.mp z9
                first
                  | omega
                  | (have z7 := J_own hJ hs.1 hs.2 z9; omega)
    · omega
  have j31 : ∀ ov : Int, ((I 2 = -1 ∧ ov = -1) ∨ (0 ≤ I 2 ∧ ov = ow s (I 2))) → (0 ≤ ov → isO s ov ∧ (0 ≤ ov ∧ ov < I 0) ∧ Q 0 ov ≠ -1) → (-1 ≤ ov ∧ ov < 60) → Z l g ({ frames := 10, cells := 4, slots := 24, locals := 198 } : Room) 22 x 0 0 (wD g b c I Q P T N (rA g gA 30 Gr :: rA g tA 60 U :: rA g cA 3 C :: rest)) 31 [(0, .ref (b 0)), (1, vi 5), (2, vi xa), (3, vi ya), (4, .ref gA), (5, .ref tA), (6, .ref cA), (7, vi s), (8, vi (I 2))] [vi ov] := by
    intro ov hov hoo hor
    refine zz_istore (lv' := [(0, _), (1, _), (2, _), (3, _), (4, _), (5, _), (6, _), (7, _), (8, _), (9, _)]) hx dL_ties_31 (by decide) rfl ?_
    refine zz_aload_n hx dL_ties_33 rfl ?_
    refine zz_iload hx dL_ties_34 rfl ?_
    refine zz_callVi hx me_X3_currentIn lk_L_52 (q_X3_currentIn hst hI hS s hs) 0 rfl rfl ⟨rfl, rfl⟩ (by decide) (by decide) rfl rfl (Nat.le_of_ble_eq_true rfl) dL_ties_36 (fun _ _ h => h.elim) (fun r36 w36 hp36 => ?_)
    obtain ⟨rfl, rfl⟩ := hp36
    refine zz_istore (lv' := [(0, _), (1, _), (2, _), (3, _), (4, _), (5, _), (6, _), (7, _), (8, _), (9, _), (10, _)]) hx dL_ties_39 (by decide) rfl ?_
    refine zz_iload hx dL_ties_41 rfl ?_
    refine zz_if_lt hx 72 dL_ties_43 rfl (by omega) (fun c43 => ?_) (fun c43 => ?_)
    · refine zz_iconst hx dL_ties_72 ?_
      refine zz_istore (lv' := [(0, _), (1, _), (2, _), (3, _), (4, _), (5, _), (6, _), (7, _), (8, _), (9, _), (10, _), (11, _)]) hx dL_ties_73 (by decide) rfl ?_
      exact j75 ov _ hov hoo hor (by clear hoo; omega)
    · have hu9 := kU_at hU hI (k := I 2) (by omega) (by omega)
      refine zz_aload hx dL_ties_46 rfl ?_
      refine zz_iload hx dL_ties_48 rfl ?_
      refine zr_ld hx 1 rfl (by decide) (by omega) (by omega) dL_ties_50 ?_
      refine zz_bipush hx dL_ties_51 rfl ?_
      refine zz_and7 hx dL_ties_53 (by omega) (by omega) ?_
      refine zz_iconst hx dL_ties_54 ?_
      refine zz_isub hx dL_ties_55 ?_
      refine zz_aload hx dL_ties_56 rfl ?_
      refine zz_iconst hx dL_ties_58 ?_
      refine zz_iload hx dL_ties_59 rfl ?_
      refine zz_imul hx dL_ties_61 ?_
      refine zz_iconst hx dL_ties_62 ?_
      refine zz_iadd hx dL_ties_63 ?_
      refine zr_ld hx 0 rfl (by decide) (by omega) (by omega) dL_ties_64 ?_
      refine zz_icmp_ne hx 72 dL_ties_65 rfl (by omega) (by omega) (fun c65 => ?_) (fun c65 => ?_)
      · refine zz_iconst hx dL_ties_72 ?_
        refine zz_istore (lv' := [(0, _), (1, _), (2, _), (3, _), (4, _), (5, _), (6, _), (7, _), (8, _), (9, _), (10, _), (11, _)]) hx dL_ties_73 (by decide) rfl ?_
        exact j75 ov _ hov hoo hor (by clear hoo; omega)
      · refine zz_iconst hx dL_ties_68 ?_
        refine zz_goto hx 73 dL_ties_69 rfl ?_
        refine zz_istore (lv' := [(0, _), (1, _), (2, _), (3, _), (4, _), (5, _), (6, _), (7, _), (8, _), (9, _), (10, _), (11, _)]) hx dL_ties_73 (by decide) rfl ?_
        exact j75 ov _ hov hoo hor (by clear hoo; omega)
  refine zz_aload_n hx dL_ties_8 rfl ?_
  refine zz_callVi hx me_X3_current lk_L_74 (k_X3_current hst) 0 rfl rfl ⟨rfl, rfl⟩ (by decide) (by decide) rfl rfl (Nat.le_of_ble_eq_true rfl) dL_ties_9 (fun _ _ h => h.elim) (fun r9 w9 hp9 => ?_)
  obtain ⟨rfl, rfl⟩ := hp9
  refine zz_istore (lv' := [(0, _), (1, _), (2, _), (3, _), (4, _), (5, _), (6, _), (7, _), (8, _)]) hx dL_ties_12 (by decide) rfl ?_
  refine zz_iload hx dL_ties_14 rfl ?_
  refine zz_if_ge hx 23 dL_ties_16 rfl (by omega) (fun c16 => ?_) (fun c16 => ?_)
  · have hi20 := J_i2 hJ (show I 2 ≠ -1 by omega)
    refine zz_aload_n hx dL_ties_23 rfl ?_
    refine zz_iload hx dL_ties_24 rfl ?_
    refine zz_iload hx dL_ties_26 rfl ?_
    refine zz_callVi hx me_X3_ownerOf lk_L_36 (q_X3_ownerOf hst hI hS (I 2) ⟨hi20.1, hi20.2.2.1⟩ hi20.2.2.2 s hs) 0 rfl rfl ⟨rfl, rfl⟩ (by decide) (by decide) rfl rfl (Nat.le_of_ble_eq_true rfl) dL_ties_28 (fun _ _ h => h.elim) (fun r28 w28 hp28 => ?_)
    obtain ⟨rfl, rfl⟩ := hp28
    have how := J_ow hJ hs.1 hs.2 hi20.1 hi20.2.2.1
    have hob : -1 ≤ ow s (I 2) ∧ ow s (I 2) < 60 := by
      rcases how with ⟨z, -⟩ | z
      · omega
      · exact ⟨by omega, by omega⟩
    have hov9 : 0 ≤ ow s (I 2) → isO s (ow s (I 2)) ∧ (0 ≤ ow s (I 2) ∧ ow s (I 2) < I 0) ∧ Q 0 (ow s (I 2)) ≠ -1 := fun z9 => by
      rcases how with ⟨z, -⟩ | z
      · omega
      · exact ⟨z.2.2.2.2.1, ⟨z.1, z.2.1⟩, by have := z.2.2.2.2.2.2; omega⟩
    first
      | exact j31 _ (Or.inr ⟨by omega, rfl⟩) hov9 hob
      | exact j31 _ (Or.inl ⟨by omega, rfl⟩) (fun z9 => absurd z9 (by decide)) (by omega)
  · refine zz_iconst hx dL_ties_19 ?_
    refine zz_goto hx 31 dL_ties_20 rfl ?_
    first
      | exact j31 _ (Or.inr ⟨by omega, rfl⟩) hov9 hob
      | exact j31 _ (Or.inl ⟨by omega, rfl⟩) (fun z9 => absurd z9 (by decide)) (by omega)
