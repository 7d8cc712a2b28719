/-! the law: finding in a set -/

set_option maxHeartbeats 4000000 in
set_option maxRecDepth 100000 in
theorem l_finds2 {l : Launch} {g : zG} {b : Nat → Nat} {c : Int → Nat → Nat} {I : Nat → Int} {Q : Nat → Int → Int} {P : Int → Nat → Int} {T : Int → Nat → Int → Int} {N : Nat} {ow : Int → Int → Int} {isO : Int → Int → Prop} {L : Int → List Int} {rest : va_W} (hst : l.stackTraces = false) {gA tA cA : Nat} {Gr U C : Int → Int} (hJ : J I Q P T N ow isO L) (hC : kC I N C) (hU : kU Q U) (hG : kG P N Gr) (hN0 : 0 < N) (xa ya : Int) (hx0 : 0 ≤ xa ∧ xa < 1073741824) (hy0 : 0 ≤ ya ∧ ya < 1073741824) : zM l g yL_finds cL_finds 16 (Option.some FieldType.boolean) ({ frames := 8, cells := 2, slots := 17, locals := 136 } : Room) [.ref (b 0), vi 2, vi xa, vi ya, .ref gA, .ref tA, .ref cA] (wD g b c I Q P T N (rA g gA 30 Gr :: rA g tA 60 U :: rA g cA 3 C :: rest)) (zI fun v w => v = 1 ∧ (jW g b c N gA tA cA Gr rest w)) zN 2 17 := by
  have hI := hJ.1
  have hS := hJ.2.1
  have hi0 := hI.2.2.2.2.2.2.1
  have hN6 := hI.2.1
  obtain ⟨hc0, hc1, hc2⟩ := id hC
  have hi2 := hI.2.2.1
  refine zM_of (lv0 := [(0, _), (1, _), (2, _), (3, _), (4, _), (5, _), (6, _)]) hst rfl (by decide +kernel) (Nat.le_of_ble_eq_true rfl) rfl (fun x hx hf hn => ?_)
  refine zz_bipush hx dL_finds_0 rfl ?_
  refine zz_newi (N := 11) hx (by decide) (by decide) dL_finds_2 (fun q2 => ?_)
  refine zz_perm (pN3 _) ?_
  refine zz_astore (lv' := [(0, _), (1, _), (2, _), (3, _), (4, _), (5, _), (6, _), (7, _)]) hx dL_finds_4 (by decide) rfl ?_
  refine zz_aload_n hx dL_finds_6 rfl ?_
  refine zz_aload hx dL_finds_7 rfl ?_
  refine zz_aload hx dL_finds_9 rfl ?_
  refine zz_callSv hx ms_L_notes lk_L_77 (l_notes hst hJ hC) ⟨rfl, rfl⟩ (by decide) (by decide) rfl rfl (Nat.le_of_ble_eq_true rfl) dL_finds_11 (fun _ _ h => h.elim) (fun w11 hp11 => ?_)
  obtain ⟨W1, hW1, rfl⟩ := hp11
  have hw0 := hW1.1
  refine zz_iconst hx dL_finds_14 ?_
  refine zz_istore (lv' := [(0, _), (1, _), (2, _), (3, _), (4, _), (5, _), (6, _), (7, _), (8, _)]) hx dL_finds_15 (by decide) rfl ?_
  refine zz_iconst hx dL_finds_17 ?_
  refine zz_istore (lv' := [(0, _), (1, _), (2, _), (3, _), (4, _), (5, _), (6, _), (7, _), (8, _), (9, _)]) hx dL_finds_18 (by decide) rfl ?_
  refine zz_aload hx dL_finds_20 rfl ?_
  refine zz_iconst hx dL_finds_22 ?_
  refine zr_ld hx 2 rfl (by decide) (by omega) (by omega) dL_finds_23 ?_
  refine zz_if_ne hx 31 dL_finds_24 rfl (by omega) (fun c24 => ?_) (fun c24 => ?_)
  · refine zz_iload_n hx dL_finds_31 rfl ?_
    refine zz_aload hx dL_finds_32 rfl ?_
    refine zz_iconst hx dL_finds_34 ?_
    refine zr_ld hx 2 rfl (by decide) (by omega) (by omega) dL_finds_35 ?_
    rw [hc0]
    refine zz_irem hx dL_finds_36 (by omega) (by omega) (by omega) (by omega) ?_
    have hs : 0 ≤ xa % (N : Int) ∧ xa % (N : Int) < (N : Int) := ⟨Int.emod_nonneg xa (by omega), Int.emod_lt_of_pos xa (by omega)⟩
    generalize hse : xa % (N : Int) = s at *
    refine zz_istore (lv' := [(0, _), (1, _), (2, _), (3, _), (4, _), (5, _), (6, _), (7, _), (8, _), (9, _), (10, _)]) hx dL_finds_37 (by decide) rfl ?_
    refine zz_iload_n hx dL_finds_39 rfl ?_
    refine zz_if_eq hx 48 dL_finds_40 rfl (by decide) (fun z => absurd z (by decide)) (fun _ => ?_)
    refine zz_iload hx dL_finds_43 rfl ?_
    refine zz_if_ge hx 97 dL_finds_45 rfl (by omega) (fun c45 => ?_) (fun c45 => ?_)
    · refine zz_iload_n hx dL_finds_97 rfl ?_
      refine zz_iconst hx dL_finds_98 ?_
      refine zz_icmp_ne hx 191 dL_finds_99 rfl (by omega) (by omega) (fun c99 => ?_) (fun c99 => ?_)
      · have hg9 := kG_at hG hS hs
        have hw5 := hW1.2.2 s hs.1 hs.2
        have hrg := J_ring hJ hs.1 hs.2
        have jn : P s 8 = -1 → cO Q P ow s = -1 → ∀ nn a : Int, nn = 0 → a = -1 → Z l g ({ frames := 8, cells := 2, slots := 17, locals := 136 } : Room) 16 x 1 11 (wD g b c I Q P T N (rA g gA 30 Gr :: rA g tA 60 U :: rA g cA 3 C :: rA g q2 11 W1 :: rest)) 258 [(0, .ref (b 0)), (1, vi 2), (2, vi xa), (3, vi ya), (4, .ref gA), (5, .ref tA), (6, .ref cA), (7, .ref q2), (8, vi (-1)), (9, vi (-1)), (10, vi s), (11, vi (cO Q P ow s)), (12, vi nn)] [vi a] := by
          intro h8 hq1 nn a hn9 ha9
          subst hn9
          subst ha9
          by_cases hpar : ya % 2 = 0
          · refine zz_istore (lv' := [(0, _), (1, _), (2, _), (3, _), (4, _), (5, _), (6, _), (7, _), (8, _), (9, _), (10, _), (11, _), (12, _), (13, _)]) hx dL_finds_258 (by decide) rfl ?_
            refine zz_iload_n hx dL_finds_260 rfl ?_
            refine zz_iconst hx dL_finds_261 ?_
            refine zz_icmp_ne hx 320 dL_finds_262 rfl (by omega) (by omega) (fun c262 => ?_) (fun c262 => ?_)
            · omega
            · refine zz_iload hx dL_finds_265 rfl ?_
              refine zz_if_ne hx 274 dL_finds_267 rfl (by omega) (fun c267 => ?_) (fun c267 => ?_)
              · omega
              · have hf9 : nbC (T s) 0 (rAt 60 (T s 5) (P s 8)) = -1 := by rw [hrg, hq1]; exact nb_none _ _
                have hDn : rAt 60 (Q 0) (-1) = -1 → (-1 : Int) = -1 := fun _ => rfl
                refine zz_iconst hx dL_finds_270 ?_
                refine zz_goto hx 296 dL_finds_271 rfl ?_
                refine zz_istore (lv' := [(0, _), (1, _), (2, _), (3, _), (4, _), (5, _), (6, _), (7, _), (8, _), (9, _), (10, _), (11, _), (12, _), (13, _)]) hx dL_finds_296 (by decide) rfl ?_
                refine zz_aload_n hx dL_finds_298 rfl ?_
                refine zz_iload hx dL_finds_299 rfl ?_
                refine zz_iload_n hx dL_finds_301 rfl ?_
                refine zz_iconst hx dL_finds_302 ?_
                refine zz_irem hx dL_finds_303 (by omega) (by omega) (by omega) (by omega) ?_
                refine zz_if_le hx 311 dL_finds_304 rfl (by omega) (fun c304 => ?_) (fun c304 => ?_)
                · refine zz_iconst hx dL_finds_311 ?_
                  refine zz_callVi hx me_X3_findEnd lk_L_96 (k_X3_findEnd hst hI hS s (by omega) 0 (by omega)) 0 rfl rfl ⟨rfl, rfl⟩ (by decide) (by decide) rfl rfl (Nat.le_of_ble_eq_true rfl) dL_finds_312 (fun E9 w9 hX9 => absurd hs hX9.2.2) (fun r312 w312 hp312 => ?_)
                  obtain ⟨-, hp9⟩ := hp312
                  rw [hf9] at hp9
                  obtain ⟨I1, Q1, P1, rfl, hJ1, hC1, hv1, e0, e1, e2, e3, e4, hv9⟩ := mkO_J hJ hW1 hp9
                  have hvd := hv9.elim (fun y9 => y9.2.trans (hDn y9.1).symm) (fun y9 => y9.2)
                  refine zz_istore (lv' := [(0, _), (1, _), (2, _), (3, _), (4, _), (5, _), (6, _), (7, _), (8, _), (9, _), (10, _), (11, _), (12, _), (13, _)]) hx dL_finds_315 (by decide) rfl ?_
                  refine zz_goto hx 525 dL_finds_317 rfl ?_
                  refine zz_iload hx dL_finds_525 rfl ?_
                  refine zz_iload hx dL_finds_527 rfl ?_
                  refine zz_icmp_ne hx 553 dL_finds_529 rfl (by omega) (by omega) (fun c529 => ?_) (fun c529 => ?_)
                  · omega
                  · refine zz_aload_n hx dL_finds_532 rfl ?_
                    refine zz_aload hx dL_finds_533 rfl ?_
                    refine zz_aload hx dL_finds_535 rfl ?_
                    refine zz_aload hx dL_finds_537 rfl ?_
                    refine zz_iload hx dL_finds_539 rfl ?_
                    refine zz_aload hx dL_finds_541 rfl ?_
                    refine zz_callSi hx ms_L_isCurrent lk_L_108 (l_isCurrent hst hJ1 (kC_of hC e2 e3) (kU_of hU e0 e1) (kG_P hG (fun s _ _ k hk => e4 s k hk)) r312 hv1 hC1 (nW_rng hJ hW1)) ⟨rfl, rfl⟩ (by decide) (by decide) rfl rfl (Nat.le_of_ble_eq_true rfl) dL_finds_543 (fun _ _ h => h.elim) (fun r543 w543 hp543 => ?_)
                    obtain ⟨rfl, rfl⟩ := hp543
                    refine zz_if_eq hx 553 dL_finds_546 rfl (by decide) (fun z => absurd z (by decide)) (fun _ => ?_)
                    refine zz_iconst hx dL_finds_549 ?_
                    refine zz_goto hx 554 dL_finds_550 rfl ?_
                    refine zz_less pL1 ?_
                    exact zz_zret hx hf dL_finds_554 (Or.inr rfl) ⟨_, rfl, rfl, I1, Q1, P1, T, ow, isO, L, U, C, rfl, hJ1, kC_of hC e2 e3, kU_of hU e0 e1, kG_P hG (fun s _ _ k hk => e4 s k hk)⟩ (by decide) (by decide)
                · omega
          · refine zz_istore (lv' := [(0, _), (1, _), (2, _), (3, _), (4, _), (5, _), (6, _), (7, _), (8, _), (9, _), (10, _), (11, _), (12, _), (13, _)]) hx dL_finds_258 (by decide) rfl ?_
            refine zz_iload_n hx dL_finds_260 rfl ?_
            refine zz_iconst hx dL_finds_261 ?_
            refine zz_icmp_ne hx 320 dL_finds_262 rfl (by omega) (by omega) (fun c262 => ?_) (fun c262 => ?_)
            · omega
            · refine zz_iload hx dL_finds_265 rfl ?_
              refine zz_if_ne hx 274 dL_finds_267 rfl (by omega) (fun c267 => ?_) (fun c267 => ?_)
              · omega
              · have hf9 : nbC (T s) 1 (rAt 60 (T s 5) (P s 8)) = -1 := by rw [hrg, hq1]; exact nb_none _ _
                have hDn : rAt 60 (Q 0) (-1) = -1 → (-1 : Int) = -1 := fun _ => rfl
                refine zz_iconst hx dL_finds_270 ?_
                refine zz_goto hx 296 dL_finds_271 rfl ?_
                refine zz_istore (lv' := [(0, _), (1, _), (2, _), (3, _), (4, _), (5, _), (6, _), (7, _), (8, _), (9, _), (10, _), (11, _), (12, _), (13, _)]) hx dL_finds_296 (by decide) rfl ?_
                refine zz_aload_n hx dL_finds_298 rfl ?_
                refine zz_iload hx dL_finds_299 rfl ?_
                refine zz_iload_n hx dL_finds_301 rfl ?_
                refine zz_iconst hx dL_finds_302 ?_
                refine zz_irem hx dL_finds_303 (by omega) (by omega) (by omega) (by omega) ?_
                refine zz_if_le hx 311 dL_finds_304 rfl (by omega) (fun c304 => ?_) (fun c304 => ?_)
                · omega
                · refine zz_iconst hx dL_finds_307 ?_
                  refine zz_goto hx 312 dL_finds_308 rfl ?_
                  refine zz_callVi hx me_X3_findEnd lk_L_96 (k_X3_findEnd hst hI hS s (by omega) 1 (by omega)) 0 rfl rfl ⟨rfl, rfl⟩ (by decide) (by decide) rfl rfl (Nat.le_of_ble_eq_true rfl) dL_finds_312 (fun E9 w9 hX9 => absurd hs hX9.2.2) (fun r312 w312 hp312 => ?_)
                  obtain ⟨-, hp9⟩ := hp312
                  rw [hf9] at hp9
                  obtain ⟨I1, Q1, P1, rfl, hJ1, hC1, hv1, e0, e1, e2, e3, e4, hv9⟩ := mkO_J hJ hW1 hp9
                  have hvd := hv9.elim (fun y9 => y9.2.trans (hDn y9.1).symm) (fun y9 => y9.2)
                  refine zz_istore (lv' := [(0, _), (1, _), (2, _), (3, _), (4, _), (5, _), (6, _), (7, _), (8, _), (9, _), (10, _), (11, _), (12, _), (13, _)]) hx dL_finds_315 (by decide) rfl ?_
                  refine zz_goto hx 525 dL_finds_317 rfl ?_
                  refine zz_iload hx dL_finds_525 rfl ?_
                  refine zz_iload hx dL_finds_527 rfl ?_
                  refine zz_icmp_ne hx 553 dL_finds_529 rfl (by omega) (by omega) (fun c529 => ?_) (fun c529 => ?_)
                  · omega
                  · refine zz_aload_n hx dL_finds_532 rfl ?_
                    refine zz_aload hx dL_finds_533 rfl ?_
                    refine zz_aload hx dL_finds_535 rfl ?_
                    refine zz_aload hx dL_finds_537 rfl ?_
                    refine zz_iload hx dL_finds_539 rfl ?_
                    refine zz_aload hx dL_finds_541 rfl ?_
                    refine zz_callSi hx ms_L_isCurrent lk_L_108 (l_isCurrent hst hJ1 (kC_of hC e2 e3) (kU_of hU e0 e1) (kG_P hG (fun s _ _ k hk => e4 s k hk)) r312 hv1 hC1 (nW_rng hJ hW1)) ⟨rfl, rfl⟩ (by decide) (by decide) rfl rfl (Nat.le_of_ble_eq_true rfl) dL_finds_543 (fun _ _ h => h.elim) (fun r543 w543 hp543 => ?_)
                    obtain ⟨rfl, rfl⟩ := hp543
                    refine zz_if_eq hx 553 dL_finds_546 rfl (by decide) (fun z => absurd z (by decide)) (fun _ => ?_)
                    refine zz_iconst hx dL_finds_549 ?_
                    refine zz_goto hx 554 dL_finds_550 rfl ?_
                    refine zz_less pL1 ?_
                    exact zz_zret hx hf dL_finds_554 (Or.inr rfl) ⟨_, rfl, rfl, I1, Q1, P1, T, ow, isO, L, U, C, rfl, hJ1, kC_of hC e2 e3, kU_of hU e0 e1, kG_P hG (fun s _ _ k hk => e4 s k hk)⟩ (by decide) (by decide)
        have jy : P s 8 ≠ -1 → isO s (cO Q P ow s) → (0 ≤ (cO Q P ow s) ∧ (cO Q P ow s) < I 0) → ∀ nn a : Int, nn = ((mOf (ow s) (cO Q P ow s) (L s)).length : Int) → ixO (mOf (ow s) (cO Q P ow s) (L s)) (P s 8) a → Z l g ({ frames := 8, cells := 2, slots := 17, locals := 136 } : Room) 16 x 1 11 (wD g b c I Q P T N (rA g gA 30 Gr :: rA g tA 60 U :: rA g cA 3 C :: rA g q2 11 W1 :: rest)) 258 [(0, .ref (b 0)), (1, vi 2), (2, vi xa), (3, vi ya), (4, .ref gA), (5, .ref tA), (6, .ref cA), (7, .ref q2), (8, vi (-1)), (9, vi (-1)), (10, vi s), (11, vi (cO Q P ow s)), (12, vi nn)] [vi a] := by
          intro h8 hio hq0 nn a hn9 ha9
          have hqn : Q 0 (cO Q P ow s) ≠ -1 := by have := (J_own hJ hs.1 hs.2 hio).2.1; omega
          obtain ⟨mm1, mm2, mm3⟩ := J_mm hJ hs.1 hs.2 hio
          have har := ixO_rng ha9
          subst hn9
          by_cases hpar : ya % 2 = 0
          · refine zz_istore (lv' := [(0, _), (1, _), (2, _), (3, _), (4, _), (5, _), (6, _), (7, _), (8, _), (9, _), (10, _), (11, _), (12, _), (13, _)]) hx dL_finds_258 (by decide) rfl ?_
            refine zz_iload_n hx dL_finds_260 rfl ?_
            refine zz_iconst hx dL_finds_261 ?_
            refine zz_icmp_ne hx 320 dL_finds_262 rfl (by omega) (by omega) (fun c262 => ?_) (fun c262 => ?_)
            · omega
            · refine zz_iload hx dL_finds_265 rfl ?_
              refine zz_if_ne hx 274 dL_finds_267 rfl (by omega) (fun c267 => ?_) (fun c267 => ?_)
              · have hf9 : nbC (T s) 0 (rAt 60 (T s 5) (P s 8)) = zat (mOf (ow s) (cO Q P ow s) (L s)) 0 := by
                  rw [hrg, (nb_own hJ hs.1 hs.2 hio (z := 0) (by omega)).2 (by omega)]
                  rfl
                have hzm := mm3 _ (zat_mem (l := (mOf (ow s) (cO Q P ow s) (L s))) (k := 0) (by omega) (by omega))
                have hDn : rAt 60 (Q 0) (zat (mOf (ow s) (cO Q P ow s) (L s)) 0) = -1 → zat (mOf (ow s) (cO Q P ow s) (L s)) 0 = -1 := fun y9 => by rw [rAt_in (by omega) (by omega)] at y9; exact absurd y9 hzm.2.2.2.2.2
                refine zz_aload_n hx dL_finds_274 rfl ?_
                refine zz_iload hx dL_finds_275 rfl ?_
                refine zz_iload hx dL_finds_277 rfl ?_
                refine zz_iload_n hx dL_finds_279 rfl ?_
                refine zz_iconst hx dL_finds_280 ?_
                refine zz_irem hx dL_finds_281 (by omega) (by omega) (by omega) (by omega) ?_
                refine zz_if_ne hx 289 dL_finds_282 rfl (by omega) (fun c282 => ?_) (fun c282 => ?_)
                · omega
                · refine zz_iconst hx dL_finds_285 ?_
                  refine zz_goto hx 293 dL_finds_286 rfl ?_
                  refine zz_callVi hx me_X3_memberAt lk_L_45 (q_X3_memberAt hst hI hS (cO Q P ow s) (by omega) hqn s hs hio _ ⟨by omega, by omega⟩) 0 rfl rfl ⟨rfl, rfl⟩ (by decide) (by decide) rfl rfl (Nat.le_of_ble_eq_true rfl) dL_finds_293 (fun _ _ h => h.elim) (fun r293 w293 hp293 => ?_)
                  obtain ⟨rfl, rfl⟩ := hp293
                  refine zz_istore (lv' := [(0, _), (1, _), (2, _), (3, _), (4, _), (5, _), (6, _), (7, _), (8, _), (9, _), (10, _), (11, _), (12, _), (13, _)]) hx dL_finds_296 (by decide) rfl ?_
                  refine zz_aload_n hx dL_finds_298 rfl ?_
                  refine zz_iload hx dL_finds_299 rfl ?_
                  refine zz_iload_n hx dL_finds_301 rfl ?_
                  refine zz_iconst hx dL_finds_302 ?_
                  refine zz_irem hx dL_finds_303 (by omega) (by omega) (by omega) (by omega) ?_
                  refine zz_if_le hx 311 dL_finds_304 rfl (by omega) (fun c304 => ?_) (fun c304 => ?_)
                  · refine zz_iconst hx dL_finds_311 ?_
                    refine zz_callVi hx me_X3_findEnd lk_L_96 (k_X3_findEnd hst hI hS s (by omega) 0 (by omega)) 0 rfl rfl ⟨rfl, rfl⟩ (by decide) (by decide) rfl rfl (Nat.le_of_ble_eq_true rfl) dL_finds_312 (fun E9 w9 hX9 => absurd hs hX9.2.2) (fun r312 w312 hp312 => ?_)
                    obtain ⟨-, hp9⟩ := hp312
                    rw [hf9] at hp9
                    obtain ⟨I1, Q1, P1, rfl, hJ1, hC1, hv1, e0, e1, e2, e3, e4, hv9⟩ := mkO_J hJ hW1 hp9
                    have hvd := hv9.elim (fun y9 => y9.2.trans (hDn y9.1).symm) (fun y9 => y9.2)
                    refine zz_istore (lv' := [(0, _), (1, _), (2, _), (3, _), (4, _), (5, _), (6, _), (7, _), (8, _), (9, _), (10, _), (11, _), (12, _), (13, _)]) hx dL_finds_315 (by decide) rfl ?_
                    refine zz_goto hx 525 dL_finds_317 rfl ?_
                    refine zz_iload hx dL_finds_525 rfl ?_
                    refine zz_iload hx dL_finds_527 rfl ?_
                    refine zz_icmp_ne hx 553 dL_finds_529 rfl (by omega) (by omega) (fun c529 => ?_) (fun c529 => ?_)
                    · omega
                    · refine zz_aload_n hx dL_finds_532 rfl ?_
                      refine zz_aload hx dL_finds_533 rfl ?_
                      refine zz_aload hx dL_finds_535 rfl ?_
                      refine zz_aload hx dL_finds_537 rfl ?_
                      refine zz_iload hx dL_finds_539 rfl ?_
                      refine zz_aload hx dL_finds_541 rfl ?_
                      refine zz_callSi hx ms_L_isCurrent lk_L_108 (l_isCurrent hst hJ1 (kC_of hC e2 e3) (kU_of hU e0 e1) (kG_P hG (fun s _ _ k hk => e4 s k hk)) r312 hv1 hC1 (nW_rng hJ hW1)) ⟨rfl, rfl⟩ (by decide) (by decide) rfl rfl (Nat.le_of_ble_eq_true rfl) dL_finds_543 (fun _ _ h => h.elim) (fun r543 w543 hp543 => ?_)
                      obtain ⟨rfl, rfl⟩ := hp543
                      refine zz_if_eq hx 553 dL_finds_546 rfl (by decide) (fun z => absurd z (by decide)) (fun _ => ?_)
                      refine zz_iconst hx dL_finds_549 ?_
                      refine zz_goto hx 554 dL_finds_550 rfl ?_
                      refine zz_less pL1 ?_
                      exact zz_zret hx hf dL_finds_554 (Or.inr rfl) ⟨_, rfl, rfl, I1, Q1, P1, T, ow, isO, L, U, C, rfl, hJ1, kC_of hC e2 e3, kU_of hU e0 e1, kG_P hG (fun s _ _ k hk => e4 s k hk)⟩ (by decide) (by decide)
                  · omega
              · have hf9 : nbC (T s) 0 (rAt 60 (T s 5) (P s 8)) = -1 := by rw [hrg]; exact (nb_own hJ hs.1 hs.2 hio (z := 0) (by omega)).1 (by omega)
                have hDn : rAt 60 (Q 0) (-1) = -1 → (-1 : Int) = -1 := fun _ => rfl
                refine zz_iconst hx dL_finds_270 ?_
                refine zz_goto hx 296 dL_finds_271 rfl ?_
                refine zz_istore (lv' := [(0, _), (1, _), (2, _), (3, _), (4, _), (5, _), (6, _), (7, _), (8, _), (9, _), (10, _), (11, _), (12, _), (13, _)]) hx dL_finds_296 (by decide) rfl ?_
                refine zz_aload_n hx dL_finds_298 rfl ?_
                refine zz_iload hx dL_finds_299 rfl ?_
                refine zz_iload_n hx dL_finds_301 rfl ?_
                refine zz_iconst hx dL_finds_302 ?_
                refine zz_irem hx dL_finds_303 (by omega) (by omega) (by omega) (by omega) ?_
                refine zz_if_le hx 311 dL_finds_304 rfl (by omega) (fun c304 => ?_) (fun c304 => ?_)
                · refine zz_iconst hx dL_finds_311 ?_
                  refine zz_callVi hx me_X3_findEnd lk_L_96 (k_X3_findEnd hst hI hS s (by omega) 0 (by omega)) 0 rfl rfl ⟨rfl, rfl⟩ (by decide) (by decide) rfl rfl (Nat.le_of_ble_eq_true rfl) dL_finds_312 (fun E9 w9 hX9 => absurd hs hX9.2.2) (fun r312 w312 hp312 => ?_)
                  obtain ⟨-, hp9⟩ := hp312
                  rw [hf9] at hp9
                  obtain ⟨I1, Q1, P1, rfl, hJ1, hC1, hv1, e0, e1, e2, e3, e4, hv9⟩ := mkO_J hJ hW1 hp9
                  have hvd := hv9.elim (fun y9 => y9.2.trans (hDn y9.1).symm) (fun y9 => y9.2)
                  refine zz_istore (lv' := [(0, _), (1, _), (2, _), (3, _), (4, _), (5, _), (6, _), (7, _), (8, _), (9, _), (10, _), (11, _), (12, _), (13, _)]) hx dL_finds_315 (by decide) rfl ?_
                  refine zz_goto hx 525 dL_finds_317 rfl ?_
                  refine zz_iload hx dL_finds_525 rfl ?_
                  refine zz_iload hx dL_finds_527 rfl ?_
                  refine zz_icmp_ne hx 553 dL_finds_529 rfl (by omega) (by omega) (fun c529 => ?_) (fun c529 => ?_)
                  · omega
                  · refine zz_aload_n hx dL_finds_532 rfl ?_
                    refine zz_aload hx dL_finds_533 rfl ?_
                    refine zz_aload hx dL_finds_535 rfl ?_
                    refine zz_aload hx dL_finds_537 rfl ?_
                    refine zz_iload hx dL_finds_539 rfl ?_
                    refine zz_aload hx dL_finds_541 rfl ?_
                    refine zz_callSi hx ms_L_isCurrent lk_L_108 (l_isCurrent hst hJ1 (kC_of hC e2 e3) (kU_of hU e0 e1) (kG_P hG (fun s _ _ k hk => e4 s k hk)) r312 hv1 hC1 (nW_rng hJ hW1)) ⟨rfl, rfl⟩ (by decide) (by decide) rfl rfl (Nat.le_of_ble_eq_true rfl) dL_finds_543 (fun _ _ h => h.elim) (fun r543 w543 hp543 => ?_)
                    obtain ⟨rfl, rfl⟩ := hp543
                    refine zz_if_eq hx 553 dL_finds_546 rfl (by decide) (fun z => absurd z (by decide)) (fun _ => ?_)
                    refine zz_iconst hx dL_finds_549 ?_
                    refine zz_goto hx 554 dL_finds_550 rfl ?_
                    refine zz_less pL1 ?_
                    exact zz_zret hx hf dL_finds_554 (Or.inr rfl) ⟨_, rfl, rfl, I1, Q1, P1, T, ow, isO, L, U, C, rfl, hJ1, kC_of hC e2 e3, kU_of hU e0 e1, kG_P hG (fun s _ _ k hk => e4 s k hk)⟩ (by decide) (by decide)
                · omega
          · refine zz_istore (lv' := [(0, _), (1, _), (2, _), (3, _), (4, _), (5, _), (6, _), (7, _), (8, _), (9, _), (10, _), (11, _), (12, _), (13, _)]) hx dL_finds_258 (by decide) rfl ?_
            refine zz_iload_n hx dL_finds_260 rfl ?_
            refine zz_iconst hx dL_finds_261 ?_
            refine zz_icmp_ne hx 320 dL_finds_262 rfl (by omega) (by omega) (fun c262 => ?_) (fun c262 => ?_)
            · omega
            · refine zz_iload hx dL_finds_265 rfl ?_
              refine zz_if_ne hx 274 dL_finds_267 rfl (by omega) (fun c267 => ?_) (fun c267 => ?_)
              · have hf9 : nbC (T s) 1 (rAt 60 (T s 5) (P s 8)) = zat (mOf (ow s) (cO Q P ow s) (L s)) (((mOf (ow s) (cO Q P ow s) (L s)).length : Int) - 1) := by
                  rw [hrg, (nb_own hJ hs.1 hs.2 hio (z := 1) (by omega)).2 (by omega)]
                  rfl
                have hzm := mm3 _ (zat_mem (l := (mOf (ow s) (cO Q P ow s) (L s))) (k := (((mOf (ow s) (cO Q P ow s) (L s)).length : Int) - 1)) (by omega) (by omega))
                have hDn : rAt 60 (Q 0) (zat (mOf (ow s) (cO Q P ow s) (L s)) (((mOf (ow s) (cO Q P ow s) (L s)).length : Int) - 1)) = -1 → zat (mOf (ow s) (cO Q P ow s) (L s)) (((mOf (ow s) (cO Q P ow s) (L s)).length : Int) - 1) = -1 := fun y9 => by rw [rAt_in (by omega) (by omega)] at y9; exact absurd y9 hzm.2.2.2.2.2
                refine zz_aload_n hx dL_finds_274 rfl ?_
                refine zz_iload hx dL_finds_275 rfl ?_
                refine zz_iload hx dL_finds_277 rfl ?_
                refine zz_iload_n hx dL_finds_279 rfl ?_
                refine zz_iconst hx dL_finds_280 ?_
                refine zz_irem hx dL_finds_281 (by omega) (by omega) (by omega) (by omega) ?_
                refine zz_if_ne hx 289 dL_finds_282 rfl (by omega) (fun c282 => ?_) (fun c282 => ?_)
                · refine zz_iload hx dL_finds_289 rfl ?_
                  refine zz_iconst hx dL_finds_291 ?_
                  refine zz_isub hx dL_finds_292 ?_
                  refine zz_callVi hx me_X3_memberAt lk_L_45 (q_X3_memberAt hst hI hS (cO Q P ow s) (by omega) hqn s hs hio _ ⟨by omega, by omega⟩) 0 rfl rfl ⟨rfl, rfl⟩ (by decide) (by decide) rfl rfl (Nat.le_of_ble_eq_true rfl) dL_finds_293 (fun _ _ h => h.elim) (fun r293 w293 hp293 => ?_)
                  obtain ⟨rfl, rfl⟩ := hp293
                  refine zz_istore (lv' := [(0, _), (1, _), (2, _), (3, _), (4, _), (5, _), (6, _), (7, _), (8, _), (9, _), (10, _), (11, _), (12, _), (13, _)]) hx dL_finds_296 (by decide) rfl ?_
                  refine zz_aload_n hx dL_finds_298 rfl ?_
                  refine zz_iload hx dL_finds_299 rfl ?_
                  refine zz_iload_n hx dL_finds_301 rfl ?_
                  refine zz_iconst hx dL_finds_302 ?_
                  refine zz_irem hx dL_finds_303 (by omega) (by omega) (by omega) (by omega) ?_
                  refine zz_if_le hx 311 dL_finds_304 rfl (by omega) (fun c304 => ?_) (fun c304 => ?_)
                  · omega
                  · refine zz_iconst hx dL_finds_307 ?_
                    refine zz_goto hx 312 dL_finds_308 rfl ?_
                    refine zz_callVi hx me_X3_findEnd lk_L_96 (k_X3_findEnd hst hI hS s (by omega) 1 (by omega)) 0 rfl rfl ⟨rfl, rfl⟩ (by decide) (by decide) rfl rfl (Nat.le_of_ble_eq_true rfl) dL_finds_312 (fun E9 w9 hX9 => absurd hs hX9.2.2) (fun r312 w312 hp312 => ?_)
                    obtain ⟨-, hp9⟩ := hp312
                    rw [hf9] at hp9
                    obtain ⟨I1, Q1, P1, rfl, hJ1, hC1, hv1, e0, e1, e2, e3, e4, hv9⟩ := mkO_J hJ hW1 hp9
                    have hvd := hv9.elim (fun y9 => y9.2.trans (hDn y9.1).symm) (fun y9 => y9.2)
                    refine zz_istore (lv' := [(0, _), (1, _), (2, _), (3, _), (4, _), (5, _), (6, _), (7, _), (8, _), (9, _), (10, _), (11, _), (12, _), (13, _)]) hx dL_finds_315 (by decide) rfl ?_
                    refine zz_goto hx 525 dL_finds_317 rfl ?_
                    refine zz_iload hx dL_finds_525 rfl ?_
                    refine zz_iload hx dL_finds_527 rfl ?_
                    refine zz_icmp_ne hx 553 dL_finds_529 rfl (by omega) (by omega) (fun c529 => ?_) (fun c529 => ?_)
                    · omega
                    · refine zz_aload_n hx dL_finds_532 rfl ?_
                      refine zz_aload hx dL_finds_533 rfl ?_
                      refine zz_aload hx dL_finds_535 rfl ?_
                      refine zz_aload hx dL_finds_537 rfl ?_
                      refine zz_iload hx dL_finds_539 rfl ?_
                      refine zz_aload hx dL_finds_541 rfl ?_
                      refine zz_callSi hx ms_L_isCurrent lk_L_108 (l_isCurrent hst hJ1 (kC_of hC e2 e3) (kU_of hU e0 e1) (kG_P hG (fun s _ _ k hk => e4 s k hk)) r312 hv1 hC1 (nW_rng hJ hW1)) ⟨rfl, rfl⟩ (by decide) (by decide) rfl rfl (Nat.le_of_ble_eq_true rfl) dL_finds_543 (fun _ _ h => h.elim) (fun r543 w543 hp543 => ?_)
                      obtain ⟨rfl, rfl⟩ := hp543
                      refine zz_if_eq hx 553 dL_finds_546 rfl (by decide) (fun z => absurd z (by decide)) (fun _ => ?_)
                      refine zz_iconst hx dL_finds_549 ?_
                      refine zz_goto hx 554 dL_finds_550 rfl ?_
                      refine zz_less pL1 ?_
                      exact zz_zret hx hf dL_finds_554 (Or.inr rfl) ⟨_, rfl, rfl, I1, Q1, P1, T, ow, isO, L, U, C, rfl, hJ1, kC_of hC e2 e3, kU_of hU e0 e1, kG_P hG (fun s _ _ k hk => e4 s k hk)⟩ (by decide) (by decide)
                · omega
              · have hf9 : nbC (T s) 1 (rAt 60 (T s 5) (P s 8)) = -1 := by rw [hrg]; exact (nb_own hJ hs.1 hs.2 hio (z := 1) (by omega)).1 (by omega)
                have hDn : rAt 60 (Q 0) (-1) = -1 → (-1 : Int) = -1 := fun _ => rfl
                refine zz_iconst hx dL_finds_270 ?_
                refine zz_goto hx 296 dL_finds_271 rfl ?_
                refine zz_istore (lv' := [(0, _), (1, _), (2, _), (3, _), (4, _), (5, _), (6, _), (7, _), (8, _), (9, _), (10, _), (11, _), (12, _), (13, _)]) hx dL_finds_296 (by decide) rfl ?_
                refine zz_aload_n hx dL_finds_298 rfl ?_
                refine zz_iload hx dL_finds_299 rfl ?_
                refine zz_iload_n hx dL_finds_301 rfl ?_
                refine zz_iconst hx dL_finds_302 ?_
                refine zz_irem hx dL_finds_303 (by omega) (by omega) (by omega) (by omega) ?_
                refine zz_if_le hx 311 dL_finds_304 rfl (by omega) (fun c304 => ?_) (fun c304 => ?_)
                · omega
                · refine zz_iconst hx dL_finds_307 ?_
                  refine zz_goto hx 312 dL_finds_308 rfl ?_
                  refine zz_callVi hx me_X3_findEnd lk_L_96 (k_X3_findEnd hst hI hS s (by omega) 1 (by omega)) 0 rfl rfl ⟨rfl, rfl⟩ (by decide) (by decide) rfl rfl (Nat.le_of_ble_eq_true rfl) dL_finds_312 (fun E9 w9 hX9 => absurd hs hX9.2.2) (fun r312 w312 hp312 => ?_)
                  obtain ⟨-, hp9⟩ := hp312
                  rw [hf9] at hp9
                  obtain ⟨I1, Q1, P1, rfl, hJ1, hC1, hv1, e0, e1, e2, e3, e4, hv9⟩ := mkO_J hJ hW1 hp9
                  have hvd := hv9.elim (fun y9 => y9.2.trans (hDn y9.1).symm) (fun y9 => y9.2)
                  refine zz_istore (lv' := [(0, _), (1, _), (2, _), (3, _), (4, _), (5, _), (6, _), (7, _), (8, _), (9, _), (10, _), (11, _), (12, _), (13, _)]) hx dL_finds_315 (by decide) rfl ?_
                  refine zz_goto hx 525 dL_finds_317 rfl ?_
                  refine zz_iload hx dL_finds_525 rfl ?_
                  refine zz_iload hx dL_finds_527 rfl ?_
                  refine zz_icmp_ne hx 553 dL_finds_529 rfl (by omega) (by omega) (fun c529 => ?_) (fun c529 => ?_)
                  · omega
                  · refine zz_aload_n hx dL_finds_532 rfl ?_
                    refine zz_aload hx dL_finds_533 rfl ?_
                    refine zz_aload hx dL_finds_535 rfl ?_
                    refine zz_aload hx dL_finds_537 rfl ?_
                    refine zz_iload hx dL_finds_539 rfl ?_
                    refine zz_aload hx dL_finds_541 rfl ?_
                    refine zz_callSi hx ms_L_isCurrent lk_L_108 (l_isCurrent hst hJ1 (kC_of hC e2 e3) (kU_of hU e0 e1) (kG_P hG (fun s _ _ k hk => e4 s k hk)) r312 hv1 hC1 (nW_rng hJ hW1)) ⟨rfl, rfl⟩ (by decide) (by decide) rfl rfl (Nat.le_of_ble_eq_true rfl) dL_finds_543 (fun _ _ h => h.elim) (fun r543 w543 hp543 => ?_)
                    obtain ⟨rfl, rfl⟩ := hp543
                    refine zz_if_eq hx 553 dL_finds_546 rfl (by decide) (fun z => absurd z (by decide)) (fun _ => ?_)
                    refine zz_iconst hx dL_finds_549 ?_
                    refine zz_goto hx 554 dL_finds_550 rfl ?_
                    refine zz_less pL1 ?_
                    exact zz_zret hx hf dL_finds_554 (Or.inr rfl) ⟨_, rfl, rfl, I1, Q1, P1, T, ow, isO, L, U, C, rfl, hJ1, kC_of hC e2 e3, kU_of hU e0 e1, kG_P hG (fun s _ _ k hk => e4 s k hk)⟩ (by decide) (by decide)
        have hcu : (P s 8 = -1 ∧ cO Q P ow s = -1) ∨ (P s 8 ≠ -1 ∧ (0 ≤ cO Q P ow s ∧ cO Q P ow s < I 0)) := by
          rcases J_cur hJ hs.1 hs.2 with y9 | ⟨y0, -, -, -, y4, -⟩
          · exact Or.inl y9
          · exact Or.inr ⟨by omega, y4⟩
        have hcy : P s 8 ≠ -1 → isO s (cO Q P ow s) := fun h8 => by
          rcases J_cur hJ hs.1 hs.2 with y9 | ⟨-, -, -, y3, -⟩
          · exact absurd y9.1 h8
          · exact y3
        have hco : P s 8 = cO Q P ow s → P s 8 ≠ -1 → ixO (mOf (ow s) (cO Q P ow s) (L s)) (P s 8) (-1) := fun e9 h8 => Or.inl ⟨rfl, fun y9 => by
          have := (J_mm hJ hs.1 hs.2 (hcy h8)).2.2 _ y9
          exact this.2.1 e9⟩
        have j220n : P s 8 = -1 → cO Q P ow s = -1 → Z l g ({ frames := 8, cells := 2, slots := 17, locals := 136 } : Room) 16 x 1 11 (wD g b c I Q P T N (rA g gA 30 Gr :: rA g tA 60 U :: rA g cA 3 C :: rA g q2 11 W1 :: rest)) 220 [(0, .ref (b 0)), (1, vi 2), (2, vi xa), (3, vi ya), (4, .ref gA), (5, .ref tA), (6, .ref cA), (7, .ref q2), (8, vi (-1)), (9, vi (-1)), (10, vi s), (11, vi (cO Q P ow s))] [vi 0] := by
          intro h8 hq1
          refine zz_istore (lv' := [(0, _), (1, _), (2, _), (3, _), (4, _), (5, _), (6, _), (7, _), (8, _), (9, _), (10, _), (11, _), (12, _)]) hx dL_finds_220 (by decide) rfl ?_
          refine zz_iload hx dL_finds_222 rfl ?_
          refine zz_if_lt hx 239 dL_finds_224 rfl (by omega) (fun c224 => ?_) (fun c224 => ?_)
          · refine zz_iconst hx dL_finds_239 ?_
            refine zz_goto hx 258 dL_finds_240 rfl ?_
            exact jn h8 hq1 _ _ rfl rfl
          · omega
        have j220y : P s 8 ≠ -1 → isO s (cO Q P ow s) → Z l g ({ frames := 8, cells := 2, slots := 17, locals := 136 } : Room) 16 x 1 11 (wD g b c I Q P T N (rA g gA 30 Gr :: rA g tA 60 U :: rA g cA 3 C :: rA g q2 11 W1 :: rest)) 220 [(0, .ref (b 0)), (1, vi 2), (2, vi xa), (3, vi ya), (4, .ref gA), (5, .ref tA), (6, .ref cA), (7, .ref q2), (8, vi (-1)), (9, vi (-1)), (10, vi s), (11, vi (cO Q P ow s))] [vi ((mOf (ow s) (cO Q P ow s) (L s)).length : Int)] := by
          intro h8 hio
          have hq0 : 0 ≤ (cO Q P ow s) ∧ (cO Q P ow s) < I 0 := by omega
          refine zz_istore (lv' := [(0, _), (1, _), (2, _), (3, _), (4, _), (5, _), (6, _), (7, _), (8, _), (9, _), (10, _), (11, _), (12, _)]) hx dL_finds_220 (by decide) rfl ?_
          refine zz_iload hx dL_finds_222 rfl ?_
          refine zz_if_lt hx 239 dL_finds_224 rfl (by omega) (fun c224 => ?_) (fun c224 => ?_)
          · omega
          · refine zz_aload hx dL_finds_227 rfl ?_
            refine zz_iconst hx dL_finds_229 ?_
            refine zz_iload hx dL_finds_230 rfl ?_
            refine zz_iadd hx dL_finds_232 ?_
            refine zr_ld hx 3 rfl (by decide) (by omega) (by omega) dL_finds_233 ?_
            rw [hw5]
            refine zz_iload hx dL_finds_234 rfl ?_
            refine zz_icmp_ne hx 243 dL_finds_236 rfl (by omega) (by omega) (fun c236 => ?_) (fun c236 => ?_)
            · refine zz_aload_n hx dL_finds_243 rfl ?_
              refine zz_iload hx dL_finds_244 rfl ?_
              refine zz_iload hx dL_finds_246 rfl ?_
              refine zz_aload hx dL_finds_248 rfl ?_
              refine zz_iconst hx dL_finds_250 ?_
              refine zz_iload hx dL_finds_251 rfl ?_
              refine zz_iadd hx dL_finds_253 ?_
              refine zr_ld hx 3 rfl (by decide) (by omega) (by omega) dL_finds_254 ?_
              rw [hw5]
              refine zz_callSi hx ms_L_placeOf lk_L_92 (l_placeOf hst hJ s hs (cO Q P ow s) hio (P s 8) (by omega)) ⟨rfl, rfl⟩ (by decide) (by decide) rfl rfl (Nat.le_of_ble_eq_true rfl) dL_finds_255 (fun _ _ h => h.elim) (fun r255 w255 hp255 => ?_)
              obtain ⟨hx9, rfl⟩ := hp255
              first
                | exact jy h8 hio hq0 _ _ rfl hx9
                | exact jy h8 hio hq0 _ _ rfl (hco (by omega) h8)
            · refine zz_iconst hx dL_finds_239 ?_
              refine zz_goto hx 258 dL_finds_240 rfl ?_
              first
                | exact jy h8 hio hq0 _ _ rfl hx9
                | exact jy h8 hio hq0 _ _ rfl (hco (by omega) h8)
        refine zz_aload_n hx dL_finds_191 rfl ?_
        refine zz_aload hx dL_finds_192 rfl ?_
        refine zz_aload hx dL_finds_194 rfl ?_
        refine zz_iload hx dL_finds_196 rfl ?_
        refine zz_callSi hx ms_L_owner lk_L_88 (l_owner hst hJ hC hU hG s hs) ⟨rfl, rfl⟩ (by decide) (by decide) rfl rfl (Nat.le_of_ble_eq_true rfl) dL_finds_198 (fun _ _ h => h.elim) (fun r198 w198 hp198 => ?_)
        obtain ⟨rfl, rfl⟩ := hp198
        refine zz_istore (lv' := [(0, _), (1, _), (2, _), (3, _), (4, _), (5, _), (6, _), (7, _), (8, _), (9, _), (10, _), (11, _)]) hx dL_finds_201 (by decide) rfl ?_
        refine zz_iload hx dL_finds_203 rfl ?_
        refine zz_if_ge hx 212 dL_finds_205 rfl (by omega) (fun c205 => ?_) (fun c205 => ?_)
        · have h8 : P s 8 ≠ -1 := by omega
          have hio := hcy h8
          have hqn : Q 0 (cO Q P ow s) ≠ -1 := by have := (J_own hJ hs.1 hs.2 hio).2.1; omega
          refine zz_aload_n hx dL_finds_212 rfl ?_
          refine zz_iload hx dL_finds_213 rfl ?_
          refine zz_iload hx dL_finds_215 rfl ?_
          refine zz_callVi hx me_X3_members lk_L_39 (q_X3_members hst hI hS (cO Q P ow s) (by omega) hqn s hs) 0 rfl rfl ⟨rfl, rfl⟩ (by decide) (by decide) rfl rfl (Nat.le_of_ble_eq_true rfl) dL_finds_217 (fun _ _ h => h.elim) (fun r217 w217 hp217 => ?_)
          obtain ⟨hm9, rfl⟩ := hp217
          obtain rfl : r217 = ((mOf (ow s) (cO Q P ow s) (L s)).length : Int) := by
            rcases hm9 with z9 | z9
            · exact z9.2
            · exact absurd hio z9.1
          clear hm9
          first
            | exact j220n h8n (by omega)
            | exact j220y h8 hio
        · have h8n : P s 8 = -1 := by omega
          refine zz_iconst hx dL_finds_208 ?_
          refine zz_goto hx 220 dL_finds_209 rfl ?_
          first
            | exact j220n h8n (by omega)
            | exact j220y h8 hio
      · omega
    · omega
  · omega

set_option maxHeartbeats 4000000 in
set_option maxRecDepth 100000 in
theorem l_finds3 {l : Launch} {g : zG} {b : Nat → Nat} {c : Int → Nat → Nat} {I : Nat → Int} {Q : Nat → Int → Int} {P : Int → Nat → Int} {T : Int → Nat → Int → Int} {N : Nat} {ow : Int → Int → Int} {isO : Int → Int → Prop} {L : Int → List Int} {rest : va_W} (hst : l.stackTraces = false) {gA tA cA : Nat} {Gr U C : Int → Int} (hJ : J I Q P T N ow isO L) (hC : kC I N C) (hU : kU Q U) (hG : kG P N Gr) (hN0 : 0 < N) (xa ya : Int) (hx0 : 0 ≤ xa ∧ xa < 1073741824) (hy0 : 0 ≤ ya ∧ ya < 1073741824) : zM l g yL_finds cL_finds 16 (Option.some FieldType.boolean) ({ frames := 8, cells := 2, slots := 17, locals := 136 } : Room) [.ref (b 0), vi 3, vi xa, vi ya, .ref gA, .ref tA, .ref cA] (wD g b c I Q P T N (rA g gA 30 Gr :: rA g tA 60 U :: rA g cA 3 C :: rest)) (zI fun v w => v = 1 ∧ (jW g b c N gA tA cA Gr rest w)) zN 2 17 := by
  have hI := hJ.1
  have hS := hJ.2.1
  have hi0 := hI.2.2.2.2.2.2.1
  have hN6 := hI.2.1
  obtain ⟨hc0, hc1, hc2⟩ := id hC
  have hi2 := hI.2.2.1
  refine zM_of (lv0 := [(0, _), (1, _), (2, _), (3, _), (4, _), (5, _), (6, _)]) hst rfl (by decide +kernel) (Nat.le_of_ble_eq_true rfl) rfl (fun x hx hf hn => ?_)
  refine zz_bipush hx dL_finds_0 rfl ?_
  refine zz_newi (N := 11) hx (by decide) (by decide) dL_finds_2 (fun q2 => ?_)
  refine zz_perm (pN3 _) ?_
  refine zz_astore (lv' := [(0, _), (1, _), (2, _), (3, _), (4, _), (5, _), (6, _), (7, _)]) hx dL_finds_4 (by decide) rfl ?_
  refine zz_aload_n hx dL_finds_6 rfl ?_
  refine zz_aload hx dL_finds_7 rfl ?_
  refine zz_aload hx dL_finds_9 rfl ?_
  refine zz_callSv hx ms_L_notes lk_L_77 (l_notes hst hJ hC) ⟨rfl, rfl⟩ (by decide) (by decide) rfl rfl (Nat.le_of_ble_eq_true rfl) dL_finds_11 (fun _ _ h => h.elim) (fun w11 hp11 => ?_)
  obtain ⟨W1, hW1, rfl⟩ := hp11
  have hw0 := hW1.1
  refine zz_iconst hx dL_finds_14 ?_
  refine zz_istore (lv' := [(0, _), (1, _), (2, _), (3, _), (4, _), (5, _), (6, _), (7, _), (8, _)]) hx dL_finds_15 (by decide) rfl ?_
  refine zz_iconst hx dL_finds_17 ?_
  refine zz_istore (lv' := [(0, _), (1, _), (2, _), (3, _), (4, _), (5, _), (6, _), (7, _), (8, _), (9, _)]) hx dL_finds_18 (by decide) rfl ?_
  refine zz_aload hx dL_finds_20 rfl ?_
  refine zz_iconst hx dL_finds_22 ?_
  refine zr_ld hx 2 rfl (by decide) (by omega) (by omega) dL_finds_23 ?_
  refine zz_if_ne hx 31 dL_finds_24 rfl (by omega) (fun c24 => ?_) (fun c24 => ?_)
  · refine zz_iload_n hx dL_finds_31 rfl ?_
    refine zz_aload hx dL_finds_32 rfl ?_
    refine zz_iconst hx dL_finds_34 ?_
    refine zr_ld hx 2 rfl (by decide) (by omega) (by omega) dL_finds_35 ?_
    rw [hc0]
    refine zz_irem hx dL_finds_36 (by omega) (by omega) (by omega) (by omega) ?_
    have hs : 0 ≤ xa % (N : Int) ∧ xa % (N : Int) < (N : Int) := ⟨Int.emod_nonneg xa (by omega), Int.emod_lt_of_pos xa (by omega)⟩
    generalize hse : xa % (N : Int) = s at *
    refine zz_istore (lv' := [(0, _), (1, _), (2, _), (3, _), (4, _), (5, _), (6, _), (7, _), (8, _), (9, _), (10, _)]) hx dL_finds_37 (by decide) rfl ?_
    refine zz_iload_n hx dL_finds_39 rfl ?_
    refine zz_if_eq hx 48 dL_finds_40 rfl (by decide) (fun z => absurd z (by decide)) (fun _ => ?_)
    refine zz_iload hx dL_finds_43 rfl ?_
    refine zz_if_ge hx 97 dL_finds_45 rfl (by omega) (fun c45 => ?_) (fun c45 => ?_)
    · refine zz_iload_n hx dL_finds_97 rfl ?_
      refine zz_iconst hx dL_finds_98 ?_
      refine zz_icmp_ne hx 191 dL_finds_99 rfl (by omega) (by omega) (fun c99 => ?_) (fun c99 => ?_)
      · have hg9 := kG_at hG hS hs
        have hw5 := hW1.2.2 s hs.1 hs.2
        have hrg := J_ring hJ hs.1 hs.2
        have jn : P s 8 = -1 → cO Q P ow s = -1 → ∀ nn a : Int, nn = 0 → a = -1 → Z l g ({ frames := 8, cells := 2, slots := 17, locals := 136 } : Room) 16 x 1 11 (wD g b c I Q P T N (rA g gA 30 Gr :: rA g tA 60 U :: rA g cA 3 C :: rA g q2 11 W1 :: rest)) 258 [(0, .ref (b 0)), (1, vi 3), (2, vi xa), (3, vi ya), (4, .ref gA), (5, .ref tA), (6, .ref cA), (7, .ref q2), (8, vi (-1)), (9, vi (-1)), (10, vi s), (11, vi (cO Q P ow s)), (12, vi nn)] [vi a] := by
          intro h8 hq1 nn a hn9 ha9
          subst hn9
          subst ha9
          by_cases hpar : ya % 2 = 0
          · refine zz_istore (lv' := [(0, _), (1, _), (2, _), (3, _), (4, _), (5, _), (6, _), (7, _), (8, _), (9, _), (10, _), (11, _), (12, _), (13, _)]) hx dL_finds_258 (by decide) rfl ?_
            refine zz_iload_n hx dL_finds_260 rfl ?_
            refine zz_iconst hx dL_finds_261 ?_
            refine zz_icmp_ne hx 320 dL_finds_262 rfl (by omega) (by omega) (fun c262 => ?_) (fun c262 => ?_)
            · refine zz_iload_n hx dL_finds_320 rfl ?_
              refine zz_iconst hx dL_finds_321 ?_
              refine zz_icmp_ne hx 406 dL_finds_322 rfl (by omega) (by omega) (fun c322 => ?_) (fun c322 => ?_)
              · omega
              · refine zz_iload_n hx dL_finds_325 rfl ?_
                refine zz_iconst hx dL_finds_326 ?_
                refine zz_irem hx dL_finds_327 (by omega) (by omega) (by omega) (by omega) ?_
                refine zz_if_ne hx 338 dL_finds_328 rfl (by omega) (fun c328 => ?_) (fun c328 => ?_)
                · omega
                · refine zz_iload hx dL_finds_331 rfl ?_
                  refine zz_iconst hx dL_finds_333 ?_
                  refine zz_iadd hx dL_finds_334 ?_
                  refine zz_goto hx 354 dL_finds_335 rfl ?_
                  refine zz_istore (lv' := [(0, _), (1, _), (2, _), (3, _), (4, _), (5, _), (6, _), (7, _), (8, _), (9, _), (10, _), (11, _), (12, _), (13, _), (14, _)]) hx dL_finds_354 (by decide) rfl ?_
                  refine zz_iload hx dL_finds_356 rfl ?_
                  refine zz_if_lt hx 381 dL_finds_358 rfl (by omega) (fun c358 => ?_) (fun c358 => ?_)
                  · have hf9 : nbC (T s) 0 (P s 8) = -1 := by rw [h8]; exact nb_none _ _
                    have hDn : rAt 60 (Q 0) (-1) = -1 → (-1 : Int) = -1 := fun _ => rfl
                    refine zz_iconst hx dL_finds_381 ?_
                    refine zz_istore (lv' := [(0, _), (1, _), (2, _), (3, _), (4, _), (5, _), (6, _), (7, _), (8, _), (9, _), (10, _), (11, _), (12, _), (13, _), (14, _)]) hx dL_finds_382 (by decide) rfl ?_
                    refine zz_aload_n hx dL_finds_384 rfl ?_
                    refine zz_iload hx dL_finds_385 rfl ?_
                    refine zz_iload_n hx dL_finds_387 rfl ?_
                    refine zz_iconst hx dL_finds_388 ?_
                    refine zz_irem hx dL_finds_389 (by omega) (by omega) (by omega) (by omega) ?_
                    refine zz_if_le hx 397 dL_finds_390 rfl (by omega) (fun c390 => ?_) (fun c390 => ?_)
                    · refine zz_iconst hx dL_finds_397 ?_
                      refine zz_callVi hx me_X3_findNext lk_L_99 (k_X3_findNext hst hI hS s (by omega) 0 (by omega)) 0 rfl rfl ⟨rfl, rfl⟩ (by decide) (by decide) rfl rfl (Nat.le_of_ble_eq_true rfl) dL_finds_398 (fun E9 w9 hX9 => absurd hs hX9.2.2) (fun r398 w398 hp398 => ?_)
                      obtain ⟨-, hp9⟩ := hp398
                      rw [hf9] at hp9
                      obtain ⟨I1, Q1, P1, rfl, hJ1, hC1, hv1, e0, e1, e2, e3, e4, hv9⟩ := mkO_J hJ hW1 hp9
                      have hvd := hv9.elim (fun y9 => y9.2.trans (hDn y9.1).symm) (fun y9 => y9.2)
                      refine zz_istore (lv' := [(0, _), (1, _), (2, _), (3, _), (4, _), (5, _), (6, _), (7, _), (8, _), (9, _), (10, _), (11, _), (12, _), (13, _), (14, _)]) hx dL_finds_401 (by decide) rfl ?_
                      refine zz_goto hx 525 dL_finds_403 rfl ?_
                      refine zz_iload hx dL_finds_525 rfl ?_
                      refine zz_iload hx dL_finds_527 rfl ?_
                      refine zz_icmp_ne hx 553 dL_finds_529 rfl (by omega) (by omega) (fun c529 => ?_) (fun c529 => ?_)
                      · omega
                      · refine zz_aload_n hx dL_finds_532 rfl ?_
                        refine zz_aload hx dL_finds_533 rfl ?_
                        refine zz_aload hx dL_finds_535 rfl ?_
                        refine zz_aload hx dL_finds_537 rfl ?_
                        refine zz_iload hx dL_finds_539 rfl ?_
                        refine zz_aload hx dL_finds_541 rfl ?_
                        refine zz_callSi hx ms_L_isCurrent lk_L_108 (l_isCurrent hst hJ1 (kC_of hC e2 e3) (kU_of hU e0 e1) (kG_P hG (fun s _ _ k hk => e4 s k hk)) r398 hv1 hC1 (nW_rng hJ hW1)) ⟨rfl, rfl⟩ (by decide) (by decide) rfl rfl (Nat.le_of_ble_eq_true rfl) dL_finds_543 (fun _ _ h => h.elim) (fun r543 w543 hp543 => ?_)
                        obtain ⟨rfl, rfl⟩ := hp543
                        refine zz_if_eq hx 553 dL_finds_546 rfl (by decide) (fun z => absurd z (by decide)) (fun _ => ?_)
                        refine zz_iconst hx dL_finds_549 ?_
                        refine zz_goto hx 554 dL_finds_550 rfl ?_
                        refine zz_less pL1 ?_
                        exact zz_zret hx hf dL_finds_554 (Or.inr rfl) ⟨_, rfl, rfl, I1, Q1, P1, T, ow, isO, L, U, C, rfl, hJ1, kC_of hC e2 e3, kU_of hU e0 e1, kG_P hG (fun s _ _ k hk => e4 s k hk)⟩ (by decide) (by decide)
                    · omega
                  · refine zz_iload hx dL_finds_361 rfl ?_
                    refine zz_iload hx dL_finds_363 rfl ?_
                    refine zz_icmp_ge hx 381 dL_finds_365 rfl (by omega) (by omega) (fun c365 => ?_) (fun c365 => ?_)
                    · have hf9 : nbC (T s) 0 (P s 8) = -1 := by rw [h8]; exact nb_none _ _
                      have hDn : rAt 60 (Q 0) (-1) = -1 → (-1 : Int) = -1 := fun _ => rfl
                      refine zz_iconst hx dL_finds_381 ?_
                      refine zz_istore (lv' := [(0, _), (1, _), (2, _), (3, _), (4, _), (5, _), (6, _), (7, _), (8, _), (9, _), (10, _), (11, _), (12, _), (13, _), (14, _)]) hx dL_finds_382 (by decide) rfl ?_
                      refine zz_aload_n hx dL_finds_384 rfl ?_
                      refine zz_iload hx dL_finds_385 rfl ?_
                      refine zz_iload_n hx dL_finds_387 rfl ?_
                      refine zz_iconst hx dL_finds_388 ?_
                      refine zz_irem hx dL_finds_389 (by omega) (by omega) (by omega) (by omega) ?_
                      refine zz_if_le hx 397 dL_finds_390 rfl (by omega) (fun c390 => ?_) (fun c390 => ?_)
                      · refine zz_iconst hx dL_finds_397 ?_
                        refine zz_callVi hx me_X3_findNext lk_L_99 (k_X3_findNext hst hI hS s (by omega) 0 (by omega)) 0 rfl rfl ⟨rfl, rfl⟩ (by decide) (by decide) rfl rfl (Nat.le_of_ble_eq_true rfl) dL_finds_398 (fun E9 w9 hX9 => absurd hs hX9.2.2) (fun r398 w398 hp398 => ?_)
                        obtain ⟨-, hp9⟩ := hp398
                        rw [hf9] at hp9
                        obtain ⟨I1, Q1, P1, rfl, hJ1, hC1, hv1, e0, e1, e2, e3, e4, hv9⟩ := mkO_J hJ hW1 hp9
                        have hvd := hv9.elim (fun y9 => y9.2.trans (hDn y9.1).symm) (fun y9 => y9.2)
                        refine zz_istore (lv' := [(0, _), (1, _), (2, _), (3, _), (4, _), (5, _), (6, _), (7, _), (8, _), (9, _), (10, _), (11, _), (12, _), (13, _), (14, _)]) hx dL_finds_401 (by decide) rfl ?_
                        refine zz_goto hx 525 dL_finds_403 rfl ?_
                        refine zz_iload hx dL_finds_525 rfl ?_
                        refine zz_iload hx dL_finds_527 rfl ?_
                        refine zz_icmp_ne hx 553 dL_finds_529 rfl (by omega) (by omega) (fun c529 => ?_) (fun c529 => ?_)
                        · omega
                        · refine zz_aload_n hx dL_finds_532 rfl ?_
                          refine zz_aload hx dL_finds_533 rfl ?_
                          refine zz_aload hx dL_finds_535 rfl ?_
                          refine zz_aload hx dL_finds_537 rfl ?_
                          refine zz_iload hx dL_finds_539 rfl ?_
                          refine zz_aload hx dL_finds_541 rfl ?_
                          refine zz_callSi hx ms_L_isCurrent lk_L_108 (l_isCurrent hst hJ1 (kC_of hC e2 e3) (kU_of hU e0 e1) (kG_P hG (fun s _ _ k hk => e4 s k hk)) r398 hv1 hC1 (nW_rng hJ hW1)) ⟨rfl, rfl⟩ (by decide) (by decide) rfl rfl (Nat.le_of_ble_eq_true rfl) dL_finds_543 (fun _ _ h => h.elim) (fun r543 w543 hp543 => ?_)
                          obtain ⟨rfl, rfl⟩ := hp543
                          refine zz_if_eq hx 553 dL_finds_546 rfl (by decide) (fun z => absurd z (by decide)) (fun _ => ?_)
                          refine zz_iconst hx dL_finds_549 ?_
                          refine zz_goto hx 554 dL_finds_550 rfl ?_
                          refine zz_less pL1 ?_
                          exact zz_zret hx hf dL_finds_554 (Or.inr rfl) ⟨_, rfl, rfl, I1, Q1, P1, T, ow, isO, L, U, C, rfl, hJ1, kC_of hC e2 e3, kU_of hU e0 e1, kG_P hG (fun s _ _ k hk => e4 s k hk)⟩ (by decide) (by decide)
                      · omega
                    · omega
            · omega
          · refine zz_istore (lv' := [(0, _), (1, _), (2, _), (3, _), (4, _), (5, _), (6, _), (7, _), (8, _), (9, _), (10, _), (11, _), (12, _), (13, _)]) hx dL_finds_258 (by decide) rfl ?_
            refine zz_iload_n hx dL_finds_260 rfl ?_
            refine zz_iconst hx dL_finds_261 ?_
            refine zz_icmp_ne hx 320 dL_finds_262 rfl (by omega) (by omega) (fun c262 => ?_) (fun c262 => ?_)
            · refine zz_iload_n hx dL_finds_320 rfl ?_
              refine zz_iconst hx dL_finds_321 ?_
              refine zz_icmp_ne hx 406 dL_finds_322 rfl (by omega) (by omega) (fun c322 => ?_) (fun c322 => ?_)
              · omega
              · refine zz_iload_n hx dL_finds_325 rfl ?_
                refine zz_iconst hx dL_finds_326 ?_
                refine zz_irem hx dL_finds_327 (by omega) (by omega) (by omega) (by omega) ?_
                refine zz_if_ne hx 338 dL_finds_328 rfl (by omega) (fun c328 => ?_) (fun c328 => ?_)
                · refine zz_iload hx dL_finds_338 rfl ?_
                  refine zz_if_ge hx 350 dL_finds_340 rfl (by omega) (fun c340 => ?_) (fun c340 => ?_)
                  · omega
                  · refine zz_iload hx dL_finds_343 rfl ?_
                    refine zz_iconst hx dL_finds_345 ?_
                    refine zz_isub hx dL_finds_346 ?_
                    refine zz_goto hx 354 dL_finds_347 rfl ?_
                    refine zz_istore (lv' := [(0, _), (1, _), (2, _), (3, _), (4, _), (5, _), (6, _), (7, _), (8, _), (9, _), (10, _), (11, _), (12, _), (13, _), (14, _)]) hx dL_finds_354 (by decide) rfl ?_
                    refine zz_iload hx dL_finds_356 rfl ?_
                    refine zz_if_lt hx 381 dL_finds_358 rfl (by omega) (fun c358 => ?_) (fun c358 => ?_)
                    · have hf9 : nbC (T s) 1 (P s 8) = -1 := by rw [h8]; exact nb_none _ _
                      have hDn : rAt 60 (Q 0) (-1) = -1 → (-1 : Int) = -1 := fun _ => rfl
                      refine zz_iconst hx dL_finds_381 ?_
                      refine zz_istore (lv' := [(0, _), (1, _), (2, _), (3, _), (4, _), (5, _), (6, _), (7, _), (8, _), (9, _), (10, _), (11, _), (12, _), (13, _), (14, _)]) hx dL_finds_382 (by decide) rfl ?_
                      refine zz_aload_n hx dL_finds_384 rfl ?_
                      refine zz_iload hx dL_finds_385 rfl ?_
                      refine zz_iload_n hx dL_finds_387 rfl ?_
                      refine zz_iconst hx dL_finds_388 ?_
                      refine zz_irem hx dL_finds_389 (by omega) (by omega) (by omega) (by omega) ?_
                      refine zz_if_le hx 397 dL_finds_390 rfl (by omega) (fun c390 => ?_) (fun c390 => ?_)
                      · omega
                      · refine zz_iconst hx dL_finds_393 ?_
                        refine zz_goto hx 398 dL_finds_394 rfl ?_
                        refine zz_callVi hx me_X3_findNext lk_L_99 (k_X3_findNext hst hI hS s (by omega) 1 (by omega)) 0 rfl rfl ⟨rfl, rfl⟩ (by decide) (by decide) rfl rfl (Nat.le_of_ble_eq_true rfl) dL_finds_398 (fun E9 w9 hX9 => absurd hs hX9.2.2) (fun r398 w398 hp398 => ?_)
                        obtain ⟨-, hp9⟩ := hp398
                        rw [hf9] at hp9
                        obtain ⟨I1, Q1, P1, rfl, hJ1, hC1, hv1, e0, e1, e2, e3, e4, hv9⟩ := mkO_J hJ hW1 hp9
                        have hvd := hv9.elim (fun y9 => y9.2.trans (hDn y9.1).symm) (fun y9 => y9.2)
                        refine zz_istore (lv' := [(0, _), (1, _), (2, _), (3, _), (4, _), (5, _), (6, _), (7, _), (8, _), (9, _), (10, _), (11, _), (12, _), (13, _), (14, _)]) hx dL_finds_401 (by decide) rfl ?_
                        refine zz_goto hx 525 dL_finds_403 rfl ?_
                        refine zz_iload hx dL_finds_525 rfl ?_
                        refine zz_iload hx dL_finds_527 rfl ?_
                        refine zz_icmp_ne hx 553 dL_finds_529 rfl (by omega) (by omega) (fun c529 => ?_) (fun c529 => ?_)
                        · omega
                        · refine zz_aload_n hx dL_finds_532 rfl ?_
                          refine zz_aload hx dL_finds_533 rfl ?_
                          refine zz_aload hx dL_finds_535 rfl ?_
                          refine zz_aload hx dL_finds_537 rfl ?_
                          refine zz_iload hx dL_finds_539 rfl ?_
                          refine zz_aload hx dL_finds_541 rfl ?_
                          refine zz_callSi hx ms_L_isCurrent lk_L_108 (l_isCurrent hst hJ1 (kC_of hC e2 e3) (kU_of hU e0 e1) (kG_P hG (fun s _ _ k hk => e4 s k hk)) r398 hv1 hC1 (nW_rng hJ hW1)) ⟨rfl, rfl⟩ (by decide) (by decide) rfl rfl (Nat.le_of_ble_eq_true rfl) dL_finds_543 (fun _ _ h => h.elim) (fun r543 w543 hp543 => ?_)
                          obtain ⟨rfl, rfl⟩ := hp543
                          refine zz_if_eq hx 553 dL_finds_546 rfl (by decide) (fun z => absurd z (by decide)) (fun _ => ?_)
                          refine zz_iconst hx dL_finds_549 ?_
                          refine zz_goto hx 554 dL_finds_550 rfl ?_
                          refine zz_less pL1 ?_
                          exact zz_zret hx hf dL_finds_554 (Or.inr rfl) ⟨_, rfl, rfl, I1, Q1, P1, T, ow, isO, L, U, C, rfl, hJ1, kC_of hC e2 e3, kU_of hU e0 e1, kG_P hG (fun s _ _ k hk => e4 s k hk)⟩ (by decide) (by decide)
                    · refine zz_iload hx dL_finds_361 rfl ?_
                      refine zz_iload hx dL_finds_363 rfl ?_
                      refine zz_icmp_ge hx 381 dL_finds_365 rfl (by omega) (by omega) (fun c365 => ?_) (fun c365 => ?_)
                      · have hf9 : nbC (T s) 1 (P s 8) = -1 := by rw [h8]; exact nb_none _ _
                        have hDn : rAt 60 (Q 0) (-1) = -1 → (-1 : Int) = -1 := fun _ => rfl
                        refine zz_iconst hx dL_finds_381 ?_
                        refine zz_istore (lv' := [(0, _), (1, _), (2, _), (3, _), (4, _), (5, _), (6, _), (7, _), (8, _), (9, _), (10, _), (11, _), (12, _), (13, _), (14, _)]) hx dL_finds_382 (by decide) rfl ?_
                        refine zz_aload_n hx dL_finds_384 rfl ?_
                        refine zz_iload hx dL_finds_385 rfl ?_
                        refine zz_iload_n hx dL_finds_387 rfl ?_
                        refine zz_iconst hx dL_finds_388 ?_
                        refine zz_irem hx dL_finds_389 (by omega) (by omega) (by omega) (by omega) ?_
                        refine zz_if_le hx 397 dL_finds_390 rfl (by omega) (fun c390 => ?_) (fun c390 => ?_)
                        · omega
                        · refine zz_iconst hx dL_finds_393 ?_
                          refine zz_goto hx 398 dL_finds_394 rfl ?_
                          refine zz_callVi hx me_X3_findNext lk_L_99 (k_X3_findNext hst hI hS s (by omega) 1 (by omega)) 0 rfl rfl ⟨rfl, rfl⟩ (by decide) (by decide) rfl rfl (Nat.le_of_ble_eq_true rfl) dL_finds_398 (fun E9 w9 hX9 => absurd hs hX9.2.2) (fun r398 w398 hp398 => ?_)
                          obtain ⟨-, hp9⟩ := hp398
                          rw [hf9] at hp9
                          obtain ⟨I1, Q1, P1, rfl, hJ1, hC1, hv1, e0, e1, e2, e3, e4, hv9⟩ := mkO_J hJ hW1 hp9
                          have hvd := hv9.elim (fun y9 => y9.2.trans (hDn y9.1).symm) (fun y9 => y9.2)
                          refine zz_istore (lv' := [(0, _), (1, _), (2, _), (3, _), (4, _), (5, _), (6, _), (7, _), (8, _), (9, _), (10, _), (11, _), (12, _), (13, _), (14, _)]) hx dL_finds_401 (by decide) rfl ?_
                          refine zz_goto hx 525 dL_finds_403 rfl ?_
                          refine zz_iload hx dL_finds_525 rfl ?_
                          refine zz_iload hx dL_finds_527 rfl ?_
                          refine zz_icmp_ne hx 553 dL_finds_529 rfl (by omega) (by omega) (fun c529 => ?_) (fun c529 => ?_)
                          · omega
                          · refine zz_aload_n hx dL_finds_532 rfl ?_
                            refine zz_aload hx dL_finds_533 rfl ?_
                            refine zz_aload hx dL_finds_535 rfl ?_
                            refine zz_aload hx dL_finds_537 rfl ?_
                            refine zz_iload hx dL_finds_539 rfl ?_
                            refine zz_aload hx dL_finds_541 rfl ?_
                            refine zz_callSi hx ms_L_isCurrent lk_L_108 (l_isCurrent hst hJ1 (kC_of hC e2 e3) (kU_of hU e0 e1) (kG_P hG (fun s _ _ k hk => e4 s k hk)) r398 hv1 hC1 (nW_rng hJ hW1)) ⟨rfl, rfl⟩ (by decide) (by decide) rfl rfl (Nat.le_of_ble_eq_true rfl) dL_finds_543 (fun _ _ h => h.elim) (fun r543 w543 hp543 => ?_)
                            obtain ⟨rfl, rfl⟩ := hp543
                            refine zz_if_eq hx 553 dL_finds_546 rfl (by decide) (fun z => absurd z (by decide)) (fun _ => ?_)
                            refine zz_iconst hx dL_finds_549 ?_
                            refine zz_goto hx 554 dL_finds_550 rfl ?_
                            refine zz_less pL1 ?_
                            exact zz_zret hx hf dL_finds_554 (Or.inr rfl) ⟨_, rfl, rfl, I1, Q1, P1, T, ow, isO, L, U, C, rfl, hJ1, kC_of hC e2 e3, kU_of hU e0 e1, kG_P hG (fun s _ _ k hk => e4 s k hk)⟩ (by decide) (by decide)
                      · omega
                · omega
            · omega
        have jy : P s 8 ≠ -1 → isO s (cO Q P ow s) → (0 ≤ (cO Q P ow s) ∧ (cO Q P ow s) < I 0) → ∀ nn a : Int, nn = ((mOf (ow s) (cO Q P ow s) (L s)).length : Int) → ixO (mOf (ow s) (cO Q P ow s) (L s)) (P s 8) a → Z l g ({ frames := 8, cells := 2, slots := 17, locals := 136 } : Room) 16 x 1 11 (wD g b c I Q P T N (rA g gA 30 Gr :: rA g tA 60 U :: rA g cA 3 C :: rA g q2 11 W1 :: rest)) 258 [(0, .ref (b 0)), (1, vi 3), (2, vi xa), (3, vi ya), (4, .ref gA), (5, .ref tA), (6, .ref cA), (7, .ref q2), (8, vi (-1)), (9, vi (-1)), (10, vi s), (11, vi (cO Q P ow s)), (12, vi nn)] [vi a] := by
          intro h8 hio hq0 nn a hn9 ha9
          have hqn : Q 0 (cO Q P ow s) ≠ -1 := by have := (J_own hJ hs.1 hs.2 hio).2.1; omega
          obtain ⟨mm1, mm2, mm3⟩ := J_mm hJ hs.1 hs.2 hio
          have har := ixO_rng ha9
          subst hn9
          by_cases hpar : ya % 2 = 0
          · have j354 : ∀ nx : Int, (nx = a + 1) → Z l g ({ frames := 8, cells := 2, slots := 17, locals := 136 } : Room) 16 x 1 11 (wD g b c I Q P T N (rA g gA 30 Gr :: rA g tA 60 U :: rA g cA 3 C :: rA g q2 11 W1 :: rest)) 354 [(0, .ref (b 0)), (1, vi 3), (2, vi xa), (3, vi ya), (4, .ref gA), (5, .ref tA), (6, .ref cA), (7, .ref q2), (8, vi (-1)), (9, vi (-1)), (10, vi s), (11, vi (cO Q P ow s)), (12, vi ((mOf (ow s) (cO Q P ow s) (L s)).length : Int)), (13, vi a)] [vi nx] := by
              intro nx hnx9
              obtain ⟨hnb1, hnb2⟩ := nb_cur hJ hs.1 hs.2 h8 (z := 0) (nx := nx) (by omega) ha9 (by omega)
              refine zz_istore (lv' := [(0, _), (1, _), (2, _), (3, _), (4, _), (5, _), (6, _), (7, _), (8, _), (9, _), (10, _), (11, _), (12, _), (13, _), (14, _)]) hx dL_finds_354 (by decide) rfl ?_
              refine zz_iload hx dL_finds_356 rfl ?_
              refine zz_if_lt hx 381 dL_finds_358 rfl (by omega) (fun c358 => ?_) (fun c358 => ?_)
              · have hf9 : nbC (T s) 0 (P s 8) = -1 := hnb2 (by omega)
                have hDn : rAt 60 (Q 0) (-1) = -1 → (-1 : Int) = -1 := fun _ => rfl
                refine zz_iconst hx dL_finds_381 ?_
                refine zz_istore (lv' := [(0, _), (1, _), (2, _), (3, _), (4, _), (5, _), (6, _), (7, _), (8, _), (9, _), (10, _), (11, _), (12, _), (13, _), (14, _)]) hx dL_finds_382 (by decide) rfl ?_
                refine zz_aload_n hx dL_finds_384 rfl ?_
                refine zz_iload hx dL_finds_385 rfl ?_
                refine zz_iload_n hx dL_finds_387 rfl ?_
                refine zz_iconst hx dL_finds_388 ?_
                refine zz_irem hx dL_finds_389 (by omega) (by omega) (by omega) (by omega) ?_
                refine zz_if_le hx 397 dL_finds_390 rfl (by omega) (fun c390 => ?_) (fun c390 => ?_)
                · refine zz_iconst hx dL_finds_397 ?_
                  refine zz_callVi hx me_X3_findNext lk_L_99 (k_X3_findNext hst hI hS s (by omega) 0 (by omega)) 0 rfl rfl ⟨rfl, rfl⟩ (by decide) (by decide) rfl rfl (Nat.le_of_ble_eq_true rfl) dL_finds_398 (fun E9 w9 hX9 => absurd hs hX9.2.2) (fun r398 w398 hp398 => ?_)
                  obtain ⟨-, hp9⟩ := hp398
                  rw [hf9] at hp9
                  obtain ⟨I1, Q1, P1, rfl, hJ1, hC1, hv1, e0, e1, e2, e3, e4, hv9⟩ := mkO_J hJ hW1 hp9
                  have hvd := hv9.elim (fun y9 => y9.2.trans (hDn y9.1).symm) (fun y9 => y9.2)
                  refine zz_istore (lv' := [(0, _), (1, _), (2, _), (3, _), (4, _), (5, _), (6, _), (7, _), (8, _), (9, _), (10, _), (11, _), (12, _), (13, _), (14, _)]) hx dL_finds_401 (by decide) rfl ?_
                  refine zz_goto hx 525 dL_finds_403 rfl ?_
                  refine zz_iload hx dL_finds_525 rfl ?_
                  refine zz_iload hx dL_finds_527 rfl ?_
                  refine zz_icmp_ne hx 553 dL_finds_529 rfl (by omega) (by omega) (fun c529 => ?_) (fun c529 => ?_)
                  · omega
                  · refine zz_aload_n hx dL_finds_532 rfl ?_
                    refine zz_aload hx dL_finds_533 rfl ?_
                    refine zz_aload hx dL_finds_535 rfl ?_
                    refine zz_aload hx dL_finds_537 rfl ?_
                    refine zz_iload hx dL_finds_539 rfl ?_
                    refine zz_aload hx dL_finds_541 rfl ?_
                    refine zz_callSi hx ms_L_isCurrent lk_L_108 (l_isCurrent hst hJ1 (kC_of hC e2 e3) (kU_of hU e0 e1) (kG_P hG (fun s _ _ k hk => e4 s k hk)) r398 hv1 hC1 (nW_rng hJ hW1)) ⟨rfl, rfl⟩ (by decide) (by decide) rfl rfl (Nat.le_of_ble_eq_true rfl) dL_finds_543 (fun _ _ h => h.elim) (fun r543 w543 hp543 => ?_)
                    obtain ⟨rfl, rfl⟩ := hp543
                    refine zz_if_eq hx 553 dL_finds_546 rfl (by decide) (fun z => absurd z (by decide)) (fun _ => ?_)
                    refine zz_iconst hx dL_finds_549 ?_
                    refine zz_goto hx 554 dL_finds_550 rfl ?_
                    refine zz_less pL1 ?_
                    exact zz_zret hx hf dL_finds_554 (Or.inr rfl) ⟨_, rfl, rfl, I1, Q1, P1, T, ow, isO, L, U, C, rfl, hJ1, kC_of hC e2 e3, kU_of hU e0 e1, kG_P hG (fun s _ _ k hk => e4 s k hk)⟩ (by decide) (by decide)
                · omega
              · refine zz_iload hx dL_finds_361 rfl ?_
                refine zz_iload hx dL_finds_363 rfl ?_
                refine zz_icmp_ge hx 381 dL_finds_365 rfl (by omega) (by omega) (fun c365 => ?_) (fun c365 => ?_)
                · have hf9 : nbC (T s) 0 (P s 8) = -1 := hnb2 (by omega)
                  have hDn : rAt 60 (Q 0) (-1) = -1 → (-1 : Int) = -1 := fun _ => rfl
                  refine zz_iconst hx dL_finds_381 ?_
                  refine zz_istore (lv' := [(0, _), (1, _), (2, _), (3, _), (4, _), (5, _), (6, _), (7, _), (8, _), (9, _), (10, _), (11, _), (12, _), (13, _), (14, _)]) hx dL_finds_382 (by decide) rfl ?_
                  refine zz_aload_n hx dL_finds_384 rfl ?_
                  refine zz_iload hx dL_finds_385 rfl ?_
                  refine zz_iload_n hx dL_finds_387 rfl ?_
                  refine zz_iconst hx dL_finds_388 ?_
                  refine zz_irem hx dL_finds_389 (by omega) (by omega) (by omega) (by omega) ?_
                  refine zz_if_le hx 397 dL_finds_390 rfl (by omega) (fun c390 => ?_) (fun c390 => ?_)
                  · refine zz_iconst hx dL_finds_397 ?_
                    refine zz_callVi hx me_X3_findNext lk_L_99 (k_X3_findNext hst hI hS s (by omega) 0 (by omega)) 0 rfl rfl ⟨rfl, rfl⟩ (by decide) (by decide) rfl rfl (Nat.le_of_ble_eq_true rfl) dL_finds_398 (fun E9 w9 hX9 => absurd hs hX9.2.2) (fun r398 w398 hp398 => ?_)
                    obtain ⟨-, hp9⟩ := hp398
                    rw [hf9] at hp9
                    obtain ⟨I1, Q1, P1, rfl, hJ1, hC1, hv1, e0, e1, e2, e3, e4, hv9⟩ := mkO_J hJ hW1 hp9
                    have hvd := hv9.elim (fun y9 => y9.2.trans (hDn y9.1).symm) (fun y9 => y9.2)
                    refine zz_istore (lv' := [(0, _), (1, _), (2, _), (3, _), (4, _), (5, _), (6, _), (7, _), (8, _), (9, _), (10, _), (11, _), (12, _), (13, _), (14, _)]) hx dL_finds_401 (by decide) rfl ?_
                    refine zz_goto hx 525 dL_finds_403 rfl ?_
                    refine zz_iload hx dL_finds_525 rfl ?_
                    refine zz_iload hx dL_finds_527 rfl ?_
                    refine zz_icmp_ne hx 553 dL_finds_529 rfl (by omega) (by omega) (fun c529 => ?_) (fun c529 => ?_)
                    · omega
                    · refine zz_aload_n hx dL_finds_532 rfl ?_
                      refine zz_aload hx dL_finds_533 rfl ?_
                      refine zz_aload hx dL_finds_535 rfl ?_
                      refine zz_aload hx dL_finds_537 rfl ?_
                      refine zz_iload hx dL_finds_539 rfl ?_
                      refine zz_aload hx dL_finds_541 rfl ?_
                      refine zz_callSi hx ms_L_isCurrent lk_L_108 (l_isCurrent hst hJ1 (kC_of hC e2 e3) (kU_of hU e0 e1) (kG_P hG (fun s _ _ k hk => e4 s k hk)) r398 hv1 hC1 (nW_rng hJ hW1)) ⟨rfl, rfl⟩ (by decide) (by decide) rfl rfl (Nat.le_of_ble_eq_true rfl) dL_finds_543 (fun _ _ h => h.elim) (fun r543 w543 hp543 => ?_)
                      obtain ⟨rfl, rfl⟩ := hp543
                      refine zz_if_eq hx 553 dL_finds_546 rfl (by decide) (fun z => absurd z (by decide)) (fun _ => ?_)
                      refine zz_iconst hx dL_finds_549 ?_
                      refine zz_goto hx 554 dL_finds_550 rfl ?_
                      refine zz_less pL1 ?_
                      exact zz_zret hx hf dL_finds_554 (Or.inr rfl) ⟨_, rfl, rfl, I1, Q1, P1, T, ow, isO, L, U, C, rfl, hJ1, kC_of hC e2 e3, kU_of hU e0 e1, kG_P hG (fun s _ _ k hk => e4 s k hk)⟩ (by decide) (by decide)
                  · omega
                · have hf9 : nbC (T s) 0 (P s 8) = zat (mOf (ow s) (cO Q P ow s) (L s)) nx := hnb1 ⟨by omega, by omega⟩
                  have hzm := mm3 _ (zat_mem (l := (mOf (ow s) (cO Q P ow s) (L s))) (k := nx) (by omega) (by omega))
                  have hDn : rAt 60 (Q 0) (zat (mOf (ow s) (cO Q P ow s) (L s)) nx) = -1 → zat (mOf (ow s) (cO Q P ow s) (L s)) nx = -1 := fun y9 => by rw [rAt_in (by omega) (by omega)] at y9; exact absurd y9 hzm.2.2.2.2.2
                  refine zz_aload_n hx dL_finds_368 rfl ?_
                  refine zz_iload hx dL_finds_369 rfl ?_
                  refine zz_iload hx dL_finds_371 rfl ?_
                  refine zz_iload hx dL_finds_373 rfl ?_
                  refine zz_callVi hx me_X3_memberAt lk_L_45 (q_X3_memberAt hst hI hS (cO Q P ow s) (by omega) hqn s hs hio nx ⟨by omega, by omega⟩) 0 rfl rfl ⟨rfl, rfl⟩ (by decide) (by decide) rfl rfl (Nat.le_of_ble_eq_true rfl) dL_finds_375 (fun _ _ h => h.elim) (fun r375 w375 hp375 => ?_)
                  obtain ⟨rfl, rfl⟩ := hp375
                  refine zz_goto hx 382 dL_finds_378 rfl ?_
                  refine zz_istore (lv' := [(0, _), (1, _), (2, _), (3, _), (4, _), (5, _), (6, _), (7, _), (8, _), (9, _), (10, _), (11, _), (12, _), (13, _), (14, _)]) hx dL_finds_382 (by decide) rfl ?_
                  refine zz_aload_n hx dL_finds_384 rfl ?_
                  refine zz_iload hx dL_finds_385 rfl ?_
                  refine zz_iload_n hx dL_finds_387 rfl ?_
                  refine zz_iconst hx dL_finds_388 ?_
                  refine zz_irem hx dL_finds_389 (by omega) (by omega) (by omega) (by omega) ?_
                  refine zz_if_le hx 397 dL_finds_390 rfl (by omega) (fun c390 => ?_) (fun c390 => ?_)
                  · refine zz_iconst hx dL_finds_397 ?_
                    refine zz_callVi hx me_X3_findNext lk_L_99 (k_X3_findNext hst hI hS s (by omega) 0 (by omega)) 0 rfl rfl ⟨rfl, rfl⟩ (by decide) (by decide) rfl rfl (Nat.le_of_ble_eq_true rfl) dL_finds_398 (fun E9 w9 hX9 => absurd hs hX9.2.2) (fun r398 w398 hp398 => ?_)
                    obtain ⟨-, hp9⟩ := hp398
                    rw [hf9] at hp9
                    obtain ⟨I1, Q1, P1, rfl, hJ1, hC1, hv1, e0, e1, e2, e3, e4, hv9⟩ := mkO_J hJ hW1 hp9
                    have hvd := hv9.elim (fun y9 => y9.2.trans (hDn y9.1).symm) (fun y9 => y9.2)
                    refine zz_istore (lv' := [(0, _), (1, _), (2, _), (3, _), (4, _), (5, _), (6, _), (7, _), (8, _), (9, _), (10, _), (11, _), (12, _), (13, _), (14, _)]) hx dL_finds_401 (by decide) rfl ?_
                    refine zz_goto hx 525 dL_finds_403 rfl ?_
                    refine zz_iload hx dL_finds_525 rfl ?_
                    refine zz_iload hx dL_finds_527 rfl ?_
                    refine zz_icmp_ne hx 553 dL_finds_529 rfl (by omega) (by omega) (fun c529 => ?_) (fun c529 => ?_)
                    · omega
                    · refine zz_aload_n hx dL_finds_532 rfl ?_
                      refine zz_aload hx dL_finds_533 rfl ?_
                      refine zz_aload hx dL_finds_535 rfl ?_
                      refine zz_aload hx dL_finds_537 rfl ?_
                      refine zz_iload hx dL_finds_539 rfl ?_
                      refine zz_aload hx dL_finds_541 rfl ?_
                      refine zz_callSi hx ms_L_isCurrent lk_L_108 (l_isCurrent hst hJ1 (kC_of hC e2 e3) (kU_of hU e0 e1) (kG_P hG (fun s _ _ k hk => e4 s k hk)) r398 hv1 hC1 (nW_rng hJ hW1)) ⟨rfl, rfl⟩ (by decide) (by decide) rfl rfl (Nat.le_of_ble_eq_true rfl) dL_finds_543 (fun _ _ h => h.elim) (fun r543 w543 hp543 => ?_)
                      obtain ⟨rfl, rfl⟩ := hp543
                      refine zz_if_eq hx 553 dL_finds_546 rfl (by decide) (fun z => absurd z (by decide)) (fun _ => ?_)
                      refine zz_iconst hx dL_finds_549 ?_
                      refine zz_goto hx 554 dL_finds_550 rfl ?_
                      refine zz_less pL1 ?_
                      exact zz_zret hx hf dL_finds_554 (Or.inr rfl) ⟨_, rfl, rfl, I1, Q1, P1, T, ow, isO, L, U, C, rfl, hJ1, kC_of hC e2 e3, kU_of hU e0 e1, kG_P hG (fun s _ _ k hk => e4 s k hk)⟩ (by decide) (by decide)
                  · omega
            refine zz_istore (lv' := [(0, _), (1, _), (2, _), (3, _), (4, _), (5, _), (6, _), (7, _), (8, _), (9, _), (10, _), (11, _), (12, _), (13, _)]) hx dL_finds_258 (by decide) rfl ?_
            refine zz_iload_n hx dL_finds_260 rfl ?_
            refine zz_iconst hx dL_finds_261 ?_
            refine zz_icmp_ne hx 320 dL_finds_262 rfl (by omega) (by omega) (fun c262 => ?_) (fun c262 => ?_)
            · refine zz_iload_n hx dL_finds_320 rfl ?_
              refine zz_iconst hx dL_finds_321 ?_
              refine zz_icmp_ne hx 406 dL_finds_322 rfl (by omega) (by omega) (fun c322 => ?_) (fun c322 => ?_)
              · omega
              · refine zz_iload_n hx dL_finds_325 rfl ?_
                refine zz_iconst hx dL_finds_326 ?_
                refine zz_irem hx dL_finds_327 (by omega) (by omega) (by omega) (by omega) ?_
                refine zz_if_ne hx 338 dL_finds_328 rfl (by omega) (fun c328 => ?_) (fun c328 => ?_)
                · omega
                · refine zz_iload hx dL_finds_331 rfl ?_
                  refine zz_iconst hx dL_finds_333 ?_
                  refine zz_iadd hx dL_finds_334 ?_
                  refine zz_goto hx 354 dL_finds_335 rfl ?_
                  exact j354 _ (by omega)
            · omega
          · have j354 : ∀ nx : Int, ((a < 0 ∧ nx = ((mOf (ow s) (cO Q P ow s) (L s)).length : Int) - 1) ∨ (0 ≤ a ∧ nx = a - 1)) → Z l g ({ frames := 8, cells := 2, slots := 17, locals := 136 } : Room) 16 x 1 11 (wD g b c I Q P T N (rA g gA 30 Gr :: rA g tA 60 U :: rA g cA 3 C :: rA g q2 11 W1 :: rest)) 354 [(0, .ref (b 0)), (1, vi 3), (2, vi xa), (3, vi ya), (4, .ref gA), (5, .ref tA), (6, .ref cA), (7, .ref q2), (8, vi (-1)), (9, vi (-1)), (10, vi s), (11, vi (cO Q P ow s)), (12, vi ((mOf (ow s) (cO Q P ow s) (L s)).length : Int)), (13, vi a)] [vi nx] := by
              intro nx hnx9
              obtain ⟨hnb1, hnb2⟩ := nb_cur hJ hs.1 hs.2 h8 (z := 1) (nx := nx) (by omega) ha9 (by omega)
              refine zz_istore (lv' := [(0, _), (1, _), (2, _), (3, _), (4, _), (5, _), (6, _), (7, _), (8, _), (9, _), (10, _), (11, _), (12, _), (13, _), (14, _)]) hx dL_finds_354 (by decide) rfl ?_
              refine zz_iload hx dL_finds_356 rfl ?_
              refine zz_if_lt hx 381 dL_finds_358 rfl (by omega) (fun c358 => ?_) (fun c358 => ?_)
              · have hf9 : nbC (T s) 1 (P s 8) = -1 := hnb2 (by omega)
                have hDn : rAt 60 (Q 0) (-1) = -1 → (-1 : Int) = -1 := fun _ => rfl
                refine zz_iconst hx dL_finds_381 ?_
                refine zz_istore (lv' := [(0, _), (1, _), (2, _), (3, _), (4, _), (5, _), (6, _), (7, _), (8, _), (9, _), (10, _), (11, _), (12, _), (13, _), (14, _)]) hx dL_finds_382 (by decide) rfl ?_
                refine zz_aload_n hx dL_finds_384 rfl ?_
                refine zz_iload hx dL_finds_385 rfl ?_
                refine zz_iload_n hx dL_finds_387 rfl ?_
                refine zz_iconst hx dL_finds_388 ?_
                refine zz_irem hx dL_finds_389 (by omega) (by omega) (by omega) (by omega) ?_
                refine zz_if_le hx 397 dL_finds_390 rfl (by omega) (fun c390 => ?_) (fun c390 => ?_)
                · omega
                · refine zz_iconst hx dL_finds_393 ?_
                  refine zz_goto hx 398 dL_finds_394 rfl ?_
                  refine zz_callVi hx me_X3_findNext lk_L_99 (k_X3_findNext hst hI hS s (by omega) 1 (by omega)) 0 rfl rfl ⟨rfl, rfl⟩ (by decide) (by decide) rfl rfl (Nat.le_of_ble_eq_true rfl) dL_finds_398 (fun E9 w9 hX9 => absurd hs hX9.2.2) (fun r398 w398 hp398 => ?_)
                  obtain ⟨-, hp9⟩ := hp398
                  rw [hf9] at hp9
                  obtain ⟨I1, Q1, P1, rfl, hJ1, hC1, hv1, e0, e1, e2, e3, e4, hv9⟩ := mkO_J hJ hW1 hp9
                  have hvd := hv9.elim (fun y9 => y9.2.trans (hDn y9.1).symm) (fun y9 => y9.2)
                  refine zz_istore (lv' := [(0, _), (1, _), (2, _), (3, _), (4, _), (5, _), (6, _), (7, _), (8, _), (9, _), (10, _), (11, _), (12, _), (13, _), (14, _)]) hx dL_finds_401 (by decide) rfl ?_
                  refine zz_goto hx 525 dL_finds_403 rfl ?_
                  refine zz_iload hx dL_finds_525 rfl ?_
                  refine zz_iload hx dL_finds_527 rfl ?_
                  refine zz_icmp_ne hx 553 dL_finds_529 rfl (by omega) (by omega) (fun c529 => ?_) (fun c529 => ?_)
                  · omega
                  · refine zz_aload_n hx dL_finds_532 rfl ?_
                    refine zz_aload hx dL_finds_533 rfl ?_
                    refine zz_aload hx dL_finds_535 rfl ?_
                    refine zz_aload hx dL_finds_537 rfl ?_
                    refine zz_iload hx dL_finds_539 rfl ?_
                    refine zz_aload hx dL_finds_541 rfl ?_
                    refine zz_callSi hx ms_L_isCurrent lk_L_108 (l_isCurrent hst hJ1 (kC_of hC e2 e3) (kU_of hU e0 e1) (kG_P hG (fun s _ _ k hk => e4 s k hk)) r398 hv1 hC1 (nW_rng hJ hW1)) ⟨rfl, rfl⟩ (by decide) (by decide) rfl rfl (Nat.le_of_ble_eq_true rfl) dL_finds_543 (fun _ _ h => h.elim) (fun r543 w543 hp543 => ?_)
                    obtain ⟨rfl, rfl⟩ := hp543
                    refine zz_if_eq hx 553 dL_finds_546 rfl (by decide) (fun z => absurd z (by decide)) (fun _ => ?_)
                    refine zz_iconst hx dL_finds_549 ?_
                    refine zz_goto hx 554 dL_finds_550 rfl ?_
                    refine zz_less pL1 ?_
                    exact zz_zret hx hf dL_finds_554 (Or.inr rfl) ⟨_, rfl, rfl, I1, Q1, P1, T, ow, isO, L, U, C, rfl, hJ1, kC_of hC e2 e3, kU_of hU e0 e1, kG_P hG (fun s _ _ k hk => e4 s k hk)⟩ (by decide) (by decide)
              · refine zz_iload hx dL_finds_361 rfl ?_
                refine zz_iload hx dL_finds_363 rfl ?_
                refine zz_icmp_ge hx 381 dL_finds_365 rfl (by omega) (by omega) (fun c365 => ?_) (fun c365 => ?_)
                · have hf9 : nbC (T s) 1 (P s 8) = -1 := hnb2 (by omega)
                  have hDn : rAt 60 (Q 0) (-1) = -1 → (-1 : Int) = -1 := fun _ => rfl
                  refine zz_iconst hx dL_finds_381 ?_
                  refine zz_istore (lv' := [(0, _), (1, _), (2, _), (3, _), (4, _), (5, _), (6, _), (7, _), (8, _), (9, _), (10, _), (11, _), (12, _), (13, _), (14, _)]) hx dL_finds_382 (by decide) rfl ?_
                  refine zz_aload_n hx dL_finds_384 rfl ?_
                  refine zz_iload hx dL_finds_385 rfl ?_
                  refine zz_iload_n hx dL_finds_387 rfl ?_
                  refine zz_iconst hx dL_finds_388 ?_
                  refine zz_irem hx dL_finds_389 (by omega) (by omega) (by omega) (by omega) ?_
                  refine zz_if_le hx 397 dL_finds_390 rfl (by omega) (fun c390 => ?_) (fun c390 => ?_)
                  · omega
                  · refine zz_iconst hx dL_finds_393 ?_
                    refine zz_goto hx 398 dL_finds_394 rfl ?_
                    refine zz_callVi hx me_X3_findNext lk_L_99 (k_X3_findNext hst hI hS s (by omega) 1 (by omega)) 0 rfl rfl ⟨rfl, rfl⟩ (by decide) (by decide) rfl rfl (Nat.le_of_ble_eq_true rfl) dL_finds_398 (fun E9 w9 hX9 => absurd hs hX9.2.2) (fun r398 w398 hp398 => ?_)
                    obtain ⟨-, hp9⟩ := hp398
                    rw [hf9] at hp9
                    obtain ⟨I1, Q1, P1, rfl, hJ1, hC1, hv1, e0, e1, e2, e3, e4, hv9⟩ := mkO_J hJ hW1 hp9
                    have hvd := hv9.elim (fun y9 => y9.2.trans (hDn y9.1).symm) (fun y9 => y9.2)
                    refine zz_istore (lv' := [(0, _), (1, _), (2, _), (3, _), (4, _), (5, _), (6, _), (7, _), (8, _), (9, _), (10, _), (11, _), (12, _), (13, _), (14, _)]) hx dL_finds_401 (by decide) rfl ?_
                    refine zz_goto hx 525 dL_finds_403 rfl ?_
                    refine zz_iload hx dL_finds_525 rfl ?_
                    refine zz_iload hx dL_finds_527 rfl ?_
                    refine zz_icmp_ne hx 553 dL_finds_529 rfl (by omega) (by omega) (fun c529 => ?_) (fun c529 => ?_)
                    · omega
                    · refine zz_aload_n hx dL_finds_532 rfl ?_
                      refine zz_aload hx dL_finds_533 rfl ?_
                      refine zz_aload hx dL_finds_535 rfl ?_
                      refine zz_aload hx dL_finds_537 rfl ?_
                      refine zz_iload hx dL_finds_539 rfl ?_
                      refine zz_aload hx dL_finds_541 rfl ?_
                      refine zz_callSi hx ms_L_isCurrent lk_L_108 (l_isCurrent hst hJ1 (kC_of hC e2 e3) (kU_of hU e0 e1) (kG_P hG (fun s _ _ k hk => e4 s k hk)) r398 hv1 hC1 (nW_rng hJ hW1)) ⟨rfl, rfl⟩ (by decide) (by decide) rfl rfl (Nat.le_of_ble_eq_true rfl) dL_finds_543 (fun _ _ h => h.elim) (fun r543 w543 hp543 => ?_)
                      obtain ⟨rfl, rfl⟩ := hp543
                      refine zz_if_eq hx 553 dL_finds_546 rfl (by decide) (fun z => absurd z (by decide)) (fun _ => ?_)
                      refine zz_iconst hx dL_finds_549 ?_
                      refine zz_goto hx 554 dL_finds_550 rfl ?_
                      refine zz_less pL1 ?_
                      exact zz_zret hx hf dL_finds_554 (Or.inr rfl) ⟨_, rfl, rfl, I1, Q1, P1, T, ow, isO, L, U, C, rfl, hJ1, kC_of hC e2 e3, kU_of hU e0 e1, kG_P hG (fun s _ _ k hk => e4 s k hk)⟩ (by decide) (by decide)
                · have hf9 : nbC (T s) 1 (P s 8) = zat (mOf (ow s) (cO Q P ow s) (L s)) nx := hnb1 ⟨by omega, by omega⟩
                  have hzm := mm3 _ (zat_mem (l := (mOf (ow s) (cO Q P ow s) (L s))) (k := nx) (by omega) (by omega))
                  have hDn : rAt 60 (Q 0) (zat (mOf (ow s) (cO Q P ow s) (L s)) nx) = -1 → zat (mOf (ow s) (cO Q P ow s) (L s)) nx = -1 := fun y9 => by rw [rAt_in (by omega) (by omega)] at y9; exact absurd y9 hzm.2.2.2.2.2
                  refine zz_aload_n hx dL_finds_368 rfl ?_
                  refine zz_iload hx dL_finds_369 rfl ?_
                  refine zz_iload hx dL_finds_371 rfl ?_
                  refine zz_iload hx dL_finds_373 rfl ?_
                  refine zz_callVi hx me_X3_memberAt lk_L_45 (q_X3_memberAt hst hI hS (cO Q P ow s) (by omega) hqn s hs hio nx ⟨by omega, by omega⟩) 0 rfl rfl ⟨rfl, rfl⟩ (by decide) (by decide) rfl rfl (Nat.le_of_ble_eq_true rfl) dL_finds_375 (fun _ _ h => h.elim) (fun r375 w375 hp375 => ?_)
                  obtain ⟨rfl, rfl⟩ := hp375
                  refine zz_goto hx 382 dL_finds_378 rfl ?_
                  refine zz_istore (lv' := [(0, _), (1, _), (2, _), (3, _), (4, _), (5, _), (6, _), (7, _), (8, _), (9, _), (10, _), (11, _), (12, _), (13, _), (14, _)]) hx dL_finds_382 (by decide) rfl ?_
                  refine zz_aload_n hx dL_finds_384 rfl ?_
                  refine zz_iload hx dL_finds_385 rfl ?_
                  refine zz_iload_n hx dL_finds_387 rfl ?_
                  refine zz_iconst hx dL_finds_388 ?_
                  refine zz_irem hx dL_finds_389 (by omega) (by omega) (by omega) (by omega) ?_
                  refine zz_if_le hx 397 dL_finds_390 rfl (by omega) (fun c390 => ?_) (fun c390 => ?_)
                  · omega
                  · refine zz_iconst hx dL_finds_393 ?_
                    refine zz_goto hx 398 dL_finds_394 rfl ?_
                    refine zz_callVi hx me_X3_findNext lk_L_99 (k_X3_findNext hst hI hS s (by omega) 1 (by omega)) 0 rfl rfl ⟨rfl, rfl⟩ (by decide) (by decide) rfl rfl (Nat.le_of_ble_eq_true rfl) dL_finds_398 (fun E9 w9 hX9 => absurd hs hX9.2.2) (fun r398 w398 hp398 => ?_)
                    obtain ⟨-, hp9⟩ := hp398
                    rw [hf9] at hp9
                    obtain ⟨I1, Q1, P1, rfl, hJ1, hC1, hv1, e0, e1, e2, e3, e4, hv9⟩ := mkO_J hJ hW1 hp9
                    have hvd := hv9.elim (fun y9 => y9.2.trans (hDn y9.1).symm) (fun y9 => y9.2)
                    refine zz_istore (lv' := [(0, _), (1, _), (2, _), (3, _), (4, _), (5, _), (6, _), (7, _), (8, _), (9, _), (10, _), (11, _), (12, _), (13, _), (14, _)]) hx dL_finds_401 (by decide) rfl ?_
                    refine zz_goto hx 525 dL_finds_403 rfl ?_
                    refine zz_iload hx dL_finds_525 rfl ?_
                    refine zz_iload hx dL_finds_527 rfl ?_
                    refine zz_icmp_ne hx 553 dL_finds_529 rfl (by omega) (by omega) (fun c529 => ?_) (fun c529 => ?_)
                    · omega
                    · refine zz_aload_n hx dL_finds_532 rfl ?_
                      refine zz_aload hx dL_finds_533 rfl ?_
                      refine zz_aload hx dL_finds_535 rfl ?_
                      refine zz_aload hx dL_finds_537 rfl ?_
                      refine zz_iload hx dL_finds_539 rfl ?_
                      refine zz_aload hx dL_finds_541 rfl ?_
                      refine zz_callSi hx ms_L_isCurrent lk_L_108 (l_isCurrent hst hJ1 (kC_of hC e2 e3) (kU_of hU e0 e1) (kG_P hG (fun s _ _ k hk => e4 s k hk)) r398 hv1 hC1 (nW_rng hJ hW1)) ⟨rfl, rfl⟩ (by decide) (by decide) rfl rfl (Nat.le_of_ble_eq_true rfl) dL_finds_543 (fun _ _ h => h.elim) (fun r543 w543 hp543 => ?_)
                      obtain ⟨rfl, rfl⟩ := hp543
                      refine zz_if_eq hx 553 dL_finds_546 rfl (by decide) (fun z => absurd z (by decide)) (fun _ => ?_)
                      refine zz_iconst hx dL_finds_549 ?_
                      refine zz_goto hx 554 dL_finds_550 rfl ?_
                      refine zz_less pL1 ?_
                      exact zz_zret hx hf dL_finds_554 (Or.inr rfl) ⟨_, rfl, rfl, I1, Q1, P1, T, ow, isO, L, U, C, rfl, hJ1, kC_of hC e2 e3, kU_of hU e0 e1, kG_P hG (fun s _ _ k hk => e4 s k hk)⟩ (by decide) (by decide)
            refine zz_istore (lv' := [(0, _), (1, _), (2, _), (3, _), (4, _), (5, _), (6, _), (7, _), (8, _), (9, _), (10, _), (11, _), (12, _), (13, _)]) hx dL_finds_258 (by decide) rfl ?_
            refine zz_iload_n hx dL_finds_260 rfl ?_
            refine zz_iconst hx dL_finds_261 ?_
            refine zz_icmp_ne hx 320 dL_finds_262 rfl (by omega) (by omega) (fun c262 => ?_) (fun c262 => ?_)
            · refine zz_iload_n hx dL_finds_320 rfl ?_
              refine zz_iconst hx dL_finds_321 ?_
              refine zz_icmp_ne hx 406 dL_finds_322 rfl (by omega) (by omega) (fun c322 => ?_) (fun c322 => ?_)
              · omega
              · refine zz_iload_n hx dL_finds_325 rfl ?_
                refine zz_iconst hx dL_finds_326 ?_
                refine zz_irem hx dL_finds_327 (by omega) (by omega) (by omega) (by omega) ?_
                refine zz_if_ne hx 338 dL_finds_328 rfl (by omega) (fun c328 => ?_) (fun c328 => ?_)
                · refine zz_iload hx dL_finds_338 rfl ?_
                  refine zz_if_ge hx 350 dL_finds_340 rfl (by omega) (fun c340 => ?_) (fun c340 => ?_)
                  · refine zz_iload hx dL_finds_350 rfl ?_
                    refine zz_iconst hx dL_finds_352 ?_
                    refine zz_isub hx dL_finds_353 ?_
                    exact j354 _ (by omega)
                  · refine zz_iload hx dL_finds_343 rfl ?_
                    refine zz_iconst hx dL_finds_345 ?_
                    refine zz_isub hx dL_finds_346 ?_
                    refine zz_goto hx 354 dL_finds_347 rfl ?_
                    exact j354 _ (by omega)
                · omega
            · omega
        have hcu : (P s 8 = -1 ∧ cO Q P ow s = -1) ∨ (P s 8 ≠ -1 ∧ (0 ≤ cO Q P ow s ∧ cO Q P ow s < I 0)) := by
          rcases J_cur hJ hs.1 hs.2 with y9 | ⟨y0, -, -, -, y4, -⟩
          · exact Or.inl y9
          · exact Or.inr ⟨by omega, y4⟩
        have hcy : P s 8 ≠ -1 → isO s (cO Q P ow s) := fun h8 => by
          rcases J_cur hJ hs.1 hs.2 with y9 | ⟨-, -, -, y3, -⟩
          · exact absurd y9.1 h8
          · exact y3
        have hco : P s 8 = cO Q P ow s → P s 8 ≠ -1 → ixO (mOf (ow s) (cO Q P ow s) (L s)) (P s 8) (-1) := fun e9 h8 => Or.inl ⟨rfl, fun y9 => by
          have := (J_mm hJ hs.1 hs.2 (hcy h8)).2.2 _ y9
          exact this.2.1 e9⟩
        have j220n : P s 8 = -1 → cO Q P ow s = -1 → Z l g ({ frames := 8, cells := 2, slots := 17, locals := 136 } : Room) 16 x 1 11 (wD g b c I Q P T N (rA g gA 30 Gr :: rA g tA 60 U :: rA g cA 3 C :: rA g q2 11 W1 :: rest)) 220 [(0, .ref (b 0)), (1, vi 3), (2, vi xa), (3, vi ya), (4, .ref gA), (5, .ref tA), (6, .ref cA), (7, .ref q2), (8, vi (-1)), (9, vi (-1)), (10, vi s), (11, vi (cO Q P ow s))] [vi 0] := by
          intro h8 hq1
          refine zz_istore (lv' := [(0, _), (1, _), (2, _), (3, _), (4, _), (5, _), (6, _), (7, _), (8, _), (9, _), (10, _), (11, _), (12, _)]) hx dL_finds_220 (by decide) rfl ?_
          refine zz_iload hx dL_finds_222 rfl ?_
          refine zz_if_lt hx 239 dL_finds_224 rfl (by omega) (fun c224 => ?_) (fun c224 => ?_)
          · refine zz_iconst hx dL_finds_239 ?_
            refine zz_goto hx 258 dL_finds_240 rfl ?_
            exact jn h8 hq1 _ _ rfl rfl
          · omega
        have j220y : P s 8 ≠ -1 → isO s (cO Q P ow s) → Z l g ({ frames := 8, cells := 2, slots := 17, locals := 136 } : Room) 16 x 1 11 (wD g b c I Q P T N (rA g gA 30 Gr :: rA g tA 60 U :: rA g cA 3 C :: rA g q2 11 W1 :: rest)) 220 [(0, .ref (b 0)), (1, vi 3), (2, vi xa), (3, vi ya), (4, .ref gA), (5, .ref tA), (6, .ref cA), (7, .ref q2), (8, vi (-1)), (9, vi (-1)), (10, vi s), (11, vi (cO Q P ow s))] [vi ((mOf (ow s) (cO Q P ow s) (L s)).length : Int)] := by
          intro h8 hio
          have hq0 : 0 ≤ (cO Q P ow s) ∧ (cO Q P ow s) < I 0 := by omega
          refine zz_istore (lv' := [(0, _), (1, _), (2, _), (3, _), (4, _), (5, _), (6, _), (7, _), (8, _), (9, _), (10, _), (11, _), (12, _)]) hx dL_finds_220 (by decide) rfl ?_
          refine zz_iload hx dL_finds_222 rfl ?_
          refine zz_if_lt hx 239 dL_finds_224 rfl (by omega) (fun c224 => ?_) (fun c224 => ?_)
          · omega
          · refine zz_aload hx dL_finds_227 rfl ?_
            refine zz_iconst hx dL_finds_229 ?_
            refine zz_iload hx dL_finds_230 rfl ?_
            refine zz_iadd hx dL_finds_232 ?_
            refine zr_ld hx 3 rfl (by decide) (by omega) (by omega) dL_finds_233 ?_
            rw [hw5]
            refine zz_iload hx dL_finds_234 rfl ?_
            refine zz_icmp_ne hx 243 dL_finds_236 rfl (by omega) (by omega) (fun c236 => ?_) (fun c236 => ?_)
            · refine zz_aload_n hx dL_finds_243 rfl ?_
              refine zz_iload hx dL_finds_244 rfl ?_
              refine zz_iload hx dL_finds_246 rfl ?_
              refine zz_aload hx dL_finds_248 rfl ?_
              refine zz_iconst hx dL_finds_250 ?_
              refine zz_iload hx dL_finds_251 rfl ?_
              refine zz_iadd hx dL_finds_253 ?_
              refine zr_ld hx 3 rfl (by decide) (by omega) (by omega) dL_finds_254 ?_
              rw [hw5]
              refine zz_callSi hx ms_L_placeOf lk_L_92 (l_placeOf hst hJ s hs (cO Q P ow s) hio (P s 8) (by omega)) ⟨rfl, rfl⟩ (by decide) (by decide) rfl rfl (Nat.le_of_ble_eq_true rfl) dL_finds_255 (fun _ _ h => h.elim) (fun r255 w255 hp255 => ?_)
              obtain ⟨hx9, rfl⟩ := hp255
              first
                | exact jy h8 hio hq0 _ _ rfl hx9
                | exact jy h8 hio hq0 _ _ rfl (hco (by omega) h8)
            · refine zz_iconst hx dL_finds_239 ?_
              refine zz_goto hx 258 dL_finds_240 rfl ?_
              first
                | exact jy h8 hio hq0 _ _ rfl hx9
                | exact jy h8 hio hq0 _ _ rfl (hco (by omega) h8)
        refine zz_aload_n hx dL_finds_191 rfl ?_
        refine zz_aload hx dL_finds_192 rfl ?_
        refine zz_aload hx dL_finds_194 rfl ?_
        refine zz_iload hx dL_finds_196 rfl ?_
        refine zz_callSi hx ms_L_owner lk_L_88 (l_owner hst hJ hC hU hG s hs) ⟨rfl, rfl⟩ (by decide) (by decide) rfl rfl (Nat.le_of_ble_eq_true rfl) dL_finds_198 (fun _ _ h => h.elim) (fun r198 w198 hp198 => ?_)
        obtain ⟨rfl, rfl⟩ := hp198
        refine zz_istore (lv' := [(0, _), (1, _), (2, _), (3, _), (4, _), (5, _), (6, _), (7, _), (8, _), (9, _), (10, _), (11, _)]) hx dL_finds_201 (by decide) rfl ?_
        refine zz_iload hx dL_finds_203 rfl ?_
        refine zz_if_ge hx 212 dL_finds_205 rfl (by omega) (fun c205 => ?_) (fun c205 => ?_)
        · have h8 : P s 8 ≠ -1 := by omega
          have hio := hcy h8
          have hqn : Q 0 (cO Q P ow s) ≠ -1 := by have := (J_own hJ hs.1 hs.2 hio).2.1; omega
          refine zz_aload_n hx dL_finds_212 rfl ?_
          refine zz_iload hx dL_finds_213 rfl ?_
          refine zz_iload hx dL_finds_215 rfl ?_
          refine zz_callVi hx me_X3_members lk_L_39 (q_X3_members hst hI hS (cO Q P ow s) (by omega) hqn s hs) 0 rfl rfl ⟨rfl, rfl⟩ (by decide) (by decide) rfl rfl (Nat.le_of_ble_eq_true rfl) dL_finds_217 (fun _ _ h => h.elim) (fun r217 w217 hp217 => ?_)
          obtain ⟨hm9, rfl⟩ := hp217
          obtain rfl : r217 = ((mOf (ow s) (cO Q P ow s) (L s)).length : Int) := by
            rcases hm9 with z9 | z9
            · exact z9.2
            · exact absurd hio z9.1
          clear hm9
          first
            | exact j220n h8n (by omega)
            | exact j220y h8 hio
        · have h8n : P s 8 = -1 := by omega
          refine zz_iconst hx dL_finds_208 ?_
          refine zz_goto hx 220 dL_finds_209 rfl ?_
          first
            | exact j220n h8n (by omega)
            | exact j220y h8 hio
      · omega
    · omega
  · omega

set_option maxHeartbeats 4000000 in
set_option maxRecDepth 100000 in
theorem l_finds4 {l : Launch} {g : zG} {b : Nat → Nat} {c : Int → Nat → Nat} {I : Nat → Int} {Q : Nat → Int → Int} {P : Int → Nat → Int} {T : Int → Nat → Int → Int} {N : Nat} {ow : Int → Int → Int} {isO : Int → Int → Prop} {L : Int → List Int} {rest : va_W} (hst : l.stackTraces = false) {gA tA cA : Nat} {Gr U C : Int → Int} (hJ : J I Q P T N ow isO L) (hC : kC I N C) (hU : kU Q U) (hG : kG P N Gr) (hN0 : 0 < N) (xa ya : Int) (hx0 : 0 ≤ xa ∧ xa < 1073741824) (hy0 : 0 ≤ ya ∧ ya < 1073741824) : zM l g yL_finds cL_finds 16 (Option.some FieldType.boolean) ({ frames := 8, cells := 2, slots := 17, locals := 136 } : Room) [.ref (b 0), vi 4, vi xa, vi ya, .ref gA, .ref tA, .ref cA] (wD g b c I Q P T N (rA g gA 30 Gr :: rA g tA 60 U :: rA g cA 3 C :: rest)) (zI fun v w => v = 1 ∧ (jW g b c N gA tA cA Gr rest w)) zN 2 17 := by
  have hI := hJ.1
  have hS := hJ.2.1
  have hi0 := hI.2.2.2.2.2.2.1
  have hN6 := hI.2.1
  obtain ⟨hc0, hc1, hc2⟩ := id hC
  have hi2 := hI.2.2.1
  refine zM_of (lv0 := [(0, _), (1, _), (2, _), (3, _), (4, _), (5, _), (6, _)]) hst rfl (by decide +kernel) (Nat.le_of_ble_eq_true rfl) rfl (fun x hx hf hn => ?_)
  refine zz_bipush hx dL_finds_0 rfl ?_
  refine zz_newi (N := 11) hx (by decide) (by decide) dL_finds_2 (fun q2 => ?_)
  refine zz_perm (pN3 _) ?_
  refine zz_astore (lv' := [(0, _), (1, _), (2, _), (3, _), (4, _), (5, _), (6, _), (7, _)]) hx dL_finds_4 (by decide) rfl ?_
  refine zz_aload_n hx dL_finds_6 rfl ?_
  refine zz_aload hx dL_finds_7 rfl ?_
  refine zz_aload hx dL_finds_9 rfl ?_
  refine zz_callSv hx ms_L_notes lk_L_77 (l_notes hst hJ hC) ⟨rfl, rfl⟩ (by decide) (by decide) rfl rfl (Nat.le_of_ble_eq_true rfl) dL_finds_11 (fun _ _ h => h.elim) (fun w11 hp11 => ?_)
  obtain ⟨W1, hW1, rfl⟩ := hp11
  have hw0 := hW1.1
  refine zz_iconst hx dL_finds_14 ?_
  refine zz_istore (lv' := [(0, _), (1, _), (2, _), (3, _), (4, _), (5, _), (6, _), (7, _), (8, _)]) hx dL_finds_15 (by decide) rfl ?_
  refine zz_iconst hx dL_finds_17 ?_
  refine zz_istore (lv' := [(0, _), (1, _), (2, _), (3, _), (4, _), (5, _), (6, _), (7, _), (8, _), (9, _)]) hx dL_finds_18 (by decide) rfl ?_
  refine zz_aload hx dL_finds_20 rfl ?_
  refine zz_iconst hx dL_finds_22 ?_
  refine zr_ld hx 2 rfl (by decide) (by omega) (by omega) dL_finds_23 ?_
  refine zz_if_ne hx 31 dL_finds_24 rfl (by omega) (fun c24 => ?_) (fun c24 => ?_)
  · refine zz_iload_n hx dL_finds_31 rfl ?_
    refine zz_aload hx dL_finds_32 rfl ?_
    refine zz_iconst hx dL_finds_34 ?_
    refine zr_ld hx 2 rfl (by decide) (by omega) (by omega) dL_finds_35 ?_
    rw [hc0]
    refine zz_irem hx dL_finds_36 (by omega) (by omega) (by omega) (by omega) ?_
    have hs : 0 ≤ xa % (N : Int) ∧ xa % (N : Int) < (N : Int) := ⟨Int.emod_nonneg xa (by omega), Int.emod_lt_of_pos xa (by omega)⟩
    generalize hse : xa % (N : Int) = s at *
    refine zz_istore (lv' := [(0, _), (1, _), (2, _), (3, _), (4, _), (5, _), (6, _), (7, _), (8, _), (9, _), (10, _)]) hx dL_finds_37 (by decide) rfl ?_
    refine zz_iload_n hx dL_finds_39 rfl ?_
    refine zz_if_eq hx 48 dL_finds_40 rfl (by decide) (fun z => absurd z (by decide)) (fun _ => ?_)
    refine zz_iload hx dL_finds_43 rfl ?_
    refine zz_if_ge hx 97 dL_finds_45 rfl (by omega) (fun c45 => ?_) (fun c45 => ?_)
    · refine zz_iload_n hx dL_finds_97 rfl ?_
      refine zz_iconst hx dL_finds_98 ?_
      refine zz_icmp_ne hx 191 dL_finds_99 rfl (by omega) (by omega) (fun c99 => ?_) (fun c99 => ?_)
      · have hg9 := kG_at hG hS hs
        have hw5 := hW1.2.2 s hs.1 hs.2
        have hrg := J_ring hJ hs.1 hs.2
        have jn : P s 8 = -1 → cO Q P ow s = -1 → ∀ nn a : Int, nn = 0 → a = -1 → Z l g ({ frames := 8, cells := 2, slots := 17, locals := 136 } : Room) 16 x 1 11 (wD g b c I Q P T N (rA g gA 30 Gr :: rA g tA 60 U :: rA g cA 3 C :: rA g q2 11 W1 :: rest)) 258 [(0, .ref (b 0)), (1, vi 4), (2, vi xa), (3, vi ya), (4, .ref gA), (5, .ref tA), (6, .ref cA), (7, .ref q2), (8, vi (-1)), (9, vi (-1)), (10, vi s), (11, vi (cO Q P ow s)), (12, vi nn)] [vi a] := by
          intro h8 hq1 nn a hn9 ha9
          subst hn9
          subst ha9
          refine zz_istore (lv' := [(0, _), (1, _), (2, _), (3, _), (4, _), (5, _), (6, _), (7, _), (8, _), (9, _), (10, _), (11, _), (12, _), (13, _)]) hx dL_finds_258 (by decide) rfl ?_
          refine zz_iload_n hx dL_finds_260 rfl ?_
          refine zz_iconst hx dL_finds_261 ?_
          refine zz_icmp_ne hx 320 dL_finds_262 rfl (by omega) (by omega) (fun c262 => ?_) (fun c262 => ?_)
          · refine zz_iload_n hx dL_finds_320 rfl ?_
            refine zz_iconst hx dL_finds_321 ?_
            refine zz_icmp_ne hx 406 dL_finds_322 rfl (by omega) (by omega) (fun c322 => ?_) (fun c322 => ?_)
            · refine zz_iload_n hx dL_finds_406 rfl ?_
              refine zz_iconst hx dL_finds_407 ?_
              refine zz_icmp_ne hx 426 dL_finds_408 rfl (by omega) (by omega) (fun c408 => ?_) (fun c408 => ?_)
              · omega
              · have hf9 : rAt 60 (T s 5) (P s 8) = (cO Q P ow s) := hrg
                have hDn : rAt 60 (Q 0) (cO Q P ow s) = -1 → (cO Q P ow s) = -1 := fun y9 => by exact hq1
                refine zz_iload hx dL_finds_411 rfl ?_
                refine zz_istore (lv' := [(0, _), (1, _), (2, _), (3, _), (4, _), (5, _), (6, _), (7, _), (8, _), (9, _), (10, _), (11, _), (12, _), (13, _)]) hx dL_finds_413 (by decide) rfl ?_
                refine zz_aload_n hx dL_finds_415 rfl ?_
                refine zz_iload hx dL_finds_416 rfl ?_
                refine zz_callVi hx me_X3_findOwner lk_L_102 (k_X3_findOwner hst hI hS s (by omega)) 0 rfl rfl ⟨rfl, rfl⟩ (by decide) (by decide) rfl rfl (Nat.le_of_ble_eq_true rfl) dL_finds_418 (fun E9 w9 hX9 => absurd hs hX9.2.2) (fun r418 w418 hp418 => ?_)
                obtain ⟨-, hp9⟩ := hp418
                rw [hf9] at hp9
                obtain ⟨I1, Q1, P1, rfl, hJ1, hC1, hv1, e0, e1, e2, e3, e4, hv9⟩ := mkO_J hJ hW1 hp9
                have hvd := hv9.elim (fun y9 => y9.2.trans (hDn y9.1).symm) (fun y9 => y9.2)
                refine zz_istore (lv' := [(0, _), (1, _), (2, _), (3, _), (4, _), (5, _), (6, _), (7, _), (8, _), (9, _), (10, _), (11, _), (12, _), (13, _)]) hx dL_finds_421 (by decide) rfl ?_
                refine zz_goto hx 525 dL_finds_423 rfl ?_
                refine zz_iload hx dL_finds_525 rfl ?_
                refine zz_iload hx dL_finds_527 rfl ?_
                refine zz_icmp_ne hx 553 dL_finds_529 rfl (by omega) (by omega) (fun c529 => ?_) (fun c529 => ?_)
                · omega
                · refine zz_aload_n hx dL_finds_532 rfl ?_
                  refine zz_aload hx dL_finds_533 rfl ?_
                  refine zz_aload hx dL_finds_535 rfl ?_
                  refine zz_aload hx dL_finds_537 rfl ?_
                  refine zz_iload hx dL_finds_539 rfl ?_
                  refine zz_aload hx dL_finds_541 rfl ?_
                  refine zz_callSi hx ms_L_isCurrent lk_L_108 (l_isCurrent hst hJ1 (kC_of hC e2 e3) (kU_of hU e0 e1) (kG_P hG (fun s _ _ k hk => e4 s k hk)) r418 hv1 hC1 (nW_rng hJ hW1)) ⟨rfl, rfl⟩ (by decide) (by decide) rfl rfl (Nat.le_of_ble_eq_true rfl) dL_finds_543 (fun _ _ h => h.elim) (fun r543 w543 hp543 => ?_)
                  obtain ⟨rfl, rfl⟩ := hp543
                  refine zz_if_eq hx 553 dL_finds_546 rfl (by decide) (fun z => absurd z (by decide)) (fun _ => ?_)
                  refine zz_iconst hx dL_finds_549 ?_
                  refine zz_goto hx 554 dL_finds_550 rfl ?_
                  refine zz_less pL1 ?_
                  exact zz_zret hx hf dL_finds_554 (Or.inr rfl) ⟨_, rfl, rfl, I1, Q1, P1, T, ow, isO, L, U, C, rfl, hJ1, kC_of hC e2 e3, kU_of hU e0 e1, kG_P hG (fun s _ _ k hk => e4 s k hk)⟩ (by decide) (by decide)
            · omega
          · omega
        have jy : P s 8 ≠ -1 → isO s (cO Q P ow s) → (0 ≤ (cO Q P ow s) ∧ (cO Q P ow s) < I 0) → ∀ nn a : Int, nn = ((mOf (ow s) (cO Q P ow s) (L s)).length : Int) → ixO (mOf (ow s) (cO Q P ow s) (L s)) (P s 8) a → Z l g ({ frames := 8, cells := 2, slots := 17, locals := 136 } : Room) 16 x 1 11 (wD g b c I Q P T N (rA g gA 30 Gr :: rA g tA 60 U :: rA g cA 3 C :: rA g q2 11 W1 :: rest)) 258 [(0, .ref (b 0)), (1, vi 4), (2, vi xa), (3, vi ya), (4, .ref gA), (5, .ref tA), (6, .ref cA), (7, .ref q2), (8, vi (-1)), (9, vi (-1)), (10, vi s), (11, vi (cO Q P ow s)), (12, vi nn)] [vi a] := by
          intro h8 hio hq0 nn a hn9 ha9
          have hqn : Q 0 (cO Q P ow s) ≠ -1 := by have := (J_own hJ hs.1 hs.2 hio).2.1; omega
          obtain ⟨mm1, mm2, mm3⟩ := J_mm hJ hs.1 hs.2 hio
          have har := ixO_rng ha9
          subst hn9
          refine zz_istore (lv' := [(0, _), (1, _), (2, _), (3, _), (4, _), (5, _), (6, _), (7, _), (8, _), (9, _), (10, _), (11, _), (12, _), (13, _)]) hx dL_finds_258 (by decide) rfl ?_
          refine zz_iload_n hx dL_finds_260 rfl ?_
          refine zz_iconst hx dL_finds_261 ?_
          refine zz_icmp_ne hx 320 dL_finds_262 rfl (by omega) (by omega) (fun c262 => ?_) (fun c262 => ?_)
          · refine zz_iload_n hx dL_finds_320 rfl ?_
            refine zz_iconst hx dL_finds_321 ?_
            refine zz_icmp_ne hx 406 dL_finds_322 rfl (by omega) (by omega) (fun c322 => ?_) (fun c322 => ?_)
            · refine zz_iload_n hx dL_finds_406 rfl ?_
              refine zz_iconst hx dL_finds_407 ?_
              refine zz_icmp_ne hx 426 dL_finds_408 rfl (by omega) (by omega) (fun c408 => ?_) (fun c408 => ?_)
              · omega
              · have hf9 : rAt 60 (T s 5) (P s 8) = (cO Q P ow s) := hrg
                have hDn : rAt 60 (Q 0) (cO Q P ow s) = -1 → (cO Q P ow s) = -1 := fun y9 => by rw [rAt_in (by omega) (by omega)] at y9; exact absurd y9 hqn
                refine zz_iload hx dL_finds_411 rfl ?_
                refine zz_istore (lv' := [(0, _), (1, _), (2, _), (3, _), (4, _), (5, _), (6, _), (7, _), (8, _), (9, _), (10, _), (11, _), (12, _), (13, _)]) hx dL_finds_413 (by decide) rfl ?_
                refine zz_aload_n hx dL_finds_415 rfl ?_
                refine zz_iload hx dL_finds_416 rfl ?_
                refine zz_callVi hx me_X3_findOwner lk_L_102 (k_X3_findOwner hst hI hS s (by omega)) 0 rfl rfl ⟨rfl, rfl⟩ (by decide) (by decide) rfl rfl (Nat.le_of_ble_eq_true rfl) dL_finds_418 (fun E9 w9 hX9 => absurd hs hX9.2.2) (fun r418 w418 hp418 => ?_)
                obtain ⟨-, hp9⟩ := hp418
                rw [hf9] at hp9
                obtain ⟨I1, Q1, P1, rfl, hJ1, hC1, hv1, e0, e1, e2, e3, e4, hv9⟩ := mkO_J hJ hW1 hp9
                have hvd := hv9.elim (fun y9 => y9.2.trans (hDn y9.1).symm) (fun y9 => y9.2)
                refine zz_istore (lv' := [(0, _), (1, _), (2, _), (3, _), (4, _), (5, _), (6, _), (7, _), (8, _), (9, _), (10, _), (11, _), (12, _), (13, _)]) hx dL_finds_421 (by decide) rfl ?_
                refine zz_goto hx 525 dL_finds_423 rfl ?_
                refine zz_iload hx dL_finds_525 rfl ?_
                refine zz_iload hx dL_finds_527 rfl ?_
                refine zz_icmp_ne hx 553 dL_finds_529 rfl (by omega) (by omega) (fun c529 => ?_) (fun c529 => ?_)
                · omega
                · refine zz_aload_n hx dL_finds_532 rfl ?_
                  refine zz_aload hx dL_finds_533 rfl ?_
                  refine zz_aload hx dL_finds_535 rfl ?_
                  refine zz_aload hx dL_finds_537 rfl ?_
                  refine zz_iload hx dL_finds_539 rfl ?_
                  refine zz_aload hx dL_finds_541 rfl ?_
                  refine zz_callSi hx ms_L_isCurrent lk_L_108 (l_isCurrent hst hJ1 (kC_of hC e2 e3) (kU_of hU e0 e1) (kG_P hG (fun s _ _ k hk => e4 s k hk)) r418 hv1 hC1 (nW_rng hJ hW1)) ⟨rfl, rfl⟩ (by decide) (by decide) rfl rfl (Nat.le_of_ble_eq_true rfl) dL_finds_543 (fun _ _ h => h.elim) (fun r543 w543 hp543 => ?_)
                  obtain ⟨rfl, rfl⟩ := hp543
                  refine zz_if_eq hx 553 dL_finds_546 rfl (by decide) (fun z => absurd z (by decide)) (fun _ => ?_)
                  refine zz_iconst hx dL_finds_549 ?_
                  refine zz_goto hx 554 dL_finds_550 rfl ?_
                  refine zz_less pL1 ?_
                  exact zz_zret hx hf dL_finds_554 (Or.inr rfl) ⟨_, rfl, rfl, I1, Q1, P1, T, ow, isO, L, U, C, rfl, hJ1, kC_of hC e2 e3, kU_of hU e0 e1, kG_P hG (fun s _ _ k hk => e4 s k hk)⟩ (by decide) (by decide)
            · omega
          · omega
        have hcu : (P s 8 = -1 ∧ cO Q P ow s = -1) ∨ (P s 8 ≠ -1 ∧ (0 ≤ cO Q P ow s ∧ cO Q P ow s < I 0)) := by
          rcases J_cur hJ hs.1 hs.2 with y9 | ⟨y0, -, -, -, y4, -⟩
          · exact Or.inl y9
          · exact Or.inr ⟨by omega, y4⟩
        have hcy : P s 8 ≠ -1 → isO s (cO Q P ow s) := fun h8 => by
          rcases J_cur hJ hs.1 hs.2 with y9 | ⟨-, -, -, y3, -⟩
          · exact absurd y9.1 h8
          · exact y3
        have hco : P s 8 = cO Q P ow s → P s 8 ≠ -1 → ixO (mOf (ow s) (cO Q P ow s) (L s)) (P s 8) (-1) := fun e9 h8 => Or.inl ⟨rfl, fun y9 => by
          have := (J_mm hJ hs.1 hs.2 (hcy h8)).2.2 _ y9
          exact this.2.1 e9⟩
        have j220n : P s 8 = -1 → cO Q P ow s = -1 → Z l g ({ frames := 8, cells := 2, slots := 17, locals := 136 } : Room) 16 x 1 11 (wD g b c I Q P T N (rA g gA 30 Gr :: rA g tA 60 U :: rA g cA 3 C :: rA g q2 11 W1 :: rest)) 220 [(0, .ref (b 0)), (1, vi 4), (2, vi xa), (3, vi ya), (4, .ref gA), (5, .ref tA), (6, .ref cA), (7, .ref q2), (8, vi (-1)), (9, vi (-1)), (10, vi s), (11, vi (cO Q P ow s))] [vi 0] := by
          intro h8 hq1
          refine zz_istore (lv' := [(0, _), (1, _), (2, _), (3, _), (4, _), (5, _), (6, _), (7, _), (8, _), (9, _), (10, _), (11, _), (12, _)]) hx dL_finds_220 (by decide) rfl ?_
          refine zz_iload hx dL_finds_222 rfl ?_
          refine zz_if_lt hx 239 dL_finds_224 rfl (by omega) (fun c224 => ?_) (fun c224 => ?_)
          · refine zz_iconst hx dL_finds_239 ?_
            refine zz_goto hx 258 dL_finds_240 rfl ?_
            exact jn h8 hq1 _ _ rfl rfl
          · omega
        have j220y : P s 8 ≠ -1 → isO s (cO Q P ow s) → Z l g ({ frames := 8, cells := 2, slots := 17, locals := 136 } : Room) 16 x 1 11 (wD g b c I Q P T N (rA g gA 30 Gr :: rA g tA 60 U :: rA g cA 3 C :: rA g q2 11 W1 :: rest)) 220 [(0, .ref (b 0)), (1, vi 4), (2, vi xa), (3, vi ya), (4, .ref gA), (5, .ref tA), (6, .ref cA), (7, .ref q2), (8, vi (-1)), (9, vi (-1)), (10, vi s), (11, vi (cO Q P ow s))] [vi ((mOf (ow s) (cO Q P ow s) (L s)).length : Int)] := by
          intro h8 hio
          have hq0 : 0 ≤ (cO Q P ow s) ∧ (cO Q P ow s) < I 0 := by omega
          refine zz_istore (lv' := [(0, _), (1, _), (2, _), (3, _), (4, _), (5, _), (6, _), (7, _), (8, _), (9, _), (10, _), (11, _), (12, _)]) hx dL_finds_220 (by decide) rfl ?_
          refine zz_iload hx dL_finds_222 rfl ?_
          refine zz_if_lt hx 239 dL_finds_224 rfl (by omega) (fun c224 => ?_) (fun c224 => ?_)
          · omega
          · refine zz_aload hx dL_finds_227 rfl ?_
            refine zz_iconst hx dL_finds_229 ?_
            refine zz_iload hx dL_finds_230 rfl ?_
            refine zz_iadd hx dL_finds_232 ?_
            refine zr_ld hx 3 rfl (by decide) (by omega) (by omega) dL_finds_233 ?_
            rw [hw5]
            refine zz_iload hx dL_finds_234 rfl ?_
            refine zz_icmp_ne hx 243 dL_finds_236 rfl (by omega) (by omega) (fun c236 => ?_) (fun c236 => ?_)
            · refine zz_aload_n hx dL_finds_243 rfl ?_
              refine zz_iload hx dL_finds_244 rfl ?_
              refine zz_iload hx dL_finds_246 rfl ?_
              refine zz_aload hx dL_finds_248 rfl ?_
              refine zz_iconst hx dL_finds_250 ?_
              refine zz_iload hx dL_finds_251 rfl ?_
              refine zz_iadd hx dL_finds_253 ?_
              refine zr_ld hx 3 rfl (by decide) (by omega) (by omega) dL_finds_254 ?_
              rw [hw5]
              refine zz_callSi hx ms_L_placeOf lk_L_92 (l_placeOf hst hJ s hs (cO Q P ow s) hio (P s 8) (by omega)) ⟨rfl, rfl⟩ (by decide) (by decide) rfl rfl (Nat.le_of_ble_eq_true rfl) dL_finds_255 (fun _ _ h => h.elim) (fun r255 w255 hp255 => ?_)
              obtain ⟨hx9, rfl⟩ := hp255
              first
                | exact jy h8 hio hq0 _ _ rfl hx9
                | exact jy h8 hio hq0 _ _ rfl (hco (by omega) h8)
            · refine zz_iconst hx dL_finds_239 ?_
              refine zz_goto hx 258 dL_finds_240 rfl ?_
              first
                | exact jy h8 hio hq0 _ _ rfl hx9
                | exact jy h8 hio hq0 _ _ rfl (hco (by omega) h8)
        refine zz_aload_n hx dL_finds_191 rfl ?_
        refine zz_aload hx dL_finds_192 rfl ?_
        refine zz_aload hx dL_finds_194 rfl ?_
        refine zz_iload hx dL_finds_196 rfl ?_
        refine zz_callSi hx ms_L_owner lk_L_88 (l_owner hst hJ hC hU hG s hs) ⟨rfl, rfl⟩ (by decide) (by decide) rfl rfl (Nat.le_of_ble_eq_true rfl) dL_finds_198 (fun _ _ h => h.elim) (fun r198 w198 hp198 => ?_)
        obtain ⟨rfl, rfl⟩ := hp198
        refine zz_istore (lv' := [(0, _), (1, _), (2, _), (3, _), (4, _), (5, _), (6, _), (7, _), (8, _), (9, _), (10, _), (11, _)]) hx dL_finds_201 (by decide) rfl ?_
        refine zz_iload hx dL_finds_203 rfl ?_
        refine zz_if_ge hx 212 dL_finds_205 rfl (by omega) (fun c205 => ?_) (fun c205 => ?_)
        · have h8 : P s 8 ≠ -1 := by omega
          have hio := hcy h8
          have hqn : Q 0 (cO Q P ow s) ≠ -1 := by have := (J_own hJ hs.1 hs.2 hio).2.1; omega
          refine zz_aload_n hx dL_finds_212 rfl ?_
          refine zz_iload hx dL_finds_213 rfl ?_
          refine zz_iload hx dL_finds_215 rfl ?_
          refine zz_callVi hx me_X3_members lk_L_39 (q_X3_members hst hI hS (cO Q P ow s) (by omega) hqn s hs) 0 rfl rfl ⟨rfl, rfl⟩ (by decide) (by decide) rfl rfl (Nat.le_of_ble_eq_true rfl) dL_finds_217 (fun _ _ h => h.elim) (fun r217 w217 hp217 => ?_)
          obtain ⟨hm9, rfl⟩ := hp217
          obtain rfl : r217 = ((mOf (ow s) (cO Q P ow s) (L s)).length : Int) := by
            rcases hm9 with z9 | z9
            · exact z9.2
            · exact absurd hio z9.1
          clear hm9
          first
            | exact j220n h8n (by omega)
            | exact j220y h8 hio
        · have h8n : P s 8 = -1 := by omega
          refine zz_iconst hx dL_finds_208 ?_
          refine zz_goto hx 220 dL_finds_209 rfl ?_
          first
            | exact j220n h8n (by omega)
            | exact j220y h8 hio
      · omega
    · omega
  · omega

set_option maxHeartbeats 4000000 in
set_option maxRecDepth 100000 in
theorem l_finds5 {l : Launch} {g : zG} {b : Nat → Nat} {c : Int → Nat → Nat} {I : Nat → Int} {Q : Nat → Int → Int} {P : Int → Nat → Int} {T : Int → Nat → Int → Int} {N : Nat} {ow : Int → Int → Int} {isO : Int → Int → Prop} {L : Int → List Int} {rest : va_W} (hst : l.stackTraces = false) {gA tA cA : Nat} {Gr U C : Int → Int} (hJ : J I Q P T N ow isO L) (hC : kC I N C) (hU : kU Q U) (hG : kG P N Gr) (hN0 : 0 < N) (xa ya : Int) (hx0 : 0 ≤ xa ∧ xa < 1073741824) (hy0 : 0 ≤ ya ∧ ya < 1073741824) : zM l g yL_finds cL_finds 16 (Option.some FieldType.boolean) ({ frames := 8, cells := 2, slots := 17, locals := 136 } : Room) [.ref (b 0), vi 5, vi xa, vi ya, .ref gA, .ref tA, .ref cA] (wD g b c I Q P T N (rA g gA 30 Gr :: rA g tA 60 U :: rA g cA 3 C :: rest)) (zI fun v w => v = 1 ∧ (jW g b c N gA tA cA Gr rest w)) zN 2 17 := by
  have hI := hJ.1
  have hS := hJ.2.1
  have hi0 := hI.2.2.2.2.2.2.1
  have hN6 := hI.2.1
  obtain ⟨hc0, hc1, hc2⟩ := id hC
  have hi2 := hI.2.2.1
  refine zM_of (lv0 := [(0, _), (1, _), (2, _), (3, _), (4, _), (5, _), (6, _)]) hst rfl (by decide +kernel) (Nat.le_of_ble_eq_true rfl) rfl (fun x hx hf hn => ?_)
  refine zz_bipush hx dL_finds_0 rfl ?_
  refine zz_newi (N := 11) hx (by decide) (by decide) dL_finds_2 (fun q2 => ?_)
  refine zz_perm (pN3 _) ?_
  refine zz_astore (lv' := [(0, _), (1, _), (2, _), (3, _), (4, _), (5, _), (6, _), (7, _)]) hx dL_finds_4 (by decide) rfl ?_
  refine zz_aload_n hx dL_finds_6 rfl ?_
  refine zz_aload hx dL_finds_7 rfl ?_
  refine zz_aload hx dL_finds_9 rfl ?_
  refine zz_callSv hx ms_L_notes lk_L_77 (l_notes hst hJ hC) ⟨rfl, rfl⟩ (by decide) (by decide) rfl rfl (Nat.le_of_ble_eq_true rfl) dL_finds_11 (fun _ _ h => h.elim) (fun w11 hp11 => ?_)
  obtain ⟨W1, hW1, rfl⟩ := hp11
  have hw0 := hW1.1
  refine zz_iconst hx dL_finds_14 ?_
  refine zz_istore (lv' := [(0, _), (1, _), (2, _), (3, _), (4, _), (5, _), (6, _), (7, _), (8, _)]) hx dL_finds_15 (by decide) rfl ?_
  refine zz_iconst hx dL_finds_17 ?_
  refine zz_istore (lv' := [(0, _), (1, _), (2, _), (3, _), (4, _), (5, _), (6, _), (7, _), (8, _), (9, _)]) hx dL_finds_18 (by decide) rfl ?_
  refine zz_aload hx dL_finds_20 rfl ?_
  refine zz_iconst hx dL_finds_22 ?_
  refine zr_ld hx 2 rfl (by decide) (by omega) (by omega) dL_finds_23 ?_
  refine zz_if_ne hx 31 dL_finds_24 rfl (by omega) (fun c24 => ?_) (fun c24 => ?_)
  · refine zz_iload_n hx dL_finds_31 rfl ?_
    refine zz_aload hx dL_finds_32 rfl ?_
    refine zz_iconst hx dL_finds_34 ?_
    refine zr_ld hx 2 rfl (by decide) (by omega) (by omega) dL_finds_35 ?_
    rw [hc0]
    refine zz_irem hx dL_finds_36 (by omega) (by omega) (by omega) (by omega) ?_
    have hs : 0 ≤ xa % (N : Int) ∧ xa % (N : Int) < (N : Int) := ⟨Int.emod_nonneg xa (by omega), Int.emod_lt_of_pos xa (by omega)⟩
    generalize hse : xa % (N : Int) = s at *
    refine zz_istore (lv' := [(0, _), (1, _), (2, _), (3, _), (4, _), (5, _), (6, _), (7, _), (8, _), (9, _), (10, _)]) hx dL_finds_37 (by decide) rfl ?_
    refine zz_iload_n hx dL_finds_39 rfl ?_
    refine zz_if_eq hx 48 dL_finds_40 rfl (by decide) (fun z => absurd z (by decide)) (fun _ => ?_)
    refine zz_iload hx dL_finds_43 rfl ?_
    refine zz_if_ge hx 97 dL_finds_45 rfl (by omega) (fun c45 => ?_) (fun c45 => ?_)
    · refine zz_iload_n hx dL_finds_97 rfl ?_
      refine zz_iconst hx dL_finds_98 ?_
      refine zz_icmp_ne hx 191 dL_finds_99 rfl (by omega) (by omega) (fun c99 => ?_) (fun c99 => ?_)
      · have hg9 := kG_at hG hS hs
        have hw5 := hW1.2.2 s hs.1 hs.2
        have hrg := J_ring hJ hs.1 hs.2
        have jn : P s 8 = -1 → cO Q P ow s = -1 → ∀ nn a : Int, nn = 0 → a = -1 → Z l g ({ frames := 8, cells := 2, slots := 17, locals := 136 } : Room) 16 x 1 11 (wD g b c I Q P T N (rA g gA 30 Gr :: rA g tA 60 U :: rA g cA 3 C :: rA g q2 11 W1 :: rest)) 258 [(0, .ref (b 0)), (1, vi 5), (2, vi xa), (3, vi ya), (4, .ref gA), (5, .ref tA), (6, .ref cA), (7, .ref q2), (8, vi (-1)), (9, vi (-1)), (10, vi s), (11, vi (cO Q P ow s)), (12, vi nn)] [vi a] := by
          intro h8 hq1 nn a hn9 ha9
          subst hn9
          subst ha9
          have j460 : ∀ vv : Int, -1000 ≤ vv ∧ vv ≤ 1000 → Z l g ({ frames := 8, cells := 2, slots := 17, locals := 136 } : Room) 16 x 1 11 (wD g b c I Q P T N (rA g gA 30 Gr :: rA g tA 60 U :: rA g cA 3 C :: rA g q2 11 W1 :: rest)) 460 [(0, .ref (b 0)), (1, vi 5), (2, vi xa), (3, vi ya), (4, .ref gA), (5, .ref tA), (6, .ref cA), (7, .ref q2), (8, vi (-1)), (9, vi (-1)), (10, vi s), (11, vi (cO Q P ow s)), (12, vi 0), (13, vi (-1))] [vi vv] := by
            intro vv hv9b
            refine zz_istore (lv' := [(0, _), (1, _), (2, _), (3, _), (4, _), (5, _), (6, _), (7, _), (8, _), (9, _), (10, _), (11, _), (12, _), (13, _), (14, _)]) hx dL_finds_460 (by decide) rfl ?_
            refine zz_iload hx dL_finds_462 rfl ?_
            refine zz_iconst hx dL_finds_464 ?_
            refine zz_isub hx dL_finds_465 ?_
            refine zz_istore (lv' := [(0, _), (1, _), (2, _), (3, _), (4, _), (5, _), (6, _), (7, _), (8, _), (9, _), (10, _), (11, _), (12, _), (13, _), (14, _), (15, _)]) hx dL_finds_466 (by decide) rfl ?_
            refine zz_iload hx dL_finds_468 rfl ?_
            refine zz_if_lt hx 515 dL_finds_470 rfl (by omega) (fun c470 => ?_) (fun c470 => ?_)
            · refine zz_aload_n hx dL_finds_515 rfl ?_
              refine zz_iload hx dL_finds_516 rfl ?_
              refine zz_iload hx dL_finds_518 rfl ?_
              refine zz_callVi hx me_X3_findValue lk_L_105 (k_X3_findValue hst hI hS s (by omega) vv (by omega)) 0 rfl rfl ⟨rfl, rfl⟩ (by decide) (by decide) rfl rfl (Nat.le_of_ble_eq_true rfl) dL_finds_520 (fun E9 w9 hX9 => absurd hs hX9.2.2) (fun r520 w520 hp520 => ?_)
              obtain ⟨-, f, hfv, hp9⟩ := hp520
              rw [hrg] at hfv
              have hf9 : f = -1 := hfv.1 hq1
              rw [hf9] at hp9
              clear hfv
              obtain ⟨I1, Q1, P1, rfl, hJ1, hC1, hv1, e0, e1, e2, e3, e4, hv9⟩ := mkO_J hJ hW1 hp9
              have hDn : rAt 60 (Q 0) (-1) = -1 → (-1 : Int) = -1 := fun _ => rfl
              have hvd := hv9.elim (fun y9 => y9.2.trans (hDn y9.1).symm) (fun y9 => y9.2)
              refine zz_istore (lv' := [(0, _), (1, _), (2, _), (3, _), (4, _), (5, _), (6, _), (7, _), (8, _), (9, _), (10, _), (11, _), (12, _), (13, _), (14, _), (15, _)]) hx dL_finds_523 (by decide) rfl ?_
              refine zz_iload hx dL_finds_525 rfl ?_
              refine zz_iload hx dL_finds_527 rfl ?_
              refine zz_icmp_ne hx 553 dL_finds_529 rfl (by omega) (by omega) (fun c529 => ?_) (fun c529 => ?_)
              · omega
              · refine zz_aload_n hx dL_finds_532 rfl ?_
                refine zz_aload hx dL_finds_533 rfl ?_
                refine zz_aload hx dL_finds_535 rfl ?_
                refine zz_aload hx dL_finds_537 rfl ?_
                refine zz_iload hx dL_finds_539 rfl ?_
                refine zz_aload hx dL_finds_541 rfl ?_
                refine zz_callSi hx ms_L_isCurrent lk_L_108 (l_isCurrent hst hJ1 (kC_of hC e2 e3) (kU_of hU e0 e1) (kG_P hG (fun s _ _ k hk => e4 s k hk)) r520 hv1 hC1 (nW_rng hJ hW1)) ⟨rfl, rfl⟩ (by decide) (by decide) rfl rfl (Nat.le_of_ble_eq_true rfl) dL_finds_543 (fun _ _ h => h.elim) (fun r543 w543 hp543 => ?_)
                obtain ⟨rfl, rfl⟩ := hp543
                refine zz_if_eq hx 553 dL_finds_546 rfl (by decide) (fun z => absurd z (by decide)) (fun _ => ?_)
                refine zz_iconst hx dL_finds_549 ?_
                refine zz_goto hx 554 dL_finds_550 rfl ?_
                refine zz_less pL1 ?_
                exact zz_zret hx hf dL_finds_554 (Or.inr rfl) ⟨_, rfl, rfl, I1, Q1, P1, T, ow, isO, L, U, C, rfl, hJ1, kC_of hC e2 e3, kU_of hU e0 e1, kG_P hG (fun s _ _ k hk => e4 s k hk)⟩ (by decide) (by decide)
            · omega
          refine zz_istore (lv' := [(0, _), (1, _), (2, _), (3, _), (4, _), (5, _), (6, _), (7, _), (8, _), (9, _), (10, _), (11, _), (12, _), (13, _)]) hx dL_finds_258 (by decide) rfl ?_
          refine zz_iload_n hx dL_finds_260 rfl ?_
          refine zz_iconst hx dL_finds_261 ?_
          refine zz_icmp_ne hx 320 dL_finds_262 rfl (by omega) (by omega) (fun c262 => ?_) (fun c262 => ?_)
          · refine zz_iload_n hx dL_finds_320 rfl ?_
            refine zz_iconst hx dL_finds_321 ?_
            refine zz_icmp_ne hx 406 dL_finds_322 rfl (by omega) (by omega) (fun c322 => ?_) (fun c322 => ?_)
            · refine zz_iload_n hx dL_finds_406 rfl ?_
              refine zz_iconst hx dL_finds_407 ?_
              refine zz_icmp_ne hx 426 dL_finds_408 rfl (by omega) (by omega) (fun c408 => ?_) (fun c408 => ?_)
              · refine zz_iload hx dL_finds_426 rfl ?_
                refine zz_if_eq hx 437 dL_finds_428 rfl (by omega) (fun c428 => ?_) (fun c428 => ?_)
                · refine zz_iload_n hx dL_finds_437 rfl ?_
                  refine zz_bipush hx dL_finds_438 rfl ?_
                  refine zz_irem hx dL_finds_440 (by omega) (by omega) (by omega) (by omega) ?_
                  refine zz_goto hx 460 dL_finds_441 rfl ?_
                  exact j460 _ (by omega)
                · omega
              · omega
            · omega
          · omega
        have jy : P s 8 ≠ -1 → isO s (cO Q P ow s) → (0 ≤ (cO Q P ow s) ∧ (cO Q P ow s) < I 0) → ∀ nn a : Int, nn = ((mOf (ow s) (cO Q P ow s) (L s)).length : Int) → ixO (mOf (ow s) (cO Q P ow s) (L s)) (P s 8) a → Z l g ({ frames := 8, cells := 2, slots := 17, locals := 136 } : Room) 16 x 1 11 (wD g b c I Q P T N (rA g gA 30 Gr :: rA g tA 60 U :: rA g cA 3 C :: rA g q2 11 W1 :: rest)) 258 [(0, .ref (b 0)), (1, vi 5), (2, vi xa), (3, vi ya), (4, .ref gA), (5, .ref tA), (6, .ref cA), (7, .ref q2), (8, vi (-1)), (9, vi (-1)), (10, vi s), (11, vi (cO Q P ow s)), (12, vi nn)] [vi a] := by
          intro h8 hio hq0 nn a hn9 ha9
          have hqn : Q 0 (cO Q P ow s) ≠ -1 := by have := (J_own hJ hs.1 hs.2 hio).2.1; omega
          obtain ⟨mm1, mm2, mm3⟩ := J_mm hJ hs.1 hs.2 hio
          have har := ixO_rng ha9
          subst hn9
          have loop : ∀ (n : Nat) (vv k d : Int), (-1000 ≤ vv ∧ vv ≤ 1000) → -1 ≤ k → k < ((mOf (ow s) (cO Q P ow s) (L s)).length : Int) → (-1 ≤ d ∧ d < 60) → ((d = -1 ∧ ∀ j : Int, k < j → j < ((mOf (ow s) (cO Q P ow s) (L s)).length : Int) → Q 1 (zat (mOf (ow s) (cO Q P ow s) (L s)) j) ≠ vv) ∨ ∃ i : Int, k < i ∧ i < ((mOf (ow s) (cO Q P ow s) (L s)).length : Int) ∧ d = zat (mOf (ow s) (cO Q P ow s) (L s)) i ∧ Q 1 d = vv ∧ ∀ j : Int, k < j → j < i → Q 1 (zat (mOf (ow s) (cO Q P ow s) (L s)) j) ≠ vv) → (k + 1).toNat < n → Z l g ({ frames := 8, cells := 2, slots := 17, locals := 136 } : Room) 16 x 1 11 (wD g b c I Q P T N (rA g gA 30 Gr :: rA g tA 60 U :: rA g cA 3 C :: rA g q2 11 W1 :: rest)) 468 [(0, .ref (b 0)), (1, vi 5), (2, vi xa), (3, vi ya), (4, .ref gA), (5, .ref tA), (6, .ref cA), (7, .ref q2), (8, vi (-1)), (9, vi d), (10, vi s), (11, vi (cO Q P ow s)), (12, vi ((mOf (ow s) (cO Q P ow s) (L s)).length : Int)), (13, vi a), (14, vi vv), (15, vi k)] [] := by
            intro n
            induction n with
            | zero => intro vv k d h1 h2 h3 h5 h6 hm9; clear h6; omega
            | succ n ih =>
              intro vv k d h1 h2 h3 h5 h6 hm9
              refine zz_iload hx dL_finds_468 rfl ?_
              refine zz_if_lt hx 515 dL_finds_470 rfl (by omega) (fun c470 => ?_) (fun c470 => ?_)
              · rw [show k = -1 by omega] at h6
                refine zz_aload_n hx dL_finds_515 rfl ?_
                refine zz_iload hx dL_finds_516 rfl ?_
                refine zz_iload hx dL_finds_518 rfl ?_
                refine zz_callVi hx me_X3_findValue lk_L_105 (k_X3_findValue hst hI hS s (by omega) vv (by omega)) 0 rfl rfl ⟨rfl, rfl⟩ (by decide) (by decide) rfl rfl (Nat.le_of_ble_eq_true rfl) dL_finds_520 (fun E9 w9 hX9 => absurd hs hX9.2.2) (fun r520 w520 hp520 => ?_)
                obtain ⟨-, f, hfv, hp9⟩ := hp520
                rw [hrg] at hfv
                have hfd : f = d := by
                  rcases hfv.2 (by omega) with ⟨y1, y2⟩ | ⟨i, i0, i1, i2, i3, i4⟩
                  · rcases h6 with ⟨x1, -⟩ | ⟨j, j0, j1, j2, j3, -⟩
                    · rw [y1, x1]
                    · exact absurd (by rw [← j2]; exact j3) (y2 j (by omega) j1)
                  · rcases h6 with ⟨-, x2⟩ | ⟨j, j0, j1, j2, j3, j4⟩
                    · exact absurd (by rw [← i2]; exact i3) (x2 i (by omega) i1)
                    · rcases Int.lt_trichotomy i j with z1 | z1 | z1
                      · exact absurd (by rw [← i2]; exact i3) (j4 i (by omega) z1)
                      · rw [i2, j2, z1]
                      · exact absurd (by rw [← j2]; exact j3) (i4 j (by omega) z1)
                have hDn : rAt 60 (Q 0) d = -1 → d = -1 := fun y9 => by
                  rcases h6 with ⟨x1, -⟩ | ⟨j, j0, j1, j2, -⟩
                  · exact x1
                  · have hzm := mm3 _ (zat_mem (l := (mOf (ow s) (cO Q P ow s) (L s))) (k := j) (by omega) j1)
                    rw [j2, rAt_in hzm.1.1 (by omega)] at y9
                    exact absurd y9 hzm.2.2.2.2.2
                rw [hfd] at hp9
                clear hfv h6
                obtain ⟨I1, Q1, P1, rfl, hJ1, hC1, hv1, e0, e1, e2, e3, e4, hv9⟩ := mkO_J hJ hW1 hp9
                have hvd := hv9.elim (fun y9 => y9.2.trans (hDn y9.1).symm) (fun y9 => y9.2)
                refine zz_istore (lv' := [(0, _), (1, _), (2, _), (3, _), (4, _), (5, _), (6, _), (7, _), (8, _), (9, _), (10, _), (11, _), (12, _), (13, _), (14, _), (15, _)]) hx dL_finds_523 (by decide) rfl ?_
                refine zz_iload hx dL_finds_525 rfl ?_
                refine zz_iload hx dL_finds_527 rfl ?_
                refine zz_icmp_ne hx 553 dL_finds_529 rfl (by omega) (by omega) (fun c529 => ?_) (fun c529 => ?_)
                · omega
                · refine zz_aload_n hx dL_finds_532 rfl ?_
                  refine zz_aload hx dL_finds_533 rfl ?_
                  refine zz_aload hx dL_finds_535 rfl ?_
                  refine zz_aload hx dL_finds_537 rfl ?_
                  refine zz_iload hx dL_finds_539 rfl ?_
                  refine zz_aload hx dL_finds_541 rfl ?_
                  refine zz_callSi hx ms_L_isCurrent lk_L_108 (l_isCurrent hst hJ1 (kC_of hC e2 e3) (kU_of hU e0 e1) (kG_P hG (fun s _ _ k hk => e4 s k hk)) r520 hv1 hC1 (nW_rng hJ hW1)) ⟨rfl, rfl⟩ (by decide) (by decide) rfl rfl (Nat.le_of_ble_eq_true rfl) dL_finds_543 (fun _ _ h => h.elim) (fun r543 w543 hp543 => ?_)
                  obtain ⟨rfl, rfl⟩ := hp543
                  refine zz_if_eq hx 553 dL_finds_546 rfl (by decide) (fun z => absurd z (by decide)) (fun _ => ?_)
                  refine zz_iconst hx dL_finds_549 ?_
                  refine zz_goto hx 554 dL_finds_550 rfl ?_
                  refine zz_less pL1 ?_
                  exact zz_zret hx hf dL_finds_554 (Or.inr rfl) ⟨_, rfl, rfl, I1, Q1, P1, T, ow, isO, L, U, C, rfl, hJ1, kC_of hC e2 e3, kU_of hU e0 e1, kG_P hG (fun s _ _ k hk => e4 s k hk)⟩ (by decide) (by decide)
              · refine zz_aload_n hx dL_finds_473 rfl ?_
                refine zz_aload_n hx dL_finds_474 rfl ?_
                refine zz_iload hx dL_finds_475 rfl ?_
                refine zz_iload hx dL_finds_477 rfl ?_
                refine zz_iload hx dL_finds_479 rfl ?_
                refine zz_callVi hx me_X3_memberAt lk_L_45 (q_X3_memberAt hst hI hS (cO Q P ow s) (by omega) hqn s hs hio k ⟨by omega, by omega⟩) 0 rfl rfl ⟨rfl, rfl⟩ (by decide) (by decide) rfl rfl (Nat.le_of_ble_eq_true rfl) dL_finds_481 (fun _ _ h => h.elim) (fun r481 w481 hp481 => ?_)
                obtain ⟨rfl, rfl⟩ := hp481
                have hzm := mm3 _ (zat_mem (l := (mOf (ow s) (cO Q P ow s) (L s))) (k := k) (by omega) (by omega))
                have hzv := hI.2.2.2.2.1 (zat (mOf (ow s) (cO Q P ow s) (L s)) k) (by omega) (by omega)
                refine zz_callVi hx me_X3_valueOf lk_L_49 (q_X3_valueOf hst hI (zat (mOf (ow s) (cO Q P ow s) (L s)) k) (by omega) hzm.2.2.2.2.2) 0 rfl rfl ⟨rfl, rfl⟩ (by decide) (by decide) rfl rfl (Nat.le_of_ble_eq_true rfl) dL_finds_484 (fun _ _ h => h.elim) (fun r484 w484 hp484 => ?_)
                obtain ⟨rfl, rfl⟩ := hp484
                refine zz_iload hx dL_finds_487 rfl ?_
                refine zz_icmp_ne hx 505 dL_finds_489 rfl (by omega) (by omega) (fun c489 => ?_) (fun c489 => ?_)
                · refine zz_iload hx dL_finds_505 rfl ?_
                  refine zz_istore (lv' := [(0, _), (1, _), (2, _), (3, _), (4, _), (5, _), (6, _), (7, _), (8, _), (9, _), (10, _), (11, _), (12, _), (13, _), (14, _), (15, _)]) hx dL_finds_507 (by decide) rfl ?_
                  refine zz_iinc (lv' := [(0, _), (1, _), (2, _), (3, _), (4, _), (5, _), (6, _), (7, _), (8, _), (9, _), (10, _), (11, _), (12, _), (13, _), (14, _), (15, _)]) hx dL_finds_509 (by decide) rfl rfl ?_
                  refine zz_goto hx 468 dL_finds_512 rfl ?_
                  refine ih vv (k + -1) _ h1 (by omega) (by omega) (by first | omega | exact h5) ?_ (by omega)
                  first
                    | exact Or.inr ⟨k, by omega, by omega, rfl, by omega, fun j j0 j1 => by omega⟩
                    | rcases h6 with ⟨y1, y2⟩ | ⟨i, i0, i1, i2, i3, i4⟩
                      · exact Or.inl ⟨y1, fun j j0 j1 => by
                          by_cases e9 : j = k
                          · rw [e9]; assumption
                          · exact y2 j (by omega) j1⟩
                      · exact Or.inr ⟨i, by omega, i1, i2, i3, fun j j0 j1 => by
                          by_cases e9 : j = k
                          · rw [e9]; assumption
                          · exact i4 j (by omega) j1⟩
                · refine zz_aload_n hx dL_finds_492 rfl ?_
                  refine zz_iload hx dL_finds_493 rfl ?_
                  refine zz_iload hx dL_finds_495 rfl ?_
                  refine zz_iload hx dL_finds_497 rfl ?_
                  refine zz_callVi hx me_X3_memberAt lk_L_45 (q_X3_memberAt hst hI hS (cO Q P ow s) (by omega) hqn s hs hio k ⟨by omega, by omega⟩) 0 rfl rfl ⟨rfl, rfl⟩ (by decide) (by decide) rfl rfl (Nat.le_of_ble_eq_true rfl) dL_finds_499 (fun _ _ h => h.elim) (fun r499 w499 hp499 => ?_)
                  obtain ⟨rfl, rfl⟩ := hp499
                  refine zz_goto hx 507 dL_finds_502 rfl ?_
                  refine zz_istore (lv' := [(0, _), (1, _), (2, _), (3, _), (4, _), (5, _), (6, _), (7, _), (8, _), (9, _), (10, _), (11, _), (12, _), (13, _), (14, _), (15, _)]) hx dL_finds_507 (by decide) rfl ?_
                  refine zz_iinc (lv' := [(0, _), (1, _), (2, _), (3, _), (4, _), (5, _), (6, _), (7, _), (8, _), (9, _), (10, _), (11, _), (12, _), (13, _), (14, _), (15, _)]) hx dL_finds_509 (by decide) rfl rfl ?_
                  refine zz_goto hx 468 dL_finds_512 rfl ?_
                  refine ih vv (k + -1) _ h1 (by omega) (by omega) (by first | omega | exact h5) ?_ (by omega)
                  first
                    | exact Or.inr ⟨k, by omega, by omega, rfl, by omega, fun j j0 j1 => by omega⟩
                    | rcases h6 with ⟨y1, y2⟩ | ⟨i, i0, i1, i2, i3, i4⟩
                      · exact Or.inl ⟨y1, fun j j0 j1 => by
                          by_cases e9 : j = k
                          · rw [e9]; assumption
                          · exact y2 j (by omega) j1⟩
                      · exact Or.inr ⟨i, by omega, i1, i2, i3, fun j j0 j1 => by
                          by_cases e9 : j = k
                          · rw [e9]; assumption
                          · exact i4 j (by omega) j1⟩
          have j460 : ∀ vv : Int, -1000 ≤ vv ∧ vv ≤ 1000 → Z l g ({ frames := 8, cells := 2, slots := 17, locals := 136 } : Room) 16 x 1 11 (wD g b c I Q P T N (rA g gA 30 Gr :: rA g tA 60 U :: rA g cA 3 C :: rA g q2 11 W1 :: rest)) 460 [(0, .ref (b 0)), (1, vi 5), (2, vi xa), (3, vi ya), (4, .ref gA), (5, .ref tA), (6, .ref cA), (7, .ref q2), (8, vi (-1)), (9, vi (-1)), (10, vi s), (11, vi (cO Q P ow s)), (12, vi ((mOf (ow s) (cO Q P ow s) (L s)).length : Int)), (13, vi a)] [vi vv] := by
            intro vv hv9b
            refine zz_istore (lv' := [(0, _), (1, _), (2, _), (3, _), (4, _), (5, _), (6, _), (7, _), (8, _), (9, _), (10, _), (11, _), (12, _), (13, _), (14, _)]) hx dL_finds_460 (by decide) rfl ?_
            refine zz_iload hx dL_finds_462 rfl ?_
            refine zz_iconst hx dL_finds_464 ?_
            refine zz_isub hx dL_finds_465 ?_
            refine zz_istore (lv' := [(0, _), (1, _), (2, _), (3, _), (4, _), (5, _), (6, _), (7, _), (8, _), (9, _), (10, _), (11, _), (12, _), (13, _), (14, _), (15, _)]) hx dL_finds_466 (by decide) rfl ?_
            exact loop ((mOf (ow s) (cO Q P ow s) (L s)).length + 1) vv (((mOf (ow s) (cO Q P ow s) (L s)).length : Int) - 1) (-1) hv9b (by omega) (by omega) (by omega) (Or.inl ⟨rfl, fun j j0 j1 => by omega⟩) (by omega)
          refine zz_istore (lv' := [(0, _), (1, _), (2, _), (3, _), (4, _), (5, _), (6, _), (7, _), (8, _), (9, _), (10, _), (11, _), (12, _), (13, _)]) hx dL_finds_258 (by decide) rfl ?_
          refine zz_iload_n hx dL_finds_260 rfl ?_
          refine zz_iconst hx dL_finds_261 ?_
          refine zz_icmp_ne hx 320 dL_finds_262 rfl (by omega) (by omega) (fun c262 => ?_) (fun c262 => ?_)
          · refine zz_iload_n hx dL_finds_320 rfl ?_
            refine zz_iconst hx dL_finds_321 ?_
            refine zz_icmp_ne hx 406 dL_finds_322 rfl (by omega) (by omega) (fun c322 => ?_) (fun c322 => ?_)
            · refine zz_iload_n hx dL_finds_406 rfl ?_
              refine zz_iconst hx dL_finds_407 ?_
              refine zz_icmp_ne hx 426 dL_finds_408 rfl (by omega) (by omega) (fun c408 => ?_) (fun c408 => ?_)
              · refine zz_iload hx dL_finds_426 rfl ?_
                refine zz_if_eq hx 437 dL_finds_428 rfl (by omega) (fun c428 => ?_) (fun c428 => ?_)
                · refine zz_iload_n hx dL_finds_437 rfl ?_
                  refine zz_bipush hx dL_finds_438 rfl ?_
                  refine zz_irem hx dL_finds_440 (by omega) (by omega) (by omega) (by omega) ?_
                  refine zz_goto hx 460 dL_finds_441 rfl ?_
                  exact j460 _ (by omega)
                · refine zz_iload_n hx dL_finds_431 rfl ?_
                  refine zz_iconst hx dL_finds_432 ?_
                  refine zz_irem hx dL_finds_433 (by omega) (by omega) (by omega) (by omega) ?_
                  refine zz_if_ne hx 444 dL_finds_434 rfl (by omega) (fun c434 => ?_) (fun c434 => ?_)
                  · refine zz_aload_n hx dL_finds_444 rfl ?_
                    refine zz_aload_n hx dL_finds_445 rfl ?_
                    refine zz_iload hx dL_finds_446 rfl ?_
                    refine zz_iload hx dL_finds_448 rfl ?_
                    refine zz_iload_n hx dL_finds_450 rfl ?_
                    refine zz_iload hx dL_finds_451 rfl ?_
                    refine zz_irem hx dL_finds_453 (by omega) (by omega) (by omega) (by omega) ?_
                    have hy8 : 0 ≤ (ya % ((mOf (ow s) (cO Q P ow s) (L s)).length : Int)) ∧ (ya % ((mOf (ow s) (cO Q P ow s) (L s)).length : Int)) < ((mOf (ow s) (cO Q P ow s) (L s)).length : Int) := ⟨Int.emod_nonneg _ (by omega), Int.emod_lt_of_pos _ (by omega)⟩
                    refine zz_callVi hx me_X3_memberAt lk_L_45 (q_X3_memberAt hst hI hS (cO Q P ow s) (by omega) hqn s hs hio (ya % ((mOf (ow s) (cO Q P ow s) (L s)).length : Int)) hy8) 0 rfl rfl ⟨rfl, rfl⟩ (by decide) (by decide) rfl rfl (Nat.le_of_ble_eq_true rfl) dL_finds_454 (fun _ _ h => h.elim) (fun r454 w454 hp454 => ?_)
                    obtain ⟨rfl, rfl⟩ := hp454
                    have hzm := mm3 _ (zat_mem (l := (mOf (ow s) (cO Q P ow s) (L s))) (k := (ya % ((mOf (ow s) (cO Q P ow s) (L s)).length : Int))) hy8.1 hy8.2)
                    have hzv := hI.2.2.2.2.1 (zat (mOf (ow s) (cO Q P ow s) (L s)) (ya % ((mOf (ow s) (cO Q P ow s) (L s)).length : Int))) (by omega) (by omega)
                    refine zz_callVi hx me_X3_valueOf lk_L_49 (q_X3_valueOf hst hI (zat (mOf (ow s) (cO Q P ow s) (L s)) (ya % ((mOf (ow s) (cO Q P ow s) (L s)).length : Int))) (by omega) hzm.2.2.2.2.2) 0 rfl rfl ⟨rfl, rfl⟩ (by decide) (by decide) rfl rfl (Nat.le_of_ble_eq_true rfl) dL_finds_457 (fun _ _ h => h.elim) (fun r457 w457 hp457 => ?_)
                    obtain ⟨rfl, rfl⟩ := hp457
                    exact j460 _ (by omega)
                  · refine zz_iload_n hx dL_finds_437 rfl ?_
                    refine zz_bipush hx dL_finds_438 rfl ?_
                    refine zz_irem hx dL_finds_440 (by omega) (by omega) (by omega) (by omega) ?_
                    refine zz_goto hx 460 dL_finds_441 rfl ?_
                    exact j460 _ (by omega)
              · omega
            · omega
          · omega
        have hcu : (P s 8 = -1 ∧ cO Q P ow s = -1) ∨ (P s 8 ≠ -1 ∧ (0 ≤ cO Q P ow s ∧ cO Q P ow s < I 0)) := by
          rcases J_cur hJ hs.1 hs.2 with y9 | ⟨y0, -, -, -, y4, -⟩
          · exact Or.inl y9
          · exact Or.inr ⟨by omega, y4⟩
        have hcy : P s 8 ≠ -1 → isO s (cO Q P ow s) := fun h8 => by
          rcases J_cur hJ hs.1 hs.2 with y9 | ⟨-, -, -, y3, -⟩
          · exact absurd y9.1 h8
          · exact y3
        have hco : P s 8 = cO Q P ow s → P s 8 ≠ -1 → ixO (mOf (ow s) (cO Q P ow s) (L s)) (P s 8) (-1) := fun e9 h8 => Or.inl ⟨rfl, fun y9 => by
          have := (J_mm hJ hs.1 hs.2 (hcy h8)).2.2 _ y9
          exact this.2.1 e9⟩
        have j220n : P s 8 = -1 → cO Q P ow s = -1 → Z l g ({ frames := 8, cells := 2, slots := 17, locals := 136 } : Room) 16 x 1 11 (wD g b c I Q P T N (rA g gA 30 Gr :: rA g tA 60 U :: rA g cA 3 C :: rA g q2 11 W1 :: rest)) 220 [(0, .ref (b 0)), (1, vi 5), (2, vi xa), (3, vi ya), (4, .ref gA), (5, .ref tA), (6, .ref cA), (7, .ref q2), (8, vi (-1)), (9, vi (-1)), (10, vi s), (11, vi (cO Q P ow s))] [vi 0] := by
          intro h8 hq1
          refine zz_istore (lv' := [(0, _), (1, _), (2, _), (3, _), (4, _), (5, _), (6, _), (7, _), (8, _), (9, _), (10, _), (11, _), (12, _)]) hx dL_finds_220 (by decide) rfl ?_
          refine zz_iload hx dL_finds_222 rfl ?_
          refine zz_if_lt hx 239 dL_finds_224 rfl (by omega) (fun c224 => ?_) (fun c224 => ?_)
          · refine zz_iconst hx dL_finds_239 ?_
            refine zz_goto hx 258 dL_finds_240 rfl ?_
            exact jn h8 hq1 _ _ rfl rfl
          · omega
        have j220y : P s 8 ≠ -1 → isO s (cO Q P ow s) → Z l g ({ frames := 8, cells := 2, slots := 17, locals := 136 } : Room) 16 x 1 11 (wD g b c I Q P T N (rA g gA 30 Gr :: rA g tA 60 U :: rA g cA 3 C :: rA g q2 11 W1 :: rest)) 220 [(0, .ref (b 0)), (1, vi 5), (2, vi xa), (3, vi ya), (4, .ref gA), (5, .ref tA), (6, .ref cA), (7, .ref q2), (8, vi (-1)), (9, vi (-1)), (10, vi s), (11, vi (cO Q P ow s))] [vi ((mOf (ow s) (cO Q P ow s) (L s)).length : Int)] := by
          intro h8 hio
          have hq0 : 0 ≤ (cO Q P ow s) ∧ (cO Q P ow s) < I 0 := by omega
          refine zz_istore (lv' := [(0, _), (1, _), (2, _), (3, _), (4, _), (5, _), (6, _), (7, _), (8, _), (9, _), (10, _), (11, _), (12, _)]) hx dL_finds_220 (by decide) rfl ?_
          refine zz_iload hx dL_finds_222 rfl ?_
          refine zz_if_lt hx 239 dL_finds_224 rfl (by omega) (fun c224 => ?_) (fun c224 => ?_)
          · omega
          · refine zz_aload hx dL_finds_227 rfl ?_
            refine zz_iconst hx dL_finds_229 ?_
            refine zz_iload hx dL_finds_230 rfl ?_
            refine zz_iadd hx dL_finds_232 ?_
            refine zr_ld hx 3 rfl (by decide) (by omega) (by omega) dL_finds_233 ?_
            rw [hw5]
            refine zz_iload hx dL_finds_234 rfl ?_
            refine zz_icmp_ne hx 243 dL_finds_236 rfl (by omega) (by omega) (fun c236 => ?_) (fun c236 => ?_)
            · refine zz_aload_n hx dL_finds_243 rfl ?_
              refine zz_iload hx dL_finds_244 rfl ?_
              refine zz_iload hx dL_finds_246 rfl ?_
              refine zz_aload hx dL_finds_248 rfl ?_
              refine zz_iconst hx dL_finds_250 ?_
              refine zz_iload hx dL_finds_251 rfl ?_
              refine zz_iadd hx dL_finds_253 ?_
              refine zr_ld hx 3 rfl (by decide) (by omega) (by omega) dL_finds_254 ?_
              rw [hw5]
              refine zz_callSi hx ms_L_placeOf lk_L_92 (l_placeOf hst hJ s hs (cO Q P ow s) hio (P s 8) (by omega)) ⟨rfl, rfl⟩ (by decide) (by decide) rfl rfl (Nat.le_of_ble_eq_true rfl) dL_finds_255 (fun _ _ h => h.elim) (fun r255 w255 hp255 => ?_)
              obtain ⟨hx9, rfl⟩ := hp255
              first
                | exact jy h8 hio hq0 _ _ rfl hx9
                | exact jy h8 hio hq0 _ _ rfl (hco (by omega) h8)
            · refine zz_iconst hx dL_finds_239 ?_
              refine zz_goto hx 258 dL_finds_240 rfl ?_
              first
                | exact jy h8 hio hq0 _ _ rfl hx9
                | exact jy h8 hio hq0 _ _ rfl (hco (by omega) h8)
        refine zz_aload_n hx dL_finds_191 rfl ?_
        refine zz_aload hx dL_finds_192 rfl ?_
        refine zz_aload hx dL_finds_194 rfl ?_
        refine zz_iload hx dL_finds_196 rfl ?_
        refine zz_callSi hx ms_L_owner lk_L_88 (l_owner hst hJ hC hU hG s hs) ⟨rfl, rfl⟩ (by decide) (by decide) rfl rfl (Nat.le_of_ble_eq_true rfl) dL_finds_198 (fun _ _ h => h.elim) (fun r198 w198 hp198 => ?_)
        obtain ⟨rfl, rfl⟩ := hp198
        refine zz_istore (lv' := [(0, _), (1, _), (2, _), (3, _), (4, _), (5, _), (6, _), (7, _), (8, _), (9, _), (10, _), (11, _)]) hx dL_finds_201 (by decide) rfl ?_
        refine zz_iload hx dL_finds_203 rfl ?_
        refine zz_if_ge hx 212 dL_finds_205 rfl (by omega) (fun c205 => ?_) (fun c205 => ?_)
        · have h8 : P s 8 ≠ -1 := by omega
          have hio := hcy h8
          have hqn : Q 0 (cO Q P ow s) ≠ -1 := by have := (J_own hJ hs.1 hs.2 hio).2.1; omega
          refine zz_aload_n hx dL_finds_212 rfl ?_
          refine zz_iload hx dL_finds_213 rfl ?_
          refine zz_iload hx dL_finds_215 rfl ?_
          refine zz_callVi hx me_X3_members lk_L_39 (q_X3_members hst hI hS (cO Q P ow s) (by omega) hqn s hs) 0 rfl rfl ⟨rfl, rfl⟩ (by decide) (by decide) rfl rfl (Nat.le_of_ble_eq_true rfl) dL_finds_217 (fun _ _ h => h.elim) (fun r217 w217 hp217 => ?_)
          obtain ⟨hm9, rfl⟩ := hp217
          obtain rfl : r217 = ((mOf (ow s) (cO Q P ow s) (L s)).length : Int) := by
            rcases hm9 with z9 | z9
            · exact z9.2
            · exact absurd hio z9.1
          clear hm9
          first
            | exact j220n h8n (by omega)
            | exact j220y h8 hio
        · have h8n : P s 8 = -1 := by omega
          refine zz_iconst hx dL_finds_208 ?_
          refine zz_goto hx 220 dL_finds_209 rfl ?_
          first
            | exact j220n h8n (by omega)
            | exact j220y h8 hio
      · omega
    · omega
  · omega

theorem l_finds {l : Launch} {g : zG} {b : Nat → Nat} {c : Int → Nat → Nat} {I : Nat → Int} {Q : Nat → Int → Int} {P : Int → Nat → Int} {T : Int → Nat → Int → Int} {N : Nat} {ow : Int → Int → Int} {isO : Int → Int → Prop} {L : Int → List Int} {rest : va_W} (hst : l.stackTraces = false) {gA tA cA : Nat} {Gr U C : Int → Int} (hJ : J I Q P T N ow isO L) (hC : kC I N C) (hU : kU Q U) (hG : kG P N Gr) (hN0 : 0 < N) (w xa ya : Int) (hw : 0 ≤ w ∧ w ≤ 5) (hx0 : 0 ≤ xa ∧ xa < 1073741824) (hy0 : 0 ≤ ya ∧ ya < 1073741824) : zM l g yL_finds cL_finds 16 (Option.some FieldType.boolean) ({ frames := 8, cells := 2, slots := 17, locals := 136 } : Room) [.ref (b 0), vi w, vi xa, vi ya, .ref gA, .ref tA, .ref cA] (wD g b c I Q P T N (rA g gA 30 Gr :: rA g tA 60 U :: rA g cA 3 C :: rest)) (zI fun v w => v = 1 ∧ (jW g b c N gA tA cA Gr rest w)) zN 2 17 := by
  have h : w = 0 ∨ w = 1 ∨ w = 2 ∨ w = 3 ∨ w = 4 ∨ w = 5 := by omega
  rcases h with rfl | rfl | rfl | rfl | rfl | rfl
  · exact l_finds0 hst hJ hC hU hG hN0 xa ya hx0 hy0
  · exact l_finds1 hst hJ hC hU hG hN0 xa ya hx0 hy0
  · exact l_finds2 hst hJ hC hU hG hN0 xa ya hx0 hy0
  · exact l_finds3 hst hJ hC hU hG hN0 xa ya hx0 hy0
  · exact l_finds4 hst hJ hC hU hG hN0 xa ya hx0 hy0
  · exact l_finds5 hst hJ hC hU hG hN0 xa ya hx0 hy0
