/-! the law: one set type, the whole base -/

set_option maxHeartbeats 4000000 in
set_option maxRecDepth 100000 in
theorem l_isSet {l : Launch} {g : zG} {b : Nat → Nat} {c : Int → Nat → Nat} {I : Nat → Int} {Q : Nat → Int → Int} {P : Int → Nat → Int} {T : Int → Nat → Int → Int} {N : Nat} {ow : Int → Int → Int} {isO : Int → Int → Prop} {L : Int → List Int} {rest : va_W} (hst : l.stackTraces = false) {gA tA cA : Nat} {Gr U C : Int → Int} (hJ : J I Q P T N ow isO L) (hC : kC I N C) (hU : kU Q U) (hG : kG P N Gr) (s : Int) (hs : 0 ≤ s ∧ s < (N : Int)) : zM l g yL_isSet cL_isSet 15 (Option.some FieldType.boolean) ({ frames := 5, cells := 0, slots := 0, locals := 109 } : Room) [.ref (b 0), .ref gA, .ref tA, .ref cA, vi s] (wD g b c I Q P T N (rA g gA 30 Gr :: rA g tA 60 U :: rA g cA 3 C :: rest)) (zI fun v w => v = 1 ∧ w = (wD g b c I Q P T N (rA g gA 30 Gr :: rA g tA 60 U :: rA g cA 3 C :: rest))) zN 0 0 := by
  have hI := hJ.1
  have hS := hJ.2.1
  have hi0 := hI.2.2.2.2.2.2.1
  have hN6 := hI.2.1
  have hg9 := kG_at hG hS hs
  have hc1 := hC.2.1
  have hss := hS s hs.1 hs.2
  refine zM_of (lv0 := [(0, _), (1, _), (2, _), (3, _), (4, _)]) hst rfl (by decide +kernel) (Nat.le_of_ble_eq_true rfl) rfl (fun x hx hf hn => ?_)
  have hmI : ∀ u ∈ L s, 0 ≤ ow s u ∧ ow s u < ((I 0).toNat : Int) := fun u hu => by
    have := (J_mem hJ hs.1 hs.2 hu).2.2.2.2.1
    omega
  have hLn : ocn (ow s) (I 0).toNat = ((L s).length : Int) := ocn_all hss.2.1.1.2.1 (fun u => by
    constructor
    · intro hu
      have h9 := J_mem hJ hs.1 hs.2 hu
      have h8 := h9.2.2.2.2.1
      have h7 := h9.1
      exact ⟨h7.1, by omega, h8.1⟩
    · rintro ⟨u0, u1, u2⟩
      rcases J_ow hJ hs.1 hs.2 u0 (show u < 60 by omega) with ⟨z, -⟩ | z
      · omega
      · exact z.2.2.2.1)
  have hL60 : ((L s).length : Int) ≤ 60 := by
    have := nodup_len 60 (L s) hss.2.1.1.2.1 (fun u hu => by
      have h7 := (J_mem hJ hs.1 hs.2 hu).1
      omega)
    omega
  have hemp : ∀ k : Int, ¬ isO s k → mOf (ow s) k (L s) = [] := fun k hk => List.eq_nil_iff_forall_not_mem.mpr fun u hu => by
    obtain ⟨h1, h2⟩ := mOf_mem.mp hu
    have h3 := (J_mem hJ hs.1 hs.2 h1).2.2.2.1
    rw [h2] at h3
    exact hk h3
  have hcu : P s 8 = -1 ∨ (0 ≤ P s 8 ∧ P s 8 < I 0 ∧ Q 0 (P s 8) ≠ -1 ∧ (Q 0 (P s 8) = P s 0 ∨ 0 ≤ ow s (P s 8))) := by
    rcases J_cur hJ hs.1 hs.2 with ⟨z, -⟩ | ⟨z0, z1, z2, -, -, z | z⟩
    · exact Or.inl z
    · exact Or.inr ⟨z0, z1, z2, Or.inl z.1⟩
    · have := (J_mem hJ hs.1 hs.2 z.2.2.1).2.2.2.2.1
      exact Or.inr ⟨z0, z1, z2, Or.inr this.1⟩
  have loopC : ∀ (n : Nat) (k : Int), 0 ≤ k → k ≤ I 0 → (I 0 - k).toNat < n → Z l g ({ frames := 5, cells := 0, slots := 0, locals := 109 } : Room) 15 x 0 0 (wD g b c I Q P T N (rA g gA 30 Gr :: rA g tA 60 U :: rA g cA 3 C :: rest)) 304 [(0, .ref (b 0)), (1, .ref gA), (2, .ref tA), (3, .ref cA), (4, vi s), (5, vi (((L s).length : Int) - ocn (ow s) k.toNat)), (6, vi 1), (7, vi k)] [] := by
    intro n
    induction n with
    | zero => intro k h0 h1 hm; omega
    | succ n ih =>
      intro k h0 h1 hm
      have j337 : k < I 0 → ∀ i : Int, ((i = 1 ∧ 0 ≤ ow s k) ∨ (i = 0 ∧ ¬ 0 ≤ ow s k)) → Z l g ({ frames := 5, cells := 0, slots := 0, locals := 109 } : Room) 15 x 0 0 (wD g b c I Q P T N (rA g gA 30 Gr :: rA g tA 60 U :: rA g cA 3 C :: rest)) 337 [(0, .ref (b 0)), (1, .ref gA), (2, .ref tA), (3, .ref cA), (4, vi s), (5, vi (((L s).length : Int) - ocn (ow s) k.toNat)), (6, vi 1), (7, vi k)] [vi i, vi (((L s).length : Int) - ocn (ow s) k.toNat)] := by
        intro hk9 i hi9
        refine zz_isub hx dL_isSet_337 ?_
        refine zz_istore (lv' := [(0, _), (1, _), (2, _), (3, _), (4, _), (5, _), (6, _), (7, _)]) hx dL_isSet_338 (by decide) rfl ?_
        refine zz_iinc (lv' := [(0, _), (1, _), (2, _), (3, _), (4, _), (5, _), (6, _), (7, _)]) hx dL_isSet_340 (by decide) rfl rfl ?_
        refine zz_goto hx 304 dL_isSet_343 rfl ?_
        have e9 : ((L s).length : Int) - ocn (ow s) k.toNat - i = ((L s).length : Int) - ocn (ow s) (k + 1).toNat := by
          rw [show (k + 1).toNat = k.toNat + 1 by omega, ocn_s, show (k.toNat : Int) = k by omega]
          rcases hi9 with ⟨z1, z2⟩ | ⟨z1, z2⟩
          · rw [if_pos z2]; omega
          · rw [if_neg z2]; omega
        rw [e9]
        exact ih (k + 1) (by omega) (by omega) (by omega)
      refine zz_iload hx dL_isSet_304 rfl ?_
      refine zz_aload_n hx dL_isSet_306 rfl ?_
      refine zz_iconst hx dL_isSet_307 ?_
      refine zr_ld hx 2 rfl (by decide) (by omega) (by omega) dL_isSet_308 ?_
      refine zz_icmp_ge hx 346 dL_isSet_309 rfl (by omega) (by omega) (fun c309 => ?_) (fun c309 => ?_)
      · have hz9 : ((L s).length : Int) - ocn (ow s) k.toNat = 0 := by
          rw [show k = I 0 by omega, hLn]; omega
        have hr8 := hg9.2.2.2.2.2.2.2
        refine zz_aload_n hx dL_isSet_346 rfl ?_
        refine zz_iload hx dL_isSet_347 rfl ?_
        refine zz_callVi hx me_X3_currentIn lk_L_52 (q_X3_currentIn hst hI hS s hs) 0 rfl rfl ⟨rfl, rfl⟩ (by decide) (by decide) rfl rfl (Nat.le_of_ble_eq_true rfl) dL_isSet_349 (fun _ _ h => h.elim) (fun r349 w349 hp349 => ?_)
        obtain ⟨rfl, rfl⟩ := hp349
        refine zz_istore (lv' := [(0, _), (1, _), (2, _), (3, _), (4, _), (5, _), (6, _), (7, _)]) hx dL_isSet_352 (by decide) rfl ?_
        refine zz_iload hx dL_isSet_354 rfl ?_
        refine zz_if_eq hx 418 dL_isSet_356 rfl (by decide) (fun z => absurd z (by decide)) (fun _ => ?_)
        refine zz_iload hx dL_isSet_359 rfl ?_
        refine zz_if_ne hx 418 dL_isSet_361 rfl (by omega) (fun c361 => ?_) (fun c361 => ?_)
        · omega
        · refine zz_iload hx dL_isSet_364 rfl ?_
          refine zz_iconst hx dL_isSet_366 ?_
          refine zz_icmp_eq hx 414 dL_isSet_367 rfl (by omega) (by omega) (fun c367 => ?_) (fun c367 => ?_)
          · refine zz_iconst hx dL_isSet_414 ?_
            refine zz_goto hx 419 dL_isSet_415 rfl ?_
            exact zz_zret hx hf dL_isSet_419 (Or.inr rfl) ⟨_, rfl, rfl, rfl⟩ (by decide) (by decide)
          · have hu8 := kU_at hU hI (k := P s 8) (by omega) (by omega)
            refine zz_iload hx dL_isSet_370 rfl ?_
            refine zz_aload_n hx dL_isSet_372 rfl ?_
            refine zz_iconst hx dL_isSet_373 ?_
            refine zr_ld hx 2 rfl (by decide) (by omega) (by omega) dL_isSet_374 ?_
            refine zz_icmp_ge hx 418 dL_isSet_375 rfl (by omega) (by omega) (fun c375 => ?_) (fun c375 => ?_)
            · omega
            · refine zz_aload_n hx dL_isSet_378 rfl ?_
              refine zz_iload hx dL_isSet_379 rfl ?_
              refine zr_ld hx 1 rfl (by decide) (by omega) (by omega) dL_isSet_381 ?_
              refine zz_if_eq hx 418 dL_isSet_382 rfl (by omega) (fun c382 => ?_) (fun c382 => ?_)
              · omega
              · refine zz_aload_n hx dL_isSet_385 rfl ?_
                refine zz_iload hx dL_isSet_386 rfl ?_
                refine zr_ld hx 1 rfl (by decide) (by omega) (by omega) dL_isSet_388 ?_
                refine zz_bipush hx dL_isSet_389 rfl ?_
                refine zz_and7 hx dL_isSet_391 (by omega) (by omega) ?_
                refine zz_iconst hx dL_isSet_392 ?_
                refine zz_isub hx dL_isSet_393 ?_
                refine zz_aload_n hx dL_isSet_394 rfl ?_
                refine zz_iconst hx dL_isSet_395 ?_
                refine zz_iload hx dL_isSet_396 rfl ?_
                refine zz_imul hx dL_isSet_398 ?_
                refine zr_ld hx 0 rfl (by decide) (by omega) (by omega) dL_isSet_399 ?_
                refine zz_icmp_eq hx 414 dL_isSet_400 rfl (by omega) (by omega) (fun c400 => ?_) (fun c400 => ?_)
                · refine zz_iconst hx dL_isSet_414 ?_
                  refine zz_goto hx 419 dL_isSet_415 rfl ?_
                  exact zz_zret hx hf dL_isSet_419 (Or.inr rfl) ⟨_, rfl, rfl, rfl⟩ (by decide) (by decide)
                · have hqn : Q 0 (P s 8) ≠ -1 := by omega
                  have hob : -1 ≤ ow s (P s 8) ∧ ow s (P s 8) < 60 := by
                    rcases J_ow hJ hs.1 hs.2 (show 0 ≤ P s 8 by omega) hr8.2 with ⟨z, -⟩ | z
                    · omega
                    · exact ⟨by omega, by omega⟩
                  refine zz_aload_n hx dL_isSet_403 rfl ?_
                  refine zz_iload hx dL_isSet_404 rfl ?_
                  refine zz_iload hx dL_isSet_406 rfl ?_
                  refine zz_callVi hx me_X3_ownerOf lk_L_36 (q_X3_ownerOf hst hI hS (P s 8) (by omega) hqn s hs) 0 rfl rfl ⟨rfl, rfl⟩ (by decide) (by decide) rfl rfl (Nat.le_of_ble_eq_true rfl) dL_isSet_408 (fun _ _ h => h.elim) (fun r408 w408 hp408 => ?_)
                  obtain ⟨rfl, rfl⟩ := hp408
                  refine zz_if_lt hx 418 dL_isSet_411 rfl (by omega) (fun c411 => ?_) (fun c411 => ?_)
                  · omega
                  · refine zz_iconst hx dL_isSet_414 ?_
                    refine zz_goto hx 419 dL_isSet_415 rfl ?_
                    exact zz_zret hx hf dL_isSet_419 (Or.inr rfl) ⟨_, rfl, rfl, rfl⟩ (by decide) (by decide)
      · have hu9 := kU_at hU hI (k := k) (by omega) (by omega)
        refine zz_iload hx dL_isSet_312 rfl ?_
        refine zz_aload_n hx dL_isSet_314 rfl ?_
        refine zz_iload hx dL_isSet_315 rfl ?_
        refine zr_ld hx 1 rfl (by decide) (by omega) (by omega) dL_isSet_317 ?_
        refine zz_if_eq hx 336 dL_isSet_318 rfl (by omega) (fun c318 => ?_) (fun c318 => ?_)
        · have ho9 : ¬ 0 ≤ ow s k := by
            rcases J_ow hJ hs.1 hs.2 h0 (show k < 60 by omega) with ⟨z, -⟩ | z
            · omega
            · have := z.2.2.2.2.2.1; omega
          refine zz_iconst hx dL_isSet_336 ?_
          exact j337 (by omega) _ (by omega)
        · have hqn : Q 0 k ≠ -1 := by omega
          refine zz_aload_n hx dL_isSet_321 rfl ?_
          refine zz_iload hx dL_isSet_322 rfl ?_
          refine zz_iload hx dL_isSet_324 rfl ?_
          refine zz_callVi hx me_X3_ownerOf lk_L_36 (q_X3_ownerOf hst hI hS k (by omega) hqn s hs) 0 rfl rfl ⟨rfl, rfl⟩ (by decide) (by decide) rfl rfl (Nat.le_of_ble_eq_true rfl) dL_isSet_326 (fun _ _ h => h.elim) (fun r326 w326 hp326 => ?_)
          obtain ⟨rfl, rfl⟩ := hp326
          have hob : -1 ≤ ow s k ∧ ow s k < 60 := by
            rcases J_ow hJ hs.1 hs.2 h0 (show k < 60 by omega) with ⟨z, -⟩ | z
            · omega
            · exact ⟨by omega, by omega⟩
          refine zz_if_lt hx 336 dL_isSet_329 rfl (by omega) (fun c329 => ?_) (fun c329 => ?_)
          · refine zz_iconst hx dL_isSet_336 ?_
            exact j337 (by omega) _ (by omega)
          · refine zz_iconst hx dL_isSet_332 ?_
            refine zz_goto hx 337 dL_isSet_333 rfl ?_
            exact j337 (by omega) _ (by omega)
  have loopA : ∀ (n : Nat) (k : Int), 0 ≤ k → k ≤ I 0 → (I 0 - k).toNat < n → Z l g ({ frames := 5, cells := 0, slots := 0, locals := 109 } : Room) 15 x 0 0 (wD g b c I Q P T N (rA g gA 30 Gr :: rA g tA 60 U :: rA g cA 3 C :: rest)) 9 [(0, .ref (b 0)), (1, .ref gA), (2, .ref tA), (3, .ref cA), (4, vi s), (5, vi (smc (ow s) (L s) k.toNat)), (6, vi 1), (7, vi k)] [] := by
    intro n
    induction n with
    | zero => intro k h0 h1 hm; omega
    | succ n ih =>
      intro k h0 h1 hm
      by_cases hk9 : k < I 0
      · have hu9 := kU_at hU hI (k := k) (by omega) (by omega)
        have hio := (hJ.2.2.1 s hs.1 hs.2).1 k
        have hsm : smc (ow s) (L s) (k + 1).toNat = smc (ow s) (L s) k.toNat + ((mOf (ow s) k (L s)).length : Int) := by
          rw [show (k + 1).toNat = k.toNat + 1 by omega]
          show smc (ow s) (L s) k.toNat + ((mOf (ow s) (k.toNat : Int) (L s)).length : Int) = _
          rw [show (k.toNat : Int) = k by omega]
        by_cases hq9 : Q 0 k = -1
        · refine zz_iload hx dL_isSet_9 rfl ?_
          refine zz_aload_n hx dL_isSet_11 rfl ?_
          refine zz_iconst hx dL_isSet_12 ?_
          refine zr_ld hx 2 rfl (by decide) (by omega) (by omega) dL_isSet_13 ?_
          refine zz_icmp_ge hx 301 dL_isSet_14 rfl (by omega) (by omega) (fun c14 => ?_) (fun c14 => ?_)
          · omega
          · refine zz_iload hx dL_isSet_17 rfl ?_
            refine zz_if_eq hx 301 dL_isSet_19 rfl (by decide) (fun z => absurd z (by decide)) (fun _ => ?_)
            refine zz_aload_n hx dL_isSet_22 rfl ?_
            refine zz_iload hx dL_isSet_23 rfl ?_
            refine zr_ld hx 1 rfl (by decide) (by omega) (by omega) dL_isSet_25 ?_
            refine zz_if_ne hx 32 dL_isSet_26 rfl (by omega) (fun c26 => ?_) (fun c26 => ?_)
            · omega
            · refine zz_goto hx 295 dL_isSet_29 rfl ?_
              refine zz_iinc (lv' := [(0, _), (1, _), (2, _), (3, _), (4, _), (5, _), (6, _), (7, _)]) hx dL_isSet_295 (by decide) rfl rfl ?_
              refine zz_goto hx 9 dL_isSet_298 rfl ?_
              have e9 : smc (ow s) (L s) (k + 1).toNat = smc (ow s) (L s) k.toNat := by
                rw [hsm, hemp k (fun z => by have := hio.mp z; omega)]; simp only [List.length_nil]; omega
              rw [← e9]
              exact ih (k + 1) (by omega) (by omega) (by omega)
        · have hob : -1 ≤ ow s k ∧ ow s k < I 0 := by
            rcases J_ow hJ hs.1 hs.2 h0 (show k < 60 by omega) with ⟨z, -⟩ | z
            · omega
            · exact ⟨by omega, by omega⟩
          have hoq : ow s k = -1 ∨ (0 ≤ ow s k ∧ Q 0 k = P s 1 ∧ Q 0 (ow s k) = P s 0) := by
            rcases J_ow hJ hs.1 hs.2 h0 (show k < 60 by omega) with ⟨z, -⟩ | z
            · exact Or.inl z
            · exact Or.inr ⟨z.1, z.2.2.2.2.2.1, z.2.2.2.2.2.2⟩
          have hmm : isO s k → (mOf (ow s) k (L s)).Nodup ∧ ((mOf (ow s) k (L s)).length : Int) ≤ 60 ∧ ∀ u ∈ mOf (ow s) k (L s), (0 ≤ u ∧ u < I 0) ∧ u ≠ k ∧ ow s u = k ∧ u ∈ L s ∧ Q 0 u = P s 1 ∧ Q 0 u ≠ -1 := fun z => J_mm hJ hs.1 hs.2 z
          have hk60 : ((mOf (ow s) k (L s)).length : Int) ≤ 60 := by
            by_cases z : isO s k
            · exact (hmm z).2.1
            · rw [hemp k z]; simp only [List.length_nil]; omega
          have loopB : ∀ (n : Nat) (nn p last : Int) (y : Int64), isO s k → nn = ((mOf (ow s) k (L s)).length : Int) → 0 ≤ p → p ≤ nn → (∀ u : Int, 0 ≤ u → u < 64 → lb y u → ∃ j : Int, 0 ≤ j ∧ j < p ∧ zat (mOf (ow s) k (L s)) j = u) → ((p = 0 ∧ last = -2000) ∨ (0 < p ∧ last = Q 1 (zat (mOf (ow s) k (L s)) (p - 1)))) → (nn - p).toNat < n → Z l g ({ frames := 5, cells := 0, slots := 0, locals := 109 } : Room) 15 x 0 0 (wD g b c I Q P T N (rA g gA 30 Gr :: rA g tA 60 U :: rA g cA 3 C :: rest)) 177 [(0, .ref (b 0)), (1, .ref gA), (2, .ref tA), (3, .ref cA), (4, vi s), (5, vi (smc (ow s) (L s) k.toNat)), (6, vi 1), (7, vi k), (8, vi (ow s k)), (9, vi nn), (10, .long y), (12, vi last), (13, vi p)] [] := by
            intro n
            induction n with
            | zero => intro nn p last y hi h2 h3 h4 h5 h6 hm9; omega
            | succ n ihB =>
              intro nn p last y hi h2 h3 h4 h5 h6 hm9
              obtain ⟨n1, n2, n3⟩ := hmm hi
              refine zz_iload hx dL_isSet_177 rfl ?_
              refine zz_iload hx dL_isSet_179 rfl ?_
              refine zz_icmp_ge hx 279 dL_isSet_181 rfl (by omega) (by omega) (fun c181 => ?_) (fun c181 => ?_)
              · refine zz_iload hx dL_isSet_279 rfl ?_
                refine zz_iload hx dL_isSet_281 rfl ?_
                refine zz_if_ge hx 290 dL_isSet_283 rfl (by omega) (fun c283 => ?_) (fun c283 => ?_)
                · refine zz_iload hx dL_isSet_290 rfl ?_
                  refine zz_iadd hx dL_isSet_292 ?_
                  refine zz_istore (lv' := [(0, _), (1, _), (2, _), (3, _), (4, _), (5, _), (6, _), (7, _), (8, _), (9, _), (10, _), (12, _), (13, _)]) hx dL_isSet_293 (by decide) rfl ?_
                  refine zz_iinc (lv' := [(0, _), (1, _), (2, _), (3, _), (4, _), (5, _), (6, _), (7, _), (8, _), (9, _), (10, _), (12, _), (13, _)]) hx dL_isSet_295 (by decide) rfl rfl ?_
                  refine zz_goto hx 9 dL_isSet_298 rfl ?_
                  have e9 : smc (ow s) (L s) k.toNat + nn = smc (ow s) (L s) (k + 1).toNat := by rw [hsm, h2]
                  rw [e9]
                  refine zz_sub (lv' := [(0, _), (1, _), (2, _), (3, _), (4, _), (5, _), (6, _), (7, _)]) (by first | exact fun q9 hq9 => hq9 | exact fun q9 hq9 => List.mem_append_left [_] hq9 | exact fun q9 hq9 => List.mem_append_left [_, _] hq9 | exact fun q9 hq9 => List.mem_append_left [_, _, _] hq9 | exact fun q9 hq9 => List.mem_append_left [_, _, _, _] hq9 | exact fun q9 hq9 => List.mem_append_left [_, _, _, _, _] hq9 | exact fun q9 hq9 => List.mem_append_left [_, _, _, _, _, _] hq9 | exact fun q9 hq9 => List.mem_append_left [_, _, _, _, _, _, _] hq9 | exact fun q9 hq9 => List.mem_append_left [_, _, _, _, _, _, _, _] hq9) ?_
                  exact ih (k + 1) (by omega) (by omega) (by omega)
                · omega
              · have hz9 := n3 _ (zat_mem (l := (mOf (ow s) k (L s))) (k := p) h3 (by omega))
                have hv9 := hI.2.2.2.2.1 (zat (mOf (ow s) k (L s)) p) (by omega) (by omega)
                have hlast : P s 2 = 4 → last ≤ Q 1 (zat (mOf (ow s) k (L s)) p) := fun h4s => by
                  rcases h6 with ⟨z1, z2⟩ | ⟨z1, z2⟩
                  · omega
                  · have := hJ.2.2.2.2.1 s hs.1 hs.2 h4s k hi (p - 1) p (by omega) (by omega) (by omega)
                    omega
                have hlr : -2000 ≤ last ∧ last ≤ 1000 := by
                  rcases h6 with ⟨z1, z2⟩ | ⟨z1, z2⟩
                  · omega
                  · have hz8 := n3 _ (zat_mem (l := (mOf (ow s) k (L s))) (k := p - 1) (by omega) (by omega))
                    have := hI.2.2.2.2.1 (zat (mOf (ow s) k (L s)) (p - 1)) (by omega) (by omega)
                    omega
                have hnb : ¬ lb y (zat (mOf (ow s) k (L s)) p) := fun z => by
                  obtain ⟨j, j0, j1, j2⟩ := h5 (zat (mOf (ow s) k (L s)) p) (by omega) (by omega) z
                  have := zat_inj n1 ⟨j0, by omega⟩ ⟨h3, by omega⟩ j2
                  omega
                have hnb1 := (lb_and1 (y := y) (a := (zat (mOf (ow s) k (L s)) p)) (by omega) (by omega)).2 hnb
                refine zz_iload hx dL_isSet_184 rfl ?_
                refine zz_if_eq hx 279 dL_isSet_186 rfl (by decide) (fun z => absurd z (by decide)) (fun _ => ?_)
                refine zz_aload_n hx dL_isSet_189 rfl ?_
                refine zz_iload hx dL_isSet_190 rfl ?_
                refine zz_iload hx dL_isSet_192 rfl ?_
                refine zz_iload hx dL_isSet_194 rfl ?_
                refine zz_callVi hx me_X3_memberAt lk_L_45 (q_X3_memberAt hst hI hS k (by omega) hq9 s hs hi p ⟨h3, by omega⟩) 0 rfl rfl ⟨rfl, rfl⟩ (by decide) (by decide) rfl rfl (Nat.le_of_ble_eq_true rfl) dL_isSet_196 (fun _ _ h => h.elim) (fun r196 w196 hp196 => ?_)
                obtain ⟨rfl, rfl⟩ := hp196
                refine zz_istore (lv' := [(0, _), (1, _), (2, _), (3, _), (4, _), (5, _), (6, _), (7, _), (8, _), (9, _), (10, _), (12, _), (13, _), (14, _)]) hx dL_isSet_199 (by decide) rfl ?_
                refine zz_aload_n hx dL_isSet_201 rfl ?_
                refine zz_iload hx dL_isSet_202 rfl ?_
                refine zz_iload hx dL_isSet_204 rfl ?_
                refine zz_callVi hx me_X3_ownerOf lk_L_36 (q_X3_ownerOf hst hI hS (zat (mOf (ow s) k (L s)) p) (by omega) hz9.2.2.2.2.2 s hs) 0 rfl rfl ⟨rfl, rfl⟩ (by decide) (by decide) rfl rfl (Nat.le_of_ble_eq_true rfl) dL_isSet_206 (fun _ _ h => h.elim) (fun r206 w206 hp206 => ?_)
                obtain ⟨rfl, rfl⟩ := hp206
                refine zz_iload hx dL_isSet_209 rfl ?_
                refine zz_icmp_ne hx 253 dL_isSet_211 rfl (by omega) (by omega) (fun c211 => ?_) (fun c211 => ?_)
                · omega
                · refine zz_lload hx dL_isSet_214 rfl ?_
                  refine zz_iload hx dL_isSet_216 rfl ?_
                  refine zz_lshr hx dL_isSet_218 ?_
                  refine zz_lconst (v := 1) hx dL_isSet_219 rfl ?_
                  refine zz_land hx dL_isSet_220 ?_
                  refine zz_lconst (v := 0) hx dL_isSet_221 rfl ?_
                  refine zz_lcmp hx dL_isSet_222 (fun t222 ht222 he222 => ?_)
                  rw [hnb1] at he222
                  obtain rfl := he222.mpr rfl
                  refine zz_if_ne hx 253 dL_isSet_223 rfl (by omega) (fun c223 => ?_) (fun c223 => ?_)
                  · omega
                  · refine zz_aload_n hx dL_isSet_226 rfl ?_
                    refine zz_iconst hx dL_isSet_227 ?_
                    refine zz_iload hx dL_isSet_228 rfl ?_
                    refine zz_imul hx dL_isSet_230 ?_
                    refine zz_iconst hx dL_isSet_231 ?_
                    refine zz_iadd hx dL_isSet_232 ?_
                    refine zr_ld hx 0 rfl (by decide) (by omega) (by omega) dL_isSet_233 ?_
                    refine zz_iconst hx dL_isSet_234 ?_
                    refine zz_icmp_ne hx 249 dL_isSet_235 rfl (by omega) (by omega) (fun c235 => ?_) (fun c235 => ?_)
                    · refine zz_iconst hx dL_isSet_249 ?_
                      refine zz_goto hx 254 dL_isSet_250 rfl ?_
                      refine zz_istore (lv' := [(0, _), (1, _), (2, _), (3, _), (4, _), (5, _), (6, _), (7, _), (8, _), (9, _), (10, _), (12, _), (13, _), (14, _)]) hx dL_isSet_254 (by decide) rfl ?_
                      refine zz_lload hx dL_isSet_256 rfl ?_
                      refine zz_lconst (v := 1) hx dL_isSet_258 rfl ?_
                      refine zz_iload hx dL_isSet_259 rfl ?_
                      refine zz_lshl hx dL_isSet_261 ?_
                      refine zz_lor hx dL_isSet_262 ?_
                      refine zz_lstore (lv' := [(0, _), (1, _), (2, _), (3, _), (4, _), (5, _), (6, _), (7, _), (8, _), (9, _), (10, _), (12, _), (13, _), (14, _)]) hx dL_isSet_263 (by decide) rfl ?_
                      refine zz_aload_n hx dL_isSet_265 rfl ?_
                      refine zz_iload hx dL_isSet_266 rfl ?_
                      refine zz_callVi hx me_X3_valueOf lk_L_49 (q_X3_valueOf hst hI (zat (mOf (ow s) k (L s)) p) (by omega) hz9.2.2.2.2.2) 0 rfl rfl ⟨rfl, rfl⟩ (by decide) (by decide) rfl rfl (Nat.le_of_ble_eq_true rfl) dL_isSet_268 (fun _ _ h => h.elim) (fun r268 w268 hp268 => ?_)
                      obtain ⟨rfl, rfl⟩ := hp268
                      refine zz_istore (lv' := [(0, _), (1, _), (2, _), (3, _), (4, _), (5, _), (6, _), (7, _), (8, _), (9, _), (10, _), (12, _), (13, _), (14, _)]) hx dL_isSet_271 (by decide) rfl ?_
                      refine zz_iinc (lv' := [(0, _), (1, _), (2, _), (3, _), (4, _), (5, _), (6, _), (7, _), (8, _), (9, _), (10, _), (12, _), (13, _), (14, _)]) hx dL_isSet_273 (by decide) rfl rfl ?_
                      refine zz_goto hx 177 dL_isSet_276 rfl ?_
                      refine zz_sub (lv' := [(0, _), (1, _), (2, _), (3, _), (4, _), (5, _), (6, _), (7, _), (8, _), (9, _), (10, _), (12, _), (13, _)]) (by first | exact fun q9 hq9 => hq9 | exact fun q9 hq9 => List.mem_append_left [_] hq9 | exact fun q9 hq9 => List.mem_append_left [_, _] hq9 | exact fun q9 hq9 => List.mem_append_left [_, _, _] hq9 | exact fun q9 hq9 => List.mem_append_left [_, _, _, _] hq9 | exact fun q9 hq9 => List.mem_append_left [_, _, _, _, _] hq9 | exact fun q9 hq9 => List.mem_append_left [_, _, _, _, _, _] hq9 | exact fun q9 hq9 => List.mem_append_left [_, _, _, _, _, _, _] hq9 | exact fun q9 hq9 => List.mem_append_left [_, _, _, _, _, _, _, _] hq9) ?_
                      refine ihB nn (p + 1) _ _ hi h2 (by omega) (by omega) (fun u u0 u1 hb => ?_) (Or.inr ⟨by omega, by rw [show p + 1 - 1 = p by omega]⟩) (by omega)
                      rcases lb_or.mp hb with z | z
                      · obtain ⟨j, j0, j1, j2⟩ := h5 u u0 u1 z
                        exact ⟨j, j0, by omega, j2⟩
                      · exact ⟨p, h3, by omega, ((lb_one (by omega) (by omega) u0 u1).mp z).symm⟩
                    · refine zz_aload_n hx dL_isSet_238 rfl ?_
                      refine zz_iload hx dL_isSet_239 rfl ?_
                      refine zz_callVi hx me_X3_valueOf lk_L_49 (q_X3_valueOf hst hI (zat (mOf (ow s) k (L s)) p) (by omega) hz9.2.2.2.2.2) 0 rfl rfl ⟨rfl, rfl⟩ (by decide) (by decide) rfl rfl (Nat.le_of_ble_eq_true rfl) dL_isSet_241 (fun _ _ h => h.elim) (fun r241 w241 hp241 => ?_)
                      obtain ⟨rfl, rfl⟩ := hp241
                      refine zz_iload hx dL_isSet_244 rfl ?_
                      refine zz_icmp_lt hx 253 dL_isSet_246 rfl (by omega) (by omega) (fun c246 => ?_) (fun c246 => ?_)
                      · omega
                      · refine zz_iconst hx dL_isSet_249 ?_
                        refine zz_goto hx 254 dL_isSet_250 rfl ?_
                        refine zz_istore (lv' := [(0, _), (1, _), (2, _), (3, _), (4, _), (5, _), (6, _), (7, _), (8, _), (9, _), (10, _), (12, _), (13, _), (14, _)]) hx dL_isSet_254 (by decide) rfl ?_
                        refine zz_lload hx dL_isSet_256 rfl ?_
                        refine zz_lconst (v := 1) hx dL_isSet_258 rfl ?_
                        refine zz_iload hx dL_isSet_259 rfl ?_
                        refine zz_lshl hx dL_isSet_261 ?_
                        refine zz_lor hx dL_isSet_262 ?_
                        refine zz_lstore (lv' := [(0, _), (1, _), (2, _), (3, _), (4, _), (5, _), (6, _), (7, _), (8, _), (9, _), (10, _), (12, _), (13, _), (14, _)]) hx dL_isSet_263 (by decide) rfl ?_
                        refine zz_aload_n hx dL_isSet_265 rfl ?_
                        refine zz_iload hx dL_isSet_266 rfl ?_
                        refine zz_callVi hx me_X3_valueOf lk_L_49 (q_X3_valueOf hst hI (zat (mOf (ow s) k (L s)) p) (by omega) hz9.2.2.2.2.2) 0 rfl rfl ⟨rfl, rfl⟩ (by decide) (by decide) rfl rfl (Nat.le_of_ble_eq_true rfl) dL_isSet_268 (fun _ _ h => h.elim) (fun r268 w268 hp268 => ?_)
                        obtain ⟨rfl, rfl⟩ := hp268
                        refine zz_istore (lv' := [(0, _), (1, _), (2, _), (3, _), (4, _), (5, _), (6, _), (7, _), (8, _), (9, _), (10, _), (12, _), (13, _), (14, _)]) hx dL_isSet_271 (by decide) rfl ?_
                        refine zz_iinc (lv' := [(0, _), (1, _), (2, _), (3, _), (4, _), (5, _), (6, _), (7, _), (8, _), (9, _), (10, _), (12, _), (13, _), (14, _)]) hx dL_isSet_273 (by decide) rfl rfl ?_
                        refine zz_goto hx 177 dL_isSet_276 rfl ?_
                        refine zz_sub (lv' := [(0, _), (1, _), (2, _), (3, _), (4, _), (5, _), (6, _), (7, _), (8, _), (9, _), (10, _), (12, _), (13, _)]) (by first | exact fun q9 hq9 => hq9 | exact fun q9 hq9 => List.mem_append_left [_] hq9 | exact fun q9 hq9 => List.mem_append_left [_, _] hq9 | exact fun q9 hq9 => List.mem_append_left [_, _, _] hq9 | exact fun q9 hq9 => List.mem_append_left [_, _, _, _] hq9 | exact fun q9 hq9 => List.mem_append_left [_, _, _, _, _] hq9 | exact fun q9 hq9 => List.mem_append_left [_, _, _, _, _, _] hq9 | exact fun q9 hq9 => List.mem_append_left [_, _, _, _, _, _, _] hq9 | exact fun q9 hq9 => List.mem_append_left [_, _, _, _, _, _, _, _] hq9) ?_
                        refine ihB nn (p + 1) _ _ hi h2 (by omega) (by omega) (fun u u0 u1 hb => ?_) (Or.inr ⟨by omega, by rw [show p + 1 - 1 = p by omega]⟩) (by omega)
                        rcases lb_or.mp hb with z | z
                        · obtain ⟨j, j0, j1, j2⟩ := h5 u u0 u1 z
                          exact ⟨j, j0, by omega, j2⟩
                        · exact ⟨p, h3, by omega, ((lb_one (by omega) (by omega) u0 u1).mp z).symm⟩
          have j166 : ∀ nn : Int, ((Q 0 k = P s 0 ∧ nn = ((mOf (ow s) k (L s)).length : Int)) ∨ (Q 0 k ≠ P s 0 ∧ nn = -1)) → Z l g ({ frames := 5, cells := 0, slots := 0, locals := 109 } : Room) 15 x 0 0 (wD g b c I Q P T N (rA g gA 30 Gr :: rA g tA 60 U :: rA g cA 3 C :: rest)) 166 [(0, .ref (b 0)), (1, .ref gA), (2, .ref tA), (3, .ref cA), (4, vi s), (5, vi (smc (ow s) (L s) k.toNat)), (6, vi 1), (7, vi k), (8, vi (ow s k)), (9, vi nn)] [] := by
            intro nn hn9
            refine zz_lconst (v := 0) hx dL_isSet_166 rfl ?_
            refine zz_lstore (lv' := [(0, _), (1, _), (2, _), (3, _), (4, _), (5, _), (6, _), (7, _), (8, _), (9, _), (10, _)]) hx dL_isSet_167 (by decide) rfl ?_
            refine zz_sipush hx dL_isSet_169 rfl ?_
            refine zz_istore (lv' := [(0, _), (1, _), (2, _), (3, _), (4, _), (5, _), (6, _), (7, _), (8, _), (9, _), (10, _), (12, _)]) hx dL_isSet_172 (by decide) rfl ?_
            refine zz_iconst hx dL_isSet_174 ?_
            refine zz_istore (lv' := [(0, _), (1, _), (2, _), (3, _), (4, _), (5, _), (6, _), (7, _), (8, _), (9, _), (10, _), (12, _), (13, _)]) hx dL_isSet_175 (by decide) rfl ?_
            by_cases hi : isO s k
            · exact loopB (nn.toNat + 1) nn 0 (-2000) 0 hi (by have := (hio.mp hi).2.2; omega) (by omega) (by have := (hio.mp hi).2.2; omega) (fun u u0 u1 z => absurd z lb_0) (Or.inl ⟨rfl, rfl⟩) (by omega)
            · have hni : Q 0 k ≠ P s 0 := fun z => hi (hio.mpr ⟨by omega, by omega, z⟩)
              refine zz_iload hx dL_isSet_177 rfl ?_
              refine zz_iload hx dL_isSet_179 rfl ?_
              refine zz_icmp_ge hx 279 dL_isSet_181 rfl (by omega) (by omega) (fun c181 => ?_) (fun c181 => ?_)
              · refine zz_iload hx dL_isSet_279 rfl ?_
                refine zz_iload hx dL_isSet_281 rfl ?_
                refine zz_if_ge hx 290 dL_isSet_283 rfl (by omega) (fun c283 => ?_) (fun c283 => ?_)
                · omega
                · refine zz_iconst hx dL_isSet_286 ?_
                  refine zz_goto hx 292 dL_isSet_287 rfl ?_
                  refine zz_iadd hx dL_isSet_292 ?_
                  refine zz_istore (lv' := [(0, _), (1, _), (2, _), (3, _), (4, _), (5, _), (6, _), (7, _), (8, _), (9, _), (10, _), (12, _), (13, _)]) hx dL_isSet_293 (by decide) rfl ?_
                  refine zz_iinc (lv' := [(0, _), (1, _), (2, _), (3, _), (4, _), (5, _), (6, _), (7, _), (8, _), (9, _), (10, _), (12, _), (13, _)]) hx dL_isSet_295 (by decide) rfl rfl ?_
                  refine zz_goto hx 9 dL_isSet_298 rfl ?_
                  have e9 : smc (ow s) (L s) k.toNat + 0 = smc (ow s) (L s) (k + 1).toNat := by
                    rw [hsm, hemp k hi]; rfl
                  rw [e9]
                  refine zz_sub (lv' := [(0, _), (1, _), (2, _), (3, _), (4, _), (5, _), (6, _), (7, _)]) (by first | exact fun q9 hq9 => hq9 | exact fun q9 hq9 => List.mem_append_left [_] hq9 | exact fun q9 hq9 => List.mem_append_left [_, _] hq9 | exact fun q9 hq9 => List.mem_append_left [_, _, _] hq9 | exact fun q9 hq9 => List.mem_append_left [_, _, _, _] hq9 | exact fun q9 hq9 => List.mem_append_left [_, _, _, _, _] hq9 | exact fun q9 hq9 => List.mem_append_left [_, _, _, _, _, _] hq9 | exact fun q9 hq9 => List.mem_append_left [_, _, _, _, _, _, _] hq9 | exact fun q9 hq9 => List.mem_append_left [_, _, _, _, _, _, _, _] hq9) ?_
                  exact ih (k + 1) (by omega) (by omega) (by omega)
              · omega
          have j101 : ∀ nn : Int, ((Q 0 k = P s 0 ∧ nn = ((mOf (ow s) k (L s)).length : Int)) ∨ (Q 0 k ≠ P s 0 ∧ nn = -1)) → Z l g ({ frames := 5, cells := 0, slots := 0, locals := 109 } : Room) 15 x 0 0 (wD g b c I Q P T N (rA g gA 30 Gr :: rA g tA 60 U :: rA g cA 3 C :: rest)) 101 [(0, .ref (b 0)), (1, .ref gA), (2, .ref tA), (3, .ref cA), (4, vi s), (5, vi (smc (ow s) (L s) k.toNat)), (6, vi 1), (7, vi k), (8, vi (ow s k)), (9, vi nn)] [] := by
            intro nn hn9
            refine zz_iload hx dL_isSet_101 rfl ?_
            refine zz_if_lt hx 159 dL_isSet_103 rfl (by omega) (fun c103 => ?_) (fun c103 => ?_)
            · refine zz_iconst hx dL_isSet_159 ?_
              refine zz_goto hx 164 dL_isSet_160 rfl ?_
              refine zz_istore (lv' := [(0, _), (1, _), (2, _), (3, _), (4, _), (5, _), (6, _), (7, _), (8, _), (9, _)]) hx dL_isSet_164 (by decide) rfl ?_
              exact j166 nn hn9
            · have hu8 := kU_at hU hI (k := ow s k) (by omega) (by omega)
              refine zz_iload hx dL_isSet_106 rfl ?_
              refine zz_aload_n hx dL_isSet_108 rfl ?_
              refine zz_iconst hx dL_isSet_109 ?_
              refine zr_ld hx 2 rfl (by decide) (by omega) (by omega) dL_isSet_110 ?_
              refine zz_icmp_ge hx 163 dL_isSet_111 rfl (by omega) (by omega) (fun c111 => ?_) (fun c111 => ?_)
              · omega
              · refine zz_aload_n hx dL_isSet_114 rfl ?_
                refine zz_iload hx dL_isSet_115 rfl ?_
                refine zr_ld hx 1 rfl (by decide) (by omega) (by omega) dL_isSet_117 ?_
                refine zz_if_eq hx 163 dL_isSet_118 rfl (by omega) (fun c118 => ?_) (fun c118 => ?_)
                · omega
                · refine zz_aload_n hx dL_isSet_121 rfl ?_
                  refine zz_iload hx dL_isSet_122 rfl ?_
                  refine zr_ld hx 1 rfl (by decide) (by omega) (by omega) dL_isSet_124 ?_
                  refine zz_bipush hx dL_isSet_125 rfl ?_
                  refine zz_and7 hx dL_isSet_127 (by omega) (by omega) ?_
                  refine zz_iconst hx dL_isSet_128 ?_
                  refine zz_isub hx dL_isSet_129 ?_
                  refine zz_aload_n hx dL_isSet_130 rfl ?_
                  refine zz_iconst hx dL_isSet_131 ?_
                  refine zz_iload hx dL_isSet_132 rfl ?_
                  refine zz_imul hx dL_isSet_134 ?_
                  refine zr_ld hx 0 rfl (by decide) (by omega) (by omega) dL_isSet_135 ?_
                  refine zz_icmp_ne hx 163 dL_isSet_136 rfl (by omega) (by omega) (fun c136 => ?_) (fun c136 => ?_)
                  · omega
                  · refine zz_aload_n hx dL_isSet_139 rfl ?_
                    refine zz_iload hx dL_isSet_140 rfl ?_
                    refine zr_ld hx 1 rfl (by decide) (by omega) (by omega) dL_isSet_142 ?_
                    refine zz_bipush hx dL_isSet_143 rfl ?_
                    refine zz_and7 hx dL_isSet_145 (by omega) (by omega) ?_
                    refine zz_iconst hx dL_isSet_146 ?_
                    refine zz_isub hx dL_isSet_147 ?_
                    refine zz_aload_n hx dL_isSet_148 rfl ?_
                    refine zz_iconst hx dL_isSet_149 ?_
                    refine zz_iload hx dL_isSet_150 rfl ?_
                    refine zz_imul hx dL_isSet_152 ?_
                    refine zz_iconst hx dL_isSet_153 ?_
                    refine zz_iadd hx dL_isSet_154 ?_
                    refine zr_ld hx 0 rfl (by decide) (by omega) (by omega) dL_isSet_155 ?_
                    refine zz_icmp_ne hx 163 dL_isSet_156 rfl (by omega) (by omega) (fun c156 => ?_) (fun c156 => ?_)
                    · omega
                    · refine zz_iconst hx dL_isSet_159 ?_
                      refine zz_goto hx 164 dL_isSet_160 rfl ?_
                      refine zz_istore (lv' := [(0, _), (1, _), (2, _), (3, _), (4, _), (5, _), (6, _), (7, _), (8, _), (9, _)]) hx dL_isSet_164 (by decide) rfl ?_
                      exact j166 nn hn9
          have j75 : ∀ nn i : Int, ((Q 0 k = P s 0 ∧ nn = ((mOf (ow s) k (L s)).length : Int) ∧ i = 0) ∨ (Q 0 k ≠ P s 0 ∧ nn = -1 ∧ i = 1)) → Z l g ({ frames := 5, cells := 0, slots := 0, locals := 109 } : Room) 15 x 0 0 (wD g b c I Q P T N (rA g gA 30 Gr :: rA g tA 60 U :: rA g cA 3 C :: rest)) 75 [(0, .ref (b 0)), (1, .ref gA), (2, .ref tA), (3, .ref cA), (4, vi s), (5, vi (smc (ow s) (L s) k.toNat)), (6, vi 1), (7, vi k), (8, vi (ow s k)), (9, vi nn)] [vi i] := by
            intro nn i hn9
            refine zz_aload_n hx dL_isSet_75 rfl ?_
            refine zz_iload hx dL_isSet_76 rfl ?_
            refine zr_ld hx 1 rfl (by decide) (by omega) (by omega) dL_isSet_78 ?_
            refine zz_bipush hx dL_isSet_79 rfl ?_
            refine zz_and7 hx dL_isSet_81 (by omega) (by omega) ?_
            refine zz_iconst hx dL_isSet_82 ?_
            refine zz_isub hx dL_isSet_83 ?_
            refine zz_aload_n hx dL_isSet_84 rfl ?_
            refine zz_iconst hx dL_isSet_85 ?_
            refine zz_iload hx dL_isSet_86 rfl ?_
            refine zz_imul hx dL_isSet_88 ?_
            refine zr_ld hx 0 rfl (by decide) (by omega) (by omega) dL_isSet_89 ?_
            refine zz_icmp_eq hx 97 dL_isSet_90 rfl (by omega) (by omega) (fun c90 => ?_) (fun c90 => ?_)
            · refine zz_iconst hx dL_isSet_97 ?_
              refine zz_icmp_ne hx 163 dL_isSet_98 rfl (by omega) (by omega) (fun c98 => ?_) (fun c98 => ?_)
              · omega
              · exact j101 nn (by omega)
            · refine zz_iconst hx dL_isSet_93 ?_
              refine zz_goto hx 98 dL_isSet_94 rfl ?_
              refine zz_icmp_ne hx 163 dL_isSet_98 rfl (by omega) (by omega) (fun c98 => ?_) (fun c98 => ?_)
              · omega
              · exact j101 nn (by omega)
          refine zz_iload hx dL_isSet_9 rfl ?_
          refine zz_aload_n hx dL_isSet_11 rfl ?_
          refine zz_iconst hx dL_isSet_12 ?_
          refine zr_ld hx 2 rfl (by decide) (by omega) (by omega) dL_isSet_13 ?_
          refine zz_icmp_ge hx 301 dL_isSet_14 rfl (by omega) (by omega) (fun c14 => ?_) (fun c14 => ?_)
          · omega
          · refine zz_iload hx dL_isSet_17 rfl ?_
            refine zz_if_eq hx 301 dL_isSet_19 rfl (by decide) (fun z => absurd z (by decide)) (fun _ => ?_)
            refine zz_aload_n hx dL_isSet_22 rfl ?_
            refine zz_iload hx dL_isSet_23 rfl ?_
            refine zr_ld hx 1 rfl (by decide) (by omega) (by omega) dL_isSet_25 ?_
            refine zz_if_ne hx 32 dL_isSet_26 rfl (by omega) (fun c26 => ?_) (fun c26 => ?_)
            · refine zz_aload_n hx dL_isSet_32 rfl ?_
              refine zz_iload hx dL_isSet_33 rfl ?_
              refine zz_iload hx dL_isSet_35 rfl ?_
              refine zz_callVi hx me_X3_ownerOf lk_L_36 (q_X3_ownerOf hst hI hS k (by omega) hq9 s hs) 0 rfl rfl ⟨rfl, rfl⟩ (by decide) (by decide) rfl rfl (Nat.le_of_ble_eq_true rfl) dL_isSet_37 (fun _ _ h => h.elim) (fun r37 w37 hp37 => ?_)
              obtain ⟨rfl, rfl⟩ := hp37
              refine zz_istore (lv' := [(0, _), (1, _), (2, _), (3, _), (4, _), (5, _), (6, _), (7, _), (8, _)]) hx dL_isSet_40 (by decide) rfl ?_
              refine zz_aload_n hx dL_isSet_42 rfl ?_
              refine zz_iload hx dL_isSet_43 rfl ?_
              refine zz_iload hx dL_isSet_45 rfl ?_
              refine zz_callVi hx me_X3_members lk_L_39 (q_X3_members hst hI hS k (by omega) hq9 s hs) 0 rfl rfl ⟨rfl, rfl⟩ (by decide) (by decide) rfl rfl (Nat.le_of_ble_eq_true rfl) dL_isSet_47 (fun _ _ h => h.elim) (fun r47 w47 hp47 => ?_)
              obtain ⟨hm9, rfl⟩ := hp47
              have hm47 : (Q 0 k = P s 0 ∧ r47 = ((mOf (ow s) k (L s)).length : Int)) ∨ (Q 0 k ≠ P s 0 ∧ r47 = -1) := by
                rcases hm9 with ⟨z1, z2⟩ | ⟨z1, z2⟩
                · exact Or.inl ⟨(hio.mp z1).2.2, z2⟩
                · exact Or.inr ⟨fun z => z1 (hio.mpr ⟨by omega, by omega, z⟩), z2⟩
              clear hm9
              refine zz_istore (lv' := [(0, _), (1, _), (2, _), (3, _), (4, _), (5, _), (6, _), (7, _), (8, _), (9, _)]) hx dL_isSet_50 (by decide) rfl ?_
              refine zz_aload_n hx dL_isSet_52 rfl ?_
              refine zz_iload hx dL_isSet_53 rfl ?_
              refine zz_iload hx dL_isSet_55 rfl ?_
              refine zz_callVi hx me_X3_membersByTable lk_L_42 (q_X3_membersByTable hst hI hS k (by omega) hq9 s hs) 0 rfl rfl ⟨rfl, rfl⟩ (by decide) (by decide) rfl rfl (Nat.le_of_ble_eq_true rfl) dL_isSet_57 (fun _ _ h => h.elim) (fun r57 w57 hp57 => ?_)
              obtain ⟨hm9, rfl⟩ := hp57
              have hm57 : (Q 0 k = P s 0 ∧ r57 = ((mOf (ow s) k (L s)).length : Int)) ∨ (Q 0 k ≠ P s 0 ∧ r57 = -1) := by
                rcases hm9 with ⟨z1, z2⟩ | ⟨z1, z2⟩
                · exact Or.inl ⟨(hio.mp z1).2.2, z2⟩
                · exact Or.inr ⟨fun z => z1 (hio.mpr ⟨by omega, by omega, z⟩), z2⟩
              clear hm9
              refine zz_iload hx dL_isSet_60 rfl ?_
              refine zz_icmp_ne hx 163 dL_isSet_62 rfl (by omega) (by omega) (fun c62 => ?_) (fun c62 => ?_)
              · omega
              · refine zz_iload hx dL_isSet_65 rfl ?_
                refine zz_if_ge hx 74 dL_isSet_67 rfl (by omega) (fun c67 => ?_) (fun c67 => ?_)
                · refine zz_iconst hx dL_isSet_74 ?_
                  exact j75 _ _ (by omega)
                · refine zz_iconst hx dL_isSet_70 ?_
                  refine zz_goto hx 75 dL_isSet_71 rfl ?_
                  exact j75 _ _ (by omega)
            · omega
      · refine zz_iload hx dL_isSet_9 rfl ?_
        refine zz_aload_n hx dL_isSet_11 rfl ?_
        refine zz_iconst hx dL_isSet_12 ?_
        refine zr_ld hx 2 rfl (by decide) (by omega) (by omega) dL_isSet_13 ?_
        refine zz_icmp_ge hx 301 dL_isSet_14 rfl (by omega) (by omega) (fun c14 => ?_) (fun c14 => ?_)
        · refine zz_iconst hx dL_isSet_301 ?_
          refine zz_istore (lv' := [(0, _), (1, _), (2, _), (3, _), (4, _), (5, _), (6, _), (7, _)]) hx dL_isSet_302 (by decide) rfl ?_
          have e9 : smc (ow s) (L s) k.toNat = ((L s).length : Int) - ocn (ow s) (0 : Int).toNat := by
            rw [show k = I 0 by omega, smc_all hmI]
            show ((L s).length : Int) = ((L s).length : Int) - 0
            omega
          rw [e9]
          exact loopC ((I 0).toNat + 1) 0 (by omega) (by omega) (by omega)
        · omega
  refine zz_iconst hx dL_isSet_0 ?_
  refine zz_istore (lv' := [(0, _), (1, _), (2, _), (3, _), (4, _), (5, _)]) hx dL_isSet_1 (by decide) rfl ?_
  refine zz_iconst hx dL_isSet_3 ?_
  refine zz_istore (lv' := [(0, _), (1, _), (2, _), (3, _), (4, _), (5, _), (6, _)]) hx dL_isSet_4 (by decide) rfl ?_
  refine zz_iconst hx dL_isSet_6 ?_
  refine zz_istore (lv' := [(0, _), (1, _), (2, _), (3, _), (4, _), (5, _), (6, _), (7, _)]) hx dL_isSet_7 (by decide) rfl ?_
  exact loopA ((I 0).toNat + 1) 0 (by omega) (by omega) (by omega)
