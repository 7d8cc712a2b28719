/-! the law: a base -/
theorem J_0 {P : Int → Nat → Int} {T : Int → Nat → Int → Int} {ow : Int → Int → Int} {isO : Int → Int → Prop} {L : Int → List Int} : J (fun k => if k = 2 then -1 else 0) (fun k => rowF (if k = 2 then 4 else 60)) P T 0 ow isO L := by
  have h0 : ∀ u : Int, 0 ≤ u → u < 60 → (fun k => rowF (if k = 2 then 4 else 60)) 0 u = -1 := fun u u0 u1 => rowF_in u0 (show u < ((60 : Nat) : Int) from u1)
  have h1 : ∀ u : Int, 0 ≤ u → u < 60 → (fun k => rowF (if k = 2 then 4 else 60)) 1 u = -1 := fun u u0 u1 => rowF_in u0 (show u < ((60 : Nat) : Int) from u1)
  have h2 : ∀ u : Int, 0 ≤ u → u < 4 → (fun k => rowF (if k = 2 then 4 else 60)) 2 u = -1 := fun u u0 u1 => rowF_in u0 (show u < ((4 : Nat) : Int) from u1)
  refine ⟨⟨rfl, by decide, by decide, fun u u0 u1 => ?_, fun u u0 u1 => ?_, fun u u0 u1 => ?_, by decide, by decide⟩, fun s s0 s1 => absurd s1 (by omega), fun s s0 s1 => absurd s1 (by omega), fun s s0 s1 => absurd s1 (by omega), fun s s0 s1 => absurd s1 (by omega), fun t t0 t1 hne => absurd (h2 t t0 t1) hne, fun hne => absurd rfl hne, fun u u0 u1 => h0 u u0 u1, rfl⟩
  · rw [h0 u u0 u1]; decide
  · rw [h1 u u0 u1]; decide
  · rw [h2 u u0 u1]; decide
section WDS
variable {g : zG} {b : Nat → Nat} {c : Int → Nat → Nat} {I : Nat → Int} {Q : Nat → Int → Int} {P : Int → Nat → Int} {T : Int → Nat → Int → Int} {N : Nat}
theorem wD_s0 {e : Nat × va_E} : wD g b c I Q P T N [] ++ [e] = wD g b c I Q P T N [e] := wD_app.symm
theorem wD_s1 {y0 e : Nat × va_E} : wD g b c I Q P T N [y0] ++ [e] = wD g b c I Q P T N [y0, e] := by
  rw [wD_app, wD_app (rest := [y0, e]), List.append_assoc]; rfl
theorem wD_s2 {y0 y1 e : Nat × va_E} : wD g b c I Q P T N [y0, y1] ++ [e] = wD g b c I Q P T N [y0, y1, e] := by
  rw [wD_app, wD_app (rest := [y0, y1, e]), List.append_assoc]; rfl
end WDS

theorem l_ties {l : Launch} {g : zG} {b : Nat → Nat} {c : Int → Nat → Nat} {I : Nat → Int} {Q : Nat → Int → Int} {P : Int → Nat → Int} {T : Int → Nat → Int → Int} {N : Nat} {ow : Int → Int → Int} {isO : Int → Int → Prop} {L : Int → List Int} {rest : va_W} (hst : l.stackTraces = false) {gA tA cA : Nat} {Gr U C : Int → Int} (hJ : J I Q P T N ow isO L) (hC : kC I N C) (hU : kU Q U) (hG : kG P N Gr) (hN0 : 0 < N) (w xa ya : Int) (hw : w = 3 ∨ w = 4 ∨ w = 5) (hx0 : 0 ≤ xa ∧ xa < 1073741824) (hy0 : 0 ≤ ya ∧ ya < 1073741824) : zMn l g yL_ties cL_ties 22 (Option.some FieldType.boolean) ({ frames := 10, cells := 4, slots := 24, locals := 198 } : Room) [.ref (b 0), vi w, vi xa, vi ya, .ref gA, .ref tA, .ref cA] (wD g b c I Q P T N (rA g gA 30 Gr :: rA g tA 60 U :: rA g cA 3 C :: rest)) (zI fun v w => v = 1 ∧ (jW g b c N gA tA cA Gr rest w)) 4 24 := by
  rcases hw with rfl | rfl | rfl
  · exact l_ties3 hst hJ hC hU hG hN0 xa ya hx0 hy0
  · exact l_ties4 hst hJ hC hU hG hN0 xa ya hx0 hy0
  · exact l_ties5 hst hJ hC hU hG hN0 xa ya hx0 hy0

set_option maxHeartbeats 4000000 in
set_option maxRecDepth 100000 in
theorem l_base {l : Launch} {g : zG} {bS Ls : Nat} {xs : Nat → Int32} (hst : l.stackTraces = false) (hL : Ls ≤ 3072) (fr : Int) (hfr : 0 ≤ fr ∧ fr ≤ 1000) : zMs_ l g bS Ls xs yL_base cL_base 11 (Option.some FieldType.boolean) ({ frames := 11, cells := 2954, slots := 18600, locals := 239 } : Room) [.ref bS, vi fr] [] (zI fun v _ => v = 1) 2954 18600 := by
  refine zMs_of (lv0 := [(0, _), (1, _)]) hst rfl (by decide +kernel) (Nat.le_of_ble_eq_true rfl) rfl (fun x hx hf hnc hsc => ?_)
  refine zz_new (ci := 4) (fs := [.null, .null, .null, .null, .null, vi 0, vi 0, vi 0]) hx lc_L_11 (zT_dec (by decide +kernel)) (zT_dec (by decide +kernel)) fw_X3 rfl tyX3 tyX3_ok (by decide) (by decide) dL_base_0 (fun q0 => ?_)
  refine zz_dup hx dL_base_3 rfl ?_
  refine zz_callI hx mi_X3_init lk_L_130 (c_Database_init (w := []) hst) ⟨rfl, rfl⟩ (by decide) (by decide) rfl rfl (Nat.le_of_ble_eq_true rfl) dL_base_4 (fun _ _ h => h.elim) (fun w4 hp4 => ?_)
  obtain ⟨b, I, Q, rfl, rfl, e13, rfl, rfl⟩ := hp4
  refine zz_eq (w' := wD g b (fun _ _ => 0) (fun k => if k = 2 then -1 else 0) (fun k => rowF (if k = 2 then 4 else 60)) (fun _ _ => 0) (fun _ _ _ => 0) 0 []) rfl rfl ?_
  refine zz_astore_n (lv' := [(0, _), (1, _), (2, _)]) hx dL_base_7 (by decide) rfl ?_
  refine zz_bipush hx dL_base_8 rfl ?_
  refine zz_newi (N := 30) hx (by decide) (by decide) dL_base_10 (fun q10 => ?_)
  refine zz_eq wD_s0 rfl ?_
  refine zz_astore_n (lv' := [(0, _), (1, _), (2, _), (3, _)]) hx dL_base_12 (by decide) rfl ?_
  refine zz_bipush hx dL_base_13 rfl ?_
  refine zz_newi (N := 60) hx (by decide) (by decide) dL_base_15 (fun q15 => ?_)
  refine zz_eq wD_s1 rfl ?_
  refine zz_astore (lv' := [(0, _), (1, _), (2, _), (3, _), (4, _)]) hx dL_base_17 (by decide) rfl ?_
  refine zz_iconst hx dL_base_19 ?_
  refine zz_newi (N := 3) hx (by decide) (by decide) dL_base_20 (fun q20 => ?_)
  refine zz_eq wD_s2 rfl ?_
  refine zz_astore (lv' := [(0, _), (1, _), (2, _), (3, _), (4, _), (5, _)]) hx dL_base_22 (by decide) rfl ?_
  have loopM : ∀ (b : Nat → Nat) (c : Int → Nat → Nat) (N : Nat) (Gr : Int → Int), 0 < N → ∀ (n : Nat) (k : Int) (w1 : va_W), 0 ≤ k → k ≤ 46 → jW g b c N q10 q15 q20 Gr [] w1 → ((46 : Int) - k).toNat < n → Z l g ({ frames := 11, cells := 2954, slots := 18600, locals := 239 } : Room) 11 x (56 + 63 * k.toNat) (1212 + 378 * k.toNat) w1 236 [(0, .ref bS), (1, vi fr), (2, .ref (b 0)), (3, .ref q10), (4, .ref q15), (5, .ref q20), (6, vi 1), (7, vi k)] [] := by
    intro b c N Gr hN0 n
    induction n with
    | zero => intro k w1 h0 h1 hjw hm; omega
    | succ n ih =>
      intro k w1 h0 h1 hjw hm
      have j464 : k < 46 → ∀ (xa ya wh : Int) (w2 : va_W), jW g b c N q10 q15 q20 Gr [] w2 → Z l g ({ frames := 11, cells := 2954, slots := 18600, locals := 239 } : Room) 11 x (56 + 63 * k.toNat + 63) (1212 + 378 * k.toNat + 378) w2 464 [(0, .ref bS), (1, vi fr), (2, .ref (b 0)), (3, .ref q10), (4, .ref q15), (5, .ref q20), (6, vi 1), (7, vi k), (8, vi xa), (9, vi ya), (10, vi wh)] [vi 1] := by
        intro hk9 xa ya wh w2 hjw2
        obtain ⟨I, Q, P, T, ow, isO, L, U, C, rfl, hJ, hC, hU, hG⟩ := hjw2
        refine zz_istore (lv' := [(0, _), (1, _), (2, _), (3, _), (4, _), (5, _), (6, _), (7, _), (8, _), (9, _), (10, _)]) hx dL_base_464 (by decide) rfl ?_
        refine zz_iload hx dL_base_466 rfl ?_
        refine zz_if_eq hx 487 dL_base_468 rfl (by decide) (fun z => absurd z (by decide)) (fun _ => ?_)
        refine zz_aload_n hx dL_base_471 rfl ?_
        refine zz_aload_n hx dL_base_472 rfl ?_
        refine zz_aload hx dL_base_473 rfl ?_
        refine zz_aload hx dL_base_475 rfl ?_
        refine zz_callSi hx ms_L_isBase lk_L_158 (l_isBase hst hJ hC hU hG) ⟨rfl, rfl⟩ (by decide) ⟨show 56 + 63 * k.toNat + 63 + 0 ≤ 2954 by omega, show 1212 + 378 * k.toNat + 378 + 0 ≤ 18600 by omega⟩ rfl rfl (Nat.le_of_ble_eq_true rfl) dL_base_477 (fun _ _ h => h.elim) (fun r477 w477 hp477 => ?_)
        obtain ⟨rfl, rfl⟩ := hp477
        refine zz_if_eq hx 487 dL_base_480 rfl (by decide) (fun z => absurd z (by decide)) (fun _ => ?_)
        refine zz_iconst hx dL_base_483 ?_
        refine zz_goto hx 488 dL_base_484 rfl ?_
        refine zz_istore (lv' := [(0, _), (1, _), (2, _), (3, _), (4, _), (5, _), (6, _), (7, _), (8, _), (9, _), (10, _)]) hx dL_base_488 (by decide) rfl ?_
        refine zz_iinc (lv' := [(0, _), (1, _), (2, _), (3, _), (4, _), (5, _), (6, _), (7, _), (8, _), (9, _), (10, _)]) hx dL_base_490 (by decide) rfl rfl ?_
        refine zz_goto hx 236 dL_base_493 rfl ?_
        refine zz_sub (lv' := [(0, _), (1, _), (2, _), (3, _), (4, _), (5, _), (6, _), (7, _)]) (by first | exact fun q9 hq9 => hq9 | exact fun q9 hq9 => List.mem_append_left [_] hq9 | exact fun q9 hq9 => List.mem_append_left [_, _] hq9 | exact fun q9 hq9 => List.mem_append_left [_, _, _] hq9 | exact fun q9 hq9 => List.mem_append_left [_, _, _, _] hq9 | exact fun q9 hq9 => List.mem_append_left [_, _, _, _, _] hq9 | exact fun q9 hq9 => List.mem_append_left [_, _, _, _, _, _] hq9 | exact fun q9 hq9 => List.mem_append_left [_, _, _, _, _, _, _] hq9 | exact fun q9 hq9 => List.mem_append_left [_, _, _, _, _, _, _, _] hq9) ?_
        refine zz_widen (k' := 56 + 63 * (k + 1).toNat) (n' := 1212 + 378 * (k + 1).toNat) (show 56 + 63 * k.toNat + 63 + 0 ≤ 56 + 63 * (k + 1).toNat by omega) (show 1212 + 378 * k.toNat + 378 + 0 ≤ 1212 + 378 * (k + 1).toNat by omega) ?_
        exact ih (k + 1) _ (by omega) (by omega) ⟨I, Q, P, T, ow, isO, L, U, C, rfl, hJ, hC, hU, hG⟩ (by omega)
      have j308 : k < 46 → ∀ xa ya wh : Int, (0 ≤ xa ∧ xa < 1073741824) → (0 ≤ ya ∧ ya < 1073741824) → (0 ≤ wh ∧ wh < 24) → Z l g ({ frames := 11, cells := 2954, slots := 18600, locals := 239 } : Room) 11 x (56 + 63 * k.toNat) (1212 + 378 * k.toNat) w1 308 [(0, .ref bS), (1, vi fr), (2, .ref (b 0)), (3, .ref q10), (4, .ref q15), (5, .ref q20), (6, vi 1), (7, vi k), (8, vi xa), (9, vi ya)] [vi wh] := by
        intro hk9 xa ya wh hx0 hy0 hwh
        obtain ⟨I, Q, P, T, ow, isO, L, U, C, rfl, hJ, hC, hU, hG⟩ := hjw
        have j357 : ∀ w0 : Int, (0 ≤ w0 ∧ w0 ≤ 5) → Z l g ({ frames := 11, cells := 2954, slots := 18600, locals := 239 } : Room) 11 x (56 + 63 * k.toNat) (1212 + 378 * k.toNat) (wD g b c I Q P T N (rA g q10 30 Gr :: rA g q15 60 U :: rA g q20 3 C :: [])) 357 [(0, .ref bS), (1, vi fr), (2, .ref (b 0)), (3, .ref q10), (4, .ref q15), (5, .ref q20), (6, vi 1), (7, vi k), (8, vi xa), (9, vi ya), (10, vi wh)] [vi w0, .ref (b 0)] := by
          intro w0 hw0
          refine zz_iload hx dL_base_357 rfl ?_
          refine zz_iload hx dL_base_359 rfl ?_
          refine zz_aload_n hx dL_base_361 rfl ?_
          refine zz_aload hx dL_base_362 rfl ?_
          refine zz_aload hx dL_base_364 rfl ?_
          refine zz_callSi hx ms_L_finds lk_L_144 (l_finds hst hJ hC hU hG hN0 w0 xa ya hw0 hx0 hy0) ⟨rfl, rfl⟩ (by decide) ⟨show 56 + 63 * k.toNat + 2 ≤ 2954 by omega, show 1212 + 378 * k.toNat + 17 ≤ 18600 by omega⟩ rfl rfl (Nat.le_of_ble_eq_true rfl) dL_base_366 (fun _ _ h => h.elim) (fun r366 w366 hp366 => ?_)
          obtain ⟨rfl, hjw2⟩ := hp366
          refine zz_widen (k' := 56 + 63 * k.toNat + 63) (n' := 1212 + 378 * k.toNat + 378) (show 56 + 63 * k.toNat + 2 ≤ 56 + 63 * k.toNat + 63 by omega) (show 1212 + 378 * k.toNat + 17 ≤ 1212 + 378 * k.toNat + 378 by omega) ?_
          refine zz_goto hx 464 dL_base_369 rfl ?_
          exact j464 hk9 xa ya wh _ hjw2
        refine zz_istore (lv' := [(0, _), (1, _), (2, _), (3, _), (4, _), (5, _), (6, _), (7, _), (8, _), (9, _), (10, _)]) hx dL_base_308 (by decide) rfl ?_
        refine zz_iload hx dL_base_310 rfl ?_
        refine zz_bipush hx dL_base_312 rfl ?_
        refine zz_icmp_ge hx 333 dL_base_314 rfl (by omega) (by omega) (fun c314 => ?_) (fun c314 => ?_)
        · refine zz_iload hx dL_base_333 rfl ?_
          refine zz_bipush hx dL_base_335 rfl ?_
          refine zz_icmp_ge hx 372 dL_base_337 rfl (by omega) (by omega) (fun c337 => ?_) (fun c337 => ?_)
          · refine zz_iload hx dL_base_372 rfl ?_
            refine zz_bipush hx dL_base_374 rfl ?_
            refine zz_icmp_ge hx 396 dL_base_376 rfl (by omega) (by omega) (fun c376 => ?_) (fun c376 => ?_)
            · refine zz_iload hx dL_base_396 rfl ?_
              refine zz_bipush hx dL_base_398 rfl ?_
              refine zz_icmp_ne hx 422 dL_base_400 rfl (by omega) (by omega) (fun c400 => ?_) (fun c400 => ?_)
              · refine zz_iload hx dL_base_422 rfl ?_
                refine zz_bipush hx dL_base_424 rfl ?_
                refine zz_icmp_ne hx 445 dL_base_426 rfl (by omega) (by omega) (fun c426 => ?_) (fun c426 => ?_)
                · refine zz_aload_n hx dL_base_445 rfl ?_
                  refine zz_iconst hx dL_base_446 ?_
                  refine zz_iload hx dL_base_447 rfl ?_
                  refine zz_iconst hx dL_base_449 ?_
                  refine zz_irem hx dL_base_450 (by omega) (by omega) (by omega) (by omega) ?_
                  refine zz_iadd hx dL_base_451 ?_
                  refine zz_iload hx dL_base_452 rfl ?_
                  have ht3 : 3 + wh % 3 = 3 ∨ 3 + wh % 3 = 4 ∨ 3 + wh % 3 = 5 := by omega
                  refine zz_iload hx dL_base_454 rfl ?_
                  refine zz_aload_n hx dL_base_456 rfl ?_
                  refine zz_aload hx dL_base_457 rfl ?_
                  refine zz_aload hx dL_base_459 rfl ?_
                  refine zz_callN hx hnc ms_L_ties lk_L_155 (l_ties hst hJ hC hU hG hN0 (3 + wh % 3) xa ya ht3 hx0 hy0) ⟨rfl, rfl⟩ (by decide) ⟨show 56 + 63 * k.toNat + 4 ≤ 2954 by omega, show 1212 + 378 * k.toNat + 24 ≤ 18600 by omega⟩ rfl rfl (Nat.le_of_ble_eq_true rfl) dL_base_461 (fun r461 w461 hp461 => ?_)
                  obtain ⟨rfl, hjw2⟩ := hp461
                  refine zz_widen (k' := 56 + 63 * k.toNat + 63) (n' := 1212 + 378 * k.toNat + 378) (show 56 + 63 * k.toNat + 4 ≤ 56 + 63 * k.toNat + 63 by omega) (show 1212 + 378 * k.toNat + 24 ≤ 1212 + 378 * k.toNat + 378 by omega) ?_
                  exact j464 hk9 xa ya wh _ hjw2
                · refine zz_aload_n hx dL_base_429 rfl ?_
                  refine zz_iload hx dL_base_430 rfl ?_
                  refine zz_iconst hx dL_base_432 ?_
                  refine zz_irem hx dL_base_433 (by omega) (by omega) (by omega) (by omega) ?_
                  refine zz_aload_n hx dL_base_434 rfl ?_
                  refine zz_aload hx dL_base_435 rfl ?_
                  refine zz_aload hx dL_base_437 rfl ?_
                  refine zz_callN hx hnc ms_L_erases lk_L_152 (l_erases hst hJ hC hU hG hN0 (xa % 3) (by omega)) ⟨rfl, rfl⟩ (by decide) ⟨show 56 + 63 * k.toNat + 63 ≤ 2954 by omega, show 1212 + 378 * k.toNat + 378 ≤ 18600 by omega⟩ rfl rfl (Nat.le_of_ble_eq_true rfl) dL_base_439 (fun r439 w439 hp439 => ?_)
                  obtain ⟨rfl, hjw2⟩ := hp439
                  refine zz_widen (k' := 56 + 63 * k.toNat + 63) (n' := 1212 + 378 * k.toNat + 378) (show 56 + 63 * k.toNat + 63 ≤ 56 + 63 * k.toNat + 63 by omega) (show 1212 + 378 * k.toNat + 378 ≤ 1212 + 378 * k.toNat + 378 by omega) ?_
                  refine zz_goto hx 464 dL_base_442 rfl ?_
                  exact j464 hk9 xa ya wh _ hjw2
              · refine zz_aload_n hx dL_base_403 rfl ?_
                refine zz_iload hx dL_base_404 rfl ?_
                refine zz_bipush hx dL_base_406 rfl ?_
                refine zz_irem hx dL_base_408 (by omega) (by omega) (by omega) (by omega) ?_
                refine zz_iconst hx dL_base_409 ?_
                refine zz_isub hx dL_base_410 ?_
                refine zz_aload_n hx dL_base_411 rfl ?_
                refine zz_aload hx dL_base_412 rfl ?_
                refine zz_aload hx dL_base_414 rfl ?_
                refine zz_callN hx hnc ms_L_modifies lk_L_148 (l_modifies hst hJ hC hU hG hN0 (ya % 9 - 2) (by omega)) ⟨rfl, rfl⟩ (by decide) ⟨show 56 + 63 * k.toNat + 3 ≤ 2954 by omega, show 1212 + 378 * k.toNat + 23 ≤ 18600 by omega⟩ rfl rfl (Nat.le_of_ble_eq_true rfl) dL_base_416 (fun r416 w416 hp416 => ?_)
                obtain ⟨rfl, hjw2⟩ := hp416
                refine zz_widen (k' := 56 + 63 * k.toNat + 63) (n' := 1212 + 378 * k.toNat + 378) (show 56 + 63 * k.toNat + 3 ≤ 56 + 63 * k.toNat + 63 by omega) (show 1212 + 378 * k.toNat + 23 ≤ 1212 + 378 * k.toNat + 378 by omega) ?_
                refine zz_goto hx 464 dL_base_419 rfl ?_
                exact j464 hk9 xa ya wh _ hjw2
            · refine zz_aload_n hx dL_base_379 rfl ?_
              refine zz_iconst hx dL_base_380 ?_
              refine zz_iload hx dL_base_381 rfl ?_
              refine zz_iload hx dL_base_383 rfl ?_
              refine zz_aload_n hx dL_base_385 rfl ?_
              refine zz_aload hx dL_base_386 rfl ?_
              refine zz_aload hx dL_base_388 rfl ?_
              refine zz_callSi hx ms_L_finds lk_L_144 (l_finds hst hJ hC hU hG hN0 0 xa ya (by omega) hx0 hy0) ⟨rfl, rfl⟩ (by decide) ⟨show 56 + 63 * k.toNat + 2 ≤ 2954 by omega, show 1212 + 378 * k.toNat + 17 ≤ 18600 by omega⟩ rfl rfl (Nat.le_of_ble_eq_true rfl) dL_base_390 (fun _ _ h => h.elim) (fun r390 w390 hp390 => ?_)
              obtain ⟨rfl, hjw2⟩ := hp390
              refine zz_widen (k' := 56 + 63 * k.toNat + 63) (n' := 1212 + 378 * k.toNat + 378) (show 56 + 63 * k.toNat + 2 ≤ 56 + 63 * k.toNat + 63 by omega) (show 1212 + 378 * k.toNat + 17 ≤ 1212 + 378 * k.toNat + 378 by omega) ?_
              refine zz_goto hx 464 dL_base_393 rfl ?_
              exact j464 hk9 xa ya wh _ hjw2
          · refine zz_aload_n hx dL_base_340 rfl ?_
            refine zz_iload hx dL_base_341 rfl ?_
            refine zz_bipush hx dL_base_343 rfl ?_
            refine zz_icmp_ge hx 356 dL_base_345 rfl (by omega) (by omega) (fun c345 => ?_) (fun c345 => ?_)
            · refine zz_iconst hx dL_base_356 ?_
              exact j357 _ (by omega)
            · refine zz_iload hx dL_base_348 rfl ?_
              refine zz_bipush hx dL_base_350 rfl ?_
              refine zz_isub hx dL_base_352 ?_
              refine zz_goto hx 357 dL_base_353 rfl ?_
              exact j357 _ (by omega)
        · refine zz_aload_n hx dL_base_317 rfl ?_
          refine zz_iload hx dL_base_318 rfl ?_
          refine zz_iload hx dL_base_320 rfl ?_
          refine zz_aload_n hx dL_base_322 rfl ?_
          refine zz_aload hx dL_base_323 rfl ?_
          refine zz_aload hx dL_base_325 rfl ?_
          refine zz_callN hx hnc ms_L_stores lk_L_140 (l_stores hst hJ hC hU hG hN0 xa ya hx0 hy0) ⟨rfl, rfl⟩ (by decide) ⟨show 56 + 63 * k.toNat + 7 ≤ 2954 by omega, show 1212 + 378 * k.toNat + 47 ≤ 18600 by omega⟩ rfl rfl (Nat.le_of_ble_eq_true rfl) dL_base_327 (fun r327 w327 hp327 => ?_)
          obtain ⟨rfl, hjw2⟩ := hp327
          refine zz_widen (k' := 56 + 63 * k.toNat + 63) (n' := 1212 + 378 * k.toNat + 378) (show 56 + 63 * k.toNat + 7 ≤ 56 + 63 * k.toNat + 63 by omega) (show 1212 + 378 * k.toNat + 47 ≤ 1212 + 378 * k.toNat + 378 by omega) ?_
          refine zz_goto hx 464 dL_base_330 rfl ?_
          exact j464 hk9 xa ya wh _ hjw2
      refine zz_iload hx dL_base_236 rfl ?_
      refine zz_bipush hx dL_base_238 rfl ?_
      refine zz_icmp_ge hx 496 dL_base_240 rfl (by omega) (by omega) (fun c240 => ?_) (fun c240 => ?_)
      · refine zz_iload hx dL_base_496 rfl ?_
        exact zz_zret hx hf dL_base_498 (Or.inr rfl) ⟨_, rfl, rfl⟩ (show 56 + 63 * k.toNat ≤ 2954 by omega) (show 1212 + 378 * k.toNat ≤ 18600 by omega)
      · refine zz_iload hx dL_base_243 rfl ?_
        refine zz_if_eq hx 496 dL_base_245 rfl (by decide) (fun z => absurd z (by decide)) (fun _ => ?_)
        refine zz_aload_n hx dL_base_248 rfl ?_
        refine zz_iload_n hx dL_base_249 rfl ?_
        refine zz_iconst hx dL_base_250 ?_
        refine zz_iload hx dL_base_251 rfl ?_
        refine zz_imul hx dL_base_253 ?_
        refine zz_iadd hx dL_base_254 ?_
        refine zz_bipush hx dL_base_255 rfl ?_
        refine zz_iadd hx dL_base_257 ?_
        refine zz_ldc (v := 1073741824) hx 1073741824 (zT_in 139 (by decide +kernel) rfl) (by decide +kernel) dL_base_258 ?_
        refine zz_callP hx hnc hsc ms_L_draw lk_L_132 (l_draw hst hL (fr + 3 * k + 9) 1073741824 (by omega) (by omega)) ⟨rfl, rfl⟩ (by decide) ⟨show 56 + 63 * k.toNat + 0 ≤ 2954 by omega, show 1212 + 378 * k.toNat + 0 ≤ 18600 by omega⟩ rfl rfl (Nat.le_of_ble_eq_true rfl) dL_base_260 (fun r260 w260 hp260 => ?_)
        obtain ⟨hr260, rfl⟩ := hp260
        refine zz_istore (lv' := [(0, _), (1, _), (2, _), (3, _), (4, _), (5, _), (6, _), (7, _), (8, _)]) hx dL_base_263 (by decide) rfl ?_
        refine zz_aload_n hx dL_base_265 rfl ?_
        refine zz_iload_n hx dL_base_266 rfl ?_
        refine zz_iconst hx dL_base_267 ?_
        refine zz_iload hx dL_base_268 rfl ?_
        refine zz_imul hx dL_base_270 ?_
        refine zz_iadd hx dL_base_271 ?_
        refine zz_bipush hx dL_base_272 rfl ?_
        refine zz_iadd hx dL_base_274 ?_
        refine zz_ldc (v := 1073741824) hx 1073741824 (zT_in 139 (by decide +kernel) rfl) (by decide +kernel) dL_base_275 ?_
        refine zz_callP hx hnc hsc ms_L_draw lk_L_132 (l_draw hst hL (fr + 3 * k + 10) 1073741824 (by omega) (by omega)) ⟨rfl, rfl⟩ (by decide) ⟨show 56 + 63 * k.toNat + 0 ≤ 2954 by omega, show 1212 + 378 * k.toNat + 0 ≤ 18600 by omega⟩ rfl rfl (Nat.le_of_ble_eq_true rfl) dL_base_277 (fun r277 w277 hp277 => ?_)
        obtain ⟨hr277, rfl⟩ := hp277
        refine zz_istore (lv' := [(0, _), (1, _), (2, _), (3, _), (4, _), (5, _), (6, _), (7, _), (8, _), (9, _)]) hx dL_base_280 (by decide) rfl ?_
        refine zz_iload hx dL_base_282 rfl ?_
        refine zz_bipush hx dL_base_284 rfl ?_
        refine zz_icmp_ge hx 293 dL_base_286 rfl (by omega) (by omega) (fun c286 => ?_) (fun c286 => ?_)
        · refine zz_aload_n hx dL_base_293 rfl ?_
          refine zz_iload_n hx dL_base_294 rfl ?_
          refine zz_iconst hx dL_base_295 ?_
          refine zz_iload hx dL_base_296 rfl ?_
          refine zz_imul hx dL_base_298 ?_
          refine zz_iadd hx dL_base_299 ?_
          refine zz_bipush hx dL_base_300 rfl ?_
          refine zz_iadd hx dL_base_302 ?_
          refine zz_bipush hx dL_base_303 rfl ?_
          refine zz_callP hx hnc hsc ms_L_draw lk_L_132 (l_draw hst hL (fr + 3 * k + 8) 24 (by omega) (by omega)) ⟨rfl, rfl⟩ (by decide) ⟨show 56 + 63 * k.toNat + 0 ≤ 2954 by omega, show 1212 + 378 * k.toNat + 0 ≤ 18600 by omega⟩ rfl rfl (Nat.le_of_ble_eq_true rfl) dL_base_305 (fun r305 w305 hp305 => ?_)
          obtain ⟨hr305, rfl⟩ := hp305
          exact j308 (by omega) _ _ _ hr260 hr277 (by omega)
        · refine zz_iconst hx dL_base_289 ?_
          refine zz_goto hx 308 dL_base_290 rfl ?_
          exact j308 (by omega) _ _ _ hr260 hr277 (by omega)
  have loopD : ∀ (n N : Nat) (kk : Int) (b : Nat → Nat) (c : Int → Nat → Nat) (I : Nat → Int) (Q : Nat → Int → Int) (P : Int → Nat → Int) (T : Int → Nat → Int → Int) (ow : Int → Int → Int) (isO : Int → Int → Prop) (L : Int → List Int) (Gr C : Int → Int), kk = (N : Int) → J I Q P T N ow isO L → I 0 = 0 → kC I N C → kU Q (fun _ => 0) → kG P N Gr → (N = 0 → b 13 = g.2.2.2.2.2) → N ≤ 4 → 4 - N < n → Z l g ({ frames := 11, cells := 2954, slots := 18600, locals := 239 } : Room) 11 x (16 + 10 * N) (356 + 214 * N) (wD g b c I Q P T N (rA g q10 30 Gr :: rA g q15 60 (fun _ => 0) :: rA g q20 3 C :: [])) 30 [(0, .ref bS), (1, vi fr), (2, .ref (b 0)), (3, .ref q10), (4, .ref q15), (5, .ref q20), (6, vi 1), (7, vi kk)] [] := by
    intro n
    induction n with
    | zero => intro N kk b c I Q P T ow isO L Gr C hkk hJ h00 hC hU hG hb hN4 hm; omega
    | succ n ih =>
      intro N kk b c I Q P T ow isO L Gr C hkk hJ h00 hC hU hG hb hN4 hm
      have hI := hJ.1
      obtain ⟨hc0, hc1, hc2⟩ := id hC
      have j135 : kk < 4 → ∀ r45 r61 z : Int, (0 ≤ r45 ∧ r45 < 1073741824) → (0 ≤ r61 ∧ r61 < 1073741824) → (z = 0 ∨ z = 1) → Z l g ({ frames := 11, cells := 2954, slots := 18600, locals := 239 } : Room) 11 x (16 + 10 * N) (356 + 214 * N) (wD g b c I Q P T N (rA g q10 30 (zup (zup (zup Gr (5 * kk) (r45 % 4)) (5 * kk + 1) ((r45 + 1 + r45 / 4 % 3) % 4)) (5 * kk + 2) (r61 % 5)) :: rA g q15 60 (fun _ => 0) :: rA g q20 3 C :: [])) 135 [(0, .ref bS), (1, vi fr), (2, .ref (b 0)), (3, .ref q10), (4, .ref q15), (5, .ref q20), (6, vi 1), (7, vi kk), (8, vi r45), (9, vi r61)] [vi z, vi (5 * kk + 3), .ref q10] := by
        intro hk4 r45 r61 z hx9 hy9 hz9
        have hA9 : (0 ≤ (r45 % 4) ∧ (r45 % 4) ≤ 3) ∧ (0 ≤ ((r45 + 1 + r45 / 4 % 3) % 4) ∧ ((r45 + 1 + r45 / 4 % 3) % 4) ≤ 3) ∧ (0 ≤ (r61 % 5) ∧ (r61 % 5) ≤ 4) ∧ (0 ≤ (r61 / 15 % 3) ∧ (r61 / 15 % 3) ≤ 2) ∧ (r45 % 4) ≠ ((r45 + 1 + r45 / 4 % 3) % 4) := by omega
        refine zr_st0 hx (by decide) (by omega) (by omega) dL_base_135 ?_
        refine zz_aload_n hx dL_base_136 rfl ?_
        refine zz_iconst hx dL_base_137 ?_
        refine zz_iload hx dL_base_138 rfl ?_
        refine zz_imul hx dL_base_140 ?_
        refine zz_iconst hx dL_base_141 ?_
        refine zz_iadd hx dL_base_142 ?_
        refine zz_iload hx dL_base_143 rfl ?_
        refine zz_bipush hx dL_base_145 rfl ?_
        refine zz_idiv hx dL_base_147 (by omega) (by omega) (by omega) (by omega) ?_
        refine zz_iconst hx dL_base_148 ?_
        refine zz_irem hx dL_base_149 (by omega) (by omega) (by omega) (by omega) ?_
        refine zr_st0 hx (by decide) (by omega) (by omega) dL_base_150 ?_
        have hG5 : ((zup (zup (zup (zup (zup Gr (5 * kk) (r45 % 4)) (5 * kk + 1) ((r45 + 1 + r45 / 4 % 3) % 4)) (5 * kk + 2) (r61 % 5)) (5 * kk + 3) z) (5 * kk + 4) (r61 / 15 % 3)) (5 * kk) = (r45 % 4) ∧ (zup (zup (zup (zup (zup Gr (5 * kk) (r45 % 4)) (5 * kk + 1) ((r45 + 1 + r45 / 4 % 3) % 4)) (5 * kk + 2) (r61 % 5)) (5 * kk + 3) z) (5 * kk + 4) (r61 / 15 % 3)) (5 * kk + 1) = ((r45 + 1 + r45 / 4 % 3) % 4) ∧ (zup (zup (zup (zup (zup Gr (5 * kk) (r45 % 4)) (5 * kk + 1) ((r45 + 1 + r45 / 4 % 3) % 4)) (5 * kk + 2) (r61 % 5)) (5 * kk + 3) z) (5 * kk + 4) (r61 / 15 % 3)) (5 * kk + 2) = (r61 % 5) ∧ (zup (zup (zup (zup (zup Gr (5 * kk) (r45 % 4)) (5 * kk + 1) ((r45 + 1 + r45 / 4 % 3) % 4)) (5 * kk + 2) (r61 % 5)) (5 * kk + 3) z) (5 * kk + 4) (r61 / 15 % 3)) (5 * kk + 3) = z ∧ (zup (zup (zup (zup (zup Gr (5 * kk) (r45 % 4)) (5 * kk + 1) ((r45 + 1 + r45 / 4 % 3) % 4)) (5 * kk + 2) (r61 % 5)) (5 * kk + 3) z) (5 * kk + 4) (r61 / 15 % 3)) (5 * kk + 4) = (r61 / 15 % 3)) ∧ ∀ i : Int, i < 5 * kk → (zup (zup (zup (zup (zup Gr (5 * kk) (r45 % 4)) (5 * kk + 1) ((r45 + 1 + r45 / 4 % 3) % 4)) (5 * kk + 2) (r61 % 5)) (5 * kk + 3) z) (5 * kk + 4) (r61 / 15 % 3)) i = Gr i := by
          refine ⟨⟨?_, ?_, ?_, ?_, ?_⟩, fun i hi => ?_⟩
          all_goals (repeat (first | rw [zup_s] | rw [zup_n _ _ (by omega)]))
        generalize (zup (zup (zup (zup (zup Gr (5 * kk) (r45 % 4)) (5 * kk + 1) ((r45 + 1 + r45 / 4 % 3) % 4)) (5 * kk + 2) (r61 % 5)) (5 * kk + 3) z) (5 * kk + 4) (r61 / 15 % 3)) = Gr1 at *
        refine zz_aload hx dL_base_151 rfl ?_
        refine zz_iconst hx dL_base_153 ?_
        refine zz_dup2 hx dL_base_154 rfl rfl ?_
        refine zr_ld hx 2 rfl (by decide) (by omega) (by omega) dL_base_155 ?_
        refine zz_iconst hx dL_base_156 ?_
        refine zz_iadd hx dL_base_157 ?_
        refine zr_st2 hx (by decide) (by omega) (by omega) dL_base_158 ?_
        have j204 : Z l g ({ frames := 11, cells := 2954, slots := 18600, locals := 239 } : Room) 11 x (16 + 10 * N) (356 + 214 * N) (wD g b c I Q P T N (rA g q10 30 Gr1 :: rA g q15 60 (fun _ => 0) :: rA g q20 3 (zup C 0 (C 0 + 1)) :: [])) 204 [(0, .ref bS), (1, vi fr), (2, .ref (b 0)), (3, .ref q10), (4, .ref q15), (5, .ref q20), (6, vi 1), (7, vi kk), (8, vi r45), (9, vi r61)] [vi z, vi (r61 % 5), vi ((r45 + 1 + r45 / 4 % 3) % 4), vi (r45 % 4), .ref (b 0)] := by
          refine zz_aload_n hx dL_base_204 rfl ?_
          refine zz_iconst hx dL_base_205 ?_
          refine zz_iload hx dL_base_206 rfl ?_
          refine zz_imul hx dL_base_208 ?_
          refine zz_iconst hx dL_base_209 ?_
          refine zz_iadd hx dL_base_210 ?_
          refine zr_ld hx 0 rfl (by decide) (by omega) (by omega) dL_base_211 ?_
          rw [hG5.1.2.2.2.2]
          refine zz_callVi hx me_X3_declare lk_L_136 (k_X3_declare hst hI hb (r45 % 4) (by omega) ((r45 + 1 + r45 / 4 % 3) % 4) (by omega) (r61 % 5) (by omega) (r61 / 15 % 3) (by omega) z hz9) 0 rfl rfl ⟨rfl, rfl⟩ (by decide) ⟨show 16 + 10 * N + 10 ≤ 2954 by omega, show 356 + 214 * N + 214 ≤ 18600 by omega⟩ rfl rfl (Nat.le_of_ble_eq_true rfl) dL_base_212 (fun E9 w9 hX9 => by obtain ⟨-, z9 | z9⟩ := hX9; exact absurd hA9 z9.2; exact absurd ⟨by omega, by omega⟩ z9.2.2) (fun r212 w212 hp212 => ?_)
          obtain ⟨-, -, rfl, b1, cN, hb1, rfl⟩ := hp212
          refine zz_iload hx dL_base_215 rfl ?_
          refine zz_icmp_ne hx 224 dL_base_217 rfl (by omega) (by omega) (fun c217 => ?_) (fun c217 => ?_)
          · omega
          · refine zz_iconst hx dL_base_220 ?_
            refine zz_goto hx 225 dL_base_221 rfl ?_
            refine zz_istore (lv' := [(0, _), (1, _), (2, _), (3, _), (4, _), (5, _), (6, _), (7, _), (8, _), (9, _)]) hx dL_base_225 (by decide) rfl ?_
            refine zz_iinc (lv' := [(0, _), (1, _), (2, _), (3, _), (4, _), (5, _), (6, _), (7, _), (8, _), (9, _)]) hx dL_base_227 (by decide) rfl rfl ?_
            refine zz_goto hx 30 dL_base_230 rfl ?_
            have e10 : b1 0 = b 0 := hb1 0 (by decide)
            rw [← e10]
            refine zz_sub (lv' := [(0, _), (1, _), (2, _), (3, _), (4, _), (5, _), (6, _), (7, _)]) (by first | exact fun q9 hq9 => hq9 | exact fun q9 hq9 => List.mem_append_left [_] hq9 | exact fun q9 hq9 => List.mem_append_left [_, _] hq9 | exact fun q9 hq9 => List.mem_append_left [_, _, _] hq9 | exact fun q9 hq9 => List.mem_append_left [_, _, _, _] hq9 | exact fun q9 hq9 => List.mem_append_left [_, _, _, _, _] hq9 | exact fun q9 hq9 => List.mem_append_left [_, _, _, _, _, _] hq9 | exact fun q9 hq9 => List.mem_append_left [_, _, _, _, _, _, _] hq9 | exact fun q9 hq9 => List.mem_append_left [_, _, _, _, _, _, _, _] hq9) ?_
            have hJ2 := J_dec hJ h00 hA9 hz9 (by omega)
            refine zz_widen (k' := 16 + 10 * (N + 1)) (n' := 356 + 214 * (N + 1)) (show 16 + 10 * N + 0 + 0 + 10 ≤ 16 + 10 * (N + 1) by omega) (show 356 + 214 * N + 0 + 0 + 214 ≤ 356 + 214 * (N + 1) by omega) ?_
            refine ih (N + 1) (kk + 1) _ _ _ _ _ _ _ _ _ _ _ (by omega) hJ2 h00 ⟨by rw [zup_s, hc0]; omega, by rw [zup_n _ _ (by decide)]; exact hc1, by rw [zup_n _ _ (by decide)]; exact hc2⟩ hU (fun s s0 s1 => ?_) (fun z9 => absurd z9 (by omega)) (by omega) (by omega)
            by_cases e9 : s = (N : Int)
            · rw [e9, upI_s, ← hkk]
              exact ⟨hG5.1.1, hG5.1.2.1, hG5.1.2.2.1, hG5.1.2.2.2.1, hG5.1.2.2.2.2⟩
            · rw [upI_n _ _ e9, hG5.2 _ (by omega), hG5.2 _ (by omega), hG5.2 _ (by omega), hG5.2 _ (by omega), hG5.2 _ (by omega)]
              exact hG s s0 (by omega)
        refine zz_iload hx dL_base_159 rfl ?_
        refine zz_if_eq hx 224 dL_base_161 rfl (by decide) (fun z => absurd z (by decide)) (fun _ => ?_)
        refine zz_aload_n hx dL_base_164 rfl ?_
        refine zz_aload_n hx dL_base_165 rfl ?_
        refine zz_iconst hx dL_base_166 ?_
        refine zz_iload hx dL_base_167 rfl ?_
        refine zz_imul hx dL_base_169 ?_
        refine zr_ld hx 0 rfl (by decide) (by omega) (by omega) dL_base_170 ?_
        rw [hG5.1.1]
        refine zz_aload_n hx dL_base_171 rfl ?_
        refine zz_iconst hx dL_base_172 ?_
        refine zz_iload hx dL_base_173 rfl ?_
        refine zz_imul hx dL_base_175 ?_
        refine zz_iconst hx dL_base_176 ?_
        refine zz_iadd hx dL_base_177 ?_
        refine zr_ld hx 0 rfl (by decide) (by omega) (by omega) dL_base_178 ?_
        rw [hG5.1.2.1]
        refine zz_aload_n hx dL_base_179 rfl ?_
        refine zz_iconst hx dL_base_180 ?_
        refine zz_iload hx dL_base_181 rfl ?_
        refine zz_imul hx dL_base_183 ?_
        refine zz_iconst hx dL_base_184 ?_
        refine zz_iadd hx dL_base_185 ?_
        refine zr_ld hx 0 rfl (by decide) (by omega) (by omega) dL_base_186 ?_
        rw [hG5.1.2.2.1]
        refine zz_aload_n hx dL_base_187 rfl ?_
        refine zz_iconst hx dL_base_188 ?_
        refine zz_iload hx dL_base_189 rfl ?_
        refine zz_imul hx dL_base_191 ?_
        refine zz_iconst hx dL_base_192 ?_
        refine zz_iadd hx dL_base_193 ?_
        refine zr_ld hx 0 rfl (by decide) (by omega) (by omega) dL_base_194 ?_
        rw [hG5.1.2.2.2.1]
        refine zz_iconst hx dL_base_195 ?_
        refine zz_icmp_ne hx 203 dL_base_196 rfl (by omega) (by omega) (fun c196 => ?_) (fun c196 => ?_)
        · refine zz_iconst hx dL_base_203 ?_
          first
            | exact zz_eq rfl (by rw [show z = 1 by omega]) j204
            | exact zz_eq rfl (by rw [show z = 0 by omega]) j204
        · refine zz_iconst hx dL_base_199 ?_
          refine zz_goto hx 204 dL_base_200 rfl ?_
          first
            | exact zz_eq rfl (by rw [show z = 1 by omega]) j204
            | exact zz_eq rfl (by rw [show z = 0 by omega]) j204
      refine zz_iload hx dL_base_30 rfl ?_
      refine zz_iconst hx dL_base_32 ?_
      refine zz_icmp_ge hx 233 dL_base_33 rfl (by omega) (by omega) (fun c33 => ?_) (fun c33 => ?_)
      · refine zz_widen (k' := 56 + 63 * (0 : Int).toNat) (n' := 1212 + 378 * (0 : Int).toNat) (show 16 + 10 * N ≤ 56 + 63 * (0 : Int).toNat by omega) (show 356 + 214 * N ≤ 1212 + 378 * (0 : Int).toNat by omega) ?_
        refine zz_iconst hx dL_base_233 ?_
        refine zz_istore (lv' := [(0, _), (1, _), (2, _), (3, _), (4, _), (5, _), (6, _), (7, _)]) hx dL_base_234 (by decide) rfl ?_
        exact loopM b c N Gr (by omega) 47 0 _ (by omega) (by omega) ⟨I, Q, P, T, ow, isO, L, _, C, rfl, hJ, hC, hU, hG⟩ (by omega)
      · refine zz_aload_n hx dL_base_36 rfl ?_
        refine zz_iload_n hx dL_base_37 rfl ?_
        refine zz_iconst hx dL_base_38 ?_
        refine zz_iload hx dL_base_39 rfl ?_
        refine zz_imul hx dL_base_41 ?_
        refine zz_iadd hx dL_base_42 ?_
        refine zz_ldc (v := 1073741824) hx 1073741824 (zT_in 139 (by decide +kernel) rfl) (by decide +kernel) dL_base_43 ?_
        refine zz_callP hx hnc hsc ms_L_draw lk_L_132 (l_draw hst hL (fr + 2 * kk) 1073741824 (by omega) (by omega)) ⟨rfl, rfl⟩ (by decide) ⟨show 16 + 10 * N + 0 ≤ 2954 by omega, show 356 + 214 * N + 0 ≤ 18600 by omega⟩ rfl rfl (Nat.le_of_ble_eq_true rfl) dL_base_45 (fun r45 w45 hp45 => ?_)
        obtain ⟨hr45, rfl⟩ := hp45
        refine zz_istore (lv' := [(0, _), (1, _), (2, _), (3, _), (4, _), (5, _), (6, _), (7, _), (8, _)]) hx dL_base_48 (by decide) rfl ?_
        refine zz_aload_n hx dL_base_50 rfl ?_
        refine zz_iload_n hx dL_base_51 rfl ?_
        refine zz_iconst hx dL_base_52 ?_
        refine zz_iload hx dL_base_53 rfl ?_
        refine zz_imul hx dL_base_55 ?_
        refine zz_iadd hx dL_base_56 ?_
        refine zz_iconst hx dL_base_57 ?_
        refine zz_iadd hx dL_base_58 ?_
        refine zz_ldc (v := 1073741824) hx 1073741824 (zT_in 139 (by decide +kernel) rfl) (by decide +kernel) dL_base_59 ?_
        refine zz_callP hx hnc hsc ms_L_draw lk_L_132 (l_draw hst hL (fr + 2 * kk + 1) 1073741824 (by omega) (by omega)) ⟨rfl, rfl⟩ (by decide) ⟨show 16 + 10 * N + 0 ≤ 2954 by omega, show 356 + 214 * N + 0 ≤ 18600 by omega⟩ rfl rfl (Nat.le_of_ble_eq_true rfl) dL_base_61 (fun r61 w61 hp61 => ?_)
        obtain ⟨hr61, rfl⟩ := hp61
        refine zz_istore (lv' := [(0, _), (1, _), (2, _), (3, _), (4, _), (5, _), (6, _), (7, _), (8, _), (9, _)]) hx dL_base_64 (by decide) rfl ?_
        refine zz_aload_n hx dL_base_66 rfl ?_
        refine zz_iconst hx dL_base_67 ?_
        refine zz_iload hx dL_base_68 rfl ?_
        refine zz_imul hx dL_base_70 ?_
        refine zz_iload hx dL_base_71 rfl ?_
        refine zz_iconst hx dL_base_73 ?_
        refine zz_irem hx dL_base_74 (by omega) (by omega) (by omega) (by omega) ?_
        refine zr_st0 hx (by decide) (by omega) (by omega) dL_base_75 ?_
        refine zz_aload_n hx dL_base_76 rfl ?_
        refine zz_iconst hx dL_base_77 ?_
        refine zz_iload hx dL_base_78 rfl ?_
        refine zz_imul hx dL_base_80 ?_
        refine zz_iconst hx dL_base_81 ?_
        refine zz_iadd hx dL_base_82 ?_
        refine zz_iload hx dL_base_83 rfl ?_
        refine zz_iconst hx dL_base_85 ?_
        refine zz_iadd hx dL_base_86 ?_
        refine zz_iload hx dL_base_87 rfl ?_
        refine zz_iconst hx dL_base_89 ?_
        refine zz_idiv hx dL_base_90 (by omega) (by omega) (by omega) (by omega) ?_
        refine zz_iconst hx dL_base_91 ?_
        refine zz_irem hx dL_base_92 (by omega) (by omega) (by omega) (by omega) ?_
        refine zz_iadd hx dL_base_93 ?_
        refine zz_iconst hx dL_base_94 ?_
        refine zz_irem hx dL_base_95 (by omega) (by omega) (by omega) (by omega) ?_
        refine zr_st0 hx (by decide) (by omega) (by omega) dL_base_96 ?_
        refine zz_aload_n hx dL_base_97 rfl ?_
        refine zz_iconst hx dL_base_98 ?_
        refine zz_iload hx dL_base_99 rfl ?_
        refine zz_imul hx dL_base_101 ?_
        refine zz_iconst hx dL_base_102 ?_
        refine zz_iadd hx dL_base_103 ?_
        refine zz_iload hx dL_base_104 rfl ?_
        refine zz_iconst hx dL_base_106 ?_
        refine zz_irem hx dL_base_107 (by omega) (by omega) (by omega) (by omega) ?_
        refine zr_st0 hx (by decide) (by omega) (by omega) dL_base_108 ?_
        refine zz_aload_n hx dL_base_109 rfl ?_
        refine zz_iconst hx dL_base_110 ?_
        refine zz_iload hx dL_base_111 rfl ?_
        refine zz_imul hx dL_base_113 ?_
        refine zz_iconst hx dL_base_114 ?_
        refine zz_iadd hx dL_base_115 ?_
        refine zz_iload hx dL_base_116 rfl ?_
        refine zz_if_le hx 134 dL_base_118 rfl (by omega) (fun c118 => ?_) (fun c118 => ?_)
        · refine zz_iconst hx dL_base_134 ?_
          exact j135 (by omega) _ _ _ hr45 hr61 (by omega)
        · refine zz_iload hx dL_base_121 rfl ?_
          refine zz_iconst hx dL_base_123 ?_
          refine zz_idiv hx dL_base_124 (by omega) (by omega) (by omega) (by omega) ?_
          refine zz_iconst hx dL_base_125 ?_
          refine zz_irem hx dL_base_126 (by omega) (by omega) (by omega) (by omega) ?_
          refine zz_if_ne hx 134 dL_base_127 rfl (by omega) (fun c127 => ?_) (fun c127 => ?_)
          · refine zz_iconst hx dL_base_134 ?_
            exact j135 (by omega) _ _ _ hr45 hr61 (by omega)
          · refine zz_iconst hx dL_base_130 ?_
            refine zz_goto hx 135 dL_base_131 rfl ?_
            exact j135 (by omega) _ _ _ hr45 hr61 (by omega)
  refine zz_iconst hx dL_base_24 ?_
  refine zz_istore (lv' := [(0, _), (1, _), (2, _), (3, _), (4, _), (5, _), (6, _)]) hx dL_base_25 (by decide) rfl ?_
  refine zz_iconst hx dL_base_27 ?_
  refine zz_istore (lv' := [(0, _), (1, _), (2, _), (3, _), (4, _), (5, _), (6, _), (7, _)]) hx dL_base_28 (by decide) rfl ?_
  exact loopD 5 0 0 b _ _ _ _ _ (fun _ _ => 0) (fun _ _ => False) (fun _ => []) _ _ rfl J_0 rfl ⟨rfl, rfl, rfl⟩ (fun k k0 k1 => Or.inl ⟨rfl, rowF_in k0 (show k < ((60 : Nat) : Int) from k1)⟩) (fun s s0 s1 => absurd s1 (by omega)) (fun _ => e13) (by decide) (by decide)
