set_option maxHeartbeats 4000000 in
set_option maxRecDepth 100000 in
theorem c_erase {l : Launch} {g : zG} {a : Nat → Nat} {F : Nat → Int} {G : Nat → Int → Int} {rest : va_W} (hst : l.stackTraces = false) {Rw : Int → List Int} (h : mI F G Rw) (y : Int) (hy : -2147483648 ≤ y ∧ y < 2147483648) : zM l g yX4_erase cX4_erase 6 (Option.some FieldType.int) ({ frames := 2, cells := 0, slots := 0, locals := 46 } : Room) [.ref (a 0), vi y] (mW g a F G rest) (zI fun v w => (¬ (0 ≤ y ∧ y ≤ 2) ∧ w = mW g a (Fup F 18 1) G rest) ∨ ((0 ≤ y ∧ y ≤ 2) ∧ (F 14 = -1 ∨ (F 14 ≠ -1 ∧ y = 0 ∧ ∃ s u : Int, 0 ≤ s ∧ s < 6 ∧ 0 ≤ u ∧ u < 60 ∧ G 11 (60 * s + u) = F 14)) ∧ ∃ f : Int → Int, w = mW g a (Fup F 18 2) (Gset G 17 f) rest) ∨ ((0 ≤ y ∧ y ≤ 2) ∧ F 14 ≠ -1 ∧ (y = 0 → ∀ s u : Int, 0 ≤ s → s < 6 → 0 ≤ u → u < 60 → G 11 (60 * s + u) ≠ F 14) ∧ ∃ (M : List Int) (G1 : Nat → Int → Int) (Rw1 : Int → List Int), (M.Nodup ∧ (∀ q ∈ M, 0 ≤ q ∧ q < 60) ∧ (∀ q : Int, q ∈ M ↔ gCl G (F 14) y q)) ∧ v = (M.length : Int) ∧ eraO F G Rw M G1 Rw1 ∧ w = mW g a (Fup (eraF F (M.length : Int)) 18 0) G1 rest)) zN 0 0 := by
  have hF0 := h.1.1
  have hF6 := h.1.2.1
  have hrn := h.2.1
  refine zM_of (lv0 := [(0, _), (1, _)]) hst rfl (by decide +kernel) (Nat.le_of_ble_eq_true rfl) rfl (fun x hx hf hn => ?_)
  have last : ∀ M : List Int, (M.Nodup ∧ (∀ q ∈ M, 0 ≤ q ∧ q < 60) ∧ (∀ q : Int, q ∈ M ↔ gCl G (F 14) y q)) → F 14 ≠ -1 → (0 ≤ y ∧ y ≤ 2) → (y = 0 → ∀ s u : Int, 0 ≤ s → s < 6 → 0 ≤ u → u < 60 → G 11 (60 * s + u) ≠ F 14) → ∀ (m : Nat) (k : Int) (G1 : Nat → Int → Int) (Rw1 : Int → List Int) (v4 : List (Nat × Value)), 0 ≤ k → k ≤ F 6 → ((∀ j : Nat, j ≠ 8 → j ≠ 11 → j ≠ 12 → j ≠ 13 → j ≠ 15 → j ≠ 16 → j ≠ 17 → G1 j = G j) ∧ (∀ q : Int, 0 ≤ q → q < 60 → G1 17 q = zin q M) ∧ (∀ t u : Int, 0 ≤ t → t < 6 → 0 ≤ u → u < 60 → G1 11 (60 * t + u) = if u ∈ M ∨ G 11 (60 * t + u) ∈ M then -1 else G 11 (60 * t + u)) ∧ (∀ t : Int, 0 ≤ t → t < 6 → Rw1 t = erL G M t (F 6) (Rw t)) ∧ (∀ t : Int, 0 ≤ t → t < 6 → G1 16 t = erD G M t) ∧ sRow G1 Rw1) → (∀ t : Int, 0 ≤ t → t < 4 → G1 15 t = if G 15 t ∈ M then -1 else G 15 t) → (∀ u : Int, 0 ≤ u → u < F 6 → G1 8 u = if u < k ∧ u ∈ M then 0 else G 8 u) → (F 6 - k).toNat < m → Z l g ({ frames := 2, cells := 0, slots := 0, locals := 46 } : Room) 6 x 0 0 (mW g a (Fup F 18 0) G1 rest) 266 ([(0, .ref (a 0)), (1, vi y), (2, vi (M.length : Int)), (3, vi k)] ++ v4) [] := by
    intro M hML hne hw0 hno
    obtain ⟨n1, n2, n3⟩ := id hML
    intro m
    induction m with
    | zero => intro k G1 Rw1 v4 h0 h1 hi h15 h8 hm; omega
    | succ m ih =>
      intro k G1 Rw1 v4 h0 h1 hi h15 h8 hm
      refine zz_sub (lv' := [(0, .ref (a 0)), (1, vi y), (2, vi (M.length : Int)), (3, vi k)]) (fun q hq => List.mem_append_left _ hq) ?_
      obtain ⟨m1, m3, m4, m5, m6, m7⟩ := id hi
      have h8k := fun z : k < F 6 => h8 k h0 z
      have hvk := fun z : k < F 6 => h.1.2.2.2.1 k h0 z
      have m3k := fun z : k < F 6 => m3 k h0 (by omega)
      refine zz_iload_n hx dX4_erase_266 rfl ?_
      refine zz_aload_n hx dX4_erase_267 rfl ?_
      refine zm_g6 hx lf_X4_67 dX4_erase_268 ?_
      try rw [show (Fup F 18 0) 6 = F 6 from rfl]
      refine zz_icmp_ge hx 309 dX4_erase_271 rfl (by omega) (by omega) (fun c271 => ?_) (fun c271 => ?_)
      · refine zz_aload_n hx dX4_erase_309 rfl ?_
        refine zz_iconst hx dX4_erase_310 ?_
        refine zm_p14 hx lf_X4_53 dX4_erase_311 ?_
        refine zz_aload_n hx dX4_erase_314 rfl ?_
        refine zz_dup hx dX4_erase_315 rfl ?_
        refine zm_g7 hx lf_X4_85 dX4_erase_316 ?_
        try rw [show (Fup F 18 0) 7 = F 7 from rfl]
        refine zz_iload_n hx dX4_erase_319 rfl ?_
        refine zz_isub hx dX4_erase_320 ?_
        refine zm_p7 hx lf_X4_85 dX4_erase_321 ?_
        refine zz_iload_n hx dX4_erase_324 rfl ?_
        exact zz_iret hx hf dX4_erase_325 ⟨_, rfl, Or.inr (Or.inr ⟨hw0, hne, hno, M, G1, Rw1, hML, rfl, ⟨m1, m4, m5, m6, h15, fun u u0 u1 => by rw [h8 u u0 u1]; by_cases c2 : u ∈ M; (rw [if_pos ⟨by omega, c2⟩, if_pos c2]); (rw [if_neg (fun z9 => c2 z9.2), if_neg c2]), m7⟩, by rw [show Fup (Fup (Fup F 18 0) 14 (-1)) 7 (Fup (Fup F 18 0) 14 (-1) 7 - (M.length : Int)) = Fup (eraF F (M.length : Int)) 18 0 from eraF_18 F _]⟩)⟩ (by decide) (by decide)
      · refine zz_aload_n hx dX4_erase_274 rfl ?_
        refine zm_g8 hx lf_X4_26 dX4_erase_275 ?_
        refine zz_iload_n hx dX4_erase_278 rfl ?_
        refine zz_aload_n hx dX4_erase_279 rfl ?_
        refine zm_g8 hx lf_X4_26 dX4_erase_280 ?_
        refine zz_iload_n hx dX4_erase_283 rfl ?_
        refine zm_l8 hx dX4_erase_284 (by omega) (by omega) ?_
        have h8k2 := h8k (by omega)
        rw [if_neg (fun z9 => by omega)] at h8k2
        have hvk2 := hvk (by omega)
        rw [h8k2]
        refine zz_if_eq hx 301 dX4_erase_285 rfl (by omega) (fun c285 => ?_) (fun c285 => ?_)
        · refine zz_iconst hx dX4_erase_301 ?_
          refine zm_s8 hx dX4_erase_302 (by omega) (by omega) (by omega) ?_
          refine zz_iinc (lv' := [(0, _), (1, _), (2, _), (3, _)]) hx dX4_erase_303 (by decide) rfl rfl ?_
          refine zz_goto hx 266 dX4_erase_306 rfl ?_
          refine ih (k + 1) _ Rw1 [] (by omega) (by omega) ⟨fun j a1 a2 a3 a4 a5 a6 a7 => ?_, m3, m4, m5, m6, m7⟩ h15 (fun u u0 u1 => ?_) (by omega)
          · rw [Gup_n _ _ _ a1]; exact m1 j a1 a2 a3 a4 a5 a6 a7
          · rw [Gup_s]
            by_cases cu : u = k
            · subst cu
              rw [zup_s]
              have hz := zin_01 u M
              first
                | (rw [if_pos ⟨by omega, by first | assumption | exact zin_1.mp (by omega)⟩]; done)
                | (rw [if_neg (fun z9 => (zin_0.mp (show zin u M = 0 by omega)) z9.2)]; omega)
                | (split <;> omega)
            · rw [zup_n _ _ cu, h8 u u0 u1]
              by_cases c2 : u < k ∧ u ∈ M
              · rw [if_pos c2, if_pos ⟨by omega, c2.2⟩]
              · rw [if_neg c2, if_neg (fun z9 => c2 ⟨by omega, z9.2⟩)]
        · refine zz_aload_n hx dX4_erase_288 rfl ?_
          refine zm_g17 hx lf_X4_50 dX4_erase_289 ?_
          refine zz_iload_n hx dX4_erase_292 rfl ?_
          refine zm_l17 hx dX4_erase_293 (by omega) (by omega) ?_
          have m3k2 := m3k (by omega)
          rw [m3k2]
          refine zz_if_ne hx 301 dX4_erase_294 rfl (by have := zin_01 k M; omega) (fun c294 => ?_) (fun c294 => ?_)
          · refine zz_iconst hx dX4_erase_301 ?_
            refine zm_s8 hx dX4_erase_302 (by omega) (by omega) (by omega) ?_
            refine zz_iinc (lv' := [(0, _), (1, _), (2, _), (3, _)]) hx dX4_erase_303 (by decide) rfl rfl ?_
            refine zz_goto hx 266 dX4_erase_306 rfl ?_
            refine ih (k + 1) _ Rw1 [] (by omega) (by omega) ⟨fun j a1 a2 a3 a4 a5 a6 a7 => ?_, m3, m4, m5, m6, m7⟩ h15 (fun u u0 u1 => ?_) (by omega)
            · rw [Gup_n _ _ _ a1]; exact m1 j a1 a2 a3 a4 a5 a6 a7
            · rw [Gup_s]
              by_cases cu : u = k
              · subst cu
                rw [zup_s]
                have hz := zin_01 u M
                first
                  | (rw [if_pos ⟨by omega, by first | assumption | exact zin_1.mp (by omega)⟩]; done)
                  | (rw [if_neg (fun z9 => (zin_0.mp (show zin u M = 0 by omega)) z9.2)]; omega)
                  | (split <;> omega)
              · rw [zup_n _ _ cu, h8 u u0 u1]
                by_cases c2 : u < k ∧ u ∈ M
                · rw [if_pos c2, if_pos ⟨by omega, c2.2⟩]
                · rw [if_neg c2, if_neg (fun z9 => c2 ⟨by omega, z9.2⟩)]
          · refine zz_iconst hx dX4_erase_297 ?_
            refine zz_goto hx 302 dX4_erase_298 rfl ?_
            refine zm_s8 hx dX4_erase_302 (by omega) (by omega) (by omega) ?_
            refine zz_iinc (lv' := [(0, _), (1, _), (2, _), (3, _)]) hx dX4_erase_303 (by decide) rfl rfl ?_
            refine zz_goto hx 266 dX4_erase_306 rfl ?_
            refine ih (k + 1) _ Rw1 [] (by omega) (by omega) ⟨fun j a1 a2 a3 a4 a5 a6 a7 => ?_, m3, m4, m5, m6, m7⟩ h15 (fun u u0 u1 => ?_) (by omega)
            · rw [Gup_n _ _ _ a1]; exact m1 j a1 a2 a3 a4 a5 a6 a7
            · rw [Gup_s]
              by_cases cu : u = k
              · subst cu
                rw [zup_s]
                have hz := zin_01 u M
                first
                  | (rw [if_pos ⟨by omega, by first | assumption | exact zin_1.mp (by omega)⟩]; done)
                  | (rw [if_neg (fun z9 => (zin_0.mp (show zin u M = 0 by omega)) z9.2)]; omega)
                  | (split <;> omega)
              · rw [zup_n _ _ cu, h8 u u0 u1]
                by_cases c2 : u < k ∧ u ∈ M
                · rw [if_pos c2, if_pos ⟨by omega, c2.2⟩]
                · rw [if_neg c2, if_neg (fun z9 => c2 ⟨by omega, z9.2⟩)]
  have typs : ∀ M : List Int, (M.Nodup ∧ (∀ q ∈ M, 0 ≤ q ∧ q < 60) ∧ (∀ q : Int, q ∈ M ↔ gCl G (F 14) y q)) → F 14 ≠ -1 → (0 ≤ y ∧ y ≤ 2) → (y = 0 → ∀ s u : Int, 0 ≤ s → s < 6 → 0 ≤ u → u < 60 → G 11 (60 * s + u) ≠ F 14) → ∀ (m : Nat) (k : Int) (G1 : Nat → Int → Int) (Rw1 : Int → List Int) (v4 : List (Nat × Value)), 0 ≤ k → k ≤ 4 → G1 8 = G 8 → ((∀ j : Nat, j ≠ 8 → j ≠ 11 → j ≠ 12 → j ≠ 13 → j ≠ 15 → j ≠ 16 → j ≠ 17 → G1 j = G j) ∧ (∀ q : Int, 0 ≤ q → q < 60 → G1 17 q = zin q M) ∧ (∀ t u : Int, 0 ≤ t → t < 6 → 0 ≤ u → u < 60 → G1 11 (60 * t + u) = if u ∈ M ∨ G 11 (60 * t + u) ∈ M then -1 else G 11 (60 * t + u)) ∧ (∀ t : Int, 0 ≤ t → t < 6 → Rw1 t = erL G M t (F 6) (Rw t)) ∧ (∀ t : Int, 0 ≤ t → t < 6 → G1 16 t = erD G M t) ∧ sRow G1 Rw1) → (∀ t : Int, 0 ≤ t → t < 4 → G1 15 t = if t < k ∧ G 15 t ∈ M then -1 else G 15 t) → (4 - k).toNat < m → Z l g ({ frames := 2, cells := 0, slots := 0, locals := 46 } : Room) 6 x 0 0 (mW g a (Fup F 18 0) G1 rest) 224 ([(0, .ref (a 0)), (1, vi y), (2, vi (M.length : Int)), (3, vi k)] ++ v4) [] := by
    intro M hML hne hw0 hno
    obtain ⟨n1, n2, n3⟩ := id hML
    intro m
    induction m with
    | zero => intro k G1 Rw1 v4 h0 h1 h8 hi h15 hm; omega
    | succ m ih =>
      intro k G1 Rw1 v4 h0 h1 h8 hi h15 hm
      refine zz_sub (lv' := [(0, .ref (a 0)), (1, vi y), (2, vi (M.length : Int)), (3, vi k)]) (fun q hq => List.mem_append_left _ hq) ?_
      obtain ⟨m1, m3, m4, m5, m6, m7⟩ := id hi
      have hcm := fun z : k < 4 => h.2.2.1 k h0 z
      have h15k : k < 4 → G1 15 k = G 15 k := fun z => by rw [h15 k h0 z, if_neg (fun z9 => by omega)]
      refine zz_iload_n hx dX4_erase_224 rfl ?_
      refine zz_iconst hx dX4_erase_225 ?_
      refine zz_icmp_ge hx 264 dX4_erase_226 rfl (by omega) (by omega) (fun c226 => ?_) (fun c226 => ?_)
      · refine zz_iconst hx dX4_erase_264 ?_
        refine zz_istore_n (lv' := [(0, _), (1, _), (2, _), (3, _)]) hx dX4_erase_265 (by decide) rfl ?_
        exact last M hML hne hw0 hno ((F 6).toNat + 1) 0 G1 Rw1 [] (by omega) (by omega) hi (fun u u0 u1 => by rw [h15 u u0 u1]; by_cases c2 : G 15 u ∈ M; (rw [if_pos ⟨by omega, c2⟩, if_pos c2]); (rw [if_neg (fun z9 => c2 z9.2), if_neg c2])) (fun u u0 u1 => by rw [h8, if_neg (fun z9 => by omega)]) (by omega)
      · refine zz_aload_n hx dX4_erase_229 rfl ?_
        refine zm_g15 hx lf_X4_44 dX4_erase_230 ?_
        refine zz_iload_n hx dX4_erase_233 rfl ?_
        refine zz_aload_n hx dX4_erase_234 rfl ?_
        refine zz_aload_n hx dX4_erase_235 rfl ?_
        refine zm_g15 hx lf_X4_44 dX4_erase_236 ?_
        refine zz_iload_n hx dX4_erase_239 rfl ?_
        refine zm_l15 hx dX4_erase_240 (by omega) (by omega) ?_
        have hcm2 := hcm (by omega)
        have h15k2 := h15k (by omega)
        rw [h15k2]
        refine zz_callVi hx me_X4_isGone lk_X4_106 (c_isGone (F := Fup F 18 0) hst (G 15 k) (by omega) M m3 n2) 0 rfl rfl ⟨rfl, rfl⟩ (by decide) (by decide) rfl rfl (Nat.le_of_ble_eq_true rfl) dX4_erase_241 (fun _ _ h => h.elim) (fun r241 w241 hp241 => ?_)
        obtain ⟨rfl, rfl⟩ := hp241
        refine zz_ifb_eq hx 251 dX4_erase_244 rfl (fun c244 => ?_) (fun c244 => ?_)
        · refine zz_aload_n hx dX4_erase_251 rfl ?_
          refine zm_g15 hx lf_X4_44 dX4_erase_252 ?_
          refine zz_iload_n hx dX4_erase_255 rfl ?_
          refine zm_l15 hx dX4_erase_256 (by omega) (by omega) ?_
          refine zm_s15 hx dX4_erase_257 (by omega) (by omega) ?_
          refine zz_iinc (lv' := [(0, _), (1, _), (2, _), (3, _)]) hx dX4_erase_258 (by decide) rfl rfl ?_
          refine zz_goto hx 224 dX4_erase_261 rfl ?_
          refine ih (k + 1) _ Rw1 [] (by omega) (by omega) h8 ⟨fun j a1 a2 a3 a4 a5 a6 a7 => ?_, m3, m4, m5, m6, m7⟩ (fun u u0 u1 => ?_) (by omega)
          · rw [Gup_n _ _ _ a5]; exact m1 j a1 a2 a3 a4 a5 a6 a7
          · rw [Gup_s]
            by_cases cu : u = k
            · subst cu
              rw [zup_s]
              first
                | (rw [if_pos ⟨by omega, c244⟩]; done)
                | (rw [if_neg (fun z9 => c244 z9.2)]; omega)
            · rw [zup_n _ _ cu, h15 u u0 u1]
              by_cases c2 : u < k ∧ G 15 u ∈ M
              · rw [if_pos c2, if_pos ⟨by omega, c2.2⟩]
              · rw [if_neg c2, if_neg (fun z9 => c2 ⟨by omega, z9.2⟩)]
        · refine zz_iconst hx dX4_erase_247 ?_
          refine zz_goto hx 257 dX4_erase_248 rfl ?_
          refine zm_s15 hx dX4_erase_257 (by omega) (by omega) ?_
          refine zz_iinc (lv' := [(0, _), (1, _), (2, _), (3, _)]) hx dX4_erase_258 (by decide) rfl rfl ?_
          refine zz_goto hx 224 dX4_erase_261 rfl ?_
          refine ih (k + 1) _ Rw1 [] (by omega) (by omega) h8 ⟨fun j a1 a2 a3 a4 a5 a6 a7 => ?_, m3, m4, m5, m6, m7⟩ (fun u u0 u1 => ?_) (by omega)
          · rw [Gup_n _ _ _ a5]; exact m1 j a1 a2 a3 a4 a5 a6 a7
          · rw [Gup_s]
            by_cases cu : u = k
            · subst cu
              rw [zup_s]
              first
                | (rw [if_pos ⟨by omega, c244⟩]; done)
                | (rw [if_neg (fun z9 => c244 z9.2)]; omega)
            · rw [zup_n _ _ cu, h15 u u0 u1]
              by_cases c2 : u < k ∧ G 15 u ∈ M
              · rw [if_pos c2, if_pos ⟨by omega, c2.2⟩]
              · rw [if_neg c2, if_neg (fun z9 => c2 ⟨by omega, z9.2⟩)]
  have inner : ∀ M : List Int, (M.Nodup ∧ (∀ q ∈ M, 0 ≤ q ∧ q < 60) ∧ (∀ q : Int, q ∈ M ↔ gCl G (F 14) y q)) → F 14 ≠ -1 → (0 ≤ y ∧ y ≤ 2) → (y = 0 → ∀ s u : Int, 0 ≤ s → s < 6 → 0 ≤ u → u < 60 → G 11 (60 * s + u) ≠ F 14) → ∀ (s : Int), 0 ≤ s → s < F 0 → (∀ (G1 : Nat → Int → Int) (Rw1 : Int → List Int) (v4 : List (Nat × Value)), erI F G Rw M (s + 1) 0 G1 Rw1 → Z l g ({ frames := 2, cells := 0, slots := 0, locals := 46 } : Room) 6 x 0 0 (mW g a (Fup F 18 0) G1 rest) 65 ([(0, .ref (a 0)), (1, vi y), (2, vi (M.length : Int)), (3, vi (s + 1))] ++ v4) []) →
      ∀ (m : Nat) (k : Int) (G1 : Nat → Int → Int) (Rw1 : Int → List Int) (v5 : List (Nat × Value)), 0 ≤ k → k ≤ F 6 → erI F G Rw M s k G1 Rw1 → (F 6 - k).toNat < m → Z l g ({ frames := 2, cells := 0, slots := 0, locals := 46 } : Room) 6 x 0 0 (mW g a (Fup F 18 0) G1 rest) 76 ([(0, .ref (a 0)), (1, vi y), (2, vi (M.length : Int)), (3, vi s), (4, vi k)] ++ v5) [] := by
    intro M hML hne hw0 hno
    obtain ⟨n1, n2, n3⟩ := id hML
    intro s s0 s1 nxt m
    induction m with
    | zero => intro k G1 Rw1 v5 h0 h1 hi hm; omega
    | succ m ih =>
      intro k G1 Rw1 v5 h0 h1 hi hm
      refine zz_sub (lv' := [(0, .ref (a 0)), (1, vi y), (2, vi (M.length : Int)), (3, vi s), (4, vi k)]) (fun q hq => List.mem_append_left _ hq) ?_
      obtain ⟨m1, m2, m3, m4, m5, m6⟩ := id hi
      have h16s : G1 16 s = erC G M k s := by rw [m6 s s0 (by omega), if_neg (by omega), if_pos rfl]
      have hown : k < F 6 → G1 11 (60 * s + k) = G 11 (60 * s + k) := fun z => by rw [m4 s k s0 (by omega) h0 (by omega), if_neg (fun z9 => by have := z9.1; unfold erK at this; rw [if_neg (by omega), if_pos rfl] at this; omega)]
      have hck := h.2.2.2 s s0 (by omega)
      have hoc := fun z : G 16 s ≠ -1 => h.1.2.2.2.2.1 s (G 16 s) s0 (by omega) (by omega) (by omega)
      have herc : erC G M k s = -1 ∨ erC G M k s = G 16 s := by unfold erC; split <;> simp
      have J149 : k < F 6 → ∀ (b : Int) (G2 : Nat → Int → Int) (Rw2 : Int → List Int), (b = 0 ∨ b = 1) → (b = 1 ↔ (G 11 (60 * s + k) ∈ M ∧ k ∉ M)) → (G2 16 = G1 16) → (∀ v : Int, v = erC G M (k + 1) s → erI F G Rw M s (k + 1) (Gup G2 16 s v) Rw2) → Z l g ({ frames := 2, cells := 0, slots := 0, locals := 46 } : Room) 6 x 0 0 (mW g a (Fup F 18 0) G2 rest) 149 [(0, .ref (a 0)), (1, vi y), (2, vi (M.length : Int)), (3, vi s), (4, vi k), (5, vi b)] [] := by
        intro hk b G2 Rw2 hb hbi e16 hst2
        have hc1 := erC_step (G := G) (M := M) (k := k) (s := s) (b := b) h0 hbi
        refine zz_aload_n hx dX4_erase_149 rfl ?_
        refine zm_g16 hx lf_X4_47 dX4_erase_150 ?_
        refine zz_iload_n hx dX4_erase_153 rfl ?_
        refine zz_iload hx dX4_erase_154 rfl ?_
        refine zz_if_eq hx 174 dX4_erase_156 rfl (by omega) (fun c156 => ?_) (fun c156 => ?_)
        · refine zz_aload_n hx dX4_erase_174 rfl ?_
          refine zm_g16 hx lf_X4_47 dX4_erase_175 ?_
          refine zz_iload_n hx dX4_erase_178 rfl ?_
          refine zm_l16 hx dX4_erase_179 (by omega) (by omega) ?_
          refine zm_s16 hx dX4_erase_180 (by omega) (by omega) ?_
          refine zz_iinc (lv' := [(0, _), (1, _), (2, _), (3, _), (4, _), (5, _)]) hx dX4_erase_181 (by decide) rfl rfl ?_
          refine zz_goto hx 76 dX4_erase_184 rfl ?_
          refine ih (k + 1) _ Rw2 [(5, vi b)] (by omega) (by omega) (hst2 _ ?_) (by omega)
          first | (rw [hc1, if_pos ⟨by omega, by omega⟩]; done) | (rw [e16, h16s, hc1, if_neg (by omega)]; done)
        · refine zz_aload_n hx dX4_erase_159 rfl ?_
          refine zm_g16 hx lf_X4_47 dX4_erase_160 ?_
          refine zz_iload_n hx dX4_erase_163 rfl ?_
          refine zm_l16 hx dX4_erase_164 (by omega) (by omega) ?_
          refine zz_iload hx dX4_erase_165 rfl ?_
          rw [e16, h16s]
          refine zz_icmp_ne hx 174 dX4_erase_167 rfl (by omega) (by omega) (fun c167 => ?_) (fun c167 => ?_)
          · refine zz_aload_n hx dX4_erase_174 rfl ?_
            refine zm_g16 hx lf_X4_47 dX4_erase_175 ?_
            refine zz_iload_n hx dX4_erase_178 rfl ?_
            refine zm_l16 hx dX4_erase_179 (by omega) (by omega) ?_
            refine zm_s16 hx dX4_erase_180 (by omega) (by omega) ?_
            refine zz_iinc (lv' := [(0, _), (1, _), (2, _), (3, _), (4, _), (5, _)]) hx dX4_erase_181 (by decide) rfl rfl ?_
            refine zz_goto hx 76 dX4_erase_184 rfl ?_
            refine ih (k + 1) _ Rw2 [(5, vi b)] (by omega) (by omega) (hst2 _ ?_) (by omega)
            first | (rw [hc1, if_pos ⟨by omega, by omega⟩]; done) | (rw [e16, h16s, hc1, if_neg (by omega)]; done)
          · refine zz_iconst hx dX4_erase_170 ?_
            refine zz_goto hx 180 dX4_erase_171 rfl ?_
            refine zm_s16 hx dX4_erase_180 (by omega) (by omega) ?_
            refine zz_iinc (lv' := [(0, _), (1, _), (2, _), (3, _), (4, _), (5, _)]) hx dX4_erase_181 (by decide) rfl rfl ?_
            refine zz_goto hx 76 dX4_erase_184 rfl ?_
            refine ih (k + 1) _ Rw2 [(5, vi b)] (by omega) (by omega) (hst2 _ ?_) (by omega)
            first | (rw [hc1, if_pos ⟨by omega, by omega⟩]; done) | (rw [e16, h16s, hc1, if_neg (by omega)]; done)
      have J114 : k < F 6 → ∀ b : Int, (b = 0 ∨ b = 1) → (b = 1 ↔ (G 11 (60 * s + k) ∈ M ∧ k ∉ M)) → Z l g ({ frames := 2, cells := 0, slots := 0, locals := 46 } : Room) 6 x 0 0 (mW g a (Fup F 18 0) G1 rest) 114 [(0, .ref (a 0)), (1, vi y), (2, vi (M.length : Int)), (3, vi s), (4, vi k)] [vi b] := by
        intro hk b hb hbi
        have ho := hown hk
        have hok := h.1.2.2.2.2.1 s k s0 (by omega) h0 (by omega)
        have hkm := m3 k h0 (by omega)
        have hmem := (h.1.2.2.2.2.2 s s0 (by omega)).2.2.2 k
        have noch : (G 11 (60 * s + k) = -1 ∨ ¬ (k ∈ M ∨ G 11 (60 * s + k) ∈ M)) → ∀ v : Int, v = erC G M (k + 1) s → erI F G Rw M s (k + 1) (Gup G1 16 s v) Rw1 := by
          intro hn v hv
          refine ⟨mS_16 m1 s v, fun j a1 a2 a3 a4 a5 => ?_, m3, fun t u t0 t1 u0 u1 => ?_, fun t t0 t1 => ?_, fun t t0 t1 => ?_⟩
          · rw [Gup_n _ _ _ a4]; exact m2 j a1 a2 a3 a4 a5
          · rw [Gup_n _ _ _ (by decide), m4 t u t0 t1 u0 u1]
            by_cases ct : t = s
            · subst ct
              rw [erK_s, erK_s]
              by_cases cu : u = k
              · subst cu
                rw [if_neg (fun z9 => by have := z9.1; omega)]
                rcases hn with y9 | y9
                · rw [y9]; split <;> rfl
                · rw [if_neg (fun z9 => y9 z9.2)]
              · by_cases c2 : u < k ∧ (u ∈ M ∨ G 11 (60 * t + u) ∈ M)
                · rw [if_pos c2, if_pos ⟨by omega, c2.2⟩]
                · rw [if_neg c2, if_neg (fun z9 => c2 ⟨by omega, z9.2⟩)]
            · rw [erK_n (F 6) ct k (k + 1)]
          · rw [m5 t t0 t1]
            by_cases ct : t = s
            · subst ct
              rw [erK_s, erK_s]
              exact erL_same (fun z9 => by
                have := hmem.mp z9
                rcases hn with y9 | y9
                · exact absurd y9 this.2.2
                · exact y9)
            · rw [erK_n (F 6) ct k (k + 1)]
          · rw [Gup_s]
            by_cases ct : t = s
            · subst ct
              rw [zup_s, if_neg (by omega), if_pos rfl]; exact hv
            · rw [zup_n _ _ ct, m6 t t0 t1, if_neg (show ¬ t = s from ct), if_neg (show ¬ t = s from ct)]
        have chng : (k ∈ M ∨ G 11 (60 * s + k) ∈ M) → ∀ (G2 : Nat → Int → Int), mS F G2 (Lup Rw1 s (zdel (Rw1 s) k)) → G2 11 = zup (G1 11) (60 * s + k) (-1) → (∀ j : Nat, j ≠ 11 → j ≠ 12 → j ≠ 13 → G2 j = G1 j) → ∀ v : Int, v = erC G M (k + 1) s → erI F G Rw M s (k + 1) (Gup G2 16 s v) (Lup Rw1 s (zdel (Rw1 s) k)) := by
          intro hy G2 i2 i3 i4 v hv
          refine ⟨mS_16 i2 s v, fun j a1 a2 a3 a4 a5 => ?_, fun q q0 q1 => ?_, fun t u t0 t1 u0 u1 => ?_, fun t t0 t1 => ?_, fun t t0 t1 => ?_⟩
          · rw [Gup_n _ _ _ a4, i4 j a1 a2 a3]; exact m2 j a1 a2 a3 a4 a5
          · rw [Gup_n _ _ _ (by decide), i4 17 (by decide) (by decide) (by decide)]; exact m3 q q0 q1
          · rw [Gup_n _ _ _ (by decide), i3]
            by_cases ct : t = s
            · subst ct
              rw [erK_s]
              by_cases cu : u = k
              · subst cu
                rw [zup_s, if_pos ⟨by omega, hy⟩]
              · rw [zup_n _ _ (by omega), m4 t u t0 t1 u0 u1, erK_s]
                by_cases c2 : u < k ∧ (u ∈ M ∨ G 11 (60 * t + u) ∈ M)
                · rw [if_pos c2, if_pos ⟨by omega, c2.2⟩]
                · rw [if_neg c2, if_neg (fun z9 => c2 ⟨by omega, z9.2⟩)]
            · rw [zup_n _ _ (by omega), m4 t u t0 t1 u0 u1, erK_n (F 6) ct k (k + 1)]
          · by_cases ct : t = s
            · subst ct
              rw [Lup_s, m5 t t0 t1, erK_s, erK_s]
              exact erL_del hy
            · rw [Lup_n _ _ ct, m5 t t0 t1, erK_n (F 6) ct k (k + 1)]
          · rw [Gup_s]
            by_cases ct : t = s
            · subst ct
              rw [zup_s, if_neg (by omega), if_pos rfl]; exact hv
            · rw [zup_n _ _ ct, i4 16 (by decide) (by decide) (by decide), m6 t t0 t1, if_neg (show ¬ t = s from ct), if_neg (show ¬ t = s from ct)]
        refine zz_istore (lv' := [(0, _), (1, _), (2, _), (3, _), (4, _), (5, _)]) hx dX4_erase_114 (by decide) rfl ?_
        refine zz_aload_n hx dX4_erase_116 rfl ?_
        refine zz_iload_n hx dX4_erase_117 rfl ?_
        refine zz_iload hx dX4_erase_118 rfl ?_
        refine zz_callVi hx me_X4_ownerIn lk_X4_78 (c_ownerIn (F := Fup F 18 0) hst _ _ (by omega) (by omega) (by omega) (by omega)) 0 rfl rfl ⟨rfl, rfl⟩ (by decide) (by decide) rfl rfl (Nat.le_of_ble_eq_true rfl) dX4_erase_120 (fun _ _ h => h.elim) (fun r120 w120 hp120 => ?_)
        obtain ⟨rfl, rfl⟩ := hp120
        rw [ho]
        refine zz_iconst hx dX4_erase_123 ?_
        refine zz_icmp_eq hx 149 dX4_erase_124 rfl (by omega) (by omega) (fun c124 => ?_) (fun c124 => ?_)
        · first
            | exact J149 hk b G2 _ hb hbi (i4 16 (by decide) (by decide) (by decide)) (chng hch G2 i2 i3 i4)
            | exact J149 hk b G1 Rw1 hb hbi rfl (noch (Or.inl c124))
            | exact J149 hk b G1 Rw1 hb hbi rfl (noch (Or.inr (fun z9 => by have z8 : k ∉ M := zin_0.mp (by omega); rcases z9 with z7 | z7; (exact z8 z7); (have := hbi.mpr ⟨z7, z8⟩; omega))))
        · refine zz_aload_n hx dX4_erase_127 rfl ?_
          refine zm_g17 hx lf_X4_50 dX4_erase_128 ?_
          refine zz_iload hx dX4_erase_131 rfl ?_
          refine zm_l17 hx dX4_erase_133 (by omega) (by omega) ?_
          rw [hkm]
          have hz := zin_01 k M
          refine zz_if_ne hx 142 dX4_erase_134 rfl (by omega) (fun c134 => ?_) (fun c134 => ?_)
          · have hch : k ∈ M ∨ G 11 (60 * s + k) ∈ M := Or.inl (zin_1.mp (by omega))
            refine zz_aload_n hx dX4_erase_142 rfl ?_
            refine zz_iload_n hx dX4_erase_143 rfl ?_
            refine zz_iload hx dX4_erase_144 rfl ?_
            refine zz_callVv hx me_X4_takeOut lk_X4_99 (c_takeOut (F := Fup F 18 0) hst m1 s k (by omega) (by omega) (by omega) (by omega) (by rw [ho]; exact c124)) 0 rfl rfl ⟨rfl, rfl⟩ (by decide) (by decide) rfl rfl (Nat.le_of_ble_eq_true rfl) dX4_erase_146 (fun _ _ h => h.elim) (fun w146 hp146 => ?_)
            obtain ⟨G2, rfl, i2, i3, i4⟩ := hp146
            first
              | exact J149 hk b G2 _ hb hbi (i4 16 (by decide) (by decide) (by decide)) (chng hch G2 i2 i3 i4)
              | exact J149 hk b G1 Rw1 hb hbi rfl (noch (Or.inl c124))
              | exact J149 hk b G1 Rw1 hb hbi rfl (noch (Or.inr (fun z9 => by have z8 : k ∉ M := zin_0.mp (by omega); rcases z9 with z7 | z7; (exact z8 z7); (have := hbi.mpr ⟨z7, z8⟩; omega))))
          · refine zz_iload hx dX4_erase_137 rfl ?_
            refine zz_if_eq hx 149 dX4_erase_139 rfl (by omega) (fun c139 => ?_) (fun c139 => ?_)
            · first
                | exact J149 hk b G2 _ hb hbi (i4 16 (by decide) (by decide) (by decide)) (chng hch G2 i2 i3 i4)
                | exact J149 hk b G1 Rw1 hb hbi rfl (noch (Or.inl c124))
                | exact J149 hk b G1 Rw1 hb hbi rfl (noch (Or.inr (fun z9 => by have z8 : k ∉ M := zin_0.mp (by omega); rcases z9 with z7 | z7; (exact z8 z7); (have := hbi.mpr ⟨z7, z8⟩; omega))))
            · have hch : k ∈ M ∨ G 11 (60 * s + k) ∈ M := Or.inr (hbi.mp (by omega)).1
              refine zz_aload_n hx dX4_erase_142 rfl ?_
              refine zz_iload_n hx dX4_erase_143 rfl ?_
              refine zz_iload hx dX4_erase_144 rfl ?_
              refine zz_callVv hx me_X4_takeOut lk_X4_99 (c_takeOut (F := Fup F 18 0) hst m1 s k (by omega) (by omega) (by omega) (by omega) (by rw [ho]; exact c124)) 0 rfl rfl ⟨rfl, rfl⟩ (by decide) (by decide) rfl rfl (Nat.le_of_ble_eq_true rfl) dX4_erase_146 (fun _ _ h => h.elim) (fun w146 hp146 => ?_)
              obtain ⟨G2, rfl, i2, i3, i4⟩ := hp146
              first
                | exact J149 hk b G2 _ hb hbi (i4 16 (by decide) (by decide) (by decide)) (chng hch G2 i2 i3 i4)
                | exact J149 hk b G1 Rw1 hb hbi rfl (noch (Or.inl c124))
                | exact J149 hk b G1 Rw1 hb hbi rfl (noch (Or.inr (fun z9 => by have z8 : k ∉ M := zin_0.mp (by omega); rcases z9 with z7 | z7; (exact z8 z7); (have := hbi.mpr ⟨z7, z8⟩; omega))))
      refine zz_iload hx dX4_erase_76 rfl ?_
      refine zz_aload_n hx dX4_erase_78 rfl ?_
      refine zm_g6 hx lf_X4_67 dX4_erase_79 ?_
      try rw [show (Fup F 18 0) 6 = F 6 from rfl]
      refine zz_icmp_ge hx 187 dX4_erase_82 rfl (by omega) (by omega) (fun c82 => ?_) (fun c82 => ?_)
      · have hkF : k = F 6 := by omega
        have hkk : ∀ t : Int, erK (F 6) s k t = erK (F 6) (s + 1) 0 t := fun t => by
          unfold erK
          by_cases c3 : t < s
          · rw [if_pos c3, if_pos (by omega)]
          · by_cases c4 : t = s
            · rw [if_neg c3, if_pos c4, if_pos (by omega), hkF]
            · rw [if_neg c3, if_neg c4, if_neg (by omega)]; split <;> rfl
        have herd1 : erC G M k s ∈ M → erD G M s = -1 := fun z => by
          unfold erD
          rcases herc with y9 | y9
          · rw [y9] at z; have := n2 _ z; omega
          · rw [y9] at z; rw [if_pos (Or.inl z)]
        have herd2 : ¬ erC G M k s ∈ M → erD G M s = erC G M k s := fun z => by
          unfold erD erC at *
          by_cases c5 : G 16 s ≠ -1 ∧ G 16 s < k ∧ G 16 s ∉ M ∧ G 11 (60 * s + G 16 s) ∈ M
          · rw [if_pos c5, if_pos (Or.inr ⟨c5.1, c5.2.2.2⟩)]
          · rw [if_neg c5] at z ⊢
            rw [if_neg (fun z9 => by
              rcases z9 with z8 | z8
              · exact z z8
              · exact c5 ⟨z8.1, by have := z8.1; omega, z, z8.2⟩)]
        refine zz_aload_n hx dX4_erase_187 rfl ?_
        refine zm_g16 hx lf_X4_47 dX4_erase_188 ?_
        refine zz_iload_n hx dX4_erase_191 rfl ?_
        refine zz_aload_n hx dX4_erase_192 rfl ?_
        refine zz_aload_n hx dX4_erase_193 rfl ?_
        refine zm_g16 hx lf_X4_47 dX4_erase_194 ?_
        refine zz_iload_n hx dX4_erase_197 rfl ?_
        refine zm_l16 hx dX4_erase_198 (by omega) (by omega) ?_
        rw [h16s]
        refine zz_callVi hx me_X4_isGone lk_X4_106 (c_isGone (F := Fup F 18 0) hst (erC G M k s) (by omega) M m3 n2) 0 rfl rfl ⟨rfl, rfl⟩ (by decide) (by decide) rfl rfl (Nat.le_of_ble_eq_true rfl) dX4_erase_199 (fun _ _ h => h.elim) (fun r199 w199 hp199 => ?_)
        obtain ⟨rfl, rfl⟩ := hp199
        refine zz_ifb_eq hx 209 dX4_erase_202 rfl (fun c202 => ?_) (fun c202 => ?_)
        · refine zz_aload_n hx dX4_erase_209 rfl ?_
          refine zm_g16 hx lf_X4_47 dX4_erase_210 ?_
          refine zz_iload_n hx dX4_erase_213 rfl ?_
          refine zm_l16 hx dX4_erase_214 (by omega) (by omega) ?_
          refine zm_s16 hx dX4_erase_215 (by omega) (by omega) ?_
          refine zz_iinc (lv' := [(0, _), (1, _), (2, _), (3, _), (4, _)]) hx dX4_erase_216 (by decide) rfl rfl ?_
          refine zz_goto hx 65 dX4_erase_219 rfl ?_
          refine nxt _ Rw1 [(4, vi k)] ⟨mS_16 m1 s _, fun j a1 a2 a3 a4 a5 => ?_, m3, fun t u t0 t1 u0 u1 => ?_, fun t t0 t1 => ?_, fun t t0 t1 => ?_⟩
          · rw [Gup_n _ _ _ a4]; exact m2 j a1 a2 a3 a4 a5
          · rw [Gup_n _ _ _ (by decide), m4 t u t0 t1 u0 u1, show erK (F 6) s k t = erK (F 6) (s + 1) 0 t from hkk t]
          · rw [m5 t t0 t1, show erK (F 6) s k t = erK (F 6) (s + 1) 0 t from hkk t]
          · rw [Gup_s]
            by_cases ct : t = s
            · subst ct
              rw [zup_s, if_pos (by omega)]
              first
                | (exact (herd1 c202).symm)
                | (rw [h16s]; exact (herd2 c202).symm)
            · rw [zup_n _ _ ct, m6 t t0 t1]
              by_cases c3 : t < s
              · rw [if_pos c3, if_pos (by omega)]
              · rw [if_neg c3, if_neg ct, if_neg (by omega)]
                by_cases c4 : t = s + 1
                · rw [if_pos c4]; unfold erC; rw [if_neg (fun z9 => by have := h.2.2.2 t t0 t1; omega)]
                · rw [if_neg c4]
        · refine zz_iconst hx dX4_erase_205 ?_
          refine zz_goto hx 215 dX4_erase_206 rfl ?_
          refine zm_s16 hx dX4_erase_215 (by omega) (by omega) ?_
          refine zz_iinc (lv' := [(0, _), (1, _), (2, _), (3, _), (4, _)]) hx dX4_erase_216 (by decide) rfl rfl ?_
          refine zz_goto hx 65 dX4_erase_219 rfl ?_
          refine nxt _ Rw1 [(4, vi k)] ⟨mS_16 m1 s _, fun j a1 a2 a3 a4 a5 => ?_, m3, fun t u t0 t1 u0 u1 => ?_, fun t t0 t1 => ?_, fun t t0 t1 => ?_⟩
          · rw [Gup_n _ _ _ a4]; exact m2 j a1 a2 a3 a4 a5
          · rw [Gup_n _ _ _ (by decide), m4 t u t0 t1 u0 u1, show erK (F 6) s k t = erK (F 6) (s + 1) 0 t from hkk t]
          · rw [m5 t t0 t1, show erK (F 6) s k t = erK (F 6) (s + 1) 0 t from hkk t]
          · rw [Gup_s]
            by_cases ct : t = s
            · subst ct
              rw [zup_s, if_pos (by omega)]
              first
                | (exact (herd1 c202).symm)
                | (rw [h16s]; exact (herd2 c202).symm)
            · rw [zup_n _ _ ct, m6 t t0 t1]
              by_cases c3 : t < s
              · rw [if_pos c3, if_pos (by omega)]
              · rw [if_neg c3, if_neg ct, if_neg (by omega)]
                by_cases c4 : t = s + 1
                · rw [if_pos c4]; unfold erC; rw [if_neg (fun z9 => by have := h.2.2.2 t t0 t1; omega)]
                · rw [if_neg c4]
      · refine zz_aload_n hx dX4_erase_85 rfl ?_
        refine zz_aload_n hx dX4_erase_86 rfl ?_
        refine zz_iload_n hx dX4_erase_87 rfl ?_
        refine zz_iload hx dX4_erase_88 rfl ?_
        refine zz_callVi hx me_X4_ownerIn lk_X4_78 (c_ownerIn (F := Fup F 18 0) hst _ _ (by omega) (by omega) (by omega) (by omega)) 0 rfl rfl ⟨rfl, rfl⟩ (by decide) (by decide) rfl rfl (Nat.le_of_ble_eq_true rfl) dX4_erase_90 (fun _ _ h => h.elim) (fun r90 w90 hp90 => ?_)
        obtain ⟨rfl, rfl⟩ := hp90
        rw [hown (by omega)]
        have hok := h.1.2.2.2.2.1 s k s0 (by omega) h0 (by omega)
        refine zz_callVi hx me_X4_isGone lk_X4_106 (c_isGone (F := Fup F 18 0) hst (G 11 (60 * s + k)) (by omega) M m3 n2) 0 rfl rfl ⟨rfl, rfl⟩ (by decide) (by decide) rfl rfl (Nat.le_of_ble_eq_true rfl) dX4_erase_93 (fun _ _ h => h.elim) (fun r93 w93 hp93 => ?_)
        obtain ⟨rfl, rfl⟩ := hp93
        refine zz_ifb_eq hx 113 dX4_erase_96 rfl (fun c96 => ?_) (fun c96 => ?_)
        · refine zz_iconst hx dX4_erase_113 ?_
          refine J114 (by omega) _ (by omega) ?_
          first
            | exact ⟨fun z9 => absurd z9 (by decide), fun z9 => absurd z9.1 c96⟩
            | exact ⟨fun z9 => absurd z9 (by decide), fun z9 => absurd (zin_1.mp (by omega)) z9.2⟩
            | exact ⟨fun _ => ⟨c96, zin_0.mp (by omega)⟩, fun _ => rfl⟩
        · refine zz_aload_n hx dX4_erase_99 rfl ?_
          refine zm_g17 hx lf_X4_50 dX4_erase_100 ?_
          refine zz_iload hx dX4_erase_103 rfl ?_
          refine zm_l17 hx dX4_erase_105 (by omega) (by omega) ?_
          rw [m3 k h0 (by omega)]
          have hz := zin_01 k M
          refine zz_if_ne hx 113 dX4_erase_106 rfl (by omega) (fun c106 => ?_) (fun c106 => ?_)
          · refine zz_iconst hx dX4_erase_113 ?_
            refine J114 (by omega) _ (by omega) ?_
            first
              | exact ⟨fun z9 => absurd z9 (by decide), fun z9 => absurd z9.1 c96⟩
              | exact ⟨fun z9 => absurd z9 (by decide), fun z9 => absurd (zin_1.mp (by omega)) z9.2⟩
              | exact ⟨fun _ => ⟨c96, zin_0.mp (by omega)⟩, fun _ => rfl⟩
          · refine zz_iconst hx dX4_erase_109 ?_
            refine zz_goto hx 114 dX4_erase_110 rfl ?_
            refine J114 (by omega) _ (by omega) ?_
            first
              | exact ⟨fun z9 => absurd z9 (by decide), fun z9 => absurd z9.1 c96⟩
              | exact ⟨fun z9 => absurd z9 (by decide), fun z9 => absurd (zin_1.mp (by omega)) z9.2⟩
              | exact ⟨fun _ => ⟨c96, zin_0.mp (by omega)⟩, fun _ => rfl⟩
  have sets : ∀ M : List Int, (M.Nodup ∧ (∀ q ∈ M, 0 ≤ q ∧ q < 60) ∧ (∀ q : Int, q ∈ M ↔ gCl G (F 14) y q)) → F 14 ≠ -1 → (0 ≤ y ∧ y ≤ 2) → (y = 0 → ∀ s u : Int, 0 ≤ s → s < 6 → 0 ≤ u → u < 60 → G 11 (60 * s + u) ≠ F 14) → ∀ (m : Nat) (s : Int) (G1 : Nat → Int → Int) (Rw1 : Int → List Int) (v4 : List (Nat × Value)), 0 ≤ s → s ≤ F 0 → erI F G Rw M s 0 G1 Rw1 → (F 0 - s).toNat < m → Z l g ({ frames := 2, cells := 0, slots := 0, locals := 46 } : Room) 6 x 0 0 (mW g a (Fup F 18 0) G1 rest) 65 ([(0, .ref (a 0)), (1, vi y), (2, vi (M.length : Int)), (3, vi s)] ++ v4) [] := by
    intro M hML hne hw0 hno
    obtain ⟨n1, n2, n3⟩ := id hML
    intro m
    induction m with
    | zero => intro s G1 Rw1 v4 h0 h1 hi hm; omega
    | succ m ih =>
      intro s G1 Rw1 v4 h0 h1 hi hm
      refine zz_sub (lv' := [(0, .ref (a 0)), (1, vi y), (2, vi (M.length : Int)), (3, vi s)]) (fun q hq => List.mem_append_left _ hq) ?_
      refine zz_iload_n hx dX4_erase_65 rfl ?_
      refine zz_aload_n hx dX4_erase_66 rfl ?_
      refine zm_g0 hx lf_X4_60 dX4_erase_67 ?_
      try rw [show (Fup F 18 0) 0 = F 0 from rfl]
      refine zz_icmp_ge hx 222 dX4_erase_70 rfl (by omega) (by omega) (fun c70 => ?_) (fun c70 => ?_)
      · refine zz_iconst hx dX4_erase_222 ?_
        refine zz_istore_n (lv' := [(0, _), (1, _), (2, _), (3, _)]) hx dX4_erase_223 (by decide) rfl ?_
        have hs0 : s = F 0 := by omega
        subst hs0
        obtain ⟨m1, m2, m3, m4, m5, m6⟩ := id hi
        have hout : ∀ t u : Int, 0 ≤ t → t < 6 → F 0 ≤ t → 0 ≤ u → u < 60 → G 11 (60 * t + u) = -1 := fun t u t0 t1 t2 u0 u1 => by
          have := h.1.2.2.2.2.1 t u t0 t1 u0 u1
          omega
        have hnil : ∀ t : Int, 0 ≤ t → t < 6 → F 0 ≤ t → Rw t = [] := fun t t0 t1 t2 => by
          rw [List.eq_nil_iff_forall_not_mem]
          intro u hu
          have h9 := ((h.1.2.2.2.2.2 t t0 t1).2.2.2 u).mp hu
          exact h9.2.2 (hout t u t0 t1 t2 h9.1 h9.2.1)
        refine typs M hML hne hw0 hno 5 0 G1 Rw1 [] (by omega) (by omega) (m2 8 (by decide) (by decide) (by decide) (by decide) (by decide)) ⟨fun j a1 a2 a3 a4 a5 a6 a7 => m2 j a2 a3 a4 a6 a7, m3, fun t u t0 t1 u0 u1 => ?_, fun t t0 t1 => ?_, fun t t0 t1 => ?_, m1.2.2.2.2.2⟩ (fun t t0 t1 => by rw [m2 15 (by decide) (by decide) (by decide) (by decide) (by decide), if_neg (fun z9 => by omega)]) (by omega)
        · rw [m4 t u t0 t1 u0 u1]
          by_cases c3 : t < F 0
          · unfold erK
            rw [if_pos c3]
            by_cases c6 : u < F 6
            · by_cases c2 : u ∈ M ∨ G 11 (60 * t + u) ∈ M
              · rw [if_pos ⟨c6, c2⟩, if_pos c2]
              · rw [if_neg (fun z9 => c2 z9.2), if_neg c2]
            · have h9 := h.1.2.2.2.2.1 t u t0 t1 u0 u1
              rw [if_neg (fun z9 => c6 z9.1), show G 11 (60 * t + u) = -1 by omega]
              split <;> rfl
          · rw [hout t u t0 t1 (by omega) u0 u1]
            split <;> split <;> rfl
        · rw [m5 t t0 t1]
          by_cases c3 : t < F 0
          · unfold erK; rw [if_pos c3]
          · rw [hnil t t0 t1 (by omega)]; rfl
        · rw [m6 t t0 t1]
          by_cases c3 : t < F 0
          · rw [if_pos c3]
          · have h9 : G 16 t = -1 := by have := h.2.2.2 t t0 t1; omega
            have h8 : (-1 : Int) ∉ M := fun z9 => by have := n2 _ z9; omega
            rw [if_neg c3]
            unfold erC erD
            rw [h9]
            simp only [ite_self]
      · refine zz_iconst hx dX4_erase_73 ?_
        refine zz_istore (lv' := [(0, _), (1, _), (2, _), (3, _), (4, _)]) hx dX4_erase_74 (by decide) rfl ?_
        exact inner M hML hne hw0 hno s h0 (by omega) (fun G2 Rw2 v4 hi2 => ih (s + 1) G2 Rw2 v4 (by omega) (by omega) hi2 (by omega)) ((F 6).toNat + 1) 0 G1 Rw1 [] (by omega) (by omega) hi (by omega)
  have J30 : ∀ (v2 : Int) (f : Int → Int), ((v2 = -1 ∧ (¬ (0 ≤ y ∧ y ≤ 2) ∨ ((0 ≤ y ∧ y ≤ 2) ∧ (F 14 = -1 ∨ (F 14 ≠ -1 ∧ y = 0 ∧ ∃ s u : Int, 0 ≤ s ∧ s < 6 ∧ 0 ≤ u ∧ u < 60 ∧ G 11 (60 * s + u) = F 14)))) ∧ (¬ (0 ≤ y ∧ y ≤ 2) → f = G 17)) ∨ ((0 ≤ y ∧ y ≤ 2) ∧ F 14 ≠ -1 ∧ (y = 0 → ∀ s u : Int, 0 ≤ s → s < 6 → 0 ≤ u → u < 60 → G 11 (60 * s + u) ≠ F 14) ∧ ∃ M : List Int, (M.Nodup ∧ (∀ q ∈ M, 0 ≤ q ∧ q < 60) ∧ (∀ q : Int, q ∈ M ↔ gCl G (F 14) y q)) ∧ v2 = (M.length : Int) ∧ ∀ q : Int, 0 ≤ q → q < 60 → f q = zin q M)) → Z l g ({ frames := 2, cells := 0, slots := 0, locals := 46 } : Room) 6 x 0 0 (mW g a F (Gset G 17 f) rest) 30 [(0, .ref (a 0)), (1, vi y)] [vi v2] := by
    intro v2 f hv2
    have hv2r : -1 ≤ v2 ∧ v2 ≤ 60 := by
      rcases hv2 with ⟨q1, -⟩ | ⟨-, -, -, M, ⟨q1, q2, -⟩, q3, -⟩
      · clear hrn; omega
      · have := nodup_len 60 M q1 (fun q hq => q2 q hq)
        omega
    have hv2a : v2 = -1 → ¬ (0 ≤ y ∧ y ≤ 2) ∨ ((0 ≤ y ∧ y ≤ 2) ∧ (F 14 = -1 ∨ (F 14 ≠ -1 ∧ y = 0 ∧ ∃ s u : Int, 0 ≤ s ∧ s < 6 ∧ 0 ≤ u ∧ u < 60 ∧ G 11 (60 * s + u) = F 14))) := fun e => by
      rcases hv2 with ⟨-, q, -⟩ | ⟨-, -, -, M, -, q3, -⟩
      · exact q
      · exfalso; have : 0 ≤ (M.length : Int) := Int.natCast_nonneg _; omega
    have hv2c : ¬ (0 ≤ y ∧ y ≤ 2) → f = G 17 := fun e => by
      rcases hv2 with ⟨-, -, q⟩ | ⟨q, -⟩
      · exact q e
      · exact absurd q e
    have hv2b : v2 ≠ -1 → (0 ≤ y ∧ y ≤ 2) ∧ F 14 ≠ -1 ∧ (y = 0 → ∀ s u : Int, 0 ≤ s → s < 6 → 0 ≤ u → u < 60 → G 11 (60 * s + u) ≠ F 14) ∧ ∃ M : List Int, (M.Nodup ∧ (∀ q ∈ M, 0 ≤ q ∧ q < 60) ∧ (∀ q : Int, q ∈ M ↔ gCl G (F 14) y q)) ∧ v2 = (M.length : Int) ∧ ∀ q : Int, 0 ≤ q → q < 60 → f q = zin q M := fun e => by
      rcases hv2 with ⟨q, -⟩ | q
      · exact absurd q e
      · exact q
    clear hv2
    refine zz_istore_n (lv' := [(0, _), (1, _), (2, _)]) hx dX4_erase_30 (by decide) rfl ?_
    refine zz_aload_n hx dX4_erase_31 rfl ?_
    refine zz_iload_n hx dX4_erase_32 rfl ?_
    refine zz_iconst hx dX4_erase_33 ?_
    refine zz_iconst hx dX4_erase_34 ?_
    refine zz_callSi hx ms_X4_isIn lk_X4_63 (c_isIn (a := a) hst _ _ _ (by omega) (by omega) (by omega)) ⟨rfl, rfl⟩ (by decide) (by decide) rfl rfl (Nat.le_of_ble_eq_true rfl) dX4_erase_35 (fun _ _ h => h.elim) (fun r35 w35 hp35 => ?_)
    obtain ⟨rfl, rfl⟩ := hp35
    refine zz_ifb_ne hx 45 dX4_erase_38 rfl (fun c38 => ?_) (fun c38 => ?_)
    · refine zz_iload_n hx dX4_erase_45 rfl ?_
      refine zz_iconst hx dX4_erase_46 ?_
      refine zz_icmp_ne hx 54 dX4_erase_47 rfl (by omega) (by omega) (fun c47 => ?_) (fun c47 => ?_)
      · refine zz_iconst hx dX4_erase_54 ?_
        refine zz_callVi hx me_X4_can lk_X4_70 (c_can hst _ (by omega)) 0 rfl rfl ⟨rfl, rfl⟩ (by decide) (by decide) rfl rfl (Nat.le_of_ble_eq_true rfl) dX4_erase_55 (fun _ _ h => h.elim) (fun r55 w55 hp55 => ?_)
        obtain ⟨rfl, rfl⟩ := hp55
        refine zz_ifb_ne hx 63 dX4_erase_58 rfl (fun _ => ?_) (fun z => absurd rfl z)
        refine zz_iconst hx dX4_erase_63 ?_
        refine zz_istore_n (lv' := [(0, _), (1, _), (2, _), (3, _)]) hx dX4_erase_64 (by decide) rfl ?_
        obtain ⟨hw0, hne, hno, M, hML, rfl, hM3⟩ := hv2b (by omega)
        refine sets M hML hne hw0 hno ((F 0).toNat + 1) 0 (Gset G 17 f) Rw [] (by omega) (by omega) ⟨mS_17 h.1 f, fun j a1 a2 a3 a4 a5 => Gset_n _ _ a5, fun q q0 q1 => by rw [Gset_s]; exact hM3 q q0 q1, fun t u t0 t1 u0 u1 => ?_, fun t t0 t1 => ?_, fun t t0 t1 => ?_⟩ (by omega)
        · rw [Gset_n _ _ (by decide), if_neg (fun z9 => by have := z9.1; unfold erK at this; split at this; omega; split at this <;> omega)]
        · have h9 : erK (F 6) 0 0 t = 0 := by unfold erK; split; omega; split <;> rfl
          rw [h9, erL_0 (fun u hu => ((mS_len h.1 t0 t1).2.2 u hu).1)]
        · rw [Gset_n _ _ (by decide), if_neg (by omega)]
          by_cases c4 : t = 0
          · rw [if_pos c4]; unfold erC; rw [if_neg (fun z9 => by have := h.2.2.2 t t0 t1; omega)]
          · rw [if_neg c4]
      · have hbad := hv2a (by omega)
        refine zz_iconst hx dX4_erase_50 ?_
        refine zz_goto hx 55 dX4_erase_51 rfl ?_
        refine zz_callVi hx me_X4_can lk_X4_70 (c_can hst _ (by omega)) 0 rfl rfl ⟨rfl, rfl⟩ (by decide) (by decide) rfl rfl (Nat.le_of_ble_eq_true rfl) dX4_erase_55 (fun _ _ h => h.elim) (fun r55 w55 hp55 => ?_)
        obtain ⟨rfl, rfl⟩ := hp55
        refine zz_ifb_ne hx 63 dX4_erase_58 rfl (fun z => absurd z (by decide)) (fun _ => ?_)
        refine zz_iconst hx dX4_erase_61 ?_
        exact zz_iret hx hf dX4_erase_62 (by first | exact ⟨_, rfl, Or.inl ⟨c38, by rw [hv2c c38, Gset_id]⟩⟩ | (refine ⟨_, rfl, Or.inr (Or.inl ⟨c38, ?_, f, rfl⟩)⟩; rcases hbad with z9 | z9; (exact absurd c38 z9); (exact z9.2))) (by decide) (by decide)
    · refine zz_iconst hx dX4_erase_41 ?_
      refine zz_goto hx 55 dX4_erase_42 rfl ?_
      refine zz_callVi hx me_X4_can lk_X4_70 (c_can hst _ (by omega)) 0 rfl rfl ⟨rfl, rfl⟩ (by decide) (by decide) rfl rfl (Nat.le_of_ble_eq_true rfl) dX4_erase_55 (fun _ _ h => h.elim) (fun r55 w55 hp55 => ?_)
      obtain ⟨rfl, rfl⟩ := hp55
      refine zz_ifb_ne hx 63 dX4_erase_58 rfl (fun z => absurd z (by decide)) (fun _ => ?_)
      refine zz_iconst hx dX4_erase_61 ?_
      exact zz_iret hx hf dX4_erase_62 (by first | exact ⟨_, rfl, Or.inl ⟨c38, by rw [hv2c c38, Gset_id]⟩⟩ | (refine ⟨_, rfl, Or.inr (Or.inl ⟨c38, ?_, f, rfl⟩)⟩; rcases hbad with z9 | z9; (exact absurd c38 z9); (exact z9.2))) (by decide) (by decide)
  refine zz_aload_n hx dX4_erase_0 rfl ?_
  refine zm_g14 hx lf_X4_53 dX4_erase_1 ?_
  refine zz_iconst hx dX4_erase_4 ?_
  refine zz_icmp_eq hx 17 dX4_erase_5 rfl (by omega) (by omega) (fun c5 => ?_) (fun c5 => ?_)
  · refine zz_iconst hx dX4_erase_17 ?_
    refine zz_goto hx 30 dX4_erase_18 rfl ?_
    first
      | (refine J30 _ f ?_
         rcases hwe with ⟨q1, q2, q3⟩ | ⟨⟨M, q1, q2, q3, q4, q5⟩, q6⟩
         · exact Or.inl ⟨q1, Or.inr ⟨c14, Or.inr ⟨c5, q2, q3⟩⟩, fun z9 => absurd c14 z9⟩
         · exact Or.inr ⟨c14, c5, q6, M, ⟨q1, q3, q5⟩, q2, q4⟩)
      | (rw [← Gset_id G 17]
         refine J30 _ (G 17) (Or.inl ⟨rfl, ?_, fun _ => rfl⟩)
         first
           | exact Or.inl c14
           | (rcases Decidable.em (0 ≤ y ∧ y ≤ 2) with z9 | z9; (exact Or.inr ⟨z9, Or.inl c5⟩); (exact Or.inl z9)))
  · refine zz_iload_n hx dX4_erase_8 rfl ?_
    refine zz_iconst hx dX4_erase_9 ?_
    refine zz_iconst hx dX4_erase_10 ?_
    refine zz_callSi hx ms_X4_isIn lk_X4_63 (c_isIn (a := a) hst _ _ _ (by omega) (by omega) (by omega)) ⟨rfl, rfl⟩ (by decide) (by decide) rfl rfl (Nat.le_of_ble_eq_true rfl) dX4_erase_11 (fun _ _ h => h.elim) (fun r11 w11 hp11 => ?_)
    obtain ⟨rfl, rfl⟩ := hp11
    refine zz_ifb_ne hx 21 dX4_erase_14 rfl (fun c14 => ?_) (fun c14 => ?_)
    · refine zz_aload_n hx dX4_erase_21 rfl ?_
      refine zz_aload_n hx dX4_erase_22 rfl ?_
      refine zm_g14 hx lf_X4_53 dX4_erase_23 ?_
      refine zz_iload_n hx dX4_erase_26 rfl ?_
      refine zz_callVi hx me_X4_marks lk_X4_103 (c_marks hst h.1 (F 14) y (by omega) (by omega) (by omega)) 0 rfl rfl ⟨rfl, rfl⟩ (by decide) (by decide) rfl rfl (Nat.le_of_ble_eq_true rfl) dX4_erase_27 (fun _ _ h => h.elim) (fun r27 w27 hp27 => ?_)
      obtain ⟨f, rfl, hwe⟩ := hp27
      first
        | (refine J30 _ f ?_
           rcases hwe with ⟨q1, q2, q3⟩ | ⟨⟨M, q1, q2, q3, q4, q5⟩, q6⟩
           · exact Or.inl ⟨q1, Or.inr ⟨c14, Or.inr ⟨c5, q2, q3⟩⟩, fun z9 => absurd c14 z9⟩
           · exact Or.inr ⟨c14, c5, q6, M, ⟨q1, q3, q5⟩, q2, q4⟩)
        | (rw [← Gset_id G 17]
           refine J30 _ (G 17) (Or.inl ⟨rfl, ?_, fun _ => rfl⟩)
           first
             | exact Or.inl c14
             | (rcases Decidable.em (0 ≤ y ∧ y ≤ 2) with z9 | z9; (exact Or.inr ⟨z9, Or.inl c5⟩); (exact Or.inl z9)))
    · refine zz_iconst hx dX4_erase_17 ?_
      refine zz_goto hx 30 dX4_erase_18 rfl ?_
      first
        | (refine J30 _ f ?_
           rcases hwe with ⟨q1, q2, q3⟩ | ⟨⟨M, q1, q2, q3, q4, q5⟩, q6⟩
           · exact Or.inl ⟨q1, Or.inr ⟨c14, Or.inr ⟨c5, q2, q3⟩⟩, fun z9 => absurd c14 z9⟩
           · exact Or.inr ⟨c14, c5, q6, M, ⟨q1, q3, q5⟩, q2, q4⟩)
        | (rw [← Gset_id G 17]
           refine J30 _ (G 17) (Or.inl ⟨rfl, ?_, fun _ => rfl⟩)
           first
             | exact Or.inl c14
             | (rcases Decidable.em (0 ≤ y ∧ y ≤ 2) with z9 | z9; (exact Or.inr ⟨z9, Or.inl c5⟩); (exact Or.inl z9)))
