/-! storing a record -/
theorem sim_sto {F : Nat → Int} {G : Nat → Int → Int} {Rw : Int → List Int} {I : Nat → Int} {Q : Nat → Int → Int} {P : Int → Nat → Int} {T : Int → Nat → Int → Int} {N : Nat} (h : mI F G Rw) (r : RD F G Rw I Q P T N) {t v : Int} {T1 : Int → Nat → Int → Int} {G1 : Nat → Int → Int} {Rw1 : Int → List Int} (ht : 0 ≤ t ∧ t ≤ 3) (hv : -1000 ≤ v ∧ v ≤ 1000) (h60 : F 6 < 60) (hall : ∀ s : Int, 0 ≤ s → s < F 0 → ¬ (G 4 s = 1 ∧ G 2 s = t ∧ G 16 s = -1))
    (hs : ∀ s : Int, 0 ≤ s → s < (N : Int) → adO (P s) ((Gset (Gset Q 0 (zup (Q 0) (I 0) t)) 1 (zup (Q 1) (I 0) v)) 1) (gW G s) (Rw s) t (I 0) (T s) (T1 s)) (ho : stoO F G Rw t v G1 Rw1 (F 0)) :
    RD (stoF F) G1 Rw1 (Fup (Fup I 0 (I 0 + 1)) 1 (I 1 + 1)) (Gset (Gset Q 0 (zup (Q 0) (I 0) t)) 1 (zup (Q 1) (I 0) v)) P T1 N ∧ mI (stoF F) G1 Rw1 := by
  have h6 := h.1.2.1
  have h0 := h.1.1
  have hno := (mS_new h h60 ht hv).2
  obtain ⟨⟨r0, r1, r2, r5, rN⟩, r7, q0, q1, q10, q2, rs⟩ := id r
  rw [r0] at hs ⊢
  obtain ⟨hS1, hk, hO, hR⟩ := ho
  have e1 : G1 1 = G 1 := (hk 1 (by decide) (by decide) (by decide)).trans rfl
  have e2 : G1 2 = G 2 := (hk 2 (by decide) (by decide) (by decide)).trans rfl
  have e3 : G1 3 = G 3 := (hk 3 (by decide) (by decide) (by decide)).trans rfl
  have e4 : G1 4 = G 4 := (hk 4 (by decide) (by decide) (by decide)).trans rfl
  have e5 : G1 5 = G 5 := (hk 5 (by decide) (by decide) (by decide)).trans rfl
  have e8 : G1 8 = zup (G 8) (F 6) 1 := (hk 8 (by decide) (by decide) (by decide)).trans rfl
  have e9 : G1 9 = zup (G 9) (F 6) t := (hk 9 (by decide) (by decide) (by decide)).trans rfl
  have e10 : G1 10 = zup (G 10) (F 6) v := (hk 10 (by decide) (by decide) (by decide)).trans rfl
  have e15 : G1 15 = G 15 := (hk 15 (by decide) (by decide) (by decide)).trans rfl
  have e16 : G1 16 = G 16 := (hk 16 (by decide) (by decide) (by decide)).trans rfl
  have eO : ∀ s u : Int, gO F G s u ∨ (u = F 6 ∧ t = G 1 s) ↔ gO (stoF F) G1 s u := fun s u => by
    show _ ↔ (0 ≤ u ∧ u < F 6 + 1 ∧ G1 8 u = 1 ∧ G1 9 u = G1 1 s)
    rw [e8, e9, e1]
    unfold gO
    by_cases c : u = F 6
    · rw [c, zup_s, zup_s]
      constructor
      · rintro (z | z)
        · exact absurd z.2.1 (by omega)
        · exact ⟨h6.1, by omega, rfl, z.2⟩
      · intro z
        exact Or.inr ⟨rfl, z.2.2.2⟩
    · rw [zup_n _ _ c, zup_n _ _ c]
      constructor
      · rintro (z | z)
        · exact ⟨z.1, by have := z.2.1; omega, z.2.2⟩
        · exact absurd z.1 c
      · intro z
        exact Or.inl ⟨z.1, by have := z.2.1; omega, z.2.2⟩
  refine ⟨?_, hS1, ?_⟩
  · refine ⟨⟨rfl, by show I 1 + 1 = F 7 + 1; omega, r2, r5, rN⟩, by show F 7 + 1 ≤ F 6 + 1; omega, fun u u0 u1 => ?_, fun u u0 u1 => ?_, fun u u0 u1 => ?_, fun a a0 a1 => ?_, fun s s0 s1 => ?_⟩
    · show zup (Q 0) (F 6) t u = if u < F 6 + 1 ∧ G1 8 u = 1 then G1 9 u else -1
      rw [e8, e9]
      by_cases c : u = F 6
      · rw [c, zup_s, zup_s, zup_s, if_pos ⟨by omega, rfl⟩]
      · rw [zup_n _ _ c, zup_n _ _ c, zup_n _ _ c, q0 u u0 u1]
        by_cases c2 : u < F 6 ∧ G 8 u = 1
        · rw [if_pos c2, if_pos ⟨by have := c2.1; omega, c2.2⟩]
        · rw [if_neg c2, if_neg (fun z => c2 ⟨by have := z.1; omega, z.2⟩)]
    · show -1000 ≤ zup (Q 1) (F 6) v u ∧ zup (Q 1) (F 6) v u ≤ 1000
      by_cases c : u = F 6
      · rw [c, zup_s]; exact hv
      · rw [zup_n _ _ c]; exact q1 u u0 u1
    · have u1 : u < F 6 + 1 := u1
      show zup (Q 1) (F 6) v u = G1 10 u
      rw [e10]
      by_cases c : u = F 6
      · rw [c, zup_s, zup_s]
      · rw [zup_n _ _ c, zup_n _ _ c]; exact q10 u u0 (by omega)
    · rw [e15]; exact q2 a a0 a1
    · obtain ⟨ep, t1, t2⟩ := rs s s0 s1
      rw [e1, e2, e3, e4, e5, e16]
      refine ⟨ep, ?_⟩
      have hso := hs s s0 s1
      have hd := h.1.2.2.1 s s0 (by omega)
      obtain ⟨hR1, hR2⟩ := hR s s0 (by omega)
      have hnf : gW G s (F 6) = -1 := hno s s0 (by omega)
      have hnL : F 6 ∉ Rw s := fun z => ((t2.1.2.2.1 _).mp z).2.2 hnf
      have hnO : ¬ gO F G s (F 6) := fun z => by have := z.2.1; omega
      have eWo : ∀ u : Int, 0 ≤ u → u < 60 → u ≠ F 6 → gW G1 s u = gW G s u := fun u u0 u1 u2 => hO s u s0 (by omega) u0 u1 u2
      obtain ⟨hrR, hso⟩ := hso
      refine ⟨hrR, ?_⟩
      rw [ep.1, ep.2.1, ep.2.2.2.1] at hso
      rcases hso with ⟨c, x5, x6, x7⟩ | ⟨c, c2, j, hf, -, hins⟩ | ⟨c, c2, hT⟩
      · obtain ⟨hRe, hRf⟩ := hR2 (fun z => hd.2.2.1 (by rw [z.2.2, c]))
        rw [hRe]
        refine rOK_congr (rOK_own t2 h6.1 h60 hnf hnO x5 x6 x7) rfl (fun u => ?_) (fun u u0 u1 => ?_)
        · rw [← eO s u]
          exact ⟨fun z => z.imp id (fun y => ⟨y, c⟩), fun z => z.imp id (fun y => y.1)⟩
        · by_cases e : u = F 6
          · rw [e, hnf]; exact hRf.symm
          · exact (eWo u u0 u1 e).symm
      · obtain ⟨⟨p, hp, hRe⟩, hRf⟩ := hR1 ⟨by omega, c2.1, c2.2⟩
        have hcn : G 16 s ≠ -1 := fun z => hall s s0 (by omega) ⟨c2.1, c2.2, z⟩
        have hcu := cur_own h r s0 s1
        have hco := curO_ok h s0 (by omega) hcn
        rw [hcu] at hf hins
        rw [ep.2.2.2.2.2, ep.2.2.1] at hf
        obtain ⟨-, hk3⟩ := sim_ins (G := stoG F G t v) (V := (Gset (Gset Q 0 (zup (Q 0) (F 6) t)) 1 (zup (Q 1) (F 6) v)) 1) (q := curO G s) (r := F 6) (isO := gO F G s) (L := Rw s) t2 (fun u hu2 => by
            show zup (Q 1) (F 6) v u = zup (G 10) (F 6) v u
            rcases hu2 with z | z
            · rw [z, zup_s, zup_s]
            · have z2 : u ≠ F 6 := fun e => hnL (e ▸ z)
              rw [zup_n _ _ z2, zup_n _ _ z2]
              obtain ⟨y0, y1, y2⟩ := (t2.1.2.2.1 _).mp z
              rcases h.1.2.2.2.2.1 s u s0 (by omega) y0 y1 with x | x
              · exact absurd x y2
              · exact q10 u y0 x.2.2.2.1)
          hd.2.2.2.1 (cur_row h s0 (by omega) (by omega)) hco hnL h6.1 h60 hnO hf hins hp
        rw [hRe]
        refine rOK_congr hk3 rfl (fun u => ?_) (fun u u0 u1 => ?_)
        · rw [← eO s u]
          exact ⟨fun z => Or.inl z, fun z => by rcases z with y | y; exact y; exact absurd y.2 c⟩
        · by_cases e : u = F 6
          · rw [e, zup_s]; exact hRf.symm
          · rw [zup_n _ _ e]; exact (eWo u u0 u1 e).symm
      · obtain ⟨hRe, hRf⟩ := hR2 (fun z => c2 z.2)
        rw [hRe, hT]
        refine rOK_congr t2 rfl (fun u => ?_) (fun u u0 u1 => ?_)
        · rw [← eO s u]
          exact ⟨fun z => Or.inl z, fun z => by rcases z with y | y; exact y; exact absurd y.2 c⟩
        · by_cases e : u = F 6
          · rw [e, hnf]; exact hRf.symm
          · exact (eWo u u0 u1 e).symm
  · refine ⟨?_, fun a a0 a1 => ?_, fun s s0 s1 => ?_⟩
    · show F 14 = -1 ∨ (0 ≤ F 14 ∧ F 14 < F 6 + 1 ∧ G1 8 (F 14) = 1)
      rcases h.2.1 with z | ⟨z0, z1, z2⟩
      · exact Or.inl z
      · exact Or.inr ⟨z0, by omega, by rw [e8, zup_n _ _ (by omega)]; exact z2⟩
    · show G1 15 a = -1 ∨ (0 ≤ G1 15 a ∧ G1 15 a < F 6 + 1 ∧ G1 8 (G1 15 a) = 1 ∧ G1 9 (G1 15 a) = a)
      rw [e15, e8, e9]
      rcases h.2.2.1 a a0 a1 with z | ⟨z0, z1, z2, z3⟩
      · exact Or.inl z
      · exact Or.inr ⟨z0, by omega, by rw [zup_n _ _ (by omega)]; exact z2, by rw [zup_n _ _ (by omega)]; exact z3⟩
    · show G1 16 s = -1 ∨ (s < F 0 ∧ 0 ≤ G1 16 s ∧ G1 16 s < F 6 + 1 ∧ G1 8 (G1 16 s) = 1 ∧ (G1 9 (G1 16 s) = G1 1 s ∨ G1 11 (60 * s + G1 16 s) ≠ -1))
      rw [e16, e8, e9, e1]
      rcases h.2.2.2 s s0 s1 with z | ⟨z0, z1, z2, z3, z4⟩
      · exact Or.inl z
      · exact Or.inr ⟨z0, z1, by omega, by rw [zup_n _ _ (by omega)]; exact z3, by rw [zup_n _ _ (show G 16 s ≠ F 6 by omega), hO s _ s0 s1 z1 (by omega) (by omega)]; exact z4⟩
