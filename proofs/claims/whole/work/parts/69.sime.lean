/-! changing a value -/
theorem sim_mod {F : Nat → Int} {G : Nat → Int → Int} {Rw : Int → List Int} {I : Nat → Int} {Q : Nat → Int → Int} {P : Int → Nat → Int} {T : Int → Nat → Int → Int} {N : Nat} (h : mI F G Rw) (r : RD F G Rw I Q P T N) {v : Int} {T1 : Int → Nat → Int → Int} {G1 : Nat → Int → Int} {Rw1 : Int → List Int} (hv : -1000 ≤ v ∧ v ≤ 1000) (hm : F 14 ≠ -1)
    (hs : ∀ s : Int, 0 ≤ s → s < (N : Int) → soO (P s) ((Gset Q 1 (zup (Q 1) (I 2) v)) 1) (gW G s) (Rw s) (I 2) (T s) (T1 s)) (ho : modO F G Rw v G1 Rw1 (F 0)) :
    Q 1 (I 2) = G 10 (F 14) ∧ RD F G1 Rw1 I (Gset Q 1 (zup (Q 1) (I 2) v)) P T1 N ∧ mI F G1 Rw1 := by
  have h6 := h.1.2.1
  have h0 := h.1.1
  have hN := r.1.2.2.2.2
  have hi2 := r.1.2.2.1
  have hu := h.2.1.resolve_left hm
  rw [hi2] at hs ⊢
  obtain ⟨hS1, h11, hk, hR⟩ := ho
  have e1 : G1 1 = G 1 := (hk 1 (by decide) (by decide) (by decide)).trans rfl
  have e2 : G1 2 = G 2 := (hk 2 (by decide) (by decide) (by decide)).trans rfl
  have e3 : G1 3 = G 3 := (hk 3 (by decide) (by decide) (by decide)).trans rfl
  have e4 : G1 4 = G 4 := (hk 4 (by decide) (by decide) (by decide)).trans rfl
  have e5 : G1 5 = G 5 := (hk 5 (by decide) (by decide) (by decide)).trans rfl
  have e8 : G1 8 = G 8 := (hk 8 (by decide) (by decide) (by decide)).trans rfl
  have e9 : G1 9 = G 9 := (hk 9 (by decide) (by decide) (by decide)).trans rfl
  have e10 : G1 10 = zup (G 10) (F 14) v := (hk 10 (by decide) (by decide) (by decide)).trans rfl
  have e15 : G1 15 = G 15 := (hk 15 (by decide) (by decide) (by decide)).trans rfl
  have e16 : G1 16 = G 16 := (hk 16 (by decide) (by decide) (by decide)).trans rfl
  have eW : ∀ s : Int, gW G1 s = gW G s := fun s => by unfold gW; rw [h11]
  have eO : ∀ s : Int, gO F G1 s = gO F G s := fun s => by unfold gO; rw [e8, e9, e1]
  refine ⟨r.2.2.2.2.1 _ hu.1 hu.2.1, ?_, hS1, ?_⟩
  · obtain ⟨r0, r7, q0, q1, q10, q2, rs⟩ := id r
    refine ⟨r0, r7, fun u u0 u1 => ?_, fun u u0 u1 => ?_, fun u u0 u1 => ?_, fun t t0 t1 => ?_, fun s s0 s1 => ?_⟩
    · rw [e8, e9]; exact q0 u u0 u1
    · show -1000 ≤ zup (Q 1) (F 14) v u ∧ zup (Q 1) (F 14) v u ≤ 1000
      by_cases c : u = F 14
      · rw [c, zup_s]; exact hv
      · rw [zup_n _ _ c]; exact q1 u u0 u1
    · show zup (Q 1) (F 14) v u = G1 10 u
      rw [e10]
      by_cases c : u = F 14
      · rw [c, zup_s, zup_s]
      · rw [zup_n _ _ c, zup_n _ _ c]; exact q10 u u0 u1
    · rw [e15]; exact q2 t t0 t1
    · obtain ⟨ep, t1, t2⟩ := rs s s0 s1
      rw [e1, e2, e3, e4, e5, e16, eO s, eW s]
      refine ⟨ep, ?_⟩
      have hso := hs s s0 s1
      have hd := h.1.2.2.1 s s0 (by omega)
      obtain ⟨hR1, hR2⟩ := hR s s0 (by omega)
      have hmem : F 14 ∈ Rw s ↔ G 11 (60 * s + F 14) ≠ -1 := ⟨fun z => ((t2.1.2.2.1 _).mp z).2.2, fun z => (t2.1.2.2.1 _).mpr ⟨hu.1, by omega, z⟩⟩
      rcases hso with ⟨c, hT⟩ | ⟨⟨c4, cL⟩, T', j, hout, hf, hj0, hins⟩
      · rw [hT, hR2 (fun z => c ⟨by rw [ep.2.2.1]; exact z.2.2, hmem.mpr z.2.1⟩)]
        exact ⟨t1, t2⟩
      · rw [ep.2.2.1] at c4
        obtain ⟨p, hp, hRe⟩ := hR1 ⟨by omega, hmem.mp cL, c4⟩
        have hro := rC_no t2.1 cL
        have hqo := t2.1.2.2.2 _ cL
        have hk1 := rOK_out t2 cL hout.1 hout.2.1 hout.2.2.1
        have hG' : gW (Gset (Gup G 10 (F 14) v) 11 (zup (G 11) (60 * s + F 14) (-1))) s = zup (gW G s) (F 14) (-1) := funext fun u => by
          show zup (G 11) (60 * s + F 14) (-1) (60 * s + u) = _
          by_cases e : u = F 14
          · rw [e, zup_s, zup_s]
          · rw [zup_n _ _ (show 60 * s + u ≠ 60 * s + F 14 by omega), zup_n _ _ e]; rfl
        have hp' : nPl (Gset (Gup G 10 (F 14) v) 11 (zup (G 11) (60 * s + F 14) (-1))) s (F 14) (gW G s (F 14)) (zdel (Rw s) (F 14)) p := by
          refine nPl_congr (G' := Gup G 10 (F 14) v) rfl rfl rfl (fun u hu2 => ?_) (fun z => absurd c4 z) hp
          show G 11 (60 * s + u) = zup (G 11) (60 * s + F 14) (-1) (60 * s + u)
          have hne := (zdel_mem.mp hu2).2
          rw [zup_n _ _ (show 60 * s + u ≠ 60 * s + F 14 by omega)]
        have h8r : -1 ≤ G 16 s ∧ G 16 s < 60 := by rcases h.2.2.2 s s0 (by omega) with z | z <;> omega
        rw [ep.2.2.2.2.2, ep.2.2.1] at hf
        obtain ⟨-, hk3⟩ := sim_ins (G := Gset (Gup G 10 (F 14) v) 11 (zup (G 11) (60 * s + F 14) (-1))) (V := (Gset Q 1 (zup (Q 1) (F 14) v)) 1) (q := gW G s (F 14)) (r := F 14) (isO := gO F G s) (L := zdel (Rw s) (F 14)) (by rw [hG']; exact hk1) (fun u hu2 => by
            show zup (Q 1) (F 14) v u = zup (G 10) (F 14) v u
            rcases hu2 with z | z
            · rw [z, zup_s, zup_s]
            · have z2 := zdel_mem.mp z
              rw [zup_n _ _ z2.2, zup_n _ _ z2.2]
              obtain ⟨y0, y1, y2⟩ := (t2.1.2.2.1 _).mp z2.1
              rcases h.1.2.2.2.2.1 s u s0 (by omega) y0 y1 with x | x
              · exact absurd x y2
              · exact q10 u y0 x.2.2.2.1)
          hd.2.2.2.1 (fun hne he => by
            refine (hk1.1.2.2.1 _).mpr ⟨?_, h8r.2, ?_⟩
            · have : G 16 s ≠ -1 := hne
              show 0 ≤ G 16 s
              omega
            · rw [← hG']
              have hx : gW (Gset (Gup G 10 (F 14) v) 11 (zup (G 11) (60 * s + F 14) (-1))) s (G 16 s) = gW G s (F 14) := he
              show gW (Gset (Gup G 10 (F 14) v) 11 (zup (G 11) (60 * s + F 14) (-1))) s (G 16 s) ≠ -1
              rw [hx]
              exact hro.2.2.2.1) hqo (fun z => (zdel_mem.mp z).2 rfl) hu.1 (by omega) hro.1 (by rw [hG']; exact hf) (by rw [hG']; exact hins) hp'
        rw [hG', zup_zup, zup_id, ← hRe] at hk3
        exact ⟨hins.2.2.2, hk3⟩
  · unfold mC
    rw [e15, e8, e9, e16, e1, h11]
    exact h.2
