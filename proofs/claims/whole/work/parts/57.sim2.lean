/-! finding -/
theorem sim_mk {g : zG} {b : Nat → Nat} {c : Int → Nat → Nat} {F : Nat → Int} {G : Nat → Int → Int} {Rw : Int → List Int} {I : Nat → Int} {Q : Nat → Int → Int} {P : Int → Nat → Int} {T : Int → Nat → Int → Int} {N : Nat} {rest w : va_W} {f v : Int} (h : mI F G Rw) (r : RD F G Rw I Q P T N) (hf : f = -1 ∨ 0 ≤ f ∧ f < F 6 ∧ G 8 f = 1) (hm : mkO g b c I Q P T N rest f v w) : v = f ∧ ∃ (I1 : Nat → Int) (Q1 : Nat → Int → Int) (P1 : Int → Nat → Int), w = wD g b c I1 Q1 P1 T N rest ∧ RD (becF F f) (becG F G f) Rw I1 Q1 P1 T N := by
  have h6 := h.1.2.1
  have h0 := h.1.1
  rcases hf with hf | hf
  · subst hf
    rcases hm with ⟨-, m1, m2⟩ | ⟨m0, -, -⟩
    · exact ⟨m1, I, Q, P, m2, by rw [becF, becG, if_pos rfl, if_pos rfl]; exact r⟩
    · exact absurd (rAt_no (by omega)) m0
  · have hne := (RD_rec h r f).mpr hf
    have hf1 : f ≠ -1 := by omega
    rcases hm with ⟨m0, -, -⟩ | ⟨-, m1, m2⟩
    · exact absurd m0 hne
    · refine ⟨m1, _, _, _, m2, ?_⟩
      have hty := RD_ty h r hf.1 hf.2.1 hf.2.2
      rw [becF, becG, if_neg hf1, if_neg hf1]
      obtain ⟨⟨r0, r1, r2, r5, rN⟩, r7, q0, q1, q10, q2, rs⟩ := r
      refine ⟨⟨r0, r1, rfl, r5, rN⟩, r7, q0, q1, q10, fun t t0 t1 => ?_, fun s s0 s1 => ?_⟩
      · show zup (Q 2) (Q 0 f) f t = zup (G 15) (G 9 f) f t
        rw [hty]
        by_cases e : t = G 9 f
        · rw [e, zup_s, zup_s]
        · rw [zup_n _ _ e, zup_n _ _ e]
          exact q2 t t0 t1
      · obtain ⟨⟨e0, e1, e2, e3, e4, e8⟩, t1, t2⟩ := rs s s0 s1
        have h5 := rOK_ring t2 hf.1 (show f < 60 by omega)
        have hiff : T s 5 f ≠ -1 ↔ (G 9 f = G 1 s ∨ G 11 (60 * s + f) ≠ -1) := by
          constructor
          · intro z
            rcases Decidable.em (G 9 f = G 1 s) with y | y
            · exact Or.inl y
            · exact Or.inr (fun y2 => z (h5.2.2.2.2.mpr ⟨fun y3 => y y3.2.2.2, y2⟩))
          · intro z y
            obtain ⟨y1, y2⟩ := h5.2.2.2.2.mp y
            rcases z with z | z
            · exact y1 ⟨hf.1, hf.2.1, hf.2.2, z⟩
            · exact z y2
        have h8 : mkP P T f (N : Int) s 8 = if 0 ≤ s ∧ s < F 0 ∧ (G 9 f = G 1 s ∨ G 11 (60 * s + f) ≠ -1) then f else G 16 s := by
          unfold mkP
          by_cases z : T s 5 f ≠ -1
          · rw [if_pos ⟨s0, s1, z⟩, Fup_s, if_pos ⟨s0, by omega, hiff.mp z⟩]
          · rw [if_neg (fun y => z y.2.2), if_neg (fun y => z (hiff.mpr y.2.2)), e8]
        have hk : ∀ k : Nat, k ≠ 8 → mkP P T f (N : Int) s k = P s k := fun k hk => by
          unfold mkP
          split
          · rw [Fup_n _ _ hk]
          · rfl
        refine ⟨⟨?_, ?_, ?_, ?_, ?_, h8⟩, t1, t2⟩
        · rw [hk 0 (by decide)]; exact e0
        · rw [hk 1 (by decide)]; exact e1
        · rw [hk 2 (by decide)]; exact e2
        · rw [hk 3 (by decide)]; exact e3
        · rw [hk 4 (by decide)]; exact e4
