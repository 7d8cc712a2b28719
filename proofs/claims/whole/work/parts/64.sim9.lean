/-! declaring a set type, while nothing is stored -/
theorem sim_dec {F : Nat → Int} {G : Nat → Int → Int} {Rw : Int → List Int} {I I1 : Nat → Int} {Q : Nat → Int → Int} {P : Int → Nat → Int} {T : Int → Nat → Int → Int} {N : Nat} {p q i z y : Int} (h : mI F G Rw) (r : RD F G Rw I Q P T N) (hA : (0 ≤ p ∧ p ≤ 3) ∧ (0 ≤ q ∧ q ≤ 3) ∧ (0 ≤ i ∧ i ≤ 4) ∧ (0 ≤ y ∧ y ≤ 2) ∧ p ≠ q) (hz : z = 0 ∨ z = 1) (hN : N < 6) (h60 : F 6 = 0) (hI : I1 = Fup (Fup I 4 (I 4 + 1)) 5 ((N : Int) + 1)) :
    RD (Fup F 0 (F 0 + 1)) (Gup (Gup (Gup (Gup (Gup G 1 (F 0) p) 2 (F 0) q) 3 (F 0) i) 4 (F 0) z) 5 (F 0) y) Rw I1 Q (upI P (N : Int) (fun k => [p, q, i, z, y, 0, 0, 0, -1].getD k 0)) (upI T (N : Int) (fun _ => rowF 60)) (N + 1) ∧ mI (Fup F 0 (F 0 + 1)) (Gup (Gup (Gup (Gup (Gup G 1 (F 0) p) 2 (F 0) q) 3 (F 0) i) 4 (F 0) z) 5 (F 0) y) Rw := by
  have hno : ∀ s u : Int, 0 ≤ s → s < 6 → 0 ≤ u → u < 60 → G 11 (60 * s + u) = -1 := fun s u a b c d => by
    rcases h.1.2.2.2.2.1 s u a b c d with e | e
    · exact e
    · have := e.2.2.2.1; omega
  obtain ⟨hS, hC⟩ := id h
  obtain ⟨⟨r0, r1, r2, r5, rN⟩, r7, q0, q1, q10, q2, rs⟩ := r
  have f16 : ∀ s : Int, 0 ≤ s → s < 6 → G 16 s = -1 := fun s a b => by
    rcases hC.2.2 s a b with e | e
    · exact e
    · have := e.2.2.1; have := e.2.1; omega
  subst hI
  refine ⟨⟨⟨r0, r1, r2, rfl, by show F 0 + 1 = ((N + 1 : Nat) : Int); omega⟩, r7, q0, q1, q10, q2, fun s s0 s1 => ?_⟩, ⟨⟨by show 0 ≤ F 0 + 1; omega, by show F 0 + 1 ≤ 6; omega⟩, hS.2.1, fun s s0 s1 => ?_, hS.2.2.2.1, fun s u a b c d => Or.inl (hno s u a b c d), hS.2.2.2.2.2⟩, hC.1, hC.2.1, fun s a b => Or.inl (f16 s a b)⟩
  · rw [rN]
    by_cases e : s = (N : Int)
    · subst e
      rw [upI_s, upI_s]
      have hR : Rw (N : Int) = [] := List.eq_nil_iff_forall_not_mem.mpr fun u hu => by
        obtain ⟨a, b, c⟩ := ((hS.2.2.2.2.2 (N : Int) s0 (by omega)).2.2.2 u).mp hu
        exact c (hno _ u s0 (by omega) a b)
      refine ⟨⟨(zup_s _ _ _).symm, (zup_s _ _ _).symm, (zup_s _ _ _).symm, (zup_s _ _ _).symm, (zup_s _ _ _).symm, (f16 _ s0 (by omega)).symm⟩, fun k u u0 u1 => by show -1 ≤ rowF 60 u ∧ rowF 60 u < 60; rw [rowF_in u0 u1]; omega, ?_⟩
      have hOn : ∀ o : Int, ¬ gO (Fup F 0 ((N : Int) + 1)) (Gup (Gup (Gup (Gup (Gup G 1 (N : Int) p) 2 (N : Int) q) 3 (N : Int) i) 4 (N : Int) z) 5 (N : Int) y) (N : Int) o := fun o ho => by
        have a := ho.1
        have b : o < F 6 := ho.2.1
        omega
      rw [hR]
      refine ⟨⟨fun o ho => absurd ho (hOn o), List.nodup_nil, fun u => ⟨fun hu => (by cases hu), fun hu => absurd (hno _ u s0 (by omega) hu.1 hu.2.1) hu.2.2⟩, fun u hu => (by cases hu)⟩, fun u u0 u1 => ⟨fun ho => absurd ho (hOn u), fun _ => ?_⟩, fun o ho => absurd ho (hOn o)⟩
      show rowF 60 u = _
      rw [rowF_in u0 u1]
      exact (hno _ u s0 (by omega) u0 u1).symm
    · rw [upI_n _ _ e, upI_n _ _ e]
      obtain ⟨⟨e0, e1, e2, e3, e4, e8⟩, t1, t2⟩ := rs s s0 (by omega)
      refine ⟨⟨?_, ?_, ?_, ?_, ?_, e8⟩, t1, rOK_congr t2 rfl (fun u => ⟨fun ho => absurd ho.2.1 (by have := ho.1; omega), fun ho => absurd (show u < F 6 from ho.2.1) (by have := ho.1; omega)⟩) (fun u _ _ => rfl)⟩
      · rw [e0]; exact (zup_n _ _ e).symm
      · rw [e1]; exact (zup_n _ _ e).symm
      · rw [e2]; exact (zup_n _ _ e).symm
      · rw [e3]; exact (zup_n _ _ e).symm
      · rw [e4]; exact (zup_n _ _ e).symm
  · have s1' : s < F 0 + 1 := s1
    by_cases e : s = F 0
    · subst e
      refine ⟨?_, ?_, ?_, ?_, ?_, ?_⟩
      · show 0 ≤ zup (G 1) (F 0) p (F 0) ∧ zup (G 1) (F 0) p (F 0) ≤ 3
        rw [zup_s]; exact hA.1
      · show 0 ≤ zup (G 2) (F 0) q (F 0) ∧ zup (G 2) (F 0) q (F 0) ≤ 3
        rw [zup_s]; exact hA.2.1
      · show zup (G 1) (F 0) p (F 0) ≠ zup (G 2) (F 0) q (F 0)
        rw [zup_s, zup_s]; exact hA.2.2.2.2
      · show 0 ≤ zup (G 3) (F 0) i (F 0) ∧ zup (G 3) (F 0) i (F 0) ≤ 4
        rw [zup_s]; exact hA.2.2.1
      · show zup (G 4) (F 0) z (F 0) = 0 ∨ zup (G 4) (F 0) z (F 0) = 1
        rw [zup_s]; exact hz
      · show 0 ≤ zup (G 5) (F 0) y (F 0) ∧ zup (G 5) (F 0) y (F 0) ≤ 2
        rw [zup_s]; exact hA.2.2.2.1
    · have hd := hS.2.2.1 s s0 (by omega)
      have z1 : zup (G 1) (F 0) p s = G 1 s := zup_n _ _ e
      have z2 : zup (G 2) (F 0) q s = G 2 s := zup_n _ _ e
      have z3 : zup (G 3) (F 0) i s = G 3 s := zup_n _ _ e
      have z4 : zup (G 4) (F 0) z s = G 4 s := zup_n _ _ e
      have z5 : zup (G 5) (F 0) y s = G 5 s := zup_n _ _ e
      show (0 ≤ zup (G 1) (F 0) p s ∧ zup (G 1) (F 0) p s ≤ 3) ∧ (0 ≤ zup (G 2) (F 0) q s ∧ zup (G 2) (F 0) q s ≤ 3) ∧ zup (G 1) (F 0) p s ≠ zup (G 2) (F 0) q s ∧ (0 ≤ zup (G 3) (F 0) i s ∧ zup (G 3) (F 0) i s ≤ 4) ∧ (zup (G 4) (F 0) z s = 0 ∨ zup (G 4) (F 0) z s = 1) ∧ (0 ≤ zup (G 5) (F 0) y s ∧ zup (G 5) (F 0) y s ≤ 2)
      rw [z1, z2, z3, z4, z5]
      exact hd
