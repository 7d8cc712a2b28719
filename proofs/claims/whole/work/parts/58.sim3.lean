/-! connecting, disconnecting, reconnecting: one set type changes -/
theorem RD_set {F : Nat → Int} {G G2 : Nat → Int → Int} {Rw Rw2 : Int → List Int} {I : Nat → Int} {Q : Nat → Int → Int} {P : Int → Nat → Int} {T : Int → Nat → Int → Int} {N : Nat} {T1 : Nat → Int → Int} {s c : Int} (r : RD F G Rw I Q P T N) (s0 : 0 ≤ s) (s1 : s < (N : Int)) (hk : ∀ k : Nat, k ≠ 11 → k ≠ 12 → k ≠ 13 → k ≠ 16 → G2 k = G k) (h16 : ∀ t : Int, t ≠ s → G2 16 t = G 16 t) (hc : G2 16 s = c) (hw : ∀ t u : Int, t ≠ s → 0 ≤ u → u < 60 → gW G2 t u = gW G t u) (hR : ∀ t : Int, t ≠ s → Rw2 t = Rw t) (hr1 : rR T1) (hk1 : rOK T1 (gW G2 s) (gO F G s) (Rw2 s)) : RD F G2 Rw2 I Q (upI P s (Fup (P s) 8 c)) (upI T s T1) N := by
  obtain ⟨r0, r7, q0, q1, q10, q2, rs⟩ := r
  have hO : ∀ t : Int, gO F G2 t = gO F G t := fun t => by
    unfold gO
    rw [hk 8 (by decide) (by decide) (by decide) (by decide), hk 9 (by decide) (by decide) (by decide) (by decide), hk 1 (by decide) (by decide) (by decide) (by decide)]
  unfold RD
  rw [hk 8 (by decide) (by decide) (by decide) (by decide), hk 9 (by decide) (by decide) (by decide) (by decide), hk 10 (by decide) (by decide) (by decide) (by decide), hk 15 (by decide) (by decide) (by decide) (by decide), hk 1 (by decide) (by decide) (by decide) (by decide), hk 2 (by decide) (by decide) (by decide) (by decide), hk 3 (by decide) (by decide) (by decide) (by decide), hk 4 (by decide) (by decide) (by decide) (by decide), hk 5 (by decide) (by decide) (by decide) (by decide)]
  refine ⟨r0, r7, q0, q1, q10, q2, fun t t0 t1 => ?_⟩
  rw [hO t]
  obtain ⟨⟨e0, e1, e2, e3, e4, e8⟩, g1, g2⟩ := rs t t0 t1
  by_cases e : t = s
  · subst e
    rw [upI_s, upI_s]
    refine ⟨⟨?_, ?_, ?_, ?_, ?_, by rw [Fup_s, hc]⟩, hr1, hk1⟩
    · rw [Fup_n _ _ (by decide)]; exact e0
    · rw [Fup_n _ _ (by decide)]; exact e1
    · rw [Fup_n _ _ (by decide)]; exact e2
    · rw [Fup_n _ _ (by decide)]; exact e3
    · rw [Fup_n _ _ (by decide)]; exact e4
  · rw [upI_n _ _ e, upI_n _ _ e, h16 t e, hR t e]
    exact ⟨⟨e0, e1, e2, e3, e4, e8⟩, g1, rOK_congr g2 rfl (fun _ => Iff.rfl) (fun u u0 u1 => (hw t u e u0 u1).symm)⟩
theorem zmem_gW (G : Nat → Int → Int) (s o : Int) (l : List Int) : zmem G s o l = mOf (gW G s) o l := rfl
theorem mOf_congr {ow ow' : Int → Int} {o : Int} {L : List Int} (h : ∀ u ∈ L, ow u = ow' u) : mOf ow o L = mOf ow' o L := List.filter_congr fun u hu => by rw [h u hu]
/-- the current of a set type, when q is its owner, stands in the row -/
theorem cur_row {F : Nat → Int} {G : Nat → Int → Int} {Rw : Int → List Int} (h : mI F G Rw) {s q : Int} (s0 : 0 ≤ s) (s1 : s < F 0) (hq : q ≠ -1) : G 16 s ≠ -1 → G 11 (60 * s + G 16 s) = q → G 16 s ∈ Rw s := fun hne he => by
  have h0 := h.1.1
  have h6 := h.1.2.1
  rcases h.2.2.2 s s0 (by omega) with z | ⟨z0, z1, z2, z3, -⟩
  · exact absurd z hne
  · exact ((h.1.2.2.2.2.2 s s0 (by omega)).2.2.2 (G 16 s)).mpr ⟨z1, by omega, by rw [he]; exact hq⟩
/-- the owner that currentOwner answers -/
theorem cur_own {F : Nat → Int} {G : Nat → Int → Int} {Rw : Int → List Int} {I : Nat → Int} {Q : Nat → Int → Int} {P : Int → Nat → Int} {T : Int → Nat → Int → Int} {N : Nat} (h : mI F G Rw) (r : RD F G Rw I Q P T N) {s : Int} (s0 : 0 ≤ s) (s1 : s < (N : Int)) : rAt 60 (T s 5) (P s 8) = curO G s := by
  have h0 := h.1.1
  have h6 := h.1.2.1
  have hN := r.1.2.2.2.2
  obtain ⟨⟨-, -, -, -, -, e8⟩, t1, t2⟩ := r.2.2.2.2.2.2 s s0 s1
  rw [e8]
  unfold curO
  rcases h.2.2.2 s s0 (by omega) with z | ⟨z0, z1, z2, z3, z4⟩
  · rw [if_pos (Or.inl z), z]
    exact rAt_no (by omega)
  · rw [rAt_in z1 (by omega)]
    have h5 := t2.2.1 (G 16 s) z1 (by omega)
    by_cases c : G 9 (G 16 s) = G 1 s
    · rw [if_pos (Or.inr c)]
      exact h5.1 ⟨z1, z2, z3, c⟩
    · rw [if_neg (fun y => by rcases y with y | y; omega; exact c y)]
      exact h5.2 (fun y => c y.2.2.2)
