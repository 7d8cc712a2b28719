theorem hm_iff {F : Nat → Int} {G : Nat → Int → Int} {Rw : Int → List Int} {I : Nat → Int} {Q : Nat → Int → Int} {P : Int → Nat → Int} {T : Int → Nat → Int → Int} {N : Nat} (h : mI F G Rw) (r : RD F G Rw I Q P T N) {rc : Int} (hrc : rc ≠ -1) : (∃ s : Int, 0 ≤ s ∧ s < (N : Int) ∧ (gO F G s rc ∧ 0 < ((mOf (gW G s) rc (Rw s)).length : Int))) ↔ ∃ s u : Int, 0 ≤ s ∧ s < 6 ∧ 0 ≤ u ∧ u < 60 ∧ G 11 (60 * s + u) = rc := by
  have h0 := h.1.1
  have hN := r.1.2.2.2.2
  constructor
  · rintro ⟨s, s0, s1, ho, hl⟩
    obtain ⟨-, t1, t2⟩ := r.2.2.2.2.2.2 s s0 s1
    have hm := mOf_mem.mp (zat_mem (Int.le_refl 0) hl)
    obtain ⟨z0, z1, -⟩ := (t2.1.2.2.1 _).mp hm.1
    exact ⟨s, _, s0, by omega, z0, z1, hm.2⟩
  · rintro ⟨s, u, s0, s1, u0, u1, he⟩
    rcases h.1.2.2.2.2.1 s u s0 s1 u0 u1 with y | y
    · exact absurd (he.symm.trans y) hrc
    · rw [he] at y
      have hsN : s < (N : Int) := by have := y.2.2.1; omega
      obtain ⟨-, t1, t2⟩ := r.2.2.2.2.2.2 s s0 hsN
      refine ⟨s, s0, hsN, ⟨y.1, y.2.1, y.2.2.2.2.2.2.1, y.2.2.2.2.2.2.2⟩, ?_⟩
      have hm : u ∈ mOf (gW G s) rc (Rw s) := mOf_mem.mpr ⟨(t2.1.2.2.1 u).mpr ⟨u0, u1, by show G 11 (60 * s + u) ≠ -1; rw [he]; exact hrc⟩, he⟩
      have := List.length_pos_of_mem hm
      omega
