/-! asking what would be erased leaves class and reference alike -/
theorem RD_17 {F : Nat → Int} {G : Nat → Int → Int} {Rw : Int → List Int} {I I1 : Nat → Int} {Q Q1 : Nat → Int → Int} {P : Int → Nat → Int} {T : Int → Nat → Int → Int} {N : Nat} (r : RD F G Rw I Q P T N) (f : Int → Int) (ha : aF I I1 Q Q1) : RD F (Gset G 17 f) Rw I1 Q1 P T N := by
  unfold RD at r ⊢
  rw [ha.1 0 (by decide), ha.1 1 (by decide), ha.1 2 (by decide), ha.1 5 (by decide), ha.2 0 (by decide) (by decide), ha.2 1 (by decide) (by decide), ha.2 2 (by decide) (by decide)]
  exact r
theorem RD_18 {F : Nat → Int} {G : Nat → Int → Int} {Rw : Int → List Int} {I : Nat → Int} {Q : Nat → Int → Int} {P : Int → Nat → Int} {T : Int → Nat → Int → Int} {N : Nat} (r : RD F G Rw I Q P T N) (c : Int) : RD (Fup F 18 c) G Rw I Q P T N := r
theorem aF_refl (I : Nat → Int) (Q : Nat → Int → Int) : aF I I Q Q := ⟨fun _ _ => rfl, fun _ _ _ => rfl⟩
/-- how many would be erased: one answer -/
theorem we_eq {F : Nat → Int} {G : Nat → Int → Int} {Rw : Int → List Int} {I : Nat → Int} {Q : Nat → Int → Int} {P : Int → Nat → Int} {T : Int → Nat → Int → Int} {N : Nat} (h : mI F G Rw) (r : RD F G Rw I Q P T N) {rc y v v' : Int} (hrc : rc ≠ -1)
    (hc : (v = -1 ∧ y = 0 ∧ ∃ s : Int, 0 ≤ s ∧ s < (N : Int) ∧ (gO F G s rc ∧ 0 < ((mOf (gW G s) rc (Rw s)).length : Int))) ∨ ∃ D : List Int, D.Nodup ∧ v = (D.length : Int) ∧ (y = 0 → ∀ s : Int, 0 ≤ s → s < (N : Int) → ¬ (gO F G s rc ∧ 0 < ((mOf (gW G s) rc (Rw s)).length : Int))) ∧ gDm P (gW G) (gO F G) Rw N y rc D)
    (hm : wEr G rc y v') : v = v' := by
  have hi := hm_iff h r hrc
  rcases hc with ⟨a, b, c⟩ | ⟨D, a, b, c, d⟩
  · rcases hm with ⟨a', -, -⟩ | ⟨-, z⟩
    · rw [a, a']
    · obtain ⟨s, u, y0, y1, y2, y3, y4⟩ := hi.mp c
      exact absurd y4 (z b s u y0 y1 y2 y3)
  · rcases hm with ⟨-, b', c'⟩ | ⟨⟨M, x1, x2, -, x4⟩, -⟩
    · obtain ⟨s, y0, y1, y2⟩ := hi.mpr c'
      exact absurd y2 (c b' s y0 y1)
    · rw [b, x2]
      exact congrArg _ (nodup_same a x1 fun u => by rw [dm_cl h r d u, x4 u])
