/-- the first record of a type, from a start on: one answer -/
theorem fo_uniq {F : Nat → Int} {G : Nat → Int → Int} {Rw : Int → List Int} {I : Nat → Int} {Q : Nat → Int → Int} {P : Int → Nat → Int} {T : Int → Nat → Int → Int} {N : Nat} (h : mI F G Rw) (r : RD F G Rw I Q P T N) {t z v f : Int} (ht : 0 ≤ t ∧ t ≤ 3) (hz : z = 0 ∨ z = 1)
    (hc : (v = -1 ∧ ∀ j : Int, (if z ≠ 0 then 0 else Q 2 t + 1) ≤ j → j < I 0 → Q 0 j ≠ t) ∨ (((if z ≠ 0 then 0 else Q 2 t + 1) ≤ v ∧ v < I 0) ∧ Q 0 v = t ∧ ∀ j : Int, (if z ≠ 0 then 0 else Q 2 t + 1) ≤ j → j < v → Q 0 j ≠ t))
    (hm : (f = -1 ∧ ∀ j : Int, 0 ≤ j → j < F 6 → ¬ (G 8 j = 1 ∧ G 9 j = t ∧ (z ≠ 0 ∨ G 15 t < j))) ∨ ((0 ≤ f ∧ f < F 6) ∧ (G 8 f = 1 ∧ G 9 f = t ∧ (z ≠ 0 ∨ G 15 t < f)) ∧ ∀ j : Int, 0 ≤ j → j < f → ¬ (G 8 j = 1 ∧ G 9 j = t ∧ (z ≠ 0 ∨ G 15 t < j)))) : v = f := by
  have h6 := h.1.2.1
  have h2 := r.2.2.2.2.2.1 t ht.1 (by omega)
  have h15 : -1 ≤ G 15 t := by rcases h.2.2.1 t ht.1 (by omega) with e | e <;> omega
  rw [r.1.1, h2] at hc
  have key : ∀ j : Int, 0 ≤ j → j < F 6 → ((Q 0 j = t ∧ (if z ≠ 0 then 0 else G 15 t + 1) ≤ j) ↔ (G 8 j = 1 ∧ G 9 j = t ∧ (z ≠ 0 ∨ G 15 t < j))) := fun j j0 j1 => by
    have hs : (if z ≠ 0 then 0 else G 15 t + 1) ≤ j ↔ (z ≠ 0 ∨ G 15 t < j) := by
      by_cases e : z ≠ 0
      · rw [if_pos e]; exact ⟨fun _ => Or.inl e, fun _ => j0⟩
      · rw [if_neg e]; exact ⟨fun y => Or.inr (by omega), fun y => by rcases y with y | y; exact absurd y e; omega⟩
    rw [hs]
    constructor
    · rintro ⟨a, b⟩
      have hne : rAt 60 (Q 0) j ≠ -1 := by rw [rAt_in j0 (by omega), a]; omega
      have hrec := (RD_rec h r j).mp hne
      exact ⟨hrec.2.2, by rw [← RD_ty h r j0 j1 hrec.2.2, a], b⟩
    · rintro ⟨a, b, c⟩
      exact ⟨by rw [RD_ty h r j0 j1 a, b], c⟩
  have hst : 0 ≤ (if z ≠ 0 then 0 else G 15 t + 1) := by split <;> omega
  generalize (if z ≠ 0 then 0 else G 15 t + 1) = a0 at hc key hst
  rcases hc with ⟨a, b⟩ | ⟨⟨a1, a2⟩, b, c⟩
  · rcases hm with ⟨a', b'⟩ | ⟨⟨a1', a2'⟩, b', c'⟩
    · rw [a, a']
    · have hk := (key f a1' a2').mpr b'
      exact absurd hk.1 (b f hk.2 a2')
  · have hv := (key v (by omega) a2).mp ⟨b, a1⟩
    rcases hm with ⟨a', b'⟩ | ⟨⟨a1', a2'⟩, b', c'⟩
    · exact absurd hv (b' v (by omega) a2)
    · have hk := (key f a1' a2').mpr b'
      rcases Int.lt_trichotomy v f with e | e | e
      · exact absurd hv (c' v (by omega) e)
      · exact e
      · exact absurd hk.1 (c f hk.2 e)
