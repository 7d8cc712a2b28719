/-- the first of a list with a value: one answer -/
theorem fv_uniq {l : List Int} {V V' : Int → Int} {z f f' : Int} (hV : ∀ u ∈ l, V u = V' u)
    (h : (f = -1 ∧ ∀ k : Int, 0 ≤ k → k < (l.length : Int) → V (zat l k) ≠ z) ∨ ∃ k : Int, 0 ≤ k ∧ k < (l.length : Int) ∧ f = zat l k ∧ V f = z ∧ ∀ j : Int, 0 ≤ j → j < k → V (zat l j) ≠ z)
    (h' : (f' = -1 ∧ ∀ k : Int, 0 ≤ k → k < (l.length : Int) → V' (zat l k) ≠ z) ∨ ∃ k : Int, 0 ≤ k ∧ k < (l.length : Int) ∧ f' = zat l k ∧ V' f' = z ∧ ∀ j : Int, 0 ≤ j → j < k → V' (zat l j) ≠ z) : f = f' := by
  have hz : ∀ k : Int, 0 ≤ k → k < (l.length : Int) → V (zat l k) = V' (zat l k) := fun k k0 k1 => hV _ (zat_mem k0 k1)
  rcases h with ⟨a, b⟩ | ⟨k, k0, k1, a, b, c⟩
  · rcases h' with ⟨a', b'⟩ | ⟨k', k0', k1', a', b', c'⟩
    · rw [a, a']
    · rw [a'] at b'
      exact absurd ((hz k' k0' k1').trans b') (b k' k0' k1')
  · rcases h' with ⟨a', b'⟩ | ⟨k', k0', k1', a', b', c'⟩
    · rw [a] at b
      exact absurd ((hz k k0 k1).symm.trans b) (b' k k0 k1)
    · rw [a] at b
      rw [a'] at b'
      rcases Int.lt_trichotomy k k' with e | e | e
      · exact absurd ((hz k k0 k1).symm.trans b) (c' k k0 e)
      · rw [a, a', e]
      · exact absurd ((hz k' k0' k1').trans b') (c k' k0' e)
