/-! pure: what is gathered -/
def gOK (I : Nat → Int) (Q : Nat → Int → Int) (D : List Int) : Prop := I 3 = (D.length : Int) ∧ D.Nodup ∧ (∀ u ∈ D, 0 ≤ u ∧ u < 60) ∧ (∀ k : Int, 0 ≤ k → k < (D.length : Int) → Q 3 k = zat D k) ∧ (∀ u : Int, 0 ≤ u → u < 60 → (Q 4 u = -1 ↔ u ∉ D)) ∧ ∀ u : Int, 0 ≤ u → u < 60 → -1 ≤ Q 4 u ∧ Q 4 u < 60
def gA1 (D : List Int) (u : Int) : List Int := if u ∈ D then D else D ++ [u]
def gAdd (D : List Int) (l : List Int) : List Int := l.foldl gA1 D
theorem gA1_mem {D : List Int} {u v : Int} : v ∈ gA1 D u ↔ v ∈ D ∨ v = u := by
  unfold gA1
  by_cases c : u ∈ D
  · rw [if_pos c]
    exact ⟨fun z => Or.inl z, fun z => by rcases z with y | y; exact y; rw [y]; exact c⟩
  · rw [if_neg c, List.mem_append, List.mem_singleton]
theorem gAdd_mem : ∀ {l D : List Int} {v : Int}, v ∈ gAdd D l ↔ v ∈ D ∨ v ∈ l
  | [], D, v => by simp [gAdd]
  | u :: l, D, v => by
    have := gAdd_mem (l := l) (D := gA1 D u) (v := v)
    show v ∈ gAdd (gA1 D u) l ↔ _
    rw [this, gA1_mem, List.mem_cons]
    constructor
    · rintro ((z | z) | z)
      · exact Or.inl z
      · exact Or.inr (Or.inl z)
      · exact Or.inr (Or.inr z)
    · rintro (z | z | z)
      · exact Or.inl (Or.inl z)
      · exact Or.inl (Or.inr z)
      · exact Or.inr z
theorem gAdd_pre : ∀ {l D : List Int}, ∃ E : List Int, gAdd D l = D ++ E
  | [], D => ⟨[], by simp [gAdd]⟩
  | u :: l, D => by
    obtain ⟨E, hE⟩ := gAdd_pre (l := l) (D := gA1 D u)
    show ∃ E, gAdd (gA1 D u) l = D ++ E
    unfold gA1 at hE
    by_cases c : u ∈ D
    · exact ⟨E, by rw [gA1, if_pos c]; rwa [if_pos c] at hE⟩
    · exact ⟨u :: E, by rw [gA1, if_neg c]; rw [if_neg c] at hE; rw [hE, List.append_assoc]; rfl⟩
theorem gAdd_snoc (D l : List Int) (u : Int) : gAdd D (l ++ [u]) = gA1 (gAdd D l) u := by simp [gAdd, List.foldl_append]
theorem take_snoc {l : List Int} {k : Int} (h0 : 0 ≤ k) (h1 : k < (l.length : Int)) : l.take (k + 1).toNat = l.take k.toNat ++ [zat l k] := by
  rw [show (k + 1).toNat = k.toNat + 1 by omega, List.take_add_one, zat_lt h0 h1]
  rfl
theorem gOK_nil {I : Nat → Int} {Q : Nat → Int → Int} (h3 : I 3 = 0) (h4 : ∀ u : Int, 0 ≤ u → u < 60 → Q 4 u = -1) : gOK I Q [] :=
  ⟨h3, List.nodup_nil, fun u hu => (by cases hu), fun k k0 k1 => by simp at k1; omega, fun u u0 u1 => by rw [h4 u u0 u1]; simp, fun u u0 u1 => by rw [h4 u u0 u1]; decide⟩
theorem gOK_add {I : Nat → Int} {Q : Nat → Int → Int} {D : List Int} (h : gOK I Q D) {r : Int} (r0 : 0 ≤ r) (r1 : r < 60) (hr : r ∉ D) : I 3 < 60 ∧ gOK (Fup I 3 (I 3 + 1)) (Gset (Gset Q 4 (zup (Q 4) r (I 3))) 3 (zup (Q 3) (I 3) r)) (D ++ [r]) := by
  obtain ⟨h1, h2, h3, h4, h5, h6⟩ := h
  have hnd : (D ++ [r]).Nodup := by
    rw [List.nodup_append]
    refine ⟨h2, by simp, fun q hq z hz => ?_⟩
    rw [List.mem_singleton] at hz
    subst hz
    exact fun e => hr (e ▸ hq)
  have hmem : ∀ u ∈ D ++ [r], 0 ≤ u ∧ u < 60 := fun u hu => by
    rcases List.mem_append.mp hu with z | z
    · exact h3 u z
    · rw [List.mem_singleton] at z; omega
  have hlen := nodup_len 60 _ hnd (fun u hu => hmem u hu)
  rw [List.length_append, List.length_singleton] at hlen
  refine ⟨by omega, by rw [Fup_s, List.length_append, List.length_singleton]; omega, hnd, hmem, fun k k0 k1 => ?_, fun u u0 u1 => ?_, fun u u0 u1 => ?_⟩
  · rw [Gset_s]
    by_cases c : k = I 3
    · subst c
      rw [zup_s, h1, zat_nat, List.getD_eq_getElem?_getD, List.getElem?_append_right (Nat.le_refl _), Nat.sub_self]
      rfl
    · rw [List.length_append, List.length_singleton] at k1
      rw [zup_n _ _ c, h4 k k0 (by omega)]
      unfold zat
      rw [List.getD_eq_getElem?_getD, List.getD_eq_getElem?_getD, List.getElem?_append_left (by omega)]
  · rw [Gset_n _ _ (by decide), Gset_s, List.mem_append, List.mem_singleton]
    by_cases c : u = r
    · subst c
      rw [zup_s]
      constructor
      · intro z; omega
      · intro z; exact absurd (Or.inr rfl) z
    · rw [zup_n _ _ c, h5 u u0 u1]
      exact ⟨fun z y => by rcases y with y | y; exact z y; exact c y, fun z y => z (Or.inl y)⟩
  · rw [Gset_n _ _ (by decide), Gset_s]
    by_cases c : u = r
    · subst c; rw [zup_s]; omega
    · rw [zup_n _ _ c]; exact h6 u u0 u1
