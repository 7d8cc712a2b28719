/-! pure: a record changed, a record stored -/
theorem nPl_congr {G G' : Nat → Int → Int} {s r q p : Int} {l : List Int} (e3 : G' 3 s = G 3 s) (e10 : G' 10 = G 10) (e16 : G' 16 s = G 16 s) (el : ∀ u ∈ l, G' 11 (60 * s + u) = G 11 (60 * s + u)) (ec : G 3 s ≠ 4 → G 16 s ≠ -1 → G' 11 (60 * s + G 16 s) = G 11 (60 * s + G 16 s)) (h : nPl G' s r q l p) : nPl G s r q l p := by
  have hr := nPl_rng h
  obtain ⟨h1, h2, h3⟩ := h
  rw [e3, e10] at h1
  rw [e3, e16] at h2 h3
  refine ⟨fun c => ?_, fun c c2 => ?_, fun c c2 => ?_⟩
  · obtain ⟨a1, a2, a3⟩ := h1 c
    refine ⟨a1, fun j j0 j1 hj => ?_, fun hp => ?_⟩
    · exact a2 j j0 j1 (by rw [el _ (zat_mem j0 (by omega))]; exact hj)
    · have := a3 hp
      rw [el _ (zat_mem a1.1 hp)] at this
      exact this
  · exact h2 c ⟨⟨c2.1.1, by rw [ec c c2.1.1]; exact c2.1.2⟩, c2.2⟩
  · exact h3 c (fun z => c2 ⟨⟨z.1.1, by rw [← ec c z.1.1]; exact z.1.2⟩, z.2⟩)
def modO (F : Nat → Int) (G : Nat → Int → Int) (Rw : Int → List Int) (v : Int) (G1 : Nat → Int → Int) (Rw1 : Int → List Int) (k : Int) : Prop :=
  mS F G1 Rw1 ∧ G1 11 = G 11 ∧ (∀ j : Nat, j ≠ 11 → j ≠ 12 → j ≠ 13 → G1 j = Gup G 10 (F 14) v j) ∧ ∀ s : Int, 0 ≤ s → s < 6 →
    ((s < k ∧ G 11 (60 * s + F 14) ≠ -1 ∧ G 3 s = 4) → ∃ p : Int, nPl (Gup G 10 (F 14) v) s (F 14) (G 11 (60 * s + F 14)) (zdel (Rw s) (F 14)) p ∧ Rw1 s = zinsl (zdel (Rw s) (F 14)) p (F 14)) ∧
    (¬ (s < k ∧ G 11 (60 * s + F 14) ≠ -1 ∧ G 3 s = 4) → Rw1 s = Rw s)
def stoF (F : Nat → Int) : Nat → Int := Fup (Fup F 6 (F 6 + 1)) 7 (F 7 + 1)
def stoG (F : Nat → Int) (G : Nat → Int → Int) (ty v : Int) : Nat → Int → Int := Gup (Gup (Gup G 8 (F 6) 1) 9 (F 6) ty) 10 (F 6) v
def stoO (F : Nat → Int) (G : Nat → Int → Int) (Rw : Int → List Int) (ty v : Int) (G1 : Nat → Int → Int) (Rw1 : Int → List Int) (k : Int) : Prop :=
  mS (stoF F) G1 Rw1 ∧ (∀ j : Nat, j ≠ 11 → j ≠ 12 → j ≠ 13 → G1 j = stoG F G ty v j) ∧ (∀ s u : Int, 0 ≤ s → s < 6 → 0 ≤ u → u < 60 → u ≠ F 6 → G1 11 (60 * s + u) = G 11 (60 * s + u)) ∧ ∀ s : Int, 0 ≤ s → s < 6 →
    ((s < k ∧ G 4 s = 1 ∧ G 2 s = ty) → (∃ p : Int, nPl (stoG F G ty v) s (F 6) (curO G s) (Rw s) p ∧ Rw1 s = zinsl (Rw s) p (F 6)) ∧ G1 11 (60 * s + F 6) = curO G s) ∧
    (¬ (s < k ∧ G 4 s = 1 ∧ G 2 s = ty) → Rw1 s = Rw s ∧ G1 11 (60 * s + F 6) = -1)
theorem stoF_18 (F : Nat → Int) : Fup (Fup (Fup F 18 0) 6 (F 6 + 1)) 7 (F 7 + 1) = Fup (stoF F) 18 0 := by
  rw [stoF, Fup_comm F (by decide : 18 ≠ 6), Fup_comm _ (by decide : 18 ≠ 7)]
/-- a new record is in no set yet -/
theorem mS_new {F : Nat → Int} {G : Nat → Int → Int} {Rw : Int → List Int} (h : mI F G Rw) (h60 : F 6 < 60) {ty v : Int} (hty : 0 ≤ ty ∧ ty ≤ 3) (hv : -1000 ≤ v ∧ v ≤ 1000) : mS (stoF F) (stoG F G ty v) Rw ∧ ∀ s : Int, 0 ≤ s → s < 6 → G 11 (60 * s + F 6) = -1 := by
  obtain ⟨⟨q1, q2, hd, hr, ho, hw⟩, hc⟩ := h
  have hno : ∀ s : Int, 0 ≤ s → s < 6 → G 11 (60 * s + F 6) = -1 := fun s s0 s1 => by
    rcases ho s (F 6) s0 s1 (by omega) (by omega) with z | z
    · exact z
    · omega
  refine ⟨⟨q1, by show 0 ≤ F 6 + 1 ∧ F 6 + 1 ≤ 60; omega, hd, fun r r0 r1 => ?_, fun s r s0 s1 r0 r1 => ?_, hw⟩, hno⟩
  · have r1 : r < F 6 + 1 := r1
    show (0 ≤ zup (G 9) (F 6) ty r ∧ zup (G 9) (F 6) ty r ≤ 3) ∧ (-1000 ≤ zup (G 10) (F 6) v r ∧ zup (G 10) (F 6) v r ≤ 1000) ∧ (zup (G 8) (F 6) 1 r = 0 ∨ zup (G 8) (F 6) 1 r = 1)
    by_cases c : r = F 6
    · subst c; rw [zup_s, zup_s, zup_s]; omega
    · rw [zup_n _ _ c, zup_n _ _ c, zup_n _ _ c]; exact hr r r0 (by omega)
  · show G 11 (60 * s + r) = -1 ∨ (0 ≤ G 11 (60 * s + r) ∧ G 11 (60 * s + r) < F 6 + 1 ∧ s < F 0 ∧ r < F 6 + 1 ∧ zup (G 8) (F 6) 1 r = 1 ∧ zup (G 9) (F 6) ty r = G 2 s ∧ zup (G 8) (F 6) 1 (G 11 (60 * s + r)) = 1 ∧ zup (G 9) (F 6) ty (G 11 (60 * s + r)) = G 1 s)
    rcases ho s r s0 s1 r0 r1 with z | z
    · exact Or.inl z
    · right
      rw [zup_n _ _ (by omega), zup_n _ _ (by omega), zup_n _ _ (by omega), zup_n _ _ (by omega)]
      omega
theorem mS_10 {F : Nat → Int} {G : Nat → Int → Int} {Rw : Int → List Int} (h : mS F G Rw) {i v : Int} (hv : -1000 ≤ v ∧ v ≤ 1000) : mS F (Gup G 10 i v) Rw := by
  obtain ⟨q1, q2, hd, hr, ho, hw⟩ := h
  refine ⟨q1, q2, hd, fun r r0 r1 => ?_, ho, hw⟩
  have := hr r r0 r1
  show (0 ≤ G 9 r ∧ G 9 r ≤ 3) ∧ (-1000 ≤ zup (G 10) i v r ∧ zup (G 10) i v r ≤ 1000) ∧ (G 8 r = 0 ∨ G 8 r = 1)
  by_cases c : r = i
  · subst c; rw [zup_s]; omega
  · rw [zup_n _ _ c]; exact this
