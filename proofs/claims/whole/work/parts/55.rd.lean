/-! the class and the reference hold the same -/
def gW (G : Nat → Int → Int) (s u : Int) : Int := G 11 (60 * s + u)
def gO (F : Nat → Int) (G : Nat → Int → Int) (s o : Int) : Prop := 0 ≤ o ∧ o < F 6 ∧ G 8 o = 1 ∧ G 9 o = G 1 s
def RD (F : Nat → Int) (G : Nat → Int → Int) (Rw : Int → List Int) (I : Nat → Int) (Q : Nat → Int → Int) (P : Int → Nat → Int) (T : Int → Nat → Int → Int) (N : Nat) : Prop :=
  (I 0 = F 6 ∧ I 1 = F 7 ∧ I 2 = F 14 ∧ I 5 = (N : Int) ∧ F 0 = (N : Int)) ∧ F 7 ≤ F 6 ∧
  (∀ u : Int, 0 ≤ u → u < 60 → Q 0 u = if u < F 6 ∧ G 8 u = 1 then G 9 u else -1) ∧ (∀ u : Int, 0 ≤ u → u < 60 → -1000 ≤ Q 1 u ∧ Q 1 u ≤ 1000) ∧ (∀ u : Int, 0 ≤ u → u < F 6 → Q 1 u = G 10 u) ∧ (∀ t : Int, 0 ≤ t → t < 4 → Q 2 t = G 15 t) ∧
  ∀ s : Int, 0 ≤ s → s < (N : Int) → (P s 0 = G 1 s ∧ P s 1 = G 2 s ∧ P s 2 = G 3 s ∧ P s 3 = G 4 s ∧ P s 4 = G 5 s ∧ P s 8 = G 16 s) ∧ rR (T s) ∧ rOK (T s) (gW G s) (gO F G s) (Rw s)
section RDF
variable {F : Nat → Int} {G : Nat → Int → Int} {Rw : Int → List Int} {I : Nat → Int} {Q : Nat → Int → Int} {P : Int → Nat → Int} {T : Int → Nat → Int → Int} {N : Nat}
theorem RD_rec (h : mI F G Rw) (r : RD F G Rw I Q P T N) (u : Int) : rAt 60 (Q 0) u ≠ -1 ↔ (0 ≤ u ∧ u < F 6 ∧ G 8 u = 1) := by
  have h6 := h.1.2.1
  by_cases c : 0 ≤ u ∧ u < ((60 : Nat) : Int)
  · rw [rAt_in c.1 c.2, r.2.2.1 u c.1 (by omega)]
    by_cases c2 : u < F 6 ∧ G 8 u = 1
    · rw [if_pos c2]
      have := h.1.2.2.2.1 u c.1 c2.1
      exact ⟨fun _ => ⟨c.1, c2⟩, fun _ => by omega⟩
    · rw [if_neg c2]
      exact ⟨fun z => absurd rfl z, fun z => absurd z.2 c2⟩
  · rw [rAt_no c]
    exact ⟨fun z => absurd rfl z, fun z => absurd ⟨z.1, by omega⟩ c⟩
theorem RD_ty (h : mI F G Rw) (r : RD F G Rw I Q P T N) {u : Int} (u0 : 0 ≤ u) (u1 : u < F 6) (u8 : G 8 u = 1) : Q 0 u = G 9 u := by
  have h6 := h.1.2.1
  rw [r.2.2.1 u u0 (by omega), if_pos ⟨u1, u8⟩]
theorem RD_aI (h : mI F G Rw) (r : RD F G Rw I Q P T N) : aI I Q N := by
  have h0 := h.1.1
  have h6 := h.1.2.1
  obtain ⟨⟨r0, r1, r2, r5, rN⟩, r7, q0, q1, q10, q2, -⟩ := id r
  refine ⟨r5, by omega, ?_, fun u u0 u1 => ?_, q1, fun t t0 t1 => ?_, by omega, by omega⟩
  · rw [r2]
    rcases h.2.1 with z | z <;> omega
  · rw [q0 u u0 u1]
    by_cases c : u < F 6 ∧ G 8 u = 1
    · rw [if_pos c]
      have := (h.1.2.2.2.1 u u0 c.1).1
      omega
    · rw [if_neg c]; omega
  · rw [q2 t t0 t1]
    rcases h.2.2.1 t t0 t1 with z | z <;> omega
theorem RD_aS (h : mI F G Rw) (r : RD F G Rw I Q P T N) : aS P T N (gW G) (gO F G) Rw := fun s s0 s1 => by
  have h0 := h.1.1
  have h6 := h.1.2.1
  obtain ⟨⟨e0, e1, e2, e3, e4, e8⟩, t1, t2⟩ := r.2.2.2.2.2.2 s s0 s1
  have hN := r.1.2.2.2.2
  obtain ⟨d1, d2, d12, d3, d4, d5⟩ := h.1.2.2.1 s s0 (by omega)
  rw [e0, e1, e2, e3, e4, e8]
  refine ⟨t1, t2, d1, d2, d12, d3, d4, d5, ?_⟩
  rcases h.2.2.2 s s0 (by omega) with z | z <;> omega
theorem RD_aR (h : mI F G Rw) (r : RD F G Rw I Q P T N) : aR Q P N (gO F G) Rw := fun s s0 s1 => by
  have h0 := h.1.1
  have h6 := h.1.2.1
  obtain ⟨⟨e0, e1, -⟩, t1, t2⟩ := r.2.2.2.2.2.2 s s0 s1
  have hN := r.1.2.2.2.2
  have hd := h.1.2.2.1 s s0 (by omega)
  constructor
  · intro q
    constructor
    · intro z
      exact ⟨z.1, by have := z.2.1; omega, by rw [RD_ty h r z.1 z.2.1 z.2.2.1, z.2.2.2, e0]⟩
    · rintro ⟨z0, z1, z2⟩
      have hne : rAt 60 (Q 0) q ≠ -1 := by rw [rAt_in z0 (by omega), z2, e0]; omega
      obtain ⟨y0, y1, y2⟩ := (RD_rec h r q).mp hne
      exact ⟨y0, y1, y2, by rw [← RD_ty h r y0 y1 y2, z2, e0]⟩
  · intro u hu
    obtain ⟨z0, z1, z2⟩ := (t2.1.2.2.1 u).mp hu
    rcases h.1.2.2.2.2.1 s u s0 (by omega) z0 z1 with y | y
    · exact absurd y z2
    · rw [RD_ty h r z0 y.2.2.2.1 y.2.2.2.2.1, y.2.2.2.2.2.1, e1]
theorem RD_aC (h : mI F G Rw) (r : RD F G Rw I Q P T N) : aC P T N := fun s s0 s1 hne => by
  have h0 := h.1.1
  have h6 := h.1.2.1
  obtain ⟨⟨-, -, -, -, -, e8⟩, t1, t2⟩ := r.2.2.2.2.2.2 s s0 s1
  have hN := r.1.2.2.2.2
  rw [e8] at hne ⊢
  rcases h.2.2.2 s s0 (by omega) with z | ⟨z0, z1, z2, z3, z4⟩
  · exact absurd z hne
  · rw [rAt_in z1 (by omega)]
    have h5 := rOK_ring t2 z1 (show G 16 s < 60 by omega)
    intro y
    obtain ⟨y1, y2⟩ := h5.2.2.2.2.mp y
    rcases z4 with z4 | z4
    · exact y1 ⟨z1, z2, z3, z4⟩
    · exact z4 y2
theorem RD_qt (h : mI F G Rw) (r : RD F G Rw I Q P T N) : ∀ t : Int, 0 ≤ t → t < 4 → Q 2 t ≠ -1 → Q 0 (Q 2 t) = t := fun t t0 t1 hne => by
  rw [r.2.2.2.2.2.1 t t0 t1] at hne ⊢
  rcases h.2.2.1 t t0 t1 with z | ⟨z0, z1, z2, z3⟩
  · exact absurd z hne
  · rw [RD_ty h r z0 z1 z2, z3]
theorem RD_U (h : mI F G Rw) (r : RD F G Rw I Q P T N) : I 2 ≠ -1 → Q 0 (I 2) ≠ -1 := fun hne => by
  have h6 := h.1.2.1
  rw [r.1.2.2.1] at hne ⊢
  rcases h.2.1 with z | z
  · exact absurd z hne
  · have := (RD_rec h r (F 14)).mpr z
    rwa [rAt_in z.1 (by omega)] at this
theorem RD_new (h : mI F G Rw) (r : RD F G Rw I Q P T N) : ∀ u : Int, I 0 ≤ u → u < 60 → Q 0 u = -1 := fun u u0 u1 => by
  have h6 := h.1.2.1
  rw [r.1.1] at u0
  rw [r.2.2.1 u (by omega) u1, if_neg (fun z => by omega)]
end RDF
