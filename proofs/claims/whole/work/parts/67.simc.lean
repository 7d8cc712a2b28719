/-- the class gathers whom the reference marks -/
theorem dm_cl {F : Nat → Int} {G : Nat → Int → Int} {Rw : Int → List Int} {I : Nat → Int} {Q : Nat → Int → Int} {P : Int → Nat → Int} {T : Int → Nat → Int → Int} {N : Nat} (h : mI F G Rw) (r : RD F G Rw I Q P T N) {way rc : Int} {D : List Int} (hD : gDm P (gW G) (gO F G) Rw N way rc D) (u : Int) : u ∈ D ↔ gCl G rc way u := by
  have h0 := h.1.1
  have hN := r.1.2.2.2.2
  constructor
  · intro hu X hX hXc
    refine hD.2.2 X hX (fun q v s hq s0 s1 hg => ?_) u hu
    have hm := mOf_mem.mp hg.2.2
    obtain ⟨⟨-, -, -, -, e4, -⟩, t1, t2⟩ := r.2.2.2.2.2.2 s s0 s1
    obtain ⟨z0, z1, z2⟩ := (t2.1.2.2.1 v).mp hm.1
    have he : G 11 (60 * s + v) = q := hm.2
    have her := hg.2.1
    rw [e4] at her
    exact hXc s v s0 (by omega) z0 z1 z2 (by rw [he]; exact hq) her
  · intro hc
    refine hc (fun v => v ∈ D) hD.1 (fun s v s0 s1 v0 v1 hne hq her => ?_)
    rcases h.1.2.2.2.2.1 s v s0 s1 v0 v1 with y | y
    · exact absurd y hne
    · have hsN : s < (N : Int) := by have := y.2.2.1; omega
      obtain ⟨⟨-, -, -, -, e4, -⟩, t1, t2⟩ := r.2.2.2.2.2.2 s s0 hsN
      exact hD.2.1 _ hq s v s0 hsN ⟨⟨y.1, y.2.1, y.2.2.2.2.2.2.1, y.2.2.2.2.2.2.2⟩, by rw [e4]; exact her, mOf_mem.mpr ⟨(t2.1.2.2.1 v).mpr ⟨v0, v1, hne⟩, rfl⟩⟩
theorem nodup_same : ∀ {l m : List Int}, l.Nodup → m.Nodup → (∀ u : Int, u ∈ l ↔ u ∈ m) → l.length = m.length := fun {l m} hl hm h =>
  ((List.perm_ext_iff_of_nodup hl hm).mpr h).length_eq
