/-! erasing -/
theorem sim_era {g : zG} {b : Nat → Nat} {c : Int → Nat → Nat} {F : Nat → Int} {G : Nat → Int → Int} {Rw : Int → List Int} {I : Nat → Int} {Q : Nat → Int → Int} {P : Int → Nat → Int} {T : Int → Nat → Int → Int} {N : Nat} (h : mI F G Rw) (r : RD F G Rw I Q P T N) {y : Int} {D M : List Int} {I1 : Nat → Int} {Q1 : Nat → Int → Int} {T1 : Int → Nat → Int → Int} {G1 : Nat → Int → Int} {Rw1 : Int → List Int}
    (hD1 : D.Nodup) (hD : gDm P (gW G) (gO F G) Rw N y (I 2) D) (he : eL g b c I Q P N (gW G) (gO F G) Rw D (D.length : Int) I1 Q1 T1)
    (hM1 : M.Nodup) (hM : ∀ q : Int, q ∈ M ↔ gCl G (F 14) y q) (ho : eraO F G Rw M G1 Rw1) :
    (D.length : Int) = (M.length : Int) ∧ RD (eraF F (M.length : Int)) G1 Rw1 I1 Q1 (PD P (gW G) D N) T1 N ∧ mI (eraF F (M.length : Int)) G1 Rw1 := by
  have h6 := h.1.2.1
  have h0 := h.1.1
  obtain ⟨⟨r0, r1, r2, r5, rN⟩, r7, q0, q1, q10, q2, rs⟩ := id r
  have hDM : ∀ u : Int, u ∈ D ↔ u ∈ M := fun u => by rw [dm_cl h r hD u, hM u, r2]
  have hlen : D.length = M.length := nodup_same hD1 hM1 hDM
  have hrD : I 2 ∈ D := hD.1
  unfold eL at he
  rw [Int.toNat_natCast, List.take_length] at he
  obtain ⟨a1, a2, a3, a4, a5, a6, a7, a8, -⟩ := he
  obtain ⟨hk, h11, hRw, h16, h15, h8, hrow⟩ := ho
  have e1 : G1 1 = G 1 := hk 1 (by decide) (by decide) (by decide) (by decide) (by decide) (by decide) (by decide)
  have e2 : G1 2 = G 2 := hk 2 (by decide) (by decide) (by decide) (by decide) (by decide) (by decide) (by decide)
  have e3 : G1 3 = G 3 := hk 3 (by decide) (by decide) (by decide) (by decide) (by decide) (by decide) (by decide)
  have e4 : G1 4 = G 4 := hk 4 (by decide) (by decide) (by decide) (by decide) (by decide) (by decide) (by decide)
  have e5 : G1 5 = G 5 := hk 5 (by decide) (by decide) (by decide) (by decide) (by decide) (by decide) (by decide)
  have e9 : G1 9 = G 9 := hk 9 (by decide) (by decide) (by decide) (by decide) (by decide) (by decide) (by decide)
  have e10 : G1 10 = G 10 := hk 10 (by decide) (by decide) (by decide) (by decide) (by decide) (by decide) (by decide)
  have eE : ∀ s u : Int, (u ∈ D ∨ gW G s u ∈ D) ↔ (u ∈ M ∨ G 11 (60 * s + u) ∈ M) := fun s u => by rw [hDM u, hDM (gW G s u)]; exact Iff.rfl
  have k8 : ∀ u : Int, 0 ≤ u → u < F 6 → (G1 8 u = 1 ↔ u ∉ M ∧ G 8 u = 1) := fun u u0 u1 => by
    rw [h8 u u0 u1]
    by_cases z : u ∈ M
    · rw [if_pos z]
      exact ⟨fun y9 => absurd y9 (by decide), fun y9 => absurd z y9.1⟩
    · rw [if_neg z]
      exact ⟨fun y9 => ⟨z, y9⟩, fun y9 => y9.2⟩
  refine ⟨by omega, ?_, ⟨h0, h6, ?_, ?_, ?_, hrow⟩, Or.inl rfl, ?_, ?_⟩
  · refine ⟨⟨a3.trans r0, by show I1 1 = F 7 - (M.length : Int); omega, by rw [a5, if_pos hrD]; rfl, a1.1, rN⟩, by show F 7 - (M.length : Int) ≤ F 6; omega, fun u u0 u1 => ?_, fun u u0 u1 => ?_, fun u u0 u1 => ?_, fun t t0 t1 => ?_, fun s s0 s1 => ?_⟩
    · show Q1 0 u = if u < F 6 ∧ G1 8 u = 1 then G1 9 u else -1
      rw [a6 u, e9, q0 u u0 u1]
      by_cases z : u ∈ D
      · rw [if_pos z, if_neg (fun y9 => ((k8 u u0 y9.1).mp y9.2).1 ((hDM u).mp z))]
      · rw [if_neg z]
        by_cases z2 : u < F 6 ∧ G 8 u = 1
        · rw [if_pos z2, if_pos ⟨z2.1, (k8 u u0 z2.1).mpr ⟨fun y9 => z ((hDM u).mpr y9), z2.2⟩⟩]
        · rw [if_neg z2, if_neg (fun y9 => z2 ⟨y9.1, ((k8 u u0 y9.1).mp y9.2).2⟩)]
    · rw [a7]; exact q1 u u0 u1
    · rw [a7, e10]; exact q10 u u0 u1
    · rw [a8 t t0 t1, h15 t t0 t1, q2 t t0 t1]
      by_cases z : G 15 t ∈ D
      · rw [if_pos z, if_pos ((hDM _).mp z)]
      · rw [if_neg z, if_neg (fun y9 => z ((hDM _).mpr y9))]
    · obtain ⟨⟨p0, p1, p2, p3, p4, p8⟩, t1, t2⟩ := rs s s0 s1
      obtain ⟨c1, c2, -⟩ := a2 s s0 s1
      rw [e1, e2, e3, e4, e5, h16 s s0 (by omega)]
      refine ⟨?_, c1, ?_⟩
      · unfold PD
        rw [if_pos ⟨s0, s1⟩]
        refine ⟨p0, p1, p2, p3, p4, ?_⟩
        rw [Fup_s, p8]
        unfold cD erD
        have hc : (G 16 s ∈ D ∨ (G 16 s ≠ -1 ∧ gW G s (G 16 s) ∈ D)) ↔ (G 16 s ∈ M ∨ (G 16 s ≠ -1 ∧ G 11 (60 * s + G 16 s) ∈ M)) := by
          rw [hDM (G 16 s), hDM (gW G s (G 16 s))]; exact Iff.rfl
        by_cases z : G 16 s ∈ M ∨ (G 16 s ≠ -1 ∧ G 11 (60 * s + G 16 s) ∈ M)
        · rw [if_pos z, if_pos (hc.mpr z)]
        · rw [if_neg z, if_neg (fun y9 => z (hc.mp y9))]
      · refine rOK_congr c2 ?_ (fun u => ?_) (fun u u0 u1 => ?_)
        · rw [hRw s s0 (by omega)]
          unfold LD erL
          refine List.filter_congr fun u hu => ?_
          have := ((mS_len h.1 s0 (by omega)).2.2 u hu).2
          rw [decide_eq_decide]
          constructor
          · intro z y9; exact z ((eE s u).mpr y9.2)
          · intro z y9; exact z ⟨this, (eE s u).mp y9⟩
        · show (gO F G s u ∧ u ∉ D) ↔ (0 ≤ u ∧ u < F 6 ∧ G1 8 u = 1 ∧ G1 9 u = G1 1 s)
          rw [e9, e1]
          constructor
          · rintro ⟨⟨z0, z1, z2, z3⟩, z4⟩
            exact ⟨z0, z1, (k8 u z0 z1).mpr ⟨fun y9 => z4 ((hDM u).mpr y9), z2⟩, z3⟩
          · rintro ⟨z0, z1, z2, z3⟩
            have := (k8 u z0 z1).mp z2
            exact ⟨⟨z0, z1, this.2, z3⟩, fun y9 => this.1 ((hDM u).mp y9)⟩
        · show owD (gW G s) D u = G1 11 (60 * s + u)
          rw [h11 s u s0 (by omega) u0 u1]
          unfold owD
          by_cases z : u ∈ M ∨ G 11 (60 * s + u) ∈ M
          · rw [if_pos z, if_pos ((eE s u).mpr z)]
          · rw [if_neg z, if_neg (fun y9 => z ((eE s u).mp y9))]; rfl
  · intro s s0 s1
    rw [e1, e2, e3, e4, e5]
    exact h.1.2.2.1 s s0 s1
  · intro u u0 u1
    have u1 : u < F 6 := u1
    rw [e9, e10]
    have z := h.1.2.2.2.1 u u0 u1
    refine ⟨z.1, z.2.1, ?_⟩
    rw [h8 u u0 u1]
    split
    · exact Or.inl rfl
    · exact z.2.2
  · intro s u s0 s1 u0 u1
    rw [e9, e1, e2, h11 s u s0 s1 u0 u1]
    by_cases z : u ∈ M ∨ G 11 (60 * s + u) ∈ M
    · rw [if_pos z]; exact Or.inl rfl
    · rw [if_neg z]
      rcases h.1.2.2.2.2.1 s u s0 s1 u0 u1 with x | ⟨x1, x2, x3, x4, x5, x6, x7, x8⟩
      · exact Or.inl x
      · exact Or.inr ⟨x1, x2, x3, x4, (k8 u u0 x4).mpr ⟨fun y9 => z (Or.inl y9), x5⟩, x6, (k8 _ x1 x2).mpr ⟨fun y9 => z (Or.inr y9), x7⟩, x8⟩
  · intro t t0 t1
    rw [e9, h15 t t0 t1]
    by_cases z : G 15 t ∈ M
    · rw [if_pos z]; exact Or.inl rfl
    · rw [if_neg z]
      rcases h.2.2.1 t t0 t1 with x | ⟨x0, x1, x2, x3⟩
      · exact Or.inl x
      · exact Or.inr ⟨x0, x1, (k8 _ x0 x1).mpr ⟨z, x2⟩, x3⟩
  · intro s s0 s1
    rw [e9, e1, h16 s s0 s1]
    unfold erD
    by_cases z : G 16 s ∈ M ∨ (G 16 s ≠ -1 ∧ G 11 (60 * s + G 16 s) ∈ M)
    · rw [if_pos z]; exact Or.inl rfl
    · rw [if_neg z]
      rcases h.2.2.2 s s0 s1 with x | ⟨x0, x1, x2, x3, x4⟩
      · exact Or.inl x
      · refine Or.inr ⟨x0, x1, x2, (k8 _ x1 x2).mpr ⟨fun y9 => z (Or.inl y9), x3⟩, ?_⟩
        rcases x4 with x4 | x4
        · exact Or.inl x4
        · right
          have x2' : G 16 s < F 6 := x2
          rw [h11 s _ s0 s1 x1 (by omega), if_neg (fun y9 => by
            rcases y9 with y9 | y9
            · exact z (Or.inl y9)
            · exact z (Or.inr ⟨by omega, y9⟩))]
          exact x4
