section SIMD
variable {F : Nat → Int} {G : Nat → Int → Int} {Rw : Int → List Int} {I : Nat → Int} {Q : Nat → Int → Int} {P : Int → Nat → Int} {T : Int → Nat → Int → Int} {N : Nat}
theorem mem_iff (h : mI F G Rw) (r : RD F G Rw I Q P T N) {s : Int} (s0 : 0 ≤ s) (s1 : s < (N : Int)) : (I 2 ≠ -1 ∧ rAt 60 (T s 5) (I 2) ≠ -1 ∧ rAt 60 (T s 5) (I 2) ≠ I 2) ↔ (F 14 ≠ -1 ∧ G 11 (60 * s + F 14) ≠ -1) := by
  have h6 := h.1.2.1
  obtain ⟨-, t1, t2⟩ := r.2.2.2.2.2.2 s s0 s1
  rw [r.1.2.2.1]
  by_cases c : F 14 = -1
  · exact ⟨fun z => absurd c z.1, fun z => absurd c z.1⟩
  have hv := h.2.1.resolve_left c
  have hro := ring_ow t2 hv.1 (show F 14 < 60 by omega)
  rw [rAt_in hv.1 (by omega)]
  constructor
  · rintro ⟨a1, a2⟩
    refine ⟨a1, fun z => a2.1 ?_⟩
    rw [hro.1 a2]
    exact z
  · rintro ⟨a1, a2⟩
    exact ⟨a1, Decidable.byContradiction fun z => a2 (hro.2 z)⟩
theorem sim_dis (h : mI F G Rw) (r : RD F G Rw I Q P T N) {s : Int} {T1 : Nat → Int → Int} {G1 : Nat → Int → Int} {Rw1 : Int → List Int} (s0 : 0 ≤ s) (s1 : s < (N : Int)) (hm : F 14 ≠ -1 ∧ G 11 (60 * s + F 14) ≠ -1) (ht : outT (T s) T1 (I 2)) (ho : outO F G Rw s (F 14) G1 Rw1) :
    (mOf (zup (gW G s) (I 2) (-1)) (gW G s (I 2)) (zdel (Rw s) (I 2))).length = (zmem G1 s (G 11 (60 * s + F 14)) (Rw1 s)).length ∧ RD F (Gup G1 16 s (if G 16 s = F 14 then -1 else G 16 s)) Rw1 I Q (upI P s (if P s 8 = I 2 then Fup (P s) 8 (-1) else P s)) (upI T s T1) N ∧ mI F (Gup G1 16 s (if G 16 s = F 14 then -1 else G 16 s)) Rw1 := by
  have h6 := h.1.2.1
  have h0 := h.1.1
  have hN := r.1.2.2.2.2
  obtain ⟨⟨e0, e1, e2, e3, e4, e8⟩, t1, t2⟩ := r.2.2.2.2.2.2 s s0 s1
  have hi2 := r.1.2.2.1
  rw [hi2] at ht ⊢
  have hv := h.2.1.resolve_left hm.1
  have hmL : F 14 ∈ Rw s := (t2.1.2.2.1 _).mpr ⟨hv.1, by omega, hm.2⟩
  obtain ⟨hRw, hmS, h11, hk⟩ := ho
  have hk1 := rOK_out t2 hmL ht.1 ht.2.1 ht.2.2.1
  obtain ⟨w1, w2⟩ := gW_up h11 hv.1 (show F 14 < 60 by omega)
  have hRs : Rw1 s = zdel (Rw s) (F 14) := by rw [hRw]; exact if_pos rfl
  have hP : (if P s 8 = F 14 then Fup (P s) 8 (-1) else P s) = Fup (P s) 8 (if G 16 s = F 14 then -1 else G 16 s) := by
    rw [e8]
    by_cases c : G 16 s = F 14
    · rw [if_pos c, if_pos c]
    · rw [if_neg c, if_neg c, ← e8, Fup_id]
  rw [hP]
  refine ⟨?_, ?_, hmS, ?_⟩
  · rw [zmem_gW, hRs, mOf_congr (ow := gW G1 s) (ow' := zup (gW G s) (F 14) (-1)) (fun u hu => by
      obtain ⟨z0, z1, -⟩ := (t2.1.2.2.1 _).mp (zdel_mem.mp hu).1
      exact w1 u z0 z1)]
    rfl
  · refine RD_set r s0 s1 (fun k a b c d => ?_) (fun t ht => ?_) ?_ (fun t u ht u0 u1 => w2 t u ht u0 u1) (fun t ht => by rw [hRw]; exact if_neg ht) ht.2.2.2 ?_
    · show (if k = 16 then zup (G1 16) s _ else G1 k) = G k
      rw [if_neg d, hk k a b c]
    · show zup (G1 16) s _ t = G 16 t
      rw [zup_n _ _ ht, hk 16 (by decide) (by decide) (by decide)]
    · exact zup_s _ _ _
    · rw [hRs]
      exact rOK_congr hk1 rfl (fun _ => Iff.rfl) (fun u u0 u1 => (w1 u u0 u1).symm)
  · refine mC_set h.2 hk (fun t u ht u0 u1 => w2 t u ht u0 u1) (by omega) ?_
    by_cases c : G 16 s = F 14
    · rw [if_pos c]; exact Or.inl rfl
    · rw [if_neg c]
      rcases h.2.2.2 s s0 (by omega) with z | ⟨z0, z1, z2, z3, z4⟩
      · exact Or.inl z
      · exact Or.inr ⟨z0, z1, z2, z3, by rw [w1 _ z1 (by omega), zup_n _ _ c]; exact z4⟩
/-- the place of a new member looks at the owners in the rows alone -/
theorem fPl_ow {P8 ins : Int} {V ow ow' : Int → Int} {r o : Int} {L : List Int} {j : Int} (hL : ∀ u ∈ L, 0 ≤ u ∧ u < 60) (h8 : -1 ≤ P8 ∧ P8 < 60) (he : ∀ u : Int, 0 ≤ u → u < 60 → ow u = ow' u) (h : fPl P8 ins V ow r o L j) : fPl P8 ins V ow' r o L j := by
  have hm : mOf ow o L = mOf ow' o L := mOf_congr fun u hu => he u (hL u hu).1 (hL u hu).2
  have hc : (ow P8 = o ∧ P8 ≠ -1) ↔ (ow' P8 = o ∧ P8 ≠ -1) := by
    constructor
    · intro z; exact ⟨by rw [← he P8 (by omega) h8.2]; exact z.1, z.2⟩
    · intro z; exact ⟨by rw [he P8 (by omega) h8.2]; exact z.1, z.2⟩
  unfold fPl at h ⊢
  rw [← hm, ← hc]
  exact h
end SIMD
