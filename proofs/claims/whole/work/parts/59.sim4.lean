theorem mC_set {F : Nat → Int} {G G1 : Nat → Int → Int} {s c : Int} (h : mC F G) (hk : ∀ k : Nat, k ≠ 11 → k ≠ 12 → k ≠ 13 → G1 k = G k) (hw : ∀ t u : Int, t ≠ s → 0 ≤ u → u < 60 → gW G1 t u = gW G t u) (h6 : F 6 ≤ 60) (hc : c = -1 ∨ (s < F 0 ∧ 0 ≤ c ∧ c < F 6 ∧ G 8 c = 1 ∧ (G 9 c = G 1 s ∨ gW G1 s c ≠ -1))) : mC F (Gup G1 16 s c) := by
  have e8 : (Gup G1 16 s c) 8 = G 8 := hk 8 (by decide) (by decide) (by decide)
  have e9 : (Gup G1 16 s c) 9 = G 9 := hk 9 (by decide) (by decide) (by decide)
  have e15 : (Gup G1 16 s c) 15 = G 15 := hk 15 (by decide) (by decide) (by decide)
  have e1 : (Gup G1 16 s c) 1 = G 1 := hk 1 (by decide) (by decide) (by decide)
  have e11 : (Gup G1 16 s c) 11 = G1 11 := rfl
  have e16 : (Gup G1 16 s c) 16 = zup (G1 16) s c := rfl
  have f16 : G1 16 = G 16 := hk 16 (by decide) (by decide) (by decide)
  unfold mC
  rw [e8, e9, e15, e1, e11, e16, f16]
  refine ⟨h.1, h.2.1, fun t t0 t1 => ?_⟩
  by_cases e : t = s
  · subst e
    rw [zup_s]
    exact hc
  · rw [zup_n _ _ e]
    rcases h.2.2 t t0 t1 with z | ⟨z0, z1, z2, z3, z4⟩
    · exact Or.inl z
    · have := hw t (G 16 t) e z1 (by omega)
      unfold gW at this
      exact Or.inr ⟨z0, z1, z2, z3, by rw [this]; exact z4⟩
section SIMC
variable {F : Nat → Int} {G : Nat → Int → Int} {Rw : Int → List Int} {I : Nat → Int} {Q : Nat → Int → Int} {P : Int → Nat → Int} {T : Int → Nat → Int → Int} {N : Nat}
theorem con_iff (h : mI F G Rw) (r : RD F G Rw I Q P T N) {s : Int} (s0 : 0 ≤ s) (s1 : s < (N : Int)) : (I 2 ≠ -1 ∧ Q 0 (I 2) = P s 1 ∧ ¬ (T s 5 (I 2) ≠ -1 ∧ T s 5 (I 2) ≠ I 2) ∧ rAt 60 (T s 5) (P s 8) ≠ -1) ↔ (F 14 ≠ -1 ∧ G 9 (F 14) = G 2 s ∧ G 11 (60 * s + F 14) = -1 ∧ G 16 s ≠ -1) := by
  have h6 := h.1.2.1
  obtain ⟨⟨-, e1, -, -, -, e8⟩, t1, t2⟩ := r.2.2.2.2.2.2 s s0 s1
  rw [r.1.2.2.1, e1]
  by_cases c : F 14 = -1
  · exact ⟨fun z => absurd c z.1, fun z => absurd c z.1⟩
  have hv := h.2.1.resolve_left c
  rw [RD_ty h r hv.1 hv.2.1 hv.2.2]
  have hro := ring_ow t2 hv.1 (show F 14 < 60 by omega)
  have hcu := cur_own h r s0 s1
  have hC := RD_aC h r s s0 s1
  constructor
  · rintro ⟨a1, a2, a3, a4⟩
    refine ⟨a1, a2, hro.2 a3, fun z => a4 ?_⟩
    rw [e8, z]
    exact rAt_no (by omega)
  · rintro ⟨a1, a2, a3, a4⟩
    refine ⟨a1, a2, fun z => ?_, hC (by rw [e8]; exact a4)⟩
    have := hro.1 z
    exact z.1 (by rw [this]; exact a3)
theorem sim_con (h : mI F G Rw) (r : RD F G Rw I Q P T N) {s j p : Int} {T1 : Nat → Int → Int} {G1 : Nat → Int → Int} {Rw1 : Int → List Int} (s0 : 0 ≤ s) (s1 : s < (N : Int)) (hm : F 14 ≠ -1 ∧ G 9 (F 14) = G 2 s ∧ G 11 (60 * s + F 14) = -1 ∧ G 16 s ≠ -1)
    (hp : j = ((mOf (gW G s) (rAt 60 (T s 5) (P s 8)) ((Rw s).take p.toNat)).length : Int)) (hf : fPl (P s 8) (P s 2) (Q 1) (gW G s) (I 2) (rAt 60 (T s 5) (P s 8)) (Rw s) j) (hi : insT (T s) T1 (gW G s) (Rw s) (I 2) (rAt 60 (T s 5) (P s 8)) j) (ho : insO F G Rw s (F 14) (curO G s) G1 Rw1) :
    (mOf (zup (gW G s) (I 2) (rAt 60 (T s 5) (P s 8))) (rAt 60 (T s 5) (P s 8)) (zinsl (Rw s) p (I 2))).length = (zmem G1 s (curO G s) (Rw1 s)).length ∧ RD F (Gup G1 16 s (F 14)) Rw1 I Q (upI P s (Fup (P s) 8 (I 2))) (upI T s T1) N ∧ mI F (Gup G1 16 s (F 14)) Rw1 := by
  have h6 := h.1.2.1
  have h0 := h.1.1
  have hN := r.1.2.2.2.2
  have hcu := cur_own h r s0 s1
  have hC := (con_iff h r s0 s1).mpr hm
  rw [hcu] at hp hf hi ⊢
  rw [hcu] at hC
  obtain ⟨⟨e0, e1, e2, e3, e4, e8⟩, t1, t2⟩ := r.2.2.2.2.2.2 s s0 s1
  have hi2 := r.1.2.2.1
  rw [hi2] at hf hi ⊢
  rw [e8, e2] at hf
  have hv := h.2.1.resolve_left hm.1
  have hio : gO F G s (curO G s) := by
    have := (cur_isO t2 (P s 8)).resolve_left (by rw [hcu]; exact hC.2.2.2)
    rwa [hcu] at this
  have hnL : F 14 ∉ Rw s := fun z => ((t2.1.2.2.1 _).mp z).2.2 hm.2.2.1
  have hro : ¬ gO F G s (F 14) := fun z => by
    have := (h.1.2.2.1 s s0 (by omega)).2.2.1
    exact this (by rw [← z.2.2.2, hm.2.1])
  obtain ⟨⟨p', hnp, hRw⟩, hmS, h11, hk⟩ := ho
  have hVm : ∀ u : Int, u = F 14 ∨ u ∈ Rw s → Q 1 u = G 10 u := fun u hu => by
    rcases hu with z | z
    · rw [z]; exact r.2.2.2.2.1 _ hv.1 hv.2.1
    · obtain ⟨z0, z1, z2⟩ := (t2.1.2.2.1 _).mp z
      rcases h.1.2.2.2.2.1 s u s0 (by omega) z0 z1 with y | y
      · exact absurd y z2
      · exact r.2.2.2.2.1 u z0 y.2.2.2.1
  have hd := h.1.2.2.1 s s0 (by omega)
  obtain ⟨hj, hk1⟩ := sim_ins t2 hVm hd.2.2.2.1 (cur_row h s0 (by omega) hC.2.2.2) hio hnL hv.1 (by omega) hro hf hi hnp
  obtain ⟨w1, w2⟩ := gW_up h11 hv.1 (show F 14 < 60 by omega)
  have hRs : Rw1 s = zinsl (Rw s) p' (F 14) := by rw [hRw]; exact if_pos rfl
  refine ⟨?_, ?_, hmS, ?_⟩
  · rw [zmem_gW, hRs, mOf_congr (ow := gW G1 s) (ow' := zup (gW G s) (F 14) (curO G s)) (fun u hu => by
      rcases zinsl_mem.mp hu with z | z
      · rw [z]; exact w1 _ hv.1 (by omega)
      · obtain ⟨z0, z1, -⟩ := (t2.1.2.2.1 _).mp z
        exact w1 u z0 z1), mOf_ins hnL, mOf_ins hnL, zinsl_len, zinsl_len]
  · refine RD_set (c := F 14) r s0 s1 (fun k a b c d => ?_) (fun t ht => ?_) ?_ (fun t u ht u0 u1 => w2 t u ht u0 u1) (fun t ht => by rw [hRw]; exact if_neg ht) hi.2.2.2 ?_
    · show (if k = 16 then zup (G1 16) s (F 14) else G1 k) = G k
      rw [if_neg d, hk k a b c]
    · show zup (G1 16) s (F 14) t = G 16 t
      rw [zup_n _ _ ht, hk 16 (by decide) (by decide) (by decide)]
    · exact zup_s _ _ _
    · rw [hRs]
      exact rOK_congr hk1 rfl (fun _ => Iff.rfl) (fun u u0 u1 => (w1 u u0 u1).symm)
  · refine mC_set h.2 hk (fun t u ht u0 u1 => w2 t u ht u0 u1) (by omega) (Or.inr ⟨by omega, hv.1, hv.2.1, hv.2.2, Or.inr ?_⟩)
    rw [w1 _ hv.1 (by omega), zup_s]
    exact hC.2.2.2
end SIMC
