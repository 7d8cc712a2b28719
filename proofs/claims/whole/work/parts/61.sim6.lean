theorem sim_rec {F : Nat → Int} {G : Nat → Int → Int} {Rw : Int → List Int} {I : Nat → Int} {Q : Nat → Int → Int} {P : Int → Nat → Int} {T : Int → Nat → Int → Int} {N : Nat} (h : mI F G Rw) (r : RD F G Rw I Q P T N) {s q j p : Int} {T1 T2 : Nat → Int → Int} {G1 G2 : Nat → Int → Int} {Rw1 Rw2 : Int → List Int} (s0 : 0 ≤ s) (s1 : s < (N : Int)) (hm : F 14 ≠ -1 ∧ G 11 (60 * s + F 14) ≠ -1) (hq : gO F G s q) (ht : outT (T s) T1 (I 2))
    (hp : j = ((mOf (zup (gW G s) (I 2) (-1)) q ((zdel (Rw s) (I 2)).take p.toNat)).length : Int)) (hf : fPl (P s 8) (P s 2) (Q 1) (zup (gW G s) (I 2) (-1)) (I 2) q (zdel (Rw s) (I 2)) j) (hi : insT T1 T2 (zup (gW G s) (I 2) (-1)) (zdel (Rw s) (I 2)) (I 2) q j) (ho : outO F G Rw s (F 14) G1 Rw1) (ho2 : insO F G1 Rw1 s (F 14) q G2 Rw2) :
    (mOf (zup (zup (gW G s) (I 2) (-1)) (I 2) q) q (zinsl (zdel (Rw s) (I 2)) p (I 2))).length = (zmem G2 s q (Rw2 s)).length ∧ RD F (Gup G2 16 s (F 14)) Rw2 I Q (upI P s (Fup (P s) 8 (I 2))) (upI T s T2) N ∧ mI F (Gup G2 16 s (F 14)) Rw2 := by
  have h6 := h.1.2.1
  have h0 := h.1.1
  have hN := r.1.2.2.2.2
  obtain ⟨⟨e0, e1, e2, e3, e4, e8⟩, t1, t2⟩ := r.2.2.2.2.2.2 s s0 s1
  have hi2 := r.1.2.2.1
  rw [hi2] at ht hp hf hi ⊢
  rw [e8, e2] at hf
  have hv := h.2.1.resolve_left hm.1
  have hmL : F 14 ∈ Rw s := (t2.1.2.2.1 _).mpr ⟨hv.1, by omega, hm.2⟩
  have hro := (rC_no t2.1 hmL).1
  obtain ⟨hRw, hmS1, h11, hk⟩ := ho
  obtain ⟨⟨p', hnp, hRw2⟩, hmS2, h21, hk2⟩ := ho2
  have hk1 := rOK_out t2 hmL ht.1 ht.2.1 ht.2.2.1
  obtain ⟨w1, w2⟩ := gW_up h11 hv.1 (show F 14 < 60 by omega)
  obtain ⟨x1, x2⟩ := gW_up h21 hv.1 (show F 14 < 60 by omega)
  have hRs : Rw1 s = zdel (Rw s) (F 14) := by rw [hRw]; exact if_pos rfl
  have hRs2 : Rw2 s = zinsl (Rw1 s) p' (F 14) := by rw [hRw2]; exact if_pos rfl
  rw [← hRs] at hp hf hi hk1 ⊢
  have hnL : F 14 ∉ Rw1 s := fun z => by rw [hRs] at z; exact (zdel_mem.mp z).2 rfl
  have hLr : ∀ u ∈ Rw1 s, 0 ≤ u ∧ u < 60 := fun u hu => by
    obtain ⟨z0, z1, -⟩ := (hk1.1.2.2.1 u).mp hu
    exact ⟨z0, z1⟩
  have hkc : rOK T1 (gW G1 s) (gO F G s) (Rw1 s) := rOK_congr hk1 rfl (fun _ => Iff.rfl) (fun u u0 u1 => (w1 u u0 u1).symm)
  have hmq : mOf (zup (gW G s) (F 14) (-1)) q (Rw1 s) = mOf (gW G1 s) q (Rw1 s) := mOf_congr fun u hu => (w1 u (hLr u hu).1 (hLr u hu).2).symm
  have h8r : -1 ≤ G 16 s ∧ G 16 s < 60 := by rcases h.2.2.2 s s0 (by omega) with z | z <;> omega
  have hf' := fPl_ow (ow' := gW G1 s) hLr h8r (fun u u0 u1 => (w1 u u0 u1).symm) hf
  have hi' : insT T1 T2 (gW G1 s) (Rw1 s) (F 14) q j := by
    unfold insT at hi ⊢
    rw [← hmq]
    exact hi
  have f16 : G1 16 = G 16 := hk 16 (by decide) (by decide) (by decide)
  have f3 : G1 3 = G 3 := hk 3 (by decide) (by decide) (by decide)
  have f10 : G1 10 = G 10 := hk 10 (by decide) (by decide) (by decide)
  have hq1 : q ≠ -1 := by have := hq.1; omega
  have hVm : ∀ u : Int, u = F 14 ∨ u ∈ Rw1 s → Q 1 u = G1 10 u := fun u hu => by
    rw [f10]
    rcases hu with z | z
    · rw [z]; exact r.2.2.2.2.1 _ hv.1 hv.2.1
    · rw [hRs] at z
      obtain ⟨z0, z1, z2⟩ := (t2.1.2.2.1 _).mp (zdel_mem.mp z).1
      rcases h.1.2.2.2.2.1 s u s0 (by omega) z0 z1 with y | y
      · exact absurd y z2
      · exact r.2.2.2.2.1 u z0 y.2.2.2.1
  have hd := h.1.2.2.1 s s0 (by omega)
  obtain ⟨hj, hk3⟩ := sim_ins (G := G1) hkc hVm (by rw [f3]; exact hd.2.2.2.1) (fun hne he => by
    rw [f16] at hne he ⊢
    exact (hkc.1.2.2.1 _).mpr ⟨by omega, h8r.2, by unfold gW; rw [he]; exact hq1⟩) hq hnL hv.1 (by omega) hro (by rw [f16, f3]; exact hf') hi' hnp
  have hG2 : ∀ k : Nat, k ≠ 11 → k ≠ 12 → k ≠ 13 → G2 k = G k := fun k a b c => by rw [hk2 k a b c, hk k a b c]
  have hwt : ∀ t u : Int, t ≠ s → 0 ≤ u → u < 60 → gW G2 t u = gW G t u := fun t u hts u0 u1 => by rw [x2 t u hts u0 u1, w2 t u hts u0 u1]
  refine ⟨?_, ?_, hmS2, ?_⟩
  · rw [zmem_gW, hRs2, mOf_congr (ow := gW G2 s) (ow' := zup (gW G1 s) (F 14) q) (fun u hu => by
      rcases zinsl_mem.mp hu with z | z
      · rw [z]; exact x1 _ hv.1 (by omega)
      · exact x1 u (hLr u z).1 (hLr u z).2), mOf_ins hnL, mOf_ins hnL, zinsl_len, zinsl_len, hmq]
  · refine RD_set (c := F 14) r s0 s1 (fun k a b c d => ?_) (fun t ht => ?_) ?_ hwt (fun t ht => by rw [hRw2]; exact (if_neg ht).trans (by rw [hRw]; exact if_neg ht)) hi.2.2.2 ?_
    · show (if k = 16 then zup (G2 16) s (F 14) else G2 k) = G k
      rw [if_neg d, hG2 k a b c]
    · show zup (G2 16) s (F 14) t = G 16 t
      rw [zup_n _ _ ht, hG2 16 (by decide) (by decide) (by decide)]
    · exact zup_s _ _ _
    · rw [hRs2]
      exact rOK_congr hk3 rfl (fun _ => Iff.rfl) (fun u u0 u1 => (x1 u u0 u1).symm)
  · refine mC_set h.2 hG2 hwt (by omega) (Or.inr ⟨by omega, hv.1, hv.2.1, hv.2.2, Or.inr ?_⟩)
    rw [x1 _ hv.1 (by omega), zup_s]
    exact hq1
