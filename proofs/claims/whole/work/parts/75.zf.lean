/-! class and reference end a call alike -/
def RS (g : zG) (F : Nat → Int) (G : Nat → Int → Int) (Rw : Int → List Int) (S : zS) : Prop := RD F G Rw S.2.2.1 S.2.2.2.1 S.2.2.2.2.1 S.2.2.2.2.2.1 S.2.2.2.2.2.2 ∧ (S.2.2.2.2.2.2 = 0 → S.1 13 = g.2.2.2.2.2)
/-- what the law needs behind both calls: k how the class ended, v and b' the answers -/
def zEnd (g : zG) (a : Nat → Nat) (rest : va_W) (k v b' : Int) (w : va_W) (S S' : zS) : Prop := ∃ (F' : Nat → Int) (G' : Nat → Int → Int) (Rw' : Int → List Int), w = mW g a F' G' rest ∧ F' 18 = k ∧ (k = 0 → v = b') ∧ mI F' G' Rw' ∧ RS g F' G' Rw' S' ∧ S'.1 0 = S.1 0
section FIN
variable {g : zG} {a : Nat → Nat} {F : Nat → Int} {G : Nat → Int → Int} {Rw : Int → List Int} {b : Nat → Nat} {c : Int → Nat → Nat} {I : Nat → Int} {Q : Nat → Int → Int} {P : Int → Nat → Int} {T : Int → Nat → Int → Int} {N : Nat} {rest w : va_W}
theorem zEnd_no (h : mI F G Rw) (r : RD F G Rw I Q P T N) (hb : N = 0 → b 13 = g.2.2.2.2.2) {k v b' : Int} (hk : k ≠ 0) (hw : w = mW g a (Fup F 18 k) G rest) : zEnd g a rest k v b' w (b, c, I, Q, P, T, N) (b, c, I, Q, P, T, N) := ⟨Fup F 18 k, G, Rw, hw, Fup_s _ _ _, fun z => absurd z hk, mI_18 h, ⟨RD_18 r k, hb⟩, rfl⟩
theorem zEnd_q (h : mI F G Rw) (r : RD F G Rw I Q P T N) (hb : N = 0 → b 13 = g.2.2.2.2.2) {v b' : Int} (hv : v = b') (hw : w = mW g a (Fup F 18 0) G rest) : zEnd g a rest 0 v b' w (b, c, I, Q, P, T, N) (b, c, I, Q, P, T, N) := ⟨Fup F 18 0, G, Rw, hw, Fup_s _ _ _, fun _ => hv, mI_18 h, ⟨RD_18 r 0, hb⟩, rfl⟩
theorem RD_mk (h : mI F G Rw) (r : RD F G Rw I Q P T N) {f : Int} (hf : 0 ≤ f ∧ f < F 6 ∧ G 8 f = 1) : RD (becF F f) (becG F G f) Rw (Fup I 2 f) (Gset Q 2 (zup (Q 2) (Q 0 f) f)) (mkP P T f (N : Int)) T N := by
  have h6 := h.1.2.1
  have h0 := h.1.1
  have hf1 : f ≠ -1 := by omega
  have hty := RD_ty h r hf.1 hf.2.1 hf.2.2
  rw [becF, becG, if_neg hf1, if_neg hf1]
  obtain ⟨⟨r0, r1, r2, r5, rN⟩, r7, q0, q1, q10, q2, rs⟩ := r
  refine ⟨⟨r0, r1, rfl, r5, rN⟩, r7, q0, q1, q10, fun t t0 t1 => ?_, fun s s0 s1 => ?_⟩
  · show zup (Q 2) (Q 0 f) f t = zup (G 15) (G 9 f) f t
    rw [hty]
    by_cases e : t = G 9 f
    · rw [e, zup_s, zup_s]
    · rw [zup_n _ _ e, zup_n _ _ e]
      exact q2 t t0 t1
  · obtain ⟨⟨e0, e1, e2, e3, e4, e8⟩, t1, t2⟩ := rs s s0 s1
    have h5 := rOK_ring t2 hf.1 (show f < 60 by omega)
    have hiff : T s 5 f ≠ -1 ↔ (G 9 f = G 1 s ∨ G 11 (60 * s + f) ≠ -1) := by
      constructor
      · intro z
        rcases Decidable.em (G 9 f = G 1 s) with y | y
        · exact Or.inl y
        · exact Or.inr (fun y2 => z (h5.2.2.2.2.mpr ⟨fun y3 => y y3.2.2.2, y2⟩))
      · intro z y
        obtain ⟨y1, y2⟩ := h5.2.2.2.2.mp y
        rcases z with z | z
        · exact y1 ⟨hf.1, hf.2.1, hf.2.2, z⟩
        · exact z y2
    have h8 : mkP P T f (N : Int) s 8 = if 0 ≤ s ∧ s < F 0 ∧ (G 9 f = G 1 s ∨ G 11 (60 * s + f) ≠ -1) then f else G 16 s := by
      unfold mkP
      by_cases z : T s 5 f ≠ -1
      · rw [if_pos ⟨s0, s1, z⟩, Fup_s, if_pos ⟨s0, by omega, hiff.mp z⟩]
      · rw [if_neg (fun y => z y.2.2), if_neg (fun y => z (hiff.mpr y.2.2)), e8]
    have hk : ∀ k : Nat, k ≠ 8 → mkP P T f (N : Int) s k = P s k := fun k hk => by
      unfold mkP
      split
      · rw [Fup_n _ _ hk]
      · rfl
    refine ⟨⟨?_, ?_, ?_, ?_, ?_, h8⟩, t1, t2⟩
    · rw [hk 0 (by decide)]; exact e0
    · rw [hk 1 (by decide)]; exact e1
    · rw [hk 2 (by decide)]; exact e2
    · rw [hk 3 (by decide)]; exact e3
    · rw [hk 4 (by decide)]; exact e4
theorem sim_mkS (h : mI F G Rw) (r : RD F G Rw I Q P T N) (hb : N = 0 → b 13 = g.2.2.2.2.2) {f v : Int} {S' : zS} (hf : f = -1 ∨ 0 ≤ f ∧ f < F 6 ∧ G 8 f = 1) (hm : mkS b c I Q P T N f v S') : v = f ∧ RS g (becF F f) (becG F G f) Rw S' ∧ S'.1 0 = b 0 := by
  rcases hm with ⟨m0, m1, rfl⟩ | ⟨m0, m1, rfl⟩
  · have hf1 : f = -1 := by
      rcases hf with e | e
      · exact e
      · exact absurd m0 ((RD_rec h r f).mpr e)
    rw [hf1, becF_none, becG_none]
    exact ⟨m1, ⟨r, hb⟩, rfl⟩
  · exact ⟨m1, ⟨RD_mk h r ((RD_rec h r f).mp m0), hb⟩, rfl⟩
theorem zEnd_f (h : mI F G Rw) (r : RD F G Rw I Q P T N) (hb : N = 0 → b 13 = g.2.2.2.2.2) {f X v b' : Int} {S' : zS} (hf : f = -1 ∨ 0 ≤ f ∧ f < F 6 ∧ G 8 f = 1) (hX : X = f) (hm : mkS b c I Q P T N X v S') (hv : b' = f) (hw : w = mW g a (Fup (becF F f) 18 0) (becG F G f) rest) : zEnd g a rest 0 v b' w (b, c, I, Q, P, T, N) S' := by
  subst hX
  obtain ⟨e1, e2, e3⟩ := sim_mkS h r hb hf hm
  exact ⟨_, _, Rw, hw, Fup_s _ _ _, fun _ => by rw [e1, hv], mI_18 (mI_bec h hf), ⟨RD_18 e2.1 0, e2.2⟩, e3⟩

set_option maxHeartbeats 4000000 in
set_option maxRecDepth 100000 in
theorem fin_declare (h : mI F G Rw) (r : RD F G Rw I Q P T N) (hb : N = 0 → b 13 = g.2.2.2.2.2) (p : Int) (hp : -2147483648 ≤ p ∧ p < 2147483648) (q : Int) (hq : -2147483648 ≤ q ∧ q < 2147483648) (i : Int) (hi : -2147483648 ≤ i ∧ i < 2147483648) (z : Int) (hz : z = 0 ∨ z = 1) (y : Int) (hy : -2147483648 ≤ y ∧ y < 2147483648) {k9 v9 b9 : Int} {S' : zS} (hc : zCl ((0 ≤ p ∧ p ≤ 3) ∧ (0 ≤ q ∧ q ≤ 3) ∧ (0 ≤ i ∧ i ≤ 4) ∧ (0 ≤ y ∧ y ≤ 2) ∧ p ≠ q) (N < 6 ∧ I 0 ≤ 0) (fun u9 S9 => u9 = (N : Int) ∧ ∃ (b1 : Nat → Nat) (cN : Nat → Nat), (∀ k : Nat, k ≠ 13 → b1 k = b k) ∧ S9 = (b1, upI c (N : Int) cN, Fup (Fup I 4 (I 4 + 1)) 5 ((N : Int) + 1), Q, upI P (N : Int) (fun k => [p, q, i, z, y, 0, 0, 0, -1].getD k 0), upI T (N : Int) (fun _ => rowF 60), N + 1)) (b, c, I, Q, P, T, N) k9 v9 S') (hm : (fun v w => (¬ ((0 ≤ p ∧ p ≤ 3) ∧ (0 ≤ q ∧ q ≤ 3) ∧ (0 ≤ i ∧ i ≤ 4) ∧ (0 ≤ y ∧ y ≤ 2) ∧ p ≠ q) ∧ w = mW g a (Fup F 18 1) G rest) ∨ (((0 ≤ p ∧ p ≤ 3) ∧ (0 ≤ q ∧ q ≤ 3) ∧ (0 ≤ i ∧ i ≤ 4) ∧ (0 ≤ y ∧ y ≤ 2) ∧ p ≠ q) ∧ (F 0 = 6 ∨ 0 < F 6) ∧ w = mW g a (Fup F 18 2) G rest) ∨ (((0 ≤ p ∧ p ≤ 3) ∧ (0 ≤ q ∧ q ≤ 3) ∧ (0 ≤ i ∧ i ≤ 4) ∧ (0 ≤ y ∧ y ≤ 2) ∧ p ≠ q) ∧ ¬ (F 0 = 6 ∨ 0 < F 6) ∧ v = F 0 ∧ w = mW g a (Fup (Fup F 0 (F 0 + 1)) 18 0) (Gup (Gup (Gup (Gup (Gup G 1 (F 0) p) 2 (F 0) q) 3 (F 0) i) 4 (F 0) z) 5 (F 0) y) rest)) b9 w) : zEnd g a rest k9 v9 b9 w (b, c, I, Q, P, T, N) S' := by
  have h0 := h.1.1
  have h6 := h.1.2.1
  have hN := r.1.2.2.2.2
  have hBB : (N < 6 ∧ I 0 ≤ 0) ↔ ¬ (F 0 = 6 ∨ 0 < F 6) := by rw [r.1.1]; omega
  have hAA : ((0 ≤ p ∧ p ≤ 3) ∧ (0 ≤ q ∧ q ≤ 3) ∧ (0 ≤ i ∧ i ≤ 4) ∧ (0 ≤ y ∧ y ≤ 2) ∧ p ≠ q) ↔ ((0 ≤ p ∧ p ≤ 3) ∧ (0 ≤ q ∧ q ≤ 3) ∧ (0 ≤ i ∧ i ≤ 4) ∧ (0 ≤ y ∧ y ≤ 2) ∧ p ≠ q) := Iff.rfl
  rcases hc with ⟨rfl, rfl, hnA⟩ | ⟨rfl, rfl, hA, hnB⟩ | ⟨rfl, hA, hB, hR⟩
  · rcases hm with ⟨hnA', rfl⟩ | ⟨hA', hm⟩ | ⟨hA', hm⟩
    · exact zEnd_no h r hb (by decide) rfl
    · exact absurd (hAA.mpr ((fun z => z) hA')) hnA
    · exact absurd (hAA.mpr ((fun z => z) hA')) hnA
  · rcases hm with ⟨hnA', rfl⟩ | ⟨hA', hnB', rfl⟩ | ⟨hA', hB', hm⟩
    · exact absurd (hAA.mp hA) hnA'
    · exact zEnd_no h r hb (by decide) rfl
    · exact absurd (hBB.mpr hB') hnB
  · rcases hm with ⟨hnA', rfl⟩ | ⟨hA', hnB', hm⟩ | ⟨hA', hB', hm⟩
    · exact absurd (hAA.mp hA) hnA'
    · exact absurd hnB' (hBB.mp hB)
    · obtain ⟨hv, rfl⟩ := hm
      obtain ⟨hv9, b1, cN, e0, rfl⟩ := hR
      obtain ⟨e2, e3⟩ := sim_dec h r hA hz hB.1 (by omega) rfl
      exact ⟨_, _, Rw, rfl, Fup_s _ _ _, fun _ => by rw [hv9, hv, hN], mI_18 e3, ⟨RD_18 e2 0, fun z => absurd z (Nat.succ_ne_zero _)⟩, e0 0 (by decide)⟩

set_option maxHeartbeats 4000000 in
set_option maxRecDepth 100000 in
theorem fin_store (h : mI F G Rw) (r : RD F G Rw I Q P T N) (hb : N = 0 → b 13 = g.2.2.2.2.2) (t : Int) (ht : -2147483648 ≤ t ∧ t < 2147483648) (v : Int) (hv : -2147483648 ≤ v ∧ v < 2147483648) {k9 v9 b9 : Int} {S' : zS} (hc : zCl ((0 ≤ t ∧ t ≤ 3) ∧ (-1000 ≤ v ∧ v ≤ 1000)) (I 0 < 60 ∧ ∀ s : Int, 0 ≤ s → s < (N : Int) → ¬ (P s 3 = 1 ∧ P s 1 = t ∧ P s 8 = -1)) (fun u9 S9 => ∃ T1 : Int → Nat → Int → Int, (∀ s : Int, 0 ≤ s → s < (N : Int) → adO (P s) ((Gset (Gset Q 0 (zup (Q 0) (I 0) t)) 1 (zup (Q 1) (I 0) v)) 1) (gW G s) (Rw s) t (I 0) (T s) (T1 s)) ∧ mkS b c (Fup (Fup I 0 (I 0 + 1)) 1 (I 1 + 1)) (Gset (Gset Q 0 (zup (Q 0) (I 0) t)) 1 (zup (Q 1) (I 0) v)) P T1 N (I 0) u9 S9) (b, c, I, Q, P, T, N) k9 v9 S') (hm : (fun u w => (¬ ((0 ≤ t ∧ t ≤ 3) ∧ (-1000 ≤ v ∧ v ≤ 1000)) ∧ w = mW g a (Fup F 18 1) G rest) ∨ (((0 ≤ t ∧ t ≤ 3) ∧ (-1000 ≤ v ∧ v ≤ 1000)) ∧ ¬ (F 6 < 60 ∧ (∀ s : Int, 0 ≤ s → s < F 0 → ¬ (G 4 s = 1 ∧ G 2 s = t ∧ G 16 s = -1))) ∧ w = mW g a (Fup F 18 2) G rest) ∨ (((0 ≤ t ∧ t ≤ 3) ∧ (-1000 ≤ v ∧ v ≤ 1000)) ∧ (F 6 < 60 ∧ (∀ s : Int, 0 ≤ s → s < F 0 → ¬ (G 4 s = 1 ∧ G 2 s = t ∧ G 16 s = -1))) ∧ u = F 6 ∧ ∃ (G1 : Nat → Int → Int) (Rw1 : Int → List Int), stoO F G Rw t v G1 Rw1 (F 0) ∧ w = mW g a (Fup (becF (stoF F) (F 6)) 18 0) (becG (stoF F) G1 (F 6)) rest)) b9 w) : zEnd g a rest k9 v9 b9 w (b, c, I, Q, P, T, N) S' := by
  have h0 := h.1.1
  have h6 := h.1.2.1
  have hN := r.1.2.2.2.2
  have hBB : (I 0 < 60 ∧ ∀ s : Int, 0 ≤ s → s < (N : Int) → ¬ (P s 3 = 1 ∧ P s 1 = t ∧ P s 8 = -1)) ↔ (F 6 < 60 ∧ (∀ s : Int, 0 ≤ s → s < F 0 → ¬ (G 4 s = 1 ∧ G 2 s = t ∧ G 16 s = -1))) := by
    rw [r.1.1]
    refine and_congr_right fun _ => ⟨fun z s s0 s1 => ?_, fun z s s0 s1 => ?_⟩
    · obtain ⟨ep, -⟩ := r.2.2.2.2.2.2 s s0 (by omega)
      have := z s s0 (by omega)
      rwa [ep.2.2.2.1, ep.2.1, ep.2.2.2.2.2] at this
    · obtain ⟨ep, -⟩ := r.2.2.2.2.2.2 s s0 s1
      rw [ep.2.2.2.1, ep.2.1, ep.2.2.2.2.2]
      exact z s s0 (by omega)
  have hAA : ((0 ≤ t ∧ t ≤ 3) ∧ (-1000 ≤ v ∧ v ≤ 1000)) ↔ ((0 ≤ t ∧ t ≤ 3) ∧ (-1000 ≤ v ∧ v ≤ 1000)) := Iff.rfl
  rcases hc with ⟨rfl, rfl, hnA⟩ | ⟨rfl, rfl, hA, hnB⟩ | ⟨rfl, hA, hB, hR⟩
  · rcases hm with ⟨hnA', rfl⟩ | ⟨hA', hm⟩ | ⟨hA', hm⟩
    · exact zEnd_no h r hb (by decide) rfl
    · exact absurd (hAA.mpr ((fun z => z) hA')) hnA
    · exact absurd (hAA.mpr ((fun z => z) hA')) hnA
  · rcases hm with ⟨hnA', rfl⟩ | ⟨hA', hnB', rfl⟩ | ⟨hA', hB', hm⟩
    · exact absurd (hAA.mp hA) hnA'
    · exact zEnd_no h r hb (by decide) rfl
    · exact absurd (hBB.mpr hB') hnB
  · rcases hm with ⟨hnA', rfl⟩ | ⟨hA', hnB', hm⟩ | ⟨hA', hB', hm⟩
    · exact absurd (hAA.mp hA) hnA'
    · exact absurd (hBB.mp hB) hnB'
    · obtain ⟨hv, G1, Rw1, ho, rfl⟩ := hm
      obtain ⟨T1, ha9, hm9⟩ := hR
      obtain ⟨e2, e3⟩ := sim_sto h r hA.1 hA.2 hB'.1 hB'.2 ha9 ho
      have e8 : G1 8 (F 6) = 1 := by
        rw [ho.2.1 8 (by decide) (by decide) (by decide)]
        exact zup_s _ _ _
      exact zEnd_f e3 e2 hb (Or.inr ⟨h6.1, by show F 6 < F 6 + 1; omega, e8⟩) r.1.1 hm9 hv rfl

set_option maxHeartbeats 4000000 in
set_option maxRecDepth 100000 in
theorem fin_modify (h : mI F G Rw) (r : RD F G Rw I Q P T N) (hb : N = 0 → b 13 = g.2.2.2.2.2) (v : Int) (hv : -2147483648 ≤ v ∧ v < 2147483648) {k9 v9 b9 : Int} {S' : zS} (hc : zCl (-1000 ≤ v ∧ v ≤ 1000) (I 2 ≠ -1) (fun u9 S9 => u9 = Q 1 (I 2) ∧ ∃ T1 : Int → Nat → Int → Int, S9 = (b, c, I, (Gset Q 1 (zup (Q 1) (I 2) v)), P, T1, N) ∧ ∀ s : Int, 0 ≤ s → s < (N : Int) → soO (P s) ((Gset Q 1 (zup (Q 1) (I 2) v)) 1) (gW G s) (Rw s) (I 2) (T s) (T1 s)) (b, c, I, Q, P, T, N) k9 v9 S') (hm : (fun u w => (¬ (-1000 ≤ v ∧ v ≤ 1000) ∧ w = mW g a (Fup F 18 1) G rest) ∨ ((-1000 ≤ v ∧ v ≤ 1000) ∧ F 14 = -1 ∧ w = mW g a (Fup F 18 2) G rest) ∨ ((-1000 ≤ v ∧ v ≤ 1000) ∧ F 14 ≠ -1 ∧ u = G 10 (F 14) ∧ ∃ (G1 : Nat → Int → Int) (Rw1 : Int → List Int), modO F G Rw v G1 Rw1 (F 0) ∧ w = mW g a (Fup F 18 0) G1 rest)) b9 w) : zEnd g a rest k9 v9 b9 w (b, c, I, Q, P, T, N) S' := by
  have h0 := h.1.1
  have h6 := h.1.2.1
  have hN := r.1.2.2.2.2
  have hBB : (I 2 ≠ -1) ↔ F 14 ≠ -1 := by rw [r.1.2.2.1]
  have hAA : (-1000 ≤ v ∧ v ≤ 1000) ↔ (-1000 ≤ v ∧ v ≤ 1000) := Iff.rfl
  rcases hc with ⟨rfl, rfl, hnA⟩ | ⟨rfl, rfl, hA, hnB⟩ | ⟨rfl, hA, hB, hR⟩
  · rcases hm with ⟨hnA', rfl⟩ | ⟨hA', hm⟩ | ⟨hA', hm⟩
    · exact zEnd_no h r hb (by decide) rfl
    · exact absurd (hAA.mpr ((fun z => z) hA')) hnA
    · exact absurd (hAA.mpr ((fun z => z) hA')) hnA
  · rcases hm with ⟨hnA', rfl⟩ | ⟨hA', hnB', rfl⟩ | ⟨hA', hB', hm⟩
    · exact absurd (hAA.mp hA) hnA'
    · exact zEnd_no h r hb (by decide) rfl
    · exact absurd (hBB.mpr hB') hnB
  · rcases hm with ⟨hnA', rfl⟩ | ⟨hA', hnB', hm⟩ | ⟨hA', hB', hm⟩
    · exact absurd (hAA.mp hA) hnA'
    · exact absurd hnB' (hBB.mp hB)
    · obtain ⟨hv, G1, Rw1, ho, rfl⟩ := hm
      obtain ⟨hv9, T1, rfl, hso⟩ := hR
      obtain ⟨e1, e2, e3⟩ := sim_mod h r hA hB' hso ho
      exact ⟨_, _, Rw1, rfl, Fup_s _ _ _, fun _ => by rw [hv9, hv, e1], mI_18 e3, ⟨RD_18 e2 0, hb⟩, rfl⟩

set_option maxHeartbeats 4000000 in
set_option maxRecDepth 100000 in
theorem fin_erase (h : mI F G Rw) (r : RD F G Rw I Q P T N) (hb : N = 0 → b 13 = g.2.2.2.2.2) (y : Int) (hy : -2147483648 ≤ y ∧ y < 2147483648) {k9 v9 b9 : Int} {S' : zS} (hc : zCl (0 ≤ y ∧ y ≤ 2) (I 2 ≠ -1 ∧ (y = 0 → ∀ s : Int, 0 ≤ s → s < (N : Int) → ¬ (gO F G s (I 2) ∧ 0 < ((mOf (gW G s) (I 2) (Rw s)).length : Int)))) (fun u9 S9 => ∃ (I1 : Nat → Int) (Q1 : Nat → Int → Int) (T1 : Int → Nat → Int → Int) (D : List Int), S9 = (b, c, I1, Q1, PD P (gW G) D N, T1, N) ∧ u9 = (D.length : Int) ∧ D.Nodup ∧ (∀ u ∈ D, 0 ≤ u ∧ u < 60) ∧ gDm P (gW G) (gO F G) Rw N y (I 2) D ∧ eL g b c I Q P N (gW G) (gO F G) Rw D (D.length : Int) I1 Q1 T1) (b, c, I, Q, P, T, N) k9 v9 S') (hm : (fun v w => (¬ (0 ≤ y ∧ y ≤ 2) ∧ w = mW g a (Fup F 18 1) G rest) ∨ ((0 ≤ y ∧ y ≤ 2) ∧ (F 14 = -1 ∨ (F 14 ≠ -1 ∧ y = 0 ∧ ∃ s u : Int, 0 ≤ s ∧ s < 6 ∧ 0 ≤ u ∧ u < 60 ∧ G 11 (60 * s + u) = F 14)) ∧ ∃ f : Int → Int, w = mW g a (Fup F 18 2) (Gset G 17 f) rest) ∨ ((0 ≤ y ∧ y ≤ 2) ∧ F 14 ≠ -1 ∧ (y = 0 → ∀ s u : Int, 0 ≤ s → s < 6 → 0 ≤ u → u < 60 → G 11 (60 * s + u) ≠ F 14) ∧ ∃ (M : List Int) (G1 : Nat → Int → Int) (Rw1 : Int → List Int), (M.Nodup ∧ (∀ q ∈ M, 0 ≤ q ∧ q < 60) ∧ (∀ q : Int, q ∈ M ↔ gCl G (F 14) y q)) ∧ v = (M.length : Int) ∧ eraO F G Rw M G1 Rw1 ∧ w = mW g a (Fup (eraF F (M.length : Int)) 18 0) G1 rest)) b9 w) : zEnd g a rest k9 v9 b9 w (b, c, I, Q, P, T, N) S' := by
  have h0 := h.1.1
  have h6 := h.1.2.1
  have hN := r.1.2.2.2.2
  have hBB : (I 2 ≠ -1 ∧ (y = 0 → ∀ s : Int, 0 ≤ s → s < (N : Int) → ¬ (gO F G s (I 2) ∧ 0 < ((mOf (gW G s) (I 2) (Rw s)).length : Int)))) ↔ (F 14 ≠ -1 ∧ (y = 0 → ∀ s u : Int, 0 ≤ s → s < 6 → 0 ≤ u → u < 60 → G 11 (60 * s + u) ≠ F 14)) := by
    rw [r.1.2.2.1]
    refine and_congr_right fun z9 => ?_
    have hi := hm_iff h r z9
    constructor
    · intro z y0 s u s0 s1 u0 u1 e
      obtain ⟨s', x0, x1, x2⟩ := hi.mpr ⟨s, u, s0, s1, u0, u1, e⟩
      exact z y0 s' x0 x1 x2
    · intro z y0 s s0 s1 e
      obtain ⟨s', u, x0, x1, x2, x3, x4⟩ := hi.mp ⟨s, s0, s1, e⟩
      exact z y0 s' u x0 x1 x2 x3 x4
  have hAA : (0 ≤ y ∧ y ≤ 2) ↔ (0 ≤ y ∧ y ≤ 2) := Iff.rfl
  rcases hc with ⟨rfl, rfl, hnA⟩ | ⟨rfl, rfl, hA, hnB⟩ | ⟨rfl, hA, hB, hR⟩
  · rcases hm with ⟨hnA', rfl⟩ | ⟨hA', hm⟩ | ⟨hA', hm⟩
    · exact zEnd_no h r hb (by decide) rfl
    · exact absurd (hAA.mpr ((fun z => z) hA')) hnA
    · exact absurd (hAA.mpr ((fun z => z) hA')) hnA
  · rcases hm with ⟨hnA', rfl⟩ | ⟨hA', hnB', hm⟩ | ⟨hA', hB', hm⟩
    · exact absurd (hAA.mp hA) hnA'
    · obtain ⟨f, rfl⟩ := hm
      exact ⟨_, _, Rw, rfl, Fup_s _ _ _, fun z => absurd z (by decide), mI_18 (mI_17 h f), ⟨RD_18 (RD_17 r f (aF_refl _ _)) 2, hb⟩, rfl⟩
    · exact absurd (hBB.mpr ⟨hB', hm.1⟩) hnB
  · rcases hm with ⟨hnA', rfl⟩ | ⟨hA', hnB', hm⟩ | ⟨hA', hB', hm⟩
    · exact absurd (hAA.mp hA) hnA'
    · exact (by
        have hB2 := hBB.mp hB
        rcases hnB' with z | ⟨z1, z2, s', u, x0, x1, x2, x3, x4⟩
        · exact absurd z hB2.1
        · exact absurd x4 (hB2.2 z2 s' u x0 x1 x2 x3))
    · obtain ⟨hB2, M, G1, Rw1, ⟨hM1, hM2, hM3⟩, hv, ho, rfl⟩ := hm
      obtain ⟨I1, Q1, T1, D, rfl, hv9, hD1, hD2, hD3, he⟩ := hR
      obtain ⟨e1, e2, e3⟩ := sim_era h r hD1 hD3 he hM1 hM3 ho
      exact ⟨_, _, Rw1, rfl, Fup_s _ _ _, fun _ => by rw [hv9, hv, e1], mI_18 e3, ⟨RD_18 e2 0, hb⟩, rfl⟩

set_option maxHeartbeats 4000000 in
set_option maxRecDepth 100000 in
theorem fin_connect (h : mI F G Rw) (r : RD F G Rw I Q P T N) (hb : N = 0 → b 13 = g.2.2.2.2.2) (s : Int) (hs : -2147483648 ≤ s ∧ s < 2147483648) {k9 v9 b9 : Int} {S' : zS} (hc : zCl (0 ≤ s ∧ s < (N : Int)) (I 2 ≠ -1 ∧ Q 0 (I 2) = P s 1 ∧ ¬ (T s 5 (I 2) ≠ -1 ∧ T s 5 (I 2) ≠ I 2) ∧ (rAt 60 (T s 5) (P s 8)) ≠ -1) (fun u9 S9 => ∃ (T1 : Nat → Int → Int) (j p : Int), S9 = (b, c, I, Q, upI P s (Fup (P s) 8 (I 2)), upI T s T1, N) ∧ j = ((mOf (gW G s) (rAt 60 (T s 5) (P s 8)) ((Rw s).take p.toNat)).length : Int) ∧ fPl (P s 8) (P s 2) (Q 1) (gW G s) (I 2) (rAt 60 (T s 5) (P s 8)) (Rw s) j ∧ insT (T s) T1 (gW G s) (Rw s) (I 2) (rAt 60 (T s 5) (P s 8)) j ∧ u9 = ((mOf (zup (gW G s) (I 2) (rAt 60 (T s 5) (P s 8))) (rAt 60 (T s 5) (P s 8)) (zinsl (Rw s) p (I 2))).length : Int)) (b, c, I, Q, P, T, N) k9 v9 S') (hm : (fun v w => (¬ (0 ≤ s ∧ s < F 0) ∧ w = mW g a (Fup F 18 1) G rest) ∨ (¬ ¬ (0 ≤ s ∧ s < F 0) ∧ ¬ (F 14 ≠ -1 ∧ G 9 (F 14) = G 2 s ∧ G 11 (60 * s + F 14) = -1 ∧ G 16 s ≠ -1) ∧ w = mW g a (Fup F 18 2) G rest) ∨ (¬ ¬ (0 ≤ s ∧ s < F 0) ∧ (F 14 ≠ -1 ∧ G 9 (F 14) = G 2 s ∧ G 11 (60 * s + F 14) = -1 ∧ G 16 s ≠ -1) ∧ ∃ (G1 : Nat → Int → Int) (Rw1 : Int → List Int), insO F G Rw s (F 14) (curO G s) G1 Rw1 ∧ v = ((zmem G1 s (curO G s) (Rw1 s)).length : Int) ∧ w = mW g a (Fup F 18 0) (Gup G1 16 s (F 14)) rest)) b9 w) : zEnd g a rest k9 v9 b9 w (b, c, I, Q, P, T, N) S' := by
  have h0 := h.1.1
  have h6 := h.1.2.1
  have hN := r.1.2.2.2.2
  have hAA : (0 ≤ s ∧ s < (N : Int)) ↔ (0 ≤ s ∧ s < F 0) := ⟨fun z => ⟨z.1, by have := z.2; omega⟩, fun z => ⟨z.1, by have := z.2; omega⟩⟩
  rcases hc with ⟨rfl, rfl, hnA⟩ | ⟨rfl, rfl, hA, hnB⟩ | ⟨rfl, hA, hB, hR⟩
  · rcases hm with ⟨hnA', rfl⟩ | ⟨hA', hm⟩ | ⟨hA', hm⟩
    · exact zEnd_no h r hb (by decide) rfl
    · exact absurd (hAA.mpr (Decidable.not_not.mp hA')) hnA
    · exact absurd (hAA.mpr (Decidable.not_not.mp hA')) hnA
  · rcases hm with ⟨hnA', rfl⟩ | ⟨hA', hnB', rfl⟩ | ⟨hA', hB', hm⟩
    · exact absurd (hAA.mp hA) hnA'
    · exact zEnd_no h r hb (by decide) rfl
    · exact absurd ((con_iff h r hA.1 hA.2).mpr hB') hnB
  · rcases hm with ⟨hnA', rfl⟩ | ⟨hA', hnB', hm⟩ | ⟨hA', hB', hm⟩
    · exact absurd (hAA.mp hA) hnA'
    · exact absurd ((con_iff h r hA.1 hA.2).mp hB) hnB'
    · obtain ⟨G1, Rw1, ho, hv, rfl⟩ := hm
      obtain ⟨T1, j, p, rfl, hj, hf, hi, hv9⟩ := hR
      obtain ⟨e1, e2, e3⟩ := sim_con h r hA.1 hA.2 hB' hj hf hi ho
      exact ⟨_, _, Rw1, rfl, Fup_s _ _ _, fun _ => by rw [hv9, hv, e1], mI_18 e3, ⟨RD_18 e2 0, hb⟩, rfl⟩

set_option maxHeartbeats 4000000 in
set_option maxRecDepth 100000 in
theorem fin_disconnect (h : mI F G Rw) (r : RD F G Rw I Q P T N) (hb : N = 0 → b 13 = g.2.2.2.2.2) (s : Int) (hs : -2147483648 ≤ s ∧ s < 2147483648) {k9 v9 b9 : Int} {S' : zS} (hc : zCl (0 ≤ s ∧ s < (N : Int)) ((I 2 ≠ -1 ∧ (rAt 60 (T s 5) (I 2) ≠ -1 ∧ rAt 60 (T s 5) (I 2) ≠ I 2)) ∧ P s 4 = 2) (fun u9 S9 => ∃ (T1 : Nat → Int → Int), S9 = (b, c, I, Q, upI P s (if P s 8 = I 2 then Fup (P s) 8 (-1) else P s), upI T s T1, N) ∧ outT (T s) T1 (I 2) ∧ u9 = ((mOf (zup (gW G s) (I 2) (-1)) (gW G s (I 2)) (zdel (Rw s) (I 2))).length : Int)) (b, c, I, Q, P, T, N) k9 v9 S') (hm : (fun v w => (¬ (0 ≤ s ∧ s < F 0) ∧ w = mW g a (Fup F 18 1) G rest) ∨ (¬ ¬ (0 ≤ s ∧ s < F 0) ∧ ¬ (F 14 ≠ -1 ∧ G 11 (60 * s + F 14) ≠ -1 ∧ G 5 s = 2) ∧ w = mW g a (Fup F 18 2) G rest) ∨ (¬ ¬ (0 ≤ s ∧ s < F 0) ∧ (F 14 ≠ -1 ∧ G 11 (60 * s + F 14) ≠ -1 ∧ G 5 s = 2) ∧ ∃ (G1 : Nat → Int → Int) (Rw1 : Int → List Int), outO F G Rw s (F 14) G1 Rw1 ∧ v = ((zmem G1 s (G 11 (60 * s + F 14)) (Rw1 s)).length : Int) ∧ w = mW g a (Fup F 18 0) (Gup G1 16 s (if G 16 s = F 14 then -1 else G 16 s)) rest)) b9 w) : zEnd g a rest k9 v9 b9 w (b, c, I, Q, P, T, N) S' := by
  have h0 := h.1.1
  have h6 := h.1.2.1
  have hN := r.1.2.2.2.2
  have hBB : (0 ≤ s ∧ s < (N : Int)) → (((I 2 ≠ -1 ∧ (rAt 60 (T s 5) (I 2) ≠ -1 ∧ rAt 60 (T s 5) (I 2) ≠ I 2)) ∧ P s 4 = 2) ↔ (F 14 ≠ -1 ∧ G 11 (60 * s + F 14) ≠ -1 ∧ G 5 s = 2)) := fun hs9 => by
    rw [(r.2.2.2.2.2.2 s hs9.1 hs9.2).1.2.2.2.2.1, mem_iff h r hs9.1 hs9.2, and_assoc]
  have hAA : (0 ≤ s ∧ s < (N : Int)) ↔ (0 ≤ s ∧ s < F 0) := ⟨fun z => ⟨z.1, by have := z.2; omega⟩, fun z => ⟨z.1, by have := z.2; omega⟩⟩
  rcases hc with ⟨rfl, rfl, hnA⟩ | ⟨rfl, rfl, hA, hnB⟩ | ⟨rfl, hA, hB, hR⟩
  · rcases hm with ⟨hnA', rfl⟩ | ⟨hA', hm⟩ | ⟨hA', hm⟩
    · exact zEnd_no h r hb (by decide) rfl
    · exact absurd (hAA.mpr (Decidable.not_not.mp hA')) hnA
    · exact absurd (hAA.mpr (Decidable.not_not.mp hA')) hnA
  · rcases hm with ⟨hnA', rfl⟩ | ⟨hA', hnB', rfl⟩ | ⟨hA', hB', hm⟩
    · exact absurd (hAA.mp hA) hnA'
    · exact zEnd_no h r hb (by decide) rfl
    · exact absurd ((hBB hA).mpr hB') hnB
  · rcases hm with ⟨hnA', rfl⟩ | ⟨hA', hnB', hm⟩ | ⟨hA', hB', hm⟩
    · exact absurd (hAA.mp hA) hnA'
    · exact absurd ((hBB hA).mp hB) hnB'
    · obtain ⟨G1, Rw1, ho, hv, rfl⟩ := hm
      obtain ⟨T1, rfl, ht, hv9⟩ := hR
      obtain ⟨e1, e2, e3⟩ := sim_dis h r hA.1 hA.2 ⟨hB'.1, hB'.2.1⟩ ht ho
      exact ⟨_, _, Rw1, rfl, Fup_s _ _ _, fun _ => by rw [hv9, hv, e1], mI_18 e3, ⟨RD_18 e2 0, hb⟩, rfl⟩

set_option maxHeartbeats 4000000 in
set_option maxRecDepth 100000 in
theorem fin_reconnect (h : mI F G Rw) (r : RD F G Rw I Q P T N) (hb : N = 0 → b 13 = g.2.2.2.2.2) (s : Int) (hs : -2147483648 ≤ s ∧ s < 2147483648) (q : Int) (hq : -2147483648 ≤ q ∧ q < 2147483648) {k9 v9 b9 : Int} {S' : zS} (hc : zCl ((0 ≤ s ∧ s < (N : Int)) ∧ gO F G s q) ((I 2 ≠ -1 ∧ (rAt 60 (T s 5) (I 2) ≠ -1 ∧ rAt 60 (T s 5) (I 2) ≠ I 2)) ∧ P s 4 ≠ 0) (fun u9 S9 => ∃ (T1 T2 : Nat → Int → Int) (j p : Int), S9 = (b, c, I, Q, upI P s (Fup (P s) 8 (I 2)), upI T s T2, N) ∧ outT (T s) T1 (I 2) ∧ j = ((mOf (zup (gW G s) (I 2) (-1)) q ((zdel (Rw s) (I 2)).take p.toNat)).length : Int) ∧ fPl (P s 8) (P s 2) (Q 1) (zup (gW G s) (I 2) (-1)) (I 2) q (zdel (Rw s) (I 2)) j ∧ insT T1 T2 (zup (gW G s) (I 2) (-1)) (zdel (Rw s) (I 2)) (I 2) q j ∧ u9 = ((mOf (zup (zup (gW G s) (I 2) (-1)) (I 2) q) q (zinsl (zdel (Rw s) (I 2)) p (I 2))).length : Int)) (b, c, I, Q, P, T, N) k9 v9 S') (hm : (fun v w => (¬ ((0 ≤ s ∧ s < F 0) ∧ (0 ≤ q ∧ q < F 6 ∧ G 8 q = 1) ∧ G 9 q = G 1 s) ∧ w = mW g a (Fup F 18 1) G rest) ∨ (¬ ¬ ((0 ≤ s ∧ s < F 0) ∧ (0 ≤ q ∧ q < F 6 ∧ G 8 q = 1) ∧ G 9 q = G 1 s) ∧ ¬ (F 14 ≠ -1 ∧ G 11 (60 * s + F 14) ≠ -1 ∧ G 5 s ≠ 0) ∧ w = mW g a (Fup F 18 2) G rest) ∨ (¬ ¬ ((0 ≤ s ∧ s < F 0) ∧ (0 ≤ q ∧ q < F 6 ∧ G 8 q = 1) ∧ G 9 q = G 1 s) ∧ (F 14 ≠ -1 ∧ G 11 (60 * s + F 14) ≠ -1 ∧ G 5 s ≠ 0) ∧ ∃ (G1 G2 : Nat → Int → Int) (Rw1 Rw2 : Int → List Int), outO F G Rw s (F 14) G1 Rw1 ∧ insO F G1 Rw1 s (F 14) q G2 Rw2 ∧ v = ((zmem G2 s q (Rw2 s)).length : Int) ∧ w = mW g a (Fup F 18 0) (Gup G2 16 s (F 14)) rest)) b9 w) : zEnd g a rest k9 v9 b9 w (b, c, I, Q, P, T, N) S' := by
  have h0 := h.1.1
  have h6 := h.1.2.1
  have hN := r.1.2.2.2.2
  have hBB : (0 ≤ s ∧ s < (N : Int)) → (((I 2 ≠ -1 ∧ (rAt 60 (T s 5) (I 2) ≠ -1 ∧ rAt 60 (T s 5) (I 2) ≠ I 2)) ∧ P s 4 ≠ 0) ↔ (F 14 ≠ -1 ∧ G 11 (60 * s + F 14) ≠ -1 ∧ G 5 s ≠ 0)) := fun hs9 => by
    rw [(r.2.2.2.2.2.2 s hs9.1 hs9.2).1.2.2.2.2.1, mem_iff h r hs9.1 hs9.2, and_assoc]
  have hAA : ((0 ≤ s ∧ s < (N : Int)) ∧ gO F G s q) ↔ ((0 ≤ s ∧ s < F 0) ∧ (0 ≤ q ∧ q < F 6 ∧ G 8 q = 1) ∧ G 9 q = G 1 s) := ⟨fun z => ⟨⟨z.1.1, by have := z.1.2; omega⟩, ⟨z.2.1, z.2.2.1, z.2.2.2.1⟩, z.2.2.2.2⟩, fun z => ⟨⟨z.1.1, by have := z.1.2; omega⟩, z.2.1.1, z.2.1.2.1, z.2.1.2.2, z.2.2⟩⟩
  rcases hc with ⟨rfl, rfl, hnA⟩ | ⟨rfl, rfl, hA, hnB⟩ | ⟨rfl, hA, hB, hR⟩
  · rcases hm with ⟨hnA', rfl⟩ | ⟨hA', hm⟩ | ⟨hA', hm⟩
    · exact zEnd_no h r hb (by decide) rfl
    · exact absurd (hAA.mpr (Decidable.not_not.mp hA')) hnA
    · exact absurd (hAA.mpr (Decidable.not_not.mp hA')) hnA
  · rcases hm with ⟨hnA', rfl⟩ | ⟨hA', hnB', rfl⟩ | ⟨hA', hB', hm⟩
    · exact absurd (hAA.mp hA) hnA'
    · exact zEnd_no h r hb (by decide) rfl
    · exact absurd ((hBB hA.1).mpr hB') hnB
  · rcases hm with ⟨hnA', rfl⟩ | ⟨hA', hnB', hm⟩ | ⟨hA', hB', hm⟩
    · exact absurd (hAA.mp hA) hnA'
    · exact absurd ((hBB hA.1).mp hB) hnB'
    · obtain ⟨G1, G2, Rw1, Rw2, ho, ho2, hv, rfl⟩ := hm
      obtain ⟨T1, T2, j, p, rfl, ht, hj, hf, hi, hv9⟩ := hR
      obtain ⟨e1, e2, e3⟩ := sim_rec h r hA.1.1 hA.1.2 ⟨hB'.1, hB'.2.1⟩ hA.2 ht hj hf hi ho ho2
      exact ⟨_, _, Rw2, rfl, Fup_s _ _ _, fun _ => by rw [hv9, hv, e1], mI_18 e3, ⟨RD_18 e2 0, hb⟩, rfl⟩

set_option maxHeartbeats 4000000 in
set_option maxRecDepth 100000 in
theorem fin_findOf (h : mI F G Rw) (r : RD F G Rw I Q P T N) (hb : N = 0 → b 13 = g.2.2.2.2.2) (t : Int) (ht : -2147483648 ≤ t ∧ t < 2147483648) (z : Int) (hz : z = 0 ∨ z = 1) {k9 v9 b9 : Int} {S' : zS} (hc : zCl (0 ≤ t ∧ t ≤ 3) True (fun u9 S9 => (u9 = -1 ∧ S9 = (b, c, I, Q, P, T, N) ∧ ∀ j : Int, (if z ≠ 0 then 0 else Q 2 t + 1) ≤ j → j < I 0 → Q 0 j ≠ t) ∨ (((if z ≠ 0 then 0 else Q 2 t + 1) ≤ u9 ∧ u9 < I 0) ∧ Q 0 u9 = t ∧ (∀ j : Int, (if z ≠ 0 then 0 else Q 2 t + 1) ≤ j → j < u9 → Q 0 j ≠ t) ∧ mkS b c I Q P T N u9 u9 S9)) (b, c, I, Q, P, T, N) k9 v9 S') (hm : (fun v w => ∃ c f : Int, ((c = 0 ∧ (0 ≤ t ∧ t ≤ 3) ∧ ((f = -1 ∧ ∀ j : Int, 0 ≤ j → j < F 6 → ¬ (G 8 j = 1 ∧ G 9 j = t ∧ (z ≠ 0 ∨ G 15 t < j))) ∨ ((0 ≤ f ∧ f < F 6) ∧ (G 8 f = 1 ∧ G 9 f = t ∧ (z ≠ 0 ∨ G 15 t < f)) ∧ ∀ j : Int, 0 ≤ j → j < f → ¬ (G 8 j = 1 ∧ G 9 j = t ∧ (z ≠ 0 ∨ G 15 t < j)))) ∧ v = f) ∨ (c = 1 ∧ ¬ (0 ≤ t ∧ t ≤ 3) ∧ f = -1)) ∧ (f = -1 ∨ 0 ≤ f ∧ f < F 6 ∧ G 8 f = 1) ∧ w = mW g a (Fup (becF F f) 18 c) (becG F G f) rest) b9 w) : zEnd g a rest k9 v9 b9 w (b, c, I, Q, P, T, N) S' := by
  have h0 := h.1.1
  have h6 := h.1.2.1
  have hN := r.1.2.2.2.2
  obtain ⟨c9, f9, hd, hf9, rfl⟩ := hm
  have hAA : (0 ≤ t ∧ t ≤ 3) ↔ (0 ≤ t ∧ t ≤ 3) := Iff.rfl
  rcases hc with ⟨rfl, rfl, hnA⟩ | ⟨rfl, rfl, hA, hnB⟩ | ⟨rfl, hA, hB, hR⟩
  · rcases hd with ⟨rfl, hA', -⟩ | ⟨rfl, hnA', rfl⟩
    · exact absurd (hAA.mpr hA') hnA
    · exact zEnd_no h r hb (by decide) (by rw [becF_none, becG_none])
  · exact absurd trivial hnB
  · rcases hd with ⟨rfl, hA', hfe, hv⟩ | ⟨rfl, hnA', rfl⟩
    · have hR2 : (v9 = -1 ∧ ∀ j : Int, (if z ≠ 0 then 0 else Q 2 t + 1) ≤ j → j < I 0 → Q 0 j ≠ t) ∨ (((if z ≠ 0 then 0 else Q 2 t + 1) ≤ v9 ∧ v9 < I 0) ∧ Q 0 v9 = t ∧ ∀ j : Int, (if z ≠ 0 then 0 else Q 2 t + 1) ≤ j → j < v9 → Q 0 j ≠ t) := by
        rcases hR with ⟨x1, x2, x3⟩ | ⟨x1, x2, x3, x4⟩
        · exact Or.inl ⟨x1, x3⟩
        · exact Or.inr ⟨x1, x2, x3⟩
      have hvf := fo_uniq h r hA hz hR2 hfe
      clear hR2 hfe
      rcases hR with ⟨x1, rfl, -⟩ | ⟨-, -, -, x4⟩
      · have hf1 : f9 = -1 := hvf.symm.trans x1
        rw [hf1, becF_none, becG_none]
        exact zEnd_q h r hb (by rw [x1, hv, hf1]) rfl
      · exact zEnd_f h r hb hf9 hvf x4 hv rfl
    · exact absurd (hAA.mp hA) hnA'

set_option maxHeartbeats 4000000 in
set_option maxRecDepth 100000 in
theorem fin_findEnd (h : mI F G Rw) (r : RD F G Rw I Q P T N) (hb : N = 0 → b 13 = g.2.2.2.2.2) (s : Int) (hs : -2147483648 ≤ s ∧ s < 2147483648) (z : Int) (hz : z = 0 ∨ z = 1) {k9 v9 b9 : Int} {S' : zS} (hc : zCl (0 ≤ s ∧ s < (N : Int)) True (fun u9 S9 => mkS b c I Q P T N (nbC (T s) z (rAt 60 (T s 5) (P s 8))) u9 S9) (b, c, I, Q, P, T, N) k9 v9 S') (hm : (fun v w => ∃ c f : Int, ((c = 0 ∧ (0 ≤ s ∧ s < F 0) ∧ (f = (if G 16 s = -1 then -1 else if z = 0 then zat (zmem G s (curO G s) (Rw s)) 0 else if 0 ≤ ((zmem G s (curO G s) (Rw s)).length : Int) - 1 then zat (zmem G s (curO G s) (Rw s)) (((zmem G s (curO G s) (Rw s)).length : Int) - 1) else -1)) ∧ v = f) ∨ (c = 1 ∧ ¬ (0 ≤ s ∧ s < F 0) ∧ f = -1)) ∧ (f = -1 ∨ 0 ≤ f ∧ f < F 6 ∧ G 8 f = 1) ∧ w = mW g a (Fup (becF F f) 18 c) (becG F G f) rest) b9 w) : zEnd g a rest k9 v9 b9 w (b, c, I, Q, P, T, N) S' := by
  have h0 := h.1.1
  have h6 := h.1.2.1
  have hN := r.1.2.2.2.2
  obtain ⟨c9, f9, hd, hf9, rfl⟩ := hm
  have hAA : (0 ≤ s ∧ s < (N : Int)) ↔ (0 ≤ s ∧ s < F 0) := ⟨fun z => ⟨z.1, by have := z.2; omega⟩, fun z => ⟨z.1, by have := z.2; omega⟩⟩
  rcases hc with ⟨rfl, rfl, hnA⟩ | ⟨rfl, rfl, hA, hnB⟩ | ⟨rfl, hA, hB, hR⟩
  · rcases hd with ⟨rfl, hA', -⟩ | ⟨rfl, hnA', rfl⟩
    · exact absurd (hAA.mpr hA') hnA
    · exact zEnd_no h r hb (by decide) (by rw [becF_none, becG_none])
  · exact absurd trivial hnB
  · rcases hd with ⟨rfl, hA', hfe, hv⟩ | ⟨rfl, hnA', rfl⟩
    · exact zEnd_f h r hb hf9 ((fe_eq h r hA.1 hA.2 hz).trans hfe.symm) hR hv rfl
    · exact absurd (hAA.mp hA) hnA'

set_option maxHeartbeats 4000000 in
set_option maxRecDepth 100000 in
theorem fin_findNext (h : mI F G Rw) (r : RD F G Rw I Q P T N) (hb : N = 0 → b 13 = g.2.2.2.2.2) (s : Int) (hs : -2147483648 ≤ s ∧ s < 2147483648) (z : Int) (hz : z = 0 ∨ z = 1) {k9 v9 b9 : Int} {S' : zS} (hc : zCl (0 ≤ s ∧ s < (N : Int)) True (fun u9 S9 => mkS b c I Q P T N (nbC (T s) z (P s 8)) u9 S9) (b, c, I, Q, P, T, N) k9 v9 S') (hm : (fun v w => ∃ c f : Int, ((c = 0 ∧ (0 ≤ s ∧ s < F 0) ∧ ((G 16 s = -1 → f = -1) ∧ (G 16 s ≠ -1 → ∃ pl : Int, ((0 ≤ pl ∧ pl < ((zmem G s (curO G s) (Rw s)).length : Int) ∧ zat (zmem G s (curO G s) (Rw s)) pl = G 16 s) ∨ ((∀ k : Int, 0 ≤ k → k < ((zmem G s (curO G s) (Rw s)).length : Int) → zat (zmem G s (curO G s) (Rw s)) k ≠ G 16 s) ∧ pl = if z = 0 then -1 else ((zmem G s (curO G s) (Rw s)).length : Int))) ∧ f = if 0 ≤ (if z = 0 then pl + 1 else pl - 1) then zat (zmem G s (curO G s) (Rw s)) (if z = 0 then pl + 1 else pl - 1) else -1)) ∧ v = f) ∨ (c = 1 ∧ ¬ (0 ≤ s ∧ s < F 0) ∧ f = -1)) ∧ (f = -1 ∨ 0 ≤ f ∧ f < F 6 ∧ G 8 f = 1) ∧ w = mW g a (Fup (becF F f) 18 c) (becG F G f) rest) b9 w) : zEnd g a rest k9 v9 b9 w (b, c, I, Q, P, T, N) S' := by
  have h0 := h.1.1
  have h6 := h.1.2.1
  have hN := r.1.2.2.2.2
  obtain ⟨c9, f9, hd, hf9, rfl⟩ := hm
  have hAA : (0 ≤ s ∧ s < (N : Int)) ↔ (0 ≤ s ∧ s < F 0) := ⟨fun z => ⟨z.1, by have := z.2; omega⟩, fun z => ⟨z.1, by have := z.2; omega⟩⟩
  rcases hc with ⟨rfl, rfl, hnA⟩ | ⟨rfl, rfl, hA, hnB⟩ | ⟨rfl, hA, hB, hR⟩
  · rcases hd with ⟨rfl, hA', -⟩ | ⟨rfl, hnA', rfl⟩
    · exact absurd (hAA.mpr hA') hnA
    · exact zEnd_no h r hb (by decide) (by rw [becF_none, becG_none])
  · exact absurd trivial hnB
  · rcases hd with ⟨rfl, hA', hfe, hv⟩ | ⟨rfl, hnA', rfl⟩
    · exact zEnd_f h r hb hf9 (fn_eq h r hA.1 hA.2 hz hfe) hR hv rfl
    · exact absurd (hAA.mp hA) hnA'

set_option maxHeartbeats 4000000 in
set_option maxRecDepth 100000 in
theorem fin_findOwner (h : mI F G Rw) (r : RD F G Rw I Q P T N) (hb : N = 0 → b 13 = g.2.2.2.2.2) (s : Int) (hs : -2147483648 ≤ s ∧ s < 2147483648) {k9 v9 b9 : Int} {S' : zS} (hc : zCl (0 ≤ s ∧ s < (N : Int)) True (fun u9 S9 => mkS b c I Q P T N (rAt 60 (T s 5) (P s 8)) u9 S9) (b, c, I, Q, P, T, N) k9 v9 S') (hm : (fun v w => ∃ c f : Int, ((c = 0 ∧ (0 ≤ s ∧ s < F 0) ∧ (f = (if G 16 s = -1 then -1 else curO G s)) ∧ v = f) ∨ (c = 1 ∧ ¬ (0 ≤ s ∧ s < F 0) ∧ f = -1)) ∧ (f = -1 ∨ 0 ≤ f ∧ f < F 6 ∧ G 8 f = 1) ∧ w = mW g a (Fup (becF F f) 18 c) (becG F G f) rest) b9 w) : zEnd g a rest k9 v9 b9 w (b, c, I, Q, P, T, N) S' := by
  have h0 := h.1.1
  have h6 := h.1.2.1
  have hN := r.1.2.2.2.2
  obtain ⟨c9, f9, hd, hf9, rfl⟩ := hm
  have hAA : (0 ≤ s ∧ s < (N : Int)) ↔ (0 ≤ s ∧ s < F 0) := ⟨fun z => ⟨z.1, by have := z.2; omega⟩, fun z => ⟨z.1, by have := z.2; omega⟩⟩
  rcases hc with ⟨rfl, rfl, hnA⟩ | ⟨rfl, rfl, hA, hnB⟩ | ⟨rfl, hA, hB, hR⟩
  · rcases hd with ⟨rfl, hA', -⟩ | ⟨rfl, hnA', rfl⟩
    · exact absurd (hAA.mpr hA') hnA
    · exact zEnd_no h r hb (by decide) (by rw [becF_none, becG_none])
  · exact absurd trivial hnB
  · rcases hd with ⟨rfl, hA', hfe, hv⟩ | ⟨rfl, hnA', rfl⟩
    · refine zEnd_f h r hb hf9 ?_ hR hv rfl
      rw [cur_own h r hA.1 hA.2, hfe]
      by_cases e : G 16 s = -1
      · rw [if_pos e]; unfold curO; rw [if_pos (Or.inl e), e]
      · rw [if_neg e]
    · exact absurd (hAA.mp hA) hnA'

set_option maxHeartbeats 4000000 in
set_option maxRecDepth 100000 in
theorem fin_findValue (h : mI F G Rw) (r : RD F G Rw I Q P T N) (hb : N = 0 → b 13 = g.2.2.2.2.2) (s : Int) (hs : -2147483648 ≤ s ∧ s < 2147483648) (z : Int) (hz : -2147483648 ≤ z ∧ z < 2147483648) {k9 v9 b9 : Int} {S' : zS} (hc : zCl (0 ≤ s ∧ s < (N : Int)) True (fun u9 S9 => ∃ f : Int, (((rAt 60 (T s 5) (P s 8)) = -1 → f = -1) ∧ ((rAt 60 (T s 5) (P s 8)) ≠ -1 → (f = -1 ∧ ∀ k : Int, 0 ≤ k → k < ((mOf (gW G s) (rAt 60 (T s 5) (P s 8)) (Rw s)).length : Int) → Q 1 (zat (mOf (gW G s) (rAt 60 (T s 5) (P s 8)) (Rw s)) k) ≠ z) ∨ ∃ k : Int, 0 ≤ k ∧ k < ((mOf (gW G s) (rAt 60 (T s 5) (P s 8)) (Rw s)).length : Int) ∧ f = zat (mOf (gW G s) (rAt 60 (T s 5) (P s 8)) (Rw s)) k ∧ Q 1 f = z ∧ ∀ j : Int, 0 ≤ j → j < k → Q 1 (zat (mOf (gW G s) (rAt 60 (T s 5) (P s 8)) (Rw s)) j) ≠ z)) ∧ mkS b c I Q P T N f u9 S9) (b, c, I, Q, P, T, N) k9 v9 S') (hm : (fun v w => ∃ c f : Int, ((c = 0 ∧ (0 ≤ s ∧ s < F 0) ∧ ((G 16 s = -1 → f = -1) ∧ (G 16 s ≠ -1 → (f = -1 ∧ ∀ k : Int, 0 ≤ k → k < ((zmem G s (curO G s) (Rw s)).length : Int) → G 10 (zat (zmem G s (curO G s) (Rw s)) k) ≠ z) ∨ ∃ k : Int, 0 ≤ k ∧ k < ((zmem G s (curO G s) (Rw s)).length : Int) ∧ f = zat (zmem G s (curO G s) (Rw s)) k ∧ G 10 f = z ∧ ∀ j : Int, 0 ≤ j → j < k → G 10 (zat (zmem G s (curO G s) (Rw s)) j) ≠ z)) ∧ v = f) ∨ (c = 1 ∧ ¬ (0 ≤ s ∧ s < F 0) ∧ f = -1)) ∧ (f = -1 ∨ 0 ≤ f ∧ f < F 6 ∧ G 8 f = 1) ∧ w = mW g a (Fup (becF F f) 18 c) (becG F G f) rest) b9 w) : zEnd g a rest k9 v9 b9 w (b, c, I, Q, P, T, N) S' := by
  have h0 := h.1.1
  have h6 := h.1.2.1
  have hN := r.1.2.2.2.2
  obtain ⟨c9, f9, hd, hf9, rfl⟩ := hm
  have hAA : (0 ≤ s ∧ s < (N : Int)) ↔ (0 ≤ s ∧ s < F 0) := ⟨fun z => ⟨z.1, by have := z.2; omega⟩, fun z => ⟨z.1, by have := z.2; omega⟩⟩
  rcases hc with ⟨rfl, rfl, hnA⟩ | ⟨rfl, rfl, hA, hnB⟩ | ⟨rfl, hA, hB, hR⟩
  · rcases hd with ⟨rfl, hA', -⟩ | ⟨rfl, hnA', rfl⟩
    · exact absurd (hAA.mpr hA') hnA
    · exact zEnd_no h r hb (by decide) (by rw [becF_none, becG_none])
  · exact absurd trivial hnB
  · rcases hd with ⟨rfl, hA', hfe, hv⟩ | ⟨rfl, hnA', rfl⟩
    · obtain ⟨f8, hf8, hm8⟩ := hR
      refine zEnd_f h r hb hf9 ?_ hm8 hv rfl
      have hcu := cur_own h r hA.1 hA.2
      obtain ⟨⟨-, -, -, -, -, e8⟩, t1, t2⟩ := r.2.2.2.2.2.2 s hA.1 hA.2
      rw [hcu] at hf8
      by_cases e : G 16 s = -1
      · have e2 : curO G s = -1 := by unfold curO; rw [if_pos (Or.inl e), e]
        rw [hf8.1 e2, hfe.1 e]
      · have hne : curO G s ≠ -1 := by rw [← hcu]; exact RD_aC h r s hA.1 hA.2 (by rw [e8]; exact e)
        refine fv_uniq (V := Q 1) (V' := G 10) (fun u hu => ?_) (hf8.2 hne) (hfe.2 e)
        have hm := mOf_mem.mp hu
        obtain ⟨z0, z1, z2⟩ := (t2.1.2.2.1 u).mp hm.1
        rcases h.1.2.2.2.2.1 s u hA.1 (by omega) z0 z1 with x | x
        · exact absurd x z2
        · exact r.2.2.2.2.1 u z0 x.2.2.2.1
    · exact absurd (hAA.mp hA) hnA'

set_option maxHeartbeats 4000000 in
set_option maxRecDepth 100000 in
theorem fin_currentOf (h : mI F G Rw) (r : RD F G Rw I Q P T N) (hb : N = 0 → b 13 = g.2.2.2.2.2) (t : Int) (ht : -2147483648 ≤ t ∧ t < 2147483648) {k9 v9 b9 : Int} {S' : zS} (hc : zCl (0 ≤ t ∧ t ≤ 3) True (fun u9 S9 => u9 = Q 2 t ∧ S9 = (b, c, I, Q, P, T, N)) (b, c, I, Q, P, T, N) k9 v9 S') (hm : (fun v w => ∃ c : Int, ((c = 0 ∧ (0 ≤ t ∧ t ≤ 3) ∧ v = G 15 t) ∨ (c = 1 ∧ ¬ (0 ≤ t ∧ t ≤ 3))) ∧ w = mW g a (Fup F 18 c) G rest) b9 w) : zEnd g a rest k9 v9 b9 w (b, c, I, Q, P, T, N) S' := by
  have h0 := h.1.1
  have h6 := h.1.2.1
  have hN := r.1.2.2.2.2
  obtain ⟨c9, hd, rfl⟩ := hm
  have hAA : (0 ≤ t ∧ t ≤ 3) ↔ (0 ≤ t ∧ t ≤ 3) := Iff.rfl
  rcases hc with ⟨rfl, rfl, hnA⟩ | ⟨rfl, rfl, hA, hnB⟩ | ⟨rfl, hA, hB, hR⟩
  · rcases hd with ⟨rfl, hA', hv⟩ | ⟨rfl, hnA'⟩
    · exact absurd (hAA.mpr hA') hnA
    · exact zEnd_no h r hb (by decide) rfl
  · exact absurd trivial hnB
  · rcases hd with ⟨rfl, hA', hv⟩ | ⟨rfl, hnA'⟩
    · obtain ⟨hv9, rfl⟩ := hR
      exact zEnd_q h r hb (by rw [hv9, hv]; exact r.2.2.2.2.2.1 t hA.1 (by omega)) rfl
    · exact absurd (hAA.mp hA) hnA'

set_option maxHeartbeats 4000000 in
set_option maxRecDepth 100000 in
theorem fin_currentIn (h : mI F G Rw) (r : RD F G Rw I Q P T N) (hb : N = 0 → b 13 = g.2.2.2.2.2) (s : Int) (hs : -2147483648 ≤ s ∧ s < 2147483648) {k9 v9 b9 : Int} {S' : zS} (hc : zCl (0 ≤ s ∧ s < (N : Int)) True (fun u9 S9 => u9 = P s 8 ∧ S9 = (b, c, I, Q, P, T, N)) (b, c, I, Q, P, T, N) k9 v9 S') (hm : (fun v w => ∃ c : Int, ((c = 0 ∧ (0 ≤ s ∧ s < F 0) ∧ v = G 16 s) ∨ (c = 1 ∧ ¬ (0 ≤ s ∧ s < F 0))) ∧ w = mW g a (Fup F 18 c) G rest) b9 w) : zEnd g a rest k9 v9 b9 w (b, c, I, Q, P, T, N) S' := by
  have h0 := h.1.1
  have h6 := h.1.2.1
  have hN := r.1.2.2.2.2
  obtain ⟨c9, hd, rfl⟩ := hm
  have hAA : (0 ≤ s ∧ s < (N : Int)) ↔ (0 ≤ s ∧ s < F 0) := ⟨fun z => ⟨z.1, by have := z.2; omega⟩, fun z => ⟨z.1, by have := z.2; omega⟩⟩
  rcases hc with ⟨rfl, rfl, hnA⟩ | ⟨rfl, rfl, hA, hnB⟩ | ⟨rfl, hA, hB, hR⟩
  · rcases hd with ⟨rfl, hA', hv⟩ | ⟨rfl, hnA'⟩
    · exact absurd (hAA.mpr hA') hnA
    · exact zEnd_no h r hb (by decide) rfl
  · exact absurd trivial hnB
  · rcases hd with ⟨rfl, hA', hv⟩ | ⟨rfl, hnA'⟩
    · obtain ⟨hv9, rfl⟩ := hR
      exact zEnd_q h r hb (by rw [hv9, hv]; exact (r.2.2.2.2.2.2 s hA.1 hA.2).1.2.2.2.2.2) rfl
    · exact absurd (hAA.mp hA) hnA'

set_option maxHeartbeats 4000000 in
set_option maxRecDepth 100000 in
theorem fin_typeOf (h : mI F G Rw) (r : RD F G Rw I Q P T N) (hb : N = 0 → b 13 = g.2.2.2.2.2) (r9 : Int) (hr9 : -2147483648 ≤ r9 ∧ r9 < 2147483648) {k9 v9 b9 : Int} {S' : zS} (hc : zCl (rAt 60 (Q 0) r9 ≠ -1) True (fun u9 S9 => u9 = Q 0 r9 ∧ S9 = (b, c, I, Q, P, T, N)) (b, c, I, Q, P, T, N) k9 v9 S') (hm : (fun v w => ∃ c : Int, ((c = 0 ∧ (0 ≤ r9 ∧ r9 < F 6 ∧ G 8 r9 = 1) ∧ v = G 9 r9) ∨ (c = 1 ∧ ¬ (0 ≤ r9 ∧ r9 < F 6 ∧ G 8 r9 = 1))) ∧ w = mW g a (Fup F 18 c) G rest) b9 w) : zEnd g a rest k9 v9 b9 w (b, c, I, Q, P, T, N) S' := by
  have h0 := h.1.1
  have h6 := h.1.2.1
  have hN := r.1.2.2.2.2
  obtain ⟨c9, hd, rfl⟩ := hm
  have hAA : (rAt 60 (Q 0) r9 ≠ -1) ↔ (0 ≤ r9 ∧ r9 < F 6 ∧ G 8 r9 = 1) := RD_rec h r r9
  rcases hc with ⟨rfl, rfl, hnA⟩ | ⟨rfl, rfl, hA, hnB⟩ | ⟨rfl, hA, hB, hR⟩
  · rcases hd with ⟨rfl, hA', hv⟩ | ⟨rfl, hnA'⟩
    · exact absurd (hAA.mpr hA') hnA
    · exact zEnd_no h r hb (by decide) rfl
  · exact absurd trivial hnB
  · rcases hd with ⟨rfl, hA', hv⟩ | ⟨rfl, hnA'⟩
    · obtain ⟨hv9, rfl⟩ := hR
      exact zEnd_q h r hb (by rw [hv9, hv]; exact RD_ty h r hA'.1 hA'.2.1 hA'.2.2) rfl
    · exact absurd (hAA.mp hA) hnA'

set_option maxHeartbeats 4000000 in
set_option maxRecDepth 100000 in
theorem fin_valueOf (h : mI F G Rw) (r : RD F G Rw I Q P T N) (hb : N = 0 → b 13 = g.2.2.2.2.2) (r9 : Int) (hr9 : -2147483648 ≤ r9 ∧ r9 < 2147483648) {k9 v9 b9 : Int} {S' : zS} (hc : zCl (rAt 60 (Q 0) r9 ≠ -1) True (fun u9 S9 => u9 = Q 1 r9 ∧ S9 = (b, c, I, Q, P, T, N)) (b, c, I, Q, P, T, N) k9 v9 S') (hm : (fun v w => ∃ c : Int, ((c = 0 ∧ (0 ≤ r9 ∧ r9 < F 6 ∧ G 8 r9 = 1) ∧ v = G 10 r9) ∨ (c = 1 ∧ ¬ (0 ≤ r9 ∧ r9 < F 6 ∧ G 8 r9 = 1))) ∧ w = mW g a (Fup F 18 c) G rest) b9 w) : zEnd g a rest k9 v9 b9 w (b, c, I, Q, P, T, N) S' := by
  have h0 := h.1.1
  have h6 := h.1.2.1
  have hN := r.1.2.2.2.2
  obtain ⟨c9, hd, rfl⟩ := hm
  have hAA : (rAt 60 (Q 0) r9 ≠ -1) ↔ (0 ≤ r9 ∧ r9 < F 6 ∧ G 8 r9 = 1) := RD_rec h r r9
  rcases hc with ⟨rfl, rfl, hnA⟩ | ⟨rfl, rfl, hA, hnB⟩ | ⟨rfl, hA, hB, hR⟩
  · rcases hd with ⟨rfl, hA', hv⟩ | ⟨rfl, hnA'⟩
    · exact absurd (hAA.mpr hA') hnA
    · exact zEnd_no h r hb (by decide) rfl
  · exact absurd trivial hnB
  · rcases hd with ⟨rfl, hA', hv⟩ | ⟨rfl, hnA'⟩
    · obtain ⟨hv9, rfl⟩ := hR
      exact zEnd_q h r hb (by rw [hv9, hv]; exact r.2.2.2.2.1 r9 hA'.1 hA'.2.1) rfl
    · exact absurd (hAA.mp hA) hnA'

set_option maxHeartbeats 4000000 in
set_option maxRecDepth 100000 in
theorem fin_ownerOf (h : mI F G Rw) (r : RD F G Rw I Q P T N) (hb : N = 0 → b 13 = g.2.2.2.2.2) (r9 : Int) (hr9 : -2147483648 ≤ r9 ∧ r9 < 2147483648) (s : Int) (hs : -2147483648 ≤ s ∧ s < 2147483648) {k9 v9 b9 : Int} {S' : zS} (hc : zCl ((rAt 60 (Q 0) r9 ≠ -1) ∧ (0 ≤ s ∧ s < (N : Int))) True (fun u9 S9 => u9 = gW G s r9 ∧ S9 = (b, c, I, Q, P, T, N)) (b, c, I, Q, P, T, N) k9 v9 S') (hm : (fun v w => ∃ c : Int, ((c = 0 ∧ ((0 ≤ r9 ∧ r9 < F 6 ∧ G 8 r9 = 1) ∧ 0 ≤ s ∧ s < F 0) ∧ v = G 11 (60 * s + r9)) ∨ (c = 1 ∧ ¬ ((0 ≤ r9 ∧ r9 < F 6 ∧ G 8 r9 = 1) ∧ 0 ≤ s ∧ s < F 0))) ∧ w = mW g a (Fup F 18 c) G rest) b9 w) : zEnd g a rest k9 v9 b9 w (b, c, I, Q, P, T, N) S' := by
  have h0 := h.1.1
  have h6 := h.1.2.1
  have hN := r.1.2.2.2.2
  obtain ⟨c9, hd, rfl⟩ := hm
  have hAA : ((rAt 60 (Q 0) r9 ≠ -1) ∧ (0 ≤ s ∧ s < (N : Int))) ↔ ((0 ≤ r9 ∧ r9 < F 6 ∧ G 8 r9 = 1) ∧ 0 ≤ s ∧ s < F 0) := and_congr (RD_rec h r r9) ⟨fun z => ⟨z.1, by have := z.2; omega⟩, fun z => ⟨z.1, by have := z.2; omega⟩⟩
  rcases hc with ⟨rfl, rfl, hnA⟩ | ⟨rfl, rfl, hA, hnB⟩ | ⟨rfl, hA, hB, hR⟩
  · rcases hd with ⟨rfl, hA', hv⟩ | ⟨rfl, hnA'⟩
    · exact absurd (hAA.mpr hA') hnA
    · exact zEnd_no h r hb (by decide) rfl
  · exact absurd trivial hnB
  · rcases hd with ⟨rfl, hA', hv⟩ | ⟨rfl, hnA'⟩
    · obtain ⟨hv9, rfl⟩ := hR
      exact zEnd_q h r hb (by rw [hv9, hv]; rfl) rfl
    · exact absurd (hAA.mp hA) hnA'

set_option maxHeartbeats 4000000 in
set_option maxRecDepth 100000 in
theorem fin_members (h : mI F G Rw) (r : RD F G Rw I Q P T N) (hb : N = 0 → b 13 = g.2.2.2.2.2) (r9 : Int) (hr9 : -2147483648 ≤ r9 ∧ r9 < 2147483648) (s : Int) (hs : -2147483648 ≤ s ∧ s < 2147483648) {k9 v9 b9 : Int} {S' : zS} (hc : zCl ((rAt 60 (Q 0) r9 ≠ -1) ∧ (0 ≤ s ∧ s < (N : Int))) True (fun u9 S9 => ((gO F G s r9 ∧ u9 = ((mOf (gW G s) r9 (Rw s)).length : Int)) ∨ (¬ gO F G s r9 ∧ u9 = -1)) ∧ S9 = (b, c, I, Q, P, T, N)) (b, c, I, Q, P, T, N) k9 v9 S') (hm : (fun v w => ∃ c : Int, ((c = 0 ∧ ((0 ≤ r9 ∧ r9 < F 6 ∧ G 8 r9 = 1) ∧ 0 ≤ s ∧ s < F 0) ∧ v = (if G 9 r9 = G 1 s then ((zmem G s r9 (Rw s)).length : Int) else -1)) ∨ (c = 1 ∧ ¬ ((0 ≤ r9 ∧ r9 < F 6 ∧ G 8 r9 = 1) ∧ 0 ≤ s ∧ s < F 0))) ∧ w = mW g a (Fup F 18 c) G rest) b9 w) : zEnd g a rest k9 v9 b9 w (b, c, I, Q, P, T, N) S' := by
  have h0 := h.1.1
  have h6 := h.1.2.1
  have hN := r.1.2.2.2.2
  obtain ⟨c9, hd, rfl⟩ := hm
  have hAA : ((rAt 60 (Q 0) r9 ≠ -1) ∧ (0 ≤ s ∧ s < (N : Int))) ↔ ((0 ≤ r9 ∧ r9 < F 6 ∧ G 8 r9 = 1) ∧ 0 ≤ s ∧ s < F 0) := and_congr (RD_rec h r r9) ⟨fun z => ⟨z.1, by have := z.2; omega⟩, fun z => ⟨z.1, by have := z.2; omega⟩⟩
  rcases hc with ⟨rfl, rfl, hnA⟩ | ⟨rfl, rfl, hA, hnB⟩ | ⟨rfl, hA, hB, hR⟩
  · rcases hd with ⟨rfl, hA', hv⟩ | ⟨rfl, hnA'⟩
    · exact absurd (hAA.mpr hA') hnA
    · exact zEnd_no h r hb (by decide) rfl
  · exact absurd trivial hnB
  · rcases hd with ⟨rfl, hA', hv⟩ | ⟨rfl, hnA'⟩
    · obtain ⟨hv9, rfl⟩ := hR
      have hv10 : v9 = (if G 9 r9 = G 1 s then ((zmem G s r9 (Rw s)).length : Int) else -1) := by
        rcases hv9 with ⟨x1, x2⟩ | ⟨x1, x2⟩
        · rw [if_pos x1.2.2.2, x2]; rfl
        · rw [if_neg (fun z => x1 ⟨hA'.1.1, hA'.1.2.1, hA'.1.2.2, z⟩), x2]
      exact zEnd_q h r hb (hv10.trans hv.symm) rfl
    · exact absurd (hAA.mp hA) hnA'

set_option maxHeartbeats 4000000 in
set_option maxRecDepth 100000 in
theorem fin_membersByTable (h : mI F G Rw) (r : RD F G Rw I Q P T N) (hb : N = 0 → b 13 = g.2.2.2.2.2) (r9 : Int) (hr9 : -2147483648 ≤ r9 ∧ r9 < 2147483648) (s : Int) (hs : -2147483648 ≤ s ∧ s < 2147483648) {k9 v9 b9 : Int} {S' : zS} (hc : zCl ((rAt 60 (Q 0) r9 ≠ -1) ∧ (0 ≤ s ∧ s < (N : Int))) True (fun u9 S9 => ((gO F G s r9 ∧ u9 = ((mOf (gW G s) r9 (Rw s)).length : Int)) ∨ (¬ gO F G s r9 ∧ u9 = -1)) ∧ S9 = (b, c, I, Q, P, T, N)) (b, c, I, Q, P, T, N) k9 v9 S') (hm : (fun v w => ∃ c : Int, ((c = 0 ∧ ((0 ≤ r9 ∧ r9 < F 6 ∧ G 8 r9 = 1) ∧ 0 ≤ s ∧ s < F 0) ∧ v = (if G 9 r9 = G 1 s then ((zmem G s r9 (Rw s)).length : Int) else -1)) ∨ (c = 1 ∧ ¬ ((0 ≤ r9 ∧ r9 < F 6 ∧ G 8 r9 = 1) ∧ 0 ≤ s ∧ s < F 0))) ∧ w = mW g a (Fup F 18 c) G rest) b9 w) : zEnd g a rest k9 v9 b9 w (b, c, I, Q, P, T, N) S' := by
  have h0 := h.1.1
  have h6 := h.1.2.1
  have hN := r.1.2.2.2.2
  obtain ⟨c9, hd, rfl⟩ := hm
  have hAA : ((rAt 60 (Q 0) r9 ≠ -1) ∧ (0 ≤ s ∧ s < (N : Int))) ↔ ((0 ≤ r9 ∧ r9 < F 6 ∧ G 8 r9 = 1) ∧ 0 ≤ s ∧ s < F 0) := and_congr (RD_rec h r r9) ⟨fun z => ⟨z.1, by have := z.2; omega⟩, fun z => ⟨z.1, by have := z.2; omega⟩⟩
  rcases hc with ⟨rfl, rfl, hnA⟩ | ⟨rfl, rfl, hA, hnB⟩ | ⟨rfl, hA, hB, hR⟩
  · rcases hd with ⟨rfl, hA', hv⟩ | ⟨rfl, hnA'⟩
    · exact absurd (hAA.mpr hA') hnA
    · exact zEnd_no h r hb (by decide) rfl
  · exact absurd trivial hnB
  · rcases hd with ⟨rfl, hA', hv⟩ | ⟨rfl, hnA'⟩
    · obtain ⟨hv9, rfl⟩ := hR
      have hv10 : v9 = (if G 9 r9 = G 1 s then ((zmem G s r9 (Rw s)).length : Int) else -1) := by
        rcases hv9 with ⟨x1, x2⟩ | ⟨x1, x2⟩
        · rw [if_pos x1.2.2.2, x2]; rfl
        · rw [if_neg (fun z => x1 ⟨hA'.1.1, hA'.1.2.1, hA'.1.2.2, z⟩), x2]
      exact zEnd_q h r hb (hv10.trans hv.symm) rfl
    · exact absurd (hAA.mp hA) hnA'

set_option maxHeartbeats 4000000 in
set_option maxRecDepth 100000 in
theorem fin_memberAt (h : mI F G Rw) (r : RD F G Rw I Q P T N) (hb : N = 0 → b 13 = g.2.2.2.2.2) (r9 : Int) (hr9 : -2147483648 ≤ r9 ∧ r9 < 2147483648) (s : Int) (hs : -2147483648 ≤ s ∧ s < 2147483648) (d : Int) (hd : -2147483648 ≤ d ∧ d < 2147483648) {k9 v9 b9 : Int} {S' : zS} (hc : zCl ((rAt 60 (Q 0) r9 ≠ -1) ∧ (0 ≤ s ∧ s < (N : Int)) ∧ gO F G s r9 ∧ 0 ≤ d ∧ d < ((mOf (gW G s) r9 (Rw s)).length : Int)) True (fun u9 S9 => u9 = zat (mOf (gW G s) r9 (Rw s)) d ∧ S9 = (b, c, I, Q, P, T, N)) (b, c, I, Q, P, T, N) k9 v9 S') (hm : (fun v w => ∃ c : Int, ((c = 0 ∧ (((0 ≤ r9 ∧ r9 < F 6 ∧ G 8 r9 = 1) ∧ 0 ≤ s ∧ s < F 0) ∧ G 9 r9 = G 1 s ∧ 0 ≤ d ∧ d < ((zmem G s r9 (Rw s)).length : Int)) ∧ v = zat (zmem G s r9 (Rw s)) d) ∨ (c = 1 ∧ ¬ (((0 ≤ r9 ∧ r9 < F 6 ∧ G 8 r9 = 1) ∧ 0 ≤ s ∧ s < F 0) ∧ G 9 r9 = G 1 s ∧ 0 ≤ d ∧ d < ((zmem G s r9 (Rw s)).length : Int)))) ∧ w = mW g a (Fup F 18 c) G rest) b9 w) : zEnd g a rest k9 v9 b9 w (b, c, I, Q, P, T, N) S' := by
  have h0 := h.1.1
  have h6 := h.1.2.1
  have hN := r.1.2.2.2.2
  obtain ⟨c9, hd, rfl⟩ := hm
  have hAA : ((rAt 60 (Q 0) r9 ≠ -1) ∧ (0 ≤ s ∧ s < (N : Int)) ∧ gO F G s r9 ∧ 0 ≤ d ∧ d < ((mOf (gW G s) r9 (Rw s)).length : Int)) ↔ (((0 ≤ r9 ∧ r9 < F 6 ∧ G 8 r9 = 1) ∧ 0 ≤ s ∧ s < F 0) ∧ G 9 r9 = G 1 s ∧ 0 ≤ d ∧ d < ((zmem G s r9 (Rw s)).length : Int)) := ⟨fun z => ⟨⟨(RD_rec h r r9).mp z.1, z.2.1.1, by have := z.2.1.2; omega⟩, z.2.2.1.2.2.2, z.2.2.2⟩, fun z => ⟨(RD_rec h r r9).mpr z.1.1, ⟨z.1.2.1, by have := z.1.2.2; omega⟩, ⟨z.1.1.1, z.1.1.2.1, z.1.1.2.2, z.2.1⟩, z.2.2⟩⟩
  rcases hc with ⟨rfl, rfl, hnA⟩ | ⟨rfl, rfl, hA, hnB⟩ | ⟨rfl, hA, hB, hR⟩
  · rcases hd with ⟨rfl, hA', hv⟩ | ⟨rfl, hnA'⟩
    · exact absurd (hAA.mpr hA') hnA
    · exact zEnd_no h r hb (by decide) rfl
  · exact absurd trivial hnB
  · rcases hd with ⟨rfl, hA', hv⟩ | ⟨rfl, hnA'⟩
    · obtain ⟨hv9, rfl⟩ := hR
      exact zEnd_q h r hb (by rw [hv9, hv]; rfl) rfl
    · exact absurd (hAA.mp hA) hnA'

set_option maxHeartbeats 4000000 in
set_option maxRecDepth 100000 in
theorem fin_wouldErase (h : mI F G Rw) (r : RD F G Rw I Q P T N) (hb : N = 0 → b 13 = g.2.2.2.2.2) (r9 : Int) (hr9 : -2147483648 ≤ r9 ∧ r9 < 2147483648) (y : Int) (hy : -2147483648 ≤ y ∧ y < 2147483648) {k9 v9 b9 : Int} {S' : zS} (hc : zCl (rAt 60 (Q 0) r9 ≠ -1) (0 ≤ y ∧ y ≤ 2) (fun u9 S9 => (S9 = (b, c, I, Q, P, T, N) ∧ u9 = -1 ∧ y = 0 ∧ ∃ s : Int, 0 ≤ s ∧ s < (N : Int) ∧ (gO F G s r9 ∧ 0 < ((mOf (gW G s) r9 (Rw s)).length : Int))) ∨ ∃ (I1 : Nat → Int) (Q1 : Nat → Int → Int) (D : List Int), S9 = (b, c, I1, Q1, P, T, N) ∧ gOK I1 Q1 D ∧ u9 = (D.length : Int) ∧ aF I I1 Q Q1 ∧ (y = 0 → ∀ s : Int, 0 ≤ s → s < (N : Int) → ¬ (gO F G s r9 ∧ 0 < ((mOf (gW G s) r9 (Rw s)).length : Int))) ∧ gDm P (gW G) (gO F G) Rw N y r9 D) (b, c, I, Q, P, T, N) k9 v9 S') (hm : (fun v w => ∃ (c : Int) (f : Int → Int), ((c = 0 ∧ (0 ≤ r9 ∧ r9 < F 6 ∧ G 8 r9 = 1) ∧ (0 ≤ y ∧ y ≤ 2) ∧ wEr G r9 y v) ∨ (c = 1 ∧ ¬ (0 ≤ r9 ∧ r9 < F 6 ∧ G 8 r9 = 1)) ∨ (c = 2 ∧ (0 ≤ r9 ∧ r9 < F 6 ∧ G 8 r9 = 1) ∧ ¬ (0 ≤ y ∧ y ≤ 2))) ∧ w = mW g a (Fup F 18 c) (Gset G 17 f) rest) b9 w) : zEnd g a rest k9 v9 b9 w (b, c, I, Q, P, T, N) S' := by
  have h0 := h.1.1
  have h6 := h.1.2.1
  have hN := r.1.2.2.2.2
  have hAA := RD_rec h r r9
  obtain ⟨c9, f9, hd, rfl⟩ := hm
  rcases hc with ⟨rfl, rfl, hnA⟩ | ⟨rfl, rfl, hA, hnB⟩ | ⟨rfl, hA, hB, hR⟩
  · rcases hd with ⟨rfl, hA', -⟩ | ⟨rfl, hnA'⟩ | ⟨rfl, hA', -⟩
    · exact absurd (hAA.mpr hA') hnA
    · exact ⟨_, _, Rw, rfl, Fup_s _ _ _, fun z => absurd z (by decide), mI_18 (mI_17 h f9), ⟨RD_18 (RD_17 r f9 (aF_refl _ _)) 1, hb⟩, rfl⟩
    · exact absurd (hAA.mpr hA') hnA
  · rcases hd with ⟨rfl, hA', hB', -⟩ | ⟨rfl, hnA'⟩ | ⟨rfl, hA', hnB'⟩
    · exact absurd hB' hnB
    · exact absurd (hAA.mp hA) hnA'
    · exact ⟨_, _, Rw, rfl, Fup_s _ _ _, fun z => absurd z (by decide), mI_18 (mI_17 h f9), ⟨RD_18 (RD_17 r f9 (aF_refl _ _)) 2, hb⟩, rfl⟩
  · rcases hd with ⟨rfl, hA', hB', hw⟩ | ⟨rfl, hnA'⟩ | ⟨rfl, hA', hnB'⟩
    · have hr1 : r9 ≠ -1 := by have := hA'.1; omega
      rcases hR with ⟨rfl, x1, x2, x3⟩ | ⟨I1, Q1, D, rfl, x1, x2, x3, x4, x5⟩
      · exact ⟨_, _, Rw, rfl, Fup_s _ _ _, fun _ => we_eq h r hr1 (Or.inl ⟨x1, x2, x3⟩) hw, mI_18 (mI_17 h f9), ⟨RD_18 (RD_17 r f9 (aF_refl _ _)) 0, hb⟩, rfl⟩
      · exact ⟨_, _, Rw, rfl, Fup_s _ _ _, fun _ => we_eq h r hr1 (Or.inr ⟨D, x1.2.1, x2, x4, x5⟩) hw, mI_18 (mI_17 h f9), ⟨RD_18 (RD_17 r f9 x3) 0, hb⟩, rfl⟩
    · exact absurd (hAA.mp hA) hnA'
    · exact absurd hB hnB'

end FIN
