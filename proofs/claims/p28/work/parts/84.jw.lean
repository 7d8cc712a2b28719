/-! the state behind a call; what finding looks for -/
def jW (g : zG) (b : Nat → Nat) (c : Int → Nat → Nat) (N : Nat) (gA tA cA : Nat) (Gr : Int → Int) (rest w : va_W) : Prop := ∃ (I : Nat → Int) (Q : Nat → Int → Int) (P : Int → Nat → Int) (T : Int → Nat → Int → Int) (ow : Int → Int → Int) (isO : Int → Int → Prop) (L : Int → List Int) (U C : Int → Int), w = wD g b c I Q P T N (rA g gA 30 Gr :: rA g tA 60 U :: rA g cA 3 C :: rest) ∧ J I Q P T N ow isO L ∧ kC I N C ∧ kU Q U ∧ kG P N Gr
section JW
variable {g : zG} {b : Nat → Nat} {c : Int → Nat → Nat} {I : Nat → Int} {Q : Nat → Int → Int} {P : Int → Nat → Int} {T : Int → Nat → Int → Int} {N : Nat} {ow : Int → Int → Int} {isO : Int → Int → Prop} {L : Int → List Int} {rest : va_W}
theorem wD_sub {r r' : va_W} (h : r'.Sublist r) : (wD g b c I Q P T N r').Sublist (wD g b c I Q P T N r) := by
  rw [wD_app, wD_app (rest := r)]
  exact List.Sublist.append_left h _
theorem pL1 {y0 y1 y2 e : Nat × va_E} {r : va_W} : (wD g b c I Q P T N (y0 :: y1 :: y2 :: r)).Sublist (wD g b c I Q P T N (y0 :: y1 :: y2 :: e :: r)) := wD_sub (List.Sublist.cons_cons _ (List.Sublist.cons_cons _ (List.Sublist.cons_cons _ (List.sublist_cons_self _ _))))
theorem pL4 {y0 y1 y2 e0 e1 e2 e3 : Nat × va_E} {r : va_W} : (wD g b c I Q P T N (y0 :: y1 :: y2 :: r)).Sublist (wD g b c I Q P T N (y0 :: y1 :: y2 :: e0 :: e1 :: e2 :: e3 :: r)) := wD_sub (List.Sublist.cons_cons _ (List.Sublist.cons_cons _ (List.Sublist.cons_cons _ (List.Sublist.cons _ (List.Sublist.cons _ (List.Sublist.cons _ (List.sublist_cons_self _ _)))))))
theorem nW_rng (h : J I Q P T N ow isO L) {W : Int → Int} (hW : nW I Q P N W) : ∀ j : Int, 0 ≤ j → j < 5 + (N : Int) → -1 ≤ W j ∧ W j < 60 := fun j j0 j1 => by
  by_cases c0 : j = 0
  · rw [c0, hW.1]; exact h.1.2.2.1
  · by_cases c1 : j < 5
    · have := hW.2.1 (j - 1) (by omega) (by omega)
      rw [show 1 + (j - 1) = j by omega] at this
      rw [this]
      exact h.1.2.2.2.2.2.1 _ (by omega) (by omega)
    · have := hW.2.2 (j - 5) (by omega) (by omega)
      rw [show 5 + (j - 5) = j by omega] at this
      rw [this]
      exact (h.2.1 (j - 5) (by omega) (by omega)).2.2.2.2.2.2.2.2
theorem mkO_J (h : J I Q P T N ow isO L) {W : Int → Int} (hW : nW I Q P N W) {f v : Int} {w : va_W} (hm : mkO g b c I Q P T N rest f v w) : ∃ (I1 : Nat → Int) (Q1 : Nat → Int → Int) (P1 : Int → Nat → Int), w = wD g b c I1 Q1 P1 T N rest ∧ J I1 Q1 P1 T N ow isO L ∧ isC I1 Q1 P1 ow N v W ∧ (v = -1 ∨ ((0 ≤ v ∧ v < 60) ∧ Q1 0 v ≠ -1)) ∧ Q1 0 = Q 0 ∧ Q1 1 = Q 1 ∧ I1 0 = I 0 ∧ I1 1 = I 1 ∧ (∀ (s : Int) (k : Nat), k ≠ 8 → P1 s k = P s k) ∧ ((rAt 60 (Q 0) f = -1 ∧ v = -1) ∨ (rAt 60 (Q 0) f ≠ -1 ∧ v = f)) := by
  rcases hm with ⟨h1, h2, h3⟩ | ⟨h1, h2, h3⟩
  · refine ⟨I, Q, P, h3, h, ?_, Or.inl h2, rfl, rfl, rfl, rfl, fun _ _ _ => rfl, Or.inl ⟨h1, h2⟩⟩
    rw [h2]
    exact isC_no hW
  · obtain ⟨g1, g2, g3, g4⟩ := J_mk h h1
    subst h2
    exact ⟨Fup I 2 v, Gset Q 2 (zup (Q 2) (Q 0 v) v), mkP P T v (N : Int), h3, g1, isC_mk h hW h1, Or.inr ⟨g2, g3⟩, rfl, rfl, rfl, rfl, fun s k hk => mkP_k hk, Or.inr ⟨h1, rfl⟩⟩
theorem kC_of {C : Int → Int} {I1 : Nat → Int} (h : kC I N C) (h0 : I1 0 = I 0) (h1 : I1 1 = I 1) : kC I1 N C := ⟨h.1, by rw [h0]; exact h.2.1, by rw [h1]; exact h.2.2⟩
theorem kU_of {U : Int → Int} {Q1 : Nat → Int → Int} (h : kU Q U) (h0 : Q1 0 = Q 0) (h1 : Q1 1 = Q 1) : kU Q1 U := by unfold kU; rw [h0, h1]; exact h
/-- the neighbours in a ring -/
theorem nb_none (T0 : Nat → Int → Int) (z : Int) : nbC T0 z (-1) = -1 := by
  unfold nbC
  rw [rAt_no (by omega), rAt_no (by omega), if_pos rfl]
theorem nb_own (h : J I Q P T N ow isO L) {s o z : Int} (s0 : 0 ≤ s) (s1 : s < (N : Int)) (ho : isO s o) (hz : z = 0 ∨ z = 1) : (((mOf (ow s) o (L s)).length : Int) = 0 → nbC (T s) z o = -1) ∧ (0 < ((mOf (ow s) o (L s)).length : Int) → nbC (T s) z o = zat (mOf (ow s) o (L s)) (if z = 0 then 0 else ((mOf (ow s) o (L s)).length : Int) - 1)) := by
  have hs := h.2.1 s s0 s1
  have hr := (J_own h s0 s1 ho).1
  have h0 := h.1.2.2.2.2.2.2.1
  have h5 := (hs.2.1.2.1 o hr.1 (by omega)).1 ho
  have hl := hs.2.1.2.2 o ho
  have e6 := lnk_first hl
  have e7 := lnk_last hl
  have hmm := (J_mm h s0 s1 ho).2.2
  unfold nbC
  rw [rAt_in hr.1 (by omega), rAt_in hr.1 (by omega), h5]
  have hT : T s (if z = 0 then 6 else 7) o = sq o (mOf (ow s) o (L s)) (if z = 0 then 0 else ((mOf (ow s) o (L s)).length : Int) - 1) := by
    rcases hz with rfl | rfl
    · exact e6
    · exact e7
  rw [hT]
  constructor
  · intro hz0
    rw [if_pos]
    by_cases c : z = 0
    · rw [if_pos c]; exact sq_e (by omega)
    · rw [if_neg c, hz0]; exact sq_m _ _
  · intro hp
    have hi0 : 0 ≤ (if z = 0 then 0 else ((mOf (ow s) o (L s)).length : Int) - 1) := by split <;> omega
    have hi1 : (if z = 0 then 0 else ((mOf (ow s) o (L s)).length : Int) - 1) < ((mOf (ow s) o (L s)).length : Int) := by split <;> omega
    rw [sq_in hi0 hi1, if_neg (hmm _ (zat_mem hi0 hi1)).2.1]
theorem nb_mem (h : J I Q P T N ow isO L) {s r z a : Int} (s0 : 0 ≤ s) (s1 : s < (N : Int)) (hr : r ∈ L s) (hz : z = 0 ∨ z = 1) (ha : ixO (mOf (ow s) (ow s r) (L s)) r a) : (0 ≤ a ∧ a < ((mOf (ow s) (ow s r) (L s)).length : Int)) ∧ ((0 ≤ (if z = 0 then a + 1 else a - 1) ∧ (if z = 0 then a + 1 else a - 1) < ((mOf (ow s) (ow s r) (L s)).length : Int)) → nbC (T s) z r = zat (mOf (ow s) (ow s r) (L s)) (if z = 0 then a + 1 else a - 1)) ∧ (¬ (0 ≤ (if z = 0 then a + 1 else a - 1) ∧ (if z = 0 then a + 1 else a - 1) < ((mOf (ow s) (ow s r) (L s)).length : Int)) → nbC (T s) z r = -1) := by
  have hs := h.2.1 s s0 s1
  have hm := J_mem h s0 s1 hr
  have h0 := h.1.2.2.2.2.2.2.1
  have hmm := (J_mm h s0 s1 hm.2.2.2.1)
  obtain ⟨p, p0, p1, p2, e6, e7⟩ := ring_nb hs.2.1 hr
  have hap := ixO_in hmm.1 ha p0 p1 p2
  subst hap
  have h5 := (hs.2.1.2.1 r hm.1.1 (by omega)).2 (rC_no hs.2.1.1 hr).1
  unfold nbC
  rw [rAt_in hm.1.1 (by omega), rAt_in hm.1.1 (by omega), h5]
  have hT : T s (if z = 0 then 6 else 7) r = sq (ow s r) (mOf (ow s) (ow s r) (L s)) (if z = 0 then a + 1 else a - 1) := by
    rcases hz with rfl | rfl
    · exact e6
    · exact e7
  rw [hT]
  refine ⟨⟨p0, p1⟩, fun hc => ?_, fun hc => ?_⟩
  · rw [sq_in hc.1 hc.2, if_neg (hmm.2.2 _ (zat_mem hc.1 hc.2)).2.1]
  · rw [if_pos]
    exact if_neg hc
end JW
