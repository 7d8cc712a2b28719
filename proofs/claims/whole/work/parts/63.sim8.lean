theorem fn_eq {F : Nat → Int} {G : Nat → Int → Int} {Rw : Int → List Int} {I : Nat → Int} {Q : Nat → Int → Int} {P : Int → Nat → Int} {T : Int → Nat → Int → Int} {N : Nat} (h : mI F G Rw) (r : RD F G Rw I Q P T N) {s z f : Int} (s0 : 0 ≤ s) (s1 : s < (N : Int)) (hz : z = 0 ∨ z = 1) (hf : (G 16 s = -1 → f = -1) ∧ (G 16 s ≠ -1 → ∃ pl : Int, ((0 ≤ pl ∧ pl < ((zmem G s (curO G s) (Rw s)).length : Int) ∧ zat (zmem G s (curO G s) (Rw s)) pl = G 16 s) ∨ ((∀ k : Int, 0 ≤ k → k < ((zmem G s (curO G s) (Rw s)).length : Int) → zat (zmem G s (curO G s) (Rw s)) k ≠ G 16 s) ∧ pl = if z = 0 then -1 else ((zmem G s (curO G s) (Rw s)).length : Int))) ∧ f = if 0 ≤ (if z = 0 then pl + 1 else pl - 1) then zat (zmem G s (curO G s) (Rw s)) (if z = 0 then pl + 1 else pl - 1) else -1)) : nbC (T s) z (P s 8) = f := by
  have hcu := cur_own h r s0 s1
  have h6 := h.1.2.1
  have hN := r.1.2.2.2.2
  have h0 := h.1.1
  have h10 : ¬ ((1 : Int) = 0) := by decide
  obtain ⟨⟨-, -, -, -, -, e8⟩, t1, t2⟩ := r.2.2.2.2.2.2 s s0 s1
  by_cases c : G 16 s = -1
  · rw [hf.1 c, e8, c]
    unfold nbC
    rw [rAt_no (show ¬ (0 ≤ (-1 : Int) ∧ (-1 : Int) < ((60 : Nat) : Int)) by omega), rAt_no (show ¬ (0 ≤ (-1 : Int) ∧ (-1 : Int) < ((60 : Nat) : Int)) by omega), if_pos rfl]
  · obtain ⟨pl, hpl, hfe⟩ := hf.2 c
    clear hf
    have hne := RD_aC h r s s0 s1 (by rw [e8]; exact c)
    have hio := (cur_isO t2 (P s 8)).resolve_left hne
    rw [e8] at hcu hne hio ⊢
    have hcr := rAt_ne hne
    rw [hcu] at hio
    rw [zmem_gW] at hpl hfe
    have hmf := mOf_facts t2.1 hio
    have hln := t2.2.2 _ hio
    have hTc : T s 5 (G 16 s) = curO G s := by rw [← hcu, rAt_in hcr.1 hcr.2]
    unfold nbC
    rw [hcu]
    clear hcu
    generalize hqq : curO G s = q at *
    have nq : ∀ k : Int, 0 ≤ k → k < ((mOf (gW G s) q (Rw s)).length : Int) → zat (mOf (gW G s) q (Rw s)) k ≠ q := fun k k0 k1 e => hmf.2.1 (by have := zat_mem k0 k1; rw [e] at this; exact this)
    rcases Classical.em (gO F G s (G 16 s)) with ho | ho
    · have hqc : q = G 16 s := by rw [← hTc]; exact (t2.2.1 _ hcr.1 (by omega)).1 ho
      have hpl2 : pl = if z = 0 then -1 else ((mOf (gW G s) q (Rw s)).length : Int) := by
        rcases hpl with ⟨y0, y1, y2⟩ | y
        · exact absurd (y2.trans hqc.symm) (nq pl y0 y1)
        · exact y.2
      rw [← hqc]
      rw [← hqc] at hcr
      rcases hz with rfl | rfl
      · rw [if_pos rfl] at hpl2 hfe
        rw [if_pos rfl, rAt_in hcr.1 hcr.2, lnk_first hln, hfe, hpl2]
        by_cases e : 0 < ((mOf (gW G s) q (Rw s)).length : Int)
        · rw [sq_in (Int.le_refl 0) e, if_neg (nq 0 (Int.le_refl 0) e), if_pos (by decide)]; rfl
        · rw [sq_e (by omega), if_pos rfl, if_pos (by decide), zat_out (by omega)]
      · rw [if_neg h10] at hpl2 hfe
        rw [if_neg h10, rAt_in hcr.1 hcr.2, lnk_last hln, hfe, hpl2]
        by_cases e : 0 ≤ ((mOf (gW G s) q (Rw s)).length : Int) - 1
        · rw [sq_in e (by omega), if_neg (nq _ e (by omega)), if_pos e]
        · rw [if_neg e, show ((mOf (gW G s) q (Rw s)).length : Int) - 1 = -1 by omega, sq_m, if_pos rfl]
    · have how : gW G s (G 16 s) = q := by rw [← hTc]; exact ((t2.2.1 _ hcr.1 (by omega)).2 ho).symm
      have hq0 := t2.1.1 q hio
      have hm : G 16 s ∈ Rw s := (t2.1.2.2.1 _).mpr ⟨hcr.1, by omega, by omega⟩
      obtain ⟨p, p0, p1, p2, p6, p7⟩ := ring_nb t2 hm
      rw [how] at p1 p2 p6 p7
      have hplp : pl = p := by
        rcases hpl with ⟨y0, y1, y2⟩ | y
        · exact zat_inj hmf.1 ⟨y0, y1⟩ ⟨p0, p1⟩ (by rw [y2, p2])
        · exact absurd p2 (y.1 p p0 p1)
      rw [hfe, hplp]
      rcases hz with rfl | rfl
      · rw [if_pos rfl, if_pos rfl, rAt_in hcr.1 hcr.2, p6, if_pos (show 0 ≤ p + 1 by omega)]
        by_cases e : p + 1 < ((mOf (gW G s) q (Rw s)).length : Int)
        · rw [sq_in (by omega) e, if_neg (nq _ (by omega) e)]
        · rw [sq_e (by omega), if_pos rfl, zat_out (by omega)]
      · rw [if_neg h10, if_neg h10, rAt_in hcr.1 hcr.2, p7]
        by_cases e : 0 ≤ p - 1
        · rw [sq_in e (by omega), if_neg (nq _ e (by omega)), if_pos e]
        · rw [if_neg e, show p - 1 = -1 by omega, sq_m, if_pos rfl]
