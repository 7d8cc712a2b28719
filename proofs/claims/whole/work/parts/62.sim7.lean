/-! what the finding calls hand on -/
theorem zat_out {l : List Int} {k : Int} (h : (l.length : Int) ≤ k) : zat l k = -1 := by
  unfold zat
  rw [List.getD_eq_getElem?_getD, List.getElem?_eq_none (by omega)]
  rfl
theorem fe_eq {F : Nat → Int} {G : Nat → Int → Int} {Rw : Int → List Int} {I : Nat → Int} {Q : Nat → Int → Int} {P : Int → Nat → Int} {T : Int → Nat → Int → Int} {N : Nat} (h : mI F G Rw) (r : RD F G Rw I Q P T N) {s z : Int} (s0 : 0 ≤ s) (s1 : s < (N : Int)) (hz : z = 0 ∨ z = 1) : nbC (T s) z (rAt 60 (T s 5) (P s 8)) = (if G 16 s = -1 then -1 else if z = 0 then zat (zmem G s (curO G s) (Rw s)) 0 else if 0 ≤ ((zmem G s (curO G s) (Rw s)).length : Int) - 1 then zat (zmem G s (curO G s) (Rw s)) (((zmem G s (curO G s) (Rw s)).length : Int) - 1) else -1) := by
  have hcu := cur_own h r s0 s1
  obtain ⟨⟨-, -, -, -, -, e8⟩, t1, t2⟩ := r.2.2.2.2.2.2 s s0 s1
  by_cases c : G 16 s = -1
  · rw [if_pos c, e8, c, rAt_no (show ¬ (0 ≤ (-1 : Int) ∧ (-1 : Int) < ((60 : Nat) : Int)) by omega)]
    unfold nbC
    rw [rAt_no (show ¬ (0 ≤ (-1 : Int) ∧ (-1 : Int) < ((60 : Nat) : Int)) by omega), rAt_no (show ¬ (0 ≤ (-1 : Int) ∧ (-1 : Int) < ((60 : Nat) : Int)) by omega), if_pos rfl]
  · rw [if_neg c]
    have hne := RD_aC h r s s0 s1 (by rw [e8]; exact c)
    have hio := (cur_isO t2 (P s 8)).resolve_left hne
    rw [hcu] at hio ⊢
    generalize curO G s = q at hio ⊢
    have hmf := mOf_facts t2.1 hio
    have hln := t2.2.2 q hio
    have hq := t2.1.1 q hio
    have hsr := sq_rng t2.1 hio
    have h5 : rAt 60 (T s 5) q = q := by
      rw [rAt_in hq.1 (by omega)]
      exact (t2.2.1 q hq.1 hq.2.1).1 hio
    rw [zmem_gW]
    unfold nbC
    rw [h5]
    rcases hz with rfl | rfl
    · rw [if_pos rfl, if_pos rfl, rAt_in hq.1 (by omega), lnk_first hln]
      by_cases e : 0 < ((mOf (gW G s) q (Rw s)).length : Int)
      · rw [if_neg (fun y => hmf.2.1 (by have hz9 := sq_mem (o := q) (Int.le_refl 0) e; rw [y] at hz9; exact hz9)), sq_in (Int.le_refl 0) e]
      · rw [sq_e (by omega), if_pos rfl, zat_out (by omega)]
    · have h10 : ¬ ((1 : Int) = 0) := by decide
      rw [if_neg h10, if_neg h10, rAt_in hq.1 (by omega), lnk_last hln]
      by_cases e : 0 ≤ ((mOf (gW G s) q (Rw s)).length : Int) - 1
      · rw [if_pos e, if_neg (fun y => hmf.2.1 (by have hz9 := sq_mem (o := q) (l := mOf (gW G s) q (Rw s)) e (by omega); rw [y] at hz9; exact hz9)), sq_in e (by omega)]
      · rw [if_neg e]
        have hl : ((mOf (gW G s) q (Rw s)).length : Int) - 1 = -1 := by omega
        rw [hl, sq_m, if_pos rfl]
