/-! bits of a long -/
def lb (y : Int64) (u : Int) : Prop := y.toBitVec.getLsbD u.toNat = true
theorem l_amt : ∀ n : Nat, n < 64 → (((Int32.ofInt (n : Int)).toInt64 &&& 63).toBitVec.smod 64).toNat = n := by decide +kernel
theorem lb_and1 {y : Int64} {a : Int} (h0 : 0 ≤ a) (h1 : a < 64) : (lb y a → (y >>> ((Int32.ofInt a).toInt64 &&& 63)) &&& 1 = 1) ∧ (¬ lb y a → (y >>> ((Int32.ofInt a).toInt64 &&& 63)) &&& 1 = 0) := by
  obtain ⟨n, rfl⟩ := Int.eq_ofNat_of_zero_le h0
  have hn : n < 64 := by omega
  have e : ((y >>> ((Int32.ofInt (n : Int)).toInt64 &&& 63)) &&& 1).toBitVec = (y.toBitVec.sshiftRight n) &&& 1#64 := by
    rw [Int64.toBitVec_and, Int64.toBitVec_shiftRight]
    show (y.toBitVec.sshiftRight (((Int32.ofInt (n : Int)).toInt64 &&& 63).toBitVec.smod 64).toNat) &&& 1#64 = _
    rw [l_amt n hn]
  have e2 : (y.toBitVec.sshiftRight n) &&& 1#64 = if y.toBitVec.getLsbD n = true then 1#64 else 0#64 := by
    apply BitVec.eq_of_getLsbD_eq
    intro i hi
    rw [BitVec.getLsbD_and, BitVec.getLsbD_one]
    by_cases c : i = 0
    · subst c
      rw [BitVec.getLsbD_sshiftRight]
      simp only [Nat.add_zero]
      by_cases c2 : y.toBitVec.getLsbD n = true
      · rw [if_pos c2]
        simp [c2, hn]
      · rw [if_neg c2]
        have c3 : y.toBitVec.getLsbD n = false := Bool.eq_false_iff.mpr c2
        have c4 : y.toBitVec[n] = false := by rw [← BitVec.getLsbD_eq_getElem hn]; exact c3
        simp [c4, hn]
    · by_cases c2 : y.toBitVec.getLsbD n = true
      · rw [if_pos c2, BitVec.getLsbD_one]; simp [c]
      · rw [if_neg c2]; simp [c]
  constructor
  · intro c
    have c : y.toBitVec.getLsbD n = true := c
    apply Int64.toBitVec_inj.mp
    rw [e, e2, if_pos c]; rfl
  · intro c
    have c : ¬ y.toBitVec.getLsbD n = true := c
    apply Int64.toBitVec_inj.mp
    rw [e, e2, if_neg c]; rfl
theorem lb_or {x y : Int64} {u : Int} : lb (x ||| y) u ↔ lb x u ∨ lb y u := by
  unfold lb
  rw [Int64.toBitVec_or, BitVec.getLsbD_or, Bool.or_eq_true]
theorem lb_0 {u : Int} : ¬ lb 0 u := by
  unfold lb
  show ¬ (0#64).getLsbD u.toNat = true
  simp
theorem lb_one {a u : Int} (h0 : 0 ≤ a) (h1 : a < 64) (u0 : 0 ≤ u) (u1 : u < 64) : lb (1 <<< ((Int32.ofInt a).toInt64 &&& 63)) u ↔ u = a := by
  obtain ⟨n, rfl⟩ := Int.eq_ofNat_of_zero_le h0
  obtain ⟨m, rfl⟩ := Int.eq_ofNat_of_zero_le u0
  have hn : n < 64 := by omega
  have hm : m < 64 := by omega
  unfold lb
  rw [Int64.toBitVec_shiftLeft]
  show ((1 : Int64).toBitVec <<< (((Int32.ofInt (n : Int)).toInt64 &&& 63).toBitVec.smod 64).toNat).getLsbD m = true ↔ _
  rw [l_amt n hn, BitVec.getLsbD_shiftLeft]
  show (decide (m < 64) && !decide (m < n) && (1#64).getLsbD (m - n)) = true ↔ _
  rw [BitVec.getLsbD_one]
  simp only [Bool.and_eq_true, decide_eq_true_eq, Bool.not_eq_true', decide_eq_false_iff_not]
  omega
/-- a long that holds more -/
theorem lb_ext {x y : Int64} (h : ∀ u : Int, 0 ≤ u → u < 64 → (lb x u ↔ lb y u)) : x = y := by
  apply Int64.toBitVec_inj.mp
  apply BitVec.eq_of_getLsbD_eq
  intro i hi
  have := h (i : Int) (by omega) (by omega)
  unfold lb at this
  rw [Int.toNat_natCast] at this
  rw [Bool.eq_iff_iff]
  exact this
/-- how many bits are missing -/
def lbM (y : Int64) : Nat := 18446744073709551616 - y.toBitVec.toNat
theorem lbM_or {x y : Int64} (h : x ||| y ≠ x) : lbM (x ||| y) < lbM x := by
  have h1 : x.toBitVec.toNat ≤ (x ||| y).toBitVec.toNat := by
    rw [Int64.toBitVec_or, BitVec.toNat_or]
    exact Nat.left_le_or
  have h2 : x.toBitVec.toNat ≠ (x ||| y).toBitVec.toNat := fun e => h (Int64.toBitVec_inj.mp (BitVec.eq_of_toNat_eq e)).symm
  have h3 := (x ||| y).toBitVec.isLt
  unfold lbM
  omega
