/-! where a new member goes: one place only -/
theorem fPl_uniq {P8 ins : Int} {V ow : Int → Int} {r o : Int} {L : List Int} {j j' : Int} (hn : (mOf ow o L).Nodup) (hi : 0 ≤ ins ∧ ins ≤ 4) (h : fPl P8 ins V ow r o L j) (h' : fPl P8 ins V ow r o L j') : j = j' := by
  obtain ⟨a0, a1, a2, a4⟩ := h
  obtain ⟨b0, b1, b2, b4⟩ := h'
  have hc : ins = 0 ∨ ins = 1 ∨ (ins = 2 ∨ ins = 3) ∨ ins = 4 := by omega
  rcases hc with c | c | c | c
  · rw [a0 c, b0 c]
  · rw [a1 c, b1 c]
  · by_cases e : ow P8 = o ∧ P8 ≠ -1
    · obtain ⟨q, q0, q1, q2, q3⟩ := (a2 c).1 e
      obtain ⟨p, p0, p1, p2, p3⟩ := (b2 c).1 e
      have := zat_inj hn ⟨q0, q1⟩ ⟨p0, p1⟩ (by rw [q2, p2])
      rw [q3, p3, this]
    · rw [(a2 c).2 e, (b2 c).2 e]
  · obtain ⟨x1, x2, x3⟩ := a4 c
    obtain ⟨y1, y2, y3⟩ := b4 c
    rcases Int.lt_trichotomy j j' with z | z | z
    · exact absurd (x3 (by omega)) (y2 j x1.1 z)
    · exact z
    · exact absurd (y3 (by omega)) (x2 j' y1.1 z)
theorem fPl_V {P8 ins : Int} {V V' ow : Int → Int} {r o : Int} {L : List Int} {j : Int} (hV : ∀ u : Int, u = r ∨ u ∈ L → V u = V' u) (h : fPl P8 ins V ow r o L j) : fPl P8 ins V' ow r o L j := by
  obtain ⟨a0, a1, a2, a4⟩ := h
  refine ⟨a0, a1, a2, fun c => ?_⟩
  obtain ⟨x1, x2, x3⟩ := a4 c
  have hz : ∀ i : Int, 0 ≤ i → i < ((mOf ow o L).length : Int) → V (zat (mOf ow o L) i) = V' (zat (mOf ow o L) i) := fun i i0 i1 => hV _ (Or.inr (mOf_mem.mp (zat_mem i0 i1)).1)
  refine ⟨x1, fun i i0 i1 => ?_, fun hj => ?_⟩
  · rw [← hV r (Or.inl rfl), ← hz i i0 (by omega)]
    exact x2 i i0 i1
  · rw [← hV r (Or.inl rfl), ← hz j x1.1 hj]
    exact x3 hj
/-- the class inserts where the reference does -/
theorem sim_ins {T T1 : Nat → Int → Int} {G : Nat → Int → Int} {isO : Int → Prop} {V : Int → Int} {s r q p j : Int} {L : List Int} (hk : rOK T (gW G s) isO L) (hV : ∀ u : Int, u = r ∨ u ∈ L → V u = G 10 u) (hins : 0 ≤ G 3 s ∧ G 3 s ≤ 4) (hcur : G 16 s ≠ -1 → G 11 (60 * s + G 16 s) = q → G 16 s ∈ L) (hq : isO q) (hr : r ∉ L) (r0 : 0 ≤ r) (r1 : r < 60) (hro : ¬ isO r)
    (hf : fPl (G 16 s) (G 3 s) V (gW G s) r q L j) (hi : insT T T1 (gW G s) L r q j) (hp : nPl G s r q L p) : j = ((mOf (gW G s) q (L.take p.toNat)).length : Int) ∧ rOK T1 (zup (gW G s) r q) isO (zinsl L p r) := by
  have hmf := mOf_facts hk.1 hq
  have h1 := nPl_fPl hk.1.2.1 hins hcur hp rfl
  have hj : j = ((mOf (gW G s) q (L.take p.toNat)).length : Int) := fPl_uniq hmf.1 hins (fPl_V hV hf) h1
  exact ⟨hj, rOK_ins hk hj hr r0 r1 hro hq hi.1 hi.2.1 hi.2.2.1⟩
theorem gW_up {G G1 : Nat → Int → Int} {s r v : Int} (h : G1 11 = zup (G 11) (60 * s + r) v) (r0 : 0 ≤ r) (r1 : r < 60) : (∀ u : Int, 0 ≤ u → u < 60 → gW G1 s u = zup (gW G s) r v u) ∧ ∀ t u : Int, t ≠ s → 0 ≤ u → u < 60 → gW G1 t u = gW G t u := by
  constructor
  · intro u u0 u1
    unfold gW
    rw [h]
    by_cases c : u = r
    · rw [c, zup_s, zup_s]
    · rw [zup_n _ _ (show 60 * s + u ≠ 60 * s + r by omega), zup_n _ _ c]
  · intro t u hts u0 u1
    unfold gW
    rw [h, zup_n _ _ (show 60 * t + u ≠ 60 * s + r by omega)]
