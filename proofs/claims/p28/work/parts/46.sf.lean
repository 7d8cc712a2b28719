/-! what is left of a set type when the records of D are gone -/
def owD (ow : Int → Int) (D : List Int) : Int → Int := fun u => if u ∈ D ∨ ow u ∈ D then -1 else ow u
def isD (isO : Int → Prop) (D : List Int) : Int → Prop := fun u => isO u ∧ u ∉ D
def LD (ow : Int → Int) (D : List Int) (L : List Int) : List Int := L.filter (fun u => decide (¬ (u ∈ D ∨ ow u ∈ D)))
def cD (ow : Int → Int) (D : List Int) (p8 : Int) : Int := if p8 ∈ D ∨ (p8 ≠ -1 ∧ ow p8 ∈ D) then -1 else p8
def PD (P : Int → Nat → Int) (ow : Int → Int → Int) (D : List Int) (N : Nat) : Int → Nat → Int := fun s => if 0 ≤ s ∧ s < (N : Int) then Fup (P s) 8 (cD (ow s) D (P s 8)) else P s
theorem owD_nil (ow : Int → Int) : owD ow [] = ow := funext fun u => if_neg (by simp)
theorem isD_nil (isO : Int → Prop) : isD isO [] = isO := funext fun u => propext ⟨fun z => z.1, fun z => ⟨z, by simp⟩⟩
theorem LD_nil (ow : Int → Int) (L : List Int) : LD ow [] L = L := by simp [LD]
theorem cD_nil (ow : Int → Int) (p8 : Int) : cD ow [] p8 = p8 := if_neg (by simp)
theorem PD_nil (P : Int → Nat → Int) (ow : Int → Int → Int) (N : Nat) : PD P ow [] N = P := funext fun s => by
  unfold PD
  split
  · rw [cD_nil, Fup_id]
  · rfl
theorem owD_st {ow : Int → Int} {D : List Int} {d : Int} (hd : d ≠ -1) : fOw (owD ow D) d = owD ow (D ++ [d]) := funext fun u => by
  unfold fOw owD
  by_cases c : u ∈ D ∨ ow u ∈ D
  · have c3 : u ∈ D ++ [d] ∨ ow u ∈ D ++ [d] := by simp only [List.mem_append]; rcases c with z | z; exact Or.inl (Or.inl z); exact Or.inr (Or.inl z)
    rw [if_pos c, if_pos c3]
    split <;> rfl
  · rw [if_neg c]
    by_cases c2 : u = d ∨ ow u = d
    · rw [if_pos c2, if_pos (by simp only [List.mem_append, List.mem_singleton]; rcases c2 with z | z; exact Or.inl (Or.inr z); exact Or.inr (Or.inr z))]
    · rw [if_neg c2, if_neg (by
        simp only [List.mem_append, List.mem_singleton]
        rintro ((z | z) | (z | z))
        · exact c (Or.inl z)
        · exact c2 (Or.inl z)
        · exact c (Or.inr z)
        · exact c2 (Or.inr z))]
theorem LD_st {ow : Int → Int} {D L : List Int} {d : Int} (hd : d ≠ -1) : fL (owD ow D) d (LD ow D L) = LD ow (D ++ [d]) L := by
  unfold fL LD
  rw [List.filter_filter]
  apply List.filter_congr
  intro u _
  by_cases c : u ∈ D ∨ ow u ∈ D
  · have c3 : u ∈ D ++ [d] ∨ ow u ∈ D ++ [d] := by simp only [List.mem_append]; rcases c with z | z; exact Or.inl (Or.inl z); exact Or.inr (Or.inl z)
    rw [decide_eq_false (p := ¬ (u ∈ D ∨ ow u ∈ D)) (fun z => z c), Bool.and_false, decide_eq_false (fun z => z c3)]
  · have e : owD ow D u = ow u := if_neg c
    rw [e, decide_eq_true (p := ¬ (u ∈ D ∨ ow u ∈ D)) c, Bool.and_true]
    apply decide_eq_decide.mpr
    simp only [List.mem_append, List.mem_singleton]
    constructor
    · rintro z ((y | y) | (y | y))
      · exact c (Or.inl y)
      · exact z (Or.inl y)
      · exact c (Or.inr y)
      · exact z (Or.inr y)
    · rintro z (y | y)
      · exact z (Or.inl (Or.inr y))
      · exact z (Or.inr (Or.inr y))
theorem isD_st {isO : Int → Prop} {D : List Int} {d : Int} : fO (isD isO D) d = isD isO (D ++ [d]) := funext fun u => propext (by
  unfold fO isD
  simp only [List.mem_append, List.mem_singleton, not_or, and_assoc])
theorem cD_st {ow : Int → Int} {D : List Int} {d p8 : Int} (hd : d ≠ -1) : fC (owD ow D) d (cD ow D p8) = cD ow (D ++ [d]) p8 := by
  unfold cD
  by_cases c : p8 ∈ D ∨ (p8 ≠ -1 ∧ ow p8 ∈ D)
  · rw [if_pos c, if_pos (by simp only [List.mem_append]; rcases c with z | z; exact Or.inl (Or.inl z); exact Or.inr ⟨z.1, Or.inl z.2⟩)]
    exact if_neg (fun z => by rcases z with y | y; exact hd y.symm; exact y.1 rfl)
  · rw [if_neg c]
    unfold fC
    by_cases c1 : p8 = d
    · rw [if_pos (Or.inl c1), if_pos (Or.inl (List.mem_append.mpr (Or.inr (by rw [c1]; simp))))]
    · by_cases c2 : p8 = -1
      · rw [if_neg (fun z => by rcases z with y | y; exact c1 y; exact y.1 c2), if_neg (by
          simp only [List.mem_append, List.mem_singleton]
          rintro ((y | y) | y)
          · exact c (Or.inl y)
          · exact c1 y
          · exact y.1 c2)]
      · have e : owD ow D p8 = ow p8 := if_neg (fun z => c (by rcases z with y | y; exact Or.inl y; exact Or.inr ⟨c2, y⟩))
        rw [e]
        by_cases c3 : ow p8 = d
        · rw [if_pos (Or.inr ⟨c2, c3⟩), if_pos (Or.inr ⟨c2, by rw [c3]; simp⟩)]
        · rw [if_neg (fun z => by rcases z with y | y; exact c1 y; exact c3 y.2), if_neg (by
            simp only [List.mem_append, List.mem_singleton]
            rintro ((y | y) | ⟨-, y | y⟩)
            · exact c (Or.inl y)
            · exact c1 y
            · exact c (Or.inr ⟨c2, y⟩)
            · exact c3 y)]
theorem PD_st {P : Int → Nat → Int} {ow : Int → Int → Int} {D : List Int} {N : Nat} {d : Int} (hd : d ≠ -1) : fgP (PD P ow D N) (fun s => owD (ow s) D) d (N : Int) = PD P ow (D ++ [d]) N := funext fun s => by
  unfold fgP PD
  by_cases c : 0 ≤ s ∧ s < (N : Int)
  · rw [if_pos c, if_pos c, if_pos c, Fup_s, Fup_Fup, cD_st hd]
  · rw [if_neg c, if_neg c, if_neg c]
/-- everything that holds while the records of D are removed -/
def eL (g : zG) (b : Nat → Nat) (c : Int → Nat → Nat) (I : Nat → Int) (Q : Nat → Int → Int) (P : Int → Nat → Int) (N : Nat) (ow : Int → Int → Int) (isO : Int → Int → Prop) (L : Int → List Int) (D : List Int) (k : Int) (I1 : Nat → Int) (Q1 : Nat → Int → Int) (T1 : Int → Nat → Int → Int) : Prop :=
  aI I1 Q1 N ∧ aS (PD P ow (D.take k.toNat) N) T1 N (fun s => owD (ow s) (D.take k.toNat)) (fun s => isD (isO s) (D.take k.toNat)) (fun s => LD (ow s) (D.take k.toNat) (L s)) ∧
  I1 0 = I 0 ∧ I1 1 = I 1 - k ∧ I1 2 = (if I 2 ∈ D.take k.toNat then -1 else I 2) ∧ (∀ u : Int, Q1 0 u = if u ∈ D.take k.toNat then -1 else Q 0 u) ∧ Q1 1 = Q 1 ∧ (∀ t : Int, 0 ≤ t → t < 4 → Q1 2 t = if Q 2 t ∈ D.take k.toNat then -1 else Q 2 t) ∧ gOK I1 Q1 D
theorem gOK_congr {I I1 : Nat → Int} {Q Q1 : Nat → Int → Int} {D : List Int} (h : gOK I Q D) (h3 : I1 3 = I 3) (q3 : Q1 3 = Q 3) (q4 : Q1 4 = Q 4) : gOK I1 Q1 D := by
  unfold gOK
  rw [h3, q3, q4]
  exact h
theorem cD_rng {ow : Int → Int} {D : List Int} {p8 : Int} (h : -1 ≤ p8 ∧ p8 < 60) : -1 ≤ cD ow D p8 ∧ cD ow D p8 < 60 := by
  unfold cD
  split
  · omega
  · exact h
theorem eL_step {g : zG} {b : Nat → Nat} {c : Int → Nat → Nat} {I : Nat → Int} {Q : Nat → Int → Int} {P : Int → Nat → Int} {T : Int → Nat → Int → Int} {N : Nat} {ow : Int → Int → Int} {isO : Int → Int → Prop} {L : Int → List Int} {D : List Int} {k : Int} {I1 : Nat → Int} {Q1 : Nat → Int → Int} {T1 : Int → Nat → Int → Int}
    (hS : aS P T N ow isO L) (hD : D.Nodup) (hr : ∀ u ∈ D, 0 ≤ u ∧ u < 60) (hqD : ∀ u ∈ D, 0 ≤ Q 0 u ∧ Q 0 u ≤ 3) (hqt : ∀ t : Int, 0 ≤ t → t < 4 → Q 2 t ≠ -1 → Q 0 (Q 2 t) = t) (h : eL g b c I Q P N ow isO L D k I1 Q1 T1) (k0 : 0 ≤ k) (k1 : k < (D.length : Int))
    {I2 : Nat → Int} {Q2 : Nat → Int → Int} {T2 : Int → Nat → Int → Int} (hI2 : I2 1 = I1 1 - 1 ∧ I2 2 = (if I1 2 = zat D k then -1 else I1 2) ∧ ∀ j : Nat, j ≠ 1 → j ≠ 2 → I2 j = I1 j) (hQ2 : Q2 0 = zup (Q1 0) (zat D k) (-1) ∧ Q2 2 = (if Q1 2 (Q1 0 (zat D k)) = zat D k then zup (Q1 2) (Q1 0 (zat D k)) (-1) else Q1 2) ∧ ∀ j : Nat, j ≠ 0 → j ≠ 2 → Q2 j = Q1 j)
    (hT2 : ∀ s : Int, 0 ≤ s → s < (N : Int) → rR (T2 s) ∧ rOK (T2 s) (fOw (owD (ow s) (D.take k.toNat)) (zat D k)) (fO (isD (isO s) (D.take k.toNat)) (zat D k)) (fL (owD (ow s) (D.take k.toNat)) (zat D k) (LD (ow s) (D.take k.toNat) (L s)))) : eL g b c I Q P N ow isO L D (k + 1) I2 Q2 T2 := by
  obtain ⟨h1, h2, h3, h4, h5, h6, h7, h8, h9⟩ := h
  have hts := take_snoc (l := D) k0 k1
  have hdm := zat_mem k0 k1
  have hdr := hr _ hdm
  have hdq := hqD _ hdm
  generalize hd : zat D k = d at *
  generalize hE : D.take k.toNat = E at *
  have hdE : d ∉ E := by
    intro z
    rw [← hE] at z
    obtain ⟨i, i0, i1, ie⟩ := zat_of_mem z
    have hl : ((D.take k.toNat).length : Int) ≤ k := by rw [List.length_take]; omega
    have h10 : zat D i = d := by
      rw [← ie]
      unfold zat
      rw [List.getD_eq_getElem?_getD, List.getD_eq_getElem?_getD, List.getElem?_take_of_lt (by omega)]
    have h11 : i = k := zat_inj hD ⟨i0, by omega⟩ ⟨k0, k1⟩ (by rw [h10, hd])
    omega
  have hd1 : d ≠ -1 := by omega
  have hq0 : Q1 0 d = Q 0 d := by rw [h6, if_neg hdE]
  have e0 : ∀ u : Int, Q2 0 u = if u ∈ E ++ [d] then -1 else Q 0 u := fun u => by
    rw [hQ2.1]
    by_cases c1 : u = d
    · rw [c1, zup_s, if_pos (by simp)]
    · rw [zup_n _ _ c1, h6]
      by_cases c2 : u ∈ E
      · rw [if_pos c2, if_pos (by simp [c2])]
      · rw [if_neg c2, if_neg (by simp [c2, c1])]
  have e2 : ∀ t : Int, 0 ≤ t → t < 4 → Q2 2 t = if Q 2 t ∈ E ++ [d] then -1 else Q 2 t := fun t t0 t1 => by
    rw [hQ2.2.1, hq0, h8 (Q 0 d) (by omega) (by omega)]
    by_cases c1 : Q 2 (Q 0 d) = d
    · rw [c1, if_neg hdE, if_pos rfl]
      by_cases c2 : t = Q 0 d
      · rw [c2, zup_s, c1, if_pos (by simp)]
      · rw [zup_n _ _ c2, h8 t t0 t1]
        have c3 : Q 2 t ≠ d := fun z => c2 (by rw [← z, hqt t t0 t1 (by rw [z]; exact hd1)])
        by_cases c4 : Q 2 t ∈ E
        · rw [if_pos c4, if_pos (by simp [c4])]
        · rw [if_neg c4, if_neg (by simp [c4, c3])]
    · rw [if_neg (fun z => by
        by_cases c5 : Q 2 (Q 0 d) ∈ E
        · rw [if_pos c5] at z; exact hd1 z.symm
        · rw [if_neg c5] at z; exact c1 z), h8 t t0 t1]
      have c3 : Q 2 t ≠ d := fun z => c1 (by
        have := hqt t t0 t1 (by rw [z]; exact hd1)
        rw [z] at this
        rw [this]
        exact z)
      by_cases c4 : Q 2 t ∈ E
      · rw [if_pos c4, if_pos (by simp [c4])]
      · rw [if_neg c4, if_neg (by simp [c4, c3])]
  have i2 : I2 2 = if I 2 ∈ E ++ [d] then -1 else I 2 := by
    rw [hI2.2.1, h5]
    by_cases c1 : I 2 ∈ E
    · rw [if_pos c1, if_neg (fun z => hd1 z.symm), if_pos (by simp [c1])]
    · rw [if_neg c1]
      by_cases c2 : I 2 = d
      · rw [if_pos c2, if_pos (by simp [c2])]
      · rw [if_neg c2, if_neg (by simp [c1, c2])]
  unfold eL
  rw [hts]
  refine ⟨?_, ?_, by rw [hI2.2.2 0 (by decide) (by decide)]; exact h3, by rw [hI2.1, h4]; omega, i2, e0, by rw [hQ2.2.2 1 (by decide) (by decide)]; exact h7, e2, gOK_congr h9 (hI2.2.2 3 (by decide) (by decide)) (hQ2.2.2 3 (by decide) (by decide)) (hQ2.2.2 4 (by decide) (by decide))⟩
  · obtain ⟨g1, g2, g3, g4, g5, g6, g7, g8⟩ := h1
    refine ⟨by rw [hI2.2.2 5 (by decide) (by decide)]; exact g1, g2, ?_, fun u u0 u1 => ?_, by rw [hQ2.2.2 1 (by decide) (by decide)]; exact g5, fun t t0 t1 => ?_, by rw [hI2.2.2 0 (by decide) (by decide)]; exact g7, by rw [hI2.1]; omega⟩
    · rw [hI2.2.1]
      by_cases c1 : I1 2 = d
      · rw [if_pos c1]; omega
      · rw [if_neg c1]; exact g3
    · rw [hQ2.1]
      by_cases c1 : u = d
      · rw [c1, zup_s]; omega
      · rw [zup_n _ _ c1]; exact g4 u u0 u1
    · have h10 := g6 t t0 t1
      rw [hQ2.2.1]
      by_cases c1 : Q1 2 (Q1 0 d) = d
      · rw [if_pos c1]
        by_cases c2 : t = Q1 0 d
        · rw [c2, zup_s]; omega
        · rw [zup_n _ _ c2]; exact h10
      · rw [if_neg c1]; exact h10
  · intro s s0 s1
    obtain ⟨t1, t2⟩ := hT2 s s0 s1
    rw [owD_st hd1, isD_st, LD_st hd1] at t2
    obtain ⟨-, -, p0, p1, p01, p2, p3, p4, p8⟩ := hS s s0 s1
    have hP : PD P ow (E ++ [d]) N s = Fup (P s) 8 (cD (ow s) (E ++ [d]) (P s 8)) := if_pos ⟨s0, s1⟩
    rw [hP]
    exact ⟨t1, t2, p0, p1, p01, p2, p3, p4, by rw [Fup_s]; exact cD_rng p8⟩
