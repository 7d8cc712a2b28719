/-! pure: erasing in the reference -/
def erP (G : Nat → Int → Int) (M : List Int) (s u : Int) : Prop := u ∈ M ∨ G 11 (60 * s + u) ∈ M
def erL (G : Nat → Int → Int) (M : List Int) (s k : Int) (l : List Int) : List Int := l.filter (fun u => decide (¬ (u < k ∧ (u ∈ M ∨ G 11 (60 * s + u) ∈ M))))
theorem erL_0 {G : Nat → Int → Int} {M : List Int} {s : Int} {l : List Int} (h : ∀ u ∈ l, 0 ≤ u) : erL G M s 0 l = l := by
  unfold erL
  rw [List.filter_eq_self]
  intro u hu
  rw [decide_eq_true_eq]
  have := h u hu
  omega
theorem erL_del {G : Nat → Int → Int} {M : List Int} {s k : Int} {l : List Int} (hk : k ∈ M ∨ G 11 (60 * s + k) ∈ M) : zdel (erL G M s k l) k = erL G M s (k + 1) l := by
  unfold erL zdel
  rw [List.filter_filter]
  apply List.filter_congr
  intro u hu
  rw [← Bool.decide_and, decide_eq_decide]
  by_cases c : u = k
  · subst c
    constructor
    · intro z; exact absurd rfl z.1
    · intro z; exact absurd ⟨by omega, hk⟩ z
  · constructor
    · intro z z2; exact z.2 ⟨by omega, z2.2⟩
    · intro z; exact ⟨c, fun z2 => z ⟨by omega, z2.2⟩⟩
theorem erL_same {G : Nat → Int → Int} {M : List Int} {s k : Int} {l : List Int} (hk : k ∈ l → ¬ (k ∈ M ∨ G 11 (60 * s + k) ∈ M)) : erL G M s k l = erL G M s (k + 1) l := by
  unfold erL
  apply List.filter_congr
  intro u hu
  rw [decide_eq_decide]
  constructor
  · intro z z2
    rcases Int.lt_or_eq_of_le (show u ≤ k by omega) with y | y
    · exact z ⟨y, z2.2⟩
    · subst y; exact hk hu z2.2
  · intro z z2; exact z ⟨by omega, z2.2⟩
/-- how far in the set type t, at place k of set type s -/
def erK (n s k t : Int) : Int := if t < s then n else if t = s then k else 0
/-- the current record of a set type: while its row is gone through, and behind that -/
def erC (G : Nat → Int → Int) (M : List Int) (k s : Int) : Int := if G 16 s ≠ -1 ∧ G 16 s < k ∧ G 16 s ∉ M ∧ G 11 (60 * s + G 16 s) ∈ M then -1 else G 16 s
def erD (G : Nat → Int → Int) (M : List Int) (s : Int) : Int := if G 16 s ∈ M ∨ (G 16 s ≠ -1 ∧ G 11 (60 * s + G 16 s) ∈ M) then -1 else G 16 s
def erI (F : Nat → Int) (G : Nat → Int → Int) (Rw : Int → List Int) (M : List Int) (s k : Int) (G1 : Nat → Int → Int) (Rw1 : Int → List Int) : Prop :=
  mS F G1 Rw1 ∧ (∀ j : Nat, j ≠ 11 → j ≠ 12 → j ≠ 13 → j ≠ 16 → j ≠ 17 → G1 j = G j) ∧ (∀ q : Int, 0 ≤ q → q < 60 → G1 17 q = zin q M) ∧
  (∀ t u : Int, 0 ≤ t → t < 6 → 0 ≤ u → u < 60 → G1 11 (60 * t + u) = if u < erK (F 6) s k t ∧ (u ∈ M ∨ G 11 (60 * t + u) ∈ M) then -1 else G 11 (60 * t + u)) ∧
  (∀ t : Int, 0 ≤ t → t < 6 → Rw1 t = erL G M t (erK (F 6) s k t) (Rw t)) ∧
  (∀ t : Int, 0 ≤ t → t < 6 → G1 16 t = if t < s then erD G M t else if t = s then erC G M k t else G 16 t)
def eraF (F : Nat → Int) (n : Int) : Nat → Int := Fup (Fup F 14 (-1)) 7 (F 7 - n)
/-- what is there behind the erasing of M -/
def eraO (F : Nat → Int) (G : Nat → Int → Int) (Rw : Int → List Int) (M : List Int) (G1 : Nat → Int → Int) (Rw1 : Int → List Int) : Prop :=
  (∀ j : Nat, j ≠ 8 → j ≠ 11 → j ≠ 12 → j ≠ 13 → j ≠ 15 → j ≠ 16 → j ≠ 17 → G1 j = G j) ∧
  (∀ t u : Int, 0 ≤ t → t < 6 → 0 ≤ u → u < 60 → G1 11 (60 * t + u) = if u ∈ M ∨ G 11 (60 * t + u) ∈ M then -1 else G 11 (60 * t + u)) ∧
  (∀ t : Int, 0 ≤ t → t < 6 → Rw1 t = erL G M t (F 6) (Rw t)) ∧
  (∀ t : Int, 0 ≤ t → t < 6 → G1 16 t = erD G M t) ∧
  (∀ t : Int, 0 ≤ t → t < 4 → G1 15 t = if G 15 t ∈ M then -1 else G 15 t) ∧
  (∀ u : Int, 0 ≤ u → u < F 6 → G1 8 u = if u ∈ M then 0 else G 8 u) ∧
  sRow G1 Rw1
theorem eraF_18 (F : Nat → Int) (n : Int) : Fup (Fup (Fup F 18 0) 14 (-1)) 7 (F 7 - n) = Fup (eraF F n) 18 0 := by
  rw [eraF, Fup_comm F (by decide : 18 ≠ 14), Fup_comm _ (by decide : 18 ≠ 7)]
theorem erC_step {G : Nat → Int → Int} {M : List Int} {k s b : Int} (k0 : 0 ≤ k) (hbi : b = 1 ↔ (G 11 (60 * s + k) ∈ M ∧ k ∉ M)) : erC G M (k + 1) s = if b = 1 ∧ erC G M k s = k then -1 else erC G M k s := by
  by_cases ck : G 16 s = k
  · have e1 : erC G M k s = k := by
      unfold erC
      rw [if_neg (fun z => by have := z.2.1; omega), ck]
    rw [e1]
    unfold erC
    by_cases cb : b = 1
    · have hbm := hbi.mp cb
      rw [if_pos (show b = 1 ∧ k = k from ⟨cb, rfl⟩), if_pos ⟨by omega, by omega, by rw [ck]; exact hbm.2, by rw [ck]; exact hbm.1⟩]
    · rw [if_neg (show ¬ (b = 1 ∧ k = k) from fun z => cb z.1), if_neg (fun z => cb (hbi.mpr (by rw [ck] at z; exact ⟨z.2.2.2, z.2.2.1⟩))), ck]
  · have e2 : erC G M (k + 1) s = erC G M k s := by
      unfold erC
      by_cases cq : G 16 s ≠ -1 ∧ G 16 s < k ∧ G 16 s ∉ M ∧ G 11 (60 * s + G 16 s) ∈ M
      · rw [if_pos cq, if_pos ⟨cq.1, by have := cq.2.1; omega, cq.2.2⟩]
      · rw [if_neg cq, if_neg (fun z => cq ⟨z.1, by have := z.2.1; omega, z.2.2⟩)]
    rw [e2, if_neg]
    intro z
    have h1 := z.2
    unfold erC at h1
    split at h1 <;> omega
theorem erK_s (n s k : Int) : erK n s k s = k := by unfold erK; rw [if_neg (by omega), if_pos rfl]
theorem erK_n (n : Int) {s t : Int} (h : ¬ t = s) (k k' : Int) : erK n s k t = erK n s k' t := by unfold erK; rw [if_neg h, if_neg h]
