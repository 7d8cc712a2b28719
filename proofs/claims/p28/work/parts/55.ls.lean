/-! rising rows, counts -/
def so (V : Int → Int) (l : List Int) : Prop := ∀ i j : Int, 0 ≤ i → i < j → j < (l.length : Int) → V (zat l i) ≤ V (zat l j)
theorem so_congr {V V' : Int → Int} {l : List Int} (h : ∀ u ∈ l, V u = V' u) (hs : so V l) : so V' l := fun i j i0 ij j1 => by
  rw [← h _ (zat_mem i0 (by omega)), ← h _ (zat_mem (by omega) j1)]
  exact hs i j i0 ij j1
theorem so_nil (V : Int → Int) : so V [] := fun i j i0 ij j1 => by
  simp only [List.length_nil] at j1
  omega
theorem so_del {V : Int → Int} {l : List Int} {r : Int} (hn : l.Nodup) (h : so V l) : so V (zdel l r) := by
  by_cases hr : r ∈ l
  · obtain ⟨p, p0, p1, hp⟩ := zat_of_mem hr
    obtain ⟨hl, hz⟩ := zdel_at hn p0 p1 hp
    intro i j i0 ij j1
    rw [hz i i0, hz j (by omega)]
    by_cases c : i < p
    · rw [if_pos c]
      by_cases c2 : j < p
      · rw [if_pos c2]; exact h i j i0 ij (by omega)
      · rw [if_neg c2]; exact h i (j + 1) i0 (by omega) (by omega)
    · rw [if_neg c, if_neg (by omega)]
      exact h (i + 1) (j + 1) (by omega) (by omega) (by omega)
  · rw [zdel_none hr]; exact h
theorem so_ins {V : Int → Int} {l : List Int} {j r : Int} (h : so V l) (j0 : 0 ≤ j) (j1 : j ≤ (l.length : Int)) (ha : ∀ i : Int, 0 ≤ i → i < j → ¬ V r < V (zat l i)) (hb : j < (l.length : Int) → V r < V (zat l j)) : so V (zinsl l j r) := by
  intro i k i0 ik k1
  have hl : ((zinsl l j r).length : Int) = (l.length : Int) + 1 := by rw [zinsl_len]; omega
  rw [zinsl_at j0 j1 i0, zinsl_at j0 j1 (show 0 ≤ k by omega)]
  by_cases c : i < j
  · rw [if_pos c]
    by_cases c2 : k < j
    · rw [if_pos c2]; exact h i k i0 ik (by omega)
    · rw [if_neg c2]
      by_cases c3 : k = j
      · rw [if_pos c3]
        have := ha i i0 c
        omega
      · rw [if_neg c3]; exact h i (k - 1) i0 (by omega) (by omega)
  · rw [if_neg c, if_neg (show ¬ k < j by omega), if_neg (show ¬ k = j by omega)]
    by_cases c3 : i = j
    · rw [if_pos c3]
      have h1 := hb (by omega)
      by_cases c4 : j = k - 1
      · rw [← c4]; omega
      · have h2 := h j (k - 1) j0 (by omega) (by omega)
        omega
    · rw [if_neg c3]; exact h (i - 1) (k - 1) (by omega) (by omega) (by omega)
/-- how many of the first n are there -/
def pc (f : Int → Int) : Nat → Int
  | 0 => 0
  | n + 1 => pc f n + (if f (n : Int) = -1 then 0 else 1)
theorem pc_congr {f f' : Int → Int} : ∀ (n : Nat), (∀ u : Int, 0 ≤ u → u < (n : Int) → (f u = -1 ↔ f' u = -1)) → pc f n = pc f' n
  | 0, _ => rfl
  | n + 1, h => by
    unfold pc
    rw [pc_congr n (fun u u0 u1 => h u u0 (by omega))]
    have := h (n : Int) (by omega) (by omega)
    by_cases c : f (n : Int) = -1
    · rw [if_pos c, if_pos (this.mp c)]
    · rw [if_neg c, if_neg (fun z => c (this.mpr z))]
theorem pc_rng (f : Int → Int) : ∀ n : Nat, 0 ≤ pc f n ∧ pc f n ≤ (n : Int)
  | 0 => ⟨Int.le_refl 0, Int.le_refl 0⟩
  | n + 1 => by
    have h := pc_rng f n
    unfold pc
    split <;> omega
theorem pc_kill1 {f : Int → Int} {d : Int} (d0 : 0 ≤ d) (hd : f d ≠ -1) : ∀ n : Nat, d < (n : Int) → pc (zup f d (-1)) n = pc f n - 1
  | 0, h => by omega
  | n + 1, h => by
    unfold pc
    by_cases c : d = (n : Int)
    · rw [c, zup_s, if_pos rfl, if_neg (by rw [← c]; exact hd), pc_congr (f := zup f (n : Int) (-1)) (f' := f) n (fun u u0 u1 => by rw [zup_n _ _ (show u ≠ (n : Int) by omega)])]
      omega
    · rw [pc_kill1 d0 hd n (by omega), zup_n _ _ (show (n : Int) ≠ d by omega)]
      omega
theorem pc_kill : ∀ (D : List Int) (f : Int → Int) (n : Nat), D.Nodup → (∀ u ∈ D, 0 ≤ u ∧ u < (n : Int) ∧ f u ≠ -1) → pc (fun u => if u ∈ D then -1 else f u) n = pc f n - (D.length : Int)
  | [], f, n, _, _ => by
    have e : (fun u => if u ∈ ([] : List Int) then -1 else f u) = f := funext fun u => if_neg List.not_mem_nil
    rw [e]
    simp only [List.length_nil]
    omega
  | d :: D, f, n, hn, h => by
    have hd := h d List.mem_cons_self
    have hn2 := List.nodup_cons.mp hn
    have e : pc (fun u => if u ∈ d :: D then -1 else f u) n = pc (fun u => if u ∈ D then -1 else zup f d (-1) u) n := pc_congr n (fun u _ _ => by
      show (if u ∈ d :: D then -1 else f u) = -1 ↔ (if u ∈ D then -1 else zup f d (-1) u) = -1
      by_cases c : u ∈ D
      · rw [if_pos c, if_pos (List.mem_cons_of_mem _ c)]
      · rw [if_neg c]
        by_cases c2 : u = d
        · rw [c2, if_pos List.mem_cons_self, zup_s]
        · rw [if_neg (fun z => by rcases List.mem_cons.mp z with y | y; exact c2 y; exact c y), zup_n _ _ c2])
    rw [e, pc_kill D (zup f d (-1)) n hn2.2 (fun u hu => by
      have h2 := h u (List.mem_cons_of_mem _ hu)
      have c2 : u ≠ d := fun z => hn2.1 (z ▸ hu)
      rw [zup_n _ _ c2]
      exact h2), pc_kill1 hd.1 hd.2.2 n hd.2.1]
    simp only [List.length_cons]
    omega
/-- all members of the owners ahead of n -/
def smc (ow : Int → Int) (L : List Int) : Nat → Int
  | 0 => 0
  | n + 1 => smc ow L n + ((mOf ow (n : Int) L).length : Int)
theorem filt_split (L : List Int) (p q : Int → Bool) (h : ∀ u ∈ L, ¬ (p u = true ∧ q u = true)) : (L.filter (fun u => p u || q u)).length = (L.filter p).length + (L.filter q).length := by
  induction L with
  | nil => rfl
  | cons a L ih =>
    have h1 := h a List.mem_cons_self
    have h2 := ih (fun u hu => h u (List.mem_cons_of_mem _ hu))
    simp only [List.filter_cons]
    cases hp : p a <;> cases hq : q a <;> simp_all <;> omega
theorem smc_eq (ow : Int → Int) (L : List Int) : ∀ n : Nat, smc ow L n = ((L.filter (fun u => decide (0 ≤ ow u ∧ ow u < (n : Int)))).length : Int)
  | 0 => by
    have : L.filter (fun u => decide (0 ≤ ow u ∧ ow u < ((0 : Nat) : Int))) = [] := List.filter_eq_nil_iff.mpr fun u _ => by
      rw [decide_eq_true_eq]; omega
    rw [this]; rfl
  | n + 1 => by
    unfold smc
    rw [smc_eq ow L n]
    have e : L.filter (fun u => decide (0 ≤ ow u ∧ ow u < ((n + 1 : Nat) : Int))) = L.filter (fun u => decide (0 ≤ ow u ∧ ow u < (n : Int)) || decide (ow u = (n : Int))) := List.filter_congr fun u _ => by
      rw [Bool.eq_iff_iff, Bool.or_eq_true, decide_eq_true_eq, decide_eq_true_eq, decide_eq_true_eq]
      omega
    rw [e, filt_split L _ _ (fun u _ => by rw [decide_eq_true_eq, decide_eq_true_eq]; omega)]
    unfold mOf
    omega
theorem smc_all {ow : Int → Int} {L : List Int} {n : Nat} (h : ∀ u ∈ L, 0 ≤ ow u ∧ ow u < (n : Int)) : smc ow L n = (L.length : Int) := by
  rw [smc_eq, List.filter_eq_self.mpr fun u hu => by rw [decide_eq_true_eq]; exact h u hu]
/-- how many of the first n have an owner -/
def ocn (ow : Int → Int) (n : Nat) : Int := tcnt (fun u => if 0 ≤ ow u then 1 else 0) 1 n
theorem ocn_s (ow : Int → Int) (n : Nat) : ocn ow (n + 1) = ocn ow n + (if 0 ≤ ow (n : Int) then 1 else 0) := by
  unfold ocn
  show tcnt _ 1 n + _ = _
  by_cases c : 0 ≤ ow (n : Int)
  · simp [c]
  · simp [c]
theorem ocn_all {ow : Int → Int} {L : List Int} {n : Nat} (hn : L.Nodup) (h : ∀ u : Int, u ∈ L ↔ 0 ≤ u ∧ u < (n : Int) ∧ 0 ≤ ow u) : ocn ow n = (L.length : Int) := by
  refine tcnt_list _ _ n L hn (fun u => ?_)
  rw [h u]
  by_cases c : 0 ≤ ow u
  · rw [if_pos c]; exact ⟨fun z => ⟨z.1, z.2.1, rfl⟩, fun z => ⟨z.1, z.2.1, c⟩⟩
  · rw [if_neg c]; exact ⟨fun z => absurd z.2.2 c, fun z => absurd z.2.2 (by decide)⟩
/-- the place of a record in a row, or -1 -/
def ixO (M : List Int) (r v : Int) : Prop := (v = -1 ∧ r ∉ M) ∨ (0 ≤ v ∧ v < (M.length : Int) ∧ zat M v = r)
theorem ixO_in {M : List Int} {r v : Int} (hn : M.Nodup) (h : ixO M r v) {j : Int} (j0 : 0 ≤ j) (j1 : j < (M.length : Int)) (hj : zat M j = r) : v = j := by
  rcases h with ⟨-, h⟩ | ⟨v0, v1, h⟩
  · exact absurd (hj ▸ zat_mem j0 j1) h
  · exact zat_inj hn ⟨v0, v1⟩ ⟨j0, j1⟩ (by rw [h, hj])
theorem ixO_no {M : List Int} {r v : Int} (h : ixO M r v) (hr : r ∉ M) : v = -1 := by
  rcases h with ⟨h, -⟩ | ⟨v0, v1, h⟩
  · exact h
  · exact absurd (h ▸ zat_mem v0 v1) hr
theorem ixO_rng {M : List Int} {r v : Int} (h : ixO M r v) : -1 ≤ v ∧ v < (M.length : Int) := by
  rcases h with ⟨h, -⟩ | ⟨v0, v1, h⟩ <;> omega
theorem ixO_del {M : List Int} {r x a m : Int} (hn : M.Nodup) (ha : ixO M x a) (hm : ixO M r m) (hr : r ∈ M) : ixO (zdel M r) x (if x = r then -1 else if m < a then a - 1 else a) := by
  by_cases c : x = r
  · rw [if_pos c, c]
    exact Or.inl ⟨rfl, fun z => (zdel_mem.mp z).2 rfl⟩
  rw [if_neg c]
  obtain ⟨p, p0, p1, hp⟩ := zat_of_mem hr
  have hmp := ixO_in hn hm p0 p1 hp
  subst hmp
  obtain ⟨hl, hz⟩ := zdel_at hn p0 p1 hp
  rcases ha with ⟨h, h2⟩ | ⟨v0, v1, h⟩
  · rw [if_neg (by omega)]
    exact Or.inl ⟨h, fun z => h2 (zdel_mem.mp z).1⟩
  · have hne : a ≠ m := fun e => c (by rw [← h, e, hp])
    right
    by_cases c2 : m < a
    · rw [if_pos c2, hz _ (by omega), if_neg (by omega)]
      refine ⟨by omega, by omega, ?_⟩
      rw [← h]; congr 1; omega
    · rw [if_neg c2, hz _ v0, if_pos (by omega)]
      exact ⟨v0, by omega, h⟩
/-- where a new member stands -/
def plO (V : Int → Int) (way n a : Int) (M : List Int) (r j : Int) : Prop := (0 ≤ j ∧ j ≤ n) ∧ (M.length : Int) = n + 1 ∧ zat M j = r ∧ (way = 0 → j = 0) ∧ (way = 1 → j = n) ∧ (way = 2 → j = a + 1) ∧ (way = 3 → j = if a < 0 then n else a) ∧ (way = 4 → (j = 0 ∨ V (zat M (j - 1)) ≤ V r) ∧ (j = n ∨ V r < V (zat M (j + 1))))
theorem fPl_plO {P8 ins : Int} {V ow : Int → Int} {r o : Int} {L : List Int} {j a : Int} (hn : (mOf ow o L).Nodup) (h0 : ∀ u ∈ mOf ow o L, 0 ≤ u) (hj : 0 ≤ j ∧ j ≤ ((mOf ow o L).length : Int)) (hf : fPl P8 ins V ow r o L j) (ha : ixO (mOf ow o L) P8 a) : plO V ins ((mOf ow o L).length : Int) a (zinsl (mOf ow o L) j r) r j := by
  obtain ⟨f0, f1, f2, f4⟩ := hf
  have hc : (ow P8 = o ∧ P8 ≠ -1 ∧ 0 ≤ a) ∨ (¬ (ow P8 = o ∧ P8 ≠ -1) ∧ a = -1) ∨ ¬ (ins = 2 ∨ ins = 3) := by
    by_cases c : ins = 2 ∨ ins = 3
    · by_cases c2 : ow P8 = o ∧ P8 ≠ -1
      · obtain ⟨q, q0, q1, q2, -⟩ := (f2 c).1 c2
        have := ixO_in hn ha q0 q1 q2
        exact Or.inl ⟨c2.1, c2.2, by omega⟩
      · refine Or.inr (Or.inl ⟨c2, ixO_no ha (fun z => c2 ⟨(mOf_mem.mp z).2, ?_⟩)⟩)
        have := h0 _ z
        omega
    · exact Or.inr (Or.inr c)
  refine ⟨hj, by rw [zinsl_len]; omega, by rw [zinsl_at hj.1 hj.2 hj.1, if_neg (by omega), if_pos rfl], f0, f1, fun c => ?_, fun c => ?_, fun c => ?_⟩
  · rcases hc with ⟨c1, c2, c3⟩ | ⟨c1, c2⟩ | c1
    · obtain ⟨q, q0, q1, q2, q3⟩ := (f2 (Or.inl c)).1 ⟨c1, c2⟩
      rw [if_pos c] at q3
      have := ixO_in hn ha q0 q1 q2
      omega
    · have := (f2 (Or.inl c)).2 c1
      rw [if_pos c] at this
      omega
    · exact absurd (Or.inl c) c1
  · rcases hc with ⟨c1, c2, c3⟩ | ⟨c1, c2⟩ | c1
    · obtain ⟨q, q0, q1, q2, q3⟩ := (f2 (Or.inr c)).1 ⟨c1, c2⟩
      rw [if_neg (by omega)] at q3
      have := ixO_in hn ha q0 q1 q2
      rw [if_neg (by omega)]
      omega
    · have := (f2 (Or.inr c)).2 c1
      rw [if_neg (by omega)] at this
      rw [if_pos (by omega)]
      exact this
    · exact absurd (Or.inr c) c1
  · obtain ⟨x1, x2, x3⟩ := f4 c
    constructor
    · by_cases c2 : j = 0
      · exact Or.inl c2
      · right
        rw [zinsl_at hj.1 hj.2 (by omega), if_pos (by omega)]
        have := x2 (j - 1) (by omega) (by omega)
        omega
    · by_cases c2 : j = ((mOf ow o L).length : Int)
      · exact Or.inl c2
      · right
        rw [zinsl_at hj.1 hj.2 (by omega), if_neg (by omega), if_neg (by omega), show j + 1 - 1 = j by omega]
        exact x3 (by omega)
