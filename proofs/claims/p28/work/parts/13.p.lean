/-! pure: rows as lists, the model's invariants -/
def Gset (G : Nat → Int → Int) (k : Nat) (f : Int → Int) : Nat → Int → Int := fun j => if j = k then f else G j
theorem Gset_s (G : Nat → Int → Int) (k : Nat) (f : Int → Int) : Gset G k f k = f := if_pos rfl
theorem Gset_n (G : Nat → Int → Int) {k j : Nat} (f : Int → Int) (h : j ≠ k) : Gset G k f j = G j := if_neg h
theorem Gup_eq (G : Nat → Int → Int) (k : Nat) (i v : Int) : Gup G k i v = Gset G k (zup (G k) i v) := rfl
theorem Gset_Gset (G : Nat → Int → Int) (k : Nat) (f f' : Int → Int) : Gset (Gset G k f) k f' = Gset G k f' := by
  funext j
  by_cases h : j = k
  · simp [Gset, h]
  · simp [Gset, h]
theorem Gset_id (G : Nat → Int → Int) (k : Nat) : Gset G k (G k) = G := by
  funext j
  by_cases h : j = k
  · simp [Gset, h]
  · simp [Gset, h]
theorem Fup_Fup (F : Nat → Int) (k : Nat) (u v : Int) : Fup (Fup F k u) k v = Fup F k v := by
  funext j
  by_cases h : j = k
  · simp [Fup, h]
  · simp [Fup, h]
theorem zup_zup (f : Int → Int) (i u v : Int) : zup (zup f i u) i v = zup f i v := by
  funext j
  by_cases h : j = i
  · simp [zup, h]
  · simp [zup, h]
theorem zup_id (f : Int → Int) (i : Int) : zup f i (f i) = f := by
  funext j
  by_cases h : j = i
  · simp [zup, h]
  · simp [zup, h]
def Lup (L : Int → List Int) (s : Int) (l : List Int) : Int → List Int := fun t => if t = s then l else L t
theorem Lup_s (L : Int → List Int) (s : Int) (l : List Int) : Lup L s l s = l := if_pos rfl
theorem Lup_n (L : Int → List Int) {s t : Int} (l : List Int) (h : t ≠ s) : Lup L s l t = L t := if_neg h
/-- the place k of a list -/
def zat (l : List Int) (k : Int) : Int := l.getD k.toNat (-1)
theorem zat_nat (l : List Int) (k : Nat) : zat l (k : Int) = l.getD k (-1) := by rw [zat, Int.toNat_natCast]
theorem zat_lt {l : List Int} {k : Int} (h0 : 0 ≤ k) (h1 : k < (l.length : Int)) : l[k.toNat]? = some (zat l k) := by
  have h : k.toNat < l.length := by omega
  rw [zat, List.getD_eq_getElem?_getD, List.getElem?_eq_getElem h]
  rfl
theorem zat_mem {l : List Int} {k : Int} (h0 : 0 ≤ k) (h1 : k < (l.length : Int)) : zat l k ∈ l := List.mem_of_getElem? (zat_lt h0 h1)
theorem zat_of_mem {l : List Int} {r : Int} (h : r ∈ l) : ∃ k : Int, 0 ≤ k ∧ k < (l.length : Int) ∧ zat l k = r := by
  obtain ⟨i, hi⟩ := List.getElem?_of_mem h
  have hl : i < l.length := (List.getElem?_eq_some_iff.mp hi).1
  exact ⟨(i : Int), by omega, by omega, by rw [zat_nat, List.getD_eq_getElem?_getD, hi]; rfl⟩
theorem zat_inj {l : List Int} (h : l.Nodup) {i j : Int} (hi : 0 ≤ i ∧ i < (l.length : Int)) (hj : 0 ≤ j ∧ j < (l.length : Int)) (e : zat l i = zat l j) : i = j := by
  have h1 := zat_lt hi.1 hi.2
  have h2 := zat_lt hj.1 hj.2
  rw [e, ← h2] at h1
  have := (List.getElem?_inj (by omega) h).mp h1
  omega
theorem zat_ext {l l' : List Int} (hl : l.length = l'.length) (h : ∀ k : Int, 0 ≤ k → k < (l.length : Int) → zat l k = zat l' k) : l = l' := by
  apply List.ext_getElem? 
  intro i
  rcases Nat.lt_or_ge i l.length with q | q
  · have h1 := zat_lt (l := l) (k := (i : Int)) (by omega) (by omega)
    have h2 := zat_lt (l := l') (k := (i : Int)) (by omega) (by omega)
    rw [Int.toNat_natCast] at h1 h2
    rw [h1, h2, h i (by omega) (by omega)]
  · rw [List.getElem?_eq_none q, List.getElem?_eq_none (by omega)]
/-- different ints under n are n at most -/
theorem nodup_len : ∀ (n : Nat) (l : List Int), l.Nodup → (∀ r ∈ l, 0 ≤ r ∧ r < (n : Int)) → l.length ≤ n
  | 0, l, _, h => by
    cases l with
    | nil => exact Nat.le_refl 0
    | cons a l => have := h a List.mem_cons_self; omega
  | n + 1, l, hn, h => by
    have h1 := nodup_len n (l.erase (n : Int)) (hn.erase _) (fun r hr => by
      have h2 := h r (List.mem_of_mem_erase hr)
      have h3 : r ≠ (n : Int) := fun e => by subst e; exact (hn.not_mem_erase) hr
      omega)
    rw [List.length_erase] at h1
    split at h1 <;> omega
/-- the list with r put at place p -/
def zinsl (l : List Int) (p : Int) (r : Int) : List Int := l.take p.toNat ++ r :: l.drop p.toNat
theorem zinsl_len {l : List Int} {p r : Int} : (zinsl l p r).length = l.length + 1 := by
  simp only [zinsl, List.length_append, List.length_take, List.length_cons, List.length_drop]
  omega
theorem zinsl_at {l : List Int} {p r k : Int} (h0 : 0 ≤ p) (h1 : p ≤ (l.length : Int)) (hk : 0 ≤ k) : zat (zinsl l p r) k = if k < p then zat l k else if k = p then r else zat l (k - 1) := by
  have hp : p.toNat ≤ l.length := by omega
  unfold zat zinsl
  rw [List.getD_eq_getElem?_getD, List.getElem?_append, List.length_take, Nat.min_eq_left hp]
  by_cases c : k < p
  · rw [if_pos (by omega), if_pos c, List.getElem?_take, if_pos (by omega), ← List.getD_eq_getElem?_getD]
  · rw [if_neg (by omega), if_neg c]
    by_cases c2 : k = p
    · subst c2
      rw [if_pos rfl, Nat.sub_self]
      rfl
    · rw [if_neg c2]
      obtain ⟨j, hj⟩ : ∃ j : Nat, k.toNat - p.toNat = j + 1 := ⟨k.toNat - p.toNat - 1, by omega⟩
      rw [hj, List.getElem?_cons_succ, List.getElem?_drop, show p.toNat + j = (k - 1).toNat by omega, ← List.getD_eq_getElem?_getD]
theorem zinsl_mem {l : List Int} {p r q : Int} : q ∈ zinsl l p r ↔ q = r ∨ q ∈ l := by
  unfold zinsl
  rw [List.mem_append, List.mem_cons]
  conv => rhs; rw [← List.take_append_drop p.toNat l, List.mem_append]
  constructor
  · rintro (h | h | h)
    · exact Or.inr (Or.inl h)
    · exact Or.inl h
    · exact Or.inr (Or.inr h)
  · rintro (h | h | h)
    · exact Or.inr (Or.inl h)
    · exact Or.inl h
    · exact Or.inr (Or.inr h)
theorem zinsl_nodup {l : List Int} {p r : Int} (h : l.Nodup) (hr : r ∉ l) : (zinsl l p r).Nodup := by
  have e : l = l.take p.toNat ++ l.drop p.toNat := (List.take_append_drop _ _).symm
  unfold zinsl
  rw [e] at h hr
  rw [List.nodup_append] at h ⊢
  rw [List.mem_append] at hr
  refine ⟨h.1, List.nodup_cons.mpr ⟨fun q => hr (Or.inr q), h.2.1⟩, fun a ha b hb => ?_⟩
  rcases List.mem_cons.mp hb with rfl | hb
  · exact fun q => hr (Or.inl (q ▸ ha))
  · exact h.2.2 a ha b hb
/-- the list without r -/
def zdel (l : List Int) (r : Int) : List Int := l.filter (fun q => decide (q ≠ r))
theorem zdel_mem {l : List Int} {r q : Int} : q ∈ zdel l r ↔ q ∈ l ∧ q ≠ r := by
  unfold zdel
  rw [List.mem_filter, decide_eq_true_eq]
theorem zdel_nodup {l : List Int} {r : Int} (h : l.Nodup) : (zdel l r).Nodup := h.filter _
theorem zdel_none {l : List Int} {r : Int} (h : r ∉ l) : zdel l r = l := by
  unfold zdel
  rw [List.filter_eq_self]
  intro a ha
  rw [decide_eq_true_eq]
  exact fun e => h (e ▸ ha)
theorem zdel_at {l : List Int} {p r : Int} (h : l.Nodup) (h0 : 0 ≤ p) (h1 : p < (l.length : Int)) (hp : zat l p = r) : (zdel l r).length + 1 = l.length ∧ ∀ k : Int, 0 ≤ k → zat (zdel l r) k = if k < p then zat l k else zat l (k + 1) := by
  have hl : p.toNat < l.length := by omega
  have hget := zat_lt h0 h1
  rw [hp] at hget
  have e : zdel l r = l.eraseIdx p.toNat := by
    have e1 : l = l.take p.toNat ++ r :: l.drop (p.toNat + 1) := by
      have h2 := (List.getElem?_eq_some_iff.mp hget).2
      conv => lhs; rw [← List.take_append_drop p.toNat l, List.drop_eq_getElem_cons hl, h2]
    rw [List.eraseIdx_eq_take_drop_succ]
    have hn := h
    rw [e1, List.nodup_append] at hn
    obtain ⟨-, n2, n3⟩ := hn
    have n4 := (List.nodup_cons.mp n2).1
    conv => lhs; rw [e1]
    unfold zdel
    rw [List.filter_append, List.filter_cons_of_neg (by simp)]
    congr 1
    · rw [List.filter_eq_self]
      intro a ha
      rw [decide_eq_true_eq]
      exact n3 a ha r List.mem_cons_self
    · rw [List.filter_eq_self]
      intro a ha
      rw [decide_eq_true_eq]
      exact fun q => n4 (q ▸ ha)
  rw [e]
  refine ⟨by rw [List.length_eraseIdx, if_pos hl]; omega, fun k hk => ?_⟩
  unfold zat
  rw [List.getD_eq_getElem?_getD, List.getElem?_eraseIdx]
  by_cases c : k < p
  · rw [if_pos (by omega), if_pos c, ← List.getD_eq_getElem?_getD]
  · rw [if_neg (by omega), if_neg c, show k.toNat + 1 = (k + 1).toNat by omega, ← List.getD_eq_getElem?_getD]
/-! the invariants: F 0 set types, F 6 stored; G 1 owner types, 2 member types, 3 insertions, 4 automatic, 5 retentions, 8 there, 9 types, 10 values, 11 owners, 12 how many in the row, 13 the row; Rw the rows as lists -/
def sDecl (F : Nat → Int) (G : Nat → Int → Int) : Prop := ∀ s : Int, 0 ≤ s → s < F 0 → (0 ≤ G 1 s ∧ G 1 s ≤ 3) ∧ (0 ≤ G 2 s ∧ G 2 s ≤ 3) ∧ G 1 s ≠ G 2 s ∧ (0 ≤ G 3 s ∧ G 3 s ≤ 4) ∧ (G 4 s = 0 ∨ G 4 s = 1) ∧ (0 ≤ G 5 s ∧ G 5 s ≤ 2)
def sRec (F : Nat → Int) (G : Nat → Int → Int) : Prop := ∀ r : Int, 0 ≤ r → r < F 6 → (0 ≤ G 9 r ∧ G 9 r ≤ 3) ∧ (-1000 ≤ G 10 r ∧ G 10 r ≤ 1000) ∧ (G 8 r = 0 ∨ G 8 r = 1)
def sOwn (F : Nat → Int) (G : Nat → Int → Int) : Prop := ∀ s r : Int, 0 ≤ s → s < 6 → 0 ≤ r → r < 60 → G 11 (60 * s + r) = -1 ∨ (0 ≤ G 11 (60 * s + r) ∧ G 11 (60 * s + r) < F 6 ∧ s < F 0 ∧ r < F 6 ∧ G 8 r = 1 ∧ G 9 r = G 2 s ∧ G 8 (G 11 (60 * s + r)) = 1 ∧ G 9 (G 11 (60 * s + r)) = G 1 s)
def sRow (G : Nat → Int → Int) (Rw : Int → List Int) : Prop := ∀ s : Int, 0 ≤ s → s < 6 → G 12 s = ((Rw s).length : Int) ∧ (∀ k : Int, 0 ≤ k → k < G 12 s → G 13 (60 * s + k) = zat (Rw s) k) ∧ (Rw s).Nodup ∧ ∀ r : Int, r ∈ Rw s ↔ 0 ≤ r ∧ r < 60 ∧ G 11 (60 * s + r) ≠ -1
def mS (F : Nat → Int) (G : Nat → Int → Int) (Rw : Int → List Int) : Prop := (0 ≤ F 0 ∧ F 0 ≤ 6) ∧ (0 ≤ F 6 ∧ F 6 ≤ 60) ∧ sDecl F G ∧ sRec F G ∧ sOwn F G ∧ sRow G Rw
theorem mS_len {F : Nat → Int} {G : Nat → Int → Int} {Rw : Int → List Int} (h : mS F G Rw) {s : Int} (h0 : 0 ≤ s) (h1 : s < 6) : 0 ≤ G 12 s ∧ G 12 s ≤ F 6 ∧ ∀ r ∈ Rw s, 0 ≤ r ∧ r < F 6 := by
  obtain ⟨-, q, -, -, ho, hr⟩ := h
  obtain ⟨e, -, hn, hm⟩ := hr s h0 h1
  have hb : ∀ r ∈ Rw s, 0 ≤ r ∧ r < F 6 := fun r hr => by
    obtain ⟨a, b, c⟩ := (hm r).mp hr
    rcases ho s r h0 h1 a b with d | d
    · exact absurd d c
    · omega
  have := nodup_len (F 6).toNat (Rw s) hn (fun r hr => by have := hb r hr; omega)
  exact ⟨by omega, by omega, hb⟩
/-- what stands at a place of a row -/
theorem mS_at {F : Nat → Int} {G : Nat → Int → Int} {Rw : Int → List Int} (h : mS F G Rw) {s : Int} (h0 : 0 ≤ s) (h1 : s < 6) {k : Int} (k0 : 0 ≤ k) (k1 : k < G 12 s) : G 13 (60 * s + k) = zat (Rw s) k ∧ zat (Rw s) k ∈ Rw s ∧ 0 ≤ zat (Rw s) k ∧ zat (Rw s) k < F 6 ∧ k < ((Rw s).length : Int) := by
  have hl := mS_len h h0 h1
  obtain ⟨-, q, -, -, ho, hr⟩ := h
  obtain ⟨e, hk, hn, hm⟩ := hr s h0 h1
  have hmem := zat_mem (l := Rw s) k0 (by omega)
  exact ⟨hk k k0 k1, hmem, (hl.2.2 _ hmem).1, (hl.2.2 _ hmem).2, by omega⟩
theorem take_step {l : List Int} {k : Int} (h0 : 0 ≤ k) (h1 : k < (l.length : Int)) (f : Int → Bool) : (l.take (k + 1).toNat).filter f = (l.take k.toNat).filter f ++ if f (zat l k) = true then [zat l k] else [] := by
  rw [show (k + 1).toNat = k.toNat + 1 by omega, List.take_add_one, zat_lt h0 h1, List.filter_append]
  congr 1
  show List.filter f [zat l k] = _
  rw [List.filter_cons]
  rfl
theorem filter_at {l : List Int} {k : Int} (h0 : 0 ≤ k) (h1 : k < (l.length : Int)) {f : Int → Bool} (hf : f (zat l k) = true) : zat (l.filter f) (((l.take k.toNat).filter f).length : Int) = zat l k := by
  have hl : k.toNat < l.length := by omega
  have hg := zat_lt h0 h1
  have e : l = l.take k.toNat ++ zat l k :: l.drop (k.toNat + 1) := by
    have h2 := (List.getElem?_eq_some_iff.mp hg).2
    conv => lhs; rw [← List.take_append_drop k.toNat l, List.drop_eq_getElem_cons hl, h2]
  have e2 : l.filter f = (l.take k.toNat).filter f ++ zat l k :: (l.drop (k.toNat + 1)).filter f := by
    conv => lhs; rw [e]
    rw [List.filter_append, List.filter_cons_of_pos hf]
  generalize zat l k = v at e2 ⊢
  rw [e2, zat_nat, List.getD_eq_getElem?_getD, List.getElem?_append_right (Nat.le_refl _), Nat.sub_self]
  rfl
theorem take_all {l : List Int} {k : Int} (h : (l.length : Int) ≤ k) : l.take k.toNat = l := List.take_of_length_le (by omega)
theorem zat_ge {l : List Int} {k : Int} (h : (l.length : Int) ≤ k) : zat l k = -1 := by
  rw [zat, List.getD_eq_getElem?_getD, List.getElem?_eq_none (by omega)]
  rfl
/-- the members of an owner, in their order -/
def zmem (G : Nat → Int → Int) (s o : Int) (l : List Int) : List Int := l.filter (fun r => decide (G 11 (60 * s + r) = o))
/-- where a record comes in the row -/
def nPl (G : Nat → Int → Int) (s r o : Int) (l : List Int) (p : Int) : Prop :=
  (G 3 s = 4 → (0 ≤ p ∧ p ≤ (l.length : Int)) ∧ (∀ j : Int, 0 ≤ j → j < p → ¬ (G 11 (60 * s + zat l j) = o ∧ G 10 r < G 10 (zat l j))) ∧ (p < (l.length : Int) → G 11 (60 * s + zat l p) = o ∧ G 10 r < G 10 (zat l p))) ∧
  (G 3 s ≠ 4 → (G 16 s ≠ -1 ∧ G 11 (60 * s + G 16 s) = o) ∧ 2 ≤ G 3 s → ∃ q : Int, 0 ≤ q ∧ q < (l.length : Int) ∧ zat l q = G 16 s ∧ p = q + (if G 3 s = 2 then 1 else 0)) ∧
  (G 3 s ≠ 4 → ¬ ((G 16 s ≠ -1 ∧ G 11 (60 * s + G 16 s) = o) ∧ 2 ≤ G 3 s) → p = if G 3 s = 0 ∨ G 3 s = 2 then 0 else (l.length : Int))
theorem nPl_rng {G : Nat → Int → Int} {s r o p : Int} {l : List Int} (h : nPl G s r o l p) : 0 ≤ p ∧ p ≤ (l.length : Int) := by
  obtain ⟨h1, h2, h3⟩ := h
  by_cases c : G 3 s = 4
  · exact (h1 c).1
  · by_cases c2 : (G 16 s ≠ -1 ∧ G 11 (60 * s + G 16 s) = o) ∧ 2 ≤ G 3 s
    · obtain ⟨q, a, b, -, e⟩ := h2 c c2
      split at e <;> omega
    · have e := h3 c c2
      split at e <;> omega
/-- out of a row -/
theorem mS_out {F : Nat → Int} {G G' : Nat → Int → Int} {Rw : Int → List Int} (h : mS F G Rw) {s r p : Int} (s0 : 0 ≤ s) (s1 : s < 6) (r0 : 0 ≤ r) (r1 : r < 60) (p0 : 0 ≤ p) (p1 : p < G 12 s) (hp : zat (Rw s) p = r)
    (e12 : G' 12 = zup (G 12) s (G 12 s - 1)) (e13 : ∀ j : Int, G' 13 j = if 60 * s + p ≤ j ∧ j < 60 * s + G 12 s - 1 then G 13 (j + 1) else G 13 j) (e11 : G' 11 = zup (G 11) (60 * s + r) (-1)) (ek : ∀ k : Nat, k ≠ 11 → k ≠ 12 → k ≠ 13 → G' k = G k) :
    mS F G' (Lup Rw s (zdel (Rw s) r)) := by
  have hlen := mS_len h s0 s1
  obtain ⟨q1, q2, hd, hr, ho, hw⟩ := h
  refine ⟨q1, q2, ?_, ?_, ?_, ?_⟩
  · intro t t0 t1
    rw [ek 1 (by decide) (by decide) (by decide), ek 2 (by decide) (by decide) (by decide), ek 3 (by decide) (by decide) (by decide), ek 4 (by decide) (by decide) (by decide), ek 5 (by decide) (by decide) (by decide)]
    exact hd t t0 t1
  · intro t t0 t1
    rw [ek 8 (by decide) (by decide) (by decide), ek 9 (by decide) (by decide) (by decide), ek 10 (by decide) (by decide) (by decide)]
    exact hr t t0 t1
  · intro t u t0 t1 u0 u1
    rw [ek 8 (by decide) (by decide) (by decide), ek 9 (by decide) (by decide) (by decide), ek 1 (by decide) (by decide) (by decide), ek 2 (by decide) (by decide) (by decide), e11]
    by_cases c : 60 * t + u = 60 * s + r
    · left; rw [c, zup_s]
    · rw [zup_n _ _ c]
      exact ho t u t0 t1 u0 u1
  · intro t t0 t1
    obtain ⟨a1, a2, a3, a4⟩ := hw t t0 t1
    by_cases c : t = s
    · subst c
      obtain ⟨b1, b2⟩ := zdel_at a3 p0 (by omega) hp
      rw [e12, zup_s, Lup_s]
      refine ⟨by omega, fun k k0 k1 => ?_, zdel_nodup a3, fun u => ?_⟩
      · rw [e13, b2 k k0]
        by_cases c2 : k < p
        · rw [if_neg (by omega), if_pos c2]
          exact a2 k k0 (by omega)
        · rw [if_pos (by omega), if_neg c2, show 60 * t + k + 1 = 60 * t + (k + 1) by omega]
          exact a2 (k + 1) (by omega) (by omega)
      · rw [zdel_mem, a4 u, e11]
        by_cases c3 : u = r
        · subst c3
          rw [zup_s]
          simp
        · rw [zup_n _ _ (by omega)]
          simp [c3]
    · rw [e12, zup_n _ _ c, Lup_n _ _ c]
      refine ⟨a1, fun k k0 k1 => ?_, a3, fun u => ?_⟩
      · have hlt := mS_len (F := F) (G := G) (Rw := Rw) ⟨q1, q2, hd, hr, ho, hw⟩ t0 t1
        rw [e13, if_neg (by omega)]
        exact a2 k k0 k1
      · rw [a4 u, e11]
        by_cases c3 : 0 ≤ u ∧ u < 60
        · rw [zup_n _ _ (by omega)]
        · constructor <;> (intro z; exact absurd ⟨z.1, z.2.1⟩ c3)
/-- into a row -/
theorem mS_ins {F : Nat → Int} {G G' : Nat → Int → Int} {Rw : Int → List Int} (h : mS F G Rw) {s r o p : Int} (s0 : 0 ≤ s) (s1 : s < F 0) (r0 : 0 ≤ r) (r1 : r < F 6) (hr0 : G 11 (60 * s + r) = -1) (g8 : G 8 r = 1) (g9 : G 9 r = G 2 s) (o0 : 0 ≤ o) (o1 : o < F 6) (o8 : G 8 o = 1) (o9 : G 9 o = G 1 s) (p0 : 0 ≤ p) (p1 : p ≤ ((Rw s).length : Int))
    (e12 : G' 12 = zup (G 12) s (G 12 s + 1)) (e13 : ∀ j : Int, G' 13 j = if j = 60 * s + p then r else if 60 * s + p < j ∧ j ≤ 60 * s + G 12 s then G 13 (j - 1) else G 13 j) (e11 : G' 11 = zup (G 11) (60 * s + r) o) (ek : ∀ k : Nat, k ≠ 11 → k ≠ 12 → k ≠ 13 → G' k = G k) :
    mS F G' (Lup Rw s (zinsl (Rw s) p r)) ∧ G 12 s < 60 := by
  obtain ⟨q1, q2, hd, hr, ho, hw⟩ := id h
  have hlen := mS_len h s0 (by omega)
  have hnm : r ∉ Rw s := fun z => by
    have := ((hw s s0 (by omega)).2.2.2 r).mp z
    exact this.2.2 hr0
  have h60 : G 12 s < 60 := by
    have := nodup_len (F 6).toNat (zinsl (Rw s) p r) (zinsl_nodup (hw s s0 (by omega)).2.2.1 hnm) (fun u hu => by
      rcases zinsl_mem.mp hu with rfl | hu
      · omega
      · have := hlen.2.2 u hu; omega)
    rw [zinsl_len] at this
    have := (hw s s0 (by omega)).1
    omega
  refine ⟨⟨q1, q2, ?_, ?_, ?_, ?_⟩, h60⟩
  · intro t t0 t1
    rw [ek 1 (by decide) (by decide) (by decide), ek 2 (by decide) (by decide) (by decide), ek 3 (by decide) (by decide) (by decide), ek 4 (by decide) (by decide) (by decide), ek 5 (by decide) (by decide) (by decide)]
    exact hd t t0 t1
  · intro t t0 t1
    rw [ek 8 (by decide) (by decide) (by decide), ek 9 (by decide) (by decide) (by decide), ek 10 (by decide) (by decide) (by decide)]
    exact hr t t0 t1
  · intro t u t0 t1 u0 u1
    rw [ek 8 (by decide) (by decide) (by decide), ek 9 (by decide) (by decide) (by decide), ek 1 (by decide) (by decide) (by decide), ek 2 (by decide) (by decide) (by decide), e11]
    by_cases c : 60 * t + u = 60 * s + r
    · have : t = s := by omega
      subst this
      have : u = r := by omega
      subst this
      right
      rw [zup_s]
      exact ⟨o0, o1, s1, r1, g8, g9, o8, o9⟩
    · rw [zup_n _ _ c]
      exact ho t u t0 t1 u0 u1
  · intro t t0 t1
    obtain ⟨a1, a2, a3, a4⟩ := hw t t0 t1
    by_cases c : t = s
    · subst c
      rw [e12, zup_s, Lup_s]
      refine ⟨by rw [zinsl_len]; omega, fun k k0 k1 => ?_, zinsl_nodup a3 hnm, fun u => ?_⟩
      · rw [e13, zinsl_at p0 p1 k0]
        by_cases c2 : k < p
        · rw [if_neg (by omega), if_neg (by omega), if_pos c2]
          exact a2 k k0 (by omega)
        · by_cases c4 : k = p
          · rw [if_pos (by omega), if_neg c2, if_pos c4]
          · rw [if_neg (by omega), if_pos (by omega), if_neg c2, if_neg c4, show 60 * t + k - 1 = 60 * t + (k - 1) by omega]
            exact a2 (k - 1) (by omega) (by omega)
      · rw [zinsl_mem, a4 u, e11]
        by_cases c3 : u = r
        · subst c3
          rw [zup_s]
          constructor
          · intro _; omega
          · intro _; exact Or.inl rfl
        · rw [zup_n _ _ (by omega)]
          constructor
          · rintro (z | z)
            · exact absurd z c3
            · exact z
          · exact Or.inr
    · rw [e12, zup_n _ _ c, Lup_n _ _ c]
      refine ⟨a1, fun k k0 k1 => ?_, a3, fun u => ?_⟩
      · have hlt := mS_len h t0 t1
        have a5 := (hw s s0 (by omega)).1
        rw [e13, if_neg (by omega), if_neg (by omega)]
        exact a2 k k0 k1
      · rw [a4 u, e11]
        by_cases c3 : 0 ≤ u ∧ u < 60
        · rw [zup_n _ _ (by omega)]
        · constructor <;> (intro z; exact absurd ⟨z.1, z.2.1⟩ c3)
/-- there is room for one more -/
theorem mS_len_ins {F : Nat → Int} {G : Nat → Int → Int} {Rw : Int → List Int} (h : mS F G Rw) {s r : Int} (s0 : 0 ≤ s) (s1 : s < F 0) (r0 : 0 ≤ r) (r1 : r < F 6) (hr0 : G 11 (60 * s + r) = -1) : G 12 s < 60 := by
  have hlen := mS_len h s0 (by have := h.1; omega)
  obtain ⟨q1, q2, hd, hr, ho, hw⟩ := id h
  have hnm : r ∉ Rw s := fun z => ((hw s s0 (by omega)).2.2.2 r).mp z |>.2.2 hr0
  have := nodup_len (F 6).toNat (zinsl (Rw s) 0 r) (zinsl_nodup (hw s s0 (by omega)).2.2.1 hnm) (fun u hu => by
    rcases zinsl_mem.mp hu with rfl | hu
    · omega
    · have := hlen.2.2 u hu; omega)
  rw [zinsl_len] at this
  have := (hw s s0 (by omega)).1
  omega
/-- what becomes current (F 14 the run unit; G 15 of types, G 16 of set types) -/
def becF (F : Nat → Int) (r : Int) : Nat → Int := if r = -1 then F else Fup F 14 r
def becG (F : Nat → Int) (G : Nat → Int → Int) (r : Int) : Nat → Int → Int := if r = -1 then G else Gset (Gup G 15 (G 9 r) r) 16 (fun s => if 0 ≤ s ∧ s < F 0 ∧ (G 9 r = G 1 s ∨ G 11 (60 * s + r) ≠ -1) then r else G 16 s)
def mC (F : Nat → Int) (G : Nat → Int → Int) : Prop := (F 14 = -1 ∨ (0 ≤ F 14 ∧ F 14 < F 6 ∧ G 8 (F 14) = 1)) ∧
  (∀ t : Int, 0 ≤ t → t < 4 → G 15 t = -1 ∨ (0 ≤ G 15 t ∧ G 15 t < F 6 ∧ G 8 (G 15 t) = 1 ∧ G 9 (G 15 t) = t)) ∧
  ∀ s : Int, 0 ≤ s → s < 6 → G 16 s = -1 ∨ (s < F 0 ∧ 0 ≤ G 16 s ∧ G 16 s < F 6 ∧ G 8 (G 16 s) = 1 ∧ (G 9 (G 16 s) = G 1 s ∨ G 11 (60 * s + G 16 s) ≠ -1))
def mI (F : Nat → Int) (G : Nat → Int → Int) (Rw : Int → List Int) : Prop := mS F G Rw ∧ mC F G
theorem mS_18 {F : Nat → Int} {G : Nat → Int → Int} {Rw : Int → List Int} {c : Int} (h : mS F G Rw) : mS (Fup F 18 c) G Rw := h
theorem mC_18 {F : Nat → Int} {G : Nat → Int → Int} {c : Int} (h : mC F G) : mC (Fup F 18 c) G := h
theorem mI_18 {F : Nat → Int} {G : Nat → Int → Int} {Rw : Int → List Int} {c : Int} (h : mI F G Rw) : mI (Fup F 18 c) G Rw := h
theorem bec_18 (F : Nat → Int) (r c : Int) : becF (Fup F 18 c) r = Fup (becF F r) 18 c := by
  unfold becF
  split
  · rfl
  · funext j
    by_cases h : j = 14
    · subst h; simp [Fup]
    · by_cases h2 : j = 18
      · subst h2; simp [Fup]
      · simp [Fup, h, h2]
theorem becG_18 (F : Nat → Int) (G : Nat → Int → Int) (r c : Int) : becG (Fup F 18 c) G r = becG F G r := rfl
theorem mI_bec {F : Nat → Int} {G : Nat → Int → Int} {Rw : Int → List Int} (h : mI F G Rw) {r : Int} (hr : r = -1 ∨ 0 ≤ r ∧ r < F 6 ∧ G 8 r = 1) : mI (becF F r) (becG F G r) Rw := by
  unfold becF becG
  by_cases c : r = -1
  · rw [if_pos c, if_pos c]; exact h
  · rw [if_neg c, if_neg c]
    have hr2 : 0 ≤ r ∧ r < F 6 ∧ G 8 r = 1 := by omega
    refine ⟨h.1, Or.inr hr2, fun t t0 t1 => ?_, fun s s0 s1 => ?_⟩
    · show zup (G 15) (G 9 r) r t = -1 ∨ (0 ≤ zup (G 15) (G 9 r) r t ∧ zup (G 15) (G 9 r) r t < F 6 ∧ G 8 (zup (G 15) (G 9 r) r t) = 1 ∧ G 9 (zup (G 15) (G 9 r) r t) = t)
      by_cases ct : t = G 9 r
      · subst ct; rw [zup_s]; omega
      · rw [zup_n _ _ ct]; exact h.2.2.1 t t0 t1
    · show (if 0 ≤ s ∧ s < F 0 ∧ (G 9 r = G 1 s ∨ G 11 (60 * s + r) ≠ -1) then r else G 16 s) = -1 ∨ (s < F 0 ∧ 0 ≤ (if 0 ≤ s ∧ s < F 0 ∧ (G 9 r = G 1 s ∨ G 11 (60 * s + r) ≠ -1) then r else G 16 s) ∧ (if 0 ≤ s ∧ s < F 0 ∧ (G 9 r = G 1 s ∨ G 11 (60 * s + r) ≠ -1) then r else G 16 s) < F 6 ∧ G 8 (if 0 ≤ s ∧ s < F 0 ∧ (G 9 r = G 1 s ∨ G 11 (60 * s + r) ≠ -1) then r else G 16 s) = 1 ∧ (G 9 (if 0 ≤ s ∧ s < F 0 ∧ (G 9 r = G 1 s ∨ G 11 (60 * s + r) ≠ -1) then r else G 16 s) = G 1 s ∨ G 11 (60 * s + (if 0 ≤ s ∧ s < F 0 ∧ (G 9 r = G 1 s ∨ G 11 (60 * s + r) ≠ -1) then r else G 16 s)) ≠ -1))
      by_cases cs : 0 ≤ s ∧ s < F 0 ∧ (G 9 r = G 1 s ∨ G 11 (60 * s + r) ≠ -1)
      · rw [if_pos cs]; exact Or.inr ⟨cs.2.1, hr2.1, hr2.2.1, hr2.2.2, cs.2.2⟩
      · rw [if_neg cs]; exact h.2.2.2 s s0 s1
/-- the owner of the current set -/
def curO (G : Nat → Int → Int) (s : Int) : Int := if G 16 s = -1 ∨ G 9 (G 16 s) = G 1 s then G 16 s else G 11 (60 * s + G 16 s)
theorem curO_ok {F : Nat → Int} {G : Nat → Int → Int} {Rw : Int → List Int} (h : mI F G Rw) {s : Int} (s0 : 0 ≤ s) (s1 : s < F 0) (hi : G 16 s ≠ -1) : 0 ≤ curO G s ∧ curO G s < F 6 ∧ G 8 (curO G s) = 1 ∧ G 9 (curO G s) = G 1 s := by
  have hF := h.1.1
  have hc := h.2.2.2 s s0 (by omega)
  unfold curO
  by_cases c : G 16 s = -1 ∨ G 9 (G 16 s) = G 1 s
  · rw [if_pos c]; omega
  · rw [if_neg c]
    have := h.1.2.2.2.2.1 s (G 16 s) s0 (by omega) (by omega) (by have := h.1.2.1; omega)
    omega
theorem zat_cases (l : List Int) (k : Int) : zat l k = -1 ∨ zat l k ∈ l := by
  unfold zat
  rw [List.getD_eq_getElem?_getD]
  cases h : l[k.toNat]? with
  | none => exact Or.inl rfl
  | some v => exact Or.inr (List.mem_of_getElem? h)
theorem zmem_in {F : Nat → Int} {G : Nat → Int → Int} {Rw : Int → List Int} (h : mS F G Rw) {s o r : Int} (s0 : 0 ≤ s) (s1 : s < 6) (hr : r ∈ zmem G s o (Rw s)) : 0 ≤ r ∧ r < F 6 ∧ G 8 r = 1 ∧ G 11 (60 * s + r) = o ∧ G 9 r = G 2 s ∧ r ∈ Rw s := by
  obtain ⟨h1, h2⟩ := List.mem_filter.mp hr
  rw [decide_eq_true_eq] at h2
  have h3 := (mS_len h s0 s1).2.2 r h1
  have h4 := ((h.2.2.2.2.2 s s0 s1).2.2.2 r).mp h1
  have h5 := h.2.2.2.2.1 s r s0 s1 h4.1 h4.2.1
  exact ⟨h3.1, h3.2, by omega, h2, by omega, h1⟩
theorem zmem_at {F : Nat → Int} {G : Nat → Int → Int} {Rw : Int → List Int} (h : mS F G Rw) {s o : Int} (s0 : 0 ≤ s) (s1 : s < 6) (d : Int) : zat (zmem G s o (Rw s)) d = -1 ∨ (0 ≤ zat (zmem G s o (Rw s)) d ∧ zat (zmem G s o (Rw s)) d < F 6 ∧ G 8 (zat (zmem G s o (Rw s)) d) = 1) := by
  rcases zat_cases (zmem G s o (Rw s)) d with q | q
  · exact Or.inl q
  · have := zmem_in h s0 s1 q
    exact Or.inr ⟨this.1, this.2.1, this.2.2.1⟩
theorem zmem_len {F : Nat → Int} {G : Nat → Int → Int} {Rw : Int → List Int} (h : mS F G Rw) {s o : Int} (s0 : 0 ≤ s) (s1 : s < 6) : ((zmem G s o (Rw s)).length : Int) ≤ F 6 := by
  have h1 := mS_len h s0 s1
  have h2 := List.length_filter_le (fun r => decide (G 11 (60 * s + r) = o)) (Rw s)
  have h3 := (h.2.2.2.2.2 s s0 s1).1
  unfold zmem
  omega
theorem zmem_nodup {F : Nat → Int} {G : Nat → Int → Int} {Rw : Int → List Int} (h : mS F G Rw) {s o : Int} (s0 : 0 ≤ s) (s1 : s < 6) : (zmem G s o (Rw s)).Nodup := (h.2.2.2.2.2 s s0 s1).2.2.1.filter _
theorem zat_val {F : Nat → Int} {G : Nat → Int → Int} {Rw : Int → List Int} (h : mS F G Rw) {s o k : Int} (s0 : 0 ≤ s) (s1 : s < 6) (k0 : 0 ≤ k) (k1 : k < ((zmem G s o (Rw s)).length : Int)) : 0 ≤ zat (zmem G s o (Rw s)) k ∧ zat (zmem G s o (Rw s)) k < F 6 ∧ G 8 (zat (zmem G s o (Rw s)) k) = 1 := by
  have := zmem_in h s0 s1 (zat_mem k0 k1)
  exact ⟨this.1, this.2.1, this.2.2.1⟩
theorem becF_none (F : Nat → Int) : becF F (-1) = F := if_pos rfl
theorem becG_none (F : Nat → Int) (G : Nat → Int → Int) : becG F G (-1) = G := if_pos rfl
/-- what goes with a record that is erased -/
def gCl (G : Nat → Int → Int) (rec way r : Int) : Prop := ∀ X : Int → Prop, X rec → (∀ s u : Int, 0 ≤ s → s < 6 → 0 ≤ u → u < 60 → G 11 (60 * s + u) ≠ -1 → X (G 11 (60 * s + u)) → (way = 2 ∨ (way ≠ 0 ∧ G 5 s ≠ 2)) → X u) → X r
theorem gCl_self {G : Nat → Int → Int} {rec way : Int} : gCl G rec way rec := fun _ h _ => h
theorem gCl_step {G : Nat → Int → Int} {rec way s u : Int} (s0 : 0 ≤ s) (s1 : s < 6) (u0 : 0 ≤ u) (u1 : u < 60) (h1 : G 11 (60 * s + u) ≠ -1) (h2 : gCl G rec way (G 11 (60 * s + u))) (h3 : way = 2 ∨ (way ≠ 0 ∧ G 5 s ≠ 2)) : gCl G rec way u :=
  fun X hx hs => hs s u s0 s1 u0 u1 h1 (h2 X hx hs) h3
def zin (r : Int) (M : List Int) : Int := if r ∈ M then 1 else 0
theorem zin_1 {r : Int} {M : List Int} : zin r M = 1 ↔ r ∈ M := by unfold zin; split <;> simp_all
theorem zin_0 {r : Int} {M : List Int} : zin r M = 0 ↔ r ∉ M := by unfold zin; split <;> simp_all
theorem zin_01 (r : Int) (M : List Int) : zin r M = 0 ∨ zin r M = 1 := by unfold zin; split <;> simp
/-- how many would be erased -/
def wEr (G : Nat → Int → Int) (rc way v : Int) : Prop := (v = -1 ∧ way = 0 ∧ ∃ s u : Int, 0 ≤ s ∧ s < 6 ∧ 0 ≤ u ∧ u < 60 ∧ G 11 (60 * s + u) = rc) ∨ ((∃ M : List Int, M.Nodup ∧ v = (M.length : Int) ∧ (∀ q ∈ M, 0 ≤ q ∧ q < 60) ∧ ∀ q : Int, q ∈ M ↔ gCl G rc way q) ∧ (way = 0 → ∀ s u : Int, 0 ≤ s → s < 6 → 0 ≤ u → u < 60 → G 11 (60 * s + u) ≠ rc))
/-- inserted -/
def insO (F : Nat → Int) (G : Nat → Int → Int) (Rw : Int → List Int) (s r q : Int) (G1 : Nat → Int → Int) (Rw1 : Int → List Int) : Prop := (∃ p : Int, nPl G s r q (Rw s) p ∧ Rw1 = Lup Rw s (zinsl (Rw s) p r)) ∧ mS F G1 Rw1 ∧ G1 11 = zup (G 11) (60 * s + r) q ∧ ∀ k : Nat, k ≠ 11 → k ≠ 12 → k ≠ 13 → G1 k = G k
/-- taken out -/
def outO (F : Nat → Int) (G : Nat → Int → Int) (Rw : Int → List Int) (s r : Int) (G1 : Nat → Int → Int) (Rw1 : Int → List Int) : Prop := Rw1 = Lup Rw s (zdel (Rw s) r) ∧ mS F G1 Rw1 ∧ G1 11 = zup (G 11) (60 * s + r) (-1) ∧ ∀ k : Nat, k ≠ 11 → k ≠ 12 → k ≠ 13 → G1 k = G k
theorem mS_G {F : Nat → Int} {G G' : Nat → Int → Int} {Rw : Int → List Int} (h : mS F G Rw) (e : ∀ k : Nat, k ≤ 13 → k ≠ 4 → k ≠ 10 → G' k = G k) (e4 : G' 4 = G 4) (e10 : G' 10 = G 10) : mS F G' Rw := by
  unfold mS sDecl sRec sOwn sRow at *
  rw [e 1 (by decide) (by decide) (by decide), e 2 (by decide) (by decide) (by decide), e 3 (by decide) (by decide) (by decide), e4, e 5 (by decide) (by decide) (by decide), e 8 (by decide) (by decide) (by decide), e 9 (by decide) (by decide) (by decide), e10, e 11 (by decide) (by decide) (by decide), e 12 (by decide) (by decide) (by decide), e 13 (by decide) (by decide) (by decide)]
  exact h
theorem mS_16 {F : Nat → Int} {G : Nat → Int → Int} {Rw : Int → List Int} (h : mS F G Rw) (i v : Int) : mS F (Gup G 16 i v) Rw := h
theorem mS_15 {F : Nat → Int} {G : Nat → Int → Int} {Rw : Int → List Int} (h : mS F G Rw) (i v : Int) : mS F (Gup G 15 i v) Rw := h
theorem mS_17 {F : Nat → Int} {G : Nat → Int → Int} {Rw : Int → List Int} (h : mS F G Rw) (f : Int → Int) : mS F (Gset G 17 f) Rw := h
theorem mI_17 {F : Nat → Int} {G : Nat → Int → Int} {Rw : Int → List Int} (h : mI F G Rw) (f : Int → Int) : mI F (Gset G 17 f) Rw := h
theorem Fup_comm (F : Nat → Int) {j k : Nat} (h : j ≠ k) (u v : Int) : Fup (Fup F j u) k v = Fup (Fup F k v) j u := by
  funext i
  by_cases h1 : i = j
  · subst h1; simp [Fup, h]
  · by_cases h2 : i = k
    · subst h2; simp [Fup, h1]
    · simp [Fup, h1, h2]
