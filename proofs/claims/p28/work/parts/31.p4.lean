/-! pure: rings -/
def sq (o : Int) (l : List Int) (k : Int) : Int := if 0 ≤ k ∧ k < (l.length : Int) then zat l k else o
theorem sq_in {o : Int} {l : List Int} {k : Int} (h0 : 0 ≤ k) (h1 : k < (l.length : Int)) : sq o l k = zat l k := if_pos ⟨h0, h1⟩
theorem sq_m (o : Int) (l : List Int) : sq o l (-1) = o := if_neg (fun z => by omega)
theorem sq_e {o : Int} {l : List Int} {k : Int} (h : (l.length : Int) ≤ k) : sq o l k = o := if_neg (fun z => by omega)
theorem sq_mem {o : Int} {l : List Int} {k : Int} (h0 : 0 ≤ k) (h1 : k < (l.length : Int)) : sq o l k ∈ l := by rw [sq_in h0 h1]; exact zat_mem h0 h1
theorem sq_or (o : Int) (l : List Int) (k : Int) : sq o l k = o ∨ sq o l k ∈ l := by
  unfold sq
  split
  · rename_i h; exact Or.inr (zat_mem h.1 h.2)
  · exact Or.inl rfl
theorem sq_inj {o : Int} {l : List Int} (hn : l.Nodup) (ho : o ∉ l) {i j : Int} (hi : -1 ≤ i ∧ i < (l.length : Int)) (hj : -1 ≤ j ∧ j < (l.length : Int)) (e : sq o l i = sq o l j) : i = j := by
  by_cases ci : 0 ≤ i
  · by_cases cj : 0 ≤ j
    · rw [sq_in ci hi.2, sq_in cj hj.2] at e
      exact zat_inj hn ⟨ci, hi.2⟩ ⟨cj, hj.2⟩ e
    · rw [show j = -1 by omega, sq_m] at e
      exact absurd (e ▸ sq_mem ci hi.2) ho
  · by_cases cj : 0 ≤ j
    · rw [show i = -1 by omega, sq_m] at e
      exact absurd (e ▸ sq_mem cj hj.2) ho
    · omega
theorem sq_del {o r p : Int} {l : List Int} (hn : l.Nodup) (h0 : 0 ≤ p) (h1 : p < (l.length : Int)) (hp : zat l p = r) {k : Int} (k0 : -1 ≤ k) : sq o (zdel l r) k = if k < p then sq o l k else sq o l (k + 1) := by
  obtain ⟨e1, e2⟩ := zdel_at hn h0 h1 hp
  by_cases c : k < p
  · rw [if_pos c]
    by_cases c2 : 0 ≤ k
    · rw [sq_in c2 (by omega), sq_in c2 (by omega), e2 k c2, if_pos c]
    · rw [show k = -1 by omega, sq_m, sq_m]
  · rw [if_neg c]
    by_cases c2 : k + 1 < (l.length : Int)
    · rw [sq_in (by omega) (by omega), sq_in (by omega) c2, e2 k (by omega), if_neg c]
    · rw [sq_e (by omega), sq_e (by omega)]
theorem sq_ins {o r p : Int} {l : List Int} (h0 : 0 ≤ p) (h1 : p ≤ (l.length : Int)) {k : Int} (k0 : -1 ≤ k) : sq o (zinsl l p r) k = if k < p then sq o l k else if k = p then r else sq o l (k - 1) := by
  have hl : ((zinsl l p r).length : Int) = (l.length : Int) + 1 := by rw [zinsl_len]; omega
  by_cases c : k < p
  · rw [if_pos c]
    by_cases c2 : 0 ≤ k
    · rw [sq_in c2 (by omega), sq_in c2 (by omega), zinsl_at h0 h1 c2, if_pos c]
    · rw [show k = -1 by omega, sq_m, sq_m]
  · rw [if_neg c]
    by_cases c3 : k = p
    · rw [if_pos c3, sq_in (by omega) (by omega), zinsl_at h0 h1 (by omega), if_neg c, if_pos c3]
    · rw [if_neg c3]
      by_cases c2 : k - 1 < (l.length : Int)
      · rw [sq_in (by omega) (by omega), sq_in (by omega) c2, zinsl_at h0 h1 (by omega), if_neg c, if_neg c3]
      · rw [sq_e (by omega), sq_e (by omega)]
def lnk (T6 T7 : Int → Int) (o : Int) (l : List Int) : Prop := ∀ k : Int, -1 ≤ k → k < (l.length : Int) → T6 (sq o l k) = sq o l (k + 1) ∧ T7 (sq o l (k + 1)) = sq o l k
theorem lnk_first {T6 T7 : Int → Int} {o : Int} {l : List Int} (h : lnk T6 T7 o l) : T6 o = sq o l 0 := by
  have := (h (-1) (by omega) (by omega)).1
  rwa [sq_m] at this
theorem lnk_last {T6 T7 : Int → Int} {o : Int} {l : List Int} (h : lnk T6 T7 o l) : T7 o = sq o l ((l.length : Int) - 1) := by
  have := (h ((l.length : Int) - 1) (by omega) (by omega)).2
  rwa [sq_e (by omega)] at this
/-- out of a ring -/
theorem lnk_del {T6 T7 : Int → Int} {o r p : Int} {l : List Int} (h : lnk T6 T7 o l) (hn : l.Nodup) (ho : o ∉ l) (h0 : 0 ≤ p) (h1 : p < (l.length : Int)) (hp : zat l p = r) :
    lnk (zup T6 (T7 r) (T6 r)) (zup T7 (T6 r) (T7 r)) o (zdel l r) := by
  have e6 : T6 r = sq o l (p + 1) := by
    have := (h p (by omega) h1).1
    rwa [sq_in h0 h1, hp] at this
  have e7 : T7 r = sq o l (p - 1) := by
    have := (h (p - 1) (by omega) (by omega)).2
    rwa [show p - 1 + 1 = p by omega, sq_in h0 h1, hp] at this
  have hl := (zdel_at hn h0 h1 hp).1
  rw [e6, e7]
  intro k k0 k1
  rw [sq_del hn h0 h1 hp k0, sq_del hn h0 h1 hp (by omega : -1 ≤ k + 1)]
  by_cases c1 : k < p - 1
  · rw [if_pos (by omega), if_pos (by omega)]
    constructor
    · rw [zup_n _ _ (fun e => by have := sq_inj hn ho ⟨k0, by omega⟩ ⟨by omega, by omega⟩ e; omega)]
      exact (h k k0 (by omega)).1
    · rw [zup_n _ _ (fun e => ?_)]
      · exact (h k k0 (by omega)).2
      · by_cases c5 : p + 1 < (l.length : Int)
        · have := sq_inj hn ho ⟨by omega, by omega⟩ ⟨by omega, c5⟩ e; omega
        · rw [sq_e (show (l.length : Int) ≤ p + 1 by omega)] at e
          exact ho (e ▸ sq_mem (by omega) (by omega))
  · by_cases c2 : k = p - 1
    · rw [if_pos (by omega), if_neg (by omega), c2, show p - 1 + 1 + 1 = p + 1 by omega, zup_s, zup_s]
      exact ⟨rfl, rfl⟩
    · rw [if_neg (by omega), if_neg (by omega)]
      constructor
      · rw [zup_n _ _ (fun e => by have := sq_inj hn ho ⟨by omega, by omega⟩ ⟨by omega, by omega⟩ e; omega)]
        exact (h (k + 1) (by omega) (by omega)).1
      · rw [zup_n _ _ (fun e => ?_)]
        · exact (h (k + 1) (by omega) (by omega)).2
        · by_cases c5 : k + 1 + 1 < (l.length : Int)
          · have := sq_inj hn ho ⟨by omega, c5⟩ ⟨by omega, by omega⟩ e; omega
          · rw [sq_e (show (l.length : Int) ≤ k + 1 + 1 by omega)] at e
            exact ho (e ▸ sq_mem (by omega) (by omega))
/-- into a ring, behind its place p - 1: link(front, r), link(r, back) -/
theorem lnk_ins {T6 T7 : Int → Int} {o r p : Int} {l : List Int} (h : lnk T6 T7 o l) (hn : l.Nodup) (ho : o ∉ l) (hr : r ∉ l) (hro : r ≠ o) (h0 : 0 ≤ p) (h1 : p ≤ (l.length : Int)) :
    lnk (zup (zup T6 (sq o l (p - 1)) r) r (sq o l p)) (zup (zup T7 r (sq o l (p - 1))) (sq o l p) r) o (zinsl l p r) := by
  have hl : ((zinsl l p r).length : Int) = (l.length : Int) + 1 := by rw [zinsl_len]; omega
  have hne : ∀ k : Int, sq o l k ≠ r := fun k e => by
    rcases sq_or o l k with z | z
    · exact hro (by rw [← e, z])
    · exact hr (e ▸ z)
  intro k k0 k1
  rw [sq_ins h0 h1 k0, sq_ins h0 h1 (by omega : -1 ≤ k + 1)]
  by_cases c1 : k < p - 1
  · rw [if_pos (by omega), if_pos (by omega)]
    constructor
    · rw [zup_n _ _ (hne k), zup_n _ _ (fun e => by have := sq_inj hn ho ⟨k0, by omega⟩ ⟨by omega, by omega⟩ e; omega)]
      exact (h k k0 (by omega)).1
    · rw [zup_n _ _ (fun e => ?_), zup_n _ _ (hne _)]
      · exact (h k k0 (by omega)).2
      · by_cases c5 : p < (l.length : Int)
        · have := sq_inj hn ho ⟨by omega, by omega⟩ ⟨by omega, c5⟩ e; omega
        · rw [sq_e (show (l.length : Int) ≤ p by omega)] at e
          exact ho (e ▸ sq_mem (by omega) (by omega))
  · by_cases c2 : k = p - 1
    · rw [if_pos (by omega), if_neg (by omega), if_pos (by omega), c2]
      constructor
      · rw [zup_n _ _ (hne _), zup_s]
      · rw [zup_n _ _ (Ne.symm (hne p)), zup_s]
    · by_cases c3 : k = p
      · rw [if_neg (by omega), if_pos c3, if_neg (by omega), if_neg (by omega), show k + 1 - 1 = p by omega, zup_s, zup_s]
        exact ⟨rfl, rfl⟩
      · rw [if_neg (by omega), if_neg c3, if_neg (by omega), if_neg (by omega), show k + 1 - 1 = k - 1 + 1 by omega]
        constructor
        · rw [zup_n _ _ (hne _), zup_n _ _ (fun e => by have := sq_inj hn ho ⟨by omega, by omega⟩ ⟨by omega, by omega⟩ e; omega)]
          exact (h (k - 1) (by omega) (by omega)).1
        · rw [zup_n _ _ (fun e => ?_), zup_n _ _ (hne _)]
          · exact (h (k - 1) (by omega) (by omega)).2
          · by_cases c5 : k - 1 + 1 < (l.length : Int)
            · have := sq_inj hn ho ⟨by omega, c5⟩ ⟨by omega, by omega⟩ e; omega
            · rw [sq_e (show (l.length : Int) ≤ k - 1 + 1 by omega)] at e
              exact ho (e ▸ sq_mem (by omega) (by omega))
/-- what is written elsewhere doesn't change a ring -/
theorem lnk_keep {T6 T7 T6' T7' : Int → Int} {o : Int} {l : List Int} (h : lnk T6 T7 o l) (e6 : ∀ u : Int, (u = o ∨ u ∈ l) → T6' u = T6 u) (e7 : ∀ u : Int, (u = o ∨ u ∈ l) → T7' u = T7 u) : lnk T6' T7' o l := by
  intro k k0 k1
  have := h k k0 k1
  rw [e6 _ (sq_or o l k), e7 _ (sq_or o l (k + 1))]
  exact this
def mOf (ow : Int → Int) (o : Int) (L : List Int) : List Int := L.filter (fun r => decide (ow r = o))
theorem mOf_mem {ow : Int → Int} {o u : Int} {L : List Int} : u ∈ mOf ow o L ↔ u ∈ L ∧ ow u = o := by
  unfold mOf
  rw [List.mem_filter, decide_eq_true_eq]
theorem mOf_del {ow : Int → Int} {o r : Int} {L : List Int} (h : ow r = o) : mOf (zup ow r (-1)) o (zdel L r) = zdel (mOf ow o L) r := by
  unfold mOf zdel
  rw [List.filter_filter, List.filter_filter]
  apply List.filter_congr
  intro u hu
  rw [← Bool.decide_and, ← Bool.decide_and, decide_eq_decide]
  by_cases c : u = r
  · subst c
    constructor
    · intro z; exact absurd rfl z.2
    · intro z; exact absurd rfl z.1
  · rw [zup_n _ _ c]
    exact ⟨fun z => ⟨z.2, z.1⟩, fun z => ⟨z.2, z.1⟩⟩
theorem mOf_del_other {ow : Int → Int} {o r : Int} {L : List Int} (h : ow r ≠ o) (ho : o ≠ -1) : mOf (zup ow r (-1)) o (zdel L r) = mOf ow o L := by
  unfold mOf zdel
  rw [List.filter_filter]
  apply List.filter_congr
  intro u hu
  rw [← Bool.decide_and, decide_eq_decide]
  by_cases c : u = r
  · subst c
    constructor
    · intro z; exact absurd rfl z.2
    · intro z; exact absurd z h
  · rw [zup_n _ _ c]
    exact ⟨fun z => z.1, fun z => ⟨z, c⟩⟩
theorem take_len_le {l : List Int} {p : Int} (h1 : p ≤ (l.length : Int)) : p.toNat ≤ l.length := by omega
theorem filter_zinsl {L : List Int} {p r : Int} {f : Int → Bool} (hf : f r = true) : (zinsl L p r).filter f = zinsl (L.filter f) (((L.take p.toNat).filter f).length : Int) r := by
  unfold zinsl
  rw [List.filter_append, List.filter_cons_of_pos hf, Int.toNat_natCast]
  have e : L.filter f = (L.take p.toNat).filter f ++ (L.drop p.toNat).filter f := by
    rw [← List.filter_append, List.take_append_drop]
  rw [e, List.take_left' rfl, List.drop_left' rfl]
theorem filter_zinsl_no {L : List Int} {p r : Int} {f : Int → Bool} (hf : f r = false) : (zinsl L p r).filter f = L.filter f := by
  unfold zinsl
  rw [List.filter_append, List.filter_cons_of_neg (by rw [hf]; decide), ← List.filter_append, List.take_append_drop]
theorem filter_up {ow : Int → Int} {o r q : Int} {l : List Int} (h : r ∉ l) : l.filter (fun u => decide (zup ow r q u = o)) = l.filter (fun u => decide (ow u = o)) := by
  apply List.filter_congr
  intro u hu
  have hne : u ≠ r := fun e => h (by rw [← e]; exact hu)
  rw [zup_n _ _ hne]
theorem mOf_ins {ow : Int → Int} {o r p : Int} {L : List Int} (hr : r ∉ L) : mOf (zup ow r o) o (zinsl L p r) = zinsl (mOf ow o L) ((mOf ow o (L.take p.toNat)).length : Int) r := by
  unfold mOf
  rw [filter_zinsl (by rw [zup_s]; exact decide_eq_true rfl), filter_up hr, filter_up (fun z => hr (List.mem_of_mem_take z))]
theorem mOf_ins_other {ow : Int → Int} {o o' r p : Int} {L : List Int} (hr : r ∉ L) (ho : o ≠ o') : mOf (zup ow r o) o' (zinsl L p r) = mOf ow o' L := by
  unfold mOf
  rw [filter_zinsl_no (by rw [zup_s]; exact decide_eq_false ho), filter_up hr]
def rC (ow : Int → Int) (isO : Int → Prop) (L : List Int) : Prop := (∀ o : Int, isO o → 0 ≤ o ∧ o < 60 ∧ ow o = -1) ∧ L.Nodup ∧ (∀ r : Int, r ∈ L ↔ 0 ≤ r ∧ r < 60 ∧ ow r ≠ -1) ∧ ∀ r : Int, r ∈ L → isO (ow r)
/-- a set type's rows hold the rings of its owners -/
def rOK (T : Nat → Int → Int) (ow : Int → Int) (isO : Int → Prop) (L : List Int) : Prop := rC ow isO L ∧ (∀ r : Int, 0 ≤ r → r < 60 → (isO r → T 5 r = r) ∧ (¬ isO r → T 5 r = ow r)) ∧ ∀ o : Int, isO o → lnk (T 6) (T 7) o (mOf ow o L)
theorem rC_no {ow : Int → Int} {isO : Int → Prop} {L : List Int} (h : rC ow isO L) {r : Int} (hr : r ∈ L) : ¬ isO r ∧ 0 ≤ r ∧ r < 60 ∧ ow r ≠ -1 ∧ ow r ≠ r := by
  have h1 := (h.2.2.1 r).mp hr
  have h2 : ¬ isO r := fun z => h1.2.2 (h.1 r z).2.2
  exact ⟨h2, h1.1, h1.2.1, h1.2.2, fun e => h2 (by have := h.2.2.2 r hr; rwa [e] at this)⟩
theorem rOK_ring {T : Nat → Int → Int} {ow : Int → Int} {isO : Int → Prop} {L : List Int} (h : rOK T ow isO L) {r : Int} (r0 : 0 ≤ r) (r1 : r < 60) : (T 5 r = r ↔ isO r) ∧ (∀ o : Int, o ≠ -1 → ((T 5 r = o ∧ r ≠ o) ↔ ow r = o)) ∧ -1 ≤ T 5 r ∧ T 5 r < 60 ∧ (T 5 r = -1 ↔ (¬ isO r ∧ ow r = -1)) := by
  obtain ⟨hc, h5, -⟩ := h
  have h5r := h5 r r0 r1
  by_cases c : isO r
  · have e := h5r.1 c
    have hm := (hc.1 r c).2.2
    refine ⟨⟨fun _ => c, fun _ => e⟩, fun o ho => ⟨fun z => absurd (by rw [← z.1, e]) z.2, fun z => by omega⟩, by omega, by omega, ⟨fun z => by omega, fun z => absurd c z.1⟩⟩
  · have e := h5r.2 c
    by_cases cm : ow r = -1
    · refine ⟨⟨fun z => by omega, fun z => absurd z c⟩, fun o ho => ⟨fun z => by omega, fun z => by omega⟩, by omega, by omega, ⟨fun _ => ⟨c, cm⟩, fun _ => by omega⟩⟩
    · have hL := (hc.2.2.1 r).mpr ⟨r0, r1, cm⟩
      have hno := rC_no hc hL
      have hoo := hc.1 _ (hc.2.2.2 r hL)
      exact ⟨⟨fun z => by omega, fun z => absurd z c⟩, fun o ho => ⟨fun z => by omega, fun z => ⟨by omega, by omega⟩⟩, by omega, by omega, ⟨fun z => by omega, fun z => by omega⟩⟩
theorem mOf_facts {ow : Int → Int} {isO : Int → Prop} {L : List Int} (h : rC ow isO L) {o : Int} (ho : isO o) : (mOf ow o L).Nodup ∧ o ∉ mOf ow o L ∧ ((mOf ow o L).length : Int) ≤ 60 ∧ ∀ u ∈ mOf ow o L, 0 ≤ u ∧ u < 60 ∧ u ≠ o ∧ ow u = o ∧ u ∈ L := by
  have hu : ∀ u ∈ mOf ow o L, 0 ≤ u ∧ u < 60 ∧ u ≠ o ∧ ow u = o ∧ u ∈ L := fun u hm => by
    have h1 := mOf_mem.mp hm
    have h2 := rC_no h h1.1
    exact ⟨h2.2.1, h2.2.2.1, fun e => h2.1 (e ▸ ho), h1.2, h1.1⟩
  have hnd : (mOf ow o L).Nodup := h.2.1.filter _
  have := nodup_len 60 _ hnd (fun u hm => by have := hu u hm; omega)
  exact ⟨hnd, fun z => (hu o z).2.2.1 rfl, by omega, hu⟩
theorem rOK_out {T T' : Nat → Int → Int} {ow : Int → Int} {isO : Int → Prop} {L : List Int} (h : rOK T ow isO L) {r : Int} (hr : r ∈ L) (e5 : T' 5 = zup (T 5) r (-1)) (e6 : T' 6 = zup (T 6) (T 7 r) (T 6 r)) (e7 : T' 7 = zup (T 7) (T 6 r) (T 7 r)) : rOK T' (zup ow r (-1)) isO (zdel L r) := by
  obtain ⟨hc, h5, hl⟩ := id h
  have hno := rC_no hc hr
  have hoo := hc.2.2.2 r hr
  have hmf := mOf_facts hc hoo
  have hrm : r ∈ mOf ow (ow r) L := mOf_mem.mpr ⟨hr, rfl⟩
  obtain ⟨p, p0, p1, hp⟩ := zat_of_mem hrm
  have hlr := hl _ hoo
  have f6 : T 6 r = sq (ow r) (mOf ow (ow r) L) (p + 1) := by
    have := (hlr p (by omega) p1).1
    rwa [sq_in p0 p1, hp] at this
  have f7 : T 7 r = sq (ow r) (mOf ow (ow r) L) (p - 1) := by
    have := (hlr (p - 1) (by omega) (by omega)).2
    rwa [show p - 1 + 1 = p by omega, sq_in p0 p1, hp] at this
  refine ⟨⟨fun o ho => ?_, zdel_nodup hc.2.1, fun u => ?_, fun u hu => ?_⟩, fun u u0 u1 => ?_, fun o ho => ?_⟩
  · have := hc.1 o ho
    have hne : o ≠ r := fun e => hno.1 (by rw [← e]; exact ho)
    rw [zup_n _ _ hne]
    exact this
  · rw [zdel_mem, hc.2.2.1 u]
    by_cases c : u = r
    · subst c; rw [zup_s]; simp
    · rw [zup_n _ _ c]; simp [c]
  · have hu2 := zdel_mem.mp hu
    rw [zup_n _ _ hu2.2]
    exact hc.2.2.2 u hu2.1
  · rw [e5]
    by_cases c : u = r
    · subst c
      rw [zup_s, zup_s]
      exact ⟨fun z => absurd z hno.1, fun _ => rfl⟩
    · rw [zup_n _ _ c, zup_n _ _ c]
      exact h5 u u0 u1
  · rw [e6, e7]
    by_cases c : ow r = o
    · rw [mOf_del c, ← c]
      exact lnk_del hlr hmf.1 hmf.2.1 p0 p1 hp
    · rw [mOf_del_other c (fun e => by have := hc.1 o ho; omega)]
      have hno2 : ∀ u k : Int, (u = o ∨ u ∈ mOf ow o L) → u ≠ sq (ow r) (mOf ow (ow r) L) k := fun u k hu e => by
        rcases sq_or (ow r) (mOf ow (ow r) L) k with z | z
        · rw [z] at e
          rcases hu with y | y
          · exact c (by rw [← e, y])
          · have := (mOf_facts hc ho).2.2.2 u y
            exact (rC_no hc this.2.2.2.2).1 (by rw [e]; exact hoo)
        · rw [← e] at z
          have h8 := hmf.2.2.2 u z
          rcases hu with y | y
          · exact (rC_no hc h8.2.2.2.2).1 (y ▸ ho)
          · have := (mOf_facts hc ho).2.2.2 u y
            exact c (by rw [← h8.2.2.2.1, this.2.2.2.1])
      exact lnk_keep (hl o ho) (fun u hu => zup_n _ _ (by rw [f7]; exact hno2 u _ hu)) (fun u hu => zup_n _ _ (by rw [f6]; exact hno2 u _ hu))
theorem cnt_le {ow : Int → Int} {o p : Int} {L : List Int} : ((mOf ow o (L.take p.toNat)).length : Int) ≤ ((mOf ow o L).length : Int) := by
  unfold mOf
  have e : L.filter (fun r => decide (ow r = o)) = (L.take p.toNat).filter (fun r => decide (ow r = o)) ++ (L.drop p.toNat).filter (fun r => decide (ow r = o)) := by
    rw [← List.filter_append, List.take_append_drop]
  rw [e, List.length_append]
  omega
theorem rOK_ins {T T' : Nat → Int → Int} {ow : Int → Int} {isO : Int → Prop} {L : List Int} (h : rOK T ow isO L) {r o p j : Int} (hj : j = ((mOf ow o (L.take p.toNat)).length : Int)) (hr : r ∉ L) (r0 : 0 ≤ r) (r1 : r < 60) (hro : ¬ isO r) (ho : isO o)
    (e5 : T' 5 = zup (T 5) r o) (e6 : T' 6 = zup (zup (T 6) (sq o (mOf ow o L) (j - 1)) r) r (sq o (mOf ow o L) j))
    (e7 : T' 7 = zup (zup (T 7) r (sq o (mOf ow o L) (j - 1))) (sq o (mOf ow o L) j) r) : rOK T' (zup ow r o) isO (zinsl L p r) := by
  obtain ⟨hc, h5, hl⟩ := id h
  have hmf := mOf_facts hc ho
  have hoo := hc.1 o ho
  have hne : r ≠ o := fun e => hro (by rw [e]; exact ho)
  have hcnt := cnt_le (ow := ow) (o := o) (p := p) (L := L)
  have hmi : mOf (zup ow r o) o (zinsl L p r) = zinsl (mOf ow o L) j r := by rw [hj]; exact mOf_ins hr
  rw [← hj] at hcnt
  have j0 : 0 ≤ j := by omega
  have hrm : r ∉ mOf ow o L := fun z => hr (mOf_mem.mp z).1
  refine ⟨⟨fun q hq => ?_, zinsl_nodup hc.2.1 hr, fun u => ?_, fun u hu => ?_⟩, fun u u0 u1 => ?_, fun q hq => ?_⟩
  · have hqr : q ≠ r := fun e => hro (by rw [← e]; exact hq)
    rw [zup_n _ _ hqr]
    exact hc.1 q hq
  · rw [zinsl_mem, hc.2.2.1 u]
    by_cases c : u = r
    · subst c
      rw [zup_s]
      exact ⟨fun _ => ⟨r0, r1, by omega⟩, fun _ => Or.inl rfl⟩
    · rw [zup_n _ _ c]
      exact ⟨fun z => by rcases z with z | z; exact absurd z c; exact z, fun z => Or.inr z⟩
  · rcases zinsl_mem.mp hu with z | z
    · rw [z, zup_s]; exact ho
    · have hur : u ≠ r := fun e => hr (by rw [← e]; exact z)
      rw [zup_n _ _ hur]; exact hc.2.2.2 u z
  · rw [e5]
    by_cases c : u = r
    · subst c
      rw [zup_s, zup_s]
      exact ⟨fun z => absurd z hro, fun _ => rfl⟩
    · rw [zup_n _ _ c, zup_n _ _ c]
      exact h5 u u0 u1
  · rw [e6, e7]
    by_cases c : q = o
    · subst c
      rw [hmi]
      exact lnk_ins (hl q hq) hmf.1 hmf.2.1 hrm hne j0 hcnt
    · rw [mOf_ins_other hr (Ne.symm c)]
      have hno2 : ∀ u k : Int, (u = q ∨ u ∈ mOf ow q L) → u ≠ sq o (mOf ow o L) k := fun u k hu e => by
        rcases sq_or o (mOf ow o L) k with z | z
        · rw [z] at e
          rcases hu with y | y
          · exact c (by rw [← e, y])
          · have := (mOf_facts hc hq).2.2.2 u y
            exact (rC_no hc this.2.2.2.2).1 (by rw [e]; exact ho)
        · rw [← e] at z
          have h8 := hmf.2.2.2 u z
          rcases hu with y | y
          · exact (rC_no hc h8.2.2.2.2).1 (by rw [y]; exact hq)
          · have := (mOf_facts hc hq).2.2.2 u y
            exact c (by rw [← h8.2.2.2.1, this.2.2.2.1])
      have hur : ∀ u : Int, (u = q ∨ u ∈ mOf ow q L) → u ≠ r := fun u hu e => by
        rcases hu with y | y
        · exact hro (by rw [← e, y]; exact hq)
        · exact hr (by rw [← e]; exact (mOf_mem.mp y).1)
      exact lnk_keep (hl q hq) (fun u hu => by rw [zup_n _ _ (hur u hu), zup_n _ _ (hno2 u _ hu)]) (fun u hu => by rw [zup_n _ _ (hno2 u _ hu), zup_n _ _ (hur u hu)])
/-- where the class inserts: the place among the owner's members -/
def fPl (P8 : Int) (ins : Int) (V : Int → Int) (ow : Int → Int) (r o : Int) (L : List Int) (j : Int) : Prop :=
  (ins = 0 → j = 0) ∧ (ins = 1 → j = ((mOf ow o L).length : Int)) ∧
  ((ins = 2 ∨ ins = 3) → (ow P8 = o ∧ P8 ≠ -1 → ∃ q : Int, 0 ≤ q ∧ q < ((mOf ow o L).length : Int) ∧ zat (mOf ow o L) q = P8 ∧ j = if ins = 2 then q + 1 else q) ∧ (¬ (ow P8 = o ∧ P8 ≠ -1) → j = if ins = 2 then 0 else ((mOf ow o L).length : Int))) ∧
  (ins = 4 → (0 ≤ j ∧ j ≤ ((mOf ow o L).length : Int)) ∧ (∀ i : Int, 0 ≤ i → i < j → ¬ V r < V (zat (mOf ow o L) i)) ∧ (j < ((mOf ow o L).length : Int) → V r < V (zat (mOf ow o L) j)))
theorem cnt_at {ow : Int → Int} {o : Int} {L : List Int} {k : Int} (k0 : 0 ≤ k) (k1 : k < (L.length : Int)) : ((mOf ow o (L.take (k + 1).toNat)).length : Int) = ((mOf ow o (L.take k.toNat)).length : Int) + (if ow (zat L k) = o then 1 else 0) ∧ (ow (zat L k) = o → zat (mOf ow o L) ((mOf ow o (L.take k.toNat)).length : Int) = zat L k) := by
  refine ⟨?_, fun e => filter_at k0 k1 (by rw [decide_eq_true_eq]; exact e)⟩
  unfold mOf
  rw [take_step k0 k1, List.length_append]
  by_cases c : ow (zat L k) = o
  · rw [if_pos (by rw [decide_eq_true_eq]; exact c), if_pos c]
    simp
  · rw [if_neg (by rw [decide_eq_true_eq]; exact c), if_neg c]
    simp
/-- every member has its place in the row -/
theorem cnt_of {ow : Int → Int} {o : Int} {L : List Int} {i : Int} (i0 : 0 ≤ i) (i1 : i < ((mOf ow o L).length : Int)) : ∃ k : Int, 0 ≤ k ∧ k < (L.length : Int) ∧ ow (zat L k) = o ∧ ((mOf ow o (L.take k.toNat)).length : Int) = i ∧ zat (mOf ow o L) i = zat L k := by
  have key : ∀ (n : Nat), (n : Int) ≤ (L.length : Int) → (i < ((mOf ow o (L.take n)).length : Int)) → ∃ k : Int, 0 ≤ k ∧ k < (n : Int) ∧ ow (zat L k) = o ∧ ((mOf ow o (L.take k.toNat)).length : Int) = i := by
    intro n
    induction n with
    | zero => intro _ h; simp [mOf] at h; omega
    | succ n ih =>
      intro hn h
      by_cases c : i < ((mOf ow o (L.take n)).length : Int)
      · obtain ⟨k, a, b, d⟩ := ih (by omega) c
        exact ⟨k, a, by omega, d⟩
      · have := (cnt_at (ow := ow) (o := o) (L := L) (k := (n : Int)) (by omega) (by omega)).1
        rw [show ((n : Int) + 1).toNat = n + 1 by omega, Int.toNat_natCast] at this
        by_cases c2 : ow (zat L (n : Int)) = o
        · rw [if_pos c2] at this
          exact ⟨(n : Int), by omega, by omega, c2, by rw [Int.toNat_natCast]; omega⟩
        · rw [if_neg c2] at this
          omega
  obtain ⟨k, a, b, d, e⟩ := key L.length (Int.le_refl _) (by rw [List.take_length]; exact i1)
  exact ⟨k, a, b, d, e, by have := (cnt_at (ow := ow) (o := o) a b).2 d; rw [e] at this; exact this⟩
theorem cnt_mono {ow : Int → Int} {o : Int} {L : List Int} {k k' : Int} (h : k ≤ k') : ((mOf ow o (L.take k.toNat)).length : Int) ≤ ((mOf ow o (L.take k'.toNat)).length : Int) := by
  have := cnt_le (ow := ow) (o := o) (p := k) (L := L.take k'.toNat)
  rw [List.take_take, Nat.min_eq_left (by omega)] at this
  exact this
/-- the model's place is the class's place -/
theorem nPl_fPl {G : Nat → Int → Int} {s r o p : Int} {L : List Int} (hn : L.Nodup) (hins : 0 ≤ G 3 s ∧ G 3 s ≤ 4) (hcur : G 16 s ≠ -1 → G 11 (60 * s + G 16 s) = o → G 16 s ∈ L) {j : Int} (h : nPl G s r o L p) (hj : j = ((mOf (fun u => G 11 (60 * s + u)) o (L.take p.toNat)).length : Int)) : fPl (G 16 s) (G 3 s) (G 10) (fun u => G 11 (60 * s + u)) r o L j := by
  have hr := nPl_rng h
  obtain ⟨h1, h2, h3⟩ := h
  have hall : ((mOf (fun u => G 11 (60 * s + u)) o (L.take (L.length : Int).toNat)).length : Int) = ((mOf (fun u => G 11 (60 * s + u)) o L).length : Int) := by rw [Int.toNat_natCast, List.take_length]
  have hzero : ((mOf (fun u => G 11 (60 * s + u)) o (L.take (0 : Int).toNat)).length : Int) = 0 := by simp [mOf]
  refine ⟨fun e => ?_, fun e => ?_, fun e => ⟨fun c => ?_, fun c => ?_⟩, fun e => ?_⟩
  · have := h3 (by omega) (fun z => by omega)
    rw [if_pos (by omega)] at this
    rw [hj, this, hzero]
  · have := h3 (by omega) (fun z => by omega)
    rw [if_neg (by omega)] at this
    rw [hj, this, hall]
  · obtain ⟨q, q0, q1, q2, q3⟩ := h2 (by omega) ⟨⟨c.2, c.1⟩, by omega⟩
    have hc := cnt_at (ow := fun u => G 11 (60 * s + u)) (o := o) q0 q1
    rw [q2] at hc
    rw [if_pos c.1] at hc
    have hlt : ((mOf (fun u => G 11 (60 * s + u)) o (L.take q.toNat)).length : Int) < ((mOf (fun u => G 11 (60 * s + u)) o L).length : Int) := by
      have := cnt_le (ow := fun u => G 11 (60 * s + u)) (o := o) (p := q + 1) (L := L)
      omega
    refine ⟨_, by omega, hlt, hc.2 c.1, ?_⟩
    by_cases c2 : G 3 s = 2
    · rw [if_pos c2] at q3 ⊢
      rw [hj, q3]; exact hc.1
    · rw [if_neg c2] at q3 ⊢
      rw [hj, q3, show q + 0 = q by omega]
  · have := h3 (by omega) (fun z => c ⟨z.1.2, z.1.1⟩)
    by_cases c2 : G 3 s = 2
    · rw [if_pos (by omega)] at this
      rw [if_pos c2, hj, this, hzero]
    · rw [if_neg (by omega)] at this
      rw [if_neg c2, hj, this, hall]
  · obtain ⟨a1, a2, a3⟩ := h1 e
    have hle := cnt_le (ow := fun u => G 11 (60 * s + u)) (o := o) (p := p) (L := L)
    refine ⟨by omega, fun i i0 i1 => ?_, fun hlt => ?_⟩
    · obtain ⟨k, k0, k1, k2, k3, k4⟩ := cnt_of (ow := fun u => G 11 (60 * s + u)) (o := o) (L := L) i0 (by omega)
      rw [k4]
      have hkp : k < p := by
        rcases Int.lt_or_le k p with y | y
        · exact y
        · have := cnt_mono (ow := fun u => G 11 (60 * s + u)) (o := o) (L := L) y
          omega
      exact fun z => a2 k k0 hkp ⟨k2, z⟩
    · rcases Int.lt_or_eq_of_le a1.2 with y | y
      · have hp := a3 y
        have hc := cnt_at (ow := fun u => G 11 (60 * s + u)) (o := o) a1.1 y
        rw [hj, hc.2 hp.1]
        exact hp.2
      · rw [y, hall] at hj
        omega
def rR (T : Nat → Int → Int) : Prop := ∀ (k : Nat) (u : Int), 0 ≤ u → u < 60 → -1 ≤ T k u ∧ T k u < 60
theorem rAt_rng {T : Nat → Int → Int} (h : rR T) (k : Nat) (p : Int) : -1 ≤ rAt 60 (T k) p ∧ rAt 60 (T k) p < 60 := by
  unfold rAt
  split
  · rename_i q; exact h k p q.1 q.2
  · omega
/-- taken out of its ring; put into one -/
def outT (T T' : Nat → Int → Int) (r : Int) : Prop := T' 5 = zup (T 5) r (-1) ∧ T' 6 = zup (T 6) (T 7 r) (T 6 r) ∧ T' 7 = zup (T 7) (T 6 r) (T 7 r) ∧ rR T'
def insT (T T' : Nat → Int → Int) (ow : Int → Int) (L : List Int) (r o j : Int) : Prop := T' 5 = zup (T 5) r o ∧ T' 6 = zup (zup (T 6) (sq o (mOf ow o L) (j - 1)) r) r (sq o (mOf ow o L) j) ∧ T' 7 = zup (zup (T 7) r (sq o (mOf ow o L) (j - 1))) (sq o (mOf ow o L) j) r ∧ rR T'
theorem rR_up {T : Nat → Int → Int} (h : rR T) {k : Nat} {i v : Int} (hv : -1 ≤ v ∧ v < 60) : rR (Gset T k (zup (T k) i v)) := by
  intro q u u0 u1
  by_cases c : q = k
  · subst c
    rw [Gset_s]
    by_cases c2 : u = i
    · subst c2; rw [zup_s]; exact hv
    · rw [zup_n _ _ c2]; exact h q u u0 u1
  · rw [Gset_n _ _ c]; exact h q u u0 u1
/-- the places of a ring are records -/
theorem sq_rng {ow : Int → Int} {isO : Int → Prop} {L : List Int} (h : rC ow isO L) {o : Int} (ho : isO o) (k : Int) : 0 ≤ sq o (mOf ow o L) k ∧ sq o (mOf ow o L) k < 60 := by
  rcases sq_or o (mOf ow o L) k with z | z
  · rw [z]; have := h.1 o ho; omega
  · have := (mOf_facts h ho).2.2.2 _ z; omega
/-- a member's neighbours in its ring -/
theorem ring_nb {T : Nat → Int → Int} {ow : Int → Int} {isO : Int → Prop} {L : List Int} (h : rOK T ow isO L) {r : Int} (hr : r ∈ L) : ∃ p : Int, 0 ≤ p ∧ p < ((mOf ow (ow r) L).length : Int) ∧ zat (mOf ow (ow r) L) p = r ∧ T 6 r = sq (ow r) (mOf ow (ow r) L) (p + 1) ∧ T 7 r = sq (ow r) (mOf ow (ow r) L) (p - 1) := by
  have hoo := h.1.2.2.2 r hr
  have hrm : r ∈ mOf ow (ow r) L := mOf_mem.mpr ⟨hr, rfl⟩
  obtain ⟨p, p0, p1, hp⟩ := zat_of_mem hrm
  have hlr := h.2.2 _ hoo
  refine ⟨p, p0, p1, hp, ?_, ?_⟩
  · have := (hlr p (by omega) p1).1
    rwa [sq_in p0 p1, hp] at this
  · have := (hlr (p - 1) (by omega) (by omega)).2
    rwa [show p - 1 + 1 = p by omega, sq_in p0 p1, hp] at this
/-- how many of the first k records have the owner o -/
def tcnt (ow : Int → Int) (o : Int) : Nat → Int
  | 0 => 0
  | n + 1 => tcnt ow o n + if ow (n : Int) = o then 1 else 0
theorem tcnt_rng (ow : Int → Int) (o : Int) : ∀ n : Nat, 0 ≤ tcnt ow o n ∧ tcnt ow o n ≤ (n : Int)
  | 0 => by simp [tcnt]
  | n + 1 => by
    have := tcnt_rng ow o n
    unfold tcnt
    split <;> omega
theorem len_del {l : List Int} {r : Int} (hn : l.Nodup) (h : r ∈ l) : ((zdel l r).length : Int) + 1 = (l.length : Int) := by
  obtain ⟨p, p0, p1, hp⟩ := zat_of_mem h
  have := (zdel_at hn p0 p1 hp).1
  omega
theorem tcnt_list (ow : Int → Int) (o : Int) : ∀ (n : Nat) (l : List Int), l.Nodup → (∀ u : Int, u ∈ l ↔ (0 ≤ u ∧ u < (n : Int) ∧ ow u = o)) → tcnt ow o n = (l.length : Int)
  | 0, l, hn, h => by
    cases l with
    | nil => rfl
    | cons a l => have := (h a).mp List.mem_cons_self; omega
  | n + 1, l, hn, h => by
    unfold tcnt
    by_cases c : ow (n : Int) = o
    · have hm : (n : Int) ∈ l := (h _).mpr ⟨by omega, by omega, c⟩
      have := tcnt_list ow o n (zdel l (n : Int)) (zdel_nodup hn) (fun u => by
        rw [zdel_mem, h u]
        constructor
        · intro z; omega
        · intro z; omega)
      have h2 := len_del hn hm
      rw [if_pos c]; omega
    · have := tcnt_list ow o n l hn (fun u => by
        rw [h u]
        constructor
        · intro z
          refine ⟨z.1, ?_, z.2.2⟩
          have : u ≠ (n : Int) := fun e => c (e ▸ z.2.2)
          omega
        · intro z; omega)
      rw [if_neg c]; omega
theorem tcnt_mem {ow : Int → Int} {isO : Int → Prop} {L : List Int} (h : rC ow isO L) {o : Int} (ho : isO o) : tcnt ow o 60 = ((mOf ow o L).length : Int) := by
  have hmf := mOf_facts h ho
  refine tcnt_list ow o 60 _ hmf.1 (fun u => ⟨fun hu => by have := hmf.2.2.2 u hu; omega, fun hu => ?_⟩)
  have := h.1 o ho
  exact mOf_mem.mpr ⟨(h.2.2.1 u).mpr ⟨hu.1, by omega, by omega⟩, hu.2.2⟩
/-- a record is forgotten by a set type -/
def fOw (ow : Int → Int) (d : Int) : Int → Int := fun u => if u = d ∨ ow u = d then -1 else ow u
def fL (ow : Int → Int) (d : Int) (L : List Int) : List Int := L.filter (fun u => decide (¬ (u = d ∨ ow u = d)))
def fO (isO : Int → Prop) (d : Int) : Int → Prop := fun u => isO u ∧ u ≠ d
def fC (ow : Int → Int) (d p8 : Int) : Int := if p8 = d ∨ (p8 ≠ -1 ∧ ow p8 = d) then -1 else p8
theorem mOf_fL {ow : Int → Int} {d o : Int} {L : List Int} (ho : o ≠ -1) (hod : o ≠ d) : mOf (fOw ow d) o (fL ow d L) = (mOf ow o L).filter (fun u => decide (u ≠ d)) := by
  unfold mOf fL
  rw [List.filter_filter, List.filter_filter]
  apply List.filter_congr
  intro u hu
  rw [← Bool.decide_and, ← Bool.decide_and, decide_eq_decide]
  unfold fOw
  by_cases c : u = d ∨ ow u = d
  · rw [if_pos c]
    constructor
    · intro z; omega
    · intro z; exfalso; rcases c with y | y <;> omega
  · rw [if_neg c]
    constructor
    · intro z; omega
    · intro z; omega
theorem rC_forget {ow : Int → Int} {isO : Int → Prop} {L : List Int} (h : rC ow isO L) (d : Int) : rC (fOw ow d) (fO isO d) (fL ow d L) := by
  refine ⟨fun o ho => ?_, h.2.1.filter _, fun r => ?_, fun r hr => ?_⟩
  · have := h.1 o ho.1
    unfold fOw
    split <;> omega
  · unfold fL
    rw [List.mem_filter, decide_eq_true_eq, h.2.2.1 r]
    unfold fOw
    by_cases c : r = d ∨ ow r = d
    · rw [if_pos c]
      constructor
      · intro z; exact absurd c z.2
      · intro z; omega
    · rw [if_neg c]
      exact ⟨fun z => z.1, fun z => ⟨z, c⟩⟩
  · unfold fL at hr
    rw [List.mem_filter, decide_eq_true_eq] at hr
    unfold fOw fO
    rw [if_neg hr.2]
    exact ⟨h.2.2.2 r hr.1, fun e => hr.2 (Or.inr e)⟩
/-- nothing of d is left: it is no owner with members, and no member -/
theorem rOK_gone {T T' : Nat → Int → Int} {ow : Int → Int} {isO : Int → Prop} {L : List Int} (h : rOK T ow isO L) {d : Int} (hm : d ∉ L) (hno : mOf ow d L = []) (hd : isO d) (e5 : T' 5 = zup (T 5) d (-1)) (e6 : T' 6 = T 6) (e7 : T' 7 = T 7) : rOK T' ow (fO isO d) L := by
  obtain ⟨hc, h5, hl⟩ := h
  have hnd : ∀ u ∈ L, ow u ≠ d := fun u hu e => by
    have : u ∈ mOf ow d L := mOf_mem.mpr ⟨hu, e⟩
    rw [hno] at this
    cases this
  refine ⟨⟨fun o ho => hc.1 o ho.1, hc.2.1, hc.2.2.1, fun r hr => ⟨hc.2.2.2 r hr, hnd r hr⟩⟩, fun r r0 r1 => ?_, fun o ho => ?_⟩
  · rw [e5]
    by_cases c : r = d
    · subst c
      rw [zup_s]
      have := hc.1 r hd
      exact ⟨fun z => absurd rfl z.2, fun _ => by omega⟩
    · rw [zup_n _ _ c]
      exact ⟨fun z => (h5 r r0 r1).1 z.1, fun z => (h5 r r0 r1).2 (fun y => z ⟨y, c⟩)⟩
  · rw [e6, e7]
    exact hl o ho.1
/-- a new owner, with a ring of its own -/
theorem rOK_own {T T' : Nat → Int → Int} {ow : Int → Int} {isO : Int → Prop} {L : List Int} (h : rOK T ow isO L) {d : Int} (d0 : 0 ≤ d) (d1 : d < 60) (hm : ow d = -1) (hd : ¬ isO d) (e5 : T' 5 = zup (T 5) d d) (e6 : T' 6 = zup (T 6) d d) (e7 : T' 7 = zup (T 7) d d) : rOK T' ow (fun u => isO u ∨ u = d) L := by
  obtain ⟨hc, h5, hl⟩ := h
  have hnm : d ∉ L := fun z => ((hc.2.2.1 d).mp z).2.2 hm
  refine ⟨⟨fun o ho => ?_, hc.2.1, hc.2.2.1, fun r hr => Or.inl (hc.2.2.2 r hr)⟩, fun r r0 r1 => ?_, fun o ho => ?_⟩
  · rcases ho with z | z
    · exact hc.1 o z
    · subst z; exact ⟨d0, d1, hm⟩
  · rw [e5]
    by_cases c : r = d
    · subst c
      rw [zup_s]
      exact ⟨fun _ => rfl, fun z => absurd (Or.inr rfl) z⟩
    · rw [zup_n _ _ c]
      exact ⟨fun z => (h5 r r0 r1).1 (by rcases z with y | y; exact y; exact absurd y c), fun z => (h5 r r0 r1).2 (fun y => z (Or.inl y))⟩
  · rw [e6, e7]
    rcases ho with z | z
    · have hne : ∀ u : Int, (u = o ∨ u ∈ mOf ow o L) → u ≠ d := fun u hu e => by
        rcases hu with y | y
        · exact hd (by rw [← e, y]; exact z)
        · exact hnm (by rw [← e]; exact (mOf_mem.mp y).1)
      exact lnk_keep (hl o z) (fun u hu => zup_n _ _ (hne u hu)) (fun u hu => zup_n _ _ (hne u hu))
    · subst z
      have hnil : mOf ow o L = [] := by
        rw [List.eq_nil_iff_forall_not_mem]
        intro u hu
        have h1 := mOf_mem.mp hu
        have h2 := hc.2.2.2 u h1.1
        rw [h1.2] at h2
        exact hd h2
      rw [hnil]
      intro k k0 k1
      have : k = -1 := by simp at k1; omega
      subst this
      rw [sq_m, sq_e (by simp), zup_s, zup_s]
      exact ⟨rfl, rfl⟩
theorem Fup_id (F : Nat → Int) (k : Nat) : Fup F k (F k) = F := by
  funext j
  by_cases h : j = k
  · subst h; simp [Fup]
  · simp [Fup, h]
theorem rOK_congr {T : Nat → Int → Int} {ow ow' : Int → Int} {isO isO' : Int → Prop} {L L' : List Int} (h : rOK T ow isO L) (hL : L = L') (hi : ∀ u : Int, isO u ↔ isO' u) (he : ∀ u : Int, 0 ≤ u → u < 60 → ow u = ow' u) : rOK T ow' isO' L' := by
  subst hL
  have e : isO = isO' := funext fun u => propext (hi u)
  subst e
  obtain ⟨⟨c1, c2, c3, c4⟩, h5, hl⟩ := h
  have hm : ∀ o : Int, mOf ow o L = mOf ow' o L := fun o => by
    unfold mOf
    apply List.filter_congr
    intro u hu
    have := (c3 u).mp hu
    rw [he u this.1 this.2.1]
  refine ⟨⟨fun o ho => ?_, c2, fun r => ?_, fun r hr => ?_⟩, fun r r0 r1 => ?_, fun o ho => ?_⟩
  · have := c1 o ho
    rw [← he o this.1 this.2.1]
    exact this
  · rw [c3 r]
    constructor
    · intro z; rw [← he r z.1 z.2.1]; exact z
    · intro z; rw [he r z.1 z.2.1]; exact z
  · have := (c3 r).mp hr
    rw [← he r this.1 this.2.1]
    exact c4 r hr
  · rw [← he r r0 r1]; exact h5 r r0 r1
  · rw [← hm o]; exact hl o ho
def relOw (ow : Int → Int) (o : Int) : Int → Int := fun u => if ow u = o then -1 else ow u
def relL (ow : Int → Int) (o : Int) (L : List Int) : List Int := L.filter (fun u => decide (ow u ≠ o))
theorem rel_step {ow : Int → Int} {o r : Int} {L : List Int} (h : ow r = o) (ho : o ≠ -1) : relOw (zup ow r (-1)) o = relOw ow o ∧ relL (zup ow r (-1)) o (zdel L r) = relL ow o L := by
  constructor
  · funext u
    unfold relOw
    by_cases c : u = r
    · subst c
      rw [zup_s, if_pos h, if_neg (Ne.symm ho)]
    · rw [zup_n _ _ c]
  · unfold relL zdel
    rw [List.filter_filter]
    apply List.filter_congr
    intro u hu
    rw [← Bool.decide_and, decide_eq_decide]
    by_cases c : u = r
    · subst c
      constructor
      · intro z; exact absurd rfl z.2
      · intro z; exact absurd h z
    · rw [zup_n _ _ c]
      exact ⟨fun z => z.1, fun z => ⟨z, c⟩⟩
theorem rel_done {ow : Int → Int} {o : Int} {L : List Int} {isO : Int → Prop} {T : Nat → Int → Int} (h : rOK T ow isO L) (ho : isO o) (hm : mOf ow o L = []) : rOK T (relOw ow o) isO (relL ow o L) := by
  have hno : ∀ u ∈ L, ow u ≠ o := fun u hu e => by
    have : u ∈ mOf ow o L := mOf_mem.mpr ⟨hu, e⟩
    rw [hm] at this
    cases this
  have hoo := h.1.1 o ho
  refine rOK_congr h ?_ (fun u => Iff.rfl) (fun u u0 u1 => ?_)
  · unfold relL
    symm
    rw [List.filter_eq_self]
    intro u hu
    rw [decide_eq_true_eq]
    exact hno u hu
  · unfold relOw
    by_cases c : ow u = o
    · exact absurd c (hno u ((h.1.2.2.1 u).mpr ⟨u0, u1, by omega⟩))
    · rw [if_neg c]
theorem rel_fin {ow : Int → Int} {o : Int} {L : List Int} (ho : o ≠ -1) : mOf (relOw ow o) o (relL ow o L) = [] := by
  rw [List.eq_nil_iff_forall_not_mem]
  intro u hu
  have h1 := mOf_mem.mp hu
  have h2 := h1.2
  unfold relOw at h2
  split at h2
  · omega
  · rename_i c; exact c h2
