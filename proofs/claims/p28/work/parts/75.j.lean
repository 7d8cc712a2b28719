/-! what holds of the class between calls -/
def jC (P : Int → Nat → Int) (N : Nat) (ow : Int → Int → Int) (isO : Int → Int → Prop) : Prop := ∀ s : Int, 0 ≤ s → s < (N : Int) → P s 8 = -1 ∨ (0 ≤ P s 8 ∧ P s 8 < 60 ∧ (isO s (P s 8) ∨ ow s (P s 8) ≠ -1))
def jO (Q : Nat → Int → Int) (P : Int → Nat → Int) (N : Nat) (ow : Int → Int → Int) (isO : Int → Int → Prop) (L : Int → List Int) : Prop := ∀ s : Int, 0 ≤ s → s < (N : Int) → P s 2 = 4 → ∀ o : Int, isO s o → so (Q 1) (mOf (ow s) o (L s))
def jK (I : Nat → Int) (Q : Nat → Int → Int) : Prop := (∀ t : Int, 0 ≤ t → t < 4 → Q 2 t ≠ -1 → Q 0 (Q 2 t) = t) ∧ (I 2 ≠ -1 → Q 0 (I 2) ≠ -1) ∧ (∀ u : Int, I 0 ≤ u → u < 60 → Q 0 u = -1) ∧ I 1 = pc (Q 0) (I 0).toNat
def J (I : Nat → Int) (Q : Nat → Int → Int) (P : Int → Nat → Int) (T : Int → Nat → Int → Int) (N : Nat) (ow : Int → Int → Int) (isO : Int → Int → Prop) (L : Int → List Int) : Prop := aI I Q N ∧ aS P T N ow isO L ∧ aR Q P N isO L ∧ jC P N ow isO ∧ jO Q P N ow isO L ∧ jK I Q
/-- the owner of the current set -/
def cO (Q : Nat → Int → Int) (P : Int → Nat → Int) (ow : Int → Int → Int) (s : Int) : Int := if P s 8 = -1 then -1 else if Q 0 (P s 8) = P s 0 then P s 8 else ow s (P s 8)
section JF
variable {I : Nat → Int} {Q : Nat → Int → Int} {P : Int → Nat → Int} {T : Int → Nat → Int → Int} {N : Nat} {ow : Int → Int → Int} {isO : Int → Int → Prop} {L : Int → List Int}
theorem J_I1 (h : J I Q P T N ow isO L) : 0 ≤ I 1 ∧ I 1 ≤ I 0 := by
  have h1 := h.2.2.2.2.2.2.2.2
  have h2 := pc_rng (Q 0) (I 0).toNat
  have h3 := h.1.2.2.2.2.2.2.1
  omega
/-- a member of some set -/
theorem J_mem (h : J I Q P T N ow isO L) {s : Int} (s0 : 0 ≤ s) (s1 : s < (N : Int)) {u : Int} (hu : u ∈ L s) : (0 ≤ u ∧ u < I 0) ∧ Q 0 u = P s 1 ∧ ow s u ≠ -1 ∧ isO s (ow s u) ∧ (0 ≤ ow s u ∧ ow s u < I 0) ∧ Q 0 (ow s u) = P s 0 := by
  have hs := h.2.1 s s0 s1
  have hr := h.2.2.1 s s0 s1
  have h0 := h.1.2.2.2.2.2.2.1
  obtain ⟨u0, u1, u2⟩ := (hs.2.1.1.2.2.1 u).mp hu
  have ho := hs.2.1.1.2.2.2 u hu
  obtain ⟨q0, q1, q2⟩ := (hr.1 _).mp ho
  have hu0 := hr.2 u hu
  have n1 : u < I 0 := by
    rcases Int.lt_or_le u (I 0) with z | z
    · exact z
    · have := h.2.2.2.2.2.2.2.1 u z u1
      have := hs.2.2.2.1
      omega
  have n2 : ow s u < I 0 := by
    rcases Int.lt_or_le (ow s u) (I 0) with z | z
    · exact z
    · have := h.2.2.2.2.2.2.2.1 _ z q1
      have := hs.2.2.1
      omega
  exact ⟨⟨u0, n1⟩, hu0, u2, ho, ⟨q0, n2⟩, q2⟩
theorem J_own (h : J I Q P T N ow isO L) {s : Int} (s0 : 0 ≤ s) (s1 : s < (N : Int)) {q : Int} (hq : isO s q) : (0 ≤ q ∧ q < I 0) ∧ Q 0 q = P s 0 ∧ ow s q = -1 ∧ q ∉ L s := by
  have hs := h.2.1 s s0 s1
  obtain ⟨q0, q1, q2⟩ := ((h.2.2.1 s s0 s1).1 _).mp hq
  have ho := (hs.2.1.1.1 q hq).2.2
  refine ⟨⟨q0, ?_⟩, q2, ho, fun z => ((hs.2.1.1.2.2.1 q).mp z).2.2 ho⟩
  rcases Int.lt_or_le q (I 0) with z | z
  · exact z
  · have := h.2.2.2.2.2.2.2.1 _ z q1
    have := hs.2.2.1
    omega
/-- what a record's owner is -/
theorem J_ow (h : J I Q P T N ow isO L) {s : Int} (s0 : 0 ≤ s) (s1 : s < (N : Int)) {u : Int} (u0 : 0 ≤ u) (u1 : u < 60) : (ow s u = -1 ∧ u ∉ L s) ∨ (0 ≤ ow s u ∧ ow s u < I 0 ∧ u < I 0 ∧ u ∈ L s ∧ isO s (ow s u) ∧ Q 0 u = P s 1 ∧ Q 0 (ow s u) = P s 0) := by
  have hs := h.2.1 s s0 s1
  by_cases c : ow s u = -1
  · exact Or.inl ⟨c, fun z => ((hs.2.1.1.2.2.1 u).mp z).2.2 c⟩
  · have hu := (hs.2.1.1.2.2.1 u).mpr ⟨u0, u1, c⟩
    have := J_mem h s0 s1 hu
    exact Or.inr ⟨this.2.2.2.2.1.1, this.2.2.2.2.1.2, this.1.2, hu, this.2.2.2.1, this.2.1, this.2.2.2.2.2⟩
theorem J_new (h : J I Q P T N ow isO L) {u : Int} (u0 : 0 ≤ u) (u1 : u < 60) (hu : Q 0 u ≠ -1) : u < I 0 := by
  rcases Int.lt_or_le u (I 0) with z | z
  · exact z
  · exact absurd (h.2.2.2.2.2.2.2.1 _ z u1) hu
/-- the current record of a set type -/
theorem J_cur (h : J I Q P T N ow isO L) {s : Int} (s0 : 0 ≤ s) (s1 : s < (N : Int)) : (P s 8 = -1 ∧ cO Q P ow s = -1) ∨ (0 ≤ P s 8 ∧ P s 8 < I 0 ∧ Q 0 (P s 8) ≠ -1 ∧ isO s (cO Q P ow s) ∧ (0 ≤ cO Q P ow s ∧ cO Q P ow s < I 0) ∧ ((Q 0 (P s 8) = P s 0 ∧ cO Q P ow s = P s 8 ∧ isO s (P s 8) ∧ P s 8 ∉ L s) ∨ (Q 0 (P s 8) ≠ P s 0 ∧ cO Q P ow s = ow s (P s 8) ∧ P s 8 ∈ L s ∧ ¬ isO s (P s 8)))) := by
  have hs := h.2.1 s s0 s1
  rcases h.2.2.2.1 s s0 s1 with c | ⟨c0, c1, c2⟩
  · exact Or.inl ⟨c, if_pos c⟩
  · have hne : ¬ P s 8 = -1 := by omega
    right
    rcases c2 with c2 | c2
    · have ho := J_own h s0 s1 c2
      have he : cO Q P ow s = P s 8 := by unfold cO; rw [if_neg hne, if_pos ho.2.1]
      rw [he]
      exact ⟨c0, ho.1.2, by rw [ho.2.1]; omega, c2, ho.1, Or.inl ⟨ho.2.1, rfl, c2, ho.2.2.2⟩⟩
    · have hm := (hs.2.1.1.2.2.1 _).mpr ⟨c0, c1, c2⟩
      have hj := J_mem h s0 s1 hm
      have hn := hs.2.2.2.2.1
      have hq : ¬ Q 0 (P s 8) = P s 0 := by rw [hj.2.1]; exact fun z => hn z.symm
      have he : cO Q P ow s = ow s (P s 8) := by unfold cO; rw [if_neg hne, if_neg hq]
      rw [he]
      exact ⟨c0, hj.1.2, by rw [hj.2.1]; omega, hj.2.2.2.1, hj.2.2.2.2.1, Or.inr ⟨hq, rfl, hm, (rC_no hs.2.1.1 hm).1⟩⟩
theorem J_ring (h : J I Q P T N ow isO L) {s : Int} (s0 : 0 ≤ s) (s1 : s < (N : Int)) : rAt 60 (T s 5) (P s 8) = cO Q P ow s := by
  have hs := h.2.1 s s0 s1
  have h0 := h.1.2.2.2.2.2.2.1
  rcases J_cur h s0 s1 with ⟨c, e⟩ | ⟨c0, c1, -, -, -, c⟩
  · rw [e, c]; exact rAt_no (by omega)
  · rw [rAt_in c0 (by omega)]
    have h5 := hs.2.1.2.1 (P s 8) c0 (by omega)
    rcases c with ⟨-, e, c, -⟩ | ⟨-, e, -, c⟩
    · rw [e]; exact h5.1 c
    · rw [e]; exact h5.2 c
theorem J_aC (h : J I Q P T N ow isO L) : aC P T N := fun s s0 s1 hne => by
  rw [J_ring h s0 s1]
  rcases J_cur h s0 s1 with ⟨c, -⟩ | ⟨-, -, -, -, c, -⟩
  · exact absurd c hne
  · omega
theorem J_mm (h : J I Q P T N ow isO L) {s : Int} (s0 : 0 ≤ s) (s1 : s < (N : Int)) {o : Int} (ho : isO s o) : (mOf (ow s) o (L s)).Nodup ∧ ((mOf (ow s) o (L s)).length : Int) ≤ 60 ∧ ∀ u ∈ mOf (ow s) o (L s), (0 ≤ u ∧ u < I 0) ∧ u ≠ o ∧ ow s u = o ∧ u ∈ L s ∧ Q 0 u = P s 1 ∧ Q 0 u ≠ -1 := by
  have hs := h.2.1 s s0 s1
  obtain ⟨m1, m2, m3, m4⟩ := mOf_facts hs.2.1.1 ho
  refine ⟨m1, m3, fun u hu => ?_⟩
  obtain ⟨-, -, a2, a3, a4⟩ := m4 u hu
  have hj := J_mem h s0 s1 a4
  have := hs.2.2.2.1
  exact ⟨hj.1, a2, a3, a4, hj.2.1, by omega⟩
/-- a record becomes current -/
theorem mkP_k {r n s : Int} {k : Nat} (hk : k ≠ 8) : mkP P T r n s k = P s k := by
  unfold mkP
  split
  · exact Fup_n _ _ hk
  · rfl
theorem mkP_8 {r n s : Int} (s0 : 0 ≤ s) (s1 : s < n) : mkP P T r n s 8 = if T s 5 r = -1 then P s 8 else r := by
  unfold mkP
  by_cases c : T s 5 r = -1
  · rw [if_neg (fun z => z.2.2 c), if_pos c]
  · rw [if_pos ⟨s0, s1, c⟩, if_neg c, Fup_s]
theorem J_at (h : J I Q P T N ow isO L) {s : Int} (s0 : 0 ≤ s) (s1 : s < (N : Int)) {u : Int} (u0 : 0 ≤ u) (u1 : u < 60) : T s 5 u = -1 ↔ ¬ (Q 0 u = P s 0 ∨ 0 ≤ ow s u) := by
  have hs := h.2.1 s s0 s1
  have h5 := (rOK_ring hs.2.1 u0 u1).2.2.2.2
  rw [h5]
  have hi := ((h.2.2.1 s s0 s1).1 u)
  rcases J_ow h s0 s1 u0 u1 with ⟨c, -⟩ | ⟨c, -⟩
  · constructor
    · rintro ⟨a, -⟩ (b | b)
      · exact a (hi.mpr ⟨u0, u1, b⟩)
      · omega
    · intro a
      exact ⟨fun b => a (Or.inl (hi.mp b).2.2), c⟩
  · constructor
    · rintro ⟨-, a⟩
      omega
    · intro a
      exact absurd (Or.inr c) a
theorem J_mk (h : J I Q P T N ow isO L) {f : Int} (hf : rAt 60 (Q 0) f ≠ -1) : J (Fup I 2 f) (Gset Q 2 (zup (Q 2) (Q 0 f) f)) (mkP P T f (N : Int)) T N ow isO L ∧ (0 ≤ f ∧ f < 60) ∧ Q 0 f ≠ -1 ∧ ∀ s : Int, 0 ≤ s → s < (N : Int) → mkP P T f (N : Int) s 8 = if Q 0 f = P s 0 ∨ 0 ≤ ow s f then f else P s 8 := by
  have hf0 := rAt_ne hf
  rw [rAt_in hf0.1 hf0.2] at hf
  have f1 : f < 60 := hf0.2
  have h8 : ∀ s : Int, 0 ≤ s → s < (N : Int) → mkP P T f (N : Int) s 8 = if Q 0 f = P s 0 ∨ 0 ≤ ow s f then f else P s 8 := fun s s0 s1 => by
    rw [mkP_8 s0 s1]
    have := J_at h s0 s1 hf0.1 f1
    by_cases c : T s 5 f = -1
    · rw [if_pos c, if_neg (this.mp c)]
    · rw [if_neg c, if_pos (Decidable.byContradiction fun z => c (this.mpr z))]
  obtain ⟨hI, hS, hR, hC, hO, k1, k2, k3, k4⟩ := id h
  have hq := hI.2.2.2.1 f hf0.1 f1
  refine ⟨⟨?_, ?_, ?_, ?_, ?_, ?_, ?_, ?_, ?_⟩, ⟨hf0.1, f1⟩, hf, h8⟩
  · obtain ⟨a1, a2, a3, a4, a5, a6, a7, a8⟩ := hI
    refine ⟨a1, a2, ⟨by show -1 ≤ f; omega, f1⟩, a4, a5, fun t t0 t1 => ?_, a7, a8⟩
    show -1 ≤ zup (Q 2) (Q 0 f) f t ∧ zup (Q 2) (Q 0 f) f t < 60
    by_cases c : t = Q 0 f
    · rw [c, zup_s]; omega
    · rw [zup_n _ _ c]; exact a6 t t0 t1
  · intro s s0 s1
    obtain ⟨b1, b2, b3, b4, b5, b6, b7, b8, b9⟩ := hS s s0 s1
    rw [mkP_k (by decide), mkP_k (by decide), mkP_k (by decide), mkP_k (by decide), mkP_k (by decide), h8 s s0 s1]
    refine ⟨b1, b2, b3, b4, b5, b6, b7, b8, ?_⟩
    split <;> omega
  · intro s s0 s1
    rw [mkP_k (by decide), mkP_k (by decide)]
    exact hR s s0 s1
  · intro s s0 s1
    rw [h8 s s0 s1]
    by_cases c : Q 0 f = P s 0 ∨ 0 ≤ ow s f
    · rw [if_pos c]
      refine Or.inr ⟨hf0.1, f1, ?_⟩
      rcases c with c | c
      · exact Or.inl (((hR s s0 s1).1 f).mpr ⟨hf0.1, f1, c⟩)
      · exact Or.inr (by omega)
    · rw [if_neg c]; exact hC s s0 s1
  · intro s s0 s1
    rw [mkP_k (by decide)]
    exact hO s s0 s1
  · intro t t0 t1
    show zup (Q 2) (Q 0 f) f t ≠ -1 → Q 0 (zup (Q 2) (Q 0 f) f t) = t
    by_cases c : t = Q 0 f
    · rw [c, zup_s]; exact fun _ => rfl
    · rw [zup_n _ _ c]; exact k1 t t0 t1
  · exact fun _ => hf
  · exact k3
  · exact k4
/-- asking what would be erased changes nothing that is looked at -/
theorem J_aF (h : J I Q P T N ow isO L) {I1 : Nat → Int} {Q1 : Nat → Int → Int} (ha : aF I I1 Q Q1) : J I1 Q1 P T N ow isO L := by
  obtain ⟨hI, hS, hR, hC, hO, hK⟩ := h
  refine ⟨aF_aI ha hI, hS, ?_, hC, ?_, ?_⟩
  · unfold aR; rw [ha.2 0 (by decide) (by decide)]; exact hR
  · unfold jO; rw [ha.2 1 (by decide) (by decide)]; exact hO
  · unfold jK; rw [ha.2 0 (by decide) (by decide), ha.2 2 (by decide) (by decide), ha.1 0 (by decide), ha.1 1 (by decide), ha.1 2 (by decide)]; exact hK
/-- one set type changes -/
theorem J_set (h : J I Q P T N ow isO L) {s c : Int} (s0 : 0 ≤ s) (s1 : s < (N : Int)) {T1 : Nat → Int → Int} {ow1 : Int → Int} {L1 : List Int} (hr : rR T1) (hk : rOK T1 ow1 (isO s) L1) (hm : ∀ u ∈ L1, Q 0 u = P s 1) (hc : c = -1 ∨ (0 ≤ c ∧ c < 60 ∧ (isO s c ∨ ow1 c ≠ -1))) (hso : P s 2 = 4 → ∀ o : Int, isO s o → so (Q 1) (mOf ow1 o L1)) :
    J I Q (upI P s (Fup (P s) 8 c)) (upI T s T1) N (upI ow s ow1) isO (upI L s L1) := by
  obtain ⟨hI, hS, hR, hC, hO, hK⟩ := h
  refine ⟨hI, fun t t0 t1 => ?_, fun t t0 t1 => ?_, fun t t0 t1 => ?_, fun t t0 t1 => ?_, hK⟩
  · by_cases e : t = s
    · subst e
      rw [upI_s, upI_s, upI_s, upI_s, Fup_s, Fup_n _ _ (by decide), Fup_n _ _ (by decide), Fup_n _ _ (by decide), Fup_n _ _ (by decide), Fup_n _ _ (by decide)]
      obtain ⟨b1, b2, b3, b4, b5, b6, b7, b8, b9⟩ := hS t t0 t1
      exact ⟨hr, hk, b3, b4, b5, b6, b7, b8, by omega⟩
    · rw [upI_n _ _ e, upI_n _ _ e, upI_n _ _ e, upI_n _ _ e]
      exact hS t t0 t1
  · by_cases e : t = s
    · subst e
      rw [upI_s, upI_s, Fup_n _ _ (by decide), Fup_n _ _ (by decide)]
      exact ⟨(hR t t0 t1).1, hm⟩
    · rw [upI_n _ _ e, upI_n _ _ e]
      exact hR t t0 t1
  · by_cases e : t = s
    · subst e
      rw [upI_s, upI_s, Fup_s]
      exact hc
    · rw [upI_n _ _ e, upI_n _ _ e]
      exact hC t t0 t1
  · by_cases e : t = s
    · subst e
      rw [upI_s, upI_s, upI_s, Fup_n _ _ (by decide)]
      exact hso
    · rw [upI_n _ _ e, upI_n _ _ e, upI_n _ _ e]
      exact hO t t0 t1
end JF
/-! one set type: a member in, a member out -/
theorem ins_ok {T T1 : Nat → Int → Int} {ow : Int → Int} {isO : Int → Prop} {L : List Int} {r q j p : Int} (hk : rOK T ow isO L) (hr : r ∉ L) (r0 : 0 ≤ r) (r1 : r < 60) (hro : ¬ isO r) (hq : isO q) (hj : j = ((mOf ow q (L.take p.toNat)).length : Int)) (hi : insT T T1 ow L r q j) :
    rOK T1 (zup ow r q) isO (zinsl L p r) ∧ mOf (zup ow r q) q (zinsl L p r) = zinsl (mOf ow q L) j r ∧ (∀ o : Int, o ≠ q → mOf (zup ow r q) o (zinsl L p r) = mOf ow o L) ∧ (0 ≤ j ∧ j ≤ ((mOf ow q L).length : Int)) := by
  refine ⟨rOK_ins hk hj hr r0 r1 hro hq hi.1 hi.2.1 hi.2.2.1, by rw [mOf_ins hr, hj], fun o ho => mOf_ins_other hr (fun z => ho z.symm), ?_⟩
  have := cnt_le (ow := ow) (o := q) (p := p) (L := L)
  omega
theorem out_ok {T T1 : Nat → Int → Int} {ow : Int → Int} {isO : Int → Prop} {L : List Int} {r : Int} (hk : rOK T ow isO L) (hr : r ∈ L) (ht : outT T T1 r) :
    rOK T1 (zup ow r (-1)) isO (zdel L r) ∧ mOf (zup ow r (-1)) (ow r) (zdel L r) = zdel (mOf ow (ow r) L) r ∧ ∀ o : Int, isO o → o ≠ ow r → mOf (zup ow r (-1)) o (zdel L r) = mOf ow o L :=
  ⟨rOK_out hk hr ht.1 ht.2.1 ht.2.2.1, mOf_del rfl, fun o ho hne => mOf_del_other (fun z => hne z.symm) (by have := (hk.1.1 o ho).1; omega)⟩
theorem so_new {V : Int → Int} {P8 : Int} {ow : Int → Int} {r q j : Int} {L : List Int} (hs : so V (mOf ow q L)) (hf : fPl P8 4 V ow r q L j) : so V (zinsl (mOf ow q L) j r) := by
  obtain ⟨x1, x2, x3⟩ := hf.2.2.2 rfl
  exact so_ins hs x1.1 x1.2 x2 x3
/-- the place looks at values of the new one and the members alone -/
theorem plO_at {V : Int → Int} {n a a' : Int} {M : List Int} {r j : Int} (h : plO V 4 n a M r j) : plO V 4 n a' M r j := by
  obtain ⟨h1, h2, h3, h4, h5, h6, h7, h8⟩ := h
  exact ⟨h1, h2, h3, h4, h5, fun z => absurd z (by decide), fun z => absurd z (by decide), h8⟩
theorem ixO_ex (M : List Int) (r : Int) : ∃ v : Int, ixO M r v := by
  by_cases c : r ∈ M
  · obtain ⟨p, p0, p1, hp⟩ := zat_of_mem c
    exact ⟨p, Or.inr ⟨p0, p1, hp⟩⟩
  · exact ⟨-1, Or.inl ⟨rfl, c⟩⟩
section JG
variable {I : Nat → Int} {Q : Nat → Int → Int} {P : Int → Nat → Int} {T : Int → Nat → Int → Int} {N : Nat} {ow : Int → Int → Int} {isO : Int → Int → Prop} {L : Int → List Int}
/-- a record is put into a set, and becomes the set type's current one -/
theorem J_ins (h : J I Q P T N ow isO L) {s r q j p : Int} {T0 T1 : Nat → Int → Int} {ow0 : Int → Int} {L0 : List Int} (s0 : 0 ≤ s) (s1 : s < (N : Int)) (hk : rOK T0 ow0 (isO s) L0) (hm : ∀ u ∈ L0, Q 0 u = P s 1) (hso : P s 2 = 4 → ∀ o : Int, isO s o → so (Q 1) (mOf ow0 o L0)) (hr : r ∉ L0) (r0 : 0 ≤ r) (r1 : r < 60) (hrm : Q 0 r = P s 1) (hq : isO s q) (hj : j = ((mOf ow0 q (L0.take p.toNat)).length : Int)) (hf : fPl (P s 8) (P s 2) (Q 1) ow0 r q L0 j) (hi : insT T0 T1 ow0 L0 r q j) :
    J I Q (upI P s (Fup (P s) 8 r)) (upI T s T1) N (upI ow s (zup ow0 r q)) isO (upI L s (zinsl L0 p r)) ∧ (∀ a : Int, ixO (mOf ow0 q L0) (P s 8) a → plO (Q 1) (P s 2) ((mOf ow0 q L0).length : Int) a (mOf (zup ow0 r q) q (zinsl L0 p r)) r j) ∧ (mOf (zup ow0 r q) q (zinsl L0 p r)).length = (mOf ow0 q L0).length + 1 := by
  have hs := h.2.1 s s0 s1
  have hro : ¬ isO s r := fun z => by
    have := (((h.2.2.1 s s0 s1).1 r).mp z).2.2
    exact hs.2.2.2.2.1 (by rw [← this, hrm])
  obtain ⟨g1, g2, g3, g4⟩ := ins_ok hk hr r0 r1 hro hq hj hi
  obtain ⟨m1, m2, m3, m4⟩ := mOf_facts hk.1 hq
  refine ⟨J_set h s0 s1 hi.2.2.2 g1 (fun u hu => ?_) (Or.inr ⟨r0, r1, Or.inr (by rw [zup_s]; have := (hk.1.1 q hq).1; omega)⟩) (fun h4 o ho => ?_), fun a ha => ?_, ?_⟩
  · rcases zinsl_mem.mp hu with z | z
    · rw [z]; exact hrm
    · exact hm u z
  · by_cases e : o = q
    · subst e
      rw [g2]
      rw [h4] at hf
      exact so_new (hso h4 o ho) hf
    · rw [g3 o e]; exact hso h4 o ho
  · rw [g2]
    exact fPl_plO m1 (fun u hu => (m4 u hu).1) g4 hf ha
  · rw [g2, zinsl_len]
end JG
