/-! storing; the law's own rows -/
section JI
variable {I : Nat → Int} {Q : Nat → Int → Int} {P : Int → Nat → Int} {T : Int → Nat → Int → Int} {N : Nat} {ow : Int → Int → Int} {isO : Int → Int → Prop} {L : Int → List Int}
def stI (I : Nat → Int) : Nat → Int := Fup (Fup I 0 (I 0 + 1)) 1 (I 1 + 1)
def stQ (I : Nat → Int) (Q : Nat → Int → Int) (t v : Int) : Nat → Int → Int := Gset (Gset Q 0 (zup (Q 0) (I 0) t)) 1 (zup (Q 1) (I 0) v)
theorem J_sto (h : J I Q P T N ow isO L) {t v : Int} {T1 : Int → Nat → Int → Int} (ht : 0 ≤ t ∧ t ≤ 3) (hv : -1000 ≤ v ∧ v ≤ 1000) (h60 : I 0 < 60) (hall : ∀ s : Int, 0 ≤ s → s < (N : Int) → ¬ (P s 3 = 1 ∧ P s 1 = t ∧ P s 8 = -1)) (ha : ∀ s : Int, 0 ≤ s → s < (N : Int) → adO (P s) (stQ I Q t v 1) (ow s) (L s) t (I 0) (T s) (T1 s)) :
    ∃ (ow1 : Int → Int → Int) (isO1 : Int → Int → Prop) (L1 : Int → List Int), J (stI I) (stQ I Q t v) P T1 N ow1 isO1 L1 ∧ ∀ s : Int, 0 ≤ s → s < (N : Int) → ((P s 3 = 1 ∧ P s 1 = t) → isO1 s (cO Q P ow s) ∧ ow1 s (I 0) = cO Q P ow s ∧ ∃ j : Int, ∀ a : Int, ixO (mOf (ow s) (cO Q P ow s) (L s)) (P s 8) a → plO (stQ I Q t v 1) (P s 2) ((mOf (ow s) (cO Q P ow s) (L s)).length : Int) a (mOf (ow1 s) (cO Q P ow s) (L1 s)) (I 0) j) ∧ (¬ (P s 3 = 1 ∧ P s 1 = t) → ow1 s (I 0) = -1) := by
  have h00 := h.1.2.2.2.2.2.2.1
  have hq0 : Q 0 (I 0) = -1 := h.2.2.2.2.2.2.2.1 (I 0) (Int.le_refl _) h60
  have hV : ∀ u : Int, u ≠ I 0 → Q 1 u = stQ I Q t v 1 u := fun u hu => (zup_n _ _ hu).symm
  have key : ∀ s : Int, ∃ x : (Int → Int) × (Int → Prop) × List Int, 0 ≤ s → s < (N : Int) → rR (T1 s) ∧ rOK (T1 s) x.1 x.2.1 x.2.2 ∧ (∀ u : Int, x.2.1 u ↔ isO s u ∨ (u = I 0 ∧ t = P s 0)) ∧ (∀ u ∈ x.2.2, (u = I 0 ∧ P s 1 = t) ∨ u ∈ L s) ∧ (∀ u : Int, u ≠ I 0 → x.1 u = ow s u) ∧ (P s 2 = 4 → ∀ o : Int, x.2.1 o → so (stQ I Q t v 1) (mOf x.1 o x.2.2)) ∧ (((P s 3 = 1 ∧ P s 1 = t) → x.2.1 (cO Q P ow s) ∧ x.1 (I 0) = cO Q P ow s ∧ ∃ j : Int, ∀ a : Int, ixO (mOf (ow s) (cO Q P ow s) (L s)) (P s 8) a → plO (stQ I Q t v 1) (P s 2) ((mOf (ow s) (cO Q P ow s) (L s)).length : Int) a (mOf x.1 (cO Q P ow s) x.2.2) (I 0) j) ∧ (¬ (P s 3 = 1 ∧ P s 1 = t) → x.1 (I 0) = -1)) := by
    intro s
    by_cases hc : 0 ≤ s ∧ s < (N : Int)
    · obtain ⟨s0, s1⟩ := hc
      have hs := h.2.1 s s0 s1
      have hnew : ow s (I 0) = -1 ∧ I 0 ∉ L s := by
        rcases J_ow h s0 s1 h00.1 h60 with z | z
        · exact z
        · omega
      have hnO : ¬ isO s (I 0) := fun z => by have := (J_own h s0 s1 z).1.2; omega
      have hold : P s 2 = 4 → ∀ o : Int, isO s o → so (stQ I Q t v 1) (mOf (ow s) o (L s)) := fun h4 o ho => so_congr (fun u hu => hV u (fun e => hnew.2 (by rw [← e]; exact (mOf_mem.mp hu).1))) (h.2.2.2.2.1 s s0 s1 h4 o ho)
      obtain ⟨hrR, hso⟩ := ha s s0 s1
      rcases hso with ⟨c, x5, x6, x7⟩ | ⟨c, c2, j, hf, hj0, hins⟩ | ⟨c, c2, hT⟩
      · refine ⟨(ow s, (fun u => isO s u ∨ u = I 0), L s), fun _ _ => ⟨hrR, rOK_own hs.2.1 h00.1 h60 hnew.1 hnO x5 x6 x7, fun u => ⟨fun z => z.imp id (fun y => ⟨y, c⟩), fun z => z.imp id (fun y => y.1)⟩, fun u hu => Or.inr hu, fun _ _ => rfl, fun h4 o ho => ?_, fun z => absurd (by rw [z.2, c]) hs.2.2.2.2.1, fun _ => hnew.1⟩⟩
        rcases ho with ho | ho
        · exact hold h4 o ho
        · have e : mOf (ow s) o (L s) = [] := List.eq_nil_iff_forall_not_mem.mpr fun u hu => by
            have hu := mOf_mem.mp hu
            have := (J_mem h s0 s1 hu.1).2.2.2.2.1.2
            omega
          show so _ (mOf (ow s) o (L s))
          rw [e]
          exact so_nil _
      · rw [J_ring h s0 s1] at hf hj0 hins
        have hcn : P s 8 ≠ -1 := fun z => hall s s0 s1 ⟨c2.1, c2.2, z⟩
        have hio : isO s (cO Q P ow s) := by
          rcases J_cur h s0 s1 with ⟨z, -⟩ | ⟨-, -, -, z, -⟩
          · exact absurd z hcn
          · exact z
        obtain ⟨p, hp⟩ := ins_p hj0.1 hj0.2
        obtain ⟨k1, k2, k3, k4⟩ := ins_ok hs.2.1 hnew.2 h00.1 h60 hnO hio hp hins
        obtain ⟨m1, m2, m3, m4⟩ := mOf_facts hs.2.1.1 hio
        refine ⟨(zup (ow s) (I 0) (cO Q P ow s), isO s, zinsl (L s) p (I 0)), fun _ _ => ⟨hrR, k1, fun u => ⟨fun z => Or.inl z, fun z => by rcases z with z | z; exact z; exact absurd z.2 c⟩, fun u hu => ?_, fun u hu => zup_n _ _ hu, fun h4 o ho => ?_, fun _ => ⟨hio, zup_s _ _ _, j, fun a ha9 => ?_⟩, fun z => absurd c2 z⟩⟩
        · rcases zinsl_mem.mp hu with z | z
          · exact Or.inl ⟨z, c2.2⟩
          · exact Or.inr z
        · show so _ (mOf (zup (ow s) (I 0) (cO Q P ow s)) o (zinsl (L s) p (I 0)))
          by_cases e : o = cO Q P ow s
          · rw [e, k2]
            rw [h4] at hf
            exact so_new (hold h4 _ hio) hf
          · rw [k3 o e]; exact hold h4 o ho
        · show plO _ _ _ a (mOf (zup (ow s) (I 0) (cO Q P ow s)) (cO Q P ow s) (zinsl (L s) p (I 0))) (I 0) j
          rw [k2]
          exact fPl_plO m1 (fun u hu => (m4 u hu).1) k4 hf ha9
      · refine ⟨(ow s, isO s, L s), fun _ _ => ⟨hrR, by rw [hT]; exact hs.2.1, fun u => ⟨fun z => Or.inl z, fun z => by rcases z with z | z; exact z; exact absurd z.2 c⟩, fun u hu => Or.inr hu, fun _ _ => rfl, hold, fun z => absurd z c2, fun _ => hnew.1⟩⟩
    · exact ⟨((fun _ => 0), (fun _ => False), []), fun z0 z1 => absurd ⟨z0, z1⟩ hc⟩
  obtain ⟨X, hX⟩ := Classical.axiomOfChoice key
  obtain ⟨hI, hS, hR, hC, hO, k1, k2, k3, k4⟩ := id h
  have hI1 := J_I1 h
  refine ⟨fun s => (X s).1, fun s => (X s).2.1, fun s => (X s).2.2, ⟨aI_st hI ht hv h60 (by omega), fun s s0 s1 => ?_, fun s s0 s1 => ?_, fun s s0 s1 => ?_, fun s s0 s1 h4 => (hX s s0 s1).2.2.2.2.2.1 h4, fun a a0 a1 hne => ?_, fun hne => ?_, fun u u0 u1 => ?_, ?_⟩, fun s s0 s1 => (hX s s0 s1).2.2.2.2.2.2⟩
  · obtain ⟨b1, b2, b3⟩ := hS s s0 s1
    exact ⟨(hX s s0 s1).1, (hX s s0 s1).2.1, b3⟩
  · obtain ⟨x1, x2, x3, x4, x5, -⟩ := hX s s0 s1
    have hr := hR s s0 s1
    have hs := hS s s0 s1
    constructor
    · intro q
      show (X s).2.1 q ↔ _
      rw [x3 q, hr.1 q]
      show _ ↔ 0 ≤ q ∧ q < 60 ∧ zup (Q 0) (I 0) t q = P s 0
      by_cases e : q = I 0
      · rw [e, zup_s]
        constructor
        · rintro (z | z)
          · rw [hq0] at z
            have := hs.2.2.1
            omega
          · exact ⟨h00.1, h60, z.2⟩
        · intro z
          exact Or.inr ⟨rfl, z.2.2⟩
      · rw [zup_n _ _ e]
        exact ⟨fun z => z.resolve_right (fun y => e y.1), fun z => Or.inl z⟩
    · intro u hu
      show zup (Q 0) (I 0) t u = P s 1
      rcases x4 u hu with z | z
      · rw [z.1, zup_s, z.2]
      · have := (J_mem h s0 s1 z).1.2
        rw [zup_n _ _ (by omega)]
        exact hr.2 u z
  · obtain ⟨x1, x2, x3, x4, x5, -⟩ := hX s s0 s1
    rcases hC s s0 s1 with z | ⟨z0, z1, z2⟩
    · exact Or.inl z
    · have hne : P s 8 ≠ I 0 := by
        rcases J_cur h s0 s1 with ⟨y, -⟩ | ⟨-, y, -⟩ <;> omega
      refine Or.inr ⟨z0, z1, ?_⟩
      rcases z2 with z2 | z2
      · exact Or.inl ((x3 _).mpr (Or.inl z2))
      · exact Or.inr (by show (X s).1 (P s 8) ≠ -1; rw [x5 _ hne]; exact z2)
  · have hne : Q 2 a ≠ -1 := hne
    have := k1 a a0 a1 hne
    show zup (Q 0) (I 0) t (Q 2 a) = a
    rw [zup_n _ _ (fun e => by rw [e, hq0] at this; omega)]
    exact this
  · have hne : I 2 ≠ -1 := hne
    have := k2 hne
    show zup (Q 0) (I 0) t (I 2) ≠ -1
    rw [zup_n _ _ (fun e => by rw [e] at this; exact this hq0)]
    exact this
  · have u0 : I 0 + 1 ≤ u := u0
    show zup (Q 0) (I 0) t u = -1
    rw [zup_n _ _ (by omega)]
    exact k3 u (by omega) u1
  · show I 1 + 1 = pc (zup (Q 0) (I 0) t) (I 0 + 1).toNat
    rw [show (I 0 + 1).toNat = (I 0).toNat + 1 by omega]
    show I 1 + 1 = pc (zup (Q 0) (I 0) t) (I 0).toNat + (if zup (Q 0) (I 0) t ((I 0).toNat : Int) = -1 then 0 else 1)
    rw [pc_congr (f' := Q 0) (I 0).toNat (fun u u0 u1 => by rw [zup_n _ _ (show u ≠ I 0 by omega)]), ← k4, show ((I 0).toNat : Int) = I 0 by omega, zup_s, if_neg (by omega)]
/-- the law's rows hold what the class holds -/
def kC (I : Nat → Int) (N : Nat) (C : Int → Int) : Prop := C 0 = (N : Int) ∧ C 1 = I 0 ∧ C 2 = I 1
def kU (Q : Nat → Int → Int) (U : Int → Int) : Prop := ∀ k : Int, 0 ≤ k → k < 60 → (U k = 0 ∧ Q 0 k = -1) ∨ (U k = Q 0 k + 1 + 8 * (Q 1 k + 1000) ∧ 0 ≤ Q 0 k)
def kG (P : Int → Nat → Int) (N : Nat) (Gr : Int → Int) : Prop := ∀ s : Int, 0 ≤ s → s < (N : Int) → Gr (5 * s) = P s 0 ∧ Gr (5 * s + 1) = P s 1 ∧ Gr (5 * s + 2) = P s 2 ∧ Gr (5 * s + 3) = P s 3 ∧ Gr (5 * s + 4) = P s 4
theorem kG_P {P P' : Int → Nat → Int} {N : Nat} {Gr : Int → Int} (h : kG P N Gr) (hp : ∀ s : Int, 0 ≤ s → s < (N : Int) → ∀ k : Nat, k ≠ 8 → P' s k = P s k) : kG P' N Gr := fun s s0 s1 => by
  rw [hp s s0 s1 0 (by decide), hp s s0 s1 1 (by decide), hp s s0 s1 2 (by decide), hp s s0 s1 3 (by decide), hp s s0 s1 4 (by decide)]
  exact h s s0 s1
theorem upP_k {P : Int → Nat → Int} {s c : Int} (t : Int) {k : Nat} (hk : k ≠ 8) : upI P s (Fup (P s) 8 c) t k = P t k := by
  by_cases e : t = s
  · rw [e, upI_s, Fup_n _ _ hk]
  · rw [upI_n _ _ e]
/-- what the law says of the currents behind a find -/
def isC (I : Nat → Int) (Q : Nat → Int → Int) (P : Int → Nat → Int) (ow : Int → Int → Int) (N : Nat) (f : Int) (W : Int → Int) : Prop := I 2 = (if f < 0 then W 0 else f) ∧ (∀ t : Int, 0 ≤ t → t < 4 → Q 2 t = (if 0 ≤ f ∧ Q 0 f = t then f else W (1 + t))) ∧ ∀ s : Int, 0 ≤ s → s < (N : Int) → P s 8 = (if 0 ≤ f ∧ (Q 0 f = P s 0 ∨ 0 ≤ ow s f) then f else W (5 + s))
def nW (I : Nat → Int) (Q : Nat → Int → Int) (P : Int → Nat → Int) (N : Nat) (W : Int → Int) : Prop := W 0 = I 2 ∧ (∀ t : Int, 0 ≤ t → t < 4 → W (1 + t) = Q 2 t) ∧ ∀ s : Int, 0 ≤ s → s < (N : Int) → W (5 + s) = P s 8
theorem isC_no {W : Int → Int} (hW : nW I Q P N W) : isC I Q P ow N (-1) W := by
  refine ⟨hW.1.symm, fun t t0 t1 => ?_, fun s s0 s1 => ?_⟩
  · rw [if_neg (fun z => by omega)]; exact (hW.2.1 t t0 t1).symm
  · rw [if_neg (fun z => by omega)]; exact (hW.2.2 s s0 s1).symm
theorem isC_mk (h : J I Q P T N ow isO L) {W : Int → Int} (hW : nW I Q P N W) {f : Int} (hf : rAt 60 (Q 0) f ≠ -1) : isC (Fup I 2 f) (Gset Q 2 (zup (Q 2) (Q 0 f) f)) (mkP P T f (N : Int)) ow N f W := by
  obtain ⟨-, h1, h2, h3⟩ := J_mk h hf
  refine ⟨by rw [if_neg (by omega)]; rfl, fun t t0 t1 => ?_, fun s s0 s1 => ?_⟩
  · show zup (Q 2) (Q 0 f) f t = if 0 ≤ f ∧ Q 0 f = t then f else W (1 + t)
    by_cases c : t = Q 0 f
    · rw [c, zup_s, if_pos ⟨h1.1, rfl⟩]
    · rw [zup_n _ _ c, if_neg (fun z => c z.2.symm)]; exact (hW.2.1 t t0 t1).symm
  · rw [h3 s s0 s1, mkP_k (by decide)]
    by_cases c : Q 0 f = P s 0 ∨ 0 ≤ ow s f
    · rw [if_pos c, if_pos ⟨h1.1, c⟩]
    · rw [if_neg c, if_neg (fun z => c z.2)]; exact (hW.2.2 s s0 s1).symm
end JI
