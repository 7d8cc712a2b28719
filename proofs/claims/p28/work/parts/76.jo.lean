/-! what each call of the class leaves -/
theorem so_pw {V : Int → Int} {l : List Int} : so V l ↔ l.Pairwise (fun a b => V a ≤ V b) := by
  have hz : ∀ (i : Nat) (hi : i < l.length), zat l (i : Int) = l[i] := fun i hi => by
    rw [zat_nat, List.getD_eq_getElem?_getD, List.getElem?_eq_getElem hi]; rfl
  rw [List.pairwise_iff_getElem]
  constructor
  · intro h i j hi hj hij
    have := h (i : Int) (j : Int) (by omega) (by omega) (by omega)
    rwa [hz i hi, hz j hj] at this
  · intro h i j i0 ij j1
    obtain ⟨a, rfl⟩ := Int.eq_ofNat_of_zero_le i0
    obtain ⟨b, rfl⟩ := Int.eq_ofNat_of_zero_le (show 0 ≤ j by omega)
    have ha : a < l.length := by have : (a : Int) < l.length := by omega
                                 omega
    have hb : b < l.length := by omega
    have := h a b ha hb (by omega)
    show V (zat l (a : Int)) ≤ V (zat l (b : Int))
    rw [hz a ha, hz b hb]
    exact this
theorem so_filter {V : Int → Int} {l : List Int} (p : Int → Bool) (h : so V l) : so V (l.filter p) := so_pw.mpr ((so_pw.mp h).filter p)
section JH
variable {I : Nat → Int} {Q : Nat → Int → Int} {P : Int → Nat → Int} {T : Int → Nat → Int → Int} {N : Nat} {ow : Int → Int → Int} {isO : Int → Int → Prop} {L : Int → List Int}
theorem J_i2 (h : J I Q P T N ow isO L) (hm : I 2 ≠ -1) : 0 ≤ I 2 ∧ I 2 < I 0 ∧ I 2 < 60 ∧ Q 0 (I 2) ≠ -1 := by
  have h1 := h.1.2.2.1
  have h2 := h.2.2.2.2.2.2.1 hm
  exact ⟨by omega, J_new h (by omega) h1.2 h2, h1.2, h2⟩
theorem J_isM (h : J I Q P T N ow isO L) {s : Int} (s0 : 0 ≤ s) (s1 : s < (N : Int)) : (I 2 ≠ -1 ∧ (rAt 60 (T s 5) (I 2) ≠ -1 ∧ rAt 60 (T s 5) (I 2) ≠ I 2)) ↔ (0 ≤ I 2 ∧ 0 ≤ ow s (I 2)) := by
  have hs := h.2.1 s s0 s1
  by_cases c : I 2 = -1
  · exact ⟨fun z => absurd c z.1, fun z => by omega⟩
  · obtain ⟨a0, a1, a2, -⟩ := J_i2 h c
    have hro := ring_ow hs.2.1 a0 a2
    rw [rAt_in a0 (by omega)]
    constructor
    · rintro ⟨-, z⟩
      refine ⟨a0, ?_⟩
      rcases J_ow h s0 s1 a0 a2 with ⟨y, -⟩ | ⟨y, -⟩
      · exact absurd ((hro.1 z).trans y) z.1
      · exact y
    · rintro ⟨-, z⟩
      exact ⟨c, Decidable.byContradiction fun y => by have := hro.2 y; omega⟩
theorem J_con (h : J I Q P T N ow isO L) {s j p : Int} {T1 : Nat → Int → Int} (s0 : 0 ≤ s) (s1 : s < (N : Int)) (hB : I 2 ≠ -1 ∧ Q 0 (I 2) = P s 1 ∧ ¬ (T s 5 (I 2) ≠ -1 ∧ T s 5 (I 2) ≠ I 2) ∧ rAt 60 (T s 5) (P s 8) ≠ -1) (hj : j = ((mOf (ow s) (rAt 60 (T s 5) (P s 8)) ((L s).take p.toNat)).length : Int)) (hf : fPl (P s 8) (P s 2) (Q 1) (ow s) (I 2) (rAt 60 (T s 5) (P s 8)) (L s) j) (hi : insT (T s) T1 (ow s) (L s) (I 2) (rAt 60 (T s 5) (P s 8)) j) :
    J I Q (upI P s (Fup (P s) 8 (I 2))) (upI T s T1) N (upI ow s (zup (ow s) (I 2) (cO Q P ow s))) isO (upI L s (zinsl (L s) p (I 2))) ∧ (∀ a : Int, ixO (mOf (ow s) (cO Q P ow s) (L s)) (P s 8) a → plO (Q 1) (P s 2) ((mOf (ow s) (cO Q P ow s) (L s)).length : Int) a (mOf (zup (ow s) (I 2) (cO Q P ow s)) (cO Q P ow s) (zinsl (L s) p (I 2))) (I 2) j) ∧ (mOf (zup (ow s) (I 2) (cO Q P ow s)) (cO Q P ow s) (zinsl (L s) p (I 2))).length = (mOf (ow s) (cO Q P ow s) (L s)).length + 1 ∧ isO s (cO Q P ow s) := by
  have hs := h.2.1 s s0 s1
  obtain ⟨a0, a1, a2, a3⟩ := J_i2 h hB.1
  have hw := (ring_ow hs.2.1 a0 a2).2 hB.2.2.1
  rw [J_ring h s0 s1] at hB hj hf hi
  have hio : isO s (cO Q P ow s) := by
    rcases J_cur h s0 s1 with ⟨-, c⟩ | ⟨-, -, -, c, -⟩
    · exact absurd c hB.2.2.2
    · exact c
  obtain ⟨z1, z2, z3⟩ := J_ins h s0 s1 hs.2.1 (fun u hu => (J_mem h s0 s1 hu).2.1) (fun h4 => h.2.2.2.2.1 s s0 s1 h4) (fun z => ((hs.2.1.1.2.2.1 _).mp z).2.2 hw) a0 a2 hB.2.1 hio hj hf hi
  exact ⟨z1, z2, z3, hio⟩
theorem J_rec (h : J I Q P T N ow isO L) {s q j p : Int} {T1 T2 : Nat → Int → Int} (s0 : 0 ≤ s) (s1 : s < (N : Int)) (hm : 0 ≤ I 2 ∧ 0 ≤ ow s (I 2)) (hq : isO s q) (ht : outT (T s) T1 (I 2)) (hj : j = ((mOf (zup (ow s) (I 2) (-1)) q ((zdel (L s) (I 2)).take p.toNat)).length : Int)) (hf : fPl (P s 8) (P s 2) (Q 1) (zup (ow s) (I 2) (-1)) (I 2) q (zdel (L s) (I 2)) j) (hi : insT T1 T2 (zup (ow s) (I 2) (-1)) (zdel (L s) (I 2)) (I 2) q j) :
    J I Q (upI P s (Fup (P s) 8 (I 2))) (upI T s T2) N (upI ow s (zup (zup (ow s) (I 2) (-1)) (I 2) q)) isO (upI L s (zinsl (zdel (L s) (I 2)) p (I 2))) ∧ (∀ a : Int, ixO (mOf (zup (ow s) (I 2) (-1)) q (zdel (L s) (I 2))) (P s 8) a → plO (Q 1) (P s 2) ((mOf (zup (ow s) (I 2) (-1)) q (zdel (L s) (I 2))).length : Int) a (mOf (zup (zup (ow s) (I 2) (-1)) (I 2) q) q (zinsl (zdel (L s) (I 2)) p (I 2))) (I 2) j) ∧ (mOf (zup (zup (ow s) (I 2) (-1)) (I 2) q) q (zinsl (zdel (L s) (I 2)) p (I 2))).length = (mOf (zup (ow s) (I 2) (-1)) q (zdel (L s) (I 2))).length + 1 ∧ (ow s (I 2) = q → mOf (zup (ow s) (I 2) (-1)) q (zdel (L s) (I 2)) = zdel (mOf (ow s) q (L s)) (I 2)) ∧ (ow s (I 2) ≠ q → mOf (zup (ow s) (I 2) (-1)) q (zdel (L s) (I 2)) = mOf (ow s) q (L s)) := by
  have hs := h.2.1 s s0 s1
  obtain ⟨a0, a1, a2, a3⟩ := J_i2 h (show I 2 ≠ -1 by omega)
  have hL : I 2 ∈ L s := by
    rcases J_ow h s0 s1 a0 a2 with ⟨y, -⟩ | ⟨-, -, -, y, -⟩
    · omega
    · exact y
  have hj1 := J_mem h s0 s1 hL
  obtain ⟨g1, g2, g3⟩ := out_ok hs.2.1 hL ht
  obtain ⟨z1, z2, z3⟩ := J_ins h s0 s1 g1 (fun u hu => (J_mem h s0 s1 (zdel_mem.mp hu).1).2.1) (fun h4 o ho => by
    by_cases e : o = ow s (I 2)
    · rw [e, g2]; exact so_del (J_mm h s0 s1 hj1.2.2.2.1).1 (h.2.2.2.2.1 s s0 s1 h4 _ hj1.2.2.2.1)
    · rw [g3 o ho e]; exact h.2.2.2.2.1 s s0 s1 h4 o ho) (fun z => (zdel_mem.mp z).2 rfl) a0 a2 hj1.2.1 hq hj hf hi
  exact ⟨z1, z2, z3, fun e => by rw [← e]; exact g2, fun e => g3 q hq (fun z => e z.symm)⟩
theorem J_dis (h : J I Q P T N ow isO L) {s : Int} {T1 : Nat → Int → Int} (s0 : 0 ≤ s) (s1 : s < (N : Int)) (hm : 0 ≤ I 2 ∧ 0 ≤ ow s (I 2)) (ht : outT (T s) T1 (I 2)) :
    J I Q (upI P s (if P s 8 = I 2 then Fup (P s) 8 (-1) else P s)) (upI T s T1) N (upI ow s (zup (ow s) (I 2) (-1))) isO (upI L s (zdel (L s) (I 2))) ∧ ((mOf (zup (ow s) (I 2) (-1)) (ow s (I 2)) (zdel (L s) (I 2))).length : Int) = ((mOf (ow s) (ow s (I 2)) (L s)).length : Int) - 1 ∧ isO s (ow s (I 2)) ∧ (upI P s (if P s 8 = I 2 then Fup (P s) 8 (-1) else P s)) s 8 = if P s 8 = I 2 then -1 else P s 8 := by
  have hs := h.2.1 s s0 s1
  obtain ⟨a0, a1, a2, a3⟩ := J_i2 h (show I 2 ≠ -1 by omega)
  have hL : I 2 ∈ L s := by
    rcases J_ow h s0 s1 a0 a2 with ⟨y, -⟩ | ⟨-, -, -, y, -⟩
    · omega
    · exact y
  have hj1 := J_mem h s0 s1 hL
  obtain ⟨g1, g2, g3⟩ := out_ok hs.2.1 hL ht
  have hP : (if P s 8 = I 2 then Fup (P s) 8 (-1) else P s) = Fup (P s) 8 (if P s 8 = I 2 then -1 else P s 8) := by
    by_cases c : P s 8 = I 2
    · rw [if_pos c, if_pos c]
    · rw [if_neg c, if_neg c, Fup_id]
  rw [hP]
  refine ⟨J_set h s0 s1 ht.2.2.2 g1 (fun u hu => (J_mem h s0 s1 (zdel_mem.mp hu).1).2.1) ?_ (fun h4 o ho => ?_), ?_, hj1.2.2.2.1, by rw [upI_s, Fup_s]⟩
  · by_cases c : P s 8 = I 2
    · rw [if_pos c]; exact Or.inl rfl
    · rw [if_neg c, zup_n _ _ c]; exact h.2.2.2.1 s s0 s1
  · by_cases e : o = ow s (I 2)
    · rw [e, g2]; exact so_del (J_mm h s0 s1 hj1.2.2.2.1).1 (h.2.2.2.2.1 s s0 s1 h4 _ hj1.2.2.2.1)
    · rw [g3 o ho e]; exact h.2.2.2.2.1 s s0 s1 h4 o ho
  · rw [g2]
    have := len_del (J_mm h s0 s1 hj1.2.2.2.1).1 (mOf_mem.mpr ⟨hL, rfl⟩)
    omega
theorem J_mod (h : J I Q P T N ow isO L) {v : Int} {T1 : Int → Nat → Int → Int} (hv : -1000 ≤ v ∧ v ≤ 1000) (hm : I 2 ≠ -1) (hs : ∀ s : Int, 0 ≤ s → s < (N : Int) → soO (P s) ((Gset Q 1 (zup (Q 1) (I 2) v)) 1) (ow s) (L s) (I 2) (T s) (T1 s)) :
    ∃ L1 : Int → List Int, J I (Gset Q 1 (zup (Q 1) (I 2) v)) P T1 N ow isO L1 ∧ ∀ s : Int, 0 ≤ s → s < (N : Int) → P s 2 = 4 → 0 ≤ ow s (I 2) → isO s (ow s (I 2)) ∧ ∃ j : Int, plO ((Gset Q 1 (zup (Q 1) (I 2) v)) 1) 4 (((mOf (ow s) (ow s (I 2)) (L1 s)).length : Int) - 1) (-1) (mOf (ow s) (ow s (I 2)) (L1 s)) (I 2) j := by
  obtain ⟨a0, a1, a2, a3⟩ := J_i2 h hm
  have hV : ∀ u : Int, u ≠ I 2 → Q 1 u = (Gset Q 1 (zup (Q 1) (I 2) v)) 1 u := fun u hu => (zup_n _ _ hu).symm
  have key : ∀ s : Int, ∃ l1 : List Int, 0 ≤ s → s < (N : Int) → rR (T1 s) ∧ rOK (T1 s) (ow s) (isO s) l1 ∧ (∀ u ∈ l1, Q 0 u = P s 1) ∧ (P s 2 = 4 → ∀ o : Int, isO s o → so ((Gset Q 1 (zup (Q 1) (I 2) v)) 1) (mOf (ow s) o l1)) ∧ (P s 2 = 4 → 0 ≤ ow s (I 2) → isO s (ow s (I 2)) ∧ ∃ j : Int, plO ((Gset Q 1 (zup (Q 1) (I 2) v)) 1) 4 (((mOf (ow s) (ow s (I 2)) l1).length : Int) - 1) (-1) (mOf (ow s) (ow s (I 2)) l1) (I 2) j) := by
    intro s
    by_cases hc : 0 ≤ s ∧ s < (N : Int)
    · obtain ⟨s0, s1⟩ := hc
      have hss := h.2.1 s s0 s1
      rcases hs s s0 s1 with ⟨c, hT⟩ | ⟨⟨c4, cL⟩, T', j, hout, hf, hj0, hins⟩
      · refine ⟨L s, fun _ _ => ?_⟩
        rw [hT]
        refine ⟨hss.1, hss.2.1, fun u hu => (J_mem h s0 s1 hu).2.1, fun h4 o ho => ?_, fun h4 h5 => ?_⟩
        · refine so_congr (fun u hu => hV u (fun e => c ⟨h4, ?_⟩)) (h.2.2.2.2.1 s s0 s1 h4 o ho)
          rw [← e]
          exact (mOf_mem.mp hu).1
        · exfalso
          rcases J_ow h s0 s1 a0 a2 with ⟨y, -⟩ | ⟨-, -, -, y, -⟩
          · omega
          · exact c ⟨h4, y⟩
      · obtain ⟨p, hp⟩ := ins_p hj0.1 hj0.2
        have hj1 := J_mem h s0 s1 cL
        obtain ⟨g1, g2, g3⟩ := out_ok hss.2.1 cL hout
        have hnL : I 2 ∉ zdel (L s) (I 2) := fun z => (zdel_mem.mp z).2 rfl
        obtain ⟨k1, k2, k3, k4⟩ := ins_ok g1 hnL a0 a2 (rC_no hss.2.1.1 cL).1 hj1.2.2.2.1 hp hins
        rw [zup_zup, zup_id] at k1 k2 k3
        obtain ⟨m1, m2, m3, m4⟩ := mOf_facts g1.1 hj1.2.2.2.1
        rw [c4] at hf
        have hso : so ((Gset Q 1 (zup (Q 1) (I 2) v)) 1) (mOf (zup (ow s) (I 2) (-1)) (ow s (I 2)) (zdel (L s) (I 2))) := by
          rw [g2]
          exact so_congr (fun u hu => hV u (zdel_mem.mp hu).2) (so_del (J_mm h s0 s1 hj1.2.2.2.1).1 (h.2.2.2.2.1 s s0 s1 c4 _ hj1.2.2.2.1))
        refine ⟨zinsl (zdel (L s) (I 2)) p (I 2), fun _ _ => ⟨hins.2.2.2, k1, fun u hu => ?_, fun h4 o ho => ?_, fun h4 h5 => ⟨hj1.2.2.2.1, j, ?_⟩⟩⟩
        · rcases zinsl_mem.mp hu with z | z
          · rw [z]; exact hj1.2.1
          · exact (J_mem h s0 s1 (zdel_mem.mp z).1).2.1
        · by_cases e : o = ow s (I 2)
          · rw [e, k2]
            exact so_new hso hf
          · rw [k3 o e, g3 o ho e]
            exact so_congr (fun u hu => hV u (fun y => e (by rw [← y]; exact (mOf_mem.mp hu).2.symm))) (h.2.2.2.2.1 s s0 s1 h4 o ho)
        · obtain ⟨a, ha⟩ := ixO_ex (mOf (zup (ow s) (I 2) (-1)) (ow s (I 2)) (zdel (L s) (I 2))) (P s 8)
          have hpl := plO_at (a' := -1) (fPl_plO m1 (fun u hu => (m4 u hu).1) k4 hf ha)
          rw [k2]
          rw [zinsl_len]
          rw [show (((mOf (zup (ow s) (I 2) (-1)) (ow s (I 2)) (zdel (L s) (I 2))).length + 1 : Nat) : Int) - 1 = ((mOf (zup (ow s) (I 2) (-1)) (ow s (I 2)) (zdel (L s) (I 2))).length : Int) by omega]
          exact hpl
    · exact ⟨[], fun z0 z1 => absurd ⟨z0, z1⟩ hc⟩
  obtain ⟨L1, hL1⟩ := Classical.axiomOfChoice key
  obtain ⟨hI, hS, hR, hC, hO, hK⟩ := id h
  refine ⟨L1, ⟨aI_q1 hI hv, fun s s0 s1 => ?_, fun s s0 s1 => ?_, hC, fun s s0 s1 h4 => (hL1 s s0 s1).2.2.2.1 h4, hK⟩, fun s s0 s1 => (hL1 s s0 s1).2.2.2.2⟩
  · obtain ⟨b1, b2, b3⟩ := hS s s0 s1
    exact ⟨(hL1 s s0 s1).1, (hL1 s s0 s1).2.1, b3⟩
  · exact ⟨(hR s s0 s1).1, (hL1 s s0 s1).2.2.1⟩
theorem J_era (h : J I Q P T N ow isO L) {y : Int} {D : List Int} {g : zG} {b : Nat → Nat} {c : Int → Nat → Nat} {I1 : Nat → Int} {Q1 : Nat → Int → Int} {T1 : Int → Nat → Int → Int} (hm : I 2 ≠ -1) (hD1 : D.Nodup) (hD : gDm P ow isO L N y (I 2) D) (he : eL g b c I Q P N ow isO L D (D.length : Int) I1 Q1 T1) :
    J I1 Q1 (PD P ow D N) T1 N (fun s => owD (ow s) D) (fun s => isD (isO s) D) (fun s => LD (ow s) D (L s)) ∧ I1 2 = -1 ∧ I1 0 = I 0 ∧ I1 1 = I 1 - (D.length : Int) ∧ (∀ u : Int, Q1 0 u = if u ∈ D then -1 else Q 0 u) ∧ Q1 1 = Q 1 ∧ (∀ u ∈ D, (0 ≤ u ∧ u < I 0) ∧ Q 0 u ≠ -1) ∧ ∀ s : Int, 0 ≤ s → s < (N : Int) → ∀ k : Nat, k ≠ 8 → PD P ow D N s k = P s k := by
  obtain ⟨a0, a1, a2, a3⟩ := J_i2 h hm
  unfold eL at he
  rw [Int.toNat_natCast, List.take_length] at he
  obtain ⟨e1, e2, e3, e4, e5, e6, e7, e8, -⟩ := he
  have hDq : ∀ u ∈ D, (0 ≤ u ∧ u < I 0) ∧ Q 0 u ≠ -1 := hD.2.2 (fun u => (0 ≤ u ∧ u < I 0) ∧ Q 0 u ≠ -1) ⟨⟨a0, a1⟩, a3⟩ (fun q u s _ s0 s1 hg => by
    obtain ⟨hq, -, hu⟩ := hg
    have := (J_mm h s0 s1 hq).2.2 u hu
    exact ⟨this.1, this.2.2.2.2.2⟩)
  have hP : ∀ s : Int, 0 ≤ s → s < (N : Int) → ∀ k : Nat, k ≠ 8 → PD P ow D N s k = P s k := fun s s0 s1 k hk => by
    unfold PD
    rw [if_pos ⟨s0, s1⟩, Fup_n _ _ hk]
  have hr : I 2 ∈ D := hD.1
  obtain ⟨hI, hS, hR, hC, hO, k1, k2, k3, k4⟩ := id h
  have h12 : I1 2 = -1 := by rw [e5, if_pos hr]
  refine ⟨⟨e1, e2, fun s s0 s1 => ?_, fun s s0 s1 => ?_, fun s s0 s1 h4 o ho => ?_, fun t t0 t1 => ?_, ?_, fun u u0 u1 => ?_, ?_⟩, h12, e3, e4, e6, e7, hDq, hP⟩
  · rw [hP s s0 s1 0 (by decide), hP s s0 s1 1 (by decide)]
    have hss := hS s s0 s1
    constructor
    · intro q
      show isO s q ∧ q ∉ D ↔ _
      rw [e6 q, (hR s s0 s1).1 q]
      by_cases c : q ∈ D
      · rw [if_pos c]
        exact ⟨fun z => absurd c z.2, fun z => by have := z.2.2; have := hss.2.2.1; omega⟩
      · rw [if_neg c]
        exact ⟨fun z => z.1, fun z => ⟨z, c⟩⟩
    · intro u hu
      have hu := List.mem_filter.mp hu
      have hn := of_decide_eq_true hu.2
      rw [e6 u, if_neg (fun z => hn (Or.inl z))]
      exact (hR s s0 s1).2 u hu.1
  · have h8 : PD P ow D N s 8 = cD (ow s) D (P s 8) := by
      unfold PD
      rw [if_pos ⟨s0, s1⟩, Fup_s]
    rw [h8]
    unfold cD
    by_cases c : P s 8 ∈ D ∨ (P s 8 ≠ -1 ∧ ow s (P s 8) ∈ D)
    · rw [if_pos c]; exact Or.inl rfl
    · rw [if_neg c]
      rcases hC s s0 s1 with z | ⟨z0, z1, z2⟩
      · exact Or.inl z
      · refine Or.inr ⟨z0, z1, ?_⟩
        rcases z2 with z2 | z2
        · exact Or.inl ⟨z2, fun y => c (Or.inl y)⟩
        · right
          show owD (ow s) D (P s 8) ≠ -1
          unfold owD
          rw [if_neg (fun y => by
            rcases y with y | y
            · exact c (Or.inl y)
            · exact c (Or.inr ⟨by omega, y⟩))]
          exact z2
  · rw [hP s s0 s1 2 (by decide)] at h4
    have ho : isO s o ∧ o ∉ D := ho
    have e : mOf (owD (ow s) D) o (LD (ow s) D (L s)) = (mOf (ow s) o (L s)).filter (fun u => decide (u ∉ D)) := by
      unfold mOf LD
      rw [List.filter_filter, List.filter_filter]
      refine List.filter_congr fun u hu => ?_
      have ho1 := (J_own h s0 s1 ho.1).1.1
      rw [Bool.eq_iff_iff, Bool.and_eq_true, Bool.and_eq_true, decide_eq_true_eq, decide_eq_true_eq, decide_eq_true_eq, decide_eq_true_eq]
      unfold owD
      constructor
      · rintro ⟨z1, z2⟩
        rw [if_neg z2] at z1
        exact ⟨fun y => z2 (Or.inl y), z1⟩
      · rintro ⟨z1, z2⟩
        have z3 : ¬ (u ∈ D ∨ ow s u ∈ D) := fun y => by
          rcases y with y | y
          · exact z1 y
          · rw [z2] at y; exact ho.2 y
        rw [if_neg z3]
        exact ⟨z2, z3⟩
    show so (Q1 1) (mOf (owD (ow s) D) o (LD (ow s) D (L s)))
    rw [e, e7]
    exact so_filter _ (hO s s0 s1 h4 o ho.1)
  · rw [e8 t t0 t1]
    by_cases c : Q 2 t ∈ D
    · rw [if_pos c]; exact fun z => absurd rfl z
    · rw [if_neg c]
      intro z
      rw [e6, if_neg c]
      exact k1 t t0 t1 z
  · exact fun z => absurd h12 z
  · rw [e3] at u0
    rw [e6]
    split
    · rfl
    · exact k3 u u0 u1
  · rw [e4, e3, k4]
    have hf : Q1 0 = fun u => if u ∈ D then -1 else Q 0 u := funext e6
    rw [hf, pc_kill D (Q 0) (I 0).toNat hD1 (fun u hu => by
      have := hDq u hu
      exact ⟨this.1.1, by omega, this.2⟩)]
theorem J_dec (h : J I Q P T N ow isO L) (h0 : I 0 = 0) {p q i z y : Int} (hA : (0 ≤ p ∧ p ≤ 3) ∧ (0 ≤ q ∧ q ≤ 3) ∧ (0 ≤ i ∧ i ≤ 4) ∧ (0 ≤ y ∧ y ≤ 2) ∧ p ≠ q) (hz : z = 0 ∨ z = 1) (hN : N < 6) :
    J (Fup (Fup I 4 (I 4 + 1)) 5 ((N : Int) + 1)) Q (upI P (N : Int) (fun k => [p, q, i, z, y, 0, 0, 0, -1].getD k 0)) (upI T (N : Int) (fun _ => rowF 60)) (N + 1) (upI ow (N : Int) (fun _ => -1)) (upI isO (N : Int) (fun _ => False)) (upI L (N : Int) []) := by
  obtain ⟨hI, hS, hR, hC, hO, k1, k2, k3, k4⟩ := h
  have hno : ∀ u : Int, 0 ≤ u → u < 60 → Q 0 u = -1 := fun u u0 u1 => k3 u (by omega) u1
  refine ⟨?_, fun s s0 s1 => ?_, fun s s0 s1 => ?_, fun s s0 s1 => ?_, fun s s0 s1 => ?_, k1, k2, k3, k4⟩
  · obtain ⟨a1, a2, a3, a4, a5, a6, a7, a8⟩ := hI
    exact ⟨by show (N : Int) + 1 = ((N + 1 : Nat) : Int); omega, by omega, a3, a4, a5, a6, a7, a8⟩
  · by_cases e : s = (N : Int)
    · subst e
      rw [upI_s, upI_s, upI_s, upI_s, upI_s]
      refine ⟨fun k u u0 u1 => by show -1 ≤ rowF 60 u ∧ rowF 60 u < 60; rw [rowF_in u0 u1]; omega, ⟨⟨fun o ho => ho.elim, List.nodup_nil, fun u => ⟨fun hu => (by cases hu), fun hu => absurd rfl hu.2.2⟩, fun u hu => (by cases hu)⟩, fun u u0 u1 => ⟨fun ho => ho.elim, fun _ => rowF_in u0 u1⟩, fun o ho => ho.elim⟩, hA.1, hA.2.1, hA.2.2.2.2, hA.2.2.1, hz, hA.2.2.2.1, ?_⟩
      show -1 ≤ (-1 : Int) ∧ (-1 : Int) < 60
      omega
    · rw [upI_n _ _ e, upI_n _ _ e, upI_n _ _ e, upI_n _ _ e, upI_n _ _ e]
      exact hS s s0 (by omega)
  · by_cases e : s = (N : Int)
    · subst e
      rw [upI_s, upI_s, upI_s]
      refine ⟨fun u => ⟨fun ho => ho.elim, fun ho => ?_⟩, fun u hu => (by cases hu)⟩
      have h1 := hno u ho.1 ho.2.1
      have h2 : Q 0 u = p := ho.2.2
      have := hA.1
      omega
    · rw [upI_n _ _ e, upI_n _ _ e, upI_n _ _ e]
      exact hR s s0 (by omega)
  · by_cases e : s = (N : Int)
    · subst e
      rw [upI_s]
      exact Or.inl rfl
    · rw [upI_n _ _ e, upI_n _ _ e, upI_n _ _ e]
      exact hC s s0 (by omega)
  · by_cases e : s = (N : Int)
    · subst e
      rw [upI_s, upI_s, upI_s]
      exact fun _ o ho => ho.elim
    · rw [upI_n _ _ e, upI_n _ _ e, upI_n _ _ e, upI_n _ _ e]
      exact hO s s0 (by omega)
end JH
