/-- what a set type becomes when the record r has a new value -/
def soO (P : Nat → Int) (V : Int → Int) (ow : Int → Int) (L : List Int) (r : Int) (T T1 : Nat → Int → Int) : Prop := (¬ (P 2 = 4 ∧ r ∈ L) ∧ T1 = T) ∨ ((P 2 = 4 ∧ r ∈ L) ∧ ∃ (T' : Nat → Int → Int) (j : Int), outT T T' r ∧ fPl (P 8) (P 2) V (zup ow r (-1)) r (ow r) (zdel L r) j ∧ (0 ≤ j ∧ j ≤ ((mOf (zup ow r (-1)) (ow r) (zdel L r)).length : Int)) ∧ insT T' T1 (zup ow r (-1)) (zdel L r) r (ow r) j)
/-- .. and when the record r of type t was just stored -/
def adO (P : Nat → Int) (V : Int → Int) (ow : Int → Int) (L : List Int) (t r : Int) (T T1 : Nat → Int → Int) : Prop := rR T1 ∧ ((t = P 0 ∧ T1 5 = zup (T 5) r r ∧ T1 6 = zup (T 6) r r ∧ T1 7 = zup (T 7) r r) ∨ (t ≠ P 0 ∧ (P 3 = 1 ∧ P 1 = t) ∧ ∃ j : Int, fPl (P 8) (P 2) V ow r (rAt 60 (T 5) (P 8)) L j ∧ (0 ≤ j ∧ j ≤ ((mOf ow (rAt 60 (T 5) (P 8)) L).length : Int)) ∧ insT T T1 ow L r (rAt 60 (T 5) (P 8)) j) ∨ (t ≠ P 0 ∧ ¬ (P 3 = 1 ∧ P 1 = t) ∧ T1 = T))
theorem aI_q1 {I : Nat → Int} {Q : Nat → Int → Int} {N : Nat} (h : aI I Q N) {r v : Int} (hv : -1000 ≤ v ∧ v ≤ 1000) : aI I (Gset Q 1 (zup (Q 1) r v)) N := by
  obtain ⟨h1, h2, h3, h4, h5, h6, h7, h8⟩ := h
  refine ⟨h1, h2, h3, h4, fun u u0 u1 => ?_, h6, h7, h8⟩
  rw [Gset_s]
  by_cases c : u = r
  · rw [c, zup_s]; exact hv
  · rw [zup_n _ _ c]; exact h5 u u0 u1
theorem aI_st {I : Nat → Int} {Q : Nat → Int → Int} {N : Nat} (h : aI I Q N) {t v : Int} (ht : 0 ≤ t ∧ t ≤ 3) (hv : -1000 ≤ v ∧ v ≤ 1000) (h0 : I 0 < 60) (h1 : I 1 < 60) : aI (Fup (Fup I 0 (I 0 + 1)) 1 (I 1 + 1)) (Gset (Gset Q 0 (zup (Q 0) (I 0) t)) 1 (zup (Q 1) (I 0) v)) N := by
  obtain ⟨g1, g2, g3, g4, g5, g6, g7, g8⟩ := h
  refine ⟨g1, g2, g3, fun u u0 u1 => ?_, fun u u0 u1 => ?_, g6, ⟨?_, ?_⟩, ?_⟩
  · rw [Gset_n _ _ (by decide), Gset_s]
    by_cases c : u = I 0
    · rw [c, zup_s]; omega
    · rw [zup_n _ _ c]; exact g4 u u0 u1
  · rw [Gset_s]
    by_cases c : u = I 0
    · rw [c, zup_s]; exact hv
    · rw [zup_n _ _ c]; exact g5 u u0 u1
  · rw [Fup_n _ _ (by decide), Fup_s]; omega
  · rw [Fup_n _ _ (by decide), Fup_s]; omega
  · rw [Fup_s]; omega

set_option maxHeartbeats 4000000 in
set_option maxRecDepth 100000 in
theorem k_X3_modify {l : Launch} {g : zG} {b : Nat → Nat} {c : Int → Nat → Nat} {I : Nat → Int} {Q : Nat → Int → Int} {P : Int → Nat → Int} {T : Int → Nat → Int → Int} {N : Nat} {rest : va_W} (hst : l.stackTraces = false) (hI : aI I Q N) {ow : Int → Int → Int} {isO : Int → Int → Prop} {L : Int → List Int} (hS : aS P T N ow isO L) (v : Int) (hv : -2147483648 ≤ v ∧ v < 2147483648) : zM l g yX3_modify cX3_modify 4 (Option.some FieldType.int) ({ frames := 7, cells := 2, slots := 12, locals := 119 } : Room) [.ref (b 0), vi v] (wD g b c I Q P T N rest) (zI fun u w => (-1000 ≤ v ∧ v ≤ 1000) ∧ I 2 ≠ -1 ∧ u = Q 1 (I 2) ∧ ∃ T1 : Int → Nat → Int → Int, w = wD g b c I (Gset Q 1 (zup (Q 1) (I 2) v)) P T1 N rest ∧ ∀ s : Int, 0 ≤ s → s < (N : Int) → soO (P s) ((Gset Q 1 (zup (Q 1) (I 2) v)) 1) (ow s) (L s) (I 2) (T s) (T1 s)) (fun E w1 => w1 = (wD g b c I Q P T N rest) ∧ ((E = xA ∧ ¬ (-1000 ≤ v ∧ v ≤ 1000)) ∨ (E = xS ∧ (-1000 ≤ v ∧ v ≤ 1000) ∧ ¬ I 2 ≠ -1))) 2 12 := by
  have hi2 := hI.2.2.1
  refine zM_of (lv0 := [(0, _), (1, _)]) hst rfl (by decide +kernel) (Nat.le_of_ble_eq_true rfl) rfl (fun x hx hf hn => ?_)
  have loop : (-1000 ≤ v ∧ v ≤ 1000) → I 2 ≠ -1 → ∀ (n : Nat) (k : Int) (T9 : Int → Nat → Int → Int), 0 ≤ k → k ≤ (N : Int) → (∀ s : Int, k ≤ s → s < (N : Int) → T9 s = T s) → (∀ s : Int, 0 ≤ s → s < k → soO (P s) ((Gset Q 1 (zup (Q 1) (I 2) v)) 1) (ow s) (L s) (I 2) (T s) (T9 s)) → ((N : Int) - k).toNat < n → Z l g ({ frames := 7, cells := 2, slots := 12, locals := 119 } : Room) 4 x (0 + 1 + 1) (0 + 6 + 6) (wD g b c I (Gset Q 1 (zup (Q 1) (I 2) v)) P T9 N rest) 35 [(0, .ref (b 0)), (1, vi v), (2, vi (Q 1 (I 2))), (3, vi k)] [] := by
    intro hgv hu9 n
    have hI9 := aI_q1 hI (r := I 2) hgv
    have hI5 := hI.1
    have hN := hI.2.1
    induction n with
    | zero => intro k T9 h0 h1 h2 h3 hm; omega
    | succ n ih =>
      intro k T9 h0 h1 h2 h3 hm
      refine zz_iload_n hx dX3_modify_35 rfl ?_
      refine zz_aload_n hx dX3_modify_36 rfl ?_
      refine zd_g0 hx lf_X3_10 dX3_modify_37 ?_
      refine zz_callVi hx me_Jx4a65c_size_8abf5 lk_X3_62 (k_Jx4a65c_size_8abf5 hst) 1 rfl rfl ⟨rfl, rfl⟩ (by decide) (by decide) rfl rfl (Nat.le_of_ble_eq_true rfl) dX3_modify_40 (fun _ _ h => h.elim) (fun r40 w40 hp40 => ?_)
      obtain ⟨rfl, rfl⟩ := hp40
      refine zz_icmp_ge hx 74 dX3_modify_43 rfl (by omega) (by omega) (fun c43 => ?_) (fun c43 => ?_)
      · refine zz_iload_n hx dX3_modify_74 rfl ?_
        exact zz_iret hx hf dX3_modify_75 ⟨_, rfl, hgv, hu9, rfl, T9, rfl, fun s s0 s1 => h3 s s0 (by omega)⟩ (by decide) (by decide)
      · have hmz9 : ((N : Int) - (k + 1)).toNat < n := by omega
        have hlt9 : ∀ s : Int, s < k + 1 → ¬ s = k → s < k := fun s a b => by omega
        have hs9 := hS k h0 (by omega)
        have hT9 := h2 k (by omega) (by omega)
        refine zz_aload_n hx dX3_modify_46 rfl ?_
        refine zd_g0 hx lf_X3_10 dX3_modify_47 ?_
        refine zz_iload_n hx dX3_modify_50 rfl ?_
        refine zz_callVa hx me_Jx4a65c_get_915e3 lk_X3_97 (k_Jx4a65c_get_915e3 hst hI5 hN _ (by omega) (by omega)) 1 rfl rfl ⟨rfl, rfl⟩ (by decide) (by decide) rfl rfl (Nat.le_of_ble_eq_true rfl) dX3_modify_51 (fun _ _ h => h.elim) (fun r51 w51 hp51 => ?_)
        obtain ⟨rfl, rfl⟩ := hp51
        refine zz_eq (wD_at (s := k) (by omega) (by omega)) rfl ?_
        refine zz_cast hx lc_X3_73 rfl _ (sW_at 0) dX3_modify_54 ?_
        refine zz_aload_n hx dX3_modify_57 rfl ?_
        refine zd_g7 hx lf_X3_45 dX3_modify_58 ?_
        refine zz_aload_n hx dX3_modify_61 rfl ?_
        refine zd_g2 hx lf_X3_25 dX3_modify_62 ?_
        rw [hT9]
        refine zz_callVv hx me_X2_sortAnew lk_X3_115 (k_X2_sortAnew hst hs9.1 hs9.2.1 (fun u hu => by rcases hu with z9 | z9; exact hI9.2.2.2.2.1 u ((hs9.2.1.1.2.2.1 u).mp z9).1 ((hs9.2.1.1.2.2.1 u).mp z9).2.1; exact hI9.2.2.2.2.1 u (by omega) (by omega)) (by omega) (by omega) hs9.2.2.2.2.2.1 hs9.2.2.2.2.2.2.2.2) _ (sW_at 0) rfl ⟨rfl, rfl⟩ (by decide) (by decide) rfl rfl (Nat.le_of_ble_eq_true rfl) dX3_modify_65 (fun _ _ h => h.elim) (fun w65 hp65 => ?_)
        have hso : ∃ T2 : Nat → Int → Int, w65 = sW g b I (Gset Q 1 (zup (Q 1) (I 2) v)) (edC g b c N ++ cS g c P T9 0 k.toNat) (c k) (P k) T2 (cS g c P T9 (k + 1) (N - 1 - k.toNat) ++ rest) ∧ soO (P k) ((Gset Q 1 (zup (Q 1) (I 2) v)) 1) (ow k) (L k) (I 2) (T k) T2 := by
          rcases hp65 with ⟨z1, z2⟩ | ⟨z1, T1, T2, j, z2, z3, z4, z5, z6⟩
          · exact ⟨T k, z2, Or.inl ⟨z1, rfl⟩⟩
          · exact ⟨T2, z2, Or.inr ⟨z1, T1, j, z3, z4, z5, z6⟩⟩
        obtain ⟨T2, rfl, hso⟩ := hso
        refine zz_iinc (lv' := [(0, _), (1, _), (2, _), (3, _)]) hx dX3_modify_68 (by decide) rfl rfl ?_
        refine zz_goto hx 35 dX3_modify_71 rfl ?_
        refine zz_eq (wD_put (by omega) (by omega) _ _) rfl ?_
        rw [upI_id]
        exact ih (k + 1) _ (by omega) (by omega) (fun s s0 s1 => by rw [upI_n _ _ (by omega)]; exact h2 s (by omega) s1) (fun s s0 s1 => by
          by_cases e9 : s = k
          · subst e9; rw [upI_s]; exact hso
          · rw [upI_n _ _ e9]; exact h3 s s0 (hlt9 s s1 e9)) hmz9
  refine zz_aload_n hx dX3_modify_0 rfl ?_
  refine zz_iload_n hx dX3_modify_1 rfl ?_
  refine zz_callVv hx me_X3_requireValue lk_X3_82 (k_X3_requireValue hst _ (by omega)) 0 rfl rfl ⟨rfl, rfl⟩ (by decide) (by decide) rfl rfl (Nat.le_of_ble_eq_true rfl) dX3_modify_2 (fun E9 w9 hX => by obtain ⟨rfl, rfl, hX⟩ := hX; exact zz_out hx hf hn ⟨rfl, Or.inl ⟨rfl, hX⟩⟩ (by decide) (by decide)) (fun w2 hp2 => ?_)
  obtain ⟨rfl, hgv⟩ := hp2
  refine zz_aload_n hx dX3_modify_5 rfl ?_
  refine zz_callVv hx me_X3_requireRunUnit lk_X3_109 (k_X3_requireRunUnit hst hi2) 0 rfl rfl ⟨rfl, rfl⟩ (by decide) (by decide) rfl rfl (Nat.le_of_ble_eq_true rfl) dX3_modify_6 (fun E9 w9 hX => by obtain ⟨rfl, rfl, hX⟩ := hX; exact zz_out hx hf hn ⟨rfl, Or.inr ⟨rfl, hgv, hX⟩⟩ (by decide) (by decide)) (fun w6 hp6 => ?_)
  obtain ⟨rfl, hu9⟩ := hp6
  refine zz_aload_n hx dX3_modify_9 rfl ?_
  refine zd_g2 hx lf_X3_25 dX3_modify_10 ?_
  refine zz_aload_n hx dX3_modify_13 rfl ?_
  refine zd_g7 hx lf_X3_45 dX3_modify_14 ?_
  refine zd_at1 hx hst lk_X3_112 (by decide) (by decide) (by omega) (Nat.le_of_ble_eq_true rfl) dX3_modify_17 ?_
  rw [rAt_in (by omega) (by omega)]
  refine zz_istore_n (lv' := [(0, _), (1, _), (2, _)]) hx dX3_modify_20 (by decide) rfl ?_
  refine zz_aload_n hx dX3_modify_21 rfl ?_
  refine zd_g2 hx lf_X3_25 dX3_modify_22 ?_
  refine zz_aload_n hx dX3_modify_25 rfl ?_
  refine zd_g7 hx lf_X3_45 dX3_modify_26 ?_
  refine zz_iload_n hx dX3_modify_29 rfl ?_
  refine zd_put1 hx hst lk_X3_93 (by decide) (by decide) (by omega) (Nat.le_of_ble_eq_true rfl) dX3_modify_30 ?_
  rw [rUp_in (by omega) (by omega)]
  refine zz_iconst hx dX3_modify_33 ?_
  refine zz_istore_n (lv' := [(0, _), (1, _), (2, _), (3, _)]) hx dX3_modify_34 (by decide) rfl ?_
  exact loop hgv hu9 (N + 1) 0 T (by omega) (by omega) (fun s s0 s1 => rfl) (fun s s0 s1 => by omega) (by omega)

set_option maxHeartbeats 4000000 in
set_option maxRecDepth 100000 in
theorem k_X3_store {l : Launch} {g : zG} {b : Nat → Nat} {c : Int → Nat → Nat} {I : Nat → Int} {Q : Nat → Int → Int} {P : Int → Nat → Int} {T : Int → Nat → Int → Int} {N : Nat} {rest : va_W} (hst : l.stackTraces = false) (hI : aI I Q N) {ow : Int → Int → Int} {isO : Int → Int → Prop} {L : Int → List Int} (hS : aS P T N ow isO L) (hRl : aR Q P N isO L) (hC : aC P T N) (hq0 : ∀ u : Int, I 0 ≤ u → u < 60 → Q 0 u = -1) (hi1 : I 1 ≤ I 0) (t : Int) (ht : -2147483648 ≤ t ∧ t < 2147483648) (v : Int) (hv : -2147483648 ≤ v ∧ v < 2147483648) : zM l g yX3_store cX3_store 5 (Option.some FieldType.int) ({ frames := 7, cells := 3, slots := 18, locals := 119 } : Room) [.ref (b 0), vi t, vi v] (wD g b c I Q P T N rest) (zI fun u w => ((0 ≤ t ∧ t ≤ 3) ∧ (-1000 ≤ v ∧ v ≤ 1000)) ∧ (I 0 < 60 ∧ ∀ s : Int, 0 ≤ s → s < (N : Int) → ¬ (P s 3 = 1 ∧ P s 1 = t ∧ P s 8 = -1)) ∧ ∃ T1 : Int → Nat → Int → Int, (∀ s : Int, 0 ≤ s → s < (N : Int) → adO (P s) ((Gset (Gset Q 0 (zup (Q 0) (I 0) t)) 1 (zup (Q 1) (I 0) v)) 1) (ow s) (L s) t (I 0) (T s) (T1 s)) ∧ mkO g b c (Fup (Fup I 0 (I 0 + 1)) 1 (I 1 + 1)) (Gset (Gset Q 0 (zup (Q 0) (I 0) t)) 1 (zup (Q 1) (I 0) v)) P T1 N rest (I 0) u w) (fun E w1 => w1 = (wD g b c I Q P T N rest) ∧ ((E = xA ∧ ¬ ((0 ≤ t ∧ t ≤ 3) ∧ (-1000 ≤ v ∧ v ≤ 1000))) ∨ (E = xS ∧ ((0 ≤ t ∧ t ≤ 3) ∧ (-1000 ≤ v ∧ v ≤ 1000)) ∧ ¬ (I 0 < 60 ∧ ∀ s : Int, 0 ≤ s → s < (N : Int) → ¬ (P s 3 = 1 ∧ P s 1 = t ∧ P s 8 = -1))))) 3 18 := by
  have hi0 := hI.2.2.2.2.2.2.1
  refine zM_of (lv0 := [(0, _), (1, _), (2, _)]) hst rfl (by decide +kernel) (Nat.le_of_ble_eq_true rfl) rfl (fun x hx hf hn => ?_)
  have loop : ((0 ≤ t ∧ t ≤ 3) ∧ (-1000 ≤ v ∧ v ≤ 1000)) → (I 0 < 60 ∧ ∀ s : Int, 0 ≤ s → s < (N : Int) → ¬ (P s 3 = 1 ∧ P s 1 = t ∧ P s 8 = -1)) → ∀ (n : Nat) (k : Int) (T9 : Int → Nat → Int → Int), 0 ≤ k → k ≤ (N : Int) → (∀ s : Int, k ≤ s → s < (N : Int) → T9 s = T s) → (∀ s : Int, 0 ≤ s → s < k → adO (P s) ((Gset (Gset Q 0 (zup (Q 0) (I 0) t)) 1 (zup (Q 1) (I 0) v)) 1) (ow s) (L s) t (I 0) (T s) (T9 s)) → ((N : Int) - k).toNat < n → Z l g ({ frames := 7, cells := 3, slots := 18, locals := 119 } : Room) 5 x (0 + 1 + 1) (0 + 6 + 6) (wD g b c (Fup (Fup I 0 (I 0 + 1)) 1 (I 1 + 1)) (Gset (Gset Q 0 (zup (Q 0) (I 0) t)) 1 (zup (Q 1) (I 0) v)) P T9 N rest) 93 [(0, .ref (b 0)), (1, vi t), (2, vi v), (3, vi (I 0)), (4, vi k)] [] := by
    intro hga hgs n
    have hI9 := aI_st hI hga.1 hga.2 hgs.1 (by omega)
    have hI5 : (Fup (Fup I 0 (I 0 + 1)) 1 (I 1 + 1)) 5 = (N : Int) := hI9.1
    have hN := hI.2.1
    induction n with
    | zero => intro k T9 h0 h1 h2 h3 hm; omega
    | succ n ih =>
      intro k T9 h0 h1 h2 h3 hm
      refine zz_iload hx dX3_store_93 rfl ?_
      refine zz_aload_n hx dX3_store_95 rfl ?_
      refine zd_g0 hx lf_X3_10 dX3_store_96 ?_
      refine zz_callVi hx me_Jx4a65c_size_8abf5 lk_X3_62 (k_Jx4a65c_size_8abf5 hst) 1 rfl rfl ⟨rfl, rfl⟩ (by decide) (by decide) rfl rfl (Nat.le_of_ble_eq_true rfl) dX3_store_99 (fun _ _ h => h.elim) (fun r99 w99 hp99 => ?_)
      obtain ⟨rfl, rfl⟩ := hp99
      refine zz_icmp_ge hx 132 dX3_store_102 rfl (by omega) (by omega) (fun c102 => ?_) (fun c102 => ?_)
      · have hR9 : ∀ s : Int, 0 ≤ s → s < (N : Int) → rR (T9 s) := fun s s0 s1 => (h3 s s0 (by omega)).1
        refine zz_aload_n hx dX3_store_132 rfl ?_
        refine zz_iload_n hx dX3_store_133 rfl ?_
        refine zz_callVi hx me_X3_makeCurrent lk_X3_105 (k_X3_makeCurrent hst hI9 hR9 (I 0) (by omega)) 0 rfl rfl ⟨rfl, rfl⟩ (by decide) (by decide) rfl rfl (Nat.le_of_ble_eq_true rfl) dX3_store_134 (fun _ _ h => h.elim) (fun r134 w134 hp134 => ?_)
        exact zz_iret hx hf dX3_store_137 ⟨_, rfl, hga, hgs, T9, fun s s0 s1 => h3 s s0 (by omega), hp134⟩ (by decide) (by decide)
      · have hmz9 : ((N : Int) - (k + 1)).toNat < n := by omega
        have hlt9 : ∀ s : Int, s < k + 1 → ¬ s = k → s < k := fun s a b => by omega
        have hs9 := hS k h0 (by omega)
        have hT9 := h2 k (by omega) (by omega)
        have hrl := hRl k h0 (by omega)
        have hqr := hq0 (I 0) (by omega) hgs.1
        have hro : ¬ isO k (I 0) := fun z9 => by
          have := ((hrl.1 _).mp z9).2.2
          have := hs9.2.2.1
          omega
        have hrn : ow k (I 0) = -1 := by
          rcases Decidable.em (ow k (I 0) = -1) with z9 | z9
          · exact z9
          · have := hrl.2 _ ((hs9.2.1.1.2.2.1 _).mpr ⟨hi0.1, hgs.1, z9⟩)
            have := hs9.2.2.2.1
            omega
        have hcu : P k 3 = 1 → P k 1 = t → isO k (rAt 60 (T k 5) (P k 8)) := fun z3 z1 => (cur_isO hs9.2.1 (P k 8)).resolve_left (hC k h0 (by omega) (fun z8 => hgs.2 k h0 (by omega) ⟨z3, z1, z8⟩))
        refine zz_aload_n hx dX3_store_105 rfl ?_
        refine zd_g0 hx lf_X3_10 dX3_store_106 ?_
        refine zz_iload hx dX3_store_109 rfl ?_
        refine zz_callVa hx me_Jx4a65c_get_915e3 lk_X3_97 (k_Jx4a65c_get_915e3 hst hI5 hN _ (by omega) (by omega)) 1 rfl rfl ⟨rfl, rfl⟩ (by decide) (by decide) rfl rfl (Nat.le_of_ble_eq_true rfl) dX3_store_111 (fun _ _ h => h.elim) (fun r111 w111 hp111 => ?_)
        obtain ⟨rfl, rfl⟩ := hp111
        refine zz_eq (wD_at (s := k) (by omega) (by omega)) rfl ?_
        refine zz_cast hx lc_X3_73 rfl _ (sW_at 0) dX3_store_114 ?_
        refine zz_iload_n hx dX3_store_117 rfl ?_
        refine zz_iload_n hx dX3_store_118 rfl ?_
        refine zz_aload_n hx dX3_store_119 rfl ?_
        refine zd_g2 hx lf_X3_25 dX3_store_120 ?_
        rw [hT9]
        refine zz_callVv hx me_X2_admit lk_X3_101 (k_X2_admit hst hs9.1 hs9.2.1 (fun u hu => by rcases hu with z9 | z9; exact hI9.2.2.2.2.1 u ((hs9.2.1.1.2.2.1 u).mp z9).1 ((hs9.2.1.1.2.2.1 u).mp z9).2.1; exact hI9.2.2.2.2.1 u (by omega) (by omega)) hi0.1 hgs.1 hro hrn hs9.2.2.1 hs9.2.2.2.1 hs9.2.2.2.2.1 hs9.2.2.2.2.2.1 hs9.2.2.2.2.2.2.1 hs9.2.2.2.2.2.2.2.2 t hga.1 hcu) _ (sW_at 0) rfl ⟨rfl, rfl⟩ (by decide) (by decide) rfl rfl (Nat.le_of_ble_eq_true rfl) dX3_store_123 (fun _ _ h => h.elim) (fun w123 hp123 => ?_)
        obtain ⟨T2, rfl, hr2, had⟩ := hp123
        refine zz_iinc (lv' := [(0, _), (1, _), (2, _), (3, _), (4, _)]) hx dX3_store_126 (by decide) rfl rfl ?_
        refine zz_goto hx 93 dX3_store_129 rfl ?_
        refine zz_eq (wD_put (by omega) (by omega) _ _) rfl ?_
        rw [upI_id]
        exact ih (k + 1) _ (by omega) (by omega) (fun s s0 s1 => by rw [upI_n _ _ (by omega)]; exact h2 s (by omega) s1) (fun s s0 s1 => by
          by_cases e9 : s = k
          · subst e9; rw [upI_s]; exact ⟨hr2, had⟩
          · rw [upI_n _ _ e9]; exact h3 s s0 (hlt9 s s1 e9)) hmz9
  refine zz_aload_n hx dX3_store_0 rfl ?_
  refine zz_iload_n hx dX3_store_1 rfl ?_
  refine zz_callVv hx me_X3_requireType lk_X3_48 (k_X3_requireType hst _ (by omega)) 0 rfl rfl ⟨rfl, rfl⟩ (by decide) (by decide) rfl rfl (Nat.le_of_ble_eq_true rfl) dX3_store_2 (fun E9 w9 hX => by obtain ⟨rfl, rfl, hX⟩ := hX; exact zz_out hx hf hn ⟨rfl, Or.inl ⟨rfl, fun z9 => hX z9.1⟩⟩ (by decide) (by decide)) (fun w2 hp2 => ?_)
  obtain ⟨rfl, hgt⟩ := hp2
  refine zz_aload_n hx dX3_store_5 rfl ?_
  refine zz_iload_n hx dX3_store_6 rfl ?_
  refine zz_callVv hx me_X3_requireValue lk_X3_82 (k_X3_requireValue hst _ (by omega)) 0 rfl rfl ⟨rfl, rfl⟩ (by decide) (by decide) rfl rfl (Nat.le_of_ble_eq_true rfl) dX3_store_7 (fun E9 w9 hX => by obtain ⟨rfl, rfl, hX⟩ := hX; exact zz_out hx hf hn ⟨rfl, Or.inl ⟨rfl, fun z9 => hX z9.2⟩⟩ (by decide) (by decide)) (fun w7 hp7 => ?_)
  obtain ⟨rfl, hgv⟩ := hp7
  refine zz_aload_n hx dX3_store_10 rfl ?_
  refine zd_g5 hx lf_X3_38 dX3_store_11 ?_
  refine zz_bipush hx dX3_store_14 rfl ?_
  refine zz_icmp_lt hx 29 dX3_store_16 rfl (by omega) (by omega) (fun c16 => ?_) (fun c16 => ?_)
  · refine zz_aload_n hx dX3_store_29 rfl ?_
    refine zz_iload_n hx dX3_store_30 rfl ?_
    refine zz_callVi hx me_X3_lacksSetFor lk_X3_87 (k_X3_lacksSetFor hst hI hS t hgt) 0 rfl rfl ⟨rfl, rfl⟩ (by decide) (by decide) rfl rfl (Nat.le_of_ble_eq_true rfl) dX3_store_31 (fun _ _ h => h.elim) (fun r31 w31 hp31 => ?_)
    obtain ⟨rfl, hlk⟩ := hp31
    refine zz_if_eq hx 47 dX3_store_34 rfl (by rcases hlk with z9 | z9 <;> omega) (fun c34 => ?_) (fun c34 => ?_)
    · have hnl := (hlk.resolve_left (fun z9 => by omega)).2
      refine zz_aload_n hx dX3_store_47 rfl ?_
      refine zd_g5 hx lf_X3_38 dX3_store_48 ?_
      refine zz_istore_n (lv' := [(0, _), (1, _), (2, _), (3, _)]) hx dX3_store_51 (by decide) rfl ?_
      refine zz_aload_n hx dX3_store_52 rfl ?_
      refine zz_dup hx dX3_store_53 rfl ?_
      refine zd_g5 hx lf_X3_38 dX3_store_54 ?_
      refine zz_iconst hx dX3_store_57 ?_
      refine zz_iadd hx dX3_store_58 ?_
      refine zd_p5 hx lf_X3_38 dX3_store_59 ?_
      refine zz_aload_n hx dX3_store_62 rfl ?_
      refine zz_dup hx dX3_store_63 rfl ?_
      refine zd_g6 hx lf_X3_42 dX3_store_64 ?_
      refine zz_iconst hx dX3_store_67 ?_
      refine zz_iadd hx dX3_store_68 ?_
      refine zd_p6 hx lf_X3_42 dX3_store_69 ?_
      refine zz_aload_n hx dX3_store_72 rfl ?_
      refine zd_g1 hx lf_X3_21 dX3_store_73 ?_
      refine zz_iload_n hx dX3_store_76 rfl ?_
      refine zz_iload_n hx dX3_store_77 rfl ?_
      refine zd_put0 hx hst lk_X3_93 (by decide) (by decide) (by omega) (Nat.le_of_ble_eq_true rfl) dX3_store_78 ?_
      rw [rUp_in (by omega) (by omega)]
      refine zz_aload_n hx dX3_store_81 rfl ?_
      refine zd_g2 hx lf_X3_25 dX3_store_82 ?_
      refine zz_iload_n hx dX3_store_85 rfl ?_
      refine zz_iload_n hx dX3_store_86 rfl ?_
      refine zd_put1 hx hst lk_X3_93 (by decide) (by decide) (by omega) (Nat.le_of_ble_eq_true rfl) dX3_store_87 ?_
      rw [rUp_in (by omega) (by omega)]
      refine zz_iconst hx dX3_store_90 ?_
      refine zz_istore (lv' := [(0, _), (1, _), (2, _), (3, _), (4, _)]) hx dX3_store_91 (by decide) rfl ?_
      exact loop ⟨hgt, hgv⟩ ⟨by omega, hnl⟩ (N + 1) 0 T (by omega) (by omega) (fun s s0 s1 => rfl) (fun s s0 s1 => by omega) (by omega)
    · exact zz_throw hx hf hn zth_S (List.mem_of_getElem? (i := 6) rfl) dX3_store_37 dX3_store_40 dX3_store_41 dX3_store_43 dX3_store_46 (by decide) (by decide) ⟨rfl, Or.inr ⟨rfl, ⟨hgt, hgv⟩, fun z9 => by rcases hlk with y9 | y9; (obtain ⟨s, s0, s1, hh⟩ := y9.2; exact z9.2 s s0 s1 hh); omega⟩⟩
  · exact zz_throw hx hf hn zth_S (List.mem_of_getElem? (i := 5) rfl) dX3_store_19 dX3_store_22 dX3_store_23 dX3_store_25 dX3_store_28 (by decide) (by decide) ⟨rfl, Or.inr ⟨rfl, ⟨hgt, hgv⟩, fun z9 => by omega⟩⟩
