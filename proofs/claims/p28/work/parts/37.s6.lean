def rFill (N : Nat) (f : Int → Int) (k v : Int) : Int → Int := fun i => if 0 ≤ i ∧ i < k then v else f i
theorem zset_set (w : va_W) (j : Nat) (e e' : Nat × va_E) : (w.set j e).set j e' = w.set j e' := by simp
set_option maxHeartbeats 4000000 in
set_option maxRecDepth 100000 in
theorem c_fill {l : Launch} {g : zG} {w : va_W} {j ca N : Nat} {f : Int → Int} (hst : l.stackTraces = false) (hj : w[j]? = some (ca, .inl (g.2.1, zar N f))) (hN : (N : Int) < 2147483648) (v : Int) : zM l g yJ7_fill_53178 cJ7_fill_53178 4 (Option.none : Option FieldType) ({ frames := 0, cells := 0, slots := 0, locals := 0 } : Room) [.ref ca, vi v] w (zV fun w' => w' = w.set j (ca, .inl (g.2.1, zar N (rFill N f N v)))) zN 0 0 := by
  refine zM_of (lv0 := [(0, _), (1, _)]) hst rfl (by decide +kernel) (Nat.le_of_ble_eq_true rfl) rfl (fun x hx hf hn => ?_)
  have hlt := (List.getElem?_eq_some_iff.mp hj).1
  have loop : ∀ (n : Nat) (k : Int), 0 ≤ k → k ≤ (N : Int) → ((N : Int) - k).toNat < n → Z l g ({ frames := 0, cells := 0, slots := 0, locals := 0 } : Room) 4 x 0 0 (w.set j (ca, .inl (g.2.1, zar N (rFill N f k v)))) 5 [(0, .ref ca), (1, vi v), (2, vi k), (3, vi (N : Int))] [] := by
    intro n
    induction n with
    | zero => intro k h0 h1 hm; omega
    | succ n ih =>
      intro k h0 h1 hm
      have hj2 : (w.set j (ca, .inl (g.2.1, zar N (rFill N f k v))))[j]? = some (ca, .inl (g.2.1, zar N (rFill N f k v))) := by rw [List.getElem?_set_self hlt]
      have hne : w.set j (ca, .inl (g.2.1, zar N (zup (rFill N f k v) k v))) = w.set j (ca, .inl (g.2.1, zar N (rFill N f (k + 1) v))) := by
        have hf9 : zup (rFill N f k v) k v = rFill N f (k + 1) v := by
          funext i
          show (if i = k then v else rFill N f k v i) = _
          simp only [rFill]
          by_cases c : i = k
          · subst c; rw [if_pos rfl, if_pos ⟨h0, by omega⟩]
          · rw [if_neg c]
            by_cases c2 : 0 ≤ i ∧ i < k
            · rw [if_pos c2, if_pos ⟨c2.1, by omega⟩]
            · rw [if_neg c2, if_neg (fun z => c2 ⟨z.1, by omega⟩)]
        rw [hf9]
      refine zz_iload_n hx dJ7_fill_53178_5 rfl ?_
      refine zz_iload_n hx dJ7_fill_53178_6 rfl ?_
      refine zz_icmp_ge hx 20 dJ7_fill_53178_7 rfl (by omega) (by omega) (fun c7 => ?_) (fun c7 => ?_)
      · exact zz_vret hx hf dJ7_fill_53178_20 ⟨rfl, by rw [show k = (N : Int) by omega]⟩ (by decide) (by decide)
      · refine zz_aload_n hx dJ7_fill_53178_10 rfl ?_
        refine zz_iload_n hx dJ7_fill_53178_11 rfl ?_
        refine zz_iload_n hx dJ7_fill_53178_12 rfl ?_
        refine zz_iast hx j hj2 (by omega) (by omega) (by omega) dJ7_fill_53178_13 rfl ?_
        refine zz_iinc (lv' := [(0, _), (1, _), (2, _), (3, _)]) hx dJ7_fill_53178_14 (by decide) rfl rfl ?_
        refine zz_goto hx 5 dJ7_fill_53178_17 rfl ?_
        rw [zset_set, hne]
        exact ih (k + 1) (by omega) (by omega) (by omega)
  have hw0 : w = w.set j (ca, .inl (g.2.1, zar N (rFill N f 0 v))) := by
    have he := (List.getElem?_eq_some_iff.mp hj).2
    have hf0 : rFill N f 0 v = f := funext fun i => if_neg (fun z => by omega)
    rw [hf0, ← he, List.set_getElem_self]
  refine zz_iconst hx dJ7_fill_53178_0 ?_
  refine zz_istore_n (lv' := [(0, _), (1, _), (2, _)]) hx dJ7_fill_53178_1 (by decide) rfl ?_
  refine zz_aload_n hx dJ7_fill_53178_2 rfl ?_
  refine zz_alen hx j hj dJ7_fill_53178_3 ?_
  refine zz_istore_n (lv' := [(0, _), (1, _), (2, _), (3, _)]) hx dJ7_fill_53178_4 (by decide) rfl ?_
  refine zz_eq hw0 rfl ?_
  exact loop (N + 1) 0 (by omega) (by omega) (by omega)

set_option maxHeartbeats 4000000 in
set_option maxRecDepth 100000 in
theorem c_Row_clear {l : Launch} {g : zG} {w : va_W} {i j a ca N : Nat} {f : Int → Int} (hst : l.stackTraces = false) (hi : w[i]? = some (a, .inr (2, [.ref ca]))) (hj : w[j]? = some (ca, .inl (g.2.1, zar N f))) (hN : (N : Int) < 2147483648) : zM l g yX1_clear cX1_clear 1 (Option.none : Option FieldType) ({ frames := 1, cells := 0, slots := 0, locals := 23 } : Room) [.ref a] w (zV fun w' => w' = w.set j (ca, .inl (g.2.1, zar N (rFill N f N (-1))))) zN 0 0 := by
  refine zM_of (lv0 := [(0, _)]) hst rfl (by decide +kernel) (Nat.le_of_ble_eq_true rfl) rfl (fun x hx hf hn => ?_)
  refine zz_aload_n hx dX1_clear_0 rfl ?_
  refine zz_get hx lf_X1_15 rfl i hi rfl dX1_clear_1 ?_
  refine zz_iconst hx dX1_clear_4 ?_
  refine zz_callSv hx ms_J7_fill_53178 lk_X1_21 (c_fill hst hj hN _) ⟨rfl, rfl⟩ (by decide) (by decide) rfl rfl (Nat.le_of_ble_eq_true rfl) dX1_clear_5 (fun _ _ h => h.elim) (fun w5 hp5 => ?_)
  subst hp5
  exact zz_vret hx hf dX1_clear_8 ⟨rfl, rfl⟩ (by decide) (by decide)

set_option maxHeartbeats 4000000 in
set_option maxRecDepth 100000 in
theorem k_X0_clear {l : Launch} {g : zG} {b : Nat → Nat} {I : Nat → Int} {Q : Nat → Int → Int} {rest : va_W} (hst : l.stackTraces = false)  : zM l g yX0_clear cX0_clear 1 (Option.none : Option FieldType) ({ frames := 2, cells := 0, slots := 0, locals := 43 } : Room) [.ref (b 8)] (dF g b I Q rest) (zV fun w => ∃ (I1 : Nat → Int) (Q1 : Nat → Int → Int), w = dF g b I1 Q1 rest ∧ gOK I1 Q1 [] ∧ (∀ k : Nat, k ≠ 3 → I1 k = I k) ∧ ∀ k : Nat, k ≠ 3 → k ≠ 4 → Q1 k = Q k) zN 0 0 := by
  refine zM_of (lv0 := [(0, _)]) hst rfl (by decide +kernel) (Nat.le_of_ble_eq_true rfl) rfl (fun x hx hf hn => ?_)
  refine zz_aload_n hx dX0_clear_0 rfl ?_
  refine zg_g1 hx lf_X0_20 dX0_clear_1 ?_
  refine zz_callVv hx me_X1_clear lk_X0_27 (c_Row_clear (i := 11) (j := 12) hst rfl rfl (by decide)) 11 rfl rfl ⟨rfl, rfl⟩ (by decide) (by decide) rfl rfl (Nat.le_of_ble_eq_true rfl) dX0_clear_4 (fun _ _ h => h.elim) (fun w4 hp4 => ?_)
  subst hp4
  refine zz_eq (w' := dF g b I (Gset Q 4 (rFill 60 (Q 4) 60 (-1))) rest) rfl rfl ?_
  refine zz_aload_n hx dX0_clear_7 rfl ?_
  refine zz_iconst hx dX0_clear_8 ?_
  refine zg_p2 hx lf_X0_23 dX0_clear_9 ?_
  exact zz_vret hx hf dX0_clear_12 ⟨rfl, Fup I 3 0, _, rfl, gOK_nil (Fup_s _ _ _) (fun u u0 u1 => by rw [Gset_s]; exact if_pos ⟨u0, u1⟩), fun k hk => Fup_n _ _ hk, fun k h3 h4 => Gset_n _ _ h4⟩ (by decide) (by decide)

set_option maxHeartbeats 4000000 in
set_option maxRecDepth 100000 in
theorem k_X0_at {l : Launch} {g : zG} {b : Nat → Nat} {I : Nat → Int} {Q : Nat → Int → Int} {rest : va_W} (hst : l.stackTraces = false) (p : Int) (hp : -2147483648 ≤ p ∧ p < 2147483648) : zM l g yX0_at cX0_at 2 (Option.some FieldType.int) ({ frames := 1, cells := 0, slots := 0, locals := 21 } : Room) [.ref (b 8), vi p] (dF g b I Q rest) (zI fun v w => v = rAt 60 (Q 3) p ∧ w = dF g b I Q rest) zN 0 0 := by
  refine zM_of (lv0 := [(0, _), (1, _)]) hst rfl (by decide +kernel) (Nat.le_of_ble_eq_true rfl) rfl (fun x hx hf hn => ?_)
  refine zz_aload_n hx dX0_at_0 rfl ?_
  refine zg_g0 hx lf_X0_14 dX0_at_1 ?_
  refine zz_iload_n hx dX0_at_4 rfl ?_
  refine zd_at3 hx hst lk_X0_30 (by decide) (by decide) (by omega) (Nat.le_of_ble_eq_true rfl) dX0_at_5 ?_
  exact zz_iret hx hf dX0_at_8 ⟨_, rfl, rfl, rfl⟩ (by decide) (by decide)

set_option maxHeartbeats 4000000 in
set_option maxRecDepth 100000 in
theorem k_X0_add {l : Launch} {g : zG} {b : Nat → Nat} {I : Nat → Int} {Q : Nat → Int → Int} {rest : va_W} (hst : l.stackTraces = false) {D : List Int} (hg : gOK I Q D) (r : Int) (r0 : 0 ≤ r) (r1 : r < 60) : zM l g yX0_add cX0_add 2 (Option.none : Option FieldType) ({ frames := 1, cells := 0, slots := 0, locals := 22 } : Room) [.ref (b 8), vi r] (dF g b I Q rest) (zV fun w => ∃ (I1 : Nat → Int) (Q1 : Nat → Int → Int), w = dF g b I1 Q1 rest ∧ gOK I1 Q1 (gA1 D r) ∧ (∀ k : Nat, k ≠ 3 → I1 k = I k) ∧ ∀ k : Nat, k ≠ 3 → k ≠ 4 → Q1 k = Q k) zN 0 0 := by
  have h4 := hg.2.2.2.2.1 r r0 r1
  have h6 := hg.2.2.2.2.2 r r0 r1
  have hi3 := hg.1
  have hadd := fun z => gOK_add hg r0 r1 z
  have hdl : (D.length : Int) ≤ 60 := by
    have := nodup_len 60 D hg.2.1 (fun u hu => hg.2.2.1 u hu)
    omega
  refine zM_of (lv0 := [(0, _), (1, _)]) hst rfl (by decide +kernel) (Nat.le_of_ble_eq_true rfl) rfl (fun x hx hf hn => ?_)
  refine zz_aload_n hx dX0_add_0 rfl ?_
  refine zg_g1 hx lf_X0_20 dX0_add_1 ?_
  refine zz_iload_n hx dX0_add_4 rfl ?_
  refine zd_at4 hx hst lk_X0_30 (by decide) (by decide) (by omega) (Nat.le_of_ble_eq_true rfl) dX0_add_5 ?_
  rw [rAt_in (by omega) (by omega)]
  refine zz_iconst hx dX0_add_8 ?_
  refine zz_icmp_ne hx 55 dX0_add_9 rfl (by omega) (by omega) (fun c9 => ?_) (fun c9 => ?_)
  · have hin : r ∈ D := by
      rcases Decidable.em (r ∈ D) with z | z
      · exact z
      · exact absurd (h4.mpr z) c9
    exact zz_vret hx hf dX0_add_55 (by first | exact ⟨rfl, I, Q, rfl, by rw [gA1, if_pos hin]; exact hg, fun _ _ => rfl, fun _ _ _ => rfl⟩ | exact ⟨rfl, _, _, rfl, by rw [gA1, if_neg hnin]; exact hgk, fun k hk => Fup_n _ _ hk, fun k h3 h4 => by simp [Gset, h3, h4]⟩) (by decide) (by decide)
  · have hnin := h4.mp c9
    obtain ⟨hlt, hgk⟩ := hadd hnin
    refine zz_aload_n hx dX0_add_12 rfl ?_
    refine zg_g2 hx lf_X0_23 dX0_add_13 ?_
    refine zz_bipush hx dX0_add_16 rfl ?_
    refine zz_icmp_ge hx 55 dX0_add_18 rfl (by omega) (by omega) (fun c18 => ?_) (fun c18 => ?_)
    · exfalso; omega
    · refine zz_aload_n hx dX0_add_21 rfl ?_
      refine zg_g1 hx lf_X0_20 dX0_add_22 ?_
      refine zz_iload_n hx dX0_add_25 rfl ?_
      refine zz_aload_n hx dX0_add_26 rfl ?_
      refine zg_g2 hx lf_X0_23 dX0_add_27 ?_
      refine zd_put4 hx hst lk_X0_34 (by decide) (by decide) (by omega) (Nat.le_of_ble_eq_true rfl) dX0_add_30 ?_
      rw [rUp_in (by omega) (by omega)]
      refine zz_aload_n hx dX0_add_33 rfl ?_
      refine zg_g0 hx lf_X0_14 dX0_add_34 ?_
      refine zz_aload_n hx dX0_add_37 rfl ?_
      refine zg_g2 hx lf_X0_23 dX0_add_38 ?_
      refine zz_iload_n hx dX0_add_41 rfl ?_
      refine zd_put3 hx hst lk_X0_34 (by decide) (by decide) (by omega) (Nat.le_of_ble_eq_true rfl) dX0_add_42 ?_
      rw [rUp_in (by omega) (by omega)]
      refine zz_aload_n hx dX0_add_45 rfl ?_
      refine zz_dup hx dX0_add_46 rfl ?_
      refine zg_g2 hx lf_X0_23 dX0_add_47 ?_
      refine zz_iconst hx dX0_add_50 ?_
      refine zz_iadd hx dX0_add_51 ?_
      refine zg_p2 hx lf_X0_23 dX0_add_52 ?_
      exact zz_vret hx hf dX0_add_55 (by first | exact ⟨rfl, I, Q, rfl, by rw [gA1, if_pos hin]; exact hg, fun _ _ => rfl, fun _ _ _ => rfl⟩ | exact ⟨rfl, _, _, rfl, by rw [gA1, if_neg hnin]; exact hgk, fun k hk => Fup_n _ _ hk, fun k h3 h4 => by simp [Gset, h3, h4]⟩) (by decide) (by decide)

set_option maxHeartbeats 4000000 in
set_option maxRecDepth 100000 in
theorem k_X2_gather {l : Launch} {g : zG} {b c : Nat → Nat} {I P : Nat → Int} {Q T : Nat → Int → Int} {pre post : va_W} (hst : l.stackTraces = false) {ow : Int → Int} {isO : Int → Prop} {L : List Int} (hrr : rR T) (hk : rOK T ow isO L) {D : List Int} (hg : gOK I Q D) (q : Int) (hqo : isO q) : zM l g yX2_gather cX2_gather 5 (Option.none : Option FieldType) ({ frames := 2, cells := 0, slots := 0, locals := 43 } : Room) [.ref (c 0), vi q, .ref (b 8)] (sW g b I Q pre c P T post) (zV fun w => ∃ (I1 : Nat → Int) (Q1 : Nat → Int → Int), w = sW g b I1 Q1 pre c P T post ∧ gOK I1 Q1 (gAdd D (mOf ow q L)) ∧ (∀ k : Nat, k ≠ 3 → I1 k = I k) ∧ ∀ k : Nat, k ≠ 3 → k ≠ 4 → Q1 k = Q k) zN 0 0 := by
  have hq := hk.1.1 q hqo
  have hmf := mOf_facts hk.1 hqo
  have hln := hk.2.2 q hqo
  have hsr := sq_rng hk.1 hqo
  refine zM_of (lv0 := [(0, _), (1, _), (2, _)]) hst rfl (by decide +kernel) (Nat.le_of_ble_eq_true rfl) rfl (fun x hx hf hn => ?_)
  have loop : ∀ (n : Nat) (k : Int) (I1 : Nat → Int) (Q1 : Nat → Int → Int), 0 ≤ k → k ≤ ((mOf ow q L).length : Int) → gOK I1 Q1 (gAdd D ((mOf ow q L).take k.toNat)) → ((∀ k : Nat, k ≠ 3 → I1 k = I k) ∧ ∀ k : Nat, k ≠ 3 → k ≠ 4 → Q1 k = Q k) → (((mOf ow q L).length : Int) - k).toNat < n → Z l g ({ frames := 2, cells := 0, slots := 0, locals := 43 } : Room) 5 x 0 0 (sW g b I1 Q1 pre c P T post) 12 [(0, .ref (c 0)), (1, vi q), (2, .ref (b 8)), (3, vi (sq q (mOf ow q L) (k))), (4, vi k)] [] := by
    intro n
    induction n with
    | zero => intro k I1 Q1 h0 h1 hg1 hfr hm; omega
    | succ n ih =>
      intro k I1 Q1 h0 h1 hg1 hfr hm
      have hs := hsr k
      refine zz_iload hx dX2_gather_12 rfl ?_
      refine zz_bipush hx dX2_gather_14 rfl ?_
      refine zz_icmp_ge hx 44 dX2_gather_16 rfl (by omega) (by omega) (fun c16 => ?_) (fun c16 => ?_)
      · exact zz_vret hx hf dX2_gather_44 ⟨rfl, I1, Q1, rfl, by rw [take_all (by omega)] at hg1; exact hg1, hfr⟩ (by decide) (by decide)
      · refine zz_iload_n hx dX2_gather_19 rfl ?_
        refine zz_iload_n hx dX2_gather_20 rfl ?_
        refine zz_icmp_eq hx 44 dX2_gather_21 rfl (by omega) (by omega) (fun c21 => ?_) (fun c21 => ?_)
        · have hke : k = ((mOf ow q L).length : Int) := by
            rcases Int.lt_or_le k ((mOf ow q L).length : Int) with y | y
            · exact absurd (show q ∈ (mOf ow q L) by have hz9 := sq_mem (o := q) h0 y; rw [c21] at hz9; exact hz9) hmf.2.1
            · omega
          exact zz_vret hx hf dX2_gather_44 ⟨rfl, I1, Q1, rfl, by rw [take_all (by omega)] at hg1; exact hg1, hfr⟩ (by decide) (by decide)
        · have hkl : k < ((mOf ow q L).length : Int) := by
            rcases Int.lt_or_le k ((mOf ow q L).length : Int) with y | y
            · exact y
            · exact absurd (sq_e y) c21
          refine zz_aload_n hx dX2_gather_24 rfl ?_
          refine zz_iload_n hx dX2_gather_25 rfl ?_
          refine zz_callVv hx me_X0_add lk_X2_91 (k_X0_add (rest := pre ++ sC g c P T post) hst hg1 (sq q (mOf ow q L) (k)) (by omega) (by omega)) 8 rfl rfl ⟨rfl, rfl⟩ (by decide) (by decide) rfl rfl (Nat.le_of_ble_eq_true rfl) dX2_gather_26 (fun _ _ h => h.elim) (fun w26 hp26 => ?_)
          obtain ⟨I2, Q2, rfl, hg2, hf1, hf2⟩ := hp26
          rw [show gA1 (gAdd D ((mOf ow q L).take k.toNat)) (sq q (mOf ow q L) (k)) = gAdd D ((mOf ow q L).take (k + 1).toNat) by rw [take_snoc h0 hkl, gAdd_snoc, sq_in h0 hkl]] at hg2
          refine zz_eq (w' := sW g b I2 Q2 pre c P T post) rfl rfl ?_
          refine zz_aload_n hx dX2_gather_29 rfl ?_
          refine zs_g6 hx lf_X2_20 dX2_gather_30 ?_
          refine zz_iload_n hx dX2_gather_33 rfl ?_
          refine zs_at6 hx hst lk_X2_46 (by decide) (by decide) (by omega) (Nat.le_of_ble_eq_true rfl) dX2_gather_34 ?_
          rw [rAt_in (by omega) (by omega)]
          rw [(hln k (by omega) hkl).1]
          refine zz_istore_n (lv' := [(0, _), (1, _), (2, _), (3, _), (4, _)]) hx dX2_gather_37 (by decide) rfl ?_
          refine zz_iinc (lv' := [(0, _), (1, _), (2, _), (3, _), (4, _)]) hx dX2_gather_38 (by decide) rfl rfl ?_
          refine zz_goto hx 12 dX2_gather_41 rfl ?_
          exact ih (k + 1) I2 Q2 (by omega) (by omega) hg2 ⟨fun j hj => by rw [hf1 j hj]; exact hfr.1 j hj, fun j h3 h4 => by rw [hf2 j h3 h4]; exact hfr.2 j h3 h4⟩ (by omega)
  refine zz_aload_n hx dX2_gather_0 rfl ?_
  refine zs_g6 hx lf_X2_20 dX2_gather_1 ?_
  refine zz_iload_n hx dX2_gather_4 rfl ?_
  refine zs_at6 hx hst lk_X2_46 (by decide) (by decide) (by omega) (Nat.le_of_ble_eq_true rfl) dX2_gather_5 ?_
  rw [rAt_in (by omega) (by omega)]
  rw [lnk_first hln]
  refine zz_istore_n (lv' := [(0, _), (1, _), (2, _), (3, _)]) hx dX2_gather_8 (by decide) rfl ?_
  refine zz_iconst hx dX2_gather_9 ?_
  refine zz_istore (lv' := [(0, _), (1, _), (2, _), (3, _), (4, _)]) hx dX2_gather_10 (by decide) rfl ?_
  exact loop (((mOf ow q L).length : Int).toNat + 1) 0 I Q (by omega) (by omega) hg ⟨fun _ _ => rfl, fun _ _ _ => rfl⟩ (by omega)

set_option maxHeartbeats 4000000 in
set_option maxRecDepth 100000 in
theorem k_X2_admit {l : Launch} {g : zG} {b c : Nat → Nat} {I P : Nat → Int} {Q T : Nat → Int → Int} {pre post : va_W} {r : Int} (hst : l.stackTraces = false) {ow : Int → Int} {isO : Int → Prop} {L : List Int} (hrr : rR T) (hk : rOK T ow isO L) (hv1 : ∀ u : Int, u ∈ L ∨ u = r → -1000 ≤ Q 1 u ∧ Q 1 u ≤ 1000) (r0 : 0 ≤ r) (r1 : r < 60) (hro : ¬ isO r) (hrn : ow r = -1) (h0 : 0 ≤ P 0 ∧ P 0 ≤ 3) (h1 : 0 ≤ P 1 ∧ P 1 ≤ 3) (h01 : P 0 ≠ P 1) (h2 : 0 ≤ P 2 ∧ P 2 ≤ 4) (h3 : P 3 = 0 ∨ P 3 = 1) (h8 : -1 ≤ P 8 ∧ P 8 < 60) (t : Int) (ht : 0 ≤ t ∧ t ≤ 3) (hcu : P 3 = 1 → P 1 = t → isO (rAt 60 (T 5) (P 8))) : zM l g yX2_admit cX2_admit 4 (Option.none : Option FieldType) ({ frames := 4, cells := 0, slots := 0, locals := 96 } : Room) [.ref (c 0), vi r, vi t, .ref (b 4)] (sW g b I Q pre c P T post) (zV fun w => ∃ (T1 : Nat → Int → Int), w = sW g b I Q pre c P T1 post ∧ rR T1 ∧ ((t = P 0 ∧ T1 5 = zup (T 5) r r ∧ T1 6 = zup (T 6) r r ∧ T1 7 = zup (T 7) r r) ∨ (t ≠ P 0 ∧ (P 3 = 1 ∧ P 1 = t) ∧ ∃ j : Int, fPl (P 8) (P 2) (Q 1) ow r (rAt 60 (T 5) (P 8)) L j ∧ (0 ≤ j ∧ j ≤ ((mOf ow (rAt 60 (T 5) (P 8)) L).length : Int)) ∧ insT T T1 ow L r (rAt 60 (T 5) (P 8)) j) ∨ (t ≠ P 0 ∧ ¬ (P 3 = 1 ∧ P 1 = t) ∧ T1 = T))) zN 0 0 := by
  have hrL : r ∉ L := fun z => ((hk.1.2.2.1 r).mp z).2.2 hrn
  refine zM_of (lv0 := [(0, _), (1, _), (2, _), (3, _)]) hst rfl (by decide +kernel) (Nat.le_of_ble_eq_true rfl) rfl (fun x hx hf hn => ?_)
  refine zz_iload_n hx dX2_admit_0 rfl ?_
  refine zz_aload_n hx dX2_admit_1 rfl ?_
  refine zs_g0 hx lf_X2_30 dX2_admit_2 ?_
  refine zz_icmp_ne hx 23 dX2_admit_5 rfl (by omega) (by omega) (fun c5 => ?_) (fun c5 => ?_)
  · have hne : t ≠ P 0 := c5
    refine zz_aload_n hx dX2_admit_23 rfl ?_
    refine zz_iload_n hx dX2_admit_24 rfl ?_
    refine zz_callVi hx me_X2_takesAtStore lk_X2_57 (k_X2_takesAtStore hst h3 h1 t ht) (pre.length + 0 + 13) (sW_at 0) rfl ⟨rfl, rfl⟩ (by decide) (by decide) rfl rfl (Nat.le_of_ble_eq_true rfl) dX2_admit_25 (fun _ _ h => h.elim) (fun r25 w25 hp25 => ?_)
    obtain ⟨rfl, rfl⟩ := hp25
    refine zz_ifb_eq hx 41 dX2_admit_28 rfl (fun c28 => ?_) (fun c28 => ?_)
    · exact zz_vret hx hf dX2_admit_41 (by first | exact ⟨rfl, T2, rfl, hi2.2.2.2, Or.inr (Or.inl ⟨hne, by omega, j, j2, j1, hi2⟩)⟩ | exact ⟨rfl, T, rfl, hrr, Or.inr (Or.inr ⟨hne, c28, rfl⟩)⟩ | exact ⟨rfl, _, rfl, rR_up (rR_up (rR_up hrr (k := 5) (i := r) (v := r) (by omega)) (k := 6) (i := r) (v := r) (by omega)) (k := 7) (i := r) (v := r) (by omega), Or.inl ⟨heq, by simp [Gset], by simp [Gset], by simp [Gset]⟩⟩) (by decide) (by decide)
    · skip
      refine zz_aload_n hx dX2_admit_31 rfl ?_
      refine zz_iload_n hx dX2_admit_32 rfl ?_
      refine zz_aload_n hx dX2_admit_33 rfl ?_
      refine zz_callVi hx me_X2_currentOwner lk_X2_61 (k_X2_currentOwner hst h8) (pre.length + 0 + 13) (sW_at 0) rfl ⟨rfl, rfl⟩ (by decide) (by decide) rfl rfl (Nat.le_of_ble_eq_true rfl) dX2_admit_34 (fun _ _ h => h.elim) (fun r34 w34 hp34 => ?_)
      obtain ⟨rfl, rfl⟩ := hp34
      refine zz_aload_n hx dX2_admit_37 rfl ?_
      refine zz_callVv hx me_X2_insert lk_X2_65 (k_X2_insert hst hrr hk hv1 (hcu (by omega) (by omega)) hrL r0 r1 hro h2 h8) (pre.length + 0 + 13) (sW_at 0) rfl ⟨rfl, rfl⟩ (by decide) (by decide) rfl rfl (Nat.le_of_ble_eq_true rfl) dX2_admit_38 (fun _ _ h => h.elim) (fun w38 hp38 => ?_)
      obtain ⟨T2, j, rfl, j1, j2, hi2⟩ := hp38
      exact zz_vret hx hf dX2_admit_41 (by first | exact ⟨rfl, T2, rfl, hi2.2.2.2, Or.inr (Or.inl ⟨hne, by omega, j, j2, j1, hi2⟩)⟩ | exact ⟨rfl, T, rfl, hrr, Or.inr (Or.inr ⟨hne, c28, rfl⟩)⟩ | exact ⟨rfl, _, rfl, rR_up (rR_up (rR_up hrr (k := 5) (i := r) (v := r) (by omega)) (k := 6) (i := r) (v := r) (by omega)) (k := 7) (i := r) (v := r) (by omega), Or.inl ⟨heq, by simp [Gset], by simp [Gset], by simp [Gset]⟩⟩) (by decide) (by decide)
  · have heq : t = P 0 := c5
    refine zz_aload_n hx dX2_admit_8 rfl ?_
    refine zs_g5 hx lf_X2_14 dX2_admit_9 ?_
    refine zz_iload_n hx dX2_admit_12 rfl ?_
    refine zz_iload_n hx dX2_admit_13 rfl ?_
    refine zs_put5 hx hst lk_X2_50 (by decide) (by decide) (by omega) (Nat.le_of_ble_eq_true rfl) dX2_admit_14 ?_
    rw [rUp_in (by omega) (by omega)]
    refine zz_aload_n hx dX2_admit_17 rfl ?_
    refine zz_iload_n hx dX2_admit_18 rfl ?_
    refine zz_iload_n hx dX2_admit_19 rfl ?_
    refine zz_callVv hx me_X2_link lk_X2_54 (k_X2_link hst _ _ (by omega) (by omega)) (pre.length + 0 + 13) (sW_at 0) rfl ⟨rfl, rfl⟩ (by decide) (by decide) rfl rfl (Nat.le_of_ble_eq_true rfl) dX2_admit_20 (fun _ _ h => h.elim) (fun w20 hp20 => ?_)
    obtain rfl := hp20
    refine zz_aload_n hx dX2_admit_23 rfl ?_
    refine zz_iload_n hx dX2_admit_24 rfl ?_
    refine zz_callVi hx me_X2_takesAtStore lk_X2_57 (k_X2_takesAtStore hst h3 h1 t ht) (pre.length + 0 + 13) (sW_at 0) rfl ⟨rfl, rfl⟩ (by decide) (by decide) rfl rfl (Nat.le_of_ble_eq_true rfl) dX2_admit_25 (fun _ _ h => h.elim) (fun r25 w25 hp25 => ?_)
    obtain ⟨rfl, rfl⟩ := hp25
    refine zz_ifb_eq hx 41 dX2_admit_28 rfl (fun c28 => ?_) (fun c28 => ?_)
    · exact zz_vret hx hf dX2_admit_41 (by first | exact ⟨rfl, T2, rfl, hi2.2.2.2, Or.inr (Or.inl ⟨hne, by omega, j, j2, j1, hi2⟩)⟩ | exact ⟨rfl, T, rfl, hrr, Or.inr (Or.inr ⟨hne, c28, rfl⟩)⟩ | exact ⟨rfl, _, rfl, rR_up (rR_up (rR_up hrr (k := 5) (i := r) (v := r) (by omega)) (k := 6) (i := r) (v := r) (by omega)) (k := 7) (i := r) (v := r) (by omega), Or.inl ⟨heq, by simp [Gset], by simp [Gset], by simp [Gset]⟩⟩) (by decide) (by decide)
    · (exfalso; omega)
