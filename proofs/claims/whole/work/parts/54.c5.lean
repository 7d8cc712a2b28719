theorem zz_newz {l : Launch} {g : zG} {R : Room} {nL : Nat} {x : zX} {k n : Nat} {w : va_W} {pc : Nat} {lv : List (Nat × Value)} {st : List Value} {own : String} {cc : ByteArray} (hx : zOK l g nL x own cc) {N : Nat} (hN : N < 100000) (hR : k + 1 ≤ R.cells ∧ n + N ≤ R.slots) (d : decode cc pc = .ok (.newarray .boolean, 2))
    (kk : ∀ q : Nat, Z l g R nL x (k + 1) (n + N) (w ++ [(q, .inl (g.2.2.1, zar N (fun _ => 0)))]) (pc + 2) lv (.ref q :: st)) : Z l g R nL x k n w pc lv (vi (N : Int) :: st) := by
  obtain ⟨p, e, s, m, args, below, meth, c, A, Q⟩ := x
  obtain ⟨h2, h3, h3', h4, h5, h6, h7, h8', h9, hA⟩ := hx
  intro H locs ls hP hD hS h
  refine va_newa (D := g.1) (a0 := zar N (fun _ => 0)) (N' := N) (ty := .boolean) h2 h3 (h5 _ (zT_dec (by decide +kernel))) rfl h6.1 hP hD hS hA (fun cA => rfl) ?_ (vi_cl (by omega) (by omega)) ?_ hR.1 hR.2 d (fun q cA H1 hK1 hP1 hD1 hS1 => ?_)
  · rw [← vi_0, vi_lt (by omega) (by omega)]; omega
  · show N * 1 ≤ _; omega
  · have e1 : cA = g.2.2.1 := zz_sameK (i := 1) hK1 rfl
    subst e1
    exact kk q H1 locs ls hP1 hD1 hS1 h
theorem rFill_st {N : Nat} {f : Int → Int} {k v : Int} (h0 : 0 ≤ k) : zup (rFill N f k v) k v = rFill N f (k + 1) v := by
  funext i
  show (if i = k then v else rFill N f k v i) = _
  simp only [rFill]
  by_cases c : i = k
  · subst c; rw [if_pos rfl, if_pos ⟨h0, by omega⟩]
  · rw [if_neg c]
    by_cases c2 : 0 ≤ i ∧ i < k
    · rw [if_pos c2, if_pos ⟨c2.1, by omega⟩]
    · rw [if_neg c2, if_neg (fun z => c2 ⟨z.1, by omega⟩)]
theorem Gup_rFill {G : Nat → Int → Int} {j N : Nat} {k v : Int} (h0 : 0 ≤ k) : Gup (Gset G j (rFill N (G j) k v)) j k v = Gset G j (rFill N (G j) (k + 1) v) := by
  funext i
  unfold Gup
  by_cases c : i = j
  · rw [if_pos c, c, Gset_s, Gset_s, rFill_st h0]
  · rw [if_neg c, Gset_n _ _ c, Gset_n _ _ c]
theorem Gset_rFill0 {G : Nat → Int → Int} {j N : Nat} {v : Int} : Gset G j (rFill N (G j) 0 v) = G := by
  have h : rFill N (G j) 0 v = G j := funext fun i => if_neg (fun z => by omega)
  rw [h, Gset_id]

set_option maxHeartbeats 4000000 in
set_option maxRecDepth 100000 in
theorem c_Model_init {l : Launch} {g : zG} {w : va_W} {a : Nat} (hst : l.stackTraces = false) : zM l g yX4_init cX4_init 2 none ({ frames := 1, cells := 14, slots := 1006, locals := 12 } : Room) [.ref a] (w ++ [(a, .inr (5, [vi 0, .null, .null, .null, .null, .null, vi 0, vi 0, .null, .null, .null, .null, .null, .null, vi 0, .null, .null, .null, vi 0]))]) (zV fun w1 => ∃ (A : Nat → Nat) (G : Nat → Int → Int), A 0 = a ∧ w1 = mW g A (fun k => if k = 14 then -1 else 0) G w ∧ (∀ u : Int, 0 ≤ u → u < 4 → G 15 u = -1) ∧ (∀ u : Int, 0 ≤ u → u < 6 → G 16 u = -1) ∧ (∀ u : Int, 0 ≤ u → u < 360 → G 11 u = -1) ∧ ∀ k : Nat, k ≠ 11 → k ≠ 15 → k ≠ 16 → G k = fun _ => 0) zN 14 1006 := by
  refine zM_ofI (lv0 := [(0, _)]) hst rfl rfl (by decide +kernel) (Nat.le_of_ble_eq_true rfl) rfl (fun x hx hf hn hnm => ?_)
  have lp3 : ∀ (A : Nat → Nat), A 0 = a → ∀ (G0 : Nat → Int → Int), (∀ k : Nat, k ≠ 11 → k ≠ 15 → k ≠ 16 → G0 k = fun _ => 0) ∧ (∀ u : Int, 0 ≤ u → u < 4 → G0 15 u = -1) ∧ (∀ u : Int, 0 ≤ u → u < 6 → G0 16 u = -1) → ∀ (n : Nat) (k : Int), 0 ≤ k → k ≤ 360 → (360 - k).toNat < n → Z l g ({ frames := 1, cells := 14, slots := 1006, locals := 12 } : Room) 2 x 14 1006 (mW g A (fun k => if k = 14 then -1 else 0) (Gset G0 11 (rFill 360 (G0 11) k (-1))) w) 165 [(0, .ref (A 0)), (1, vi k)] [] := by
    intro A hA0 G0 hG0 n
    induction n with
    | zero => intro k h0 h1 hm; omega
    | succ n ih =>
      intro k h0 h1 hm
      refine zz_iload_n hx dX4_init_165 rfl ?_
      refine zz_sipush hx dX4_init_166 rfl ?_
      refine zz_icmp_ge hx 185 dX4_init_169 rfl (by omega) (by omega) (fun c169 => ?_) (fun c169 => ?_)
      · exact zz_vret hx hf dX4_init_185 ⟨rfl, A, _, hA0, rfl, fun u u0 u1 => by rw [Gset_n _ _ (by decide)]; exact hG0.2.1 u u0 u1, fun u u0 u1 => by rw [Gset_n _ _ (by decide)]; exact hG0.2.2 u u0 u1, fun u u0 u1 => by rw [Gset_s, show k = 360 by omega]; exact if_pos ⟨u0, u1⟩, fun i h1 h2 h3 => by rw [Gset_n _ _ h1]; exact hG0.1 i h1 h2 h3⟩ (by decide) (by decide)
      · refine zz_aload_n hx dX4_init_172 rfl ?_
        refine zm_g11 hx lf_X4_35 dX4_init_173 ?_
        refine zz_iload_n hx dX4_init_176 rfl ?_
        refine zz_iconst hx dX4_init_177 ?_
        refine zm_s11 hx dX4_init_178 (by omega) (by omega) ?_
        refine zz_iinc (lv' := [(0, _), (1, _)]) hx dX4_init_179 (by decide) rfl rfl ?_
        refine zz_goto hx 165 dX4_init_182 rfl ?_
        rw [Gup_rFill h0]
        exact ih (k + 1) (by omega) (by omega) (by omega)
  have lp2 : ∀ (A : Nat → Nat), A 0 = a → ∀ (G0 : Nat → Int → Int), (∀ k : Nat, k ≠ 11 → k ≠ 15 → k ≠ 16 → G0 k = fun _ => 0) ∧ (∀ u : Int, 0 ≤ u → u < 4 → G0 15 u = -1) → ∀ (n : Nat) (k : Int), 0 ≤ k → k ≤ 6 → (6 - k).toNat < n → Z l g ({ frames := 1, cells := 14, slots := 1006, locals := 12 } : Room) 2 x 14 1006 (mW g A (fun k => if k = 14 then -1 else 0) (Gset G0 16 (rFill 6 (G0 16) k (-1))) w) 144 [(0, .ref (A 0)), (1, vi k)] [] := by
    intro A hA0 G0 hG0 n
    induction n with
    | zero => intro k h0 h1 hm; omega
    | succ n ih =>
      intro k h0 h1 hm
      refine zz_iload_n hx dX4_init_144 rfl ?_
      refine zz_bipush hx dX4_init_145 rfl ?_
      refine zz_icmp_ge hx 163 dX4_init_147 rfl (by omega) (by omega) (fun c147 => ?_) (fun c147 => ?_)
      · refine zz_iconst hx dX4_init_163 ?_
        refine zz_istore_n (lv' := [(0, _), (1, _)]) hx dX4_init_164 (by decide) rfl ?_
        refine zz_eq (w' := (mW g A (fun k => if k = 14 then -1 else 0) (Gset (Gset G0 16 (rFill 6 (G0 16) k (-1))) 11 (rFill 360 ((Gset G0 16 (rFill 6 (G0 16) k (-1))) 11) 0 (-1))) w)) (by rw [Gset_rFill0]) rfl ?_
        exact lp3 A hA0 _ ⟨fun i h1 h2 h3 => by rw [Gset_n _ _ h3]; exact hG0.1 i h1 h2 h3, fun u u0 u1 => by rw [Gset_n _ _ (by decide)]; exact hG0.2 u u0 u1, fun u u0 u1 => by rw [Gset_s, show k = 6 by omega]; exact if_pos ⟨u0, u1⟩⟩ 361 0 (by omega) (by omega) (by omega)
      · refine zz_aload_n hx dX4_init_150 rfl ?_
        refine zm_g16 hx lf_X4_47 dX4_init_151 ?_
        refine zz_iload_n hx dX4_init_154 rfl ?_
        refine zz_iconst hx dX4_init_155 ?_
        refine zm_s16 hx dX4_init_156 (by omega) (by omega) ?_
        refine zz_iinc (lv' := [(0, _), (1, _)]) hx dX4_init_157 (by decide) rfl rfl ?_
        refine zz_goto hx 144 dX4_init_160 rfl ?_
        rw [Gup_rFill h0]
        exact ih (k + 1) (by omega) (by omega) (by omega)
  have lp1 : ∀ (A : Nat → Nat), A 0 = a → ∀ (G0 : Nat → Int → Int), (∀ k : Nat, k ≠ 11 → k ≠ 15 → k ≠ 16 → G0 k = fun _ => 0) → ∀ (n : Nat) (k : Int), 0 ≤ k → k ≤ 4 → (4 - k).toNat < n → Z l g ({ frames := 1, cells := 14, slots := 1006, locals := 12 } : Room) 2 x 14 1006 (mW g A (fun k => if k = 14 then -1 else 0) (Gset G0 15 (rFill 4 (G0 15) k (-1))) w) 124 [(0, .ref (A 0)), (1, vi k)] [] := by
    intro A hA0 G0 hG0 n
    induction n with
    | zero => intro k h0 h1 hm; omega
    | succ n ih =>
      intro k h0 h1 hm
      refine zz_iload_n hx dX4_init_124 rfl ?_
      refine zz_iconst hx dX4_init_125 ?_
      refine zz_icmp_ge hx 142 dX4_init_126 rfl (by omega) (by omega) (fun c126 => ?_) (fun c126 => ?_)
      · refine zz_iconst hx dX4_init_142 ?_
        refine zz_istore_n (lv' := [(0, _), (1, _)]) hx dX4_init_143 (by decide) rfl ?_
        refine zz_eq (w' := (mW g A (fun k => if k = 14 then -1 else 0) (Gset (Gset G0 15 (rFill 4 (G0 15) k (-1))) 16 (rFill 6 ((Gset G0 15 (rFill 4 (G0 15) k (-1))) 16) 0 (-1))) w)) (by rw [Gset_rFill0]) rfl ?_
        exact lp2 A hA0 _ ⟨fun i h1 h2 h3 => by rw [Gset_n _ _ h2]; exact hG0 i h1 h2 h3, fun u u0 u1 => by rw [Gset_s, show k = 4 by omega]; exact if_pos ⟨u0, u1⟩⟩ 7 0 (by omega) (by omega) (by omega)
      · refine zz_aload_n hx dX4_init_129 rfl ?_
        refine zm_g15 hx lf_X4_44 dX4_init_130 ?_
        refine zz_iload_n hx dX4_init_133 rfl ?_
        refine zz_iconst hx dX4_init_134 ?_
        refine zm_s15 hx dX4_init_135 (by omega) (by omega) ?_
        refine zz_iinc (lv' := [(0, _), (1, _)]) hx dX4_init_136 (by decide) rfl rfl ?_
        refine zz_goto hx 124 dX4_init_139 rfl ?_
        rw [Gup_rFill h0]
        exact ih (k + 1) (by omega) (by omega) (by omega)
  have tail : ∀ (A : Nat → Nat), A 0 = a → Z l g ({ frames := 1, cells := 14, slots := 1006, locals := 12 } : Room) 2 x 14 1006 (mW g A (fun k => if k = 14 then -1 else 0) (fun _ _ => 0) w) 122 [(0, .ref (A 0))] [] := by
    intro A hA0
    refine zz_iconst hx dX4_init_122 ?_
    refine zz_istore_n (lv' := [(0, _), (1, _)]) hx dX4_init_123 (by decide) rfl ?_
    refine zz_eq (w' := (mW g A (fun k => if k = 14 then -1 else 0) (Gset (fun _ _ => 0) 15 (rFill 4 (((fun _ _ => 0) : Nat → Int → Int) 15) 0 (-1))) w)) (by rw [Gset_rFill0]) rfl ?_
    exact lp1 A hA0 (fun _ _ => 0) (fun _ _ _ _ => rfl) 5 0 (by omega) (by omega) (by omega)
  refine zz_aload_n hx dX4_init_0 rfl ?_
  refine zz_oinit hx (zT_dec (by decide +kernel)) dX4_init_1 (by decide) ?_
  refine zz_aload_n hx dX4_init_4 rfl ?_
  refine zz_bipush hx dX4_init_5 rfl ?_
  refine zz_newi (N := 6) hx (by decide) (by decide) dX4_init_7 (fun q1 => ?_)
  refine zz_eq (w' := w ++ [(a, .inr (5, [vi 0, .null, .null, .null, .null, .null, vi 0, vi 0, .null, .null, .null, .null, .null, .null, vi 0, .null, .null, .null, vi 0])), (q1, .inl (g.2.1, zar 6 (fun _ => 0)))]) (List.append_assoc _ _ _) rfl ?_
  refine zz_putF (fs := [vi 0, .null, .null, .null, .null, .null, vi 0, vi 0, .null, .null, .null, .null, .null, .null, vi 0, .null, .null, .null, vi 0]) hx hnm lf_X4_7 rfl tyX4 tyX4_ok nmX4 (w.length + 0) (ap_at _ _ 0) rfl rfl rfl rfl (Nat.le_of_ble_eq_true rfl) dX4_init_9 (ap_set _ _ 0 _) ?_
  refine zz_eq (w' := w ++ [(a, .inr (5, [vi 0, .ref q1, .null, .null, .null, .null, vi 0, vi 0, .null, .null, .null, .null, .null, .null, vi 0, .null, .null, .null, vi 0])), (q1, .inl (g.2.1, zar 6 (fun _ => 0)))]) rfl rfl ?_
  refine zz_aload_n hx dX4_init_12 rfl ?_
  refine zz_bipush hx dX4_init_13 rfl ?_
  refine zz_newi (N := 6) hx (by decide) (by decide) dX4_init_15 (fun q2 => ?_)
  refine zz_eq (w' := w ++ [(a, .inr (5, [vi 0, .ref q1, .null, .null, .null, .null, vi 0, vi 0, .null, .null, .null, .null, .null, .null, vi 0, .null, .null, .null, vi 0])), (q1, .inl (g.2.1, zar 6 (fun _ => 0))), (q2, .inl (g.2.1, zar 6 (fun _ => 0)))]) (List.append_assoc _ _ _) rfl ?_
  refine zz_putF (fs := [vi 0, .ref q1, .null, .null, .null, .null, vi 0, vi 0, .null, .null, .null, .null, .null, .null, vi 0, .null, .null, .null, vi 0]) hx hnm lf_X4_13 rfl tyX4 tyX4_ok nmX4 (w.length + 0) (ap_at _ _ 0) rfl rfl rfl rfl (Nat.le_of_ble_eq_true rfl) dX4_init_17 (ap_set _ _ 0 _) ?_
  refine zz_eq (w' := w ++ [(a, .inr (5, [vi 0, .ref q1, .ref q2, .null, .null, .null, vi 0, vi 0, .null, .null, .null, .null, .null, .null, vi 0, .null, .null, .null, vi 0])), (q1, .inl (g.2.1, zar 6 (fun _ => 0))), (q2, .inl (g.2.1, zar 6 (fun _ => 0)))]) rfl rfl ?_
  refine zz_aload_n hx dX4_init_20 rfl ?_
  refine zz_bipush hx dX4_init_21 rfl ?_
  refine zz_newi (N := 6) hx (by decide) (by decide) dX4_init_23 (fun q3 => ?_)
  refine zz_eq (w' := w ++ [(a, .inr (5, [vi 0, .ref q1, .ref q2, .null, .null, .null, vi 0, vi 0, .null, .null, .null, .null, .null, .null, vi 0, .null, .null, .null, vi 0])), (q1, .inl (g.2.1, zar 6 (fun _ => 0))), (q2, .inl (g.2.1, zar 6 (fun _ => 0))), (q3, .inl (g.2.1, zar 6 (fun _ => 0)))]) (List.append_assoc _ _ _) rfl ?_
  refine zz_putF (fs := [vi 0, .ref q1, .ref q2, .null, .null, .null, vi 0, vi 0, .null, .null, .null, .null, .null, .null, vi 0, .null, .null, .null, vi 0]) hx hnm lf_X4_16 rfl tyX4 tyX4_ok nmX4 (w.length + 0) (ap_at _ _ 0) rfl rfl rfl rfl (Nat.le_of_ble_eq_true rfl) dX4_init_25 (ap_set _ _ 0 _) ?_
  refine zz_eq (w' := w ++ [(a, .inr (5, [vi 0, .ref q1, .ref q2, .ref q3, .null, .null, vi 0, vi 0, .null, .null, .null, .null, .null, .null, vi 0, .null, .null, .null, vi 0])), (q1, .inl (g.2.1, zar 6 (fun _ => 0))), (q2, .inl (g.2.1, zar 6 (fun _ => 0))), (q3, .inl (g.2.1, zar 6 (fun _ => 0)))]) rfl rfl ?_
  refine zz_aload_n hx dX4_init_28 rfl ?_
  refine zz_bipush hx dX4_init_29 rfl ?_
  refine zz_newz (N := 6) hx (by decide) (by decide) dX4_init_31 (fun q4 => ?_)
  refine zz_eq (w' := w ++ [(a, .inr (5, [vi 0, .ref q1, .ref q2, .ref q3, .null, .null, vi 0, vi 0, .null, .null, .null, .null, .null, .null, vi 0, .null, .null, .null, vi 0])), (q1, .inl (g.2.1, zar 6 (fun _ => 0))), (q2, .inl (g.2.1, zar 6 (fun _ => 0))), (q3, .inl (g.2.1, zar 6 (fun _ => 0))), (q4, .inl (g.2.2.1, zar 6 (fun _ => 0)))]) (List.append_assoc _ _ _) rfl ?_
  refine zz_putF (fs := [vi 0, .ref q1, .ref q2, .ref q3, .null, .null, vi 0, vi 0, .null, .null, .null, .null, .null, .null, vi 0, .null, .null, .null, vi 0]) hx hnm lf_X4_19 rfl tyX4 tyX4_ok nmX4 (w.length + 0) (ap_at _ _ 0) rfl rfl rfl rfl (Nat.le_of_ble_eq_true rfl) dX4_init_33 (ap_set _ _ 0 _) ?_
  refine zz_eq (w' := w ++ [(a, .inr (5, [vi 0, .ref q1, .ref q2, .ref q3, .ref q4, .null, vi 0, vi 0, .null, .null, .null, .null, .null, .null, vi 0, .null, .null, .null, vi 0])), (q1, .inl (g.2.1, zar 6 (fun _ => 0))), (q2, .inl (g.2.1, zar 6 (fun _ => 0))), (q3, .inl (g.2.1, zar 6 (fun _ => 0))), (q4, .inl (g.2.2.1, zar 6 (fun _ => 0)))]) rfl rfl ?_
  refine zz_aload_n hx dX4_init_36 rfl ?_
  refine zz_bipush hx dX4_init_37 rfl ?_
  refine zz_newi (N := 6) hx (by decide) (by decide) dX4_init_39 (fun q5 => ?_)
  refine zz_eq (w' := w ++ [(a, .inr (5, [vi 0, .ref q1, .ref q2, .ref q3, .ref q4, .null, vi 0, vi 0, .null, .null, .null, .null, .null, .null, vi 0, .null, .null, .null, vi 0])), (q1, .inl (g.2.1, zar 6 (fun _ => 0))), (q2, .inl (g.2.1, zar 6 (fun _ => 0))), (q3, .inl (g.2.1, zar 6 (fun _ => 0))), (q4, .inl (g.2.2.1, zar 6 (fun _ => 0))), (q5, .inl (g.2.1, zar 6 (fun _ => 0)))]) (List.append_assoc _ _ _) rfl ?_
  refine zz_putF (fs := [vi 0, .ref q1, .ref q2, .ref q3, .ref q4, .null, vi 0, vi 0, .null, .null, .null, .null, .null, .null, vi 0, .null, .null, .null, vi 0]) hx hnm lf_X4_23 rfl tyX4 tyX4_ok nmX4 (w.length + 0) (ap_at _ _ 0) rfl rfl rfl rfl (Nat.le_of_ble_eq_true rfl) dX4_init_41 (ap_set _ _ 0 _) ?_
  refine zz_eq (w' := w ++ [(a, .inr (5, [vi 0, .ref q1, .ref q2, .ref q3, .ref q4, .ref q5, vi 0, vi 0, .null, .null, .null, .null, .null, .null, vi 0, .null, .null, .null, vi 0])), (q1, .inl (g.2.1, zar 6 (fun _ => 0))), (q2, .inl (g.2.1, zar 6 (fun _ => 0))), (q3, .inl (g.2.1, zar 6 (fun _ => 0))), (q4, .inl (g.2.2.1, zar 6 (fun _ => 0))), (q5, .inl (g.2.1, zar 6 (fun _ => 0)))]) rfl rfl ?_
  refine zz_aload_n hx dX4_init_44 rfl ?_
  refine zz_bipush hx dX4_init_45 rfl ?_
  refine zz_newz (N := 60) hx (by decide) (by decide) dX4_init_47 (fun q8 => ?_)
  refine zz_eq (w' := w ++ [(a, .inr (5, [vi 0, .ref q1, .ref q2, .ref q3, .ref q4, .ref q5, vi 0, vi 0, .null, .null, .null, .null, .null, .null, vi 0, .null, .null, .null, vi 0])), (q1, .inl (g.2.1, zar 6 (fun _ => 0))), (q2, .inl (g.2.1, zar 6 (fun _ => 0))), (q3, .inl (g.2.1, zar 6 (fun _ => 0))), (q4, .inl (g.2.2.1, zar 6 (fun _ => 0))), (q5, .inl (g.2.1, zar 6 (fun _ => 0))), (q8, .inl (g.2.2.1, zar 60 (fun _ => 0)))]) (List.append_assoc _ _ _) rfl ?_
  refine zz_putF (fs := [vi 0, .ref q1, .ref q2, .ref q3, .ref q4, .ref q5, vi 0, vi 0, .null, .null, .null, .null, .null, .null, vi 0, .null, .null, .null, vi 0]) hx hnm lf_X4_26 rfl tyX4 tyX4_ok nmX4 (w.length + 0) (ap_at _ _ 0) rfl rfl rfl rfl (Nat.le_of_ble_eq_true rfl) dX4_init_49 (ap_set _ _ 0 _) ?_
  refine zz_eq (w' := w ++ [(a, .inr (5, [vi 0, .ref q1, .ref q2, .ref q3, .ref q4, .ref q5, vi 0, vi 0, .ref q8, .null, .null, .null, .null, .null, vi 0, .null, .null, .null, vi 0])), (q1, .inl (g.2.1, zar 6 (fun _ => 0))), (q2, .inl (g.2.1, zar 6 (fun _ => 0))), (q3, .inl (g.2.1, zar 6 (fun _ => 0))), (q4, .inl (g.2.2.1, zar 6 (fun _ => 0))), (q5, .inl (g.2.1, zar 6 (fun _ => 0))), (q8, .inl (g.2.2.1, zar 60 (fun _ => 0)))]) rfl rfl ?_
  refine zz_aload_n hx dX4_init_52 rfl ?_
  refine zz_bipush hx dX4_init_53 rfl ?_
  refine zz_newi (N := 60) hx (by decide) (by decide) dX4_init_55 (fun q9 => ?_)
  refine zz_eq (w' := w ++ [(a, .inr (5, [vi 0, .ref q1, .ref q2, .ref q3, .ref q4, .ref q5, vi 0, vi 0, .ref q8, .null, .null, .null, .null, .null, vi 0, .null, .null, .null, vi 0])), (q1, .inl (g.2.1, zar 6 (fun _ => 0))), (q2, .inl (g.2.1, zar 6 (fun _ => 0))), (q3, .inl (g.2.1, zar 6 (fun _ => 0))), (q4, .inl (g.2.2.1, zar 6 (fun _ => 0))), (q5, .inl (g.2.1, zar 6 (fun _ => 0))), (q8, .inl (g.2.2.1, zar 60 (fun _ => 0))), (q9, .inl (g.2.1, zar 60 (fun _ => 0)))]) (List.append_assoc _ _ _) rfl ?_
  refine zz_putF (fs := [vi 0, .ref q1, .ref q2, .ref q3, .ref q4, .ref q5, vi 0, vi 0, .ref q8, .null, .null, .null, .null, .null, vi 0, .null, .null, .null, vi 0]) hx hnm lf_X4_29 rfl tyX4 tyX4_ok nmX4 (w.length + 0) (ap_at _ _ 0) rfl rfl rfl rfl (Nat.le_of_ble_eq_true rfl) dX4_init_57 (ap_set _ _ 0 _) ?_
  refine zz_eq (w' := w ++ [(a, .inr (5, [vi 0, .ref q1, .ref q2, .ref q3, .ref q4, .ref q5, vi 0, vi 0, .ref q8, .ref q9, .null, .null, .null, .null, vi 0, .null, .null, .null, vi 0])), (q1, .inl (g.2.1, zar 6 (fun _ => 0))), (q2, .inl (g.2.1, zar 6 (fun _ => 0))), (q3, .inl (g.2.1, zar 6 (fun _ => 0))), (q4, .inl (g.2.2.1, zar 6 (fun _ => 0))), (q5, .inl (g.2.1, zar 6 (fun _ => 0))), (q8, .inl (g.2.2.1, zar 60 (fun _ => 0))), (q9, .inl (g.2.1, zar 60 (fun _ => 0)))]) rfl rfl ?_
  refine zz_aload_n hx dX4_init_60 rfl ?_
  refine zz_bipush hx dX4_init_61 rfl ?_
  refine zz_newi (N := 60) hx (by decide) (by decide) dX4_init_63 (fun q10 => ?_)
  refine zz_eq (w' := w ++ [(a, .inr (5, [vi 0, .ref q1, .ref q2, .ref q3, .ref q4, .ref q5, vi 0, vi 0, .ref q8, .ref q9, .null, .null, .null, .null, vi 0, .null, .null, .null, vi 0])), (q1, .inl (g.2.1, zar 6 (fun _ => 0))), (q2, .inl (g.2.1, zar 6 (fun _ => 0))), (q3, .inl (g.2.1, zar 6 (fun _ => 0))), (q4, .inl (g.2.2.1, zar 6 (fun _ => 0))), (q5, .inl (g.2.1, zar 6 (fun _ => 0))), (q8, .inl (g.2.2.1, zar 60 (fun _ => 0))), (q9, .inl (g.2.1, zar 60 (fun _ => 0))), (q10, .inl (g.2.1, zar 60 (fun _ => 0)))]) (List.append_assoc _ _ _) rfl ?_
  refine zz_putF (fs := [vi 0, .ref q1, .ref q2, .ref q3, .ref q4, .ref q5, vi 0, vi 0, .ref q8, .ref q9, .null, .null, .null, .null, vi 0, .null, .null, .null, vi 0]) hx hnm lf_X4_32 rfl tyX4 tyX4_ok nmX4 (w.length + 0) (ap_at _ _ 0) rfl rfl rfl rfl (Nat.le_of_ble_eq_true rfl) dX4_init_65 (ap_set _ _ 0 _) ?_
  refine zz_eq (w' := w ++ [(a, .inr (5, [vi 0, .ref q1, .ref q2, .ref q3, .ref q4, .ref q5, vi 0, vi 0, .ref q8, .ref q9, .ref q10, .null, .null, .null, vi 0, .null, .null, .null, vi 0])), (q1, .inl (g.2.1, zar 6 (fun _ => 0))), (q2, .inl (g.2.1, zar 6 (fun _ => 0))), (q3, .inl (g.2.1, zar 6 (fun _ => 0))), (q4, .inl (g.2.2.1, zar 6 (fun _ => 0))), (q5, .inl (g.2.1, zar 6 (fun _ => 0))), (q8, .inl (g.2.2.1, zar 60 (fun _ => 0))), (q9, .inl (g.2.1, zar 60 (fun _ => 0))), (q10, .inl (g.2.1, zar 60 (fun _ => 0)))]) rfl rfl ?_
  refine zz_aload_n hx dX4_init_68 rfl ?_
  refine zz_sipush hx dX4_init_69 rfl ?_
  refine zz_newi (N := 360) hx (by decide) (by decide) dX4_init_72 (fun q11 => ?_)
  refine zz_eq (w' := w ++ [(a, .inr (5, [vi 0, .ref q1, .ref q2, .ref q3, .ref q4, .ref q5, vi 0, vi 0, .ref q8, .ref q9, .ref q10, .null, .null, .null, vi 0, .null, .null, .null, vi 0])), (q1, .inl (g.2.1, zar 6 (fun _ => 0))), (q2, .inl (g.2.1, zar 6 (fun _ => 0))), (q3, .inl (g.2.1, zar 6 (fun _ => 0))), (q4, .inl (g.2.2.1, zar 6 (fun _ => 0))), (q5, .inl (g.2.1, zar 6 (fun _ => 0))), (q8, .inl (g.2.2.1, zar 60 (fun _ => 0))), (q9, .inl (g.2.1, zar 60 (fun _ => 0))), (q10, .inl (g.2.1, zar 60 (fun _ => 0))), (q11, .inl (g.2.1, zar 360 (fun _ => 0)))]) (List.append_assoc _ _ _) rfl ?_
  refine zz_putF (fs := [vi 0, .ref q1, .ref q2, .ref q3, .ref q4, .ref q5, vi 0, vi 0, .ref q8, .ref q9, .ref q10, .null, .null, .null, vi 0, .null, .null, .null, vi 0]) hx hnm lf_X4_35 rfl tyX4 tyX4_ok nmX4 (w.length + 0) (ap_at _ _ 0) rfl rfl rfl rfl (Nat.le_of_ble_eq_true rfl) dX4_init_74 (ap_set _ _ 0 _) ?_
  refine zz_eq (w' := w ++ [(a, .inr (5, [vi 0, .ref q1, .ref q2, .ref q3, .ref q4, .ref q5, vi 0, vi 0, .ref q8, .ref q9, .ref q10, .ref q11, .null, .null, vi 0, .null, .null, .null, vi 0])), (q1, .inl (g.2.1, zar 6 (fun _ => 0))), (q2, .inl (g.2.1, zar 6 (fun _ => 0))), (q3, .inl (g.2.1, zar 6 (fun _ => 0))), (q4, .inl (g.2.2.1, zar 6 (fun _ => 0))), (q5, .inl (g.2.1, zar 6 (fun _ => 0))), (q8, .inl (g.2.2.1, zar 60 (fun _ => 0))), (q9, .inl (g.2.1, zar 60 (fun _ => 0))), (q10, .inl (g.2.1, zar 60 (fun _ => 0))), (q11, .inl (g.2.1, zar 360 (fun _ => 0)))]) rfl rfl ?_
  refine zz_aload_n hx dX4_init_77 rfl ?_
  refine zz_bipush hx dX4_init_78 rfl ?_
  refine zz_newi (N := 6) hx (by decide) (by decide) dX4_init_80 (fun q12 => ?_)
  refine zz_eq (w' := w ++ [(a, .inr (5, [vi 0, .ref q1, .ref q2, .ref q3, .ref q4, .ref q5, vi 0, vi 0, .ref q8, .ref q9, .ref q10, .ref q11, .null, .null, vi 0, .null, .null, .null, vi 0])), (q1, .inl (g.2.1, zar 6 (fun _ => 0))), (q2, .inl (g.2.1, zar 6 (fun _ => 0))), (q3, .inl (g.2.1, zar 6 (fun _ => 0))), (q4, .inl (g.2.2.1, zar 6 (fun _ => 0))), (q5, .inl (g.2.1, zar 6 (fun _ => 0))), (q8, .inl (g.2.2.1, zar 60 (fun _ => 0))), (q9, .inl (g.2.1, zar 60 (fun _ => 0))), (q10, .inl (g.2.1, zar 60 (fun _ => 0))), (q11, .inl (g.2.1, zar 360 (fun _ => 0))), (q12, .inl (g.2.1, zar 6 (fun _ => 0)))]) (List.append_assoc _ _ _) rfl ?_
  refine zz_putF (fs := [vi 0, .ref q1, .ref q2, .ref q3, .ref q4, .ref q5, vi 0, vi 0, .ref q8, .ref q9, .ref q10, .ref q11, .null, .null, vi 0, .null, .null, .null, vi 0]) hx hnm lf_X4_38 rfl tyX4 tyX4_ok nmX4 (w.length + 0) (ap_at _ _ 0) rfl rfl rfl rfl (Nat.le_of_ble_eq_true rfl) dX4_init_82 (ap_set _ _ 0 _) ?_
  refine zz_eq (w' := w ++ [(a, .inr (5, [vi 0, .ref q1, .ref q2, .ref q3, .ref q4, .ref q5, vi 0, vi 0, .ref q8, .ref q9, .ref q10, .ref q11, .ref q12, .null, vi 0, .null, .null, .null, vi 0])), (q1, .inl (g.2.1, zar 6 (fun _ => 0))), (q2, .inl (g.2.1, zar 6 (fun _ => 0))), (q3, .inl (g.2.1, zar 6 (fun _ => 0))), (q4, .inl (g.2.2.1, zar 6 (fun _ => 0))), (q5, .inl (g.2.1, zar 6 (fun _ => 0))), (q8, .inl (g.2.2.1, zar 60 (fun _ => 0))), (q9, .inl (g.2.1, zar 60 (fun _ => 0))), (q10, .inl (g.2.1, zar 60 (fun _ => 0))), (q11, .inl (g.2.1, zar 360 (fun _ => 0))), (q12, .inl (g.2.1, zar 6 (fun _ => 0)))]) rfl rfl ?_
  refine zz_aload_n hx dX4_init_85 rfl ?_
  refine zz_sipush hx dX4_init_86 rfl ?_
  refine zz_newi (N := 360) hx (by decide) (by decide) dX4_init_89 (fun q13 => ?_)
  refine zz_eq (w' := w ++ [(a, .inr (5, [vi 0, .ref q1, .ref q2, .ref q3, .ref q4, .ref q5, vi 0, vi 0, .ref q8, .ref q9, .ref q10, .ref q11, .ref q12, .null, vi 0, .null, .null, .null, vi 0])), (q1, .inl (g.2.1, zar 6 (fun _ => 0))), (q2, .inl (g.2.1, zar 6 (fun _ => 0))), (q3, .inl (g.2.1, zar 6 (fun _ => 0))), (q4, .inl (g.2.2.1, zar 6 (fun _ => 0))), (q5, .inl (g.2.1, zar 6 (fun _ => 0))), (q8, .inl (g.2.2.1, zar 60 (fun _ => 0))), (q9, .inl (g.2.1, zar 60 (fun _ => 0))), (q10, .inl (g.2.1, zar 60 (fun _ => 0))), (q11, .inl (g.2.1, zar 360 (fun _ => 0))), (q12, .inl (g.2.1, zar 6 (fun _ => 0))), (q13, .inl (g.2.1, zar 360 (fun _ => 0)))]) (List.append_assoc _ _ _) rfl ?_
  refine zz_putF (fs := [vi 0, .ref q1, .ref q2, .ref q3, .ref q4, .ref q5, vi 0, vi 0, .ref q8, .ref q9, .ref q10, .ref q11, .ref q12, .null, vi 0, .null, .null, .null, vi 0]) hx hnm lf_X4_41 rfl tyX4 tyX4_ok nmX4 (w.length + 0) (ap_at _ _ 0) rfl rfl rfl rfl (Nat.le_of_ble_eq_true rfl) dX4_init_91 (ap_set _ _ 0 _) ?_
  refine zz_eq (w' := w ++ [(a, .inr (5, [vi 0, .ref q1, .ref q2, .ref q3, .ref q4, .ref q5, vi 0, vi 0, .ref q8, .ref q9, .ref q10, .ref q11, .ref q12, .ref q13, vi 0, .null, .null, .null, vi 0])), (q1, .inl (g.2.1, zar 6 (fun _ => 0))), (q2, .inl (g.2.1, zar 6 (fun _ => 0))), (q3, .inl (g.2.1, zar 6 (fun _ => 0))), (q4, .inl (g.2.2.1, zar 6 (fun _ => 0))), (q5, .inl (g.2.1, zar 6 (fun _ => 0))), (q8, .inl (g.2.2.1, zar 60 (fun _ => 0))), (q9, .inl (g.2.1, zar 60 (fun _ => 0))), (q10, .inl (g.2.1, zar 60 (fun _ => 0))), (q11, .inl (g.2.1, zar 360 (fun _ => 0))), (q12, .inl (g.2.1, zar 6 (fun _ => 0))), (q13, .inl (g.2.1, zar 360 (fun _ => 0)))]) rfl rfl ?_
  refine zz_aload_n hx dX4_init_94 rfl ?_
  refine zz_iconst hx dX4_init_95 ?_
  refine zz_newi (N := 4) hx (by decide) (by decide) dX4_init_96 (fun q15 => ?_)
  refine zz_eq (w' := w ++ [(a, .inr (5, [vi 0, .ref q1, .ref q2, .ref q3, .ref q4, .ref q5, vi 0, vi 0, .ref q8, .ref q9, .ref q10, .ref q11, .ref q12, .ref q13, vi 0, .null, .null, .null, vi 0])), (q1, .inl (g.2.1, zar 6 (fun _ => 0))), (q2, .inl (g.2.1, zar 6 (fun _ => 0))), (q3, .inl (g.2.1, zar 6 (fun _ => 0))), (q4, .inl (g.2.2.1, zar 6 (fun _ => 0))), (q5, .inl (g.2.1, zar 6 (fun _ => 0))), (q8, .inl (g.2.2.1, zar 60 (fun _ => 0))), (q9, .inl (g.2.1, zar 60 (fun _ => 0))), (q10, .inl (g.2.1, zar 60 (fun _ => 0))), (q11, .inl (g.2.1, zar 360 (fun _ => 0))), (q12, .inl (g.2.1, zar 6 (fun _ => 0))), (q13, .inl (g.2.1, zar 360 (fun _ => 0))), (q15, .inl (g.2.1, zar 4 (fun _ => 0)))]) (List.append_assoc _ _ _) rfl ?_
  refine zz_putF (fs := [vi 0, .ref q1, .ref q2, .ref q3, .ref q4, .ref q5, vi 0, vi 0, .ref q8, .ref q9, .ref q10, .ref q11, .ref q12, .ref q13, vi 0, .null, .null, .null, vi 0]) hx hnm lf_X4_44 rfl tyX4 tyX4_ok nmX4 (w.length + 0) (ap_at _ _ 0) rfl rfl rfl rfl (Nat.le_of_ble_eq_true rfl) dX4_init_98 (ap_set _ _ 0 _) ?_
  refine zz_eq (w' := w ++ [(a, .inr (5, [vi 0, .ref q1, .ref q2, .ref q3, .ref q4, .ref q5, vi 0, vi 0, .ref q8, .ref q9, .ref q10, .ref q11, .ref q12, .ref q13, vi 0, .ref q15, .null, .null, vi 0])), (q1, .inl (g.2.1, zar 6 (fun _ => 0))), (q2, .inl (g.2.1, zar 6 (fun _ => 0))), (q3, .inl (g.2.1, zar 6 (fun _ => 0))), (q4, .inl (g.2.2.1, zar 6 (fun _ => 0))), (q5, .inl (g.2.1, zar 6 (fun _ => 0))), (q8, .inl (g.2.2.1, zar 60 (fun _ => 0))), (q9, .inl (g.2.1, zar 60 (fun _ => 0))), (q10, .inl (g.2.1, zar 60 (fun _ => 0))), (q11, .inl (g.2.1, zar 360 (fun _ => 0))), (q12, .inl (g.2.1, zar 6 (fun _ => 0))), (q13, .inl (g.2.1, zar 360 (fun _ => 0))), (q15, .inl (g.2.1, zar 4 (fun _ => 0)))]) rfl rfl ?_
  refine zz_aload_n hx dX4_init_101 rfl ?_
  refine zz_bipush hx dX4_init_102 rfl ?_
  refine zz_newi (N := 6) hx (by decide) (by decide) dX4_init_104 (fun q16 => ?_)
  refine zz_eq (w' := w ++ [(a, .inr (5, [vi 0, .ref q1, .ref q2, .ref q3, .ref q4, .ref q5, vi 0, vi 0, .ref q8, .ref q9, .ref q10, .ref q11, .ref q12, .ref q13, vi 0, .ref q15, .null, .null, vi 0])), (q1, .inl (g.2.1, zar 6 (fun _ => 0))), (q2, .inl (g.2.1, zar 6 (fun _ => 0))), (q3, .inl (g.2.1, zar 6 (fun _ => 0))), (q4, .inl (g.2.2.1, zar 6 (fun _ => 0))), (q5, .inl (g.2.1, zar 6 (fun _ => 0))), (q8, .inl (g.2.2.1, zar 60 (fun _ => 0))), (q9, .inl (g.2.1, zar 60 (fun _ => 0))), (q10, .inl (g.2.1, zar 60 (fun _ => 0))), (q11, .inl (g.2.1, zar 360 (fun _ => 0))), (q12, .inl (g.2.1, zar 6 (fun _ => 0))), (q13, .inl (g.2.1, zar 360 (fun _ => 0))), (q15, .inl (g.2.1, zar 4 (fun _ => 0))), (q16, .inl (g.2.1, zar 6 (fun _ => 0)))]) (List.append_assoc _ _ _) rfl ?_
  refine zz_putF (fs := [vi 0, .ref q1, .ref q2, .ref q3, .ref q4, .ref q5, vi 0, vi 0, .ref q8, .ref q9, .ref q10, .ref q11, .ref q12, .ref q13, vi 0, .ref q15, .null, .null, vi 0]) hx hnm lf_X4_47 rfl tyX4 tyX4_ok nmX4 (w.length + 0) (ap_at _ _ 0) rfl rfl rfl rfl (Nat.le_of_ble_eq_true rfl) dX4_init_106 (ap_set _ _ 0 _) ?_
  refine zz_eq (w' := w ++ [(a, .inr (5, [vi 0, .ref q1, .ref q2, .ref q3, .ref q4, .ref q5, vi 0, vi 0, .ref q8, .ref q9, .ref q10, .ref q11, .ref q12, .ref q13, vi 0, .ref q15, .ref q16, .null, vi 0])), (q1, .inl (g.2.1, zar 6 (fun _ => 0))), (q2, .inl (g.2.1, zar 6 (fun _ => 0))), (q3, .inl (g.2.1, zar 6 (fun _ => 0))), (q4, .inl (g.2.2.1, zar 6 (fun _ => 0))), (q5, .inl (g.2.1, zar 6 (fun _ => 0))), (q8, .inl (g.2.2.1, zar 60 (fun _ => 0))), (q9, .inl (g.2.1, zar 60 (fun _ => 0))), (q10, .inl (g.2.1, zar 60 (fun _ => 0))), (q11, .inl (g.2.1, zar 360 (fun _ => 0))), (q12, .inl (g.2.1, zar 6 (fun _ => 0))), (q13, .inl (g.2.1, zar 360 (fun _ => 0))), (q15, .inl (g.2.1, zar 4 (fun _ => 0))), (q16, .inl (g.2.1, zar 6 (fun _ => 0)))]) rfl rfl ?_
  refine zz_aload_n hx dX4_init_109 rfl ?_
  refine zz_bipush hx dX4_init_110 rfl ?_
  refine zz_newz (N := 60) hx (by decide) (by decide) dX4_init_112 (fun q17 => ?_)
  refine zz_eq (w' := w ++ [(a, .inr (5, [vi 0, .ref q1, .ref q2, .ref q3, .ref q4, .ref q5, vi 0, vi 0, .ref q8, .ref q9, .ref q10, .ref q11, .ref q12, .ref q13, vi 0, .ref q15, .ref q16, .null, vi 0])), (q1, .inl (g.2.1, zar 6 (fun _ => 0))), (q2, .inl (g.2.1, zar 6 (fun _ => 0))), (q3, .inl (g.2.1, zar 6 (fun _ => 0))), (q4, .inl (g.2.2.1, zar 6 (fun _ => 0))), (q5, .inl (g.2.1, zar 6 (fun _ => 0))), (q8, .inl (g.2.2.1, zar 60 (fun _ => 0))), (q9, .inl (g.2.1, zar 60 (fun _ => 0))), (q10, .inl (g.2.1, zar 60 (fun _ => 0))), (q11, .inl (g.2.1, zar 360 (fun _ => 0))), (q12, .inl (g.2.1, zar 6 (fun _ => 0))), (q13, .inl (g.2.1, zar 360 (fun _ => 0))), (q15, .inl (g.2.1, zar 4 (fun _ => 0))), (q16, .inl (g.2.1, zar 6 (fun _ => 0))), (q17, .inl (g.2.2.1, zar 60 (fun _ => 0)))]) (List.append_assoc _ _ _) rfl ?_
  refine zz_putF (fs := [vi 0, .ref q1, .ref q2, .ref q3, .ref q4, .ref q5, vi 0, vi 0, .ref q8, .ref q9, .ref q10, .ref q11, .ref q12, .ref q13, vi 0, .ref q15, .ref q16, .null, vi 0]) hx hnm lf_X4_50 rfl tyX4 tyX4_ok nmX4 (w.length + 0) (ap_at _ _ 0) rfl rfl rfl rfl (Nat.le_of_ble_eq_true rfl) dX4_init_114 (ap_set _ _ 0 _) ?_
  refine zz_eq (w' := w ++ [(a, .inr (5, [vi 0, .ref q1, .ref q2, .ref q3, .ref q4, .ref q5, vi 0, vi 0, .ref q8, .ref q9, .ref q10, .ref q11, .ref q12, .ref q13, vi 0, .ref q15, .ref q16, .ref q17, vi 0])), (q1, .inl (g.2.1, zar 6 (fun _ => 0))), (q2, .inl (g.2.1, zar 6 (fun _ => 0))), (q3, .inl (g.2.1, zar 6 (fun _ => 0))), (q4, .inl (g.2.2.1, zar 6 (fun _ => 0))), (q5, .inl (g.2.1, zar 6 (fun _ => 0))), (q8, .inl (g.2.2.1, zar 60 (fun _ => 0))), (q9, .inl (g.2.1, zar 60 (fun _ => 0))), (q10, .inl (g.2.1, zar 60 (fun _ => 0))), (q11, .inl (g.2.1, zar 360 (fun _ => 0))), (q12, .inl (g.2.1, zar 6 (fun _ => 0))), (q13, .inl (g.2.1, zar 360 (fun _ => 0))), (q15, .inl (g.2.1, zar 4 (fun _ => 0))), (q16, .inl (g.2.1, zar 6 (fun _ => 0))), (q17, .inl (g.2.2.1, zar 60 (fun _ => 0)))]) rfl rfl ?_
  refine zz_aload_n hx dX4_init_117 rfl ?_
  refine zz_iconst hx dX4_init_118 ?_
  refine zz_putv (fs := [vi 0, .ref q1, .ref q2, .ref q3, .ref q4, .ref q5, vi 0, vi 0, .ref q8, .ref q9, .ref q10, .ref q11, .ref q12, .ref q13, vi 0, .ref q15, .ref q16, .ref q17, vi 0]) hx lf_X4_53 rfl tyX4 tyX4_ok nmX4 (w.length + 0) (ap_at _ _ 0) rfl rfl rfl (Nat.le_of_ble_eq_true rfl) dX4_init_119 (ap_set _ _ 0 _) ?_
  refine zz_eq (w' := w ++ [(a, .inr (5, [vi 0, .ref q1, .ref q2, .ref q3, .ref q4, .ref q5, vi 0, vi 0, .ref q8, .ref q9, .ref q10, .ref q11, .ref q12, .ref q13, vi (-1), .ref q15, .ref q16, .ref q17, vi 0])), (q1, .inl (g.2.1, zar 6 (fun _ => 0))), (q2, .inl (g.2.1, zar 6 (fun _ => 0))), (q3, .inl (g.2.1, zar 6 (fun _ => 0))), (q4, .inl (g.2.2.1, zar 6 (fun _ => 0))), (q5, .inl (g.2.1, zar 6 (fun _ => 0))), (q8, .inl (g.2.2.1, zar 60 (fun _ => 0))), (q9, .inl (g.2.1, zar 60 (fun _ => 0))), (q10, .inl (g.2.1, zar 60 (fun _ => 0))), (q11, .inl (g.2.1, zar 360 (fun _ => 0))), (q12, .inl (g.2.1, zar 6 (fun _ => 0))), (q13, .inl (g.2.1, zar 360 (fun _ => 0))), (q15, .inl (g.2.1, zar 4 (fun _ => 0))), (q16, .inl (g.2.1, zar 6 (fun _ => 0))), (q17, .inl (g.2.2.1, zar 60 (fun _ => 0)))]) rfl rfl ?_
  refine zz_perm (w' := mW g (fun k => [a, q1, q2, q3, q4, q5, 0, 0, q8, q9, q10, q11, q12, q13, 0, q15, q16, q17].getD k 0) (fun k => if k = 14 then -1 else 0) (fun _ _ => 0) w) (List.perm_append_comm (l₁ := w)) ?_
  generalize hA : (fun k => [a, q1, q2, q3, q4, q5, 0, 0, q8, q9, q10, q11, q12, q13, 0, q15, q16, q17].getD k 0) = A at *
  have hA0 : A 0 = a := by rw [← hA]; rfl
  rw [← hA0]
  exact tail A hA0
