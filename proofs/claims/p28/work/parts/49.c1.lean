theorem ap_at (w l : va_W) (j : Nat) : (w ++ l)[w.length + j]? = l[j]? := by
  rw [List.getElem?_append_right (by omega), Nat.add_sub_cancel_left]
theorem ap_set (w l : va_W) (j : Nat) (e : Nat × va_E) : (w ++ l).set (w.length + j) e = w ++ l.set j e := by
  rw [List.set_append_right _ _ (by omega), Nat.add_sub_cancel_left]
def rowF (N : Nat) : Int → Int := rFill N (fun _ => 0) N (-1)
theorem rowF_in {N : Nat} {i : Int} (h0 : 0 ≤ i) (h1 : i < (N : Int)) : rowF N i = -1 := if_pos ⟨h0, h1⟩

section ZX
variable {l : Launch} {g : zG} {R : Room} {nL : Nat} {x : zX} {k n : Nat} {w : va_W} {pc : Nat} {lv : List (Nat × Value)} {st : List Value} {own : String} {cc : ByteArray}
theorem zz_max (hx : zOK l g nL x own cc) {index : Nat} (hk : Cond.methodLink own index Lib.Math.max.name ∈ zT) {a b : Int} (ha : -2147483648 ≤ a ∧ a < 2147483648) (hb : -2147483648 ≤ b ∧ b < 2147483648) (hba : b ≤ a) (hR : (1 ≤ R.frames ∧ (st.map fun v => v.category).sum + 13 ≤ R.locals) ∧ k ≤ R.cells ∧ n ≤ R.slots) (d : decode cc pc = .ok (.invokestatic index, 3))
    (kk : Z l g R nL x k n w (pc + 3) lv (vi a :: st)) : Z l g R nL x k n w pc lv (vi b :: vi a :: st) := by
  obtain ⟨p, e, s, m, args, below, meth, c, A, Q⟩ := x
  obtain ⟨h2, h3, h3', h4, h5, -⟩ := hx
  intro H locs ls hP hD hS h
  refine va_mmax h2 h3 (by rw [h3', h.1]) h4 (h5 _ hk) (h5 _ (zT_dec (by decide +kernel))) (h5 _ (zT_dec (by decide +kernel))) (h5 _ (zT_dec (by decide +kernel))) hR.1.1 hR.1.2 hR.2.1 hR.2.2 d ?_
  rw [if_neg (fun z => by rw [vi_lt ha hb] at z; omega)]
  exact kk H locs ls hP hD hS h
end ZX

set_option maxHeartbeats 4000000 in
set_option maxRecDepth 100000 in
theorem c_Row_init {l : Launch} {g : zG} {w : va_W} {a : Nat} (hst : l.stackTraces = false) (N : Nat) (hN : N < 1000) : zM l g yX1_init cX1_init 2 none ({ frames := 1, cells := 1, slots := N, locals := 23 } : Room) [.ref a, vi (N : Int)] (w ++ [(a, .inr (2, [.null]))]) (zV fun w1 => ∃ ca : Nat, w1 = w ++ [(a, .inr (2, [.ref ca])), (ca, .inl (g.2.1, zar N (rowF N)))]) zN 1 N := by
  refine zM_ofI (lv0 := [(0, _), (1, _)]) hst rfl rfl (by decide +kernel) (Nat.le_of_ble_eq_true rfl) rfl (fun x hx hf hn hnm => ?_)
  refine zz_aload_n hx dX1_init_0 rfl ?_
  refine zz_oinit hx (zT_dec (by decide +kernel)) dX1_init_1 ⟨Nat.le_of_ble_eq_true rfl, Nat.le_of_ble_eq_true rfl⟩ ?_
  refine zz_aload_n hx dX1_init_4 rfl ?_
  refine zz_iload_n hx dX1_init_5 rfl ?_
  refine zz_iconst hx dX1_init_6 ?_
  refine zz_max hx lk_X1_9 (by omega) (by omega) (by omega) ⟨⟨Nat.le_of_ble_eq_true rfl, Nat.le_of_ble_eq_true rfl⟩, Nat.le_of_ble_eq_true rfl, Nat.zero_le _⟩ dX1_init_7 ?_
  refine zz_newi hx (by omega) ⟨Nat.le_of_ble_eq_true rfl, by show 0 + N ≤ N; omega⟩ dX1_init_10 (fun ca => ?_)
  refine zz_eq (w' := w ++ [(a, .inr (2, [.null])), (ca, .inl (g.2.1, zar N (fun _ => 0)))]) (List.append_assoc _ _ _) rfl ?_
  refine zz_putF (fs := [.null]) hx hnm lf_X1_15 rfl tyX1 tyX1_ok nmX1 (w.length + 0) (ap_at _ _ 0) rfl rfl rfl rfl (by decide) dX1_init_12 (ap_set _ _ 0 _) ?_
  refine zz_aload_n hx dX1_init_15 rfl ?_
  refine zz_get hx lf_X1_15 rfl (w.length + 0) (ap_at _ _ 0) rfl dX1_init_16 ?_
  refine zz_iconst hx dX1_init_19 ?_
  refine zz_callSv hx ms_J7_fill_53178 lk_X1_21 (c_fill (j := w.length + 1) (N := N) (f := fun _ => 0) hst (ap_at _ _ 1) (by omega) (-1)) ⟨rfl, rfl⟩ ⟨Nat.le_of_ble_eq_true rfl, Nat.le_of_ble_eq_true rfl⟩ ⟨Nat.le_of_ble_eq_true rfl, by show 0 + N + 0 ≤ N; omega⟩ rfl rfl (Nat.le_of_ble_eq_true rfl) dX1_init_20 (fun _ _ h => h.elim) (fun w20 hp20 => ?_)
  subst hp20
  rw [ap_set]
  exact zz_vret hx hf dX1_init_23 ⟨rfl, ca, rfl⟩ (by decide) (by show 0 + N + 0 ≤ N; omega)

set_option maxHeartbeats 4000000 in
set_option maxRecDepth 100000 in
theorem c_Gathering_init {l : Launch} {g : zG} {w : va_W} {a : Nat} (hst : l.stackTraces = false) : zM l g yX0_init cX0_init 1 none ({ frames := 2, cells := 4, slots := 122, locals := 44 } : Room) [.ref a] (w ++ [(a, .inr (1, [.null, .null, vi 0]))]) (zV fun w1 => ∃ q5 c5 q18 c18 : Nat, w1 = w ++ [(a, .inr (1, [.ref q5, .ref q18, vi 0])), (q5, .inr (2, [.ref c5])), (c5, .inl (g.2.1, zar 60 (rowF 60))), (q18, .inr (2, [.ref c18])), (c18, .inl (g.2.1, zar 60 (rowF 60)))]) zN 4 122 := by
  refine zM_ofI (lv0 := [(0, _)]) hst rfl rfl (by decide +kernel) (Nat.le_of_ble_eq_true rfl) rfl (fun x hx hf hn hnm => ?_)
  refine zz_aload_n hx dX0_init_0 rfl ?_
  refine zz_oinit hx (zT_dec (by decide +kernel)) dX0_init_1 (by decide) ?_
  refine zz_aload_n hx dX0_init_4 rfl ?_
  refine zz_new (ci := 2) (fs := [.null]) hx lc_X0_9 (zT_dec (by decide +kernel)) (zT_dec (by decide +kernel)) fw_X1 rfl tyX1 tyX1_ok (by decide) (by decide) dX0_init_5 (fun q5 => ?_)
  refine zz_dup hx dX0_init_8 rfl ?_
  refine zz_bipush hx dX0_init_9 rfl ?_
  refine zz_callI hx mi_X1_init lk_X0_11 (c_Row_init hst 60 (by decide)) ⟨rfl, rfl⟩ (by decide) (by decide) rfl rfl (Nat.le_of_ble_eq_true rfl) dX0_init_11 (fun _ _ h => h.elim) (fun w5 hp5 => ?_)
  obtain ⟨c5, rfl⟩ := hp5
  refine zz_eq (w' := w ++ [(a, .inr (1, [.null, .null, vi 0])), (q5, .inr (2, [.ref c5])), (c5, .inl (g.2.1, zar 60 (rowF 60)))]) (List.append_assoc _ _ _) rfl ?_
  refine zz_putF (fs := [.null, .null, vi 0]) hx hnm lf_X0_14 rfl tyX0 tyX0_ok nmX0 (w.length + 0) (ap_at _ _ 0) rfl rfl rfl rfl (Nat.le_of_ble_eq_true rfl) dX0_init_14 (ap_set _ _ 0 _) ?_
  refine zz_eq (w' := w ++ [(a, .inr (1, [.ref q5, .null, vi 0])), (q5, .inr (2, [.ref c5])), (c5, .inl (g.2.1, zar 60 (rowF 60)))]) rfl rfl ?_
  refine zz_aload_n hx dX0_init_17 rfl ?_
  refine zz_new (ci := 2) (fs := [.null]) hx lc_X0_9 (zT_dec (by decide +kernel)) (zT_dec (by decide +kernel)) fw_X1 rfl tyX1 tyX1_ok (by decide) (by decide) dX0_init_18 (fun q18 => ?_)
  refine zz_dup hx dX0_init_21 rfl ?_
  refine zz_bipush hx dX0_init_22 rfl ?_
  refine zz_callI hx mi_X1_init lk_X0_11 (c_Row_init hst 60 (by decide)) ⟨rfl, rfl⟩ (by decide) (by decide) rfl rfl (Nat.le_of_ble_eq_true rfl) dX0_init_24 (fun _ _ h => h.elim) (fun w18 hp18 => ?_)
  obtain ⟨c18, rfl⟩ := hp18
  refine zz_eq (w' := w ++ [(a, .inr (1, [.ref q5, .null, vi 0])), (q5, .inr (2, [.ref c5])), (c5, .inl (g.2.1, zar 60 (rowF 60))), (q18, .inr (2, [.ref c18])), (c18, .inl (g.2.1, zar 60 (rowF 60)))]) (List.append_assoc _ _ _) rfl ?_
  refine zz_putF (fs := [.ref q5, .null, vi 0]) hx hnm lf_X0_20 rfl tyX0 tyX0_ok nmX0 (w.length + 0) (ap_at _ _ 0) rfl rfl rfl rfl (Nat.le_of_ble_eq_true rfl) dX0_init_27 (ap_set _ _ 0 _) ?_
  refine zz_eq (w' := w ++ [(a, .inr (1, [.ref q5, .ref q18, vi 0])), (q5, .inr (2, [.ref c5])), (c5, .inl (g.2.1, zar 60 (rowF 60))), (q18, .inr (2, [.ref c18])), (c18, .inl (g.2.1, zar 60 (rowF 60)))]) rfl rfl ?_
  refine zz_aload_n hx dX0_init_30 rfl ?_
  refine zz_iconst hx dX0_init_31 ?_
  refine zz_putv (fs := [.ref q5, .ref q18, vi 0]) hx lf_X0_23 rfl tyX0 tyX0_ok nmX0 (w.length + 0) (ap_at _ _ 0) rfl rfl rfl (Nat.le_of_ble_eq_true rfl) dX0_init_32 (ap_set _ _ 0 _) ?_
  refine zz_eq (w' := w ++ [(a, .inr (1, [.ref q5, .ref q18, vi 0])), (q5, .inr (2, [.ref c5])), (c5, .inl (g.2.1, zar 60 (rowF 60))), (q18, .inr (2, [.ref c18])), (c18, .inl (g.2.1, zar 60 (rowF 60)))]) rfl rfl ?_
  exact zz_vret hx hf dX0_init_35 ⟨rfl, q5, c5, q18, c18, rfl⟩ (by decide) (by decide)

set_option maxHeartbeats 4000000 in
set_option maxRecDepth 100000 in
theorem c_SetType_init {l : Launch} {g : zG} {w : va_W} {a : Nat} (hst : l.stackTraces = false) (p q i z y : Int) (hz : z = 0 ∨ z = 1) : zM l g yX2_init cX2_init 6 none ({ frames := 2, cells := 6, slots := 183, locals := 44 } : Room) [.ref a, vi p, vi q, vi i, vi z, vi y] (w ++ [(a, .inr (3, [vi 0, vi 0, vi 0, vi 0, vi 0, .null, .null, .null, vi 0]))]) (zV fun w1 => ∃ q5 c5 q18 c18 q31 c31 : Nat, w1 = w ++ [(a, .inr (3, [vi p, vi q, vi i, vi z, vi y, .ref q5, .ref q18, .ref q31, vi (-1)])), (q5, .inr (2, [.ref c5])), (c5, .inl (g.2.1, zar 60 (rowF 60))), (q18, .inr (2, [.ref c18])), (c18, .inl (g.2.1, zar 60 (rowF 60))), (q31, .inr (2, [.ref c31])), (c31, .inl (g.2.1, zar 60 (rowF 60)))]) zN 6 183 := by
  refine zM_ofI (lv0 := [(0, _), (1, _), (2, _), (3, _), (4, _), (5, _)]) hst rfl rfl (by decide +kernel) (Nat.le_of_ble_eq_true rfl) rfl (fun x hx hf hn hnm => ?_)
  refine zz_aload_n hx dX2_init_0 rfl ?_
  refine zz_oinit hx (zT_dec (by decide +kernel)) dX2_init_1 (by decide) ?_
  refine zz_aload_n hx dX2_init_4 rfl ?_
  refine zz_new (ci := 2) (fs := [.null]) hx lc_X2_9 (zT_dec (by decide +kernel)) (zT_dec (by decide +kernel)) fw_X1 rfl tyX1 tyX1_ok (by decide) (by decide) dX2_init_5 (fun q5 => ?_)
  refine zz_dup hx dX2_init_8 rfl ?_
  refine zz_bipush hx dX2_init_9 rfl ?_
  refine zz_callI hx mi_X1_init lk_X2_11 (c_Row_init hst 60 (by decide)) ⟨rfl, rfl⟩ (by decide) (by decide) rfl rfl (Nat.le_of_ble_eq_true rfl) dX2_init_11 (fun _ _ h => h.elim) (fun w5 hp5 => ?_)
  obtain ⟨c5, rfl⟩ := hp5
  refine zz_eq (w' := w ++ [(a, .inr (3, [vi 0, vi 0, vi 0, vi 0, vi 0, .null, .null, .null, vi 0])), (q5, .inr (2, [.ref c5])), (c5, .inl (g.2.1, zar 60 (rowF 60)))]) (List.append_assoc _ _ _) rfl ?_
  refine zz_putF (fs := [vi 0, vi 0, vi 0, vi 0, vi 0, .null, .null, .null, vi 0]) hx hnm lf_X2_14 rfl tyX2 tyX2_ok nmX2 (w.length + 0) (ap_at _ _ 0) rfl rfl rfl rfl (Nat.le_of_ble_eq_true rfl) dX2_init_14 (ap_set _ _ 0 _) ?_
  refine zz_eq (w' := w ++ [(a, .inr (3, [vi 0, vi 0, vi 0, vi 0, vi 0, .ref q5, .null, .null, vi 0])), (q5, .inr (2, [.ref c5])), (c5, .inl (g.2.1, zar 60 (rowF 60)))]) rfl rfl ?_
  refine zz_aload_n hx dX2_init_17 rfl ?_
  refine zz_new (ci := 2) (fs := [.null]) hx lc_X2_9 (zT_dec (by decide +kernel)) (zT_dec (by decide +kernel)) fw_X1 rfl tyX1 tyX1_ok (by decide) (by decide) dX2_init_18 (fun q18 => ?_)
  refine zz_dup hx dX2_init_21 rfl ?_
  refine zz_bipush hx dX2_init_22 rfl ?_
  refine zz_callI hx mi_X1_init lk_X2_11 (c_Row_init hst 60 (by decide)) ⟨rfl, rfl⟩ (by decide) (by decide) rfl rfl (Nat.le_of_ble_eq_true rfl) dX2_init_24 (fun _ _ h => h.elim) (fun w18 hp18 => ?_)
  obtain ⟨c18, rfl⟩ := hp18
  refine zz_eq (w' := w ++ [(a, .inr (3, [vi 0, vi 0, vi 0, vi 0, vi 0, .ref q5, .null, .null, vi 0])), (q5, .inr (2, [.ref c5])), (c5, .inl (g.2.1, zar 60 (rowF 60))), (q18, .inr (2, [.ref c18])), (c18, .inl (g.2.1, zar 60 (rowF 60)))]) (List.append_assoc _ _ _) rfl ?_
  refine zz_putF (fs := [vi 0, vi 0, vi 0, vi 0, vi 0, .ref q5, .null, .null, vi 0]) hx hnm lf_X2_20 rfl tyX2 tyX2_ok nmX2 (w.length + 0) (ap_at _ _ 0) rfl rfl rfl rfl (Nat.le_of_ble_eq_true rfl) dX2_init_27 (ap_set _ _ 0 _) ?_
  refine zz_eq (w' := w ++ [(a, .inr (3, [vi 0, vi 0, vi 0, vi 0, vi 0, .ref q5, .ref q18, .null, vi 0])), (q5, .inr (2, [.ref c5])), (c5, .inl (g.2.1, zar 60 (rowF 60))), (q18, .inr (2, [.ref c18])), (c18, .inl (g.2.1, zar 60 (rowF 60)))]) rfl rfl ?_
  refine zz_aload_n hx dX2_init_30 rfl ?_
  refine zz_new (ci := 2) (fs := [.null]) hx lc_X2_9 (zT_dec (by decide +kernel)) (zT_dec (by decide +kernel)) fw_X1 rfl tyX1 tyX1_ok (by decide) (by decide) dX2_init_31 (fun q31 => ?_)
  refine zz_dup hx dX2_init_34 rfl ?_
  refine zz_bipush hx dX2_init_35 rfl ?_
  refine zz_callI hx mi_X1_init lk_X2_11 (c_Row_init hst 60 (by decide)) ⟨rfl, rfl⟩ (by decide) (by decide) rfl rfl (Nat.le_of_ble_eq_true rfl) dX2_init_37 (fun _ _ h => h.elim) (fun w31 hp31 => ?_)
  obtain ⟨c31, rfl⟩ := hp31
  refine zz_eq (w' := w ++ [(a, .inr (3, [vi 0, vi 0, vi 0, vi 0, vi 0, .ref q5, .ref q18, .null, vi 0])), (q5, .inr (2, [.ref c5])), (c5, .inl (g.2.1, zar 60 (rowF 60))), (q18, .inr (2, [.ref c18])), (c18, .inl (g.2.1, zar 60 (rowF 60))), (q31, .inr (2, [.ref c31])), (c31, .inl (g.2.1, zar 60 (rowF 60)))]) (List.append_assoc _ _ _) rfl ?_
  refine zz_putF (fs := [vi 0, vi 0, vi 0, vi 0, vi 0, .ref q5, .ref q18, .null, vi 0]) hx hnm lf_X2_23 rfl tyX2 tyX2_ok nmX2 (w.length + 0) (ap_at _ _ 0) rfl rfl rfl rfl (Nat.le_of_ble_eq_true rfl) dX2_init_40 (ap_set _ _ 0 _) ?_
  refine zz_eq (w' := w ++ [(a, .inr (3, [vi 0, vi 0, vi 0, vi 0, vi 0, .ref q5, .ref q18, .ref q31, vi 0])), (q5, .inr (2, [.ref c5])), (c5, .inl (g.2.1, zar 60 (rowF 60))), (q18, .inr (2, [.ref c18])), (c18, .inl (g.2.1, zar 60 (rowF 60))), (q31, .inr (2, [.ref c31])), (c31, .inl (g.2.1, zar 60 (rowF 60)))]) rfl rfl ?_
  refine zz_aload_n hx dX2_init_43 rfl ?_
  refine zz_iconst hx dX2_init_44 ?_
  refine zz_putv (fs := [vi 0, vi 0, vi 0, vi 0, vi 0, .ref q5, .ref q18, .ref q31, vi 0]) hx lf_X2_26 rfl tyX2 tyX2_ok nmX2 (w.length + 0) (ap_at _ _ 0) rfl rfl rfl (Nat.le_of_ble_eq_true rfl) dX2_init_45 (ap_set _ _ 0 _) ?_
  refine zz_eq (w' := w ++ [(a, .inr (3, [vi 0, vi 0, vi 0, vi 0, vi 0, .ref q5, .ref q18, .ref q31, vi (-1)])), (q5, .inr (2, [.ref c5])), (c5, .inl (g.2.1, zar 60 (rowF 60))), (q18, .inr (2, [.ref c18])), (c18, .inl (g.2.1, zar 60 (rowF 60))), (q31, .inr (2, [.ref c31])), (c31, .inl (g.2.1, zar 60 (rowF 60)))]) rfl rfl ?_
  refine zz_aload_n hx dX2_init_48 rfl ?_
  refine zz_iload_n hx dX2_init_49 rfl ?_
  refine zz_putF (fs := [vi 0, vi 0, vi 0, vi 0, vi 0, .ref q5, .ref q18, .ref q31, vi (-1)]) hx hnm lf_X2_30 rfl tyX2 tyX2_ok nmX2 (w.length + 0) (ap_at _ _ 0) rfl rfl rfl rfl (Nat.le_of_ble_eq_true rfl) dX2_init_50 (ap_set _ _ 0 _) ?_
  refine zz_eq (w' := w ++ [(a, .inr (3, [vi p, vi 0, vi 0, vi 0, vi 0, .ref q5, .ref q18, .ref q31, vi (-1)])), (q5, .inr (2, [.ref c5])), (c5, .inl (g.2.1, zar 60 (rowF 60))), (q18, .inr (2, [.ref c18])), (c18, .inl (g.2.1, zar 60 (rowF 60))), (q31, .inr (2, [.ref c31])), (c31, .inl (g.2.1, zar 60 (rowF 60)))]) rfl rfl ?_
  refine zz_aload_n hx dX2_init_53 rfl ?_
  refine zz_iload_n hx dX2_init_54 rfl ?_
  refine zz_putF (fs := [vi p, vi 0, vi 0, vi 0, vi 0, .ref q5, .ref q18, .ref q31, vi (-1)]) hx hnm lf_X2_33 rfl tyX2 tyX2_ok nmX2 (w.length + 0) (ap_at _ _ 0) rfl rfl rfl rfl (Nat.le_of_ble_eq_true rfl) dX2_init_55 (ap_set _ _ 0 _) ?_
  refine zz_eq (w' := w ++ [(a, .inr (3, [vi p, vi q, vi 0, vi 0, vi 0, .ref q5, .ref q18, .ref q31, vi (-1)])), (q5, .inr (2, [.ref c5])), (c5, .inl (g.2.1, zar 60 (rowF 60))), (q18, .inr (2, [.ref c18])), (c18, .inl (g.2.1, zar 60 (rowF 60))), (q31, .inr (2, [.ref c31])), (c31, .inl (g.2.1, zar 60 (rowF 60)))]) rfl rfl ?_
  refine zz_aload_n hx dX2_init_58 rfl ?_
  refine zz_iload_n hx dX2_init_59 rfl ?_
  refine zz_putF (fs := [vi p, vi q, vi 0, vi 0, vi 0, .ref q5, .ref q18, .ref q31, vi (-1)]) hx hnm lf_X2_36 rfl tyX2 tyX2_ok nmX2 (w.length + 0) (ap_at _ _ 0) rfl rfl rfl rfl (Nat.le_of_ble_eq_true rfl) dX2_init_60 (ap_set _ _ 0 _) ?_
  refine zz_eq (w' := w ++ [(a, .inr (3, [vi p, vi q, vi i, vi 0, vi 0, .ref q5, .ref q18, .ref q31, vi (-1)])), (q5, .inr (2, [.ref c5])), (c5, .inl (g.2.1, zar 60 (rowF 60))), (q18, .inr (2, [.ref c18])), (c18, .inl (g.2.1, zar 60 (rowF 60))), (q31, .inr (2, [.ref c31])), (c31, .inl (g.2.1, zar 60 (rowF 60)))]) rfl rfl ?_
  refine zz_aload_n hx dX2_init_63 rfl ?_
  refine zz_iload hx dX2_init_64 rfl ?_
  refine zz_putF (fs := [vi p, vi q, vi i, vi 0, vi 0, .ref q5, .ref q18, .ref q31, vi (-1)]) hx hnm lf_X2_39 rfl tyX2 tyX2_ok nmX2 (w.length + 0) (ap_at _ _ 0) rfl rfl (by rcases hz with rfl | rfl <;> rfl) (by rcases hz with rfl | rfl <;> rfl) (Nat.le_of_ble_eq_true rfl) dX2_init_66 (ap_set _ _ 0 _) ?_
  refine zz_eq (w' := w ++ [(a, .inr (3, [vi p, vi q, vi i, vi z, vi 0, .ref q5, .ref q18, .ref q31, vi (-1)])), (q5, .inr (2, [.ref c5])), (c5, .inl (g.2.1, zar 60 (rowF 60))), (q18, .inr (2, [.ref c18])), (c18, .inl (g.2.1, zar 60 (rowF 60))), (q31, .inr (2, [.ref c31])), (c31, .inl (g.2.1, zar 60 (rowF 60)))]) rfl rfl ?_
  refine zz_aload_n hx dX2_init_69 rfl ?_
  refine zz_iload hx dX2_init_70 rfl ?_
  refine zz_putF (fs := [vi p, vi q, vi i, vi z, vi 0, .ref q5, .ref q18, .ref q31, vi (-1)]) hx hnm lf_X2_43 rfl tyX2 tyX2_ok nmX2 (w.length + 0) (ap_at _ _ 0) rfl rfl rfl rfl (Nat.le_of_ble_eq_true rfl) dX2_init_72 (ap_set _ _ 0 _) ?_
  refine zz_eq (w' := w ++ [(a, .inr (3, [vi p, vi q, vi i, vi z, vi y, .ref q5, .ref q18, .ref q31, vi (-1)])), (q5, .inr (2, [.ref c5])), (c5, .inl (g.2.1, zar 60 (rowF 60))), (q18, .inr (2, [.ref c18])), (c18, .inl (g.2.1, zar 60 (rowF 60))), (q31, .inr (2, [.ref c31])), (c31, .inl (g.2.1, zar 60 (rowF 60)))]) rfl rfl ?_
  exact zz_vret hx hf dX2_init_75 ⟨rfl, q5, c5, q18, c18, q31, c31, rfl⟩ (by decide) (by decide)
