section ZY
variable {l : Launch} {g : zG} {R : Room} {nL : Nat} {x : zX} {k n : Nat} {w : va_W} {pc : Nat} {lv : List (Nat × Value)} {st : List Value} {own : String} {cc : ByteArray}
/-- a field of a class above: it is the same one, by whichever name -/
theorem zz_getR (hx : zOK l g nL x own cc) {index ci fk N : Nat} {C ref : String} {T : u_T} (hl : Cond.fieldLink own index ref (T fk).2.1 (T fk).2.2.1 ∈ zT) (hs : ref = (T fk).1 ∨ Cond.sameField ref (T fk).1 (T fk).2.1 (T fk).2.2.1 ∈ zT) (hfk : fk < N) (hu : ∀ w ∈ u_ws C T N, w ∈ zT) (hc : zcl[ci]? = some (C, T, N)) (q0 : Nat) {a : Nat} {fs : List Value} (he : w[q0]? = some (a, .inr (ci, fs))) {v : Value} (hv : fs[fk]? = some v) (d : decode cc pc = .ok (.getfield index, 3))
    (kk : Z l g R nL x k n w (pc + 3) lv (v :: st)) : Z l g R nL x k n w pc lv (.ref a :: st) := by
  obtain ⟨p, e, s, m, args, below, meth, c, A, Q⟩ := x
  obtain ⟨h1, h2, -, h4, h5, h6, -⟩ := hx
  intro H locs ls hP hD hS h
  exact va_get (D := g.1) h1 h2 h5 hu h4 h6.1 hP q0 he hc fk hfk (h5 _ hl) (fun z hz => by rcases hs with y | y; rw [y]; exact hz; exact u_same (h5 _ y) z hz) hv d (kk H locs ls hP hD hS h)
theorem zz_putR (hx : zOK l g nL x own cc) {index ci fk N : Nat} {C ref : String} {T : u_T} (hlk : Cond.fieldLink own index ref (T fk).2.1 (T fk).2.2.1 ∈ zT) (hs : ref = (T fk).1 ∨ Cond.sameField ref (T fk).1 (T fk).2.1 (T fk).2.2.1 ∈ zT) (hfk : fk < N) (hu : ∀ w ∈ u_ws C T N, w ∈ zT) (hc : zcl[ci]? = some (C, T, N)) (ty0 : Nat → FieldType) (hty : ∀ k, k < N → parseFieldDescriptor (T k).2.2.1 = some (ty0 k)) (hnm : ∀ a, a < N → ∀ b, b < N → a ≠ b → (T a).2.1 ≠ (T b).2.1) (q0 : Nat) {a : Nat} {fs : List Value} (he : w[q0]? = some (a, .inr (ci, fs))) (hfin : (T fk).2.2.2 = false) {v : Value} (hn : narrow (ty0 fk) v = v) (hfit : fits (ty0 fk) v = true) (hl : fk < fs.length) (d : decode cc pc = .ok (.putfield index, 3))
    {w' : va_W} (hw : w.set q0 (a, .inr (ci, fs.set fk v)) = w') (kk : Z l g R nL x k n w' (pc + 3) lv st) : Z l g R nL x k n w pc lv (v :: .ref a :: st) := by
  obtain ⟨p, e, s, m, args, below, meth, c, A, Q⟩ := x
  obtain ⟨h1, h2, -, h4, h5, h6, -⟩ := hx
  subst hw
  intro H locs ls hP hD hS h
  exact va_put (D := g.1) (v := v) (ty := ty0 fk) h1 h2 h5 hu ty0 hty hnm h4 h6.1 hP hD hS q0 he hc fk hfk (h5 _ hlk) (fun z hz => by rcases hs with y | y; rw [y]; exact hz; exact u_same (h5 _ y) z hz) hfin (hty fk hfk) hn hfit hl d
    (fun H1 locs1 hP1 hD1 hS1 => kk H1 locs1 ls hP1 hD1 hS1 h)
end ZY

set_option maxHeartbeats 4000000 in
set_option maxRecDepth 100000 in
theorem c_AColl_init {l : Launch} {g : zG} {w : va_W} {a : Nat} (hst : l.stackTraces = false) : zM l g yJxa1e45_init_da8c8 cJxa1e45_init_da8c8 1 none ({ frames := 1, cells := 0, slots := 0, locals := 12 } : Room) [.ref a] w (zV fun w1 => w1 = w) zN 0 0 := by
  refine zM_ofI (lv0 := [(0, _)]) hst rfl rfl (by decide +kernel) (Nat.le_of_ble_eq_true rfl) rfl (fun x hx hf hn hnm => ?_)
  refine zz_aload_n hx dJxa1e45_init_da8c8_0 rfl ?_
  refine zz_oinit hx (zT_dec (by decide +kernel)) dJxa1e45_init_da8c8_1 (by decide) ?_
  exact zz_vret hx hf dJxa1e45_init_da8c8_4 ⟨rfl, rfl⟩ (by decide) (by decide)

set_option maxHeartbeats 4000000 in
set_option maxRecDepth 100000 in
theorem c_AList_init {l : Launch} {g : zG} {w : va_W} {a : Nat} (hst : l.stackTraces = false) : zM l g yJxc12de_init_da8c8 cJxc12de_init_da8c8 1 none ({ frames := 2, cells := 0, slots := 0, locals := 32 } : Room) [.ref a] (w ++ [(a, .inr (0, [vi 0, .null, vi 0]))]) (zV fun w1 => w1 = (w ++ [(a, .inr (0, [vi 0, .null, vi 0]))])) zN 0 0 := by
  refine zM_ofI (lv0 := [(0, _)]) hst rfl rfl (by decide +kernel) (Nat.le_of_ble_eq_true rfl) rfl (fun x hx hf hn hnm => ?_)
  refine zz_aload_n hx dJxc12de_init_da8c8_0 rfl ?_
  refine zz_callI hx mi_Jxa1e45_init_da8c8 lk_Jxc12de_1 (c_AColl_init hst) ⟨rfl, rfl⟩ (by decide) (by decide) rfl rfl (Nat.le_of_ble_eq_true rfl) dJxc12de_init_da8c8_1 (fun _ _ h => h.elim) (fun w1 hp1 => ?_)
  subst hp1
  refine zz_aload_n hx dJxc12de_init_da8c8_4 rfl ?_
  refine zz_iconst hx dJxc12de_init_da8c8_5 ?_
  refine zz_putR (fk := 0) (N := 3) (fs := [vi 0, .null, vi 0]) (C := RJx4a65c) (T := TJx4a65c) (ref := "java/util/AbstractList") hx (zT_dec (by decide +kernel)) (Or.inl rfl) (by decide) fw_Jx4a65c rfl tyJx4a65c tyJx4a65c_ok nmJx4a65c (w.length + 0) (ap_at _ _ 0) rfl rfl rfl (Nat.le_of_ble_eq_true rfl) dJxc12de_init_da8c8_6 (ap_set _ _ 0 _) ?_
  exact zz_vret hx hf dJxc12de_init_da8c8_9 ⟨rfl, rfl⟩ (by decide) (by decide)

set_option maxHeartbeats 4000000 in
set_option maxRecDepth 100000 in
theorem c_ArrayList_init {l : Launch} {g : zG} {w : va_W} {a : Nat} (hst : l.stackTraces = false) : zM l g yJx4a65c_init_da8c8 cJx4a65c_init_da8c8 1 none ({ frames := 3, cells := 0, slots := 0, locals := 52 } : Room) [.ref a] (w ++ [(a, .inr (0, [vi 0, .null, vi 0]))]) (zV fun w1 => w1 = w ++ [(a, .inr (0, [vi 0, .ref g.2.2.2.2.2, vi 0]))]) zN 0 0 := by
  refine zM_ofI (lv0 := [(0, _)]) hst rfl rfl (by decide +kernel) (Nat.le_of_ble_eq_true rfl) rfl (fun x hx hf hn hnm => ?_)
  refine zz_aload_n hx dJx4a65c_init_da8c8_0 rfl ?_
  refine zz_callI hx mi_Jxc12de_init_da8c8 lk_Jx4a65c_1 (c_AList_init hst) ⟨rfl, rfl⟩ (by decide) (by decide) rfl rfl (Nat.le_of_ble_eq_true rfl) dJx4a65c_init_da8c8_1 (fun _ _ h => h.elim) (fun w1 hp1 => ?_)
  subst hp1
  refine zz_aload_n hx dJx4a65c_init_da8c8_4 rfl ?_
  refine zz_getE hx (zT_dec (by decide +kernel)) dJx4a65c_init_da8c8_5 ?_
  refine zz_putv (fs := [vi 0, .null, vi 0]) hx lf_Jx4a65c_9 rfl tyJx4a65c tyJx4a65c_ok nmJx4a65c (w.length + 0) (ap_at _ _ 0) rfl rfl rfl (Nat.le_of_ble_eq_true rfl) dJx4a65c_init_da8c8_8 (ap_set _ _ 0 _) ?_
  exact zz_vret hx hf dJx4a65c_init_da8c8_11 ⟨rfl, rfl⟩ (by decide) (by decide)

set_option maxHeartbeats 4000000 in
set_option maxRecDepth 100000 in
theorem c_Database_init {l : Launch} {g : zG} {w : va_W} {a : Nat} (hst : l.stackTraces = false) : zM l g yX3_init cX3_init 1 none ({ frames := 4, cells := 12, slots := 255, locals := 72 } : Room) [.ref a] (w ++ [(a, .inr (4, [.null, .null, .null, .null, .null, vi 0, vi 0, vi 0]))]) (zV fun w1 => ∃ (b : Nat → Nat) (I : Nat → Int) (Q : Nat → Int → Int), w1 = w ++ dF g b I Q [] ∧ b 0 = a ∧ b 13 = g.2.2.2.2.2 ∧ I = (fun k => if k = 2 then -1 else 0) ∧ Q = (fun k => rowF (if k = 2 then 4 else 60))) zN 12 255 := by
  refine zM_ofI (lv0 := [(0, _)]) hst rfl rfl (by decide +kernel) (Nat.le_of_ble_eq_true rfl) rfl (fun x hx hf hn hnm => ?_)
  refine zz_aload_n hx dX3_init_0 rfl ?_
  refine zz_oinit hx (zT_dec (by decide +kernel)) dX3_init_1 (by decide) ?_
  refine zz_aload_n hx dX3_init_4 rfl ?_
  refine zz_new (ci := 0) (fs := [vi 0, .null, vi 0]) hx lc_X3_7 (zT_dec (by decide +kernel)) (zT_dec (by decide +kernel)) fw_Jx4a65c rfl tyJx4a65c tyJx4a65c_ok (by decide) (by decide) dX3_init_5 (fun q5 => ?_)
  refine zz_dup hx dX3_init_8 rfl ?_
  refine zz_callI hx mi_Jx4a65c_init_da8c8 lk_X3_9 (c_ArrayList_init hst) ⟨rfl, rfl⟩ (by decide) (by decide) rfl rfl (Nat.le_of_ble_eq_true rfl) dX3_init_9 (fun _ _ h => h.elim) (fun w5 hp5 => ?_)
  subst hp5
  refine zz_eq (w' := w ++ [(a, .inr (4, [.null, .null, .null, .null, .null, vi 0, vi 0, vi 0])), (q5, .inr (0, [vi 0, .ref g.2.2.2.2.2, vi 0]))]) (List.append_assoc _ _ _) rfl ?_
  refine zz_putF (fs := [.null, .null, .null, .null, .null, vi 0, vi 0, vi 0]) hx hnm lf_X3_10 rfl tyX3 tyX3_ok nmX3 (w.length + 0) (ap_at _ _ 0) rfl rfl rfl rfl (Nat.le_of_ble_eq_true rfl) dX3_init_12 (ap_set _ _ 0 _) ?_
  refine zz_eq (w' := w ++ [(a, .inr (4, [.ref q5, .null, .null, .null, .null, vi 0, vi 0, vi 0])), (q5, .inr (0, [vi 0, .ref g.2.2.2.2.2, vi 0]))]) rfl rfl ?_
  refine zz_aload_n hx dX3_init_15 rfl ?_
  refine zz_new (ci := 2) (fs := [.null]) hx lc_X3_16 (zT_dec (by decide +kernel)) (zT_dec (by decide +kernel)) fw_X1 rfl tyX1 tyX1_ok (by decide) (by decide) dX3_init_16 (fun q16 => ?_)
  refine zz_dup hx dX3_init_19 rfl ?_
  refine zz_bipush hx dX3_init_20 rfl ?_
  refine zz_callI hx mi_X1_init lk_X3_18 (c_Row_init hst 60 (by decide)) ⟨rfl, rfl⟩ (by decide) (by decide) rfl rfl (Nat.le_of_ble_eq_true rfl) dX3_init_22 (fun _ _ h => h.elim) (fun w16 hp16 => ?_)
  obtain ⟨c16, rfl⟩ := hp16
  refine zz_eq (w' := w ++ [(a, .inr (4, [.ref q5, .null, .null, .null, .null, vi 0, vi 0, vi 0])), (q5, .inr (0, [vi 0, .ref g.2.2.2.2.2, vi 0])), (q16, .inr (2, [.ref c16])), (c16, .inl (g.2.1, zar 60 (rowF 60)))]) (List.append_assoc _ _ _) rfl ?_
  refine zz_putF (fs := [.ref q5, .null, .null, .null, .null, vi 0, vi 0, vi 0]) hx hnm lf_X3_21 rfl tyX3 tyX3_ok nmX3 (w.length + 0) (ap_at _ _ 0) rfl rfl rfl rfl (Nat.le_of_ble_eq_true rfl) dX3_init_25 (ap_set _ _ 0 _) ?_
  refine zz_eq (w' := w ++ [(a, .inr (4, [.ref q5, .ref q16, .null, .null, .null, vi 0, vi 0, vi 0])), (q5, .inr (0, [vi 0, .ref g.2.2.2.2.2, vi 0])), (q16, .inr (2, [.ref c16])), (c16, .inl (g.2.1, zar 60 (rowF 60)))]) rfl rfl ?_
  refine zz_aload_n hx dX3_init_28 rfl ?_
  refine zz_new (ci := 2) (fs := [.null]) hx lc_X3_16 (zT_dec (by decide +kernel)) (zT_dec (by decide +kernel)) fw_X1 rfl tyX1 tyX1_ok (by decide) (by decide) dX3_init_29 (fun q29 => ?_)
  refine zz_dup hx dX3_init_32 rfl ?_
  refine zz_bipush hx dX3_init_33 rfl ?_
  refine zz_callI hx mi_X1_init lk_X3_18 (c_Row_init hst 60 (by decide)) ⟨rfl, rfl⟩ (by decide) (by decide) rfl rfl (Nat.le_of_ble_eq_true rfl) dX3_init_35 (fun _ _ h => h.elim) (fun w29 hp29 => ?_)
  obtain ⟨c29, rfl⟩ := hp29
  refine zz_eq (w' := w ++ [(a, .inr (4, [.ref q5, .ref q16, .null, .null, .null, vi 0, vi 0, vi 0])), (q5, .inr (0, [vi 0, .ref g.2.2.2.2.2, vi 0])), (q16, .inr (2, [.ref c16])), (c16, .inl (g.2.1, zar 60 (rowF 60))), (q29, .inr (2, [.ref c29])), (c29, .inl (g.2.1, zar 60 (rowF 60)))]) (List.append_assoc _ _ _) rfl ?_
  refine zz_putF (fs := [.ref q5, .ref q16, .null, .null, .null, vi 0, vi 0, vi 0]) hx hnm lf_X3_25 rfl tyX3 tyX3_ok nmX3 (w.length + 0) (ap_at _ _ 0) rfl rfl rfl rfl (Nat.le_of_ble_eq_true rfl) dX3_init_38 (ap_set _ _ 0 _) ?_
  refine zz_eq (w' := w ++ [(a, .inr (4, [.ref q5, .ref q16, .ref q29, .null, .null, vi 0, vi 0, vi 0])), (q5, .inr (0, [vi 0, .ref g.2.2.2.2.2, vi 0])), (q16, .inr (2, [.ref c16])), (c16, .inl (g.2.1, zar 60 (rowF 60))), (q29, .inr (2, [.ref c29])), (c29, .inl (g.2.1, zar 60 (rowF 60)))]) rfl rfl ?_
  refine zz_aload_n hx dX3_init_41 rfl ?_
  refine zz_new (ci := 2) (fs := [.null]) hx lc_X3_16 (zT_dec (by decide +kernel)) (zT_dec (by decide +kernel)) fw_X1 rfl tyX1 tyX1_ok (by decide) (by decide) dX3_init_42 (fun q42 => ?_)
  refine zz_dup hx dX3_init_45 rfl ?_
  refine zz_iconst hx dX3_init_46 ?_
  refine zz_callI hx mi_X1_init lk_X3_18 (c_Row_init hst 4 (by decide)) ⟨rfl, rfl⟩ (by decide) (by decide) rfl rfl (Nat.le_of_ble_eq_true rfl) dX3_init_47 (fun _ _ h => h.elim) (fun w42 hp42 => ?_)
  obtain ⟨c42, rfl⟩ := hp42
  refine zz_eq (w' := w ++ [(a, .inr (4, [.ref q5, .ref q16, .ref q29, .null, .null, vi 0, vi 0, vi 0])), (q5, .inr (0, [vi 0, .ref g.2.2.2.2.2, vi 0])), (q16, .inr (2, [.ref c16])), (c16, .inl (g.2.1, zar 60 (rowF 60))), (q29, .inr (2, [.ref c29])), (c29, .inl (g.2.1, zar 60 (rowF 60))), (q42, .inr (2, [.ref c42])), (c42, .inl (g.2.1, zar 4 (rowF 4)))]) (List.append_assoc _ _ _) rfl ?_
  refine zz_putF (fs := [.ref q5, .ref q16, .ref q29, .null, .null, vi 0, vi 0, vi 0]) hx hnm lf_X3_28 rfl tyX3 tyX3_ok nmX3 (w.length + 0) (ap_at _ _ 0) rfl rfl rfl rfl (Nat.le_of_ble_eq_true rfl) dX3_init_50 (ap_set _ _ 0 _) ?_
  refine zz_eq (w' := w ++ [(a, .inr (4, [.ref q5, .ref q16, .ref q29, .ref q42, .null, vi 0, vi 0, vi 0])), (q5, .inr (0, [vi 0, .ref g.2.2.2.2.2, vi 0])), (q16, .inr (2, [.ref c16])), (c16, .inl (g.2.1, zar 60 (rowF 60))), (q29, .inr (2, [.ref c29])), (c29, .inl (g.2.1, zar 60 (rowF 60))), (q42, .inr (2, [.ref c42])), (c42, .inl (g.2.1, zar 4 (rowF 4)))]) rfl rfl ?_
  refine zz_aload_n hx dX3_init_53 rfl ?_
  refine zz_new (ci := 1) (fs := [.null, .null, vi 0]) hx lc_X3_31 (zT_dec (by decide +kernel)) (zT_dec (by decide +kernel)) fw_X0 rfl tyX0 tyX0_ok (by decide) (by decide) dX3_init_54 (fun q54 => ?_)
  refine zz_dup hx dX3_init_57 rfl ?_
  refine zz_callIN (host := "NetworkDatabase") hx mi_X0_init (by decide +kernel) (c_Gathering_init hst) ⟨rfl, rfl⟩ (by decide) (by decide) rfl rfl (Nat.le_of_ble_eq_true rfl) dX3_init_58 (fun _ _ h => h.elim) (fun w54 hp54 => ?_)
  obtain ⟨r1, r2, r3, r4, rfl⟩ := hp54
  refine zz_eq (w' := w ++ [(a, .inr (4, [.ref q5, .ref q16, .ref q29, .ref q42, .null, vi 0, vi 0, vi 0])), (q5, .inr (0, [vi 0, .ref g.2.2.2.2.2, vi 0])), (q16, .inr (2, [.ref c16])), (c16, .inl (g.2.1, zar 60 (rowF 60))), (q29, .inr (2, [.ref c29])), (c29, .inl (g.2.1, zar 60 (rowF 60))), (q42, .inr (2, [.ref c42])), (c42, .inl (g.2.1, zar 4 (rowF 4))), (q54, .inr (1, [.ref r1, .ref r3, vi 0])), (r1, .inr (2, [.ref r2])), (r2, .inl (g.2.1, zar 60 (rowF 60))), (r3, .inr (2, [.ref r4])), (r4, .inl (g.2.1, zar 60 (rowF 60)))]) (List.append_assoc _ _ _) rfl ?_
  refine zz_putF (fs := [.ref q5, .ref q16, .ref q29, .ref q42, .null, vi 0, vi 0, vi 0]) hx hnm lf_X3_34 rfl tyX3 tyX3_ok nmX3 (w.length + 0) (ap_at _ _ 0) rfl rfl rfl rfl (Nat.le_of_ble_eq_true rfl) dX3_init_61 (ap_set _ _ 0 _) ?_
  refine zz_eq (w' := w ++ [(a, .inr (4, [.ref q5, .ref q16, .ref q29, .ref q42, .ref q54, vi 0, vi 0, vi 0])), (q5, .inr (0, [vi 0, .ref g.2.2.2.2.2, vi 0])), (q16, .inr (2, [.ref c16])), (c16, .inl (g.2.1, zar 60 (rowF 60))), (q29, .inr (2, [.ref c29])), (c29, .inl (g.2.1, zar 60 (rowF 60))), (q42, .inr (2, [.ref c42])), (c42, .inl (g.2.1, zar 4 (rowF 4))), (q54, .inr (1, [.ref r1, .ref r3, vi 0])), (r1, .inr (2, [.ref r2])), (r2, .inl (g.2.1, zar 60 (rowF 60))), (r3, .inr (2, [.ref r4])), (r4, .inl (g.2.1, zar 60 (rowF 60)))]) rfl rfl ?_
  refine zz_aload_n hx dX3_init_64 rfl ?_
  refine zz_iconst hx dX3_init_65 ?_
  refine zz_putv (fs := [.ref q5, .ref q16, .ref q29, .ref q42, .ref q54, vi 0, vi 0, vi 0]) hx lf_X3_38 rfl tyX3 tyX3_ok nmX3 (w.length + 0) (ap_at _ _ 0) rfl rfl rfl (Nat.le_of_ble_eq_true rfl) dX3_init_66 (ap_set _ _ 0 _) ?_
  refine zz_eq (w' := w ++ [(a, .inr (4, [.ref q5, .ref q16, .ref q29, .ref q42, .ref q54, vi 0, vi 0, vi 0])), (q5, .inr (0, [vi 0, .ref g.2.2.2.2.2, vi 0])), (q16, .inr (2, [.ref c16])), (c16, .inl (g.2.1, zar 60 (rowF 60))), (q29, .inr (2, [.ref c29])), (c29, .inl (g.2.1, zar 60 (rowF 60))), (q42, .inr (2, [.ref c42])), (c42, .inl (g.2.1, zar 4 (rowF 4))), (q54, .inr (1, [.ref r1, .ref r3, vi 0])), (r1, .inr (2, [.ref r2])), (r2, .inl (g.2.1, zar 60 (rowF 60))), (r3, .inr (2, [.ref r4])), (r4, .inl (g.2.1, zar 60 (rowF 60)))]) rfl rfl ?_
  refine zz_aload_n hx dX3_init_69 rfl ?_
  refine zz_iconst hx dX3_init_70 ?_
  refine zz_putv (fs := [.ref q5, .ref q16, .ref q29, .ref q42, .ref q54, vi 0, vi 0, vi 0]) hx lf_X3_42 rfl tyX3 tyX3_ok nmX3 (w.length + 0) (ap_at _ _ 0) rfl rfl rfl (Nat.le_of_ble_eq_true rfl) dX3_init_71 (ap_set _ _ 0 _) ?_
  refine zz_eq (w' := w ++ [(a, .inr (4, [.ref q5, .ref q16, .ref q29, .ref q42, .ref q54, vi 0, vi 0, vi 0])), (q5, .inr (0, [vi 0, .ref g.2.2.2.2.2, vi 0])), (q16, .inr (2, [.ref c16])), (c16, .inl (g.2.1, zar 60 (rowF 60))), (q29, .inr (2, [.ref c29])), (c29, .inl (g.2.1, zar 60 (rowF 60))), (q42, .inr (2, [.ref c42])), (c42, .inl (g.2.1, zar 4 (rowF 4))), (q54, .inr (1, [.ref r1, .ref r3, vi 0])), (r1, .inr (2, [.ref r2])), (r2, .inl (g.2.1, zar 60 (rowF 60))), (r3, .inr (2, [.ref r4])), (r4, .inl (g.2.1, zar 60 (rowF 60)))]) rfl rfl ?_
  refine zz_aload_n hx dX3_init_74 rfl ?_
  refine zz_iconst hx dX3_init_75 ?_
  refine zz_putv (fs := [.ref q5, .ref q16, .ref q29, .ref q42, .ref q54, vi 0, vi 0, vi 0]) hx lf_X3_45 rfl tyX3 tyX3_ok nmX3 (w.length + 0) (ap_at _ _ 0) rfl rfl rfl (Nat.le_of_ble_eq_true rfl) dX3_init_76 (ap_set _ _ 0 _) ?_
  refine zz_eq (w' := w ++ [(a, .inr (4, [.ref q5, .ref q16, .ref q29, .ref q42, .ref q54, vi 0, vi 0, vi (-1)])), (q5, .inr (0, [vi 0, .ref g.2.2.2.2.2, vi 0])), (q16, .inr (2, [.ref c16])), (c16, .inl (g.2.1, zar 60 (rowF 60))), (q29, .inr (2, [.ref c29])), (c29, .inl (g.2.1, zar 60 (rowF 60))), (q42, .inr (2, [.ref c42])), (c42, .inl (g.2.1, zar 4 (rowF 4))), (q54, .inr (1, [.ref r1, .ref r3, vi 0])), (r1, .inr (2, [.ref r2])), (r2, .inl (g.2.1, zar 60 (rowF 60))), (r3, .inr (2, [.ref r4])), (r4, .inl (g.2.1, zar 60 (rowF 60)))]) rfl rfl ?_
  exact zz_vret hx hf dX3_init_79 ⟨rfl, fun k => [a, q5, q16, c16, q29, c29, q42, c42, q54, r1, r2, r3, r4, g.2.2.2.2.2].getD k 0, fun k => if k = 2 then -1 else 0, fun k => rowF (if k = 2 then 4 else 60), rfl, rfl, rfl, rfl, rfl⟩ (by decide) (by decide)
