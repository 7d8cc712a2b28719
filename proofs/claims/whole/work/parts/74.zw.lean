/-! the law's wrappers: each calls the class, and catches what it throws -/
abbrev zS : Type := (Nat → Nat) × (Int → Nat → Nat) × (Nat → Int) × (Nat → Int → Int) × (Int → Nat → Int) × (Int → Nat → Int → Int) × Nat
def wS (g : zG) (S : zS) (rest : va_W) : va_W := wD g S.1 S.2.1 S.2.2.1 S.2.2.2.1 S.2.2.2.2.1 S.2.2.2.2.2.1 S.2.2.2.2.2.2 rest
theorem wS_app (g : zG) (S : zS) (rest : va_W) : wS g S rest = wS g S [] ++ rest := by
  show dF g S.1 S.2.2.1 S.2.2.2.1 _ = dF g S.1 S.2.2.1 S.2.2.2.1 (_ ++ (_ ++ [])) ++ rest
  rw [List.append_nil]
  show _ = dF g S.1 S.2.2.1 S.2.2.2.1 ((_ ++ _) ++ rest)
  rw [List.append_assoc]
theorem pO (g : zG) (S : zS) (q : Nat × va_E) (r : va_W) : (wS g S (q :: r)).Perm (q :: wS g S r) := by
  rw [wS_app g S (q :: r), wS_app g S r]
  exact List.perm_middle
theorem pM (g : zG) (S : zS) (q : Nat × va_E) (a : Nat → Nat) (F : Nat → Int) (G : Nat → Int → Int) : (wS g S (q :: mW g a F G [])).Perm (mW g a F G (wS g S [q])) := by
  rw [wS_app g S (q :: mW g a F G []), wS_app g S [q]]
  have e : wS g S [] ++ q :: mW g a F G [] = (wS g S [] ++ [q]) ++ mW g a F G [] := by rw [List.append_assoc]; rfl
  rw [e]
  show List.Perm _ (mW g a F G [] ++ (wS g S [] ++ [q]))
  exact List.perm_append_comm
/-- how a call of the class may end: k 1 or 2: refused, 0: answered -/
def zCl (A B : Prop) (RL : Int → zS → Prop) (S : zS) (k v : Int) (S' : zS) : Prop := (k = 1 ∧ S' = S ∧ ¬ A) ∨ (k = 2 ∧ S' = S ∧ A ∧ ¬ B) ∨ (k = 0 ∧ A ∧ B ∧ RL v S')
/-- what finding f leaves -/
def mkS (b : Nat → Nat) (c : Int → Nat → Nat) (I : Nat → Int) (Q : Nat → Int → Int) (P : Int → Nat → Int) (T : Int → Nat → Int → Int) (N : Nat) (f v : Int) (S' : zS) : Prop := (rAt 60 (Q 0) f = -1 ∧ v = -1 ∧ S' = (b, c, I, Q, P, T, N)) ∨ (rAt 60 (Q 0) f ≠ -1 ∧ v = f ∧ S' = (b, c, Fup I 2 f, Gset Q 2 (zup (Q 2) (Q 0 f) f), mkP P T f (N : Int), T, N))
theorem mkO_S {g : zG} {b : Nat → Nat} {c : Int → Nat → Nat} {I : Nat → Int} {Q : Nat → Int → Int} {P : Int → Nat → Int} {T : Int → Nat → Int → Int} {N : Nat} {rest w : va_W} {f v : Int} (h : mkO g b c I Q P T N rest f v w) : ∃ S' : zS, w = wS g S' rest ∧ mkS b c I Q P T N f v S' := by
  rcases h with ⟨h1, h2, h3⟩ | ⟨h1, h2, h3⟩
  · exact ⟨(b, c, I, Q, P, T, N), h3, Or.inl ⟨h1, h2, rfl⟩⟩
  · exact ⟨(b, c, Fup I 2 f, Gset Q 2 (zup (Q 2) (Q 0 f) f), mkP P T f (N : Int), T, N), h3, Or.inr ⟨h1, h2, rfl⟩⟩
theorem RD_le {F : Nat → Int} {G : Nat → Int → Int} {Rw : Int → List Int} {I : Nat → Int} {Q : Nat → Int → Int} {P : Int → Nat → Int} {T : Int → Nat → Int → Int} {N : Nat} (r : RD F G Rw I Q P T N) : I 1 ≤ I 0 := by
  rw [r.1.1, r.1.2.1]; exact r.2.1
theorem zNc_SA {x : zX} (h : zNc x) : zNcE xS xA x := by obtain ⟨p, e, s, m, args, below, meth, c, A, Q⟩ := x; exact h.1
theorem zNc_SI {x : zX} (h : zNc x) : zNcE xS xI x := by obtain ⟨p, e, s, m, args, below, meth, c, A, Q⟩ := x; exact h.2.1
theorem zNc_AI {x : zX} (h : zNc x) : zNcE xA xI x := by obtain ⟨p, e, s, m, args, below, meth, c, A, Q⟩ := x; exact h.2.2

set_option maxHeartbeats 4000000 in
set_option maxRecDepth 100000 in
theorem w_declare {l : Launch} {g : zG} {F : Nat → Int} {G : Nat → Int → Int} {Rw : Int → List Int} {b : Nat → Nat} {c : Int → Nat → Nat} {I : Nat → Int} {Q : Nat → Int → Int} {P : Int → Nat → Int} {T : Int → Nat → Int → Int} {N : Nat} {rest : va_W} (hst : l.stackTraces = false) (h : mI F G Rw) (r : RD F G Rw I Q P T N) (hb : N = 0 → b 13 = g.2.2.2.2.2) (o9 : Nat) (f9 : Nat → Int64) (p : Int) (hp : -2147483648 ≤ p ∧ p < 2147483648) (q : Int) (hq : -2147483648 ≤ q ∧ q < 2147483648) (i : Int) (hi : -2147483648 ≤ i ∧ i < 2147483648) (z : Int) (hz : z = 0 ∨ z = 1) (y : Int) (hy : -2147483648 ≤ y ∧ y < 2147483648) : zMw l g yL_declare cL_declare 8 (Option.some FieldType.int) [(0, 16, 19, 13), (0, 16, 23, 15)] ({ frames := 8, cells := 10, slots := 214, locals := 133 } : Room) [.ref (b 0), vi p, vi q, vi i, vi z, vi y, .ref o9] (wS g (b, c, I, Q, P, T, N) (oC g o9 f9 :: rest)) (zI fun k9 w9 => ∃ (S' : zS) (v9 : Int) (f1 : Nat → Int64), w9 = wS g S' (oC g o9 f1 :: rest) ∧ (k9 = 0 → f1 0 = (Int32.ofInt v9).toInt64) ∧ zCl ((0 ≤ p ∧ p ≤ 3) ∧ (0 ≤ q ∧ q ≤ 3) ∧ (0 ≤ i ∧ i ≤ 4) ∧ (0 ≤ y ∧ y ≤ 2) ∧ p ≠ q) (N < 6 ∧ I 0 ≤ 0) (fun u9 S9 => u9 = (N : Int) ∧ ∃ (b1 : Nat → Nat) (cN : Nat → Nat), (∀ k : Nat, k ≠ 13 → b1 k = b k) ∧ S9 = (b1, upI c (N : Int) cN, Fup (Fup I 4 (I 4 + 1)) 5 ((N : Int) + 1), Q, upI P (N : Int) (fun k => [p, q, i, z, y, 0, 0, 0, -1].getD k 0), upI T (N : Int) (fun _ => rowF 60), N + 1)) (b, c, I, Q, P, T, N) k9 v9 S') 10 214 := by
  refine zMw_of (lv0 := [(0, _), (1, _), (2, _), (3, _), (4, _), (5, _), (6, _)]) hst rfl (by decide +kernel) (Nat.le_of_ble_eq_true rfl) rfl (fun x hx hf ht9 hn => ?_)
  refine zz_aload hx dL_declare_0 rfl ?_
  refine zz_iconst hx dL_declare_2 ?_
  refine zz_aload_n hx dL_declare_3 rfl ?_
  refine zz_iload_n hx dL_declare_4 rfl ?_
  refine zz_iload_n hx dL_declare_5 rfl ?_
  refine zz_iload_n hx dL_declare_6 rfl ?_
  refine zz_iload hx dL_declare_7 rfl ?_
  refine zz_iload hx dL_declare_9 rfl ?_
  refine zz_callVi hx me_X3_declare lk_L_7 (k_X3_declare hst (RD_aI h r) hb p hp q hq i hi y hy z hz) 0 rfl rfl ⟨rfl, rfl⟩ (by decide) (by decide) rfl rfl (Nat.le_of_ble_eq_true rfl) dL_declare_11 (fun E9 w9 hX9 => ?_) (fun v9 w9 hp9 => ?_)
  · obtain ⟨rfl, ⟨rfl, hnA⟩ | ⟨rfl, hA, hnB⟩⟩ := hX9
    · refine zz_catch hx ht9 [] [(0, 16, 23, 15)] 0 16 19 13 rfl (fun z9 hz9 => absurd hz9 List.not_mem_nil) (by decide) (by decide) lc_L_13 (List.mem_of_getElem? (i := 3) rfl) (fun q9 => ?_)
      refine zz_astore (lv' := [(0, _), (1, _), (2, _), (3, _), (4, _), (5, _), (6, _), (7, _)]) hx dL_declare_19 (by decide) rfl ?_
      refine zz_iconst hx dL_declare_21 ?_
      exact zz_iret hx hf dL_declare_22 ⟨1, rfl, (b, c, I, Q, P, T, N), 0, f9, rfl, (fun z9 => absurd z9 (by decide)), Or.inl ⟨rfl, rfl, hnA⟩⟩ (by decide) (by decide)
    · refine zz_catch hx ht9 [(0, 16, 19, 13)] [] 0 16 23 15 rfl (fun z9 hz9 => by rw [List.mem_singleton.mp hz9]; exact ⟨by decide, xA, lc_L_13, zNc_SA hn⟩) (by decide) (by decide) lc_L_15 (List.mem_of_getElem? (i := 4) rfl) (fun q9 => ?_)
      refine zz_astore (lv' := [(0, _), (1, _), (2, _), (3, _), (4, _), (5, _), (6, _), (7, _)]) hx dL_declare_23 (by decide) rfl ?_
      refine zz_iconst hx dL_declare_25 ?_
      exact zz_iret hx hf dL_declare_26 ⟨2, rfl, (b, c, I, Q, P, T, N), 0, f9, rfl, (fun z9 => absurd z9 (by decide)), Or.inr (Or.inl ⟨rfl, rfl, hA, hnB⟩)⟩ (by decide) (by decide)
  · obtain ⟨hA, hB, hv9, b1, cN, e1, rfl⟩ := hp9
    refine zz_i2l hx dL_declare_14 ?_
    refine zz_perm (pO g (b1, upI c (N : Int) cN, Fup (Fup I 4 (I 4 + 1)) 5 ((N : Int) + 1), Q, upI P (N : Int) (fun k => [p, q, i, z, y, 0, 0, 0, -1].getD k 0), upI T (N : Int) (fun _ => rowF 60), N + 1) (oC g o9 f9) rest) ?_
    refine zz_last hx 0 rfl dL_declare_15 (fun f1 hf1 => ?_)
    refine zz_perm (w' := wS g (b1, upI c (N : Int) cN, Fup (Fup I 4 (I 4 + 1)) 5 ((N : Int) + 1), Q, upI P (N : Int) (fun k => [p, q, i, z, y, 0, 0, 0, -1].getD k 0), upI T (N : Int) (fun _ => rowF 60), N + 1) (oC g o9 f1 :: rest)) (pO g (b1, upI c (N : Int) cN, Fup (Fup I 4 (I 4 + 1)) 5 ((N : Int) + 1), Q, upI P (N : Int) (fun k => [p, q, i, z, y, 0, 0, 0, -1].getD k 0), upI T (N : Int) (fun _ => rowF 60), N + 1) (oC g o9 f1) rest).symm ?_
    refine zz_goto hx 27 dL_declare_16 rfl ?_
    refine zz_iconst hx dL_declare_27 ?_
    exact zz_iret hx hf dL_declare_28 ⟨0, rfl, (b1, upI c (N : Int) cN, Fup (Fup I 4 (I 4 + 1)) 5 ((N : Int) + 1), Q, upI P (N : Int) (fun k => [p, q, i, z, y, 0, 0, 0, -1].getD k 0), upI T (N : Int) (fun _ => rowF 60), N + 1), v9, f1, rfl, fun _ => hf1, Or.inr (Or.inr ⟨rfl, hA, hB, ⟨hv9, b1, cN, e1, rfl⟩⟩)⟩ (by decide) (by decide)

set_option maxHeartbeats 4000000 in
set_option maxRecDepth 100000 in
theorem w_store {l : Launch} {g : zG} {F : Nat → Int} {G : Nat → Int → Int} {Rw : Int → List Int} {b : Nat → Nat} {c : Int → Nat → Nat} {I : Nat → Int} {Q : Nat → Int → Int} {P : Int → Nat → Int} {T : Int → Nat → Int → Int} {N : Nat} {rest : va_W} (hst : l.stackTraces = false) (h : mI F G Rw) (r : RD F G Rw I Q P T N) (hb : N = 0 → b 13 = g.2.2.2.2.2) (o9 : Nat) (f9 : Nat → Int64) (t : Int) (ht : -2147483648 ≤ t ∧ t < 2147483648) (v : Int) (hv : -2147483648 ≤ v ∧ v < 2147483648) : zMw l g yL_store cL_store 5 (Option.some FieldType.int) [(0, 10, 13, 13), (0, 10, 17, 15)] ({ frames := 8, cells := 3, slots := 18, locals := 143 } : Room) [.ref (b 0), vi t, vi v, .ref o9] (wS g (b, c, I, Q, P, T, N) (oC g o9 f9 :: rest)) (zI fun k9 w9 => ∃ (S' : zS) (v9 : Int) (f1 : Nat → Int64), w9 = wS g S' (oC g o9 f1 :: rest) ∧ (k9 = 0 → f1 0 = (Int32.ofInt v9).toInt64) ∧ zCl ((0 ≤ t ∧ t ≤ 3) ∧ (-1000 ≤ v ∧ v ≤ 1000)) (I 0 < 60 ∧ ∀ s : Int, 0 ≤ s → s < (N : Int) → ¬ (P s 3 = 1 ∧ P s 1 = t ∧ P s 8 = -1)) (fun u9 S9 => ∃ T1 : Int → Nat → Int → Int, (∀ s : Int, 0 ≤ s → s < (N : Int) → adO (P s) ((Gset (Gset Q 0 (zup (Q 0) (I 0) t)) 1 (zup (Q 1) (I 0) v)) 1) (gW G s) (Rw s) t (I 0) (T s) (T1 s)) ∧ mkS b c (Fup (Fup I 0 (I 0 + 1)) 1 (I 1 + 1)) (Gset (Gset Q 0 (zup (Q 0) (I 0) t)) 1 (zup (Q 1) (I 0) v)) P T1 N (I 0) u9 S9) (b, c, I, Q, P, T, N) k9 v9 S') 3 18 := by
  refine zMw_of (lv0 := [(0, _), (1, _), (2, _), (3, _)]) hst rfl (by decide +kernel) (Nat.le_of_ble_eq_true rfl) rfl (fun x hx hf ht9 hn => ?_)
  refine zz_aload_n hx dL_store_0 rfl ?_
  refine zz_iconst hx dL_store_1 ?_
  refine zz_aload_n hx dL_store_2 rfl ?_
  refine zz_iload_n hx dL_store_3 rfl ?_
  refine zz_iload_n hx dL_store_4 rfl ?_
  refine zz_callVi hx me_X3_store lk_L_17 (k_X3_store hst (RD_aI h r) (RD_aS h r) (RD_aR h r) (RD_aC h r) (RD_new h r) (RD_le r) t ht v hv) 0 rfl rfl ⟨rfl, rfl⟩ (by decide) (by decide) rfl rfl (Nat.le_of_ble_eq_true rfl) dL_store_5 (fun E9 w9 hX9 => ?_) (fun v9 w9 hp9 => ?_)
  · obtain ⟨rfl, ⟨rfl, hnA⟩ | ⟨rfl, hA, hnB⟩⟩ := hX9
    · refine zz_catch hx ht9 [] [(0, 10, 17, 15)] 0 10 13 13 rfl (fun z9 hz9 => absurd hz9 List.not_mem_nil) (by decide) (by decide) lc_L_13 (List.mem_of_getElem? (i := 3) rfl) (fun q9 => ?_)
      refine zz_astore (lv' := [(0, _), (1, _), (2, _), (3, _), (4, _)]) hx dL_store_13 (by decide) rfl ?_
      refine zz_iconst hx dL_store_15 ?_
      exact zz_iret hx hf dL_store_16 ⟨1, rfl, (b, c, I, Q, P, T, N), 0, f9, rfl, (fun z9 => absurd z9 (by decide)), Or.inl ⟨rfl, rfl, hnA⟩⟩ (by decide) (by decide)
    · refine zz_catch hx ht9 [(0, 10, 13, 13)] [] 0 10 17 15 rfl (fun z9 hz9 => by rw [List.mem_singleton.mp hz9]; exact ⟨by decide, xA, lc_L_13, zNc_SA hn⟩) (by decide) (by decide) lc_L_15 (List.mem_of_getElem? (i := 4) rfl) (fun q9 => ?_)
      refine zz_astore (lv' := [(0, _), (1, _), (2, _), (3, _), (4, _)]) hx dL_store_17 (by decide) rfl ?_
      refine zz_iconst hx dL_store_19 ?_
      exact zz_iret hx hf dL_store_20 ⟨2, rfl, (b, c, I, Q, P, T, N), 0, f9, rfl, (fun z9 => absurd z9 (by decide)), Or.inr (Or.inl ⟨rfl, rfl, hA, hnB⟩)⟩ (by decide) (by decide)
  · obtain ⟨hA, hB, T1, ha9, hm9⟩ := hp9
    obtain ⟨S', rfl, hk9⟩ := mkO_S hm9
    refine zz_i2l hx dL_store_8 ?_
    refine zz_perm (pO g S' (oC g o9 f9) rest) ?_
    refine zz_last hx 0 rfl dL_store_9 (fun f1 hf1 => ?_)
    refine zz_perm (w' := wS g S' (oC g o9 f1 :: rest)) (pO g S' (oC g o9 f1) rest).symm ?_
    refine zz_goto hx 21 dL_store_10 rfl ?_
    refine zz_iconst hx dL_store_21 ?_
    exact zz_iret hx hf dL_store_22 ⟨0, rfl, S', v9, f1, rfl, fun _ => hf1, Or.inr (Or.inr ⟨rfl, hA, hB, ⟨T1, ha9, hk9⟩⟩)⟩ (by decide) (by decide)

set_option maxHeartbeats 4000000 in
set_option maxRecDepth 100000 in
theorem w_modify {l : Launch} {g : zG} {F : Nat → Int} {G : Nat → Int → Int} {Rw : Int → List Int} {b : Nat → Nat} {c : Int → Nat → Nat} {I : Nat → Int} {Q : Nat → Int → Int} {P : Int → Nat → Int} {T : Int → Nat → Int → Int} {N : Nat} {rest : va_W} (hst : l.stackTraces = false) (h : mI F G Rw) (r : RD F G Rw I Q P T N) (hb : N = 0 → b 13 = g.2.2.2.2.2) (o9 : Nat) (f9 : Nat → Int64) (v : Int) (hv : -2147483648 ≤ v ∧ v < 2147483648) : zMw l g yL_modify cL_modify 4 (Option.some FieldType.int) [(0, 9, 12, 13), (0, 9, 15, 15)] ({ frames := 8, cells := 2, slots := 12, locals := 142 } : Room) [.ref (b 0), vi v, .ref o9] (wS g (b, c, I, Q, P, T, N) (oC g o9 f9 :: rest)) (zI fun k9 w9 => ∃ (S' : zS) (v9 : Int) (f1 : Nat → Int64), w9 = wS g S' (oC g o9 f1 :: rest) ∧ (k9 = 0 → f1 0 = (Int32.ofInt v9).toInt64) ∧ zCl (-1000 ≤ v ∧ v ≤ 1000) (I 2 ≠ -1) (fun u9 S9 => u9 = Q 1 (I 2) ∧ ∃ T1 : Int → Nat → Int → Int, S9 = (b, c, I, (Gset Q 1 (zup (Q 1) (I 2) v)), P, T1, N) ∧ ∀ s : Int, 0 ≤ s → s < (N : Int) → soO (P s) ((Gset Q 1 (zup (Q 1) (I 2) v)) 1) (gW G s) (Rw s) (I 2) (T s) (T1 s)) (b, c, I, Q, P, T, N) k9 v9 S') 2 12 := by
  refine zMw_of (lv0 := [(0, _), (1, _), (2, _)]) hst rfl (by decide +kernel) (Nat.le_of_ble_eq_true rfl) rfl (fun x hx hf ht9 hn => ?_)
  refine zz_aload_n hx dL_modify_0 rfl ?_
  refine zz_iconst hx dL_modify_1 ?_
  refine zz_aload_n hx dL_modify_2 rfl ?_
  refine zz_iload_n hx dL_modify_3 rfl ?_
  refine zz_callVi hx me_X3_modify lk_L_21 (k_X3_modify hst (RD_aI h r) (RD_aS h r) v hv) 0 rfl rfl ⟨rfl, rfl⟩ (by decide) (by decide) rfl rfl (Nat.le_of_ble_eq_true rfl) dL_modify_4 (fun E9 w9 hX9 => ?_) (fun v9 w9 hp9 => ?_)
  · obtain ⟨rfl, ⟨rfl, hnA⟩ | ⟨rfl, hA, hnB⟩⟩ := hX9
    · refine zz_catch hx ht9 [] [(0, 9, 15, 15)] 0 9 12 13 rfl (fun z9 hz9 => absurd hz9 List.not_mem_nil) (by decide) (by decide) lc_L_13 (List.mem_of_getElem? (i := 3) rfl) (fun q9 => ?_)
      refine zz_astore_n (lv' := [(0, _), (1, _), (2, _), (3, _)]) hx dL_modify_12 (by decide) rfl ?_
      refine zz_iconst hx dL_modify_13 ?_
      exact zz_iret hx hf dL_modify_14 ⟨1, rfl, (b, c, I, Q, P, T, N), 0, f9, rfl, (fun z9 => absurd z9 (by decide)), Or.inl ⟨rfl, rfl, hnA⟩⟩ (by decide) (by decide)
    · refine zz_catch hx ht9 [(0, 9, 12, 13)] [] 0 9 15 15 rfl (fun z9 hz9 => by rw [List.mem_singleton.mp hz9]; exact ⟨by decide, xA, lc_L_13, zNc_SA hn⟩) (by decide) (by decide) lc_L_15 (List.mem_of_getElem? (i := 4) rfl) (fun q9 => ?_)
      refine zz_astore_n (lv' := [(0, _), (1, _), (2, _), (3, _)]) hx dL_modify_15 (by decide) rfl ?_
      refine zz_iconst hx dL_modify_16 ?_
      exact zz_iret hx hf dL_modify_17 ⟨2, rfl, (b, c, I, Q, P, T, N), 0, f9, rfl, (fun z9 => absurd z9 (by decide)), Or.inr (Or.inl ⟨rfl, rfl, hA, hnB⟩)⟩ (by decide) (by decide)
  · obtain ⟨hA, hB, hv9, T1, rfl, hs9⟩ := hp9
    refine zz_i2l hx dL_modify_7 ?_
    refine zz_perm (pO g (b, c, I, (Gset Q 1 (zup (Q 1) (I 2) v)), P, T1, N) (oC g o9 f9) rest) ?_
    refine zz_last hx 0 rfl dL_modify_8 (fun f1 hf1 => ?_)
    refine zz_perm (w' := wS g (b, c, I, (Gset Q 1 (zup (Q 1) (I 2) v)), P, T1, N) (oC g o9 f1 :: rest)) (pO g (b, c, I, (Gset Q 1 (zup (Q 1) (I 2) v)), P, T1, N) (oC g o9 f1) rest).symm ?_
    refine zz_goto hx 18 dL_modify_9 rfl ?_
    refine zz_iconst hx dL_modify_18 ?_
    exact zz_iret hx hf dL_modify_19 ⟨0, rfl, (b, c, I, (Gset Q 1 (zup (Q 1) (I 2) v)), P, T1, N), v9, f1, rfl, fun _ => hf1, Or.inr (Or.inr ⟨rfl, hA, hB, ⟨hv9, T1, rfl, hs9⟩⟩)⟩ (by decide) (by decide)

set_option maxHeartbeats 4000000 in
set_option maxRecDepth 100000 in
theorem w_erase {l : Launch} {g : zG} {F : Nat → Int} {G : Nat → Int → Int} {Rw : Int → List Int} {b : Nat → Nat} {c : Int → Nat → Nat} {I : Nat → Int} {Q : Nat → Int → Int} {P : Int → Nat → Int} {T : Int → Nat → Int → Int} {N : Nat} {rest : va_W} (hst : l.stackTraces = false) (h : mI F G Rw) (r : RD F G Rw I Q P T N) (hb : N = 0 → b 13 = g.2.2.2.2.2) (o9 : Nat) (f9 : Nat → Int64) (y : Int) (hy : -2147483648 ≤ y ∧ y < 2147483648) : zMw l g yL_erase cL_erase 4 (Option.some FieldType.int) [(0, 9, 12, 13), (0, 9, 15, 15)] ({ frames := 8, cells := 3, slots := 18, locals := 174 } : Room) [.ref (b 0), vi y, .ref o9] (wS g (b, c, I, Q, P, T, N) (oC g o9 f9 :: rest)) (zI fun k9 w9 => ∃ (S' : zS) (v9 : Int) (f1 : Nat → Int64), w9 = wS g S' (oC g o9 f1 :: rest) ∧ (k9 = 0 → f1 0 = (Int32.ofInt v9).toInt64) ∧ zCl (0 ≤ y ∧ y ≤ 2) (I 2 ≠ -1 ∧ (y = 0 → ∀ s : Int, 0 ≤ s → s < (N : Int) → ¬ (gO F G s (I 2) ∧ 0 < ((mOf (gW G s) (I 2) (Rw s)).length : Int)))) (fun u9 S9 => ∃ (I1 : Nat → Int) (Q1 : Nat → Int → Int) (T1 : Int → Nat → Int → Int) (D : List Int), S9 = (b, c, I1, Q1, PD P (gW G) D N, T1, N) ∧ u9 = (D.length : Int) ∧ D.Nodup ∧ (∀ u ∈ D, 0 ≤ u ∧ u < 60) ∧ gDm P (gW G) (gO F G) Rw N y (I 2) D ∧ eL g b c I Q P N (gW G) (gO F G) Rw D (D.length : Int) I1 Q1 T1) (b, c, I, Q, P, T, N) k9 v9 S') 3 18 := by
  refine zMw_of (lv0 := [(0, _), (1, _), (2, _)]) hst rfl (by decide +kernel) (Nat.le_of_ble_eq_true rfl) rfl (fun x hx hf ht9 hn => ?_)
  refine zz_aload_n hx dL_erase_0 rfl ?_
  refine zz_iconst hx dL_erase_1 ?_
  refine zz_aload_n hx dL_erase_2 rfl ?_
  refine zz_iload_n hx dL_erase_3 rfl ?_
  refine zz_callVi hx me_X3_erase lk_L_25 (k_X3_erase hst (RD_aI h r) (RD_aS h r) (RD_aR h r) (RD_U h r) (RD_qt h r) y hy) 0 rfl rfl ⟨rfl, rfl⟩ (by decide) (by decide) rfl rfl (Nat.le_of_ble_eq_true rfl) dL_erase_4 (fun E9 w9 hX9 => ?_) (fun v9 w9 hp9 => ?_)
  · obtain ⟨rfl, rfl, hnA⟩ | ⟨rfl, rfl, hA, hnB⟩ := hX9
    · refine zz_catch hx ht9 [] [(0, 9, 15, 15)] 0 9 12 13 rfl (fun z9 hz9 => absurd hz9 List.not_mem_nil) (by decide) (by decide) lc_L_13 (List.mem_of_getElem? (i := 3) rfl) (fun q9 => ?_)
      refine zz_astore_n (lv' := [(0, _), (1, _), (2, _), (3, _)]) hx dL_erase_12 (by decide) rfl ?_
      refine zz_iconst hx dL_erase_13 ?_
      exact zz_iret hx hf dL_erase_14 ⟨1, rfl, (b, c, I, Q, P, T, N), 0, f9, rfl, (fun z9 => absurd z9 (by decide)), Or.inl ⟨rfl, rfl, hnA⟩⟩ (by decide) (by decide)
    · refine zz_catch hx ht9 [(0, 9, 12, 13)] [] 0 9 15 15 rfl (fun z9 hz9 => by rw [List.mem_singleton.mp hz9]; exact ⟨by decide, xA, lc_L_13, zNc_SA hn⟩) (by decide) (by decide) lc_L_15 (List.mem_of_getElem? (i := 4) rfl) (fun q9 => ?_)
      refine zz_astore_n (lv' := [(0, _), (1, _), (2, _), (3, _)]) hx dL_erase_15 (by decide) rfl ?_
      refine zz_iconst hx dL_erase_16 ?_
      exact zz_iret hx hf dL_erase_17 ⟨2, rfl, (b, c, I, Q, P, T, N), 0, f9, rfl, (fun z9 => absurd z9 (by decide)), Or.inr (Or.inl ⟨rfl, rfl, hA, hnB⟩)⟩ (by decide) (by decide)
  · obtain ⟨hA, hB, I1, Q1, T1, D, rfl, hR9⟩ := hp9
    refine zz_i2l hx dL_erase_7 ?_
    refine zz_perm (pO g (b, c, I1, Q1, PD P (gW G) D N, T1, N) (oC g o9 f9) rest) ?_
    refine zz_last hx 0 rfl dL_erase_8 (fun f1 hf1 => ?_)
    refine zz_perm (w' := wS g (b, c, I1, Q1, PD P (gW G) D N, T1, N) (oC g o9 f1 :: rest)) (pO g (b, c, I1, Q1, PD P (gW G) D N, T1, N) (oC g o9 f1) rest).symm ?_
    refine zz_goto hx 18 dL_erase_9 rfl ?_
    refine zz_iconst hx dL_erase_18 ?_
    exact zz_iret hx hf dL_erase_19 ⟨0, rfl, (b, c, I1, Q1, PD P (gW G) D N, T1, N), v9, f1, rfl, fun _ => hf1, Or.inr (Or.inr ⟨rfl, hA, hB, ⟨I1, Q1, T1, D, rfl, hR9⟩⟩)⟩ (by decide) (by decide)

set_option maxHeartbeats 4000000 in
set_option maxRecDepth 100000 in
theorem w_connect {l : Launch} {g : zG} {F : Nat → Int} {G : Nat → Int → Int} {Rw : Int → List Int} {b : Nat → Nat} {c : Int → Nat → Nat} {I : Nat → Int} {Q : Nat → Int → Int} {P : Int → Nat → Int} {T : Int → Nat → Int → Int} {N : Nat} {rest : va_W} (hst : l.stackTraces = false) (h : mI F G Rw) (r : RD F G Rw I Q P T N) (hb : N = 0 → b 13 = g.2.2.2.2.2) (o9 : Nat) (f9 : Nat → Int64) (s : Int) (hs : -2147483648 ≤ s ∧ s < 2147483648) : zMw l g yL_connect cL_connect 4 (Option.some FieldType.int) [(0, 9, 12, 31), (0, 9, 15, 15)] ({ frames := 8, cells := 3, slots := 18, locals := 126 } : Room) [.ref (b 0), vi s, .ref o9] (wS g (b, c, I, Q, P, T, N) (oC g o9 f9 :: rest)) (zI fun k9 w9 => ∃ (S' : zS) (v9 : Int) (f1 : Nat → Int64), w9 = wS g S' (oC g o9 f1 :: rest) ∧ (k9 = 0 → f1 0 = (Int32.ofInt v9).toInt64) ∧ zCl (0 ≤ s ∧ s < (N : Int)) (I 2 ≠ -1 ∧ Q 0 (I 2) = P s 1 ∧ ¬ (T s 5 (I 2) ≠ -1 ∧ T s 5 (I 2) ≠ I 2) ∧ (rAt 60 (T s 5) (P s 8)) ≠ -1) (fun u9 S9 => ∃ (T1 : Nat → Int → Int) (j p : Int), S9 = (b, c, I, Q, upI P s (Fup (P s) 8 (I 2)), upI T s T1, N) ∧ j = ((mOf (gW G s) (rAt 60 (T s 5) (P s 8)) ((Rw s).take p.toNat)).length : Int) ∧ fPl (P s 8) (P s 2) (Q 1) (gW G s) (I 2) (rAt 60 (T s 5) (P s 8)) (Rw s) j ∧ insT (T s) T1 (gW G s) (Rw s) (I 2) (rAt 60 (T s 5) (P s 8)) j ∧ u9 = ((mOf (zup (gW G s) (I 2) (rAt 60 (T s 5) (P s 8))) (rAt 60 (T s 5) (P s 8)) (zinsl (Rw s) p (I 2))).length : Int)) (b, c, I, Q, P, T, N) k9 v9 S') 3 18 := by
  refine zMw_of (lv0 := [(0, _), (1, _), (2, _)]) hst rfl (by decide +kernel) (Nat.le_of_ble_eq_true rfl) rfl (fun x hx hf ht9 hn => ?_)
  refine zz_aload_n hx dL_connect_0 rfl ?_
  refine zz_iconst hx dL_connect_1 ?_
  refine zz_aload_n hx dL_connect_2 rfl ?_
  refine zz_iload_n hx dL_connect_3 rfl ?_
  refine zz_callVi hx me_X3_connect lk_L_28 (k_X3_connect hst (RD_aI h r) (RD_aS h r) (RD_aR h r) s hs) 0 rfl rfl ⟨rfl, rfl⟩ (by decide) (by decide) rfl rfl (Nat.le_of_ble_eq_true rfl) dL_connect_4 (fun E9 w9 hX9 => ?_) (fun v9 w9 hp9 => ?_)
  · obtain ⟨rfl, ⟨rfl, hnA⟩ | ⟨rfl, hA, hnB⟩⟩ := hX9
    · refine zz_catch hx ht9 [] [(0, 9, 15, 15)] 0 9 12 31 rfl (fun z9 hz9 => absurd hz9 List.not_mem_nil) (by decide) (by decide) lc_L_31 (List.mem_of_getElem? (i := 5) rfl) (fun q9 => ?_)
      refine zz_astore_n (lv' := [(0, _), (1, _), (2, _), (3, _)]) hx dL_connect_12 (by decide) rfl ?_
      refine zz_iconst hx dL_connect_13 ?_
      exact zz_iret hx hf dL_connect_14 ⟨1, rfl, (b, c, I, Q, P, T, N), 0, f9, rfl, (fun z9 => absurd z9 (by decide)), Or.inl ⟨rfl, rfl, hnA⟩⟩ (by decide) (by decide)
    · refine zz_catch hx ht9 [(0, 9, 12, 31)] [] 0 9 15 15 rfl (fun z9 hz9 => by rw [List.mem_singleton.mp hz9]; exact ⟨by decide, xI, lc_L_31, zNc_SI hn⟩) (by decide) (by decide) lc_L_15 (List.mem_of_getElem? (i := 4) rfl) (fun q9 => ?_)
      refine zz_astore_n (lv' := [(0, _), (1, _), (2, _), (3, _)]) hx dL_connect_15 (by decide) rfl ?_
      refine zz_iconst hx dL_connect_16 ?_
      exact zz_iret hx hf dL_connect_17 ⟨2, rfl, (b, c, I, Q, P, T, N), 0, f9, rfl, (fun z9 => absurd z9 (by decide)), Or.inr (Or.inl ⟨rfl, rfl, hA, hnB⟩)⟩ (by decide) (by decide)
  · obtain ⟨hA, hB, T1, j, p, rfl, hR9⟩ := hp9
    refine zz_i2l hx dL_connect_7 ?_
    refine zz_perm (pO g (b, c, I, Q, upI P s (Fup (P s) 8 (I 2)), upI T s T1, N) (oC g o9 f9) rest) ?_
    refine zz_last hx 0 rfl dL_connect_8 (fun f1 hf1 => ?_)
    refine zz_perm (w' := wS g (b, c, I, Q, upI P s (Fup (P s) 8 (I 2)), upI T s T1, N) (oC g o9 f1 :: rest)) (pO g (b, c, I, Q, upI P s (Fup (P s) 8 (I 2)), upI T s T1, N) (oC g o9 f1) rest).symm ?_
    refine zz_goto hx 18 dL_connect_9 rfl ?_
    refine zz_iconst hx dL_connect_18 ?_
    exact zz_iret hx hf dL_connect_19 ⟨0, rfl, (b, c, I, Q, upI P s (Fup (P s) 8 (I 2)), upI T s T1, N), v9, f1, rfl, fun _ => hf1, Or.inr (Or.inr ⟨rfl, hA, hB, ⟨T1, j, p, rfl, hR9⟩⟩)⟩ (by decide) (by decide)

set_option maxHeartbeats 4000000 in
set_option maxRecDepth 100000 in
theorem w_disconnect {l : Launch} {g : zG} {F : Nat → Int} {G : Nat → Int → Int} {Rw : Int → List Int} {b : Nat → Nat} {c : Int → Nat → Nat} {I : Nat → Int} {Q : Nat → Int → Int} {P : Int → Nat → Int} {T : Int → Nat → Int → Int} {N : Nat} {rest : va_W} (hst : l.stackTraces = false) (h : mI F G Rw) (r : RD F G Rw I Q P T N) (hb : N = 0 → b 13 = g.2.2.2.2.2) (o9 : Nat) (f9 : Nat → Int64) (s : Int) (hs : -2147483648 ≤ s ∧ s < 2147483648) : zMw l g yL_disconnect cL_disconnect 4 (Option.some FieldType.int) [(0, 9, 12, 31), (0, 9, 15, 15)] ({ frames := 9, cells := 4, slots := 24, locals := 146 } : Room) [.ref (b 0), vi s, .ref o9] (wS g (b, c, I, Q, P, T, N) (oC g o9 f9 :: rest)) (zI fun k9 w9 => ∃ (S' : zS) (v9 : Int) (f1 : Nat → Int64), w9 = wS g S' (oC g o9 f1 :: rest) ∧ (k9 = 0 → f1 0 = (Int32.ofInt v9).toInt64) ∧ zCl (0 ≤ s ∧ s < (N : Int)) ((I 2 ≠ -1 ∧ (rAt 60 (T s 5) (I 2) ≠ -1 ∧ rAt 60 (T s 5) (I 2) ≠ I 2)) ∧ P s 4 = 2) (fun u9 S9 => ∃ (T1 : Nat → Int → Int), S9 = (b, c, I, Q, upI P s (if P s 8 = I 2 then Fup (P s) 8 (-1) else P s), upI T s T1, N) ∧ outT (T s) T1 (I 2) ∧ u9 = ((mOf (zup (gW G s) (I 2) (-1)) (gW G s (I 2)) (zdel (Rw s) (I 2))).length : Int)) (b, c, I, Q, P, T, N) k9 v9 S') 4 24 := by
  refine zMw_of (lv0 := [(0, _), (1, _), (2, _)]) hst rfl (by decide +kernel) (Nat.le_of_ble_eq_true rfl) rfl (fun x hx hf ht9 hn => ?_)
  refine zz_aload_n hx dL_disconnect_0 rfl ?_
  refine zz_iconst hx dL_disconnect_1 ?_
  refine zz_aload_n hx dL_disconnect_2 rfl ?_
  refine zz_iload_n hx dL_disconnect_3 rfl ?_
  refine zz_callVi hx me_X3_disconnect lk_L_33 (k_X3_disconnect hst (RD_aI h r) (RD_aS h r) s hs) 0 rfl rfl ⟨rfl, rfl⟩ (by decide) (by decide) rfl rfl (Nat.le_of_ble_eq_true rfl) dL_disconnect_4 (fun E9 w9 hX9 => ?_) (fun v9 w9 hp9 => ?_)
  · obtain ⟨rfl, ⟨rfl, hnA⟩ | ⟨rfl, hA, hnB⟩⟩ := hX9
    · refine zz_catch hx ht9 [] [(0, 9, 15, 15)] 0 9 12 31 rfl (fun z9 hz9 => absurd hz9 List.not_mem_nil) (by decide) (by decide) lc_L_31 (List.mem_of_getElem? (i := 5) rfl) (fun q9 => ?_)
      refine zz_astore_n (lv' := [(0, _), (1, _), (2, _), (3, _)]) hx dL_disconnect_12 (by decide) rfl ?_
      refine zz_iconst hx dL_disconnect_13 ?_
      exact zz_iret hx hf dL_disconnect_14 ⟨1, rfl, (b, c, I, Q, P, T, N), 0, f9, rfl, (fun z9 => absurd z9 (by decide)), Or.inl ⟨rfl, rfl, hnA⟩⟩ (by decide) (by decide)
    · refine zz_catch hx ht9 [(0, 9, 12, 31)] [] 0 9 15 15 rfl (fun z9 hz9 => by rw [List.mem_singleton.mp hz9]; exact ⟨by decide, xI, lc_L_31, zNc_SI hn⟩) (by decide) (by decide) lc_L_15 (List.mem_of_getElem? (i := 4) rfl) (fun q9 => ?_)
      refine zz_astore_n (lv' := [(0, _), (1, _), (2, _), (3, _)]) hx dL_disconnect_15 (by decide) rfl ?_
      refine zz_iconst hx dL_disconnect_16 ?_
      exact zz_iret hx hf dL_disconnect_17 ⟨2, rfl, (b, c, I, Q, P, T, N), 0, f9, rfl, (fun z9 => absurd z9 (by decide)), Or.inr (Or.inl ⟨rfl, rfl, hA, hnB⟩)⟩ (by decide) (by decide)
  · obtain ⟨hA, hB, T1, rfl, hR9⟩ := hp9
    refine zz_i2l hx dL_disconnect_7 ?_
    refine zz_perm (pO g (b, c, I, Q, upI P s (if P s 8 = I 2 then Fup (P s) 8 (-1) else P s), upI T s T1, N) (oC g o9 f9) rest) ?_
    refine zz_last hx 0 rfl dL_disconnect_8 (fun f1 hf1 => ?_)
    refine zz_perm (w' := wS g (b, c, I, Q, upI P s (if P s 8 = I 2 then Fup (P s) 8 (-1) else P s), upI T s T1, N) (oC g o9 f1 :: rest)) (pO g (b, c, I, Q, upI P s (if P s 8 = I 2 then Fup (P s) 8 (-1) else P s), upI T s T1, N) (oC g o9 f1) rest).symm ?_
    refine zz_goto hx 18 dL_disconnect_9 rfl ?_
    refine zz_iconst hx dL_disconnect_18 ?_
    exact zz_iret hx hf dL_disconnect_19 ⟨0, rfl, (b, c, I, Q, upI P s (if P s 8 = I 2 then Fup (P s) 8 (-1) else P s), upI T s T1, N), v9, f1, rfl, fun _ => hf1, Or.inr (Or.inr ⟨rfl, hA, hB, ⟨T1, rfl, hR9⟩⟩)⟩ (by decide) (by decide)

set_option maxHeartbeats 4000000 in
set_option maxRecDepth 100000 in
theorem w_reconnect {l : Launch} {g : zG} {F : Nat → Int} {G : Nat → Int → Int} {Rw : Int → List Int} {b : Nat → Nat} {c : Int → Nat → Nat} {I : Nat → Int} {Q : Nat → Int → Int} {P : Int → Nat → Int} {T : Int → Nat → Int → Int} {N : Nat} {rest : va_W} (hst : l.stackTraces = false) (h : mI F G Rw) (r : RD F G Rw I Q P T N) (hb : N = 0 → b 13 = g.2.2.2.2.2) (o9 : Nat) (f9 : Nat → Int64) (s : Int) (hs : -2147483648 ≤ s ∧ s < 2147483648) (q : Int) (hq : -2147483648 ≤ q ∧ q < 2147483648) : zMw l g yL_reconnect cL_reconnect 5 (Option.some FieldType.int) [(0, 10, 13, 31), (0, 10, 17, 15)] ({ frames := 9, cells := 4, slots := 24, locals := 146 } : Room) [.ref (b 0), vi s, vi q, .ref o9] (wS g (b, c, I, Q, P, T, N) (oC g o9 f9 :: rest)) (zI fun k9 w9 => ∃ (S' : zS) (v9 : Int) (f1 : Nat → Int64), w9 = wS g S' (oC g o9 f1 :: rest) ∧ (k9 = 0 → f1 0 = (Int32.ofInt v9).toInt64) ∧ zCl ((0 ≤ s ∧ s < (N : Int)) ∧ gO F G s q) ((I 2 ≠ -1 ∧ (rAt 60 (T s 5) (I 2) ≠ -1 ∧ rAt 60 (T s 5) (I 2) ≠ I 2)) ∧ P s 4 ≠ 0) (fun u9 S9 => ∃ (T1 T2 : Nat → Int → Int) (j p : Int), S9 = (b, c, I, Q, upI P s (Fup (P s) 8 (I 2)), upI T s T2, N) ∧ outT (T s) T1 (I 2) ∧ j = ((mOf (zup (gW G s) (I 2) (-1)) q ((zdel (Rw s) (I 2)).take p.toNat)).length : Int) ∧ fPl (P s 8) (P s 2) (Q 1) (zup (gW G s) (I 2) (-1)) (I 2) q (zdel (Rw s) (I 2)) j ∧ insT T1 T2 (zup (gW G s) (I 2) (-1)) (zdel (Rw s) (I 2)) (I 2) q j ∧ u9 = ((mOf (zup (zup (gW G s) (I 2) (-1)) (I 2) q) q (zinsl (zdel (Rw s) (I 2)) p (I 2))).length : Int)) (b, c, I, Q, P, T, N) k9 v9 S') 4 24 := by
  refine zMw_of (lv0 := [(0, _), (1, _), (2, _), (3, _)]) hst rfl (by decide +kernel) (Nat.le_of_ble_eq_true rfl) rfl (fun x hx hf ht9 hn => ?_)
  refine zz_aload_n hx dL_reconnect_0 rfl ?_
  refine zz_iconst hx dL_reconnect_1 ?_
  refine zz_aload_n hx dL_reconnect_2 rfl ?_
  refine zz_iload_n hx dL_reconnect_3 rfl ?_
  refine zz_iload_n hx dL_reconnect_4 rfl ?_
  refine zz_callVi hx me_X3_reconnect lk_L_36 (k_X3_reconnect hst (RD_aI h r) (RD_aS h r) s hs q hq) 0 rfl rfl ⟨rfl, rfl⟩ (by decide) (by decide) rfl rfl (Nat.le_of_ble_eq_true rfl) dL_reconnect_5 (fun E9 w9 hX9 => ?_) (fun v9 w9 hp9 => ?_)
  · obtain ⟨rfl, ⟨rfl, hnA⟩ | ⟨rfl, hA, hnB⟩⟩ := hX9
    · refine zz_catch hx ht9 [] [(0, 10, 17, 15)] 0 10 13 31 rfl (fun z9 hz9 => absurd hz9 List.not_mem_nil) (by decide) (by decide) lc_L_31 (List.mem_of_getElem? (i := 5) rfl) (fun q9 => ?_)
      refine zz_astore (lv' := [(0, _), (1, _), (2, _), (3, _), (4, _)]) hx dL_reconnect_13 (by decide) rfl ?_
      refine zz_iconst hx dL_reconnect_15 ?_
      exact zz_iret hx hf dL_reconnect_16 ⟨1, rfl, (b, c, I, Q, P, T, N), 0, f9, rfl, (fun z9 => absurd z9 (by decide)), Or.inl ⟨rfl, rfl, hnA⟩⟩ (by decide) (by decide)
    · refine zz_catch hx ht9 [(0, 10, 13, 31)] [] 0 10 17 15 rfl (fun z9 hz9 => by rw [List.mem_singleton.mp hz9]; exact ⟨by decide, xI, lc_L_31, zNc_SI hn⟩) (by decide) (by decide) lc_L_15 (List.mem_of_getElem? (i := 4) rfl) (fun q9 => ?_)
      refine zz_astore (lv' := [(0, _), (1, _), (2, _), (3, _), (4, _)]) hx dL_reconnect_17 (by decide) rfl ?_
      refine zz_iconst hx dL_reconnect_19 ?_
      exact zz_iret hx hf dL_reconnect_20 ⟨2, rfl, (b, c, I, Q, P, T, N), 0, f9, rfl, (fun z9 => absurd z9 (by decide)), Or.inr (Or.inl ⟨rfl, rfl, hA, hnB⟩)⟩ (by decide) (by decide)
  · obtain ⟨hA, hB, T1, T2, j, p, rfl, hR9⟩ := hp9
    refine zz_i2l hx dL_reconnect_8 ?_
    refine zz_perm (pO g (b, c, I, Q, upI P s (Fup (P s) 8 (I 2)), upI T s T2, N) (oC g o9 f9) rest) ?_
    refine zz_last hx 0 rfl dL_reconnect_9 (fun f1 hf1 => ?_)
    refine zz_perm (w' := wS g (b, c, I, Q, upI P s (Fup (P s) 8 (I 2)), upI T s T2, N) (oC g o9 f1 :: rest)) (pO g (b, c, I, Q, upI P s (Fup (P s) 8 (I 2)), upI T s T2, N) (oC g o9 f1) rest).symm ?_
    refine zz_goto hx 21 dL_reconnect_10 rfl ?_
    refine zz_iconst hx dL_reconnect_21 ?_
    exact zz_iret hx hf dL_reconnect_22 ⟨0, rfl, (b, c, I, Q, upI P s (Fup (P s) 8 (I 2)), upI T s T2, N), v9, f1, rfl, fun _ => hf1, Or.inr (Or.inr ⟨rfl, hA, hB, ⟨T1, T2, j, p, rfl, hR9⟩⟩)⟩ (by decide) (by decide)

set_option maxHeartbeats 4000000 in
set_option maxRecDepth 100000 in
theorem w_findOf {l : Launch} {g : zG} {F : Nat → Int} {G : Nat → Int → Int} {Rw : Int → List Int} {b : Nat → Nat} {c : Int → Nat → Nat} {I : Nat → Int} {Q : Nat → Int → Int} {P : Int → Nat → Int} {T : Int → Nat → Int → Int} {N : Nat} {rest : va_W} (hst : l.stackTraces = false) (h : mI F G Rw) (r : RD F G Rw I Q P T N) (hb : N = 0 → b 13 = g.2.2.2.2.2) (o9 : Nat) (f9 : Nat → Int64) (t : Int) (ht : -2147483648 ≤ t ∧ t < 2147483648) (z : Int) (hz : z = 0 ∨ z = 1) : zMw l g yL_findOf cL_findOf 5 (Option.some FieldType.int) [(0, 10, 13, 13)] ({ frames := 8, cells := 1, slots := 6, locals := 127 } : Room) [.ref (b 0), vi t, vi z, .ref o9] (wS g (b, c, I, Q, P, T, N) (oC g o9 f9 :: rest)) (zI fun k9 w9 => ∃ (S' : zS) (v9 : Int) (f1 : Nat → Int64), w9 = wS g S' (oC g o9 f1 :: rest) ∧ (k9 = 0 → f1 0 = (Int32.ofInt v9).toInt64) ∧ zCl (0 ≤ t ∧ t ≤ 3) True (fun u9 S9 => (u9 = -1 ∧ S9 = (b, c, I, Q, P, T, N) ∧ ∀ j : Int, (if z ≠ 0 then 0 else Q 2 t + 1) ≤ j → j < I 0 → Q 0 j ≠ t) ∨ (((if z ≠ 0 then 0 else Q 2 t + 1) ≤ u9 ∧ u9 < I 0) ∧ Q 0 u9 = t ∧ (∀ j : Int, (if z ≠ 0 then 0 else Q 2 t + 1) ≤ j → j < u9 → Q 0 j ≠ t) ∧ mkS b c I Q P T N u9 u9 S9)) (b, c, I, Q, P, T, N) k9 v9 S') 1 6 := by
  refine zMw_of (lv0 := [(0, _), (1, _), (2, _), (3, _)]) hst rfl (by decide +kernel) (Nat.le_of_ble_eq_true rfl) rfl (fun x hx hf ht9 hn => ?_)
  refine zz_aload_n hx dL_findOf_0 rfl ?_
  refine zz_iconst hx dL_findOf_1 ?_
  refine zz_aload_n hx dL_findOf_2 rfl ?_
  refine zz_iload_n hx dL_findOf_3 rfl ?_
  refine zz_iload_n hx dL_findOf_4 rfl ?_
  refine zz_callVi hx me_X3_findOf lk_L_39 (k_X3_findOf hst (RD_aI h r) (RD_aS h r) t ht z hz) 0 rfl rfl ⟨rfl, rfl⟩ (by decide) (by decide) rfl rfl (Nat.le_of_ble_eq_true rfl) dL_findOf_5 (fun E9 w9 hX9 => ?_) (fun v9 w9 hp9 => ?_)
  · obtain ⟨rfl, rfl, hnA⟩ := hX9
    refine zz_catch hx ht9 [] [] 0 10 13 13 rfl (fun z9 hz9 => absurd hz9 List.not_mem_nil) (by decide) (by decide) lc_L_13 (List.mem_of_getElem? (i := 3) rfl) (fun q9 => ?_)
    refine zz_astore (lv' := [(0, _), (1, _), (2, _), (3, _), (4, _)]) hx dL_findOf_13 (by decide) rfl ?_
    refine zz_iconst hx dL_findOf_15 ?_
    exact zz_iret hx hf dL_findOf_16 ⟨1, rfl, (b, c, I, Q, P, T, N), 0, f9, rfl, (fun z9 => absurd z9 (by decide)), Or.inl ⟨rfl, rfl, hnA⟩⟩ (by decide) (by decide)
  · have hp9' : ∃ S' : zS, w9 = wS g S' (oC g o9 f9 :: rest) ∧ ((v9 = -1 ∧ S' = (b, c, I, Q, P, T, N) ∧ ∀ j : Int, (if z ≠ 0 then 0 else Q 2 t + 1) ≤ j → j < I 0 → Q 0 j ≠ t) ∨ (((if z ≠ 0 then 0 else Q 2 t + 1) ≤ v9 ∧ v9 < I 0) ∧ Q 0 v9 = t ∧ (∀ j : Int, (if z ≠ 0 then 0 else Q 2 t + 1) ≤ j → j < v9 → Q 0 j ≠ t) ∧ mkS b c I Q P T N v9 v9 S')) := by
      obtain ⟨hA, ⟨h1, h2, h3⟩ | ⟨h1, h2, h3, h4⟩⟩ := hp9
      · exact ⟨(b, c, I, Q, P, T, N), h2, Or.inl ⟨h1, rfl, h3⟩⟩
      · obtain ⟨S', h5, h6⟩ := mkO_S h4
        exact ⟨S', h5, Or.inr ⟨h1, h2, h3, h6⟩⟩
    have hA := hp9.1
    obtain ⟨S', rfl, hR9⟩ := hp9'
    refine zz_i2l hx dL_findOf_8 ?_
    refine zz_perm (pO g S' (oC g o9 f9) rest) ?_
    refine zz_last hx 0 rfl dL_findOf_9 (fun f1 hf1 => ?_)
    refine zz_perm (w' := wS g S' (oC g o9 f1 :: rest)) (pO g S' (oC g o9 f1) rest).symm ?_
    refine zz_goto hx 17 dL_findOf_10 rfl ?_
    refine zz_iconst hx dL_findOf_17 ?_
    exact zz_iret hx hf dL_findOf_18 ⟨0, rfl, S', v9, f1, rfl, fun _ => hf1, Or.inr (Or.inr ⟨rfl, hA, trivial, hR9⟩)⟩ (by decide) (by decide)

set_option maxHeartbeats 4000000 in
set_option maxRecDepth 100000 in
theorem w_findEnd {l : Launch} {g : zG} {F : Nat → Int} {G : Nat → Int → Int} {Rw : Int → List Int} {b : Nat → Nat} {c : Int → Nat → Nat} {I : Nat → Int} {Q : Nat → Int → Int} {P : Int → Nat → Int} {T : Int → Nat → Int → Int} {N : Nat} {rest : va_W} (hst : l.stackTraces = false) (h : mI F G Rw) (r : RD F G Rw I Q P T N) (hb : N = 0 → b 13 = g.2.2.2.2.2) (o9 : Nat) (f9 : Nat → Int64) (s : Int) (hs : -2147483648 ≤ s ∧ s < 2147483648) (z : Int) (hz : z = 0 ∨ z = 1) : zMw l g yL_findEnd cL_findEnd 5 (Option.some FieldType.int) [(0, 10, 13, 31)] ({ frames := 8, cells := 1, slots := 6, locals := 126 } : Room) [.ref (b 0), vi s, vi z, .ref o9] (wS g (b, c, I, Q, P, T, N) (oC g o9 f9 :: rest)) (zI fun k9 w9 => ∃ (S' : zS) (v9 : Int) (f1 : Nat → Int64), w9 = wS g S' (oC g o9 f1 :: rest) ∧ (k9 = 0 → f1 0 = (Int32.ofInt v9).toInt64) ∧ zCl (0 ≤ s ∧ s < (N : Int)) True (fun u9 S9 => mkS b c I Q P T N (nbC (T s) z (rAt 60 (T s 5) (P s 8))) u9 S9) (b, c, I, Q, P, T, N) k9 v9 S') 1 6 := by
  refine zMw_of (lv0 := [(0, _), (1, _), (2, _), (3, _)]) hst rfl (by decide +kernel) (Nat.le_of_ble_eq_true rfl) rfl (fun x hx hf ht9 hn => ?_)
  refine zz_aload_n hx dL_findEnd_0 rfl ?_
  refine zz_iconst hx dL_findEnd_1 ?_
  refine zz_aload_n hx dL_findEnd_2 rfl ?_
  refine zz_iload_n hx dL_findEnd_3 rfl ?_
  refine zz_iload_n hx dL_findEnd_4 rfl ?_
  refine zz_callVi hx me_X3_findEnd lk_L_43 (k_X3_findEnd hst (RD_aI h r) (RD_aS h r) s hs z hz) 0 rfl rfl ⟨rfl, rfl⟩ (by decide) (by decide) rfl rfl (Nat.le_of_ble_eq_true rfl) dL_findEnd_5 (fun E9 w9 hX9 => ?_) (fun v9 w9 hp9 => ?_)
  · obtain ⟨rfl, rfl, hnA⟩ := hX9
    refine zz_catch hx ht9 [] [] 0 10 13 31 rfl (fun z9 hz9 => absurd hz9 List.not_mem_nil) (by decide) (by decide) lc_L_31 (List.mem_of_getElem? (i := 5) rfl) (fun q9 => ?_)
    refine zz_astore (lv' := [(0, _), (1, _), (2, _), (3, _), (4, _)]) hx dL_findEnd_13 (by decide) rfl ?_
    refine zz_iconst hx dL_findEnd_15 ?_
    exact zz_iret hx hf dL_findEnd_16 ⟨1, rfl, (b, c, I, Q, P, T, N), 0, f9, rfl, (fun z9 => absurd z9 (by decide)), Or.inl ⟨rfl, rfl, hnA⟩⟩ (by decide) (by decide)
  · obtain ⟨hA, hm9⟩ := hp9
    obtain ⟨S', rfl, hk9⟩ := mkO_S hm9
    refine zz_i2l hx dL_findEnd_8 ?_
    refine zz_perm (pO g S' (oC g o9 f9) rest) ?_
    refine zz_last hx 0 rfl dL_findEnd_9 (fun f1 hf1 => ?_)
    refine zz_perm (w' := wS g S' (oC g o9 f1 :: rest)) (pO g S' (oC g o9 f1) rest).symm ?_
    refine zz_goto hx 17 dL_findEnd_10 rfl ?_
    refine zz_iconst hx dL_findEnd_17 ?_
    exact zz_iret hx hf dL_findEnd_18 ⟨0, rfl, S', v9, f1, rfl, fun _ => hf1, Or.inr (Or.inr ⟨rfl, hA, trivial, hk9⟩)⟩ (by decide) (by decide)

set_option maxHeartbeats 4000000 in
set_option maxRecDepth 100000 in
theorem w_findNext {l : Launch} {g : zG} {F : Nat → Int} {G : Nat → Int → Int} {Rw : Int → List Int} {b : Nat → Nat} {c : Int → Nat → Nat} {I : Nat → Int} {Q : Nat → Int → Int} {P : Int → Nat → Int} {T : Int → Nat → Int → Int} {N : Nat} {rest : va_W} (hst : l.stackTraces = false) (h : mI F G Rw) (r : RD F G Rw I Q P T N) (hb : N = 0 → b 13 = g.2.2.2.2.2) (o9 : Nat) (f9 : Nat → Int64) (s : Int) (hs : -2147483648 ≤ s ∧ s < 2147483648) (z : Int) (hz : z = 0 ∨ z = 1) : zMw l g yL_findNext cL_findNext 5 (Option.some FieldType.int) [(0, 10, 13, 31)] ({ frames := 8, cells := 1, slots := 6, locals := 126 } : Room) [.ref (b 0), vi s, vi z, .ref o9] (wS g (b, c, I, Q, P, T, N) (oC g o9 f9 :: rest)) (zI fun k9 w9 => ∃ (S' : zS) (v9 : Int) (f1 : Nat → Int64), w9 = wS g S' (oC g o9 f1 :: rest) ∧ (k9 = 0 → f1 0 = (Int32.ofInt v9).toInt64) ∧ zCl (0 ≤ s ∧ s < (N : Int)) True (fun u9 S9 => mkS b c I Q P T N (nbC (T s) z (P s 8)) u9 S9) (b, c, I, Q, P, T, N) k9 v9 S') 1 6 := by
  refine zMw_of (lv0 := [(0, _), (1, _), (2, _), (3, _)]) hst rfl (by decide +kernel) (Nat.le_of_ble_eq_true rfl) rfl (fun x hx hf ht9 hn => ?_)
  refine zz_aload_n hx dL_findNext_0 rfl ?_
  refine zz_iconst hx dL_findNext_1 ?_
  refine zz_aload_n hx dL_findNext_2 rfl ?_
  refine zz_iload_n hx dL_findNext_3 rfl ?_
  refine zz_iload_n hx dL_findNext_4 rfl ?_
  refine zz_callVi hx me_X3_findNext lk_L_46 (k_X3_findNext hst (RD_aI h r) (RD_aS h r) s hs z hz) 0 rfl rfl ⟨rfl, rfl⟩ (by decide) (by decide) rfl rfl (Nat.le_of_ble_eq_true rfl) dL_findNext_5 (fun E9 w9 hX9 => ?_) (fun v9 w9 hp9 => ?_)
  · obtain ⟨rfl, rfl, hnA⟩ := hX9
    refine zz_catch hx ht9 [] [] 0 10 13 31 rfl (fun z9 hz9 => absurd hz9 List.not_mem_nil) (by decide) (by decide) lc_L_31 (List.mem_of_getElem? (i := 5) rfl) (fun q9 => ?_)
    refine zz_astore (lv' := [(0, _), (1, _), (2, _), (3, _), (4, _)]) hx dL_findNext_13 (by decide) rfl ?_
    refine zz_iconst hx dL_findNext_15 ?_
    exact zz_iret hx hf dL_findNext_16 ⟨1, rfl, (b, c, I, Q, P, T, N), 0, f9, rfl, (fun z9 => absurd z9 (by decide)), Or.inl ⟨rfl, rfl, hnA⟩⟩ (by decide) (by decide)
  · obtain ⟨hA, hm9⟩ := hp9
    obtain ⟨S', rfl, hk9⟩ := mkO_S hm9
    refine zz_i2l hx dL_findNext_8 ?_
    refine zz_perm (pO g S' (oC g o9 f9) rest) ?_
    refine zz_last hx 0 rfl dL_findNext_9 (fun f1 hf1 => ?_)
    refine zz_perm (w' := wS g S' (oC g o9 f1 :: rest)) (pO g S' (oC g o9 f1) rest).symm ?_
    refine zz_goto hx 17 dL_findNext_10 rfl ?_
    refine zz_iconst hx dL_findNext_17 ?_
    exact zz_iret hx hf dL_findNext_18 ⟨0, rfl, S', v9, f1, rfl, fun _ => hf1, Or.inr (Or.inr ⟨rfl, hA, trivial, hk9⟩)⟩ (by decide) (by decide)

set_option maxHeartbeats 4000000 in
set_option maxRecDepth 100000 in
theorem w_findOwner {l : Launch} {g : zG} {F : Nat → Int} {G : Nat → Int → Int} {Rw : Int → List Int} {b : Nat → Nat} {c : Int → Nat → Nat} {I : Nat → Int} {Q : Nat → Int → Int} {P : Int → Nat → Int} {T : Int → Nat → Int → Int} {N : Nat} {rest : va_W} (hst : l.stackTraces = false) (h : mI F G Rw) (r : RD F G Rw I Q P T N) (hb : N = 0 → b 13 = g.2.2.2.2.2) (o9 : Nat) (f9 : Nat → Int64) (s : Int) (hs : -2147483648 ≤ s ∧ s < 2147483648) : zMw l g yL_findOwner cL_findOwner 4 (Option.some FieldType.int) [(0, 9, 12, 31)] ({ frames := 8, cells := 1, slots := 6, locals := 124 } : Room) [.ref (b 0), vi s, .ref o9] (wS g (b, c, I, Q, P, T, N) (oC g o9 f9 :: rest)) (zI fun k9 w9 => ∃ (S' : zS) (v9 : Int) (f1 : Nat → Int64), w9 = wS g S' (oC g o9 f1 :: rest) ∧ (k9 = 0 → f1 0 = (Int32.ofInt v9).toInt64) ∧ zCl (0 ≤ s ∧ s < (N : Int)) True (fun u9 S9 => mkS b c I Q P T N (rAt 60 (T s 5) (P s 8)) u9 S9) (b, c, I, Q, P, T, N) k9 v9 S') 1 6 := by
  refine zMw_of (lv0 := [(0, _), (1, _), (2, _)]) hst rfl (by decide +kernel) (Nat.le_of_ble_eq_true rfl) rfl (fun x hx hf ht9 hn => ?_)
  refine zz_aload_n hx dL_findOwner_0 rfl ?_
  refine zz_iconst hx dL_findOwner_1 ?_
  refine zz_aload_n hx dL_findOwner_2 rfl ?_
  refine zz_iload_n hx dL_findOwner_3 rfl ?_
  refine zz_callVi hx me_X3_findOwner lk_L_49 (k_X3_findOwner hst (RD_aI h r) (RD_aS h r) s hs) 0 rfl rfl ⟨rfl, rfl⟩ (by decide) (by decide) rfl rfl (Nat.le_of_ble_eq_true rfl) dL_findOwner_4 (fun E9 w9 hX9 => ?_) (fun v9 w9 hp9 => ?_)
  · obtain ⟨rfl, rfl, hnA⟩ := hX9
    refine zz_catch hx ht9 [] [] 0 9 12 31 rfl (fun z9 hz9 => absurd hz9 List.not_mem_nil) (by decide) (by decide) lc_L_31 (List.mem_of_getElem? (i := 5) rfl) (fun q9 => ?_)
    refine zz_astore_n (lv' := [(0, _), (1, _), (2, _), (3, _)]) hx dL_findOwner_12 (by decide) rfl ?_
    refine zz_iconst hx dL_findOwner_13 ?_
    exact zz_iret hx hf dL_findOwner_14 ⟨1, rfl, (b, c, I, Q, P, T, N), 0, f9, rfl, (fun z9 => absurd z9 (by decide)), Or.inl ⟨rfl, rfl, hnA⟩⟩ (by decide) (by decide)
  · obtain ⟨hA, hm9⟩ := hp9
    obtain ⟨S', rfl, hk9⟩ := mkO_S hm9
    refine zz_i2l hx dL_findOwner_7 ?_
    refine zz_perm (pO g S' (oC g o9 f9) rest) ?_
    refine zz_last hx 0 rfl dL_findOwner_8 (fun f1 hf1 => ?_)
    refine zz_perm (w' := wS g S' (oC g o9 f1 :: rest)) (pO g S' (oC g o9 f1) rest).symm ?_
    refine zz_goto hx 15 dL_findOwner_9 rfl ?_
    refine zz_iconst hx dL_findOwner_15 ?_
    exact zz_iret hx hf dL_findOwner_16 ⟨0, rfl, S', v9, f1, rfl, fun _ => hf1, Or.inr (Or.inr ⟨rfl, hA, trivial, hk9⟩)⟩ (by decide) (by decide)

set_option maxHeartbeats 4000000 in
set_option maxRecDepth 100000 in
theorem w_findValue {l : Launch} {g : zG} {F : Nat → Int} {G : Nat → Int → Int} {Rw : Int → List Int} {b : Nat → Nat} {c : Int → Nat → Nat} {I : Nat → Int} {Q : Nat → Int → Int} {P : Int → Nat → Int} {T : Int → Nat → Int → Int} {N : Nat} {rest : va_W} (hst : l.stackTraces = false) (h : mI F G Rw) (r : RD F G Rw I Q P T N) (hb : N = 0 → b 13 = g.2.2.2.2.2) (o9 : Nat) (f9 : Nat → Int64) (s : Int) (hs : -2147483648 ≤ s ∧ s < 2147483648) (z : Int) (hz : -2147483648 ≤ z ∧ z < 2147483648) : zMw l g yL_findValue cL_findValue 5 (Option.some FieldType.int) [(0, 10, 13, 31)] ({ frames := 8, cells := 1, slots := 6, locals := 126 } : Room) [.ref (b 0), vi s, vi z, .ref o9] (wS g (b, c, I, Q, P, T, N) (oC g o9 f9 :: rest)) (zI fun k9 w9 => ∃ (S' : zS) (v9 : Int) (f1 : Nat → Int64), w9 = wS g S' (oC g o9 f1 :: rest) ∧ (k9 = 0 → f1 0 = (Int32.ofInt v9).toInt64) ∧ zCl (0 ≤ s ∧ s < (N : Int)) True (fun u9 S9 => ∃ f : Int, (((rAt 60 (T s 5) (P s 8)) = -1 → f = -1) ∧ ((rAt 60 (T s 5) (P s 8)) ≠ -1 → (f = -1 ∧ ∀ k : Int, 0 ≤ k → k < ((mOf (gW G s) (rAt 60 (T s 5) (P s 8)) (Rw s)).length : Int) → Q 1 (zat (mOf (gW G s) (rAt 60 (T s 5) (P s 8)) (Rw s)) k) ≠ z) ∨ ∃ k : Int, 0 ≤ k ∧ k < ((mOf (gW G s) (rAt 60 (T s 5) (P s 8)) (Rw s)).length : Int) ∧ f = zat (mOf (gW G s) (rAt 60 (T s 5) (P s 8)) (Rw s)) k ∧ Q 1 f = z ∧ ∀ j : Int, 0 ≤ j → j < k → Q 1 (zat (mOf (gW G s) (rAt 60 (T s 5) (P s 8)) (Rw s)) j) ≠ z)) ∧ mkS b c I Q P T N f u9 S9) (b, c, I, Q, P, T, N) k9 v9 S') 1 6 := by
  refine zMw_of (lv0 := [(0, _), (1, _), (2, _), (3, _)]) hst rfl (by decide +kernel) (Nat.le_of_ble_eq_true rfl) rfl (fun x hx hf ht9 hn => ?_)
  refine zz_aload_n hx dL_findValue_0 rfl ?_
  refine zz_iconst hx dL_findValue_1 ?_
  refine zz_aload_n hx dL_findValue_2 rfl ?_
  refine zz_iload_n hx dL_findValue_3 rfl ?_
  refine zz_iload_n hx dL_findValue_4 rfl ?_
  refine zz_callVi hx me_X3_findValue lk_L_52 (k_X3_findValue hst (RD_aI h r) (RD_aS h r) s hs z hz) 0 rfl rfl ⟨rfl, rfl⟩ (by decide) (by decide) rfl rfl (Nat.le_of_ble_eq_true rfl) dL_findValue_5 (fun E9 w9 hX9 => ?_) (fun v9 w9 hp9 => ?_)
  · obtain ⟨rfl, rfl, hnA⟩ := hX9
    refine zz_catch hx ht9 [] [] 0 10 13 31 rfl (fun z9 hz9 => absurd hz9 List.not_mem_nil) (by decide) (by decide) lc_L_31 (List.mem_of_getElem? (i := 5) rfl) (fun q9 => ?_)
    refine zz_astore (lv' := [(0, _), (1, _), (2, _), (3, _), (4, _)]) hx dL_findValue_13 (by decide) rfl ?_
    refine zz_iconst hx dL_findValue_15 ?_
    exact zz_iret hx hf dL_findValue_16 ⟨1, rfl, (b, c, I, Q, P, T, N), 0, f9, rfl, (fun z9 => absurd z9 (by decide)), Or.inl ⟨rfl, rfl, hnA⟩⟩ (by decide) (by decide)
  · obtain ⟨hA, fv9, hf9, hm9⟩ := hp9
    obtain ⟨S', rfl, hk9⟩ := mkO_S hm9
    refine zz_i2l hx dL_findValue_8 ?_
    refine zz_perm (pO g S' (oC g o9 f9) rest) ?_
    refine zz_last hx 0 rfl dL_findValue_9 (fun f1 hf1 => ?_)
    refine zz_perm (w' := wS g S' (oC g o9 f1 :: rest)) (pO g S' (oC g o9 f1) rest).symm ?_
    refine zz_goto hx 17 dL_findValue_10 rfl ?_
    refine zz_iconst hx dL_findValue_17 ?_
    exact zz_iret hx hf dL_findValue_18 ⟨0, rfl, S', v9, f1, rfl, fun _ => hf1, Or.inr (Or.inr ⟨rfl, hA, trivial, ⟨fv9, hf9, hk9⟩⟩)⟩ (by decide) (by decide)

set_option maxHeartbeats 4000000 in
set_option maxRecDepth 100000 in
theorem w_currentOf {l : Launch} {g : zG} {F : Nat → Int} {G : Nat → Int → Int} {Rw : Int → List Int} {b : Nat → Nat} {c : Int → Nat → Nat} {I : Nat → Int} {Q : Nat → Int → Int} {P : Int → Nat → Int} {T : Int → Nat → Int → Int} {N : Nat} {rest : va_W} (hst : l.stackTraces = false) (h : mI F G Rw) (r : RD F G Rw I Q P T N) (hb : N = 0 → b 13 = g.2.2.2.2.2) (o9 : Nat) (f9 : Nat → Int64) (t : Int) (ht : -2147483648 ≤ t ∧ t < 2147483648) : zMw l g yL_currentOf cL_currentOf 4 (Option.some FieldType.int) [(0, 9, 12, 13)] ({ frames := 8, cells := 1, slots := 6, locals := 124 } : Room) [.ref (b 0), vi t, .ref o9] (wS g (b, c, I, Q, P, T, N) (oC g o9 f9 :: rest)) (zI fun k9 w9 => ∃ (S' : zS) (v9 : Int) (f1 : Nat → Int64), w9 = wS g S' (oC g o9 f1 :: rest) ∧ (k9 = 0 → f1 0 = (Int32.ofInt v9).toInt64) ∧ zCl (0 ≤ t ∧ t ≤ 3) True (fun u9 S9 => u9 = Q 2 t ∧ S9 = (b, c, I, Q, P, T, N)) (b, c, I, Q, P, T, N) k9 v9 S') 1 6 := by
  refine zMw_of (lv0 := [(0, _), (1, _), (2, _)]) hst rfl (by decide +kernel) (Nat.le_of_ble_eq_true rfl) rfl (fun x hx hf ht9 hn => ?_)
  refine zz_aload_n hx dL_currentOf_0 rfl ?_
  refine zz_iconst hx dL_currentOf_1 ?_
  refine zz_aload_n hx dL_currentOf_2 rfl ?_
  refine zz_iload_n hx dL_currentOf_3 rfl ?_
  refine zz_callVi hx me_X3_currentOf lk_L_55 (k_X3_currentOf hst (RD_aI h r) t ht) 0 rfl rfl ⟨rfl, rfl⟩ (by decide) (by decide) rfl rfl (Nat.le_of_ble_eq_true rfl) dL_currentOf_4 (fun E9 w9 hX9 => ?_) (fun v9 w9 hp9 => ?_)
  · obtain ⟨rfl, rfl, hnA⟩ := hX9
    refine zz_catch hx ht9 [] [] 0 9 12 13 rfl (fun z9 hz9 => absurd hz9 List.not_mem_nil) (by decide) (by decide) lc_L_13 (List.mem_of_getElem? (i := 3) rfl) (fun q9 => ?_)
    refine zz_astore_n (lv' := [(0, _), (1, _), (2, _), (3, _)]) hx dL_currentOf_12 (by decide) rfl ?_
    refine zz_iconst hx dL_currentOf_13 ?_
    exact zz_iret hx hf dL_currentOf_14 ⟨1, rfl, (b, c, I, Q, P, T, N), 0, f9, rfl, (fun z9 => absurd z9 (by decide)), Or.inl ⟨rfl, rfl, hnA⟩⟩ (by decide) (by decide)
  · obtain ⟨hv9, hA, rfl⟩ := hp9
    refine zz_i2l hx dL_currentOf_7 ?_
    refine zz_perm (pO g (b, c, I, Q, P, T, N) (oC g o9 f9) rest) ?_
    refine zz_last hx 0 rfl dL_currentOf_8 (fun f1 hf1 => ?_)
    refine zz_perm (w' := wS g (b, c, I, Q, P, T, N) (oC g o9 f1 :: rest)) (pO g (b, c, I, Q, P, T, N) (oC g o9 f1) rest).symm ?_
    refine zz_goto hx 15 dL_currentOf_9 rfl ?_
    refine zz_iconst hx dL_currentOf_15 ?_
    exact zz_iret hx hf dL_currentOf_16 ⟨0, rfl, (b, c, I, Q, P, T, N), v9, f1, rfl, fun _ => hf1, Or.inr (Or.inr ⟨rfl, hA, trivial, ⟨hv9, rfl⟩⟩)⟩ (by decide) (by decide)

set_option maxHeartbeats 4000000 in
set_option maxRecDepth 100000 in
theorem w_currentIn {l : Launch} {g : zG} {F : Nat → Int} {G : Nat → Int → Int} {Rw : Int → List Int} {b : Nat → Nat} {c : Int → Nat → Nat} {I : Nat → Int} {Q : Nat → Int → Int} {P : Int → Nat → Int} {T : Int → Nat → Int → Int} {N : Nat} {rest : va_W} (hst : l.stackTraces = false) (h : mI F G Rw) (r : RD F G Rw I Q P T N) (hb : N = 0 → b 13 = g.2.2.2.2.2) (o9 : Nat) (f9 : Nat → Int64) (s : Int) (hs : -2147483648 ≤ s ∧ s < 2147483648) : zMw l g yL_currentIn cL_currentIn 4 (Option.some FieldType.int) [(0, 9, 12, 31)] ({ frames := 8, cells := 1, slots := 6, locals := 124 } : Room) [.ref (b 0), vi s, .ref o9] (wS g (b, c, I, Q, P, T, N) (oC g o9 f9 :: rest)) (zI fun k9 w9 => ∃ (S' : zS) (v9 : Int) (f1 : Nat → Int64), w9 = wS g S' (oC g o9 f1 :: rest) ∧ (k9 = 0 → f1 0 = (Int32.ofInt v9).toInt64) ∧ zCl (0 ≤ s ∧ s < (N : Int)) True (fun u9 S9 => u9 = P s 8 ∧ S9 = (b, c, I, Q, P, T, N)) (b, c, I, Q, P, T, N) k9 v9 S') 1 6 := by
  refine zMw_of (lv0 := [(0, _), (1, _), (2, _)]) hst rfl (by decide +kernel) (Nat.le_of_ble_eq_true rfl) rfl (fun x hx hf ht9 hn => ?_)
  refine zz_aload_n hx dL_currentIn_0 rfl ?_
  refine zz_iconst hx dL_currentIn_1 ?_
  refine zz_aload_n hx dL_currentIn_2 rfl ?_
  refine zz_iload_n hx dL_currentIn_3 rfl ?_
  refine zz_callVi hx me_X3_currentIn lk_L_58 (k_X3_currentIn hst (RD_aI h r) (RD_aS h r) s hs) 0 rfl rfl ⟨rfl, rfl⟩ (by decide) (by decide) rfl rfl (Nat.le_of_ble_eq_true rfl) dL_currentIn_4 (fun E9 w9 hX9 => ?_) (fun v9 w9 hp9 => ?_)
  · obtain ⟨rfl, rfl, hnA⟩ := hX9
    refine zz_catch hx ht9 [] [] 0 9 12 31 rfl (fun z9 hz9 => absurd hz9 List.not_mem_nil) (by decide) (by decide) lc_L_31 (List.mem_of_getElem? (i := 5) rfl) (fun q9 => ?_)
    refine zz_astore_n (lv' := [(0, _), (1, _), (2, _), (3, _)]) hx dL_currentIn_12 (by decide) rfl ?_
    refine zz_iconst hx dL_currentIn_13 ?_
    exact zz_iret hx hf dL_currentIn_14 ⟨1, rfl, (b, c, I, Q, P, T, N), 0, f9, rfl, (fun z9 => absurd z9 (by decide)), Or.inl ⟨rfl, rfl, hnA⟩⟩ (by decide) (by decide)
  · obtain ⟨hv9, hA, rfl⟩ := hp9
    refine zz_i2l hx dL_currentIn_7 ?_
    refine zz_perm (pO g (b, c, I, Q, P, T, N) (oC g o9 f9) rest) ?_
    refine zz_last hx 0 rfl dL_currentIn_8 (fun f1 hf1 => ?_)
    refine zz_perm (w' := wS g (b, c, I, Q, P, T, N) (oC g o9 f1 :: rest)) (pO g (b, c, I, Q, P, T, N) (oC g o9 f1) rest).symm ?_
    refine zz_goto hx 15 dL_currentIn_9 rfl ?_
    refine zz_iconst hx dL_currentIn_15 ?_
    exact zz_iret hx hf dL_currentIn_16 ⟨0, rfl, (b, c, I, Q, P, T, N), v9, f1, rfl, fun _ => hf1, Or.inr (Or.inr ⟨rfl, hA, trivial, ⟨hv9, rfl⟩⟩)⟩ (by decide) (by decide)

set_option maxHeartbeats 4000000 in
set_option maxRecDepth 100000 in
theorem w_typeOf {l : Launch} {g : zG} {F : Nat → Int} {G : Nat → Int → Int} {Rw : Int → List Int} {b : Nat → Nat} {c : Int → Nat → Nat} {I : Nat → Int} {Q : Nat → Int → Int} {P : Int → Nat → Int} {T : Int → Nat → Int → Int} {N : Nat} {rest : va_W} (hst : l.stackTraces = false) (h : mI F G Rw) (r : RD F G Rw I Q P T N) (hb : N = 0 → b 13 = g.2.2.2.2.2) (o9 : Nat) (f9 : Nat → Int64) (r9 : Int) (hr9 : -2147483648 ≤ r9 ∧ r9 < 2147483648) : zMw l g yL_typeOf cL_typeOf 4 (Option.some FieldType.int) [(0, 9, 12, 31)] ({ frames := 8, cells := 1, slots := 6, locals := 124 } : Room) [.ref (b 0), vi r9, .ref o9] (wS g (b, c, I, Q, P, T, N) (oC g o9 f9 :: rest)) (zI fun k9 w9 => ∃ (S' : zS) (v9 : Int) (f1 : Nat → Int64), w9 = wS g S' (oC g o9 f1 :: rest) ∧ (k9 = 0 → f1 0 = (Int32.ofInt v9).toInt64) ∧ zCl (rAt 60 (Q 0) r9 ≠ -1) True (fun u9 S9 => u9 = Q 0 r9 ∧ S9 = (b, c, I, Q, P, T, N)) (b, c, I, Q, P, T, N) k9 v9 S') 1 6 := by
  refine zMw_of (lv0 := [(0, _), (1, _), (2, _)]) hst rfl (by decide +kernel) (Nat.le_of_ble_eq_true rfl) rfl (fun x hx hf ht9 hn => ?_)
  refine zz_aload_n hx dL_typeOf_0 rfl ?_
  refine zz_iconst hx dL_typeOf_1 ?_
  refine zz_aload_n hx dL_typeOf_2 rfl ?_
  refine zz_iload_n hx dL_typeOf_3 rfl ?_
  refine zz_callVi hx me_X3_typeOf lk_L_61 (k_X3_typeOf hst (RD_aI h r) r9 hr9) 0 rfl rfl ⟨rfl, rfl⟩ (by decide) (by decide) rfl rfl (Nat.le_of_ble_eq_true rfl) dL_typeOf_4 (fun E9 w9 hX9 => ?_) (fun v9 w9 hp9 => ?_)
  · obtain ⟨rfl, rfl, hnA⟩ := hX9
    refine zz_catch hx ht9 [] [] 0 9 12 31 rfl (fun z9 hz9 => absurd hz9 List.not_mem_nil) (by decide) (by decide) lc_L_31 (List.mem_of_getElem? (i := 5) rfl) (fun q9 => ?_)
    refine zz_astore_n (lv' := [(0, _), (1, _), (2, _), (3, _)]) hx dL_typeOf_12 (by decide) rfl ?_
    refine zz_iconst hx dL_typeOf_13 ?_
    exact zz_iret hx hf dL_typeOf_14 ⟨1, rfl, (b, c, I, Q, P, T, N), 0, f9, rfl, (fun z9 => absurd z9 (by decide)), Or.inl ⟨rfl, rfl, hnA⟩⟩ (by decide) (by decide)
  · obtain ⟨hv9, hA, rfl⟩ := hp9
    refine zz_i2l hx dL_typeOf_7 ?_
    refine zz_perm (pO g (b, c, I, Q, P, T, N) (oC g o9 f9) rest) ?_
    refine zz_last hx 0 rfl dL_typeOf_8 (fun f1 hf1 => ?_)
    refine zz_perm (w' := wS g (b, c, I, Q, P, T, N) (oC g o9 f1 :: rest)) (pO g (b, c, I, Q, P, T, N) (oC g o9 f1) rest).symm ?_
    refine zz_goto hx 15 dL_typeOf_9 rfl ?_
    refine zz_iconst hx dL_typeOf_15 ?_
    exact zz_iret hx hf dL_typeOf_16 ⟨0, rfl, (b, c, I, Q, P, T, N), v9, f1, rfl, fun _ => hf1, Or.inr (Or.inr ⟨rfl, hA, trivial, ⟨hv9, rfl⟩⟩)⟩ (by decide) (by decide)

set_option maxHeartbeats 4000000 in
set_option maxRecDepth 100000 in
theorem w_valueOf {l : Launch} {g : zG} {F : Nat → Int} {G : Nat → Int → Int} {Rw : Int → List Int} {b : Nat → Nat} {c : Int → Nat → Nat} {I : Nat → Int} {Q : Nat → Int → Int} {P : Int → Nat → Int} {T : Int → Nat → Int → Int} {N : Nat} {rest : va_W} (hst : l.stackTraces = false) (h : mI F G Rw) (r : RD F G Rw I Q P T N) (hb : N = 0 → b 13 = g.2.2.2.2.2) (o9 : Nat) (f9 : Nat → Int64) (r9 : Int) (hr9 : -2147483648 ≤ r9 ∧ r9 < 2147483648) : zMw l g yL_valueOf cL_valueOf 4 (Option.some FieldType.int) [(0, 9, 12, 31)] ({ frames := 8, cells := 1, slots := 6, locals := 124 } : Room) [.ref (b 0), vi r9, .ref o9] (wS g (b, c, I, Q, P, T, N) (oC g o9 f9 :: rest)) (zI fun k9 w9 => ∃ (S' : zS) (v9 : Int) (f1 : Nat → Int64), w9 = wS g S' (oC g o9 f1 :: rest) ∧ (k9 = 0 → f1 0 = (Int32.ofInt v9).toInt64) ∧ zCl (rAt 60 (Q 0) r9 ≠ -1) True (fun u9 S9 => u9 = Q 1 r9 ∧ S9 = (b, c, I, Q, P, T, N)) (b, c, I, Q, P, T, N) k9 v9 S') 1 6 := by
  refine zMw_of (lv0 := [(0, _), (1, _), (2, _)]) hst rfl (by decide +kernel) (Nat.le_of_ble_eq_true rfl) rfl (fun x hx hf ht9 hn => ?_)
  refine zz_aload_n hx dL_valueOf_0 rfl ?_
  refine zz_iconst hx dL_valueOf_1 ?_
  refine zz_aload_n hx dL_valueOf_2 rfl ?_
  refine zz_iload_n hx dL_valueOf_3 rfl ?_
  refine zz_callVi hx me_X3_valueOf lk_L_64 (k_X3_valueOf hst (RD_aI h r) r9 hr9) 0 rfl rfl ⟨rfl, rfl⟩ (by decide) (by decide) rfl rfl (Nat.le_of_ble_eq_true rfl) dL_valueOf_4 (fun E9 w9 hX9 => ?_) (fun v9 w9 hp9 => ?_)
  · obtain ⟨rfl, rfl, hnA⟩ := hX9
    refine zz_catch hx ht9 [] [] 0 9 12 31 rfl (fun z9 hz9 => absurd hz9 List.not_mem_nil) (by decide) (by decide) lc_L_31 (List.mem_of_getElem? (i := 5) rfl) (fun q9 => ?_)
    refine zz_astore_n (lv' := [(0, _), (1, _), (2, _), (3, _)]) hx dL_valueOf_12 (by decide) rfl ?_
    refine zz_iconst hx dL_valueOf_13 ?_
    exact zz_iret hx hf dL_valueOf_14 ⟨1, rfl, (b, c, I, Q, P, T, N), 0, f9, rfl, (fun z9 => absurd z9 (by decide)), Or.inl ⟨rfl, rfl, hnA⟩⟩ (by decide) (by decide)
  · obtain ⟨hv9, hA, rfl⟩ := hp9
    refine zz_i2l hx dL_valueOf_7 ?_
    refine zz_perm (pO g (b, c, I, Q, P, T, N) (oC g o9 f9) rest) ?_
    refine zz_last hx 0 rfl dL_valueOf_8 (fun f1 hf1 => ?_)
    refine zz_perm (w' := wS g (b, c, I, Q, P, T, N) (oC g o9 f1 :: rest)) (pO g (b, c, I, Q, P, T, N) (oC g o9 f1) rest).symm ?_
    refine zz_goto hx 15 dL_valueOf_9 rfl ?_
    refine zz_iconst hx dL_valueOf_15 ?_
    exact zz_iret hx hf dL_valueOf_16 ⟨0, rfl, (b, c, I, Q, P, T, N), v9, f1, rfl, fun _ => hf1, Or.inr (Or.inr ⟨rfl, hA, trivial, ⟨hv9, rfl⟩⟩)⟩ (by decide) (by decide)

set_option maxHeartbeats 4000000 in
set_option maxRecDepth 100000 in
theorem w_ownerOf {l : Launch} {g : zG} {F : Nat → Int} {G : Nat → Int → Int} {Rw : Int → List Int} {b : Nat → Nat} {c : Int → Nat → Nat} {I : Nat → Int} {Q : Nat → Int → Int} {P : Int → Nat → Int} {T : Int → Nat → Int → Int} {N : Nat} {rest : va_W} (hst : l.stackTraces = false) (h : mI F G Rw) (r : RD F G Rw I Q P T N) (hb : N = 0 → b 13 = g.2.2.2.2.2) (o9 : Nat) (f9 : Nat → Int64) (r9 : Int) (hr9 : -2147483648 ≤ r9 ∧ r9 < 2147483648) (s : Int) (hs : -2147483648 ≤ s ∧ s < 2147483648) : zMw l g yL_ownerOf cL_ownerOf 5 (Option.some FieldType.int) [(0, 10, 13, 31)] ({ frames := 8, cells := 2, slots := 12, locals := 126 } : Room) [.ref (b 0), vi r9, vi s, .ref o9] (wS g (b, c, I, Q, P, T, N) (oC g o9 f9 :: rest)) (zI fun k9 w9 => ∃ (S' : zS) (v9 : Int) (f1 : Nat → Int64), w9 = wS g S' (oC g o9 f1 :: rest) ∧ (k9 = 0 → f1 0 = (Int32.ofInt v9).toInt64) ∧ zCl ((rAt 60 (Q 0) r9 ≠ -1) ∧ (0 ≤ s ∧ s < (N : Int))) True (fun u9 S9 => u9 = gW G s r9 ∧ S9 = (b, c, I, Q, P, T, N)) (b, c, I, Q, P, T, N) k9 v9 S') 2 12 := by
  refine zMw_of (lv0 := [(0, _), (1, _), (2, _), (3, _)]) hst rfl (by decide +kernel) (Nat.le_of_ble_eq_true rfl) rfl (fun x hx hf ht9 hn => ?_)
  refine zz_aload_n hx dL_ownerOf_0 rfl ?_
  refine zz_iconst hx dL_ownerOf_1 ?_
  refine zz_aload_n hx dL_ownerOf_2 rfl ?_
  refine zz_iload_n hx dL_ownerOf_3 rfl ?_
  refine zz_iload_n hx dL_ownerOf_4 rfl ?_
  refine zz_callVi hx me_X3_ownerOf lk_L_67 (k_X3_ownerOf hst (RD_aI h r) (RD_aS h r) r9 hr9 s hs) 0 rfl rfl ⟨rfl, rfl⟩ (by decide) (by decide) rfl rfl (Nat.le_of_ble_eq_true rfl) dL_ownerOf_5 (fun E9 w9 hX9 => ?_) (fun v9 w9 hp9 => ?_)
  · obtain ⟨rfl, rfl, hnA⟩ := hX9
    refine zz_catch hx ht9 [] [] 0 10 13 31 rfl (fun z9 hz9 => absurd hz9 List.not_mem_nil) (by decide) (by decide) lc_L_31 (List.mem_of_getElem? (i := 5) rfl) (fun q9 => ?_)
    refine zz_astore (lv' := [(0, _), (1, _), (2, _), (3, _), (4, _)]) hx dL_ownerOf_13 (by decide) rfl ?_
    refine zz_iconst hx dL_ownerOf_15 ?_
    exact zz_iret hx hf dL_ownerOf_16 ⟨1, rfl, (b, c, I, Q, P, T, N), 0, f9, rfl, (fun z9 => absurd z9 (by decide)), Or.inl ⟨rfl, rfl, hnA⟩⟩ (by decide) (by decide)
  · obtain ⟨hv9, hA, rfl⟩ := hp9
    refine zz_i2l hx dL_ownerOf_8 ?_
    refine zz_perm (pO g (b, c, I, Q, P, T, N) (oC g o9 f9) rest) ?_
    refine zz_last hx 0 rfl dL_ownerOf_9 (fun f1 hf1 => ?_)
    refine zz_perm (w' := wS g (b, c, I, Q, P, T, N) (oC g o9 f1 :: rest)) (pO g (b, c, I, Q, P, T, N) (oC g o9 f1) rest).symm ?_
    refine zz_goto hx 17 dL_ownerOf_10 rfl ?_
    refine zz_iconst hx dL_ownerOf_17 ?_
    exact zz_iret hx hf dL_ownerOf_18 ⟨0, rfl, (b, c, I, Q, P, T, N), v9, f1, rfl, fun _ => hf1, Or.inr (Or.inr ⟨rfl, hA, trivial, ⟨hv9, rfl⟩⟩)⟩ (by decide) (by decide)

set_option maxHeartbeats 4000000 in
set_option maxRecDepth 100000 in
theorem w_members {l : Launch} {g : zG} {F : Nat → Int} {G : Nat → Int → Int} {Rw : Int → List Int} {b : Nat → Nat} {c : Int → Nat → Nat} {I : Nat → Int} {Q : Nat → Int → Int} {P : Int → Nat → Int} {T : Int → Nat → Int → Int} {N : Nat} {rest : va_W} (hst : l.stackTraces = false) (h : mI F G Rw) (r : RD F G Rw I Q P T N) (hb : N = 0 → b 13 = g.2.2.2.2.2) (o9 : Nat) (f9 : Nat → Int64) (r9 : Int) (hr9 : -2147483648 ≤ r9 ∧ r9 < 2147483648) (s : Int) (hs : -2147483648 ≤ s ∧ s < 2147483648) : zMw l g yL_members cL_members 5 (Option.some FieldType.int) [(0, 10, 13, 31)] ({ frames := 8, cells := 2, slots := 12, locals := 126 } : Room) [.ref (b 0), vi r9, vi s, .ref o9] (wS g (b, c, I, Q, P, T, N) (oC g o9 f9 :: rest)) (zI fun k9 w9 => ∃ (S' : zS) (v9 : Int) (f1 : Nat → Int64), w9 = wS g S' (oC g o9 f1 :: rest) ∧ (k9 = 0 → f1 0 = (Int32.ofInt v9).toInt64) ∧ zCl ((rAt 60 (Q 0) r9 ≠ -1) ∧ (0 ≤ s ∧ s < (N : Int))) True (fun u9 S9 => ((gO F G s r9 ∧ u9 = ((mOf (gW G s) r9 (Rw s)).length : Int)) ∨ (¬ gO F G s r9 ∧ u9 = -1)) ∧ S9 = (b, c, I, Q, P, T, N)) (b, c, I, Q, P, T, N) k9 v9 S') 2 12 := by
  refine zMw_of (lv0 := [(0, _), (1, _), (2, _), (3, _)]) hst rfl (by decide +kernel) (Nat.le_of_ble_eq_true rfl) rfl (fun x hx hf ht9 hn => ?_)
  refine zz_aload_n hx dL_members_0 rfl ?_
  refine zz_iconst hx dL_members_1 ?_
  refine zz_aload_n hx dL_members_2 rfl ?_
  refine zz_iload_n hx dL_members_3 rfl ?_
  refine zz_iload_n hx dL_members_4 rfl ?_
  refine zz_callVi hx me_X3_members lk_L_70 (k_X3_members hst (RD_aI h r) (RD_aS h r) r9 hr9 s hs) 0 rfl rfl ⟨rfl, rfl⟩ (by decide) (by decide) rfl rfl (Nat.le_of_ble_eq_true rfl) dL_members_5 (fun E9 w9 hX9 => ?_) (fun v9 w9 hp9 => ?_)
  · obtain ⟨rfl, rfl, hnA⟩ := hX9
    refine zz_catch hx ht9 [] [] 0 10 13 31 rfl (fun z9 hz9 => absurd hz9 List.not_mem_nil) (by decide) (by decide) lc_L_31 (List.mem_of_getElem? (i := 5) rfl) (fun q9 => ?_)
    refine zz_astore (lv' := [(0, _), (1, _), (2, _), (3, _), (4, _)]) hx dL_members_13 (by decide) rfl ?_
    refine zz_iconst hx dL_members_15 ?_
    exact zz_iret hx hf dL_members_16 ⟨1, rfl, (b, c, I, Q, P, T, N), 0, f9, rfl, (fun z9 => absurd z9 (by decide)), Or.inl ⟨rfl, rfl, hnA⟩⟩ (by decide) (by decide)
  · obtain ⟨hv9, hA, rfl⟩ := hp9
    refine zz_i2l hx dL_members_8 ?_
    refine zz_perm (pO g (b, c, I, Q, P, T, N) (oC g o9 f9) rest) ?_
    refine zz_last hx 0 rfl dL_members_9 (fun f1 hf1 => ?_)
    refine zz_perm (w' := wS g (b, c, I, Q, P, T, N) (oC g o9 f1 :: rest)) (pO g (b, c, I, Q, P, T, N) (oC g o9 f1) rest).symm ?_
    refine zz_goto hx 17 dL_members_10 rfl ?_
    refine zz_iconst hx dL_members_17 ?_
    exact zz_iret hx hf dL_members_18 ⟨0, rfl, (b, c, I, Q, P, T, N), v9, f1, rfl, fun _ => hf1, Or.inr (Or.inr ⟨rfl, hA, trivial, ⟨hv9, rfl⟩⟩)⟩ (by decide) (by decide)

set_option maxHeartbeats 4000000 in
set_option maxRecDepth 100000 in
theorem w_membersByTable {l : Launch} {g : zG} {F : Nat → Int} {G : Nat → Int → Int} {Rw : Int → List Int} {b : Nat → Nat} {c : Int → Nat → Nat} {I : Nat → Int} {Q : Nat → Int → Int} {P : Int → Nat → Int} {T : Int → Nat → Int → Int} {N : Nat} {rest : va_W} (hst : l.stackTraces = false) (h : mI F G Rw) (r : RD F G Rw I Q P T N) (hb : N = 0 → b 13 = g.2.2.2.2.2) (o9 : Nat) (f9 : Nat → Int64) (r9 : Int) (hr9 : -2147483648 ≤ r9 ∧ r9 < 2147483648) (s : Int) (hs : -2147483648 ≤ s ∧ s < 2147483648) : zMw l g yL_membersByTable cL_membersByTable 5 (Option.some FieldType.int) [(0, 10, 13, 31)] ({ frames := 8, cells := 2, slots := 12, locals := 126 } : Room) [.ref (b 0), vi r9, vi s, .ref o9] (wS g (b, c, I, Q, P, T, N) (oC g o9 f9 :: rest)) (zI fun k9 w9 => ∃ (S' : zS) (v9 : Int) (f1 : Nat → Int64), w9 = wS g S' (oC g o9 f1 :: rest) ∧ (k9 = 0 → f1 0 = (Int32.ofInt v9).toInt64) ∧ zCl ((rAt 60 (Q 0) r9 ≠ -1) ∧ (0 ≤ s ∧ s < (N : Int))) True (fun u9 S9 => ((gO F G s r9 ∧ u9 = ((mOf (gW G s) r9 (Rw s)).length : Int)) ∨ (¬ gO F G s r9 ∧ u9 = -1)) ∧ S9 = (b, c, I, Q, P, T, N)) (b, c, I, Q, P, T, N) k9 v9 S') 2 12 := by
  refine zMw_of (lv0 := [(0, _), (1, _), (2, _), (3, _)]) hst rfl (by decide +kernel) (Nat.le_of_ble_eq_true rfl) rfl (fun x hx hf ht9 hn => ?_)
  refine zz_aload_n hx dL_membersByTable_0 rfl ?_
  refine zz_iconst hx dL_membersByTable_1 ?_
  refine zz_aload_n hx dL_membersByTable_2 rfl ?_
  refine zz_iload_n hx dL_membersByTable_3 rfl ?_
  refine zz_iload_n hx dL_membersByTable_4 rfl ?_
  refine zz_callVi hx me_X3_membersByTable lk_L_73 (k_X3_membersByTable hst (RD_aI h r) (RD_aS h r) r9 hr9 s hs) 0 rfl rfl ⟨rfl, rfl⟩ (by decide) (by decide) rfl rfl (Nat.le_of_ble_eq_true rfl) dL_membersByTable_5 (fun E9 w9 hX9 => ?_) (fun v9 w9 hp9 => ?_)
  · obtain ⟨rfl, rfl, hnA⟩ := hX9
    refine zz_catch hx ht9 [] [] 0 10 13 31 rfl (fun z9 hz9 => absurd hz9 List.not_mem_nil) (by decide) (by decide) lc_L_31 (List.mem_of_getElem? (i := 5) rfl) (fun q9 => ?_)
    refine zz_astore (lv' := [(0, _), (1, _), (2, _), (3, _), (4, _)]) hx dL_membersByTable_13 (by decide) rfl ?_
    refine zz_iconst hx dL_membersByTable_15 ?_
    exact zz_iret hx hf dL_membersByTable_16 ⟨1, rfl, (b, c, I, Q, P, T, N), 0, f9, rfl, (fun z9 => absurd z9 (by decide)), Or.inl ⟨rfl, rfl, hnA⟩⟩ (by decide) (by decide)
  · obtain ⟨hv9, hA, rfl⟩ := hp9
    refine zz_i2l hx dL_membersByTable_8 ?_
    refine zz_perm (pO g (b, c, I, Q, P, T, N) (oC g o9 f9) rest) ?_
    refine zz_last hx 0 rfl dL_membersByTable_9 (fun f1 hf1 => ?_)
    refine zz_perm (w' := wS g (b, c, I, Q, P, T, N) (oC g o9 f1 :: rest)) (pO g (b, c, I, Q, P, T, N) (oC g o9 f1) rest).symm ?_
    refine zz_goto hx 17 dL_membersByTable_10 rfl ?_
    refine zz_iconst hx dL_membersByTable_17 ?_
    exact zz_iret hx hf dL_membersByTable_18 ⟨0, rfl, (b, c, I, Q, P, T, N), v9, f1, rfl, fun _ => hf1, Or.inr (Or.inr ⟨rfl, hA, trivial, ⟨hv9, rfl⟩⟩)⟩ (by decide) (by decide)

set_option maxHeartbeats 4000000 in
set_option maxRecDepth 100000 in
theorem w_memberAt {l : Launch} {g : zG} {F : Nat → Int} {G : Nat → Int → Int} {Rw : Int → List Int} {b : Nat → Nat} {c : Int → Nat → Nat} {I : Nat → Int} {Q : Nat → Int → Int} {P : Int → Nat → Int} {T : Int → Nat → Int → Int} {N : Nat} {rest : va_W} (hst : l.stackTraces = false) (h : mI F G Rw) (r : RD F G Rw I Q P T N) (hb : N = 0 → b 13 = g.2.2.2.2.2) (o9 : Nat) (f9 : Nat → Int64) (r9 : Int) (hr9 : -2147483648 ≤ r9 ∧ r9 < 2147483648) (s : Int) (hs : -2147483648 ≤ s ∧ s < 2147483648) (d : Int) (hd : -2147483648 ≤ d ∧ d < 2147483648) : zMw l g yL_memberAt cL_memberAt 6 (Option.some FieldType.int) [(0, 12, 15, 31)] ({ frames := 8, cells := 3, slots := 18, locals := 127 } : Room) [.ref (b 0), vi r9, vi s, vi d, .ref o9] (wS g (b, c, I, Q, P, T, N) (oC g o9 f9 :: rest)) (zI fun k9 w9 => ∃ (S' : zS) (v9 : Int) (f1 : Nat → Int64), w9 = wS g S' (oC g o9 f1 :: rest) ∧ (k9 = 0 → f1 0 = (Int32.ofInt v9).toInt64) ∧ zCl ((rAt 60 (Q 0) r9 ≠ -1) ∧ (0 ≤ s ∧ s < (N : Int)) ∧ gO F G s r9 ∧ 0 ≤ d ∧ d < ((mOf (gW G s) r9 (Rw s)).length : Int)) True (fun u9 S9 => u9 = zat (mOf (gW G s) r9 (Rw s)) d ∧ S9 = (b, c, I, Q, P, T, N)) (b, c, I, Q, P, T, N) k9 v9 S') 3 18 := by
  refine zMw_of (lv0 := [(0, _), (1, _), (2, _), (3, _), (4, _)]) hst rfl (by decide +kernel) (Nat.le_of_ble_eq_true rfl) rfl (fun x hx hf ht9 hn => ?_)
  refine zz_aload hx dL_memberAt_0 rfl ?_
  refine zz_iconst hx dL_memberAt_2 ?_
  refine zz_aload_n hx dL_memberAt_3 rfl ?_
  refine zz_iload_n hx dL_memberAt_4 rfl ?_
  refine zz_iload_n hx dL_memberAt_5 rfl ?_
  refine zz_iload_n hx dL_memberAt_6 rfl ?_
  refine zz_callVi hx me_X3_memberAt lk_L_76 (k_X3_memberAt hst (RD_aI h r) (RD_aS h r) r9 hr9 s hs d hd) 0 rfl rfl ⟨rfl, rfl⟩ (by decide) (by decide) rfl rfl (Nat.le_of_ble_eq_true rfl) dL_memberAt_7 (fun E9 w9 hX9 => ?_) (fun v9 w9 hp9 => ?_)
  · obtain ⟨rfl, rfl, hnA⟩ := hX9
    refine zz_catch hx ht9 [] [] 0 12 15 31 rfl (fun z9 hz9 => absurd hz9 List.not_mem_nil) (by decide) (by decide) lc_L_31 (List.mem_of_getElem? (i := 5) rfl) (fun q9 => ?_)
    refine zz_astore (lv' := [(0, _), (1, _), (2, _), (3, _), (4, _), (5, _)]) hx dL_memberAt_15 (by decide) rfl ?_
    refine zz_iconst hx dL_memberAt_17 ?_
    exact zz_iret hx hf dL_memberAt_18 ⟨1, rfl, (b, c, I, Q, P, T, N), 0, f9, rfl, (fun z9 => absurd z9 (by decide)), Or.inl ⟨rfl, rfl, hnA⟩⟩ (by decide) (by decide)
  · obtain ⟨hv9, hA, rfl⟩ := hp9
    refine zz_i2l hx dL_memberAt_10 ?_
    refine zz_perm (pO g (b, c, I, Q, P, T, N) (oC g o9 f9) rest) ?_
    refine zz_last hx 0 rfl dL_memberAt_11 (fun f1 hf1 => ?_)
    refine zz_perm (w' := wS g (b, c, I, Q, P, T, N) (oC g o9 f1 :: rest)) (pO g (b, c, I, Q, P, T, N) (oC g o9 f1) rest).symm ?_
    refine zz_goto hx 19 dL_memberAt_12 rfl ?_
    refine zz_iconst hx dL_memberAt_19 ?_
    exact zz_iret hx hf dL_memberAt_20 ⟨0, rfl, (b, c, I, Q, P, T, N), v9, f1, rfl, fun _ => hf1, Or.inr (Or.inr ⟨rfl, hA, trivial, ⟨hv9, rfl⟩⟩)⟩ (by decide) (by decide)

set_option maxHeartbeats 4000000 in
set_option maxRecDepth 100000 in
theorem w_wouldErase {l : Launch} {g : zG} {F : Nat → Int} {G : Nat → Int → Int} {Rw : Int → List Int} {b : Nat → Nat} {c : Int → Nat → Nat} {I : Nat → Int} {Q : Nat → Int → Int} {P : Int → Nat → Int} {T : Int → Nat → Int → Int} {N : Nat} {rest : va_W} (hst : l.stackTraces = false) (h : mI F G Rw) (r : RD F G Rw I Q P T N) (hb : N = 0 → b 13 = g.2.2.2.2.2) (o9 : Nat) (f9 : Nat → Int64) (r9 : Int) (hr9 : -2147483648 ≤ r9 ∧ r9 < 2147483648) (y : Int) (hy : -2147483648 ≤ y ∧ y < 2147483648) : zMw l g yL_wouldErase cL_wouldErase 5 (Option.some FieldType.int) [(0, 10, 13, 31), (0, 10, 17, 13)] ({ frames := 8, cells := 2, slots := 12, locals := 136 } : Room) [.ref (b 0), vi r9, vi y, .ref o9] (wS g (b, c, I, Q, P, T, N) (oC g o9 f9 :: rest)) (zI fun k9 w9 => ∃ (S' : zS) (v9 : Int) (f1 : Nat → Int64), w9 = wS g S' (oC g o9 f1 :: rest) ∧ (k9 = 0 → f1 0 = (Int32.ofInt v9).toInt64) ∧ zCl (rAt 60 (Q 0) r9 ≠ -1) (0 ≤ y ∧ y ≤ 2) (fun u9 S9 => (S9 = (b, c, I, Q, P, T, N) ∧ u9 = -1 ∧ y = 0 ∧ ∃ s : Int, 0 ≤ s ∧ s < (N : Int) ∧ (gO F G s r9 ∧ 0 < ((mOf (gW G s) r9 (Rw s)).length : Int))) ∨ ∃ (I1 : Nat → Int) (Q1 : Nat → Int → Int) (D : List Int), S9 = (b, c, I1, Q1, P, T, N) ∧ gOK I1 Q1 D ∧ u9 = (D.length : Int) ∧ aF I I1 Q Q1 ∧ (y = 0 → ∀ s : Int, 0 ≤ s → s < (N : Int) → ¬ (gO F G s r9 ∧ 0 < ((mOf (gW G s) r9 (Rw s)).length : Int))) ∧ gDm P (gW G) (gO F G) Rw N y r9 D) (b, c, I, Q, P, T, N) k9 v9 S') 2 12 := by
  refine zMw_of (lv0 := [(0, _), (1, _), (2, _), (3, _)]) hst rfl (by decide +kernel) (Nat.le_of_ble_eq_true rfl) rfl (fun x hx hf ht9 hn => ?_)
  refine zz_aload_n hx dL_wouldErase_0 rfl ?_
  refine zz_iconst hx dL_wouldErase_1 ?_
  refine zz_aload_n hx dL_wouldErase_2 rfl ?_
  refine zz_iload_n hx dL_wouldErase_3 rfl ?_
  refine zz_iload_n hx dL_wouldErase_4 rfl ?_
  refine zz_callVi hx me_X3_wouldErase lk_L_80 (k_X3_wouldErase hst (RD_aI h r) (RD_aS h r) r9 hr9 y hy) 0 rfl rfl ⟨rfl, rfl⟩ (by decide) (by decide) rfl rfl (Nat.le_of_ble_eq_true rfl) dL_wouldErase_5 (fun E9 w9 hX9 => ?_) (fun v9 w9 hp9 => ?_)
  · obtain ⟨rfl, ⟨rfl, hnA⟩ | ⟨rfl, hA, hnB⟩⟩ := hX9
    · refine zz_catch hx ht9 [] [(0, 10, 17, 13)] 0 10 13 31 rfl (fun z9 hz9 => absurd hz9 List.not_mem_nil) (by decide) (by decide) lc_L_31 (List.mem_of_getElem? (i := 5) rfl) (fun q9 => ?_)
      refine zz_astore (lv' := [(0, _), (1, _), (2, _), (3, _), (4, _)]) hx dL_wouldErase_13 (by decide) rfl ?_
      refine zz_iconst hx dL_wouldErase_15 ?_
      exact zz_iret hx hf dL_wouldErase_16 ⟨1, rfl, (b, c, I, Q, P, T, N), 0, f9, rfl, (fun z9 => absurd z9 (by decide)), Or.inl ⟨rfl, rfl, hnA⟩⟩ (by decide) (by decide)
    · refine zz_catch hx ht9 [(0, 10, 13, 31)] [] 0 10 17 13 rfl (fun z9 hz9 => by rw [List.mem_singleton.mp hz9]; exact ⟨by decide, xI, lc_L_31, zNc_AI hn⟩) (by decide) (by decide) lc_L_13 (List.mem_of_getElem? (i := 3) rfl) (fun q9 => ?_)
      refine zz_astore (lv' := [(0, _), (1, _), (2, _), (3, _), (4, _)]) hx dL_wouldErase_17 (by decide) rfl ?_
      refine zz_iconst hx dL_wouldErase_19 ?_
      exact zz_iret hx hf dL_wouldErase_20 ⟨2, rfl, (b, c, I, Q, P, T, N), 0, f9, rfl, (fun z9 => absurd z9 (by decide)), Or.inr (Or.inl ⟨rfl, rfl, hA, hnB⟩)⟩ (by decide) (by decide)
  · have hp9' : ∃ S' : zS, w9 = wS g S' (oC g o9 f9 :: rest) ∧ ((S' = (b, c, I, Q, P, T, N) ∧ v9 = -1 ∧ y = 0 ∧ ∃ s : Int, 0 ≤ s ∧ s < (N : Int) ∧ (gO F G s r9 ∧ 0 < ((mOf (gW G s) r9 (Rw s)).length : Int))) ∨ ∃ (I1 : Nat → Int) (Q1 : Nat → Int → Int) (D : List Int), S' = (b, c, I1, Q1, P, T, N) ∧ gOK I1 Q1 D ∧ v9 = (D.length : Int) ∧ aF I I1 Q Q1 ∧ (y = 0 → ∀ s : Int, 0 ≤ s → s < (N : Int) → ¬ (gO F G s r9 ∧ 0 < ((mOf (gW G s) r9 (Rw s)).length : Int))) ∧ gDm P (gW G) (gO F G) Rw N y r9 D) := by
      obtain ⟨hA, hB, ⟨h1, h2⟩ | ⟨I1, Q1, D, h1, h2⟩⟩ := hp9
      · exact ⟨(b, c, I, Q, P, T, N), h1, Or.inl ⟨rfl, h2⟩⟩
      · exact ⟨(b, c, I1, Q1, P, T, N), h1, Or.inr ⟨I1, Q1, D, rfl, h2⟩⟩
    have hA := hp9.1
    have hB := hp9.2.1
    obtain ⟨S', rfl, hR9⟩ := hp9'
    refine zz_i2l hx dL_wouldErase_8 ?_
    refine zz_perm (pO g S' (oC g o9 f9) rest) ?_
    refine zz_last hx 0 rfl dL_wouldErase_9 (fun f1 hf1 => ?_)
    refine zz_perm (w' := wS g S' (oC g o9 f1 :: rest)) (pO g S' (oC g o9 f1) rest).symm ?_
    refine zz_goto hx 21 dL_wouldErase_10 rfl ?_
    refine zz_iconst hx dL_wouldErase_21 ?_
    exact zz_iret hx hf dL_wouldErase_22 ⟨0, rfl, S', v9, f1, rfl, fun _ => hf1, Or.inr (Or.inr ⟨rfl, hA, hB, hR9⟩)⟩ (by decide) (by decide)

