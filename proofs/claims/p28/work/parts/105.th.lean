theorem zth_hat {own E : String} {ic : Nat} (h : (vx_atS own ic E ["java/lang/RuntimeException", "java/lang/Exception"]).all (fun w => (goodWord w && decide (w ∈ lw_tbl)) || decide (w ∈ zN4)) = true) {g : zG} {args : Array Value} {s : State} (hT : ∀ w ∈ zT, w.before args s = true) (hE : zE g s) : ∀ w ∈ vx_atS own ic E ["java/lang/RuntimeException", "java/lang/Exception"], w.before args s = true := by
  intro w hw
  have h1 := List.all_eq_true.mp h w hw
  simp only [Bool.or_eq_true, Bool.and_eq_true, decide_eq_true_eq] at h1
  rcases h1 with ⟨h2, h3⟩ | h2
  · exact hT w (List.mem_filter.mpr ⟨h3, h2⟩)
  · refine va_Nw.use ?_ (hE.2.2.1 w h2)
    simp only [zN4, List.mem_cons, List.not_mem_nil, or_false] at h2
    rcases h2 with rfl | rfl | rfl | rfl | rfl | rfl | rfl | rfl | rfl | rfl | rfl | rfl | rfl <;> rfl
def zth_ok (own E : String) (ik ic : Nat) : Bool := (vx_atS own ic E ["java/lang/RuntimeException", "java/lang/Exception"]).all (fun w => ((goodWord w && decide (w ∈ lw_tbl)) || decide (w ∈ zN4)) && vx_ot w) && (Bundle.fit E && decide (Cond.classLink own ik E ∈ zT) && decide (Cond.initialized E ∈ zT))
set_option maxHeartbeats 4000000 in
theorem zth_A : zth_ok RX3 "java/lang/IllegalArgumentException" 51 55 = true := by decide +kernel
set_option maxHeartbeats 4000000 in
theorem zth_S : zth_ok RX3 "java/lang/IllegalStateException" 66 70 = true := by decide +kernel
set_option maxHeartbeats 4000000 in
theorem zth_I : zth_ok RX3 "java/lang/IndexOutOfBoundsException" 178 182 = true := by decide +kernel
theorem zz_throw {l : Launch} {g : zG} {R : Room} {nL : Nat} {x : zX} {k n : Nat} {w w0 : va_W} {pc : Nat} {lv : List (Nat × Value)} {st : List Value} {cc : ByteArray} {Post : Option Value → va_W → Prop} {PX : String → va_W → Prop} {mc ms : Nat} {ret : Option FieldType} (hx : zOK l g nL x RX3 cc) (hf : zFin g x w0 Post PX mc ms ret) (hn : zNT x) {E text : String} {ik is ic : Nat} (hok : zth_ok RX3 E ik ic = true) (hstr : (is, text) ∈ zstr)
    (d0 : decode cc pc = .ok (.new ik, 3)) (d3 : decode cc (pc + 3) = .ok (.dup, 1)) (d4 : decode cc (pc + 4) = .ok (.ldc is, 2)) (d6 : decode cc (pc + 6) = .ok (.invokespecial ic, 3)) (d9 : decode cc (pc + 9) = .ok (.athrow, 1))
    (hR : 6 ≤ R.frames ∧ (st.map fun v => v.category).sum + 82 ≤ R.locals ∧ k + 1 ≤ R.cells ∧ n + 6 ≤ R.slots) (hc : k + 1 ≤ mc ∧ n + 6 ≤ ms) (hp : PX E w) : Z l g R nL x k n w pc lv st := by
  obtain ⟨p, e, s, m, args, below, meth, c, A, Q⟩ := x
  obtain ⟨g1, g2, g3, g4, g5, g6, g7, g8, g9, g10⟩ := hx
  obtain ⟨hr, sz, rfl, rfl⟩ := hf
  have hok1 := List.all_eq_true.mp (Bool.and_eq_true _ _ ▸ hok).1
  have hok2 := (Bool.and_eq_true _ _ ▸ hok).2
  simp only [Bool.and_eq_true, decide_eq_true_eq] at hok2 hok1
  obtain ⟨sa, hsa⟩ := g6.2.1 _ hstr
  have hat := zth_hat (own := RX3) (E := E) (ic := ic) (List.all_eq_true.mpr fun w9 h9 => by simpa using (hok1 w9 h9).1) g5 g6
  intro H locs ls hP hD hS h
  have hcl := g5 _ hok2.1.2
  have hin := g5 _ hok2.2
  refine vx_throwS g1 g2 g9 (own := RX3) (cls := E) (text := text) (names := ["java/lang/RuntimeException", "java/lang/Exception"]) (ik := ik) (is := is) (ic := ic) g4 hok2.1.1 (fun n9 h9 => ?_) hcl hin hsa hat (fun w9 h9 => ?_) g7.1.1 g7.1.2 hS ?_ d0 d3 d4 d6 d9 (fun z hz => (hn z hz).elim) hR.1 hR.2.1 hR.2.2.1 hR.2.2.2 g8 ?_ hS.2.2 hc.1 hc.2
  · simp only [List.mem_cons, List.not_mem_nil, or_false] at h9
    rcases h9 with rfl | rfl <;> decide +kernel
  · rcases List.mem_cons.mp h9 with rfl | h9
    · have := (List.mem_filter.mp hok2.1.2).2
      unfold vx_ot
      rw [this, Bool.or_true]
    · rcases List.mem_cons.mp h9 with rfl | h9
      · have := (List.mem_filter.mp hok2.2).2
        unfold vx_ot
        rw [this, Bool.or_true]
      · exact (hok1 w9 h9).2
  · rw [g3]; exact h.1
  · intro t ha hsz hk
    refine ⟨⟨w, hp, hP.kept (fun k9 q9 h9 => hk _ (hP k9 q9 h9).lt), hD⟩, Nat.le_trans hS.1 hsz, fun q h1 h2 => ?_⟩
    rw [hk q (Nat.lt_of_lt_of_le h1 hS.1)]
    exact hS.2.1 q h1 h2
theorem zth_self (vm : Vm) (c : ClassId) : vm.assignable c c = true := by
  show vm.assignableAux _ c c = true
  unfold Vm.assignableAux
  simp
section ZC
variable {l : Launch} {g : zG} {R : Room} {nL : Nat} {x : zX} {k n : Nat} {w : va_W} {pc : Nat} {lv : List (Nat × Value)} {st : List Value} {own : String} {cc : ByteArray}
theorem zz_null (hx : zOK l g nL x own cc) (d : decode cc pc = .ok (.aconst_null, 1)) (kk : Z l g R nL x k n w (pc + 1) lv (.null :: st)) : Z l g R nL x k n w pc lv st := by
  obtain ⟨p, e, s, m, args, below, meth, c, A, Q⟩ := x
  obtain ⟨h2, h3, -⟩ := hx
  intro H locs ls hP hD hS h
  exact lv_null h2 h3 d (kk H locs ls hP hD hS h)
/-- an element of a row of references, that holds one -/
theorem zz_aald (hx : zOK l g nL x own cc) (q0 : Nat) {a N : Nat} {f : Nat → Option Nat} (he : w[q0]? = some (a, .inl (g.2.2.2.2.1, N, .inr (.inr (.inr (.inr f)))))) (hN : N < 2147483648) {i : Int} (h0 : 0 ≤ i) (h1 : i < (N : Int)) {r : Nat} (hr : f i.toNat = some r) (d : decode cc pc = .ok (.aaload, 1))
    (kk : Z l g R nL x k n w (pc + 1) lv (.ref r :: st)) : Z l g R nL x k n w pc lv (vi i :: .ref a :: st) := by
  obtain ⟨p, e, s, m, args, below, meth, c, A, Q⟩ := x
  obtain ⟨h2, h3, -, h4, h5, h6, -⟩ := hx
  intro H locs ls hP hD hS h
  refine va_aldq (D := g.1) h2 h3 h6.1 hP q0 3 he rfl (vi_in h0 h1 hN) d ?_
  rw [vi_cl h0 (by omega), hr]
  exact kk H locs ls hP hD hS h
/-- a cast to the very class of a cell that the world holds -/
theorem zz_cast (hx : zOK l g nL x own cc) {index ci N : Nat} {C : String} {T : u_T} (hk : Cond.classLink own index C ∈ zT) (hc : zcl[ci]? = some (C, T, N)) (q0 : Nat) {a : Nat} {fs : List Value} (he : w[q0]? = some (a, .inr (ci, fs))) (d : decode cc pc = .ok (.checkcast index, 3))
    (kk : Z l g R nL x k n w (pc + 3) lv (.ref a :: st)) : Z l g R nL x k n w pc lv (.ref a :: st) := by
  obtain ⟨p, e, s, m, args, below, meth, c, A, Q⟩ := x
  obtain ⟨h2, h3, -, h4, h5, h6, -⟩ := hx
  intro H locs ls hP hD hS h
  obtain ⟨r', hr', cellV, g1, g2, g3, -⟩ := hP q0 _ he
  have hcls := (h6.1.1 ci _ hc).2
  refine va_castY h2 h3 (C := C) h4 (h5 _ hk) ?_ ⟨cellV, g1, by rw [g3]; rfl, by rw [g2]; exact hcls.1⟩ d (kk H locs ls hP hD hS h)
  simp [va_Nw, Cond.before, Cond.holds, Cond.value, hcls.1, zth_self]
/-- a private field of a nested class -/
theorem zz_getN (hx : zOK l g nL x own cc) {index ci fk N : Nat} {C : String} {T : u_T} (hl : Cond.fieldLinkNest own index C (T fk).2.1 (T fk).2.2.1 "NetworkDatabase" ∈ zN4) (hfk : fk < N) (hT1 : (T fk).1 = C) (hu : ∀ w ∈ u_ws C T N, w ∈ zT) (hc : zcl[ci]? = some (C, T, N)) (q0 : Nat) {a : Nat} {fs : List Value} (he : w[q0]? = some (a, .inr (ci, fs))) {v : Value} (hv : fs[fk]? = some v) (d : decode cc pc = .ok (.getfield index, 3))
    (kk : Z l g R nL x k n w (pc + 3) lv (v :: st)) : Z l g R nL x k n w pc lv (.ref a :: st) := by
  obtain ⟨p, e, s, m, args, below, meth, c, A, Q⟩ := x
  obtain ⟨h1, h2, -, h4, h5, h6, -⟩ := hx
  intro H locs ls hP hD hS h
  exact va_getN (D := g.1) h1 h2 h5 hu h4 h6.1 hP q0 he hc fk hfk (va_Nw.use rfl (h6.2.2.1 _ hl)) (fun z hz => by rw [← hT1]; exact hz) hv d (kk H locs ls hP hD hS h)
theorem zz_putN (hx : zOK l g nL x own cc) {index ci fk N : Nat} {C : String} {T : u_T} (hlk : Cond.fieldLinkNest own index C (T fk).2.1 (T fk).2.2.1 "NetworkDatabase" ∈ zN4) (hfk : fk < N) (hT1 : (T fk).1 = C) (hu : ∀ w ∈ u_ws C T N, w ∈ zT) (hc : zcl[ci]? = some (C, T, N)) (ty0 : Nat → FieldType) (hty : ∀ k, k < N → parseFieldDescriptor (T k).2.2.1 = some (ty0 k)) (hnm : ∀ a, a < N → ∀ b, b < N → a ≠ b → (T a).2.1 ≠ (T b).2.1) (q0 : Nat) {a : Nat} {fs : List Value} (he : w[q0]? = some (a, .inr (ci, fs))) (hfin : (T fk).2.2.2 = false) (hI : ty0 fk = .int) (hl : fk < fs.length) {v : Int} (d : decode cc pc = .ok (.putfield index, 3))
    {w' : va_W} (hw : w.set q0 (a, .inr (ci, fs.set fk (vi v))) = w') (kk : Z l g R nL x k n w' (pc + 3) lv st) : Z l g R nL x k n w pc lv (vi v :: .ref a :: st) := by
  obtain ⟨p, e, s, m, args, below, meth, c, A, Q⟩ := x
  obtain ⟨h1, h2, -, h4, h5, h6, -⟩ := hx
  subst hw
  intro H locs ls hP hD hS h
  exact va_putN (D := g.1) (v := vi v) (ty := .int) h1 h2 h5 hu ty0 hty hnm h4 h6.1 hP hD hS q0 he hc fk hfk (va_Nw.use rfl (h6.2.2.1 _ hlk)) (fun z hz => by rw [← hT1]; exact hz) hfin (by rw [← hI]; exact hty fk hfk) rfl rfl hl d
    (fun H1 locs1 hP1 hD1 hS1 => kk H1 locs1 ls hP1 hD1 hS1 h)
end ZC
