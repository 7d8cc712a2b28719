/-! making objects -/
theorem zT_dec {w : Cond} (h : (decide (w ∈ lw_tbl) && goodWord w) = true) : w ∈ zT := by
  simp only [Bool.and_eq_true, decide_eq_true_eq] at h
  exact List.mem_filter.mpr h
def zNm : zX → Prop | (_, _, _, _, _, _, meth, _, _, _) => meth.name = "<init>"
theorem zM_ofI {l : Launch} {g : zG} {y : MethodName} {cc : ByteArray} {nL : Nat} {ret : Option FieldType} {rm : Room} {av : List Value} {w0 : va_W} {Post : Option Value → va_W → Prop} {PX : String → va_W → Prop} {mc ms : Nat} {own : String} {lv0 : List (Nat × Value)} (hst : l.stackTraces = false) (ho : y.cls = own) (hi : y.name = "<init>") (hy : plainName y.cls = true) (hlen : (lg_sl av).length ≤ nL) (hlv : lv_args 0 av = lv0)
    (body : ∀ x : zX, zOK l g nL x own cc → zFin g x w0 Post PX mc ms ret → zNT x → zNm x → Z l g rm nL x 0 0 w0 0 lv0 []) : zM l g y cc nL ret rm av w0 Post PX mc ms := by
  subst ho
  subst hlv
  intro sz
  refine vx_ofW (cc := cc) (maxL := nL) (ret := ret) hy rfl ?_
  intro p e s m args below meth c s₁ B hml hnt hv
  obtain ⟨rfl, hsz, hP, hE, hQ, hD0⟩ := hv
  have hts := atoms_spec (ws := Cond.code y cc nL ret :: zT) B.pre
  have hnm : meth.name = "<init>" := by rw [← hi]; exact (name_of_methodNamed B.named B.method).1
  subst hsz
  have hA : ∀ q : Nat, s.heap.size ≤ q → va_A w0 s.heap.size q := fun q h => Or.inr h
  have hb := body (p, e, s, m, av.toArray, below, meth, c, va_A w0 s.heap.size, vx_MQ below (zQc g w0 s.heap.size Post) (zXc g w0 s.heap.size PX) av.toArray s mc ms (va_A w0 s.heap.size))
    ⟨B.exec, B.bytes, hml, findClass_of_methodNamed B.named, fun w hw => hts w (List.mem_cons_of_mem _ hw), hE, hQ, B.notSynchronized, hst, hA⟩
    ⟨B.returns, s.heap.size, rfl, rfl⟩ hnt hnm
  have hl := lv_entry av (n := nL) hlen
  rw [lg_entry_eq]
  exact hb s.heap [] _ hP hD0.self va_S.rf hl
section ZI
variable {l : Launch} {g : zG} {R : Room} {nL : Nat} {x : zX} {k n : Nat} {w : va_W} {pc : Nat} {lv : List (Nat × Value)} {st : List Value} {own : String} {cc : ByteArray}
theorem zz_oinit (hx : zOK l g nL x own cc) {idx : Nat} (hk : Cond.methodLink own idx objectInit ∈ zT) {a : Nat} (d : decode cc pc = .ok (.invokespecial idx, 3)) (hR : 1 ≤ R.frames ∧ (st.map fun v => v.category).sum + 12 ≤ R.locals)
    (kk : Z l g R nL x k n w (pc + 3) lv st) : Z l g R nL x k n w pc lv (.ref a :: st) := by
  obtain ⟨p, e, s, m, args, below, meth, c, A, Q⟩ := x
  obtain ⟨h2, h3, h3', h4, h5, -⟩ := hx
  intro H locs ls hP hD hS h
  refine W.objInit h2 h3 h4 (h5 _ hk) (h5 (.instanceMethod objectInit) (zT_dec (by decide +kernel))) (h5 (.code objectInit ⟨#[0xb1]⟩ 1 none) (zT_dec (by decide +kernel))) rfl (by rw [h3']; exact h.1) rfl d hR.1 (by show 2 * 0 + _ + 12 ≤ _; omega) ?_
  exact W.eq (g2 := F0 m (pc + 3) ls st) rfl (kk H locs ls hP hD hS h)
/-- a call of a constructor -/
theorem zz_callI {index : Nat} {y : MethodName} {bytes : ByteArray} {maxL na : Nat} {rm : Room} {b : Nat} {As : List Value} {P : va_W → Prop} {X' : String → va_W → Prop} {mc' ms' : Nat} {st0 : List Value}
    (hx : zOK l g nL x own cc) (hm : zMi y bytes maxL na) (hk : Cond.methodLink own index y ∈ zT) (hc : zM l g y bytes maxL none rm (.ref b :: As) w (zV P) X' mc' ms')
    (hrm : rm.cells = mc' ∧ rm.slots = ms') (hR : rm.frames + 1 ≤ R.frames ∧ 8 + (maxL + 11) + rm.locals ≤ R.locals) (hcs : k + mc' ≤ R.cells ∧ n + ms' ≤ R.slots) (hn : As.length = na) (hst : st0 = As.reverse ++ .ref b :: st) (h8 : (st.map fun v => v.category).sum ≤ 8) (d : decode cc pc = .ok (.invokespecial index, 3))
    (kx : ∀ (E : String) (w1 : va_W), X' E w1 → ZT l g R nL x (k + mc') (n + ms') w1 pc lv st E)
    (kk : ∀ (w1 : va_W), P w1 → Z l g R nL x (k + mc') (n + ms') w1 (pc + 3) lv st) : Z l g R nL x k n w pc lv st0 := by
  obtain ⟨p, e, s, m, args, below, meth, c, A, Q⟩ := x
  obtain ⟨h2, h3, h3', h4, h5, h6, h7, h8', h9, hA⟩ := hx
  obtain ⟨m1, m3, m4, mi, m5, m6⟩ := hm
  intro H locs ls hP hD hS h
  have cb : CallB R s args own index y bytes maxL none (.code y bytes maxL none :: zT) rm mc' ms' na := callB_of na h5 (zT_good m4) rfl hrm.1 hrm.2 (h5 _ m3) (h5 _ hk) ⟨m5.1, m5.2, m6⟩ hR
  exact zz_after (vx_runI ⟨h2, h3, h3', h4, h5⟩ (hc H.size) ⟨cb, mi, h5 _ m1⟩ ⟨zPc_blind, zz_pre (m := m) hP hD hS hA h6 h7⟩ rfl hn h.1 hst (lv_room h8) d hcs) hD hS h hA (fun v w1 hp => by obtain ⟨rfl, hp⟩ := hp; exact kk w1 hp) kx
/-- .. of a private one of a nested class -/
theorem zz_callIN {index : Nat} {y : MethodName} {bytes : ByteArray} {maxL na : Nat} {rm : Room} {b : Nat} {As : List Value} {P : va_W → Prop} {X' : String → va_W → Prop} {mc' ms' : Nat} {st0 : List Value}
    (hx : zOK l g nL x own cc) (hm : zMi y bytes maxL na) {host : String} (hk : Cond.methodLinkNest own index y host ∈ zN4) (hc : zM l g y bytes maxL none rm (.ref b :: As) w (zV P) X' mc' ms')
    (hrm : rm.cells = mc' ∧ rm.slots = ms') (hR : rm.frames + 1 ≤ R.frames ∧ 8 + (maxL + 11) + rm.locals ≤ R.locals) (hcs : k + mc' ≤ R.cells ∧ n + ms' ≤ R.slots) (hn : As.length = na) (hst : st0 = As.reverse ++ .ref b :: st) (h8 : (st.map fun v => v.category).sum ≤ 8) (d : decode cc pc = .ok (.invokespecial index, 3))
    (kx : ∀ (E : String) (w1 : va_W), X' E w1 → ZT l g R nL x (k + mc') (n + ms') w1 pc lv st E)
    (kk : ∀ (w1 : va_W), P w1 → Z l g R nL x (k + mc') (n + ms') w1 (pc + 3) lv st) : Z l g R nL x k n w pc lv st0 := by
  obtain ⟨p, e, s, m, args, below, meth, c, A, Q⟩ := x
  obtain ⟨h2, h3, h3', h4, h5, h6, h7, h8', h9, hA⟩ := hx
  obtain ⟨m1, m3, m4, mi, m5, m6⟩ := hm
  intro H locs ls hP hD hS h
  have cb : va_CN R s args own index y host bytes maxL none (.code y bytes maxL none :: zT) rm mc' ms' na := va_cnB na h5 (zT_good m4) rfl hrm.1 hrm.2 (h6.2.2.1 _ hk) (h5 _ m3) ⟨m5.1, m5.2, m6⟩ hR
  exact zz_after (vx_runIN ⟨h2, h3, h3', h4, h5⟩ (hc H.size) ⟨cb, mi, h5 _ m1⟩ ⟨zPc_blind, zz_pre (m := m) hP hD hS hA h6 h7⟩ rfl hn h.1 hst (lv_room h8) d hcs) hD hS h hA (fun v w1 hp => by obtain ⟨rfl, hp⟩ := hp; exact kk w1 hp) kx
/-- a new object, whose fields are blank -/
theorem zz_new (hx : zOK l g nL x own cc) {index ci N : Nat} {C : String} {T : u_T} (hk : Cond.classLink own index C ∈ zT) (hinst : Cond.instantiable C N ∈ zT) (hini : Cond.initialized C ∈ zT) (hu : ∀ w ∈ u_ws C T N, w ∈ zT) (hc : zcl[ci]? = some (C, T, N)) (ty : Nat → FieldType) (hty : ∀ k, k < N → parseFieldDescriptor (T k).2.2.1 = some (ty k)) {fs : List Value} (hfs : ∀ j, j < N → defaultValue (ty j) = vp_V fs j) (hR : k + 1 ≤ R.cells ∧ n + N ≤ R.slots) (d : decode cc pc = .ok (.new index, 3))
    (kk : ∀ q : Nat, Z l g R nL x (k + 1) (n + N) (w ++ [(q, .inr (ci, fs))]) (pc + 3) lv (.ref q :: st)) : Z l g R nL x k n w pc lv st := by
  obtain ⟨p, e, s, m, args, below, meth, c, A, Q⟩ := x
  obtain ⟨h2, h3, h3', h4, h5, h6, h7, h8', h9, hA⟩ := hx
  intro H locs ls hP hD hS h
  exact va_new (D := g.1) h2 h3 h5 hu ty hty h4 (h5 _ hk) (h5 _ hinst) (h5 _ hini) h6.1 hP hD hS hA hc hfs hR.1 hR.2 d (fun q H1 hP1 hD1 hS1 => kk q H1 locs ls hP1 hD1 hS1 h)
theorem zz_sameK {tys : List (ClassId × FieldType)} {D : va_G} {cl : List vw_C} {s : State} {cA cB : ClassId} {ty : FieldType} {i : Nat} (h : va_K D cl (tys ++ [(cA, ty)]) s) (hi : tys[i]? = some (cB, ty)) : cA = cB := by
  have h1 := (h.2 tys.length (cA, ty) (by rw [List.getElem?_append_right (Nat.le_refl _), Nat.sub_self]; rfl)).2
  have h2 := (h.2 i (cB, ty) (by rw [List.getElem?_append_left (List.getElem?_eq_some_iff.mp hi).1]; exact hi)).2
  unfold va_RA at h1 h2
  cases ty with
  | object C =>
    obtain ⟨_, _, -, -, -, e1⟩ := h1
    obtain ⟨_, _, -, -, -, e2⟩ := h2
    exact Option.some.inj (e1.symm.trans e2)
  | _ => exact Option.some.inj (h1.symm.trans h2)
/-- a new row of ints -/
theorem zz_newi (hx : zOK l g nL x own cc) {N : Nat} (hN : N < 100000) (hR : k + 1 ≤ R.cells ∧ n + N ≤ R.slots) (d : decode cc pc = .ok (.newarray .int, 2))
    (kk : ∀ q : Nat, Z l g R nL x (k + 1) (n + N) (w ++ [(q, .inl (g.2.1, zar N (fun _ => 0)))]) (pc + 2) lv (.ref q :: st)) : Z l g R nL x k n w pc lv (vi (N : Int) :: st) := by
  obtain ⟨p, e, s, m, args, below, meth, c, A, Q⟩ := x
  obtain ⟨h2, h3, h3', h4, h5, h6, h7, h8', h9, hA⟩ := hx
  intro H locs ls hP hD hS h
  refine va_newa (D := g.1) (a0 := zar N (fun _ => 0)) (N' := N) (ty := .int) h2 h3 (h5 _ (zT_dec (by decide +kernel))) rfl h6.1 hP hD hS hA (fun cA => rfl) ?_ (vi_cl (by omega) (by omega)) ?_ hR.1 hR.2 d (fun q cA H1 hK1 hP1 hD1 hS1 => ?_)
  · rw [← vi_0, vi_lt (by omega) (by omega)]; omega
  · show N * 4 ≤ _; omega
  · have e1 : cA = g.2.1 := zz_sameK (i := 0) hK1 rfl
    subst e1
    exact kk q H1 locs ls hP1 hD1 hS1 h
/-- a new row of references -/
theorem zz_newq (hx : zOK l g nL x own cc) {index N : Nat} (hk : Cond.classLink own index "java/lang/Object" ∈ zT) (hN : N < 100000) (hR : k + 1 ≤ R.cells ∧ n + N ≤ R.slots) (d : decode cc pc = .ok (.anewarray index, 3))
    (kk : ∀ q : Nat, Z l g R nL x (k + 1) (n + N) (w ++ [(q, .inl (g.2.2.2.2.1, N, .inr (.inr (.inr (.inr (fun _ => none))))))]) (pc + 3) lv (.ref q :: st)) : Z l g R nL x k n w pc lv (vi (N : Int) :: st) := by
  obtain ⟨p, e, s, m, args, below, meth, c, A, Q⟩ := x
  obtain ⟨h2, h3, h3', h4, h5, h6, h7, h8', h9, hA⟩ := hx
  intro H locs ls hP hD hS h
  refine va_newq (D := g.1) (N' := N) h2 h3 h4 (h5 _ hk) h6.2.2.2 h6.1 hP hD hS hA ?_ (vi_cl (by omega) (by omega)) (by omega) hR.1 hR.2 d (fun q cA H1 hK1 hP1 hD1 hS1 => ?_)
  · rw [← vi_0, vi_lt (by omega) (by omega)]; omega
  · have e1 : cA = g.2.2.2.2.1 := zz_sameK (i := 3) hK1 rfl
    subst e1
    exact kk q H1 locs ls hP1 hD1 hS1 h
/-- any field that is no final one -/
theorem zz_putv (hx : zOK l g nL x own cc) {index ci fk N : Nat} {C : String} {T : u_T} (hL : zLf own index ci fk C T N) (hc : zcl[ci]? = some (C, T, N)) (ty0 : Nat → FieldType) (hty : ∀ k, k < N → parseFieldDescriptor (T k).2.2.1 = some (ty0 k)) (hnm : ∀ a, a < N → ∀ b, b < N → a ≠ b → (T a).2.1 ≠ (T b).2.1) (q0 : Nat) {a : Nat} {fs : List Value} (he : w[q0]? = some (a, .inr (ci, fs))) (hfin : (T fk).2.2.2 = false) {v : Value} (hn : narrow (ty0 fk) v = v) (hfit : fits (ty0 fk) v = true) (hl : fk < fs.length) (d : decode cc pc = .ok (.putfield index, 3))
    {w' : va_W} (hw : w.set q0 (a, .inr (ci, fs.set fk v)) = w') (kk : Z l g R nL x k n w' (pc + 3) lv st) : Z l g R nL x k n w pc lv (v :: .ref a :: st) := by
  obtain ⟨p, e, s, m, args, below, meth, c, A, Q⟩ := x
  obtain ⟨h1, h2, -, h4, h5, h6, -⟩ := hx
  obtain ⟨f1, f2, f3, f4⟩ := hL
  subst hw
  intro H locs ls hP hD hS h
  exact va_put (D := g.1) (v := v) (ty := ty0 fk) h1 h2 h5 f4 ty0 hty hnm h4 h6.1 hP hD hS q0 he hc fk f1 (h5 _ f2) (fun z hz => by rw [← f3]; exact hz) hfin (hty fk f1) hn hfit hl d
    (fun H1 locs1 hP1 hD1 hS1 => kk H1 locs1 ls hP1 hD1 hS1 h)
/-- a final field, in the constructor -/
theorem zz_putF (hx : zOK l g nL x own cc) (hnm0 : zNm x) {index ci fk N : Nat} {C : String} {T : u_T} (hL : zLf own index ci fk C T N) (hc : zcl[ci]? = some (C, T, N)) (ty0 : Nat → FieldType) (hty : ∀ k, k < N → parseFieldDescriptor (T k).2.2.1 = some (ty0 k)) (hnm : ∀ a, a < N → ∀ b, b < N → a ≠ b → (T a).2.1 ≠ (T b).2.1) (q0 : Nat) {a : Nat} {fs : List Value} (he : w[q0]? = some (a, .inr (ci, fs))) (hfin : (T fk).2.2.2 = true) (hdecl : (T fk).1 = own) {v : Value} (hn : narrow (ty0 fk) v = v) (hfit : fits (ty0 fk) v = true) (hl : fk < fs.length) (d : decode cc pc = .ok (.putfield index, 3))
    {w' : va_W} (hw : w.set q0 (a, .inr (ci, fs.set fk v)) = w') (kk : Z l g R nL x k n w' (pc + 3) lv st) : Z l g R nL x k n w pc lv (v :: .ref a :: st) := by
  obtain ⟨p, e, s, m, args, below, meth, c, A, Q⟩ := x
  obtain ⟨h1, h2, -, h4, h5, h6, -⟩ := hx
  obtain ⟨f1, f2, f3, f4⟩ := hL
  subst hw
  intro H locs ls hP hD hS h
  exact va_putF (D := g.1) (v := v) (ty := ty0 fk) h1 h2 h5 f4 ty0 hty hnm h4 h6.1 hP hD hS q0 he hc fk f1 (h5 _ f2) (fun z hz => by rw [← f3]; exact hz) hfin hnm0 hdecl (hty fk f1) hn hfit hl d
    (fun H1 locs1 hP1 hD1 hS1 => kk H1 locs1 ls hP1 hD1 hS1 h)
/-- the empty row -/
theorem zz_getE (hx : zOK l g nL x own cc) {index : Nat} (hk : Cond.fieldLink own index "java/util/ArrayList" "DEFAULTCAPACITY_EMPTY_ELEMENTDATA" "[Ljava/lang/Object;" ∈ zT) (d : decode cc pc = .ok (.getstatic index, 3))
    (kk : Z l g R nL x k n w (pc + 3) lv (.ref g.2.2.2.2.2 :: st)) : Z l g R nL x k n w pc lv st := by
  obtain ⟨p, e, s, m, args, below, meth, c, A, Q⟩ := x
  obtain ⟨h2, h3, h3', h4, h5, h6, h7, h8', h9, hA⟩ := hx
  intro H locs ls hP hD hS h
  exact va_gets h2 h3 h7.2.1 hS h4 (h5 _ hk) (fun z hz => hz) d (kk H locs ls hP hD hS h)
theorem zz_lenE (hx : zOK l g nL x own cc) (d : decode cc pc = .ok (.arraylength, 1))
    (kk : Z l g R nL x k n w (pc + 1) lv (vi 0 :: st)) : Z l g R nL x k n w pc lv (.ref g.2.2.2.2.2 :: st) := by
  obtain ⟨p, e, s, m, args, below, meth, c, A, Q⟩ := x
  obtain ⟨h2, h3, h3', h4, h5, h6, h7, h8', h9, hA⟩ := hx
  intro H locs ls hP hD hS h
  exact va_tlen h2 h3 h7.2.2 hS (v := Int32.ofInt 0) rfl d (kk H locs ls hP hD hS h)
theorem zz_lenq (hx : zOK l g nL x own cc) (q0 : Nat) {a N : Nat} {f : Nat → Option Nat} (he : w[q0]? = some (a, .inl (g.2.2.2.2.1, N, .inr (.inr (.inr (.inr f)))))) (d : decode cc pc = .ok (.arraylength, 1))
    (kk : Z l g R nL x k n w (pc + 1) lv (vi (N : Int) :: st)) : Z l g R nL x k n w pc lv (.ref a :: st) := by
  obtain ⟨p, e, s, m, args, below, meth, c, A, Q⟩ := x
  obtain ⟨h2, h3, h3', h4, h5, h6, h7, h8', h9, hA⟩ := hx
  intro H locs ls hP hD hS h
  exact va_alen (D := g.1) h2 h3 h6.1 hP q0 3 he rfl (v := Int32.ofInt (N : Int)) rfl d (kk H locs ls hP hD hS h)
theorem zz_acmpeq (hx : zOK l g nL x own cc) {a b : Nat} {off : Int} (tgt : Nat) (d : decode cc pc = .ok (.if_acmp .eq off, 3)) (ht : (pc : Int) + off = (tgt : Int)) (kt : a = b → Z l g R nL x k n w tgt lv st) (kf : a ≠ b → Z l g R nL x k n w (pc + 3) lv st) : Z l g R nL x k n w pc lv (.ref b :: .ref a :: st) := by
  obtain ⟨p, e, s, m, args, below, meth, c, A, Q⟩ := x
  obtain ⟨h2, h3, -⟩ := hx
  intro H locs ls hP hD hS h
  exact lv_acmp_eq h2 h3 (rx := some a) (ry := some b) d ht (fun z => kt (Option.some.inj z) H locs ls hP hD hS h) (fun z => kf (fun y => z (by rw [y])) H locs ls hP hD hS h)
/-- an object stored into a row of Objects -/
theorem zz_aast (hx : zOK l g nL x own cc) (q0 qk : Nat) {a v N ci M : Nat} {f : Nat → Option Nat} {fs : List Value} {C : String} {T : u_T} (he : w[q0]? = some (a, .inl (g.2.2.2.2.1, N, .inr (.inr (.inr (.inr f)))))) (hv : w[qk]? = some (v, .inr (ci, fs))) (hc : zcl[ci]? = some (C, T, M)) (hca : Cond.castable C "java/lang/Object" ∈ zN4) (hN : N < 2147483648) {i : Int} (h0 : 0 ≤ i) (h1 : i < (N : Int)) (d : decode cc pc = .ok (.aastore, 1))
    (kk : Z l g R nL x k n (w.set q0 (a, .inl (g.2.2.2.2.1, N, .inr (.inr (.inr (.inr (va_up f i.toNat (some v)))))))) (pc + 1) lv st) : Z l g R nL x k n w pc lv (.ref v :: vi i :: .ref a :: st) := by
  obtain ⟨p, e, s, m, args, below, meth, c, A, Q⟩ := x
  obtain ⟨h2, h3, h3', h4, h5, h6, h7, h8', h9, hA⟩ := hx
  intro H locs ls hP hD hS h
  refine va_astqO (D := g.1) h2 h3 h6.1 hP hD hS q0 3 qk ci (E := "java/lang/Object") he rfl (h6.2.2.1 _ hca) hv hc (vi_in h0 h1 hN) d (fun H1 locs1 hP1 hD1 hS1 => ?_)
  rw [vi_cl h0 (by omega)] at hP1 hD1
  exact kk H1 locs1 ls hP1 hD1 hS1 h
end ZI
