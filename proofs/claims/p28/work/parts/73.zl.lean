/-! the law's own frame: longs, the script, handlers, contracts of methods with handlers -/
def vl (x : Int) : Value := .long (Int32.ofInt x).toInt64
def zNcs (U : State) : Prop := va_Nc xS xI U
theorem zNcs_moved {s U : State} (h : s.vm.Alike U.vm) (hN : zNcs s) : zNcs U := hN.moved h
def zTab : zX → List (Nat × Nat × Nat × Nat) → Prop | (_, _, _, _, _, _, _, c, _, _), hh => c.exceptionTable.toList = tableOf hh
def zNc : zX → Prop | (_, _, s, _, _, _, _, _, _, _) => zNcs s
def zNcE (E nm : String) : zX → Prop | (_, _, s, _, _, _, _, _, _, _) => va_Nc E nm s
/-- the law's script: b its cell, L its length, xs its ints -/
def zSc (b L : Nat) (xs : Nat → Int32) : zX → Prop | (_, _, s, _, _, _, _, _, A, _) => va_X b L xs s s.heap ∧ b < s.heap.size ∧ ¬ A b
section ZL
variable {l : Launch} {g : zG} {R : Room} {nL : Nat} {x : zX} {k n : Nat} {w : va_W} {pc : Nat} {lv : List (Nat × Value)} {st : List Value} {own : String} {cc : ByteArray}
theorem zz_sld (hx : zOK l g nL x own cc) {b L : Nat} {xs : Nat → Int32} (hs : zSc b L xs x) (hL : L ≤ 3072) {i : Int} (h0 : 0 ≤ i) (h1 : i < (L : Int)) (d : decode cc pc = .ok (.iaload, 1)) (kk : Z l g R nL x k n w (pc + 1) lv (vi (xs i.toNat).toInt :: st)) : Z l g R nL x k n w pc lv (vi i :: .ref b :: st) := by
  rw [← vi_of] at kk
  obtain ⟨p, e, s, m, args, below, meth, c, A, Q⟩ := x
  obtain ⟨h2, h3, -⟩ := hx
  obtain ⟨s1, s2, s3⟩ := hs
  intro H locs ls hP hD hS h
  refine va_sld h2 h3 s1 s2 s3 hS (vi_in h0 h1 (by omega)) d ?_
  rw [vi_cl h0 (by omega)]
  exact kk H locs ls hP hD hS h
theorem zz_slen (hx : zOK l g nL x own cc) {b L : Nat} {xs : Nat → Int32} (hs : zSc b L xs x) (d : decode cc pc = .ok (.arraylength, 1)) (kk : Z l g R nL x k n w (pc + 1) lv (vi (L : Int) :: st)) : Z l g R nL x k n w pc lv (.ref b :: st) := by
  obtain ⟨p, e, s, m, args, below, meth, c, A, Q⟩ := x
  obtain ⟨h2, h3, -⟩ := hx
  obtain ⟨s1, s2, s3⟩ := hs
  intro H locs ls hP hD hS h
  refine va_slen h2 h3 s1 s2 s3 hS d ?_
  exact kk H locs ls hP hD hS h
theorem zz_catch (hx : zOK l g nL x own cc) {hh : List (Nat × Nat × Nat × Nat)} (ht : zTab x hh) (pre suf : List (Nat × Nat × Nat × Nat)) (a b hd ct : Nat) (hsp : hh = pre ++ (a, b, hd, ct) :: suf) {E nm : String} (hpass : ∀ z ∈ pre, z.2.2.2 ≠ 0 ∧ ∃ nm2 : String, Cond.classLink own z.2.2.2 nm2 ∈ zT ∧ zNcE E nm2 x) (hcov : a ≤ pc ∧ pc < b) (h0 : ct ≠ 0) (hl : Cond.classLink own ct nm ∈ zT) (hc : Cond.castable E nm ∈ zN4) (kk : ∀ q : Nat, Z l g R nL x k n w hd lv [.ref q]) : ZT l g R nL x k n w pc lv st E := by
  obtain ⟨p, e, s, m, args, below, meth, c, A, Q⟩ := x
  obtain ⟨h2, h3, h3', h4, h5, h6, -⟩ := hx
  subst hsp
  intro H locs ls ce q9 hP hD hS h hce hcv hcl
  have ht : c.exceptionTable.toList = tableOf (pre ++ (a, b, hd, ct) :: suf) := ht
  refine vx_catch (name := nm) (E := E) h4 (tableOf pre) ⟨a, b, hd, ct⟩ (tableOf suf) (by rw [ht]; unfold tableOf; rw [List.map_append, List.map_cons]) (fun z hz => ?_) ?_ h0 (h5 _ hl) (va_Nw.use rfl (h6.2.2.1 _ hc)) hce hcv hcl (kk q9 H locs ls hP hD hS h)
  · obtain ⟨q, hq, rfl⟩ := List.mem_map.mp hz
    obtain ⟨z0, nm2, z1, z2⟩ := hpass q hq
    exact Or.inr ⟨z0, nm2, h5 _ z1, z2⟩
  · show (decide (a ≤ pc) && decide (pc < b)) = true
    rw [decide_eq_true hcov.1, decide_eq_true hcov.2]; rfl
end ZL
/-! contracts of methods with handlers -/
def zPw (g : zG) (w0 : va_W) (sz : Nat) (av : List Value) : Array Value → State → Prop := va_Pc av (fun U => (U.heap.size = sz ∧ va_P g.1 zcl w0 U.heap ∧ zE g U ∧ zQ g (va_A w0 sz) U U.heap ∧ va_D (fun _ => True) w0) ∧ zNcs U)
def zMw (l : Launch) (g : zG) (y : MethodName) (cc : ByteArray) (nL : Nat) (ret : Option FieldType) (hh : List (Nat × Nat × Nat × Nat)) (rm : Room) (av : List Value) (w0 : va_W) (Post : Option Value → va_W → Prop) (mc ms : Nat) : Prop :=
  ∀ sz : Nat, vx_Met l y (.codeWith y cc nL ret hh :: zT) rm (zPw g w0 sz av) (zQc g w0 sz Post) (zXc g w0 sz zN) mc ms (va_A w0 sz)
theorem zPw_blind {g : zG} {w0 : va_W} {sz : Nat} {av : List Value} : FrameBlind (zPw g w0 sz av) := by
  intro a U f mk ⟨h0, ⟨h1, h2, h3, h4, h5⟩, h6⟩
  exact ⟨h0, ⟨h1, h2, zE_same (s := U) (U := U.calling f mk a) rfl h3, zQ_moved (s := U) (U := U.calling f mk a) (Vm.Alike.refl U.vm) h4, h5⟩, zNcs_moved (s := U) (U := U.calling f mk a) (Vm.Alike.refl U.vm) h6⟩
theorem zMw_of {l : Launch} {g : zG} {y : MethodName} {cc : ByteArray} {nL : Nat} {ret : Option FieldType} {hh : List (Nat × Nat × Nat × Nat)} {rm : Room} {av : List Value} {w0 : va_W} {Post : Option Value → va_W → Prop} {mc ms : Nat} {own : String} {lv0 : List (Nat × Value)} (hst : l.stackTraces = false) (ho : y.cls = own) (hy : plainName y.cls = true) (hlen : (lg_sl av).length ≤ nL) (hlv : lv_args 0 av = lv0)
    (body : ∀ x : zX, zOK l g nL x own cc → zFin g x w0 Post zN mc ms ret → zTab x hh → zNc x → Z l g rm nL x 0 0 w0 0 lv0 []) : zMw l g y cc nL ret hh rm av w0 Post mc ms := by
  subst ho
  subst hlv
  intro sz
  refine vx_ofWH (cc := cc) (maxL := nL) (ret := ret) (hh := hh) hy rfl ?_
  intro p e s m args below meth c s₁ B hml hv
  obtain ⟨rfl, ⟨hsz, hP, hE, hQ, hD0⟩, hN⟩ := hv
  have hts := atoms_spec (ws := Cond.codeWith y cc nL ret hh :: zT) B.pre
  have htab := vx_table (x := y) B (hts _ List.mem_cons_self)
  subst hsz
  have hA : ∀ q : Nat, s.heap.size ≤ q → va_A w0 s.heap.size q := fun q h => Or.inr h
  have hb := body (p, e, s, m, av.toArray, below, meth, c, va_A w0 s.heap.size, vx_MQ below (zQc g w0 s.heap.size Post) (zXc g w0 s.heap.size zN) av.toArray s mc ms (va_A w0 s.heap.size))
    ⟨B.exec, B.bytes, hml, findClass_of_methodNamed B.named, fun w hw => hts w (List.mem_cons_of_mem _ hw), hE, hQ, B.notSynchronized, hst, hA⟩
    ⟨B.returns, s.heap.size, rfl, rfl⟩ htab hN
  have hl := lv_entry av (n := nL) hlen
  rw [lg_entry_eq]
  exact hb s.heap [] _ hP hD0.self va_S.rf hl
/-- what the tables say of a static method with handlers -/
def zMsX (y : MethodName) (bytes : ByteArray) (maxL : Nat) (ret : Option FieldType) (hh : List (Nat × Nat × Nat × Nat)) (n : Nat) : Prop := Cond.static y ∈ zT ∧ Cond.initialized y.cls ∈ zT ∧ Cond.codeWith y bytes maxL ret hh ∈ zT ∧ (y.cls ≠ "java/lang/invoke/MethodHandle" ∧ y.cls ≠ "java/lang/invoke/VarHandle") ∧ (parseMethodDescriptor y.desc).map (fun d => d.parameters.length) = some n
theorem zz_callW {l : Launch} {g : zG} {R : Room} {nL : Nat} {x : zX} {k n : Nat} {w : va_W} {pc : Nat} {lv : List (Nat × Value)} {st : List Value} {own : String} {cc : ByteArray} {index na : Nat} {y : MethodName} {bytes : ByteArray} {maxL : Nat} {ret : Option FieldType} {hh : List (Nat × Nat × Nat × Nat)} {rm : Room} {As : List Value} {P : Int → va_W → Prop} {mc' ms' : Nat} {st0 : List Value}
    (hx : zOK l g nL x own cc) (hN : zNc x) (hm : zMsX y bytes maxL ret hh na) (hk : Cond.methodLink own index y ∈ zT) (hc : zMw l g y bytes maxL ret hh rm As w (zI P) mc' ms')
    (hrm : rm.cells = mc' ∧ rm.slots = ms') (hR : rm.frames + 1 ≤ R.frames ∧ 8 + (maxL + 11) + rm.locals ≤ R.locals) (hcs : k + mc' ≤ R.cells ∧ n + ms' ≤ R.slots) (hn : As.length = na) (hst : st0 = As.reverse ++ st) (h8 : (st.map fun v => v.category).sum ≤ 8) (d : decode cc pc = .ok (.invokestatic index, 3))
    (kk : ∀ (r : Int) (w1 : va_W), P r w1 → Z l g R nL x (k + mc') (n + ms') w1 (pc + 3) lv (vi r :: st)) : Z l g R nL x k n w pc lv st0 := by
  obtain ⟨p, e, s, m, args, below, meth, c, A, Q⟩ := x
  obtain ⟨h2, h3, h3', h4, h5, h6, h7, h8', h9, hA⟩ := hx
  obtain ⟨m1, m3, m4, m5, m6⟩ := hm
  intro H locs ls hP hD hS h
  have hG : GoodIn zT (va_wsS own index y (.codeWith y bytes maxL ret hh :: zT)) := by
    intro u hu
    have hu2 : u ∈ zT := by
      rcases List.mem_append.mp hu with z | z
      · simp only [List.mem_cons, List.not_mem_nil, or_false] at z
        rcases z with rfl | rfl | rfl
        · exact hk
        · exact m1
        · exact m3
      · rcases List.mem_cons.mp z with rfl | z
        · exact m4
        · exact z
    exact ⟨hu2, good_of_word (List.mem_filter.mp hu2).2⟩
  have cw := vx_cwSW (R := R) (s := s) (args := args) na h5 hG rfl hrm.1 hrm.2 ⟨m5.1, m5.2, m6⟩ hR
  refine zz_after (vx_runSX ⟨h2, h3, h3', h4, h5⟩ (hc H.size) cw ⟨zPw_blind, fun U hU hW => ?_⟩ rfl hn h.1 hst (lv_room h8) d hcs) hD hS h hA (fun v w1 hp => ?_) (fun E w1 hp => hp.elim)
  · obtain ⟨z0, z1⟩ := zz_pre (m := m) (av := As) hP hD hS hA h6 h7 U hU hW
    exact ⟨z0, z1, zNcs_moved hW.alike hN⟩
  · obtain ⟨r, rfl, hp⟩ := hp
    exact kk r w1 hp
theorem mw_L_acts : zMsX yL_acts cL_acts 5 (Option.some FieldType.int) [(0, 71, 72, 32), (0, 71, 78, 34)] 4 := ⟨zT_in 438 (by decide +kernel) rfl, zT_in 21 (by decide +kernel) rfl, zT_in 439 (by decide +kernel) rfl, ⟨by decide +kernel, by decide +kernel⟩, by decide +kernel⟩
theorem mw_L_isThere : zMsX yL_isThere cL_isThere 3 (Option.some FieldType.boolean) [(0, 13, 14, 32)] 2 := ⟨zT_in 665 (by decide +kernel) rfl, zT_in 21 (by decide +kernel) rfl, zT_in 666 (by decide +kernel) rfl, ⟨by decide +kernel, by decide +kernel⟩, by decide +kernel⟩
