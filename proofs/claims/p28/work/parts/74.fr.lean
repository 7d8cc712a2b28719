/-! the law's own frame: contracts of methods that catch somewhere below, the script, longs, bits, rows of the law -/
def zJ (P : Int64 → va_W → Prop) : Option Value → va_W → Prop := fun v w => ∃ r : Int64, v = some (.long r) ∧ P r w
/-- a contract of a method without handlers that calls some with handlers -/
def zMn (l : Launch) (g : zG) (y : MethodName) (cc : ByteArray) (nL : Nat) (ret : Option FieldType) (rm : Room) (av : List Value) (w0 : va_W) (Post : Option Value → va_W → Prop) (mc ms : Nat) : Prop :=
  ∀ sz : Nat, vx_Met l y (.code y cc nL ret :: zT) rm (zPw g w0 sz av) (zQc g w0 sz Post) (zXc g w0 sz zN) mc ms (va_A w0 sz)
theorem zMn_of {l : Launch} {g : zG} {y : MethodName} {cc : ByteArray} {nL : Nat} {ret : Option FieldType} {rm : Room} {av : List Value} {w0 : va_W} {Post : Option Value → va_W → Prop} {mc ms : Nat} {own : String} {lv0 : List (Nat × Value)} (hst : l.stackTraces = false) (ho : y.cls = own) (hy : plainName y.cls = true) (hlen : (lg_sl av).length ≤ nL) (hlv : lv_args 0 av = lv0)
    (body : ∀ x : zX, zOK l g nL x own cc → zFin g x w0 Post zN mc ms ret → zNc x → Z l g rm nL x 0 0 w0 0 lv0 []) : zMn l g y cc nL ret rm av w0 Post mc ms := by
  subst ho
  subst hlv
  intro sz
  refine vx_ofW (cc := cc) (maxL := nL) (ret := ret) hy rfl ?_
  intro p e s m args below meth c s₁ B hml hnt hv
  obtain ⟨rfl, ⟨hsz, hP, hE, hQ, hD0⟩, hN⟩ := hv
  have hts := atoms_spec (ws := Cond.code y cc nL ret :: zT) B.pre
  subst hsz
  have hA : ∀ q : Nat, s.heap.size ≤ q → va_A w0 s.heap.size q := fun q h => Or.inr h
  have hb := body (p, e, s, m, av.toArray, below, meth, c, va_A w0 s.heap.size, vx_MQ below (zQc g w0 s.heap.size Post) (zXc g w0 s.heap.size zN) av.toArray s mc ms (va_A w0 s.heap.size))
    ⟨B.exec, B.bytes, hml, findClass_of_methodNamed B.named, fun w hw => hts w (List.mem_cons_of_mem _ hw), hE, hQ, B.notSynchronized, hst, hA⟩
    ⟨B.returns, s.heap.size, rfl, rfl⟩ hN
  have hl := lv_entry av (n := nL) hlen
  rw [lg_entry_eq]
  exact hb s.heap [] _ hP hD0.self va_S.rf hl
/-- a contract of a method that reads the script of L ints xs at the cell b -/
def zPs (g : zG) (bS L : Nat) (xs : Nat → Int32) (w0 : va_W) (sz : Nat) (av : List Value) : Array Value → State → Prop := va_Pc av (fun U => (U.heap.size = sz ∧ va_P g.1 zcl w0 U.heap ∧ zE g U ∧ zQ g (va_A w0 sz) U U.heap ∧ va_D (fun _ => True) w0) ∧ zNcs U ∧ va_X bS L xs U U.heap ∧ bS < U.heap.size ∧ ¬ va_A w0 sz bS)
theorem zPs_blind {g : zG} {bS L : Nat} {xs : Nat → Int32} {w0 : va_W} {sz : Nat} {av : List Value} : FrameBlind (zPs g bS L xs w0 sz av) := by
  intro a U f mk ⟨h0, ⟨h1, h2, h3, h4, h5⟩, h6, h7, h8⟩
  exact ⟨h0, ⟨h1, h2, zE_same (s := U) (U := U.calling f mk a) rfl h3, zQ_moved (s := U) (U := U.calling f mk a) (Vm.Alike.refl U.vm) h4, h5⟩, zNcs_moved (s := U) (U := U.calling f mk a) (Vm.Alike.refl U.vm) h6, va_X.moved (u := U) (U := U.calling f mk a) (Vm.Alike.refl U.vm) h7, h8⟩
def zMs_ (l : Launch) (g : zG) (bS L : Nat) (xs : Nat → Int32) (y : MethodName) (cc : ByteArray) (nL : Nat) (ret : Option FieldType) (rm : Room) (av : List Value) (w0 : va_W) (Post : Option Value → va_W → Prop) (mc ms : Nat) : Prop :=
  ∀ sz : Nat, vx_Met l y (.code y cc nL ret :: zT) rm (zPs g bS L xs w0 sz av) (zQc g w0 sz Post) (zXc g w0 sz zN) mc ms (va_A w0 sz)
theorem zMs_of {l : Launch} {g : zG} {bS L : Nat} {xs : Nat → Int32} {y : MethodName} {cc : ByteArray} {nL : Nat} {ret : Option FieldType} {rm : Room} {av : List Value} {w0 : va_W} {Post : Option Value → va_W → Prop} {mc ms : Nat} {own : String} {lv0 : List (Nat × Value)} (hst : l.stackTraces = false) (ho : y.cls = own) (hy : plainName y.cls = true) (hlen : (lg_sl av).length ≤ nL) (hlv : lv_args 0 av = lv0)
    (body : ∀ x : zX, zOK l g nL x own cc → zFin g x w0 Post zN mc ms ret → zNc x → zSc bS L xs x → Z l g rm nL x 0 0 w0 0 lv0 []) : zMs_ l g bS L xs y cc nL ret rm av w0 Post mc ms := by
  subst ho
  subst hlv
  intro sz
  refine vx_ofW (cc := cc) (maxL := nL) (ret := ret) hy rfl ?_
  intro p e s m args below meth c s₁ B hml hnt hv
  obtain ⟨rfl, ⟨hsz, hP, hE, hQ, hD0⟩, hN, hX, hb9, hA9⟩ := hv
  have hts := atoms_spec (ws := Cond.code y cc nL ret :: zT) B.pre
  subst hsz
  have hA : ∀ q : Nat, s.heap.size ≤ q → va_A w0 s.heap.size q := fun q h => Or.inr h
  have hb := body (p, e, s, m, av.toArray, below, meth, c, va_A w0 s.heap.size, vx_MQ below (zQc g w0 s.heap.size Post) (zXc g w0 s.heap.size zN) av.toArray s mc ms (va_A w0 s.heap.size))
    ⟨B.exec, B.bytes, hml, findClass_of_methodNamed B.named, fun w hw => hts w (List.mem_cons_of_mem _ hw), hE, hQ, B.notSynchronized, hst, hA⟩
    ⟨B.returns, s.heap.size, rfl, rfl⟩ hN ⟨hX, hb9, hA9⟩
  have hl := lv_entry av (n := nL) hlen
  rw [lg_entry_eq]
  exact hb s.heap [] _ hP hD0.self va_S.rf hl
section ZLF
variable {l : Launch} {g : zG} {R : Room} {nL : Nat} {x : zX} {k n : Nat} {w : va_W} {pc : Nat} {lv : List (Nat × Value)} {st : List Value} {own : String} {cc : ByteArray}
theorem zz_callN {index na : Nat} {y : MethodName} {bytes : ByteArray} {maxL : Nat} {ret : Option FieldType} {rm : Room} {As : List Value} {P : Int → va_W → Prop} {mc' ms' : Nat} {st0 : List Value}
    (hx : zOK l g nL x own cc) (hN : zNc x) (hm : zMs y bytes maxL ret na) (hk : Cond.methodLink own index y ∈ zT) (hc : zMn l g y bytes maxL ret rm As w (zI P) mc' ms')
    (hrm : rm.cells = mc' ∧ rm.slots = ms') (hR : rm.frames + 1 ≤ R.frames ∧ 8 + (maxL + 11) + rm.locals ≤ R.locals) (hcs : k + mc' ≤ R.cells ∧ n + ms' ≤ R.slots) (hn : As.length = na) (hst : st0 = As.reverse ++ st) (h8 : (st.map fun v => v.category).sum ≤ 8) (d : decode cc pc = .ok (.invokestatic index, 3))
    (kk : ∀ (r : Int) (w1 : va_W), P r w1 → Z l g R nL x (k + mc') (n + ms') w1 (pc + 3) lv (vi r :: st)) : Z l g R nL x k n w pc lv st0 := by
  obtain ⟨p, e, s, m, args, below, meth, c, A, Q⟩ := x
  obtain ⟨h2, h3, h3', h4, h5, h6, h7, h8', h9, hA⟩ := hx
  obtain ⟨m1, m3, m4, m5, m6⟩ := hm
  intro H locs ls hP hD hS h
  have cb : CallB R s args own index y bytes maxL ret (.code y bytes maxL ret :: zT) rm mc' ms' na := callB_of na h5 (zT_good m4) rfl hrm.1 hrm.2 (h5 _ m3) (h5 _ hk) ⟨m5.1, m5.2, m6⟩ hR
  refine zz_after (vx_runS ⟨h2, h3, h3', h4, h5⟩ (hc H.size) ⟨cb, h5 _ m1⟩ ⟨zPw_blind, fun U hU hW => ?_⟩ rfl hn h.1 hst (lv_room h8) d hcs) hD hS h hA (fun v w1 hp => ?_) (fun E w1 hp => hp.elim)
  · obtain ⟨z0, z1⟩ := zz_pre (m := m) (av := As) hP hD hS hA h6 h7 U hU hW
    exact ⟨z0, z1, zNcs_moved hW.alike hN⟩
  · obtain ⟨r, rfl, hp⟩ := hp
    exact kk r w1 hp
theorem zz_callP {index na : Nat} {bS L : Nat} {xs : Nat → Int32} {y : MethodName} {bytes : ByteArray} {maxL : Nat} {ret : Option FieldType} {rm : Room} {As : List Value} {P : Int → va_W → Prop} {mc' ms' : Nat} {st0 : List Value}
    (hx : zOK l g nL x own cc) (hN : zNc x) (hsc : zSc bS L xs x) (hm : zMs y bytes maxL ret na) (hk : Cond.methodLink own index y ∈ zT) (hc : zMs_ l g bS L xs y bytes maxL ret rm As w (zI P) mc' ms')
    (hrm : rm.cells = mc' ∧ rm.slots = ms') (hR : rm.frames + 1 ≤ R.frames ∧ 8 + (maxL + 11) + rm.locals ≤ R.locals) (hcs : k + mc' ≤ R.cells ∧ n + ms' ≤ R.slots) (hn : As.length = na) (hst : st0 = As.reverse ++ st) (h8 : (st.map fun v => v.category).sum ≤ 8) (d : decode cc pc = .ok (.invokestatic index, 3))
    (kk : ∀ (r : Int) (w1 : va_W), P r w1 → Z l g R nL x (k + mc') (n + ms') w1 (pc + 3) lv (vi r :: st)) : Z l g R nL x k n w pc lv st0 := by
  obtain ⟨p, e, s, m, args, below, meth, c, A, Q⟩ := x
  obtain ⟨h2, h3, h3', h4, h5, h6, h7, h8', h9, hA⟩ := hx
  obtain ⟨m1, m3, m4, m5, m6⟩ := hm
  obtain ⟨s1, s2, s3⟩ := hsc
  intro H locs ls hP hD hS h
  have cb : CallB R s args own index y bytes maxL ret (.code y bytes maxL ret :: zT) rm mc' ms' na := callB_of na h5 (zT_good m4) rfl hrm.1 hrm.2 (h5 _ m3) (h5 _ hk) ⟨m5.1, m5.2, m6⟩ hR
  refine zz_after (vx_runS ⟨h2, h3, h3', h4, h5⟩ (hc H.size) ⟨cb, h5 _ m1⟩ ⟨zPs_blind, fun U hU hW => ?_⟩ rfl hn h.1 hst (lv_room h8) d hcs) hD hS h hA (fun v w1 hp => ?_) (fun E w1 hp => hp.elim)
  · obtain ⟨z0, z1⟩ := zz_pre (m := m) (av := As) hP hD hS hA h6 h7 U hU hW
    refine ⟨z0, z1, zNcs_moved hW.alike hN, va_X.moved hW.alike (va_X.kept s1 (by rw [hU]; exact hS.2.1 _ s2 s3)), by rw [hU]; exact Nat.lt_of_lt_of_le s2 hS.1, ?_⟩
    rintro (⟨j, e9, hj⟩ | hj)
    · exact s3 (hD.2 j (bS, e9) hj)
    · have := hS.1
      omega
  · obtain ⟨r, rfl, hp⟩ := hp
    exact kk r w1 hp
theorem zz_callSl {index na : Nat} {y : MethodName} {bytes : ByteArray} {maxL : Nat} {ret : Option FieldType} {rm : Room} {As : List Value} {P : Int64 → va_W → Prop} {X' : String → va_W → Prop} {mc' ms' : Nat} {st0 : List Value}
    (hx : zOK l g nL x own cc) (hm : zMs y bytes maxL ret na) (hk : Cond.methodLink own index y ∈ zT) (hc : zM l g y bytes maxL ret rm As w (zJ P) X' mc' ms')
    (hrm : rm.cells = mc' ∧ rm.slots = ms') (hR : rm.frames + 1 ≤ R.frames ∧ 8 + (maxL + 11) + rm.locals ≤ R.locals) (hcs : k + mc' ≤ R.cells ∧ n + ms' ≤ R.slots) (hn : As.length = na) (hst : st0 = As.reverse ++ st) (h8 : (st.map fun v => v.category).sum ≤ 8) (d : decode cc pc = .ok (.invokestatic index, 3))
    (kx : ∀ (E : String) (w1 : va_W), X' E w1 → ZT l g R nL x (k + mc') (n + ms') w1 pc lv st E)
    (kk : ∀ (r : Int64) (w1 : va_W), P r w1 → Z l g R nL x (k + mc') (n + ms') w1 (pc + 3) lv (.long r :: st)) : Z l g R nL x k n w pc lv st0 :=
  zz_callS hx hm hk hc hrm hR hcs hn hst h8 d kx (fun v w1 hp => by obtain ⟨r, rfl, hp⟩ := hp; exact kk r w1 hp)
theorem zz_lret {w0 : va_W} {Post : Option Value → va_W → Prop} {PX : String → va_W → Prop} {mc ms : Nat} (hx : zOK l g nL x own cc) (hf : zFin g x w0 Post PX mc ms (some .long)) (d : decode cc pc = .ok (.lreturn, 1)) {a : Int64} (hp : Post (some (.long a)) w) (h1 : k ≤ mc) (h2 : n ≤ ms) : Z l g R nL x k n w pc lv [.long a] := by
  refine zz_widen h1 h2 ?_
  obtain ⟨p, e, s, m, args, below, meth, c, A, Q⟩ := x
  obtain ⟨h2, h3, -, h4, h5, h6, h7, h8, -⟩ := hx
  obtain ⟨hr, sz, rfl, rfl⟩ := hf
  intro H locs ls hP hD hS h
  exact vx_ret (W.lret h2 h3 hr (fun t ht _ => ⟨⟨_, w, rfl, hp, by rw [ht]; exact hP, hD⟩, hS.F ht⟩) hS.2.2 d h8)
theorem zz_lconst (hx : zOK l g nL x own cc) {i : Fin 2} {v : Int64} (d : decode cc pc = .ok (.lconst i, 1)) (hv : Int64.ofNat (i : Nat) = v) (kk : Z l g R nL x k n w (pc + 1) lv (.long v :: st)) : Z l g R nL x k n w pc lv st := by
  obtain ⟨p, e, s, m, args, below, meth, c, A, Q⟩ := x
  exact fun H locs ls hP hD hS h => lv_lconst hx.1 hx.2.1 d hv (kk H locs ls hP hD hS h)
theorem zz_lload (hx : zOK l g nL x own cc) {i : Nat} {a : Int64} (d : decode cc pc = .ok (.lload i, 2)) (hl : zget lv i = some (.long a)) (kk : Z l g R nL x k n w (pc + 2) lv (.long a :: st)) : Z l g R nL x k n w pc lv st := by
  obtain ⟨p, e, s, m, args, below, meth, c, A, Q⟩ := x
  exact fun H locs ls hP hD hS h => lv_lload hx.1 hx.2.1 d (h.2.2 _ (zget_mem hl)) (kk H locs ls hP hD hS h)
def zsetl (lv : List (Nat × Value)) (i : Nat) (v : Value) : List (Nat × Value) := zins (lv.filter (fun q => !(q.1 == i) && (!(q.1 == i + 1) && !(q.1 + 1 == i && q.2.category == 2)))) i v
theorem zz_lstore (hx : zOK l g nL x own cc) {i : Nat} {a : Int64} {lv' : List (Nat × Value)} (d : decode cc pc = .ok (.lstore i, 2)) (hi : i + 1 < nL) (hl : zsetl lv i (.long a) = lv') (kk : Z l g R nL x k n w (pc + 2) lv' st) : Z l g R nL x k n w pc lv (.long a :: st) := by
  subst hl
  obtain ⟨p, e, s, m, args, below, meth, c, A, Q⟩ := x
  exact fun H locs ls hP hD hS h => lv_lstore hx.1 hx.2.1 d h hi rfl (fun ls' h' => kk H locs ls' hP hD hS ⟨h'.1, h'.2.1, fun q hq => h'.2.2 q (zins_mem hq)⟩)
theorem zz_lcmp (hx : zOK l g nL x own cc) {y z : Int64} (d : decode cc pc = .ok (.lcmp, 1)) (kk : ∀ t : Int, -1 ≤ t ∧ t ≤ 1 → (t = 0 ↔ y = z) → Z l g R nL x k n w (pc + 1) lv (vi t :: st)) : Z l g R nL x k n w pc lv (.long z :: .long y :: st) := by
  obtain ⟨p, e, s, m, args, below, meth, c, A, Q⟩ := x
  obtain ⟨h2, h3, -⟩ := hx
  intro H locs ls hP hD hS h
  refine W.lcmp h2 h3 d ?_
  by_cases c1 : y > z
  · have e0 : lg_cmp y z = Int32.ofInt 1 := if_pos c1
    rw [e0]
    exact kk 1 (by decide) ⟨fun q => absurd q (by decide), fun q => absurd c1 (by rw [q]; simp)⟩ H locs ls hP hD hS h
  · by_cases c2 : y = z
    · have e0 : lg_cmp y z = Int32.ofInt 0 := by
        unfold lg_cmp
        rw [if_neg c1, if_pos c2]; rfl
      rw [e0]
      exact kk 0 (by decide) ⟨fun _ => c2, fun _ => rfl⟩ H locs ls hP hD hS h
    · have e0 : lg_cmp y z = Int32.ofInt (-1) := by
        unfold lg_cmp
        rw [if_neg c1, if_neg c2]; rfl
      rw [e0]
      exact kk (-1) (by decide) ⟨fun q => absurd q (by decide), fun q => absurd q c2⟩ H locs ls hP hD hS h
theorem zz_land (hx : zOK l g nL x own cc) {y z : Int64} (d : decode cc pc = .ok (.land, 1)) (kk : Z l g R nL x k n w (pc + 1) lv (.long (y &&& z) :: st)) : Z l g R nL x k n w pc lv (.long z :: .long y :: st) := by
  obtain ⟨p, e, s, m, args, below, meth, c, A, Q⟩ := x
  exact fun H locs ls hP hD hS h => lv_land hx.1 hx.2.1 d (kk H locs ls hP hD hS h)
theorem zz_lor (hx : zOK l g nL x own cc) {y z : Int64} (d : decode cc pc = .ok (.lor, 1)) (kk : Z l g R nL x k n w (pc + 1) lv (.long (y ||| z) :: st)) : Z l g R nL x k n w pc lv (.long z :: .long y :: st) := by
  obtain ⟨p, e, s, m, args, below, meth, c, A, Q⟩ := x
  exact fun H locs ls hP hD hS h => lv_lor hx.1 hx.2.1 d (kk H locs ls hP hD hS h)
theorem zz_lshl (hx : zOK l g nL x own cc) {y : Int64} {a : Int} (d : decode cc pc = .ok (.lshl, 1)) (kk : Z l g R nL x k n w (pc + 1) lv (.long (y <<< ((Int32.ofInt a).toInt64 &&& 63)) :: st)) : Z l g R nL x k n w pc lv (vi a :: .long y :: st) := by
  obtain ⟨p, e, s, m, args, below, meth, c, A, Q⟩ := x
  exact fun H locs ls hP hD hS h => lv_lshl hx.1 hx.2.1 d rfl (kk H locs ls hP hD hS h)
theorem zz_lshr (hx : zOK l g nL x own cc) {y : Int64} {a : Int} (d : decode cc pc = .ok (.lshr, 1)) (kk : Z l g R nL x k n w (pc + 1) lv (.long (y >>> ((Int32.ofInt a).toInt64 &&& 63)) :: st)) : Z l g R nL x k n w pc lv (vi a :: .long y :: st) := by
  obtain ⟨p, e, s, m, args, below, meth, c, A, Q⟩ := x
  exact fun H locs ls hP hD hS h => lv_lshr hx.1 hx.2.1 d rfl (kk H locs ls hP hD hS h)
theorem zz_ldc (hx : zOK l g nL x own cc) {i : Nat} {v : Int32} (a : Int) (hw : Cond.constant own i v ∈ zT) (hv : v = Int32.ofInt a) (d : decode cc pc = .ok (.ldc i, 2)) (kk : Z l g R nL x k n w (pc + 2) lv (vi a :: st)) : Z l g R nL x k n w pc lv st := by
  subst hv
  obtain ⟨p, e, s, m, args, below, meth, c, A, Q⟩ := x
  obtain ⟨h2, h3, -, h4, h5, -⟩ := hx
  exact fun H locs ls hP hD hS h => lv_ldc h2 h3 h4 (h5 _ hw) d (kk H locs ls hP hD hS h)
/-- cells that nobody needs any more -/
theorem zz_less {w' : va_W} (h : w'.Sublist w) (kk : Z l g R nL x k n w' pc lv st) : Z l g R nL x k n w pc lv st := by
  obtain ⟨p, e, s, m, args, below, meth, c, A, Q⟩ := x
  intro H locs ls hP hD hS hl
  refine kk H locs ls (fun i q hi => ?_) ?_ hS hl
  · obtain ⟨j, hj⟩ := List.getElem?_of_mem (h.subset (List.mem_of_getElem? hi))
    exact hP j q hj
  · rw [va_D_iff] at hD ⊢
    exact ⟨(h.map _).nodup hD.1, fun q hq => hD.2 q (h.subset hq)⟩
end ZLF
/-! bits of ints -/
theorem i_small {a : Int} (h0 : 0 ≤ a) (h1 : a < 2147483648) : (Int32.ofInt a).toBitVec = BitVec.ofNat 32 a.toNat := by
  obtain ⟨m, rfl⟩ := Int.eq_ofNat_of_zero_le h0
  rfl
theorem i_and7 {a : Int} (h0 : 0 ≤ a) (h1 : a < 2147483648) : Int32.ofInt a &&& Int32.ofInt 7 = Int32.ofInt (a % 8) := by
  apply Int32.toBitVec_inj.mp
  rw [Int32.toBitVec_and, i_small h0 h1, i_small (by omega) (by omega), i_small (by omega) (by omega)]
  apply BitVec.eq_of_toNat_eq
  rw [BitVec.toNat_and, BitVec.toNat_ofNat, BitVec.toNat_ofNat, BitVec.toNat_ofNat, show (7 : Int).toNat % 2 ^ 32 = 2 ^ 3 - 1 from rfl, Nat.and_two_pow_sub_one_eq_mod, Nat.mod_eq_of_lt (show a.toNat < 2 ^ 32 by omega), Nat.mod_eq_of_lt (show (a % 8).toNat < 2 ^ 32 by omega)]
  omega
theorem i_andm (a : Int) : ∃ t : Int, 0 ≤ t ∧ t < 2147483648 ∧ Int32.ofInt a &&& Int32.ofInt 2147483647 = Int32.ofInt t := by
  refine ⟨((Int32.ofInt a).toBitVec.toNat % 2147483648 : Nat), by omega, by omega, ?_⟩
  apply Int32.toBitVec_inj.mp
  rw [Int32.toBitVec_and, i_small (a := 2147483647) (by omega) (by omega), i_small (a := (((Int32.ofInt a).toBitVec.toNat % 2147483648 : Nat) : Int)) (by omega) (by omega)]
  apply BitVec.eq_of_toNat_eq
  rw [BitVec.toNat_and, BitVec.toNat_ofNat, BitVec.toNat_ofNat, show (2147483647 : Int).toNat % 2 ^ 32 = 2 ^ 31 - 1 from rfl, Nat.and_two_pow_sub_one_eq_mod, Int.toNat_natCast]
  omega
theorem i_shr3 {a : Int} (h0 : 0 ≤ a) (h1 : a < 2147483648) : Int32.ofInt a >>> (Int32.ofInt 3 &&& 31) = Int32.ofInt (a / 8) := by
  apply Int32.toBitVec_inj.mp
  rw [Int32.toBitVec_shiftRight, i_small h0 h1, i_small (by omega) (by omega)]
  show (BitVec.ofNat 32 a.toNat).sshiftRight ((Int32.ofInt 3 &&& 31).toBitVec.smod 32).toNat = _
  rw [show ((Int32.ofInt 3 &&& 31).toBitVec.smod 32).toNat = 3 from by decide +kernel, BitVec.sshiftRight_eq_of_msb_false (by rw [BitVec.msb_eq_false_iff_two_mul_lt, BitVec.toNat_ofNat]; omega)]
  apply BitVec.eq_of_toNat_eq
  rw [BitVec.toNat_ushiftRight, BitVec.toNat_ofNat, BitVec.toNat_ofNat, Nat.shiftRight_eq_div_pow, Nat.mod_eq_of_lt (show a.toNat < 2 ^ 32 by omega), Nat.mod_eq_of_lt (show (a / 8).toNat < 2 ^ 32 by omega)]
  omega
theorem i_shl3 {a : Int} (h0 : 0 ≤ a) (h1 : a < 268435456) : Int32.ofInt a <<< (Int32.ofInt 3 &&& 31) = Int32.ofInt (8 * a) := by
  apply Int32.toBitVec_inj.mp
  rw [Int32.toBitVec_shiftLeft, i_small h0 (by omega), i_small (by omega) (by omega)]
  show BitVec.ofNat 32 a.toNat <<< ((Int32.ofInt 3 &&& 31).toBitVec.smod 32).toNat = _
  rw [show ((Int32.ofInt 3 &&& 31).toBitVec.smod 32).toNat = 3 from by decide +kernel]
  apply BitVec.eq_of_toNat_eq
  rw [BitVec.toNat_shiftLeft, BitVec.toNat_ofNat, BitVec.toNat_ofNat, Nat.shiftLeft_eq, Nat.mod_eq_of_lt (show a.toNat < 2 ^ 32 by omega), Nat.mod_eq_of_lt (show a.toNat * 2 ^ 3 < 2 ^ 32 by omega), Nat.mod_eq_of_lt (show (8 * a).toNat < 2 ^ 32 by omega)]
  omega
theorem i_or8 {a b : Int} (h0 : 0 ≤ a) (h1 : a < 8) (h2 : 0 ≤ b) (h3 : b < 268435456) : Int32.ofInt a ||| Int32.ofInt (8 * b) = Int32.ofInt (a + 8 * b) := by
  apply Int32.toBitVec_inj.mp
  rw [Int32.toBitVec_or, i_small h0 (by omega), i_small (by omega) (by omega), i_small (by omega) (by omega)]
  apply BitVec.eq_of_toNat_eq
  rw [BitVec.toNat_or, BitVec.toNat_ofNat, BitVec.toNat_ofNat, BitVec.toNat_ofNat, Nat.mod_eq_of_lt (show a.toNat < 2 ^ 32 by omega), Nat.mod_eq_of_lt (show (8 * b).toNat < 2 ^ 32 by omega), Nat.mod_eq_of_lt (show (a + 8 * b).toNat < 2 ^ 32 by omega)]
  rw [show (8 * b).toNat = 2 ^ 3 * b.toNat by omega, Nat.or_comm, ← Nat.two_pow_add_eq_or_of_lt (show a.toNat < 2 ^ 3 by omega)]
  omega
section ZLB
variable {l : Launch} {g : zG} {R : Room} {nL : Nat} {x : zX} {k n : Nat} {w : va_W} {pc : Nat} {lv : List (Nat × Value)} {st : List Value} {own : String} {cc : ByteArray}
theorem zz_and7 (hx : zOK l g nL x own cc) {a : Int} (d : decode cc pc = .ok (.iand, 1)) (h0 : 0 ≤ a) (h1 : a < 2147483648) (kk : Z l g R nL x k n w (pc + 1) lv (vi (a % 8) :: st)) : Z l g R nL x k n w pc lv (vi 7 :: vi a :: st) := by
  unfold vi at kk
  rw [← i_and7 h0 h1] at kk
  obtain ⟨p, e, s, m, args, below, meth, c, A, Q⟩ := x
  exact fun H locs ls hP hD hS h => lv_iand hx.1 hx.2.1 d (kk H locs ls hP hD hS h)
theorem zz_andm (hx : zOK l g nL x own cc) {a : Int} (d : decode cc pc = .ok (.iand, 1)) (kk : ∀ t : Int, 0 ≤ t ∧ t < 2147483648 → Z l g R nL x k n w (pc + 1) lv (vi t :: st)) : Z l g R nL x k n w pc lv (vi 2147483647 :: vi a :: st) := by
  obtain ⟨t, t0, t1, e⟩ := i_andm a
  have k2 := kk t ⟨t0, t1⟩
  unfold vi at k2
  rw [← e] at k2
  obtain ⟨p, e, s, m, args, below, meth, c, A, Q⟩ := x
  exact fun H locs ls hP hD hS h => lv_iand hx.1 hx.2.1 d (k2 H locs ls hP hD hS h)
theorem zz_shr3 (hx : zOK l g nL x own cc) {a : Int} (d : decode cc pc = .ok (.ishr, 1)) (h0 : 0 ≤ a) (h1 : a < 2147483648) (kk : Z l g R nL x k n w (pc + 1) lv (vi (a / 8) :: st)) : Z l g R nL x k n w pc lv (vi 3 :: vi a :: st) := by
  unfold vi at kk
  rw [← i_shr3 h0 h1] at kk
  obtain ⟨p, e, s, m, args, below, meth, c, A, Q⟩ := x
  exact fun H locs ls hP hD hS h => lv_ishr hx.1 hx.2.1 d (kk H locs ls hP hD hS h)
theorem zz_shl3 (hx : zOK l g nL x own cc) {a : Int} (d : decode cc pc = .ok (.ishl, 1)) (h0 : 0 ≤ a) (h1 : a < 268435456) (kk : Z l g R nL x k n w (pc + 1) lv (vi (8 * a) :: st)) : Z l g R nL x k n w pc lv (vi 3 :: vi a :: st) := by
  unfold vi at kk
  rw [← i_shl3 h0 h1] at kk
  obtain ⟨p, e, s, m, args, below, meth, c, A, Q⟩ := x
  exact fun H locs ls hP hD hS h => lv_ishl hx.1 hx.2.1 d (kk H locs ls hP hD hS h)
theorem zz_or8 (hx : zOK l g nL x own cc) {a b : Int} (d : decode cc pc = .ok (.ior, 1)) (h0 : 0 ≤ a) (h1 : a < 8) (h2 : 0 ≤ b) (h3 : b < 268435456) (kk : Z l g R nL x k n w (pc + 1) lv (vi (a + 8 * b) :: st)) : Z l g R nL x k n w pc lv (vi (8 * b) :: vi a :: st) := by
  unfold vi at kk
  rw [← i_or8 h0 h1 h2 h3] at kk
  obtain ⟨p, e, s, m, args, below, meth, c, A, Q⟩ := x
  exact fun H locs ls hP hD hS h => lv_ior hx.1 hx.2.1 d (kk H locs ls hP hD hS h)
end ZLB
