/-! THE FRAME OF THE WALKS: a judgement Z over a list of cells w, ints by their numbers (vi x), contracts zM; made of the kit's rows (W, vx_Met, lv_.., va_..). -/
def vi (x : Int) : Value := .int (Int32.ofInt x)
theorem vi_toInt {x : Int} (h : -2147483648 ≤ x ∧ x < 2147483648) : (Int32.ofInt x).toInt = x := Int32.toInt_ofInt_of_le (by omega) (by omega)
theorem vi_eq {x y : Int} (hx : -2147483648 ≤ x ∧ x < 2147483648) (hy : -2147483648 ≤ y ∧ y < 2147483648) : Int32.ofInt x = Int32.ofInt y ↔ x = y :=
  ⟨fun h => by have h2 := congrArg Int32.toInt h; rwa [vi_toInt hx, vi_toInt hy] at h2, fun h => by rw [h]⟩
theorem vi_lt {x y : Int} (hx : -2147483648 ≤ x ∧ x < 2147483648) (hy : -2147483648 ≤ y ∧ y < 2147483648) : Int32.ofInt x < Int32.ofInt y ↔ x < y := by
  rw [Int32.lt_iff_toInt_lt, vi_toInt hx, vi_toInt hy]
theorem vi_le {x y : Int} (hx : -2147483648 ≤ x ∧ x < 2147483648) (hy : -2147483648 ≤ y ∧ y < 2147483648) : Int32.ofInt x ≤ Int32.ofInt y ↔ x ≤ y := by
  rw [Int32.le_iff_toInt_le, vi_toInt hx, vi_toInt hy]
theorem vi_0 : Int32.ofInt 0 = 0 := rfl
theorem vi_in {i : Int} {n : Nat} (h0 : 0 ≤ i) (h1 : i < (n : Int)) (hn : n < 2147483648) : vp_in (Int32.ofInt i) n := by
  rw [vp_in_iff, vi_toInt ⟨by omega, by omega⟩]; exact ⟨h0, h1⟩
theorem vi_cl {i : Int} (h0 : 0 ≤ i) (h1 : i < 2147483648) : (Int32.ofInt i).toNatClampNeg = i.toNat := by
  rw [Int32.toNatClampNeg, vi_toInt ⟨by omega, by omega⟩]
theorem vi_cat (x : Int) : (vi x).category = 1 := rfl
/-- any int is one by its number -/
theorem vi_of (x : Int32) : Value.int x = vi x.toInt := by rw [vi, Int32.ofInt_toInt]
theorem vi_rng (x : Int32) : -2147483648 ≤ x.toInt ∧ x.toInt < 2147483648 := by
  have h1 := Int32.minValue_le_toInt x
  have h2 := Int32.toInt_lt x
  exact ⟨h1, by omega⟩
def zb (P : Prop) [Decidable P] : Int := if P then 1 else 0
theorem zb_t {P : Prop} [Decidable P] (h : P) : zb P = 1 := if_pos h
theorem zb_f {P : Prop} [Decidable P] (h : ¬ P) : zb P = 0 := if_neg h
theorem zb_01 (P : Prop) [Decidable P] : zb P = 0 ∨ zb P = 1 := by unfold zb; split <;> simp
theorem zb_eq {P : Prop} [Decidable P] : zb P = 0 ↔ ¬ P := by unfold zb; split <;> simp_all
theorem zb_congr {P Q : Prop} [Decidable P] [Decidable Q] (h : P ↔ Q) : zb P = zb Q := by
  by_cases hp : P
  · rw [zb_t hp, zb_t (h.mp hp)]
  · rw [zb_f hp, zb_f (fun q => hp (h.mpr q))]
theorem zr0 : -2147483648 ≤ (0 : Int) ∧ (0 : Int) < 2147483648 := by decide
/-! locals -/
def zget : List (Nat × Value) → Nat → Option Value
  | [], _ => none
  | (j, v) :: r, i => bif Nat.beq j i then some v else zget r i
theorem zget_mem : ∀ {lv : List (Nat × Value)} {i : Nat} {v : Value}, zget lv i = some v → (i, v) ∈ lv
  | (j, u) :: r, i, v, h => by
    unfold zget at h
    cases hb : Nat.beq j i
    · rw [hb] at h; exact List.mem_cons_of_mem _ (zget_mem h)
    · rw [hb] at h
      have hj := Nat.eq_of_beq_eq_true hb
      subst hj
      cases h
      exact List.mem_cons_self
def zins : List (Nat × Value) → Nat → Value → List (Nat × Value)
  | [], i, v => [(i, v)]
  | (j, w) :: r, i, v => bif Nat.blt i j then (i, v) :: (j, w) :: r else (j, w) :: zins r i v
theorem zins_mem : ∀ {lv : List (Nat × Value)} {i : Nat} {v : Value} {q : Nat × Value}, q ∈ zins lv i v → q ∈ (i, v) :: lv
  | [], i, v, q, h => h
  | (j, w) :: r, i, v, q, h => by
    unfold zins at h
    cases hb : Nat.blt i j
    · rw [hb] at h
      rcases List.mem_cons.mp h with h | h
      · rw [h]; exact List.mem_cons_of_mem _ List.mem_cons_self
      · rcases List.mem_cons.mp (zins_mem h) with h | h
        · rw [h]; exact List.mem_cons_self
        · exact List.mem_cons_of_mem _ (List.mem_cons_of_mem _ h)
    · rw [hb] at h; exact h
def zset (lv : List (Nat × Value)) (i : Nat) (v : Value) : List (Nat × Value) := zins (lv.filter (fun q => !(q.1 == i) && !(q.1 + 1 == i && q.2.category == 2))) i v
theorem zset_has {ls : Array Slot} {nL : Nat} {lv : List (Nat × Value)} {i : Nat} {v : Value} (h : lv_has ls nL ((i, v) :: lv.filter (fun q => !(q.1 == i) && !(q.1 + 1 == i && q.2.category == 2)))) : lv_has ls nL (zset lv i v) :=
  ⟨h.1, h.2.1, fun q hq => h.2.2 q (zins_mem hq)⟩
theorem zhas_sub {ls : Array Slot} {nL : Nat} {l l' : List (Nat × Value)} (h : lv_has ls nL l) (hs : ∀ q ∈ l', q ∈ l) : lv_has ls nL l' := ⟨h.1, h.2.1, fun q hq => h.2.2 q (hs q hq)⟩
/-! the world's classes, the tables' facts -/
def zcl : List vw_C := [(RJx4a65c, TJx4a65c, 3), (RX0, TX0, 3), (RX1, TX1, 1), (RX2, TX2, 9), (RX3, TX3, 8)]
abbrev zG : Type := va_G × ClassId × ClassId × ClassId × ClassId × Nat
def zty (g : zG) : List (ClassId × FieldType) := [(g.2.1, .int), (g.2.1, .int), (g.2.1, .int), (g.2.2.2.2.1, .object "java/lang/Object")]
def zstr : List (Nat × String) := [(53, "owner type and member type are the same"), (58, "no such insertion"), (60, "no such retention"), (68, "there are no more set types"), (71, "a record was stored already"), (85, "no more records can be stored"), (91, "an automatic set type has no current record"), (126, "a set of the record has members"), (139, "the record does not have the member type"), (144, "the record is a member already"), (149, "the set type has no current record"), (167, "the retention is not optional"), (180, "no such record of the owner type"), (183, "the retention is fixed"), (202, "the record does not have the owner type"), (204, "the set has not so many members"), (209, "no such record type"), (211, "the value is out of range"), (213, "no such way"), (215, "no such set type"), (217, "no such record"), (219, "the run unit has no current record"), (221, "the record is no member of such a set")]
def zN4 : List Cond := [.declares (Bundle.initS "java/lang/RuntimeException"), .declares (Bundle.initS "java/lang/Exception"), .declares (Bundle.initS Bundle.tN), .castable "java/lang/IllegalArgumentException" "java/lang/IllegalArgumentException", .castable "java/lang/IllegalStateException" "java/lang/IllegalStateException", .castable "java/lang/IndexOutOfBoundsException" "java/lang/IndexOutOfBoundsException", .castable "NetworkDatabase$SetType" "java/lang/Object", .fieldLinkNest "NetworkDatabase" 136 "NetworkDatabase$SetType" "memberType" "I" "NetworkDatabase", .fieldLinkNest "NetworkDatabase" 164 "NetworkDatabase$SetType" "retention" "I" "NetworkDatabase", .fieldLinkNest "NetworkDatabase" 169 "NetworkDatabase$SetType" "ring" "LNetworkDatabase$Row;" "NetworkDatabase", .fieldLinkNest "NetworkDatabase" 154 "NetworkDatabase$SetType" "current" "I" "NetworkDatabase", .fieldLinkNest "NetworkDatabase" 234 "NetworkDatabase$Gathering" "size" "I" "NetworkDatabase", .methodLinkNest "NetworkDatabase" 33 ⟨"NetworkDatabase$Gathering", "<init>", "()V"⟩ "NetworkDatabase"]
def zE (g : zG) (U : State) : Prop := va_K g.1 zcl (zty g) U ∧ (∀ q ∈ zstr, ∃ a : Nat, vk_R RX3 q.1 q.2 a U) ∧ (∀ q ∈ zN4, va_Nw q U) ∧ va_AO "java/lang/Object" U
/-- the empty row that an ArrayList starts with, at ea -/
def zQe (ea : Nat) (A : Nat → Prop) (U : State) (H : Heap) : Prop := va_Z "java/util/ArrayList" "DEFAULTCAPACITY_EMPTY_ELEMENTDATA" "[Ljava/lang/Object;" (.ref ea) A U H ∧ va_T (.object "java/lang/Object") ea 0 (fun _ => .null) A U H
def zQ (g : zG) (A : Nat → Prop) (U : State) (H : Heap) : Prop := (vx_Zq Bundle.tN "UNASSIGNED_STACK" Bundle.steD A U H ∧ vx_Zq Bundle.tN "SUPPRESSED_SENTINEL" Bundle.listD A U H) ∧ zQe g.2.2.2.2.2 A U H
theorem zE_warm {g : zG} {s U : State} (hW : s.WarmedH U.vm) (h : zE g s) : zE g U :=
  ⟨va_K.moved hW.alike h.1, fun q hq => by obtain ⟨a, ha⟩ := h.2.1 q hq; exact ⟨a, vk_R.warm hW ha⟩, fun q hq => by
    have h1 := h.2.2.1 q hq
    simp only [zN4, List.mem_cons, List.not_mem_nil, or_false] at hq
    rcases hq with rfl | rfl | rfl | rfl | rfl | rfl | rfl | rfl | rfl | rfl | rfl | rfl | rfl
    · exact va_Nw.warmD hW h1
    · exact va_Nw.warmD hW h1
    · exact va_Nw.warmD hW h1
    · exact va_Nw.warmC hW h1
    · exact va_Nw.warmC hW h1
    · exact va_Nw.warmC hW h1
    · exact va_Nw.warmC hW h1
    · exact va_Nw.warmF hW h1
    · exact va_Nw.warmF hW h1
    · exact va_Nw.warmF hW h1
    · exact va_Nw.warmF hW h1
    · exact va_Nw.warmF hW h1
    · exact va_Nw.warmM hW h1, va_AO.moved hW.alike h.2.2.2⟩
theorem zE_same {g : zG} {s U : State} (hv : U.vm = s.vm) (h : zE g s) : zE g U :=
  ⟨va_K.moved (by rw [hv]; exact Vm.Alike.refl _) h.1, fun q hq => by obtain ⟨a, ha⟩ := h.2.1 q hq; exact ⟨a, vk_R.same hv ha⟩, fun q hq => va_Nw.same (by
    simp only [zN4, List.mem_cons, List.not_mem_nil, or_false] at hq
    rcases hq with rfl | rfl | rfl | rfl | rfl | rfl | rfl | rfl | rfl | rfl | rfl | rfl | rfl <;> rfl) hv.symm (h.2.2.1 q hq), va_AO.moved (by rw [hv]; exact Vm.Alike.refl _) h.2.2.2⟩
theorem zQ_moved {g : zG} {A : Nat → Prop} {s U : State} {H : Heap} (hv : s.vm.Alike U.vm) (h : zQ g A s H) : zQ g A U H := ⟨⟨vx_Zq.moved hv h.1.1, vx_Zq.moved hv h.1.2⟩, va_Z.moved hv h.2.1, va_T.moved hv h.2.2⟩
theorem zQ_kept {g : zG} {A : Nat → Prop} {s : State} {H H1 : Heap} (h : zQ g A s H) (hq : ∀ a : Nat, a < H.size → ¬ A a → H1[a]? = H[a]?) : zQ g A s H1 := ⟨⟨vx_Zq.kept h.1.1 hq, vx_Zq.kept h.1.2 hq⟩, va_Z.kept h.2.1 hq, va_T.kept h.2.2 hq⟩
theorem zQ_narrow {g : zG} {A B : Nat → Prop} {s : State} {H : Heap} (h : zQ g A s H) (hAB : ∀ q, B q → A q) : zQ g B s H := ⟨⟨vx_Zq.narrow h.1.1 hAB, vx_Zq.narrow h.1.2 hAB⟩, va_Z.narrow h.2.1 hAB, va_T.narrow h.2.2 hAB⟩
/-! the judgement -/
abbrev zX : Type := Program × Env × State × MethodId × Array Value × List Frame × Method × Code × (Nat → Prop) × (State → Prop)
def Z (l : Launch) (g : zG) (R : Room) (nL : Nat) : zX → Nat → Nat → va_W → Nat → List (Nat × Value) → List Value → Prop
  | (p, e, s, m, args, below, meth, c, A, Q), k, n, w, pc, lv, st => ∀ (H : Heap) (locs : List Loc) (ls : Array Slot), va_P g.1 zcl w H → va_D A w → va_S A s.heap H locs → lv_has ls nL lv → W p l e R s m args below meth c H locs k n Q (F0 m pc ls st)
/-- an exception of class E stands over the frame -/
def ZT (l : Launch) (g : zG) (R : Room) (nL : Nat) : zX → Nat → Nat → va_W → Nat → List (Nat × Value) → List Value → String → Prop
  | (p, e, s, m, args, below, meth, c, A, Q), k, n, w, pc, lv, st, E => ∀ (H : Heap) (locs : List Loc) (ls : Array Slot) (ce : Cell) (q9 : Addr), va_P g.1 zcl w H → va_D A w → va_S A s.heap H locs → lv_has ls nL lv → H[q9]? = some ce → ce.vm = .none → s.vm.findClass E = some ce.cls → vx_W p l e R s m args below meth c H locs k n Q (F0 m pc ls st) q9
def zOK (l : Launch) (g : zG) (nL : Nat) : zX → String → ByteArray → Prop
  | (p, _, s, m, args, _, meth, c, A, _), own, cc => p.tables.exec = Jvm.exec ∧ c.code = cc ∧ c.maxLocals = nL ∧ s.vm.findClass own = some m.cls ∧ (∀ w ∈ zT, w.before args s = true) ∧ zE g s ∧ zQ g A s s.heap ∧ meth.locks = false ∧ l.stackTraces = false ∧ ∀ q : Nat, s.heap.size ≤ q → A q
def zNT : zX → Prop | (_, _, _, _, _, _, _, c, _, _) => ∀ x ∈ c.exceptionTable.toList, False
/-! contracts -/
def zPc (g : zG) (w0 : va_W) (sz : Nat) (av : List Value) : Array Value → State → Prop := va_Pc av (fun U => U.heap.size = sz ∧ va_P g.1 zcl w0 U.heap ∧ zE g U ∧ zQ g (va_A w0 sz) U U.heap ∧ va_D (fun _ => True) w0)
def zQc (g : zG) (w0 : va_W) (sz : Nat) (Post : Option Value → va_W → Prop) : Array Value → State → Outcome → State → Prop := fun _ st oc t => (∃ (v : Option Value) (w1 : va_W), oc = .returned v ∧ Post v w1 ∧ va_P g.1 zcl w1 t.heap ∧ va_D (va_A w0 sz) w1) ∧ va_F (va_A w0 sz) st t
def zXc (g : zG) (w0 : va_W) (sz : Nat) (PX : String → va_W → Prop) : String → State → State → Prop := fun E st t => (∃ w1 : va_W, PX E w1 ∧ va_P g.1 zcl w1 t.heap ∧ va_D (va_A w0 sz) w1) ∧ va_F (va_A w0 sz) st t
/-- method y, called with the values av over the cells w0, returns (Post: answer and cells) or throws (PX: class and cells) -/
def zM (l : Launch) (g : zG) (y : MethodName) (cc : ByteArray) (nL : Nat) (ret : Option FieldType) (rm : Room) (av : List Value) (w0 : va_W) (Post : Option Value → va_W → Prop) (PX : String → va_W → Prop) (mc ms : Nat) : Prop :=
  ∀ sz : Nat, vx_Met l y (.code y cc nL ret :: zT) rm (zPc g w0 sz av) (zQc g w0 sz Post) (zXc g w0 sz PX) mc ms (va_A w0 sz)
/-- the end that a contract's walk comes to -/
def zFin (g : zG) : zX → va_W → (Option Value → va_W → Prop) → (String → va_W → Prop) → Nat → Nat → Option FieldType → Prop
  | (_, _, s, _, args, below, meth, _, A, Q), w0, Post, PX, mc, ms, ret => meth.sig.returnType = ret ∧ ∃ sz : Nat, A = va_A w0 sz ∧ Q = vx_MQ below (zQc g w0 sz Post) (zXc g w0 sz PX) args s mc ms (va_A w0 sz)
def zI (P : Int → va_W → Prop) : Option Value → va_W → Prop := fun v w => ∃ r : Int, v = some (vi r) ∧ P r w
def zV (P : va_W → Prop) : Option Value → va_W → Prop := fun v w => v = none ∧ P w
def zA (P : Nat → va_W → Prop) : Option Value → va_W → Prop := fun v w => ∃ r : Nat, v = some (.ref r) ∧ P r w
def zN : String → va_W → Prop := fun _ _ => False
theorem zPc_blind {g : zG} {w0 : va_W} {sz : Nat} {av : List Value} : FrameBlind (zPc g w0 sz av) := by
  intro a U f mk ⟨h0, h1, h2, h3, h4, h5⟩
  exact ⟨h0, h1, h2, zE_same (s := U) (U := U.calling f mk a) rfl h3, zQ_moved (s := U) (U := U.calling f mk a) (Vm.Alike.refl U.vm) h4, h5⟩
theorem zM_of {l : Launch} {g : zG} {y : MethodName} {cc : ByteArray} {nL : Nat} {ret : Option FieldType} {rm : Room} {av : List Value} {w0 : va_W} {Post : Option Value → va_W → Prop} {PX : String → va_W → Prop} {mc ms : Nat} {own : String} {lv0 : List (Nat × Value)} (hst : l.stackTraces = false) (ho : y.cls = own) (hy : plainName y.cls = true) (hlen : (lg_sl av).length ≤ nL) (hlv : lv_args 0 av = lv0)
    (body : ∀ x : zX, zOK l g nL x own cc → zFin g x w0 Post PX mc ms ret → zNT x → Z l g rm nL x 0 0 w0 0 lv0 []) : zM l g y cc nL ret rm av w0 Post PX mc ms := by
  subst ho
  subst hlv
  intro sz
  refine vx_ofW (cc := cc) (maxL := nL) (ret := ret) hy rfl ?_
  intro p e s m args below meth c s₁ B hml hnt hv
  obtain ⟨rfl, hsz, hP, hE, hQ, hD0⟩ := hv
  have hts := atoms_spec (ws := Cond.code y cc nL ret :: zT) B.pre
  subst hsz
  have hA : ∀ q : Nat, s.heap.size ≤ q → va_A w0 s.heap.size q := fun q h => Or.inr h
  have hb := body (p, e, s, m, av.toArray, below, meth, c, va_A w0 s.heap.size, vx_MQ below (zQc g w0 s.heap.size Post) (zXc g w0 s.heap.size PX) av.toArray s mc ms (va_A w0 s.heap.size))
    ⟨B.exec, B.bytes, hml, findClass_of_methodNamed B.named, fun w hw => hts w (List.mem_cons_of_mem _ hw), hE, hQ, B.notSynchronized, hst, hA⟩
    ⟨B.returns, s.heap.size, rfl, rfl⟩ hnt
  have hl := lv_entry av (n := nL) hlen
  rw [lg_entry_eq]
  exact hb s.heap [] _ hP hD0.self va_S.rf hl
/-! steps -/
section ZS
variable {l : Launch} {g : zG} {R : Room} {nL : Nat} {x : zX} {k n : Nat} {w : va_W} {pc : Nat} {lv : List (Nat × Value)} {st : List Value} {own : String} {cc : ByteArray}
theorem zz_widen {k' n' : Nat} (h1 : k ≤ k') (h2 : n ≤ n') (kk : Z l g R nL x k' n' w pc lv st) : Z l g R nL x k n w pc lv st := by
  obtain ⟨p, e, s, m, args, below, meth, c, A, Q⟩ := x
  exact fun H locs ls hP hD hS hl => W.widen h1 h2 (kk H locs ls hP hD hS hl)
theorem zz_sub {lv' : List (Nat × Value)} (hs : ∀ q ∈ lv', q ∈ lv) (kk : Z l g R nL x k n w pc lv' st) : Z l g R nL x k n w pc lv st := by
  obtain ⟨p, e, s, m, args, below, meth, c, A, Q⟩ := x
  exact fun H locs ls hP hD hS hl => kk H locs ls hP hD hS (zhas_sub hl hs)
theorem zz_eq {w' : va_W} {st' : List Value} (hw : w = w') (hst : st = st') (kk : Z l g R nL x k n w' pc lv st') : Z l g R nL x k n w pc lv st := by subst hw; subst hst; exact kk
theorem zz_iconst (hx : zOK l g nL x own cc) {a : Int} (d : decode cc pc = .ok (.iconst a, 1)) (kk : Z l g R nL x k n w (pc + 1) lv (vi a :: st)) : Z l g R nL x k n w pc lv st := by
  obtain ⟨p, e, s, m, args, below, meth, c, A, Q⟩ := x
  exact fun H locs ls hP hD hS hl => lv_iconst hx.1 hx.2.1 d rfl (kk H locs ls hP hD hS hl)
theorem zz_bipush (hx : zOK l g nL x own cc) {a : Int} (d : decode cc pc = .ok (.bipush a, 2)) (ha : (Int8.ofInt a).toInt32 = Int32.ofInt a) (kk : Z l g R nL x k n w (pc + 2) lv (vi a :: st)) : Z l g R nL x k n w pc lv st := by
  obtain ⟨p, e, s, m, args, below, meth, c, A, Q⟩ := x
  exact fun H locs ls hP hD hS hl => lv_bipush hx.1 hx.2.1 d ha (kk H locs ls hP hD hS hl)
theorem zz_sipush (hx : zOK l g nL x own cc) {a : Int} (d : decode cc pc = .ok (.sipush a, 3)) (ha : (Int16.ofInt a).toInt32 = Int32.ofInt a) (kk : Z l g R nL x k n w (pc + 3) lv (vi a :: st)) : Z l g R nL x k n w pc lv st := by
  obtain ⟨p, e, s, m, args, below, meth, c, A, Q⟩ := x
  exact fun H locs ls hP hD hS hl => lv_sipush hx.1 hx.2.1 d ha (kk H locs ls hP hD hS hl)
theorem zz_iload_n (hx : zOK l g nL x own cc) {i : Fin 4} {a : Int} (d : decode cc pc = .ok (.iload_n i, 1)) (hl : zget lv i = some (vi a)) (kk : Z l g R nL x k n w (pc + 1) lv (vi a :: st)) : Z l g R nL x k n w pc lv st := by
  obtain ⟨p, e, s, m, args, below, meth, c, A, Q⟩ := x
  exact fun H locs ls hP hD hS h => lv_iload_n hx.1 hx.2.1 d rfl (h.2.2 _ (zget_mem hl)) (kk H locs ls hP hD hS h)
theorem zz_iload (hx : zOK l g nL x own cc) {i : Nat} {a : Int} (d : decode cc pc = .ok (.iload i, 2)) (hl : zget lv i = some (vi a)) (kk : Z l g R nL x k n w (pc + 2) lv (vi a :: st)) : Z l g R nL x k n w pc lv st := by
  obtain ⟨p, e, s, m, args, below, meth, c, A, Q⟩ := x
  exact fun H locs ls hP hD hS h => lv_iload hx.1 hx.2.1 d (h.2.2 _ (zget_mem hl)) (kk H locs ls hP hD hS h)
theorem zz_aload_n (hx : zOK l g nL x own cc) {i : Fin 4} {a : Nat} (d : decode cc pc = .ok (.aload_n i, 1)) (hl : zget lv i = some (.ref a)) (kk : Z l g R nL x k n w (pc + 1) lv (.ref a :: st)) : Z l g R nL x k n w pc lv st := by
  obtain ⟨p, e, s, m, args, below, meth, c, A, Q⟩ := x
  exact fun H locs ls hP hD hS h => lv_aload_n hx.1 hx.2.1 d rfl (h.2.2 _ (zget_mem hl)) (kk H locs ls hP hD hS h)
theorem zz_aload (hx : zOK l g nL x own cc) {i : Nat} {a : Nat} (d : decode cc pc = .ok (.aload i, 2)) (hl : zget lv i = some (.ref a)) (kk : Z l g R nL x k n w (pc + 2) lv (.ref a :: st)) : Z l g R nL x k n w pc lv st := by
  obtain ⟨p, e, s, m, args, below, meth, c, A, Q⟩ := x
  exact fun H locs ls hP hD hS h => lv_aload hx.1 hx.2.1 d (h.2.2 _ (zget_mem hl)) (kk H locs ls hP hD hS h)
theorem zz_istore_n (hx : zOK l g nL x own cc) {i : Fin 4} {a : Int} {lv' : List (Nat × Value)} (d : decode cc pc = .ok (.istore_n i, 1)) (hi : (i : Nat) < nL) (hl : zset lv i (vi a) = lv') (kk : Z l g R nL x k n w (pc + 1) lv' st) : Z l g R nL x k n w pc lv (vi a :: st) := by
  obtain ⟨p, e, s, m, args, below, meth, c, A, Q⟩ := x
  exact fun H locs ls hP hD hS h => lv_istore_n hx.1 hx.2.1 d rfl h hi rfl (fun ls' h' => kk H locs ls' hP hD hS (hl ▸ zset_has h'))
theorem zz_istore (hx : zOK l g nL x own cc) {i : Nat} {a : Int} {lv' : List (Nat × Value)} (d : decode cc pc = .ok (.istore i, 2)) (hi : i < nL) (hl : zset lv i (vi a) = lv') (kk : Z l g R nL x k n w (pc + 2) lv' st) : Z l g R nL x k n w pc lv (vi a :: st) := by
  obtain ⟨p, e, s, m, args, below, meth, c, A, Q⟩ := x
  exact fun H locs ls hP hD hS h => lv_istore hx.1 hx.2.1 d h hi rfl (fun ls' h' => kk H locs ls' hP hD hS (hl ▸ zset_has h'))
theorem zz_astore_n (hx : zOK l g nL x own cc) {i : Fin 4} {a : Nat} {lv' : List (Nat × Value)} (d : decode cc pc = .ok (.astore_n i, 1)) (hi : (i : Nat) < nL) (hl : zset lv i (.ref a) = lv') (kk : Z l g R nL x k n w (pc + 1) lv' st) : Z l g R nL x k n w pc lv (.ref a :: st) := by
  obtain ⟨p, e, s, m, args, below, meth, c, A, Q⟩ := x
  exact fun H locs ls hP hD hS h => lv_astore_n hx.1 hx.2.1 d rfl h hi rfl (fun ls' h' => kk H locs ls' hP hD hS (hl ▸ zset_has h'))
theorem zz_astore (hx : zOK l g nL x own cc) {i : Nat} {a : Nat} {lv' : List (Nat × Value)} (d : decode cc pc = .ok (.astore i, 2)) (hi : i < nL) (hl : zset lv i (.ref a) = lv') (kk : Z l g R nL x k n w (pc + 2) lv' st) : Z l g R nL x k n w pc lv (.ref a :: st) := by
  obtain ⟨p, e, s, m, args, below, meth, c, A, Q⟩ := x
  exact fun H locs ls hP hD hS h => lv_astore hx.1 hx.2.1 d h hi rfl (fun ls' h' => kk H locs ls' hP hD hS (hl ▸ zset_has h'))
theorem zz_iinc (hx : zOK l g nL x own cc) {i : Nat} {b a : Int} {lv' : List (Nat × Value)} (d : decode cc pc = .ok (.iinc i b, 3)) (hi : i < nL) (hg : zget lv i = some (vi a)) (hl : zset lv i (vi (a + b)) = lv') (kk : Z l g R nL x k n w (pc + 3) lv' st) : Z l g R nL x k n w pc lv st := by
  obtain ⟨p, e, s, m, args, below, meth, c, A, Q⟩ := x
  intro H locs ls hP hD hS h
  obtain ⟨j, hj⟩ := List.getElem?_of_mem (zget_mem hg)
  exact lv_iinc hx.1 hx.2.1 d h (k := j) (x := Int32.ofInt a) (v := Int32.ofInt (a + b)) hj (by rw [Int32.ofInt_add]) hi rfl (fun ls' h' => kk H locs ls' hP hD hS (hl ▸ zset_has h'))
theorem zz_iadd (hx : zOK l g nL x own cc) {a b : Int} (d : decode cc pc = .ok (.iadd, 1)) (kk : Z l g R nL x k n w (pc + 1) lv (vi (a + b) :: st)) : Z l g R nL x k n w pc lv (vi b :: vi a :: st) := by
  obtain ⟨p, e, s, m, args, below, meth, c, A, Q⟩ := x
  rw [show vi (a + b) = .int (Int32.ofInt a + Int32.ofInt b) by rw [vi, Int32.ofInt_add]] at kk
  exact fun H locs ls hP hD hS h => lv_iadd hx.1 hx.2.1 d (kk H locs ls hP hD hS h)
theorem zz_isub (hx : zOK l g nL x own cc) {a b : Int} (d : decode cc pc = .ok (.isub, 1)) (kk : Z l g R nL x k n w (pc + 1) lv (vi (a - b) :: st)) : Z l g R nL x k n w pc lv (vi b :: vi a :: st) := by
  obtain ⟨p, e, s, m, args, below, meth, c, A, Q⟩ := x
  rw [show vi (a - b) = .int (Int32.ofInt a - Int32.ofInt b) by rw [vi, Int32.ofInt_sub]] at kk
  exact fun H locs ls hP hD hS h => lv_isub hx.1 hx.2.1 d (kk H locs ls hP hD hS h)
theorem zz_imul (hx : zOK l g nL x own cc) {a b : Int} (d : decode cc pc = .ok (.imul, 1)) (kk : Z l g R nL x k n w (pc + 1) lv (vi (a * b) :: st)) : Z l g R nL x k n w pc lv (vi b :: vi a :: st) := by
  obtain ⟨p, e, s, m, args, below, meth, c, A, Q⟩ := x
  rw [show vi (a * b) = .int (Int32.ofInt a * Int32.ofInt b) by rw [vi, Int32.ofInt_mul]] at kk
  exact fun H locs ls hP hD hS h => lv_imul hx.1 hx.2.1 d (kk H locs ls hP hD hS h)
theorem vi_nI {a : Int} (h0 : 0 ≤ a) : Int32.ofInt a = nI a.toNat := by
  obtain ⟨j, rfl⟩ := Int.eq_ofNat_of_zero_le h0
  rfl
theorem zz_idiv (hx : zOK l g nL x own cc) {a b : Int} (d : decode cc pc = .ok (.idiv, 1)) (h0 : 0 ≤ a) (h1 : a < 2147483648) (h2 : 0 < b) (h3 : b < 2147483648) (kk : Z l g R nL x k n w (pc + 1) lv (vi (a / b) :: st)) : Z l g R nL x k n w pc lv (vi b :: vi a :: st) := by
  obtain ⟨p, e, s, m, args, below, meth, c, A, Q⟩ := x
  have e1 : vi (a / b) = .int (Int32.ofInt a / Int32.ofInt b) := by
    rw [vi_nI h0, vi_nI (by omega : 0 ≤ b), pk_div (by omega) (by omega) (by omega), vi]
    congr 1
    rw [vi_nI (Int.ediv_nonneg h0 (by omega))]
    congr 1
    obtain ⟨i, rfl⟩ := Int.eq_ofNat_of_zero_le h0
    obtain ⟨j, rfl⟩ := Int.eq_ofNat_of_zero_le (show 0 ≤ b by omega)
    rfl
  rw [e1] at kk
  exact fun H locs ls hP hD hS h => lv_idiv hx.1 hx.2.1 d (fun z => by have := (vi_eq (x := b) (y := 0) ⟨by omega, by omega⟩ ⟨by omega, by omega⟩).mp z; omega) (kk H locs ls hP hD hS h)
theorem zz_irem (hx : zOK l g nL x own cc) {a b : Int} (d : decode cc pc = .ok (.irem, 1)) (h0 : 0 ≤ a) (h1 : a < 2147483648) (h2 : 0 < b) (h3 : b < 2147483648) (kk : Z l g R nL x k n w (pc + 1) lv (vi (a % b) :: st)) : Z l g R nL x k n w pc lv (vi b :: vi a :: st) := by
  obtain ⟨p, e, s, m, args, below, meth, c, A, Q⟩ := x
  have e1 : vi (a % b) = .int (Int32.ofInt a - Int32.ofInt a / Int32.ofInt b * Int32.ofInt b) := by
    rw [vi_nI h0, vi_nI (by omega : 0 ≤ b), pk_rem (by omega) (by omega) (by omega), vi]
    congr 1
    rw [vi_nI (Int.emod_nonneg a (by omega))]
    congr 1
    exact Int.toNat_emod h0 (by omega)
  rw [e1] at kk
  exact fun H locs ls hP hD hS h => lv_irem hx.1 hx.2.1 d (fun z => by have := (vi_eq (x := b) (y := 0) ⟨by omega, by omega⟩ ⟨by omega, by omega⟩).mp z; omega) (kk H locs ls hP hD hS h)
theorem zz_dup (hx : zOK l g nL x own cc) {v : Value} (d : decode cc pc = .ok (.dup, 1)) (hv : v.category = 1) (kk : Z l g R nL x k n w (pc + 1) lv (v :: v :: st)) : Z l g R nL x k n w pc lv (v :: st) := by
  obtain ⟨p, e, s, m, args, below, meth, c, A, Q⟩ := x
  exact fun H locs ls hP hD hS h => lv_dup hx.1 hx.2.1 d hv (kk H locs ls hP hD hS h)
theorem zz_dup2 (hx : zOK l g nL x own cc) {u v : Value} (d : decode cc pc = .ok (.dup2, 1)) (hu : u.category = 1) (hv : v.category = 1) (kk : Z l g R nL x k n w (pc + 1) lv (u :: v :: u :: v :: st)) : Z l g R nL x k n w pc lv (u :: v :: st) := by
  obtain ⟨p, e, s, m, args, below, meth, c, A, Q⟩ := x
  exact fun H locs ls hP hD hS h => lv_dup2_11 hx.1 hx.2.1 d hu hv (kk H locs ls hP hD hS h)
theorem zz_pop (hx : zOK l g nL x own cc) {v : Value} (d : decode cc pc = .ok (.pop, 1)) (hv : v.category = 1) (kk : Z l g R nL x k n w (pc + 1) lv st) : Z l g R nL x k n w pc lv (v :: st) := by
  obtain ⟨p, e, s, m, args, below, meth, c, A, Q⟩ := x
  exact fun H locs ls hP hD hS h => lv_pop hx.1 hx.2.1 d hv (kk H locs ls hP hD hS h)
theorem zz_goto (hx : zOK l g nL x own cc) {off : Int} (tgt : Nat) (d : decode cc pc = .ok (.goto off, 3)) (ht : (pc : Int) + off = (tgt : Int)) (kk : Z l g R nL x k n w tgt lv st) : Z l g R nL x k n w pc lv st := by
  obtain ⟨p, e, s, m, args, below, meth, c, A, Q⟩ := x
  exact fun H locs ls hP hD hS h => lv_goto hx.1 hx.2.1 d ht (kk H locs ls hP hD hS h)
theorem zz_if_eq (hx : zOK l g nL x own cc) {a : Int} {off : Int} (tgt : Nat) (d : decode cc pc = .ok (.ifCond .eq off, 3)) (ht : (pc : Int) + off = (tgt : Int)) (ha : -2147483648 ≤ a ∧ a < 2147483648) 
    (kt : a = 0 → Z l g R nL x k n w tgt lv st) (kf : ¬ (a = 0) → Z l g R nL x k n w (pc + 3) lv st) : Z l g R nL x k n w pc lv (vi a :: st) := by
  obtain ⟨p, e, s, m, args, below, meth, c, A, Q⟩ := x
  intro H locs ls hP hD hS h
  have I := vi_eq ha zr0
  exact lv_if_eq (tgt := tgt) hx.1 hx.2.1 d ht (fun z => kt (I.mp z) H locs ls hP hD hS h) (fun z => kf (fun q => z (I.mpr q)) H locs ls hP hD hS h)
theorem zz_icmp_eq (hx : zOK l g nL x own cc) {a b : Int} {off : Int} (tgt : Nat) (d : decode cc pc = .ok (.if_icmp .eq off, 3)) (ht : (pc : Int) + off = (tgt : Int)) (ha : -2147483648 ≤ a ∧ a < 2147483648) (hb : -2147483648 ≤ b ∧ b < 2147483648) 
    (kt : a = b → Z l g R nL x k n w tgt lv st) (kf : ¬ (a = b) → Z l g R nL x k n w (pc + 3) lv st) : Z l g R nL x k n w pc lv (vi b :: vi a :: st) := by
  obtain ⟨p, e, s, m, args, below, meth, c, A, Q⟩ := x
  intro H locs ls hP hD hS h
  have I := vi_eq ha hb
  exact lv_icmp_eq (tgt := tgt) hx.1 hx.2.1 d ht (fun z => kt (I.mp z) H locs ls hP hD hS h) (fun z => kf (fun q => z (I.mpr q)) H locs ls hP hD hS h)
theorem zz_if_ne (hx : zOK l g nL x own cc) {a : Int} {off : Int} (tgt : Nat) (d : decode cc pc = .ok (.ifCond .ne off, 3)) (ht : (pc : Int) + off = (tgt : Int)) (ha : -2147483648 ≤ a ∧ a < 2147483648) 
    (kt : ¬ a = 0 → Z l g R nL x k n w tgt lv st) (kf : a = 0 → Z l g R nL x k n w (pc + 3) lv st) : Z l g R nL x k n w pc lv (vi a :: st) := by
  obtain ⟨p, e, s, m, args, below, meth, c, A, Q⟩ := x
  intro H locs ls hP hD hS h
  have I := vi_eq ha zr0
  exact lv_if_ne (tgt := tgt) hx.1 hx.2.1 d ht (fun z => kt (fun q => z (I.mpr q)) H locs ls hP hD hS h) (fun z => kf (I.mp z) H locs ls hP hD hS h)
theorem zz_icmp_ne (hx : zOK l g nL x own cc) {a b : Int} {off : Int} (tgt : Nat) (d : decode cc pc = .ok (.if_icmp .ne off, 3)) (ht : (pc : Int) + off = (tgt : Int)) (ha : -2147483648 ≤ a ∧ a < 2147483648) (hb : -2147483648 ≤ b ∧ b < 2147483648) 
    (kt : ¬ a = b → Z l g R nL x k n w tgt lv st) (kf : a = b → Z l g R nL x k n w (pc + 3) lv st) : Z l g R nL x k n w pc lv (vi b :: vi a :: st) := by
  obtain ⟨p, e, s, m, args, below, meth, c, A, Q⟩ := x
  intro H locs ls hP hD hS h
  have I := vi_eq ha hb
  exact lv_icmp_ne (tgt := tgt) hx.1 hx.2.1 d ht (fun z => kt (fun q => z (I.mpr q)) H locs ls hP hD hS h) (fun z => kf (I.mp z) H locs ls hP hD hS h)
theorem zz_if_lt (hx : zOK l g nL x own cc) {a : Int} {off : Int} (tgt : Nat) (d : decode cc pc = .ok (.ifCond .lt off, 3)) (ht : (pc : Int) + off = (tgt : Int)) (ha : -2147483648 ≤ a ∧ a < 2147483648) 
    (kt : a < 0 → Z l g R nL x k n w tgt lv st) (kf : ¬ (a < 0) → Z l g R nL x k n w (pc + 3) lv st) : Z l g R nL x k n w pc lv (vi a :: st) := by
  obtain ⟨p, e, s, m, args, below, meth, c, A, Q⟩ := x
  intro H locs ls hP hD hS h
  have I := vi_lt ha zr0
  exact lv_if_lt (tgt := tgt) hx.1 hx.2.1 d ht (fun z => kt (I.mp z) H locs ls hP hD hS h) (fun z => kf (fun q => z (I.mpr q)) H locs ls hP hD hS h)
theorem zz_icmp_lt (hx : zOK l g nL x own cc) {a b : Int} {off : Int} (tgt : Nat) (d : decode cc pc = .ok (.if_icmp .lt off, 3)) (ht : (pc : Int) + off = (tgt : Int)) (ha : -2147483648 ≤ a ∧ a < 2147483648) (hb : -2147483648 ≤ b ∧ b < 2147483648) 
    (kt : a < b → Z l g R nL x k n w tgt lv st) (kf : ¬ (a < b) → Z l g R nL x k n w (pc + 3) lv st) : Z l g R nL x k n w pc lv (vi b :: vi a :: st) := by
  obtain ⟨p, e, s, m, args, below, meth, c, A, Q⟩ := x
  intro H locs ls hP hD hS h
  have I := vi_lt ha hb
  exact lv_icmp_lt (tgt := tgt) hx.1 hx.2.1 d ht (fun z => kt (I.mp z) H locs ls hP hD hS h) (fun z => kf (fun q => z (I.mpr q)) H locs ls hP hD hS h)
theorem zz_if_ge (hx : zOK l g nL x own cc) {a : Int} {off : Int} (tgt : Nat) (d : decode cc pc = .ok (.ifCond .ge off, 3)) (ht : (pc : Int) + off = (tgt : Int)) (ha : -2147483648 ≤ a ∧ a < 2147483648) 
    (kt : 0 ≤ a → Z l g R nL x k n w tgt lv st) (kf : ¬ (0 ≤ a) → Z l g R nL x k n w (pc + 3) lv st) : Z l g R nL x k n w pc lv (vi a :: st) := by
  obtain ⟨p, e, s, m, args, below, meth, c, A, Q⟩ := x
  intro H locs ls hP hD hS h
  have I := vi_le zr0 ha
  exact lv_if_ge (tgt := tgt) hx.1 hx.2.1 d ht (fun z => kt (I.mp z) H locs ls hP hD hS h) (fun z => kf (fun q => z (I.mpr q)) H locs ls hP hD hS h)
theorem zz_icmp_ge (hx : zOK l g nL x own cc) {a b : Int} {off : Int} (tgt : Nat) (d : decode cc pc = .ok (.if_icmp .ge off, 3)) (ht : (pc : Int) + off = (tgt : Int)) (ha : -2147483648 ≤ a ∧ a < 2147483648) (hb : -2147483648 ≤ b ∧ b < 2147483648) 
    (kt : b ≤ a → Z l g R nL x k n w tgt lv st) (kf : ¬ (b ≤ a) → Z l g R nL x k n w (pc + 3) lv st) : Z l g R nL x k n w pc lv (vi b :: vi a :: st) := by
  obtain ⟨p, e, s, m, args, below, meth, c, A, Q⟩ := x
  intro H locs ls hP hD hS h
  have I := vi_le hb ha
  exact lv_icmp_ge (tgt := tgt) hx.1 hx.2.1 d ht (fun z => kt (I.mp z) H locs ls hP hD hS h) (fun z => kf (fun q => z (I.mpr q)) H locs ls hP hD hS h)
theorem zz_if_gt (hx : zOK l g nL x own cc) {a : Int} {off : Int} (tgt : Nat) (d : decode cc pc = .ok (.ifCond .gt off, 3)) (ht : (pc : Int) + off = (tgt : Int)) (ha : -2147483648 ≤ a ∧ a < 2147483648) 
    (kt : 0 < a → Z l g R nL x k n w tgt lv st) (kf : ¬ (0 < a) → Z l g R nL x k n w (pc + 3) lv st) : Z l g R nL x k n w pc lv (vi a :: st) := by
  obtain ⟨p, e, s, m, args, below, meth, c, A, Q⟩ := x
  intro H locs ls hP hD hS h
  have I := vi_lt zr0 ha
  exact lv_if_gt (tgt := tgt) hx.1 hx.2.1 d ht (fun z => kt (I.mp z) H locs ls hP hD hS h) (fun z => kf (fun q => z (I.mpr q)) H locs ls hP hD hS h)
theorem zz_icmp_gt (hx : zOK l g nL x own cc) {a b : Int} {off : Int} (tgt : Nat) (d : decode cc pc = .ok (.if_icmp .gt off, 3)) (ht : (pc : Int) + off = (tgt : Int)) (ha : -2147483648 ≤ a ∧ a < 2147483648) (hb : -2147483648 ≤ b ∧ b < 2147483648) 
    (kt : b < a → Z l g R nL x k n w tgt lv st) (kf : ¬ (b < a) → Z l g R nL x k n w (pc + 3) lv st) : Z l g R nL x k n w pc lv (vi b :: vi a :: st) := by
  obtain ⟨p, e, s, m, args, below, meth, c, A, Q⟩ := x
  intro H locs ls hP hD hS h
  have I := vi_lt hb ha
  exact lv_icmp_gt (tgt := tgt) hx.1 hx.2.1 d ht (fun z => kt (I.mp z) H locs ls hP hD hS h) (fun z => kf (fun q => z (I.mpr q)) H locs ls hP hD hS h)
theorem zz_if_le (hx : zOK l g nL x own cc) {a : Int} {off : Int} (tgt : Nat) (d : decode cc pc = .ok (.ifCond .le off, 3)) (ht : (pc : Int) + off = (tgt : Int)) (ha : -2147483648 ≤ a ∧ a < 2147483648) 
    (kt : a ≤ 0 → Z l g R nL x k n w tgt lv st) (kf : ¬ (a ≤ 0) → Z l g R nL x k n w (pc + 3) lv st) : Z l g R nL x k n w pc lv (vi a :: st) := by
  obtain ⟨p, e, s, m, args, below, meth, c, A, Q⟩ := x
  intro H locs ls hP hD hS h
  have I := vi_le ha zr0
  exact lv_if_le (tgt := tgt) hx.1 hx.2.1 d ht (fun z => kt (I.mp z) H locs ls hP hD hS h) (fun z => kf (fun q => z (I.mpr q)) H locs ls hP hD hS h)
theorem zz_icmp_le (hx : zOK l g nL x own cc) {a b : Int} {off : Int} (tgt : Nat) (d : decode cc pc = .ok (.if_icmp .le off, 3)) (ht : (pc : Int) + off = (tgt : Int)) (ha : -2147483648 ≤ a ∧ a < 2147483648) (hb : -2147483648 ≤ b ∧ b < 2147483648) 
    (kt : a ≤ b → Z l g R nL x k n w tgt lv st) (kf : ¬ (a ≤ b) → Z l g R nL x k n w (pc + 3) lv st) : Z l g R nL x k n w pc lv (vi b :: vi a :: st) := by
  obtain ⟨p, e, s, m, args, below, meth, c, A, Q⟩ := x
  intro H locs ls hP hD hS h
  have I := vi_le ha hb
  exact lv_icmp_le (tgt := tgt) hx.1 hx.2.1 d ht (fun z => kt (I.mp z) H locs ls hP hD hS h) (fun z => kf (fun q => z (I.mpr q)) H locs ls hP hD hS h)
/-- a truth value, tested -/
theorem zz_ifb_eq (hx : zOK l g nL x own cc) {P : Prop} [Decidable P] {off : Int} (tgt : Nat) (d : decode cc pc = .ok (.ifCond .eq off, 3)) (ht : (pc : Int) + off = (tgt : Int))
    (kt : ¬ P → Z l g R nL x k n w tgt lv st) (kf : P → Z l g R nL x k n w (pc + 3) lv st) : Z l g R nL x k n w pc lv (vi (zb P) :: st) := by
  refine zz_if_eq hx tgt d ht (by rcases zb_01 P with h | h <;> rw [h] <;> decide) (fun z => kt (zb_eq.mp z)) (fun z => kf ?_)
  rcases Decidable.em P with h | h
  · exact h
  · exact absurd (zb_f h) z
theorem zz_ifb_ne (hx : zOK l g nL x own cc) {P : Prop} [Decidable P] {off : Int} (tgt : Nat) (d : decode cc pc = .ok (.ifCond .ne off, 3)) (ht : (pc : Int) + off = (tgt : Int))
    (kt : P → Z l g R nL x k n w tgt lv st) (kf : ¬ P → Z l g R nL x k n w (pc + 3) lv st) : Z l g R nL x k n w pc lv (vi (zb P) :: st) := by
  refine zz_if_ne hx tgt d ht (by rcases zb_01 P with h | h <;> rw [h] <;> decide) (fun z => kt ?_) (fun z => kf (zb_eq.mp z))
  rcases Decidable.em P with h | h
  · exact h
  · exact absurd (zb_f h) z
/-! fields and arrays -/
theorem zz_get (hx : zOK l g nL x own cc) {index ci fk N : Nat} {C : String} {T : u_T} (hL : zLf own index ci fk C T N) (hc : zcl[ci]? = some (C, T, N)) (q0 : Nat) {a : Nat} {fs : List Value} (he : w[q0]? = some (a, .inr (ci, fs))) {v : Value} (hv : fs[fk]? = some v) (d : decode cc pc = .ok (.getfield index, 3))
    (kk : Z l g R nL x k n w (pc + 3) lv (v :: st)) : Z l g R nL x k n w pc lv (.ref a :: st) := by
  obtain ⟨p, e, s, m, args, below, meth, c, A, Q⟩ := x
  obtain ⟨h1, h2, -, h4, h5, h6, -⟩ := hx
  obtain ⟨f1, f2, f3, f4⟩ := hL
  intro H locs ls hP hD hS h
  exact va_get (D := g.1) h1 h2 h5 f4 h4 h6.1 hP q0 he hc fk f1 (h5 _ f2) (fun z hz => by rw [← f3]; exact hz) hv d (kk H locs ls hP hD hS h)
/-- a field that is no final one, of ints -/
theorem zz_put (hx : zOK l g nL x own cc) {index ci fk N : Nat} {C : String} {T : u_T} (hL : zLf own index ci fk C T N) (hc : zcl[ci]? = some (C, T, N)) (ty0 : Nat → FieldType) (hty : ∀ k, k < N → parseFieldDescriptor (T k).2.2.1 = some (ty0 k)) (hnm : ∀ a, a < N → ∀ b, b < N → a ≠ b → (T a).2.1 ≠ (T b).2.1) (q0 : Nat) {a : Nat} {fs : List Value} (he : w[q0]? = some (a, .inr (ci, fs))) (hfin : (T fk).2.2.2 = false) (hI : ty0 fk = .int) (hl : fk < fs.length) {v : Int} (d : decode cc pc = .ok (.putfield index, 3))
    {w' : va_W} (hw : w.set q0 (a, .inr (ci, fs.set fk (vi v))) = w') (kk : Z l g R nL x k n w' (pc + 3) lv st) : Z l g R nL x k n w pc lv (vi v :: .ref a :: st) := by
  obtain ⟨p, e, s, m, args, below, meth, c, A, Q⟩ := x
  obtain ⟨h1, h2, -, h4, h5, h6, -⟩ := hx
  obtain ⟨f1, f2, f3, f4⟩ := hL
  subst hw
  intro H locs ls hP hD hS h
  exact va_put (D := g.1) (v := vi v) (ty := .int) h1 h2 h5 f4 ty0 hty hnm h4 h6.1 hP hD hS q0 he hc fk f1 (h5 _ f2) (fun z hz => by rw [← f3]; exact hz) hfin (by rw [← hI]; exact hty fk f1) rfl rfl hl d
    (fun H1 locs1 hP1 hD1 hS1 => kk H1 locs1 ls hP1 hD1 hS1 h)
/-- ints in a row, by their numbers -/
def zar (n : Nat) (f : Int → Int) : vp_A := (n, .inl (fun j : Nat => Int32.ofInt (f (j : Int))))
def zup (f : Int → Int) (i v : Int) : Int → Int := fun j => if j = i then v else f j
theorem zup_s (f : Int → Int) (i v : Int) : zup f i v i = v := if_pos rfl
theorem zup_n (f : Int → Int) {i j : Int} (v : Int) (h : j ≠ i) : zup f i v j = f j := if_neg h
theorem zar_up (n : Nat) (f : Int → Int) {i : Int} (v : Int) (h0 : 0 ≤ i) (h1 : i < 2147483648) : ((n, .inl (upd (fun j : Nat => Int32.ofInt (f (j : Int))) (Int32.ofInt i).toNatClampNeg (Int32.ofInt v))) : vp_A) = zar n (zup f i v) := by
  unfold zar
  congr 2
  funext j
  rw [vi_cl h0 h1]
  unfold upd zup
  by_cases hj : j = i.toNat
  · rw [if_pos hj, if_pos (by omega)]
  · rw [if_neg hj, if_neg (by omega)]
theorem zz_iald (hx : zOK l g nL x own cc) (q0 : Nat) {a N : Nat} {f : Int → Int} (he : w[q0]? = some (a, .inl (g.2.1, zar N f))) (hN : N < 2147483648) {i : Int} (h0 : 0 ≤ i) (h1 : i < (N : Int)) (d : decode cc pc = .ok (.iaload, 1))
    (kk : Z l g R nL x k n w (pc + 1) lv (vi (f i) :: st)) : Z l g R nL x k n w pc lv (vi i :: .ref a :: st) := by
  obtain ⟨p, e, s, m, args, below, meth, c, A, Q⟩ := x
  obtain ⟨h2, h3, -, h4, h5, h6, -⟩ := hx
  intro H locs ls hP hD hS h
  refine va_iald (D := g.1) h2 h3 h6.1 hP q0 0 he rfl (vi_in h0 h1 hN) d ?_
  rw [vi_cl h0 (by omega), Int.toNat_of_nonneg h0]
  exact kk H locs ls hP hD hS h
theorem zz_iast (hx : zOK l g nL x own cc) (q0 : Nat) {a N : Nat} {f : Int → Int} (he : w[q0]? = some (a, .inl (g.2.1, zar N f))) (hN : N < 2147483648) {i v : Int} (h0 : 0 ≤ i) (h1 : i < (N : Int)) (d : decode cc pc = .ok (.iastore, 1))
    {w' : va_W} (hw : w.set q0 (a, .inl (g.2.1, zar N (zup f i v))) = w') (kk : Z l g R nL x k n w' (pc + 1) lv st) : Z l g R nL x k n w pc lv (vi v :: vi i :: .ref a :: st) := by
  obtain ⟨p, e, s, m, args, below, meth, c, A, Q⟩ := x
  obtain ⟨h2, h3, -, h4, h5, h6, -⟩ := hx
  subst hw
  intro H locs ls hP hD hS h
  refine va_iast (D := g.1) h2 h3 h6.1 hP hD hS q0 0 he rfl (vi_in h0 h1 hN) d (fun H1 locs1 hP1 hD1 hS1 => ?_)
  rw [zar_up N f v h0 (by omega)] at hP1 hD1
  exact kk H1 locs1 ls hP1 hD1 hS1 h
theorem zz_alen (hx : zOK l g nL x own cc) (q0 : Nat) {a N : Nat} {f : Int → Int} (he : w[q0]? = some (a, .inl (g.2.1, zar N f))) (d : decode cc pc = .ok (.arraylength, 1))
    (kk : Z l g R nL x k n w (pc + 1) lv (vi (N : Int) :: st)) : Z l g R nL x k n w pc lv (.ref a :: st) := by
  obtain ⟨p, e, s, m, args, below, meth, c, A, Q⟩ := x
  obtain ⟨h2, h3, -, h4, h5, h6, -⟩ := hx
  intro H locs ls hP hD hS h
  exact va_alen (D := g.1) h2 h3 h6.1 hP q0 0 he rfl (v := Int32.ofInt (N : Int)) rfl d (kk H locs ls hP hD hS h)
/-! ends -/
variable {w0 : va_W} {Post : Option Value → va_W → Prop} {PX : String → va_W → Prop} {mc ms : Nat}
theorem zz_iret (hx : zOK l g nL x own cc) (hf : zFin g x w0 Post PX mc ms (some .int)) (d : decode cc pc = .ok (.ireturn, 1)) {a : Int} (hp : Post (some (vi a)) w) (h1 : k ≤ mc) (h2 : n ≤ ms) : Z l g R nL x k n w pc lv [vi a] := by
  refine zz_widen h1 h2 ?_
  obtain ⟨p, e, s, m, args, below, meth, c, A, Q⟩ := x
  obtain ⟨h2, h3, -, h4, h5, h6, h7, h8, -⟩ := hx
  obtain ⟨hr, sz, rfl, rfl⟩ := hf
  intro H locs ls hP hD hS h
  exact vx_ret (W.iret h2 h3 hr (fun t ht _ => ⟨⟨_, w, rfl, hp, by rw [ht]; exact hP, hD⟩, hS.F ht⟩) hS.2.2 d h8)
theorem zz_zret (hx : zOK l g nL x own cc) (hf : zFin g x w0 Post PX mc ms (some .boolean)) (d : decode cc pc = .ok (.ireturn, 1)) {a : Int} (ha : a = 0 ∨ a = 1) (hp : Post (some (vi a)) w) (h1 : k ≤ mc) (h2 : n ≤ ms) : Z l g R nL x k n w pc lv [vi a] := by
  refine zz_widen h1 h2 ?_
  obtain ⟨p, e, s, m, args, below, meth, c, A, Q⟩ := x
  obtain ⟨h2, h3, -, h4, h5, h6, h7, h8, -⟩ := hx
  obtain ⟨hr, sz, rfl, rfl⟩ := hf
  intro H locs ls hP hD hS h
  exact vx_ret (W.zret h2 h3 hr (by rcases ha with rfl | rfl <;> rfl) (fun t ht _ => ⟨⟨_, w, rfl, hp, by rw [ht]; exact hP, hD⟩, hS.F ht⟩) hS.2.2 d h8)
theorem zz_vret (hx : zOK l g nL x own cc) (hf : zFin g x w0 Post PX mc ms none) (d : decode cc pc = .ok (.return_, 1)) (hp : Post none w) (h1 : k ≤ mc) (h2 : n ≤ ms) : Z l g R nL x k n w pc lv [] := by
  refine zz_widen h1 h2 ?_
  obtain ⟨p, e, s, m, args, below, meth, c, A, Q⟩ := x
  obtain ⟨h2, h3, -, h4, h5, h6, h7, h8, -⟩ := hx
  obtain ⟨hr, sz, rfl, rfl⟩ := hf
  intro H locs ls hP hD hS h
  exact vx_ret (W.vret h2 h3 hr (fun t ht _ => ⟨⟨_, w, rfl, hp, by rw [ht]; exact hP, hD⟩, hS.F ht⟩) hS.2.2 d h8)
theorem zz_aret (hx : zOK l g nL x own cc) {C : String} (hf : zFin g x w0 Post PX mc ms (some (.object C))) (d : decode cc pc = .ok (.areturn, 1)) {a : Nat} (hp : Post (some (.ref a)) w) (h1 : k ≤ mc) (h2 : n ≤ ms) : Z l g R nL x k n w pc lv [.ref a] := by
  refine zz_widen h1 h2 ?_
  obtain ⟨p, e, s, m, args, below, meth, c, A, Q⟩ := x
  obtain ⟨h2, h3, -, h4, h5, h6, h7, h8, -⟩ := hx
  obtain ⟨hr, sz, rfl, rfl⟩ := hf
  intro H locs ls hP hD hS h
  exact vx_ret (W.aret h2 h3 hr (Or.inl ⟨C, rfl⟩) (Or.inr ⟨a, rfl⟩) (fun t ht _ => ⟨⟨_, w, rfl, hp, by rw [ht]; exact hP, hD⟩, hS.F ht⟩) hS.2.2 d h8)
/-- an exception that no table catches leaves the method -/
theorem zz_out {ret : Option FieldType} (hx : zOK l g nL x own cc) (hf : zFin g x w0 Post PX mc ms ret) (hn : zNT x) {E : String} (hp : PX E w) (h1 : k ≤ mc) (h2 : n ≤ ms) : ZT l g R nL x k n w pc lv st E := by
  obtain ⟨p, e, s, m, args, below, meth, c, A, Q⟩ := x
  obtain ⟨-, h3, -, h4, h5, h6, h7, h8, -⟩ := hx
  obtain ⟨hr, sz, rfl, rfl⟩ := hf
  intro H locs ls ce q9 hP hD hS h hc hv hcl
  exact vx_out (fun z hz => (hn z hz).elim) h8 hc hv hcl (fun t ht _ => ⟨⟨w, hp, by rw [ht]; exact hP, hD⟩, hS.F ht⟩) hS.2.2 h1 h2
/-! calls -/
/-- what is behind a call of a contract's method -/
theorem zz_after {p : Program} {e : Env} {s : State} {m : MethodId} {args : Array Value} {below : List Frame} {meth : Method} {c : Code} {A : Nat → Prop} {Q : State → Prop} {H : Heap} {locs : List Loc} {ls : Array Slot} {st0 : List Value} {mc' ms' : Nat} {P' : Option Value → va_W → Prop} {X' : String → va_W → Prop} {aa : Array Value}
    (hr : vx_Run p l e R s m args below meth c H locs k n mc' ms' (F0 m pc ls st0) st (zQc g w H.size P' aa) (zXc g w H.size X') (va_A w H.size)) (hD : va_D A w) (hS : va_S A s.heap H locs) (hl : lv_has ls nL lv) (hA : ∀ q : Nat, s.heap.size ≤ q → A q)
    (kk : ∀ (v : Option Value) (w1 : va_W), P' v w1 → Z l g R nL (p, e, s, m, args, below, meth, c, A, Q) (k + mc') (n + ms') w1 (pc + 3) lv (v.toList ++ st))
    (kx : ∀ (E : String) (w1 : va_W), X' E w1 → ZT l g R nL (p, e, s, m, args, below, meth, c, A, Q) (k + mc') (n + ms') w1 pc lv st E) : W p l e R s m args below meth c H locs k n Q (F0 m pc ls st0) := by
  have hF : ∀ q : Nat, va_A w H.size q → A q := fun q h => by
    rcases h with ⟨j, e9, h⟩ | h
    · exact hD.2 j (q, e9) h
    · exact hA q (Nat.le_trans hS.1 h)
  intro T hT X
  rcases hr T hT X with ⟨v, st₀, t, T', L, h0, X', hL, e1, e2, ⟨⟨v', w1, hv, hp, hP1, hD1⟩, hFr⟩, stp⟩ | ⟨q, st₀, t, T', L, E, ce, h0, X', hL, e1, e2, ⟨⟨w1, hp, hP1, hD1⟩, hFr⟩, hce, hcv, hcl, stp⟩
  · cases hv
    obtain ⟨k1, k2, k3⟩ := vx_keep h0 e1 hS (fun q _ h => hF q h) hF hL hFr
    obtain ⟨t2, a1, b1⟩ := kk v w1 hp T'.heap (locs ++ L) ls (by rw [e1]; exact hP1) (hD1.weaken (fun _ _ _ h => hF _ h)) k3 hl T' rfl X'
    exact ⟨t2, stp t2 a1, b1⟩
  · obtain ⟨k1, k2, k3⟩ := vx_keep h0 e1 hS (fun q _ h => hF q h) hF hL hFr
    obtain ⟨t2, a1, b1⟩ := kx E w1 hp T'.heap (locs ++ L) ls ce q (by rw [e1]; exact hP1) (hD1.weaken (fun _ _ _ h => hF _ h)) k3 hl (by rw [e1]; exact hce) hcv hcl T' rfl X'
    exact ⟨t2, stp.trans a1, b1⟩
theorem zz_pre {s : State} {m : MethodId} {A : Nat → Prop} {H : Heap} {locs : List Loc} {av : List Value} (hP : va_P g.1 zcl w H) (hD : va_D A w) (hS : va_S A s.heap H locs) (hA : ∀ q : Nat, s.heap.size ≤ q → A q) (hE : zE g s) (hQ : zQ g A s s.heap) : ∀ U : State, U.heap = H → s.WarmedH U.vm → zPc g w H.size av av.toArray U := by
  intro U hU hW
  refine ⟨rfl, by rw [hU], by rw [hU]; exact hP, zE_warm hW hE, ?_, hD.weaken (fun _ _ _ _ => trivial)⟩
  rw [hU]
  refine zQ_moved hW.alike (zQ_narrow (zQ_kept hQ hS.2.1) fun q h => ?_)
  rcases h with ⟨j, e9, h⟩ | h
  · exact hD.2 j (q, e9) h
  · exact hA q (Nat.le_trans hS.1 h)
theorem zz_callV {index : Nat} {y : MethodName} {bytes : ByteArray} {maxL na : Nat} {ret : Option FieldType} {rm : Room} {b : Nat} {As : List Value} {P' : Option Value → va_W → Prop} {X' : String → va_W → Prop} {mc' ms' ci : Nat} {T0 : u_T} {N0 : Nat} {fs : List Value} {st0 : List Value}
    (hx : zOK l g nL x own cc) (hm : zMe y bytes maxL ret na) (hk : Cond.methodLink own index y ∈ zT) (hc : zM l g y bytes maxL ret rm (.ref b :: As) w P' X' mc' ms')
    (q0 : Nat) (he : w[q0]? = some (b, .inr (ci, fs))) (hcl : zcl[ci]? = some (y.cls, T0, N0)) (hrm : rm.cells = mc' ∧ rm.slots = ms') (hR : rm.frames + 1 ≤ R.frames ∧ 8 + (maxL + 11) + rm.locals ≤ R.locals) (hcs : k + mc' ≤ R.cells ∧ n + ms' ≤ R.slots) (hn : As.length = na) (hst : st0 = As.reverse ++ .ref b :: st) (h8 : (st.map fun v => v.category).sum ≤ 8) (d : decode cc pc = .ok (.invokevirtual index, 3))
    (kx : ∀ (E : String) (w1 : va_W), X' E w1 → ZT l g R nL x (k + mc') (n + ms') w1 pc lv st E)
    (kk : ∀ (v : Option Value) (w1 : va_W), P' v w1 → Z l g R nL x (k + mc') (n + ms') w1 (pc + 3) lv (v.toList ++ st)) : Z l g R nL x k n w pc lv st0 := by
  obtain ⟨p, e, s, m, args, below, meth, c, A, Q⟩ := x
  obtain ⟨h2, h3, h3', h4, h5, h6, h7, h8', h9, hA⟩ := hx
  obtain ⟨m1, m2, m3, m4, m5, m6⟩ := hm
  intro H locs ls hP hD hS h
  have cb : CallB R s args own index y bytes maxL ret (.code y bytes maxL ret :: zT) rm mc' ms' na := callB_of na h5 (zT_good m4) rfl hrm.1 hrm.2 (h5 _ m3) (h5 _ hk) ⟨m5.1, m5.2, m6⟩ hR
  exact zz_after (vx_runV ⟨h2, h3, h3', h4, h5⟩ (hc H.size) ⟨cb, h5 _ m1, h5 _ m2⟩ ⟨zPc_blind, va_recv h6.1 hP hcl he, zz_pre (m := m) hP hD hS hA h6 h7⟩ rfl hn h.1 hst (lv_room h8) d hcs) hD hS h hA kk kx
theorem zz_callS {index na : Nat} {y : MethodName} {bytes : ByteArray} {maxL : Nat} {ret : Option FieldType} {rm : Room} {As : List Value} {P' : Option Value → va_W → Prop} {X' : String → va_W → Prop} {mc' ms' : Nat} {st0 : List Value}
    (hx : zOK l g nL x own cc) (hm : zMs y bytes maxL ret na) (hk : Cond.methodLink own index y ∈ zT) (hc : zM l g y bytes maxL ret rm As w P' X' mc' ms')
    (hrm : rm.cells = mc' ∧ rm.slots = ms') (hR : rm.frames + 1 ≤ R.frames ∧ 8 + (maxL + 11) + rm.locals ≤ R.locals) (hcs : k + mc' ≤ R.cells ∧ n + ms' ≤ R.slots) (hn : As.length = na) (hst : st0 = As.reverse ++ st) (h8 : (st.map fun v => v.category).sum ≤ 8) (d : decode cc pc = .ok (.invokestatic index, 3))
    (kx : ∀ (E : String) (w1 : va_W), X' E w1 → ZT l g R nL x (k + mc') (n + ms') w1 pc lv st E)
    (kk : ∀ (v : Option Value) (w1 : va_W), P' v w1 → Z l g R nL x (k + mc') (n + ms') w1 (pc + 3) lv (v.toList ++ st)) : Z l g R nL x k n w pc lv st0 := by
  obtain ⟨p, e, s, m, args, below, meth, c, A, Q⟩ := x
  obtain ⟨h2, h3, h3', h4, h5, h6, h7, h8', h9, hA⟩ := hx
  obtain ⟨m1, m3, m4, m5, m6⟩ := hm
  intro H locs ls hP hD hS h
  have cb : CallB R s args own index y bytes maxL ret (.code y bytes maxL ret :: zT) rm mc' ms' na := callB_of na h5 (zT_good m4) rfl hrm.1 hrm.2 (h5 _ m3) (h5 _ hk) ⟨m5.1, m5.2, m6⟩ hR
  exact zz_after (vx_runS ⟨h2, h3, h3', h4, h5⟩ (hc H.size) ⟨cb, h5 _ m1⟩ ⟨zPc_blind, zz_pre (m := m) hP hD hS hA h6 h7⟩ rfl hn h.1 hst (lv_room h8) d hcs) hD hS h hA kk kx
theorem zz_callVi {index : Nat} {y : MethodName} {bytes : ByteArray} {maxL na : Nat} {ret : Option FieldType} {rm : Room} {b : Nat} {As : List Value} {P : Int → va_W → Prop} {X' : String → va_W → Prop} {mc' ms' ci : Nat} {T0 : u_T} {N0 : Nat} {fs : List Value} {st0 : List Value}
    (hx : zOK l g nL x own cc) (hm : zMe y bytes maxL ret na) (hk : Cond.methodLink own index y ∈ zT) (hc : zM l g y bytes maxL ret rm (.ref b :: As) w (zI P) X' mc' ms')
    (q0 : Nat) (he : w[q0]? = some (b, .inr (ci, fs))) (hcl : zcl[ci]? = some (y.cls, T0, N0)) (hrm : rm.cells = mc' ∧ rm.slots = ms') (hR : rm.frames + 1 ≤ R.frames ∧ 8 + (maxL + 11) + rm.locals ≤ R.locals) (hcs : k + mc' ≤ R.cells ∧ n + ms' ≤ R.slots) (hn : As.length = na) (hst : st0 = As.reverse ++ .ref b :: st) (h8 : (st.map fun v => v.category).sum ≤ 8) (d : decode cc pc = .ok (.invokevirtual index, 3))
    (kx : ∀ (E : String) (w1 : va_W), X' E w1 → ZT l g R nL x (k + mc') (n + ms') w1 pc lv st E)
    (kk : ∀ (r : Int) (w1 : va_W), P r w1 → Z l g R nL x (k + mc') (n + ms') w1 (pc + 3) lv (vi r :: st)) : Z l g R nL x k n w pc lv st0 :=
  zz_callV hx hm hk hc q0 he hcl hrm hR hcs hn hst h8 d kx (fun v w1 hp => by obtain ⟨r, rfl, hp⟩ := hp; exact kk r w1 hp)
theorem zz_callSi {index na : Nat} {y : MethodName} {bytes : ByteArray} {maxL : Nat} {ret : Option FieldType} {rm : Room} {As : List Value} {P : Int → va_W → Prop} {X' : String → va_W → Prop} {mc' ms' : Nat} {st0 : List Value}
    (hx : zOK l g nL x own cc) (hm : zMs y bytes maxL ret na) (hk : Cond.methodLink own index y ∈ zT) (hc : zM l g y bytes maxL ret rm As w (zI P) X' mc' ms')
    (hrm : rm.cells = mc' ∧ rm.slots = ms') (hR : rm.frames + 1 ≤ R.frames ∧ 8 + (maxL + 11) + rm.locals ≤ R.locals) (hcs : k + mc' ≤ R.cells ∧ n + ms' ≤ R.slots) (hn : As.length = na) (hst : st0 = As.reverse ++ st) (h8 : (st.map fun v => v.category).sum ≤ 8) (d : decode cc pc = .ok (.invokestatic index, 3))
    (kx : ∀ (E : String) (w1 : va_W), X' E w1 → ZT l g R nL x (k + mc') (n + ms') w1 pc lv st E)
    (kk : ∀ (r : Int) (w1 : va_W), P r w1 → Z l g R nL x (k + mc') (n + ms') w1 (pc + 3) lv (vi r :: st)) : Z l g R nL x k n w pc lv st0 :=
  zz_callS hx hm hk hc hrm hR hcs hn hst h8 d kx (fun v w1 hp => by obtain ⟨r, rfl, hp⟩ := hp; exact kk r w1 hp)
theorem zz_callVv {index : Nat} {y : MethodName} {bytes : ByteArray} {maxL na : Nat} {ret : Option FieldType} {rm : Room} {b : Nat} {As : List Value} {P : va_W → Prop} {X' : String → va_W → Prop} {mc' ms' ci : Nat} {T0 : u_T} {N0 : Nat} {fs : List Value} {st0 : List Value}
    (hx : zOK l g nL x own cc) (hm : zMe y bytes maxL ret na) (hk : Cond.methodLink own index y ∈ zT) (hc : zM l g y bytes maxL ret rm (.ref b :: As) w (zV P) X' mc' ms')
    (q0 : Nat) (he : w[q0]? = some (b, .inr (ci, fs))) (hcl : zcl[ci]? = some (y.cls, T0, N0)) (hrm : rm.cells = mc' ∧ rm.slots = ms') (hR : rm.frames + 1 ≤ R.frames ∧ 8 + (maxL + 11) + rm.locals ≤ R.locals) (hcs : k + mc' ≤ R.cells ∧ n + ms' ≤ R.slots) (hn : As.length = na) (hst : st0 = As.reverse ++ .ref b :: st) (h8 : (st.map fun v => v.category).sum ≤ 8) (d : decode cc pc = .ok (.invokevirtual index, 3))
    (kx : ∀ (E : String) (w1 : va_W), X' E w1 → ZT l g R nL x (k + mc') (n + ms') w1 pc lv st E)
    (kk : ∀ w1 : va_W, P w1 → Z l g R nL x (k + mc') (n + ms') w1 (pc + 3) lv (st)) : Z l g R nL x k n w pc lv st0 :=
  zz_callV hx hm hk hc q0 he hcl hrm hR hcs hn hst h8 d kx (fun v w1 hp => by obtain ⟨rfl, hp⟩ := hp; exact kk w1 hp)
theorem zz_callSv {index na : Nat} {y : MethodName} {bytes : ByteArray} {maxL : Nat} {ret : Option FieldType} {rm : Room} {As : List Value} {P : va_W → Prop} {X' : String → va_W → Prop} {mc' ms' : Nat} {st0 : List Value}
    (hx : zOK l g nL x own cc) (hm : zMs y bytes maxL ret na) (hk : Cond.methodLink own index y ∈ zT) (hc : zM l g y bytes maxL ret rm As w (zV P) X' mc' ms')
    (hrm : rm.cells = mc' ∧ rm.slots = ms') (hR : rm.frames + 1 ≤ R.frames ∧ 8 + (maxL + 11) + rm.locals ≤ R.locals) (hcs : k + mc' ≤ R.cells ∧ n + ms' ≤ R.slots) (hn : As.length = na) (hst : st0 = As.reverse ++ st) (h8 : (st.map fun v => v.category).sum ≤ 8) (d : decode cc pc = .ok (.invokestatic index, 3))
    (kx : ∀ (E : String) (w1 : va_W), X' E w1 → ZT l g R nL x (k + mc') (n + ms') w1 pc lv st E)
    (kk : ∀ w1 : va_W, P w1 → Z l g R nL x (k + mc') (n + ms') w1 (pc + 3) lv (st)) : Z l g R nL x k n w pc lv st0 :=
  zz_callS hx hm hk hc hrm hR hcs hn hst h8 d kx (fun v w1 hp => by obtain ⟨rfl, hp⟩ := hp; exact kk w1 hp)
theorem zz_callVa {index : Nat} {y : MethodName} {bytes : ByteArray} {maxL na : Nat} {ret : Option FieldType} {rm : Room} {b : Nat} {As : List Value} {P : Nat → va_W → Prop} {X' : String → va_W → Prop} {mc' ms' ci : Nat} {T0 : u_T} {N0 : Nat} {fs : List Value} {st0 : List Value}
    (hx : zOK l g nL x own cc) (hm : zMe y bytes maxL ret na) (hk : Cond.methodLink own index y ∈ zT) (hc : zM l g y bytes maxL ret rm (.ref b :: As) w (zA P) X' mc' ms')
    (q0 : Nat) (he : w[q0]? = some (b, .inr (ci, fs))) (hcl : zcl[ci]? = some (y.cls, T0, N0)) (hrm : rm.cells = mc' ∧ rm.slots = ms') (hR : rm.frames + 1 ≤ R.frames ∧ 8 + (maxL + 11) + rm.locals ≤ R.locals) (hcs : k + mc' ≤ R.cells ∧ n + ms' ≤ R.slots) (hn : As.length = na) (hst : st0 = As.reverse ++ .ref b :: st) (h8 : (st.map fun v => v.category).sum ≤ 8) (d : decode cc pc = .ok (.invokevirtual index, 3))
    (kx : ∀ (E : String) (w1 : va_W), X' E w1 → ZT l g R nL x (k + mc') (n + ms') w1 pc lv st E)
    (kk : ∀ (r : Nat) (w1 : va_W), P r w1 → Z l g R nL x (k + mc') (n + ms') w1 (pc + 3) lv (.ref r :: st)) : Z l g R nL x k n w pc lv st0 :=
  zz_callV hx hm hk hc q0 he hcl hrm hR hcs hn hst h8 d kx (fun v w1 hp => by obtain ⟨r, rfl, hp⟩ := hp; exact kk r w1 hp)
theorem zz_callSa {index na : Nat} {y : MethodName} {bytes : ByteArray} {maxL : Nat} {ret : Option FieldType} {rm : Room} {As : List Value} {P : Nat → va_W → Prop} {X' : String → va_W → Prop} {mc' ms' : Nat} {st0 : List Value}
    (hx : zOK l g nL x own cc) (hm : zMs y bytes maxL ret na) (hk : Cond.methodLink own index y ∈ zT) (hc : zM l g y bytes maxL ret rm As w (zA P) X' mc' ms')
    (hrm : rm.cells = mc' ∧ rm.slots = ms') (hR : rm.frames + 1 ≤ R.frames ∧ 8 + (maxL + 11) + rm.locals ≤ R.locals) (hcs : k + mc' ≤ R.cells ∧ n + ms' ≤ R.slots) (hn : As.length = na) (hst : st0 = As.reverse ++ st) (h8 : (st.map fun v => v.category).sum ≤ 8) (d : decode cc pc = .ok (.invokestatic index, 3))
    (kx : ∀ (E : String) (w1 : va_W), X' E w1 → ZT l g R nL x (k + mc') (n + ms') w1 pc lv st E)
    (kk : ∀ (r : Nat) (w1 : va_W), P r w1 → Z l g R nL x (k + mc') (n + ms') w1 (pc + 3) lv (.ref r :: st)) : Z l g R nL x k n w pc lv st0 :=
  zz_callS hx hm hk hc hrm hR hcs hn hst h8 d kx (fun v w1 hp => by obtain ⟨r, rfl, hp⟩ := hp; exact kk r w1 hp)
end ZS
