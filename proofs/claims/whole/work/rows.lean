section
-- ===== PART A: goes FIRST, ahead of the names: the tables' words, and 'selects' of the private methods out of them =====
/-- a private method of a class that the tables say can be made, by its rows of tables_1 -/
def lw_okq (q : MethodName × Nat) : Prop := (q.1.cls ≠ "java/lang/invoke/MethodHandle" ∧ q.1.cls ≠ "java/lang/invoke/VarHandle") ∧ Cond.instantiable q.1.cls q.2 ∈ tables_1 ∧ Cond.privateMethod q.1 ∈ tables_1 ∧ Cond.instanceMethod q.1 ∈ tables_1
theorem lw_p0 : lw_okq (⟨"NetworkDatabase", "makeCurrent", "(I)I"⟩, 8) := ⟨⟨by decide +kernel, by decide +kernel⟩, List.mem_of_getElem? (i := 22) (by decide +kernel), List.mem_of_getElem? (i := 121) (by decide +kernel), List.mem_of_getElem? (i := 122) (by decide +kernel)⟩
theorem lw_p1 : lw_okq (⟨"NetworkDatabase", "requireType", "(I)V"⟩, 8) := ⟨⟨by decide +kernel, by decide +kernel⟩, List.mem_of_getElem? (i := 22) (by decide +kernel), List.mem_of_getElem? (i := 173) (by decide +kernel), List.mem_of_getElem? (i := 174) (by decide +kernel)⟩
theorem lw_p2 : lw_okq (⟨"java/lang/Throwable", "fillInStackTrace", "(I)Ljava/lang/Throwable;"⟩, 6) := ⟨⟨by decide +kernel, by decide +kernel⟩, List.mem_of_getElem? (i := 215) (by decide +kernel), List.mem_of_getElem? (i := 213) (by decide +kernel), List.mem_of_getElem? (i := 214) (by decide +kernel)⟩
theorem lw_p3 : lw_okq (⟨"java/util/ArrayList", "add", "(Ljava/lang/Object;[Ljava/lang/Object;I)V"⟩, 3) := ⟨⟨by decide +kernel, by decide +kernel⟩, List.mem_of_getElem? (i := 30) (by decide +kernel), List.mem_of_getElem? (i := 308) (by decide +kernel), List.mem_of_getElem? (i := 309) (by decide +kernel)⟩
theorem lw_p4 : lw_okq (⟨"java/util/ArrayList", "grow", "()[Ljava/lang/Object;"⟩, 3) := ⟨⟨by decide +kernel, by decide +kernel⟩, List.mem_of_getElem? (i := 30) (by decide +kernel), List.mem_of_getElem? (i := 312) (by decide +kernel), List.mem_of_getElem? (i := 313) (by decide +kernel)⟩
theorem lw_p5 : lw_okq (⟨"java/util/ArrayList", "grow", "(I)[Ljava/lang/Object;"⟩, 3) := ⟨⟨by decide +kernel, by decide +kernel⟩, List.mem_of_getElem? (i := 30) (by decide +kernel), List.mem_of_getElem? (i := 316) (by decide +kernel), List.mem_of_getElem? (i := 317) (by decide +kernel)⟩
theorem lw_p6 : lw_okq (⟨"NetworkDatabase", "requireValue", "(I)V"⟩, 8) := ⟨⟨by decide +kernel, by decide +kernel⟩, List.mem_of_getElem? (i := 22) (by decide +kernel), List.mem_of_getElem? (i := 365) (by decide +kernel), List.mem_of_getElem? (i := 366) (by decide +kernel)⟩
theorem lw_p7 : lw_okq (⟨"NetworkDatabase", "lacksSetFor", "(I)Z"⟩, 8) := ⟨⟨by decide +kernel, by decide +kernel⟩, List.mem_of_getElem? (i := 22) (by decide +kernel), List.mem_of_getElem? (i := 371) (by decide +kernel), List.mem_of_getElem? (i := 372) (by decide +kernel)⟩
theorem lw_p8 : lw_okq (⟨"NetworkDatabase$SetType", "link", "(II)V"⟩, 9) := ⟨⟨by decide +kernel, by decide +kernel⟩, List.mem_of_getElem? (i := 264) (by decide +kernel), List.mem_of_getElem? (i := 385) (by decide +kernel), List.mem_of_getElem? (i := 386) (by decide +kernel)⟩
theorem lw_p9 : lw_okq (⟨"NetworkDatabase$SetType", "frontFor", "(IILNetworkDatabase$Row;)I"⟩, 9) := ⟨⟨by decide +kernel, by decide +kernel⟩, List.mem_of_getElem? (i := 264) (by decide +kernel), List.mem_of_getElem? (i := 399) (by decide +kernel), List.mem_of_getElem? (i := 400) (by decide +kernel)⟩
theorem lw_p10 : lw_okq (⟨"NetworkDatabase$SetType", "frontBySorting", "(IILNetworkDatabase$Row;)I"⟩, 9) := ⟨⟨by decide +kernel, by decide +kernel⟩, List.mem_of_getElem? (i := 264) (by decide +kernel), List.mem_of_getElem? (i := 403) (by decide +kernel), List.mem_of_getElem? (i := 404) (by decide +kernel)⟩
theorem lw_p11 : lw_okq (⟨"NetworkDatabase", "requireRunUnit", "()V"⟩, 8) := ⟨⟨by decide +kernel, by decide +kernel⟩, List.mem_of_getElem? (i := 22) (by decide +kernel), List.mem_of_getElem? (i := 414) (by decide +kernel), List.mem_of_getElem? (i := 415) (by decide +kernel)⟩
theorem lw_p12 : lw_okq (⟨"NetworkDatabase", "requireWay", "(I)V"⟩, 8) := ⟨⟨by decide +kernel, by decide +kernel⟩, List.mem_of_getElem? (i := 22) (by decide +kernel), List.mem_of_getElem? (i := 438) (by decide +kernel), List.mem_of_getElem? (i := 439) (by decide +kernel)⟩
theorem lw_p13 : lw_okq (⟨"NetworkDatabase", "gatherDoomed", "(II)I"⟩, 8) := ⟨⟨by decide +kernel, by decide +kernel⟩, List.mem_of_getElem? (i := 22) (by decide +kernel), List.mem_of_getElem? (i := 443) (by decide +kernel), List.mem_of_getElem? (i := 444) (by decide +kernel)⟩
theorem lw_p14 : lw_okq (⟨"NetworkDatabase", "hasMembers", "(I)Z"⟩, 8) := ⟨⟨by decide +kernel, by decide +kernel⟩, List.mem_of_getElem? (i := 22) (by decide +kernel), List.mem_of_getElem? (i := 447) (by decide +kernel), List.mem_of_getElem? (i := 448) (by decide +kernel)⟩
theorem lw_p15 : lw_okq (⟨"NetworkDatabase", "gatherMembers", "(II)V"⟩, 8) := ⟨⟨by decide +kernel, by decide +kernel⟩, List.mem_of_getElem? (i := 22) (by decide +kernel), List.mem_of_getElem? (i := 477) (by decide +kernel), List.mem_of_getElem? (i := 478) (by decide +kernel)⟩
def lw_privs_1 : List (MethodName × Nat) := [(⟨"NetworkDatabase", "makeCurrent", "(I)I"⟩, 8), (⟨"NetworkDatabase", "requireType", "(I)V"⟩, 8), (⟨"java/lang/Throwable", "fillInStackTrace", "(I)Ljava/lang/Throwable;"⟩, 6), (⟨"java/util/ArrayList", "add", "(Ljava/lang/Object;[Ljava/lang/Object;I)V"⟩, 3), (⟨"java/util/ArrayList", "grow", "()[Ljava/lang/Object;"⟩, 3), (⟨"java/util/ArrayList", "grow", "(I)[Ljava/lang/Object;"⟩, 3), (⟨"NetworkDatabase", "requireValue", "(I)V"⟩, 8), (⟨"NetworkDatabase", "lacksSetFor", "(I)Z"⟩, 8), (⟨"NetworkDatabase$SetType", "link", "(II)V"⟩, 9), (⟨"NetworkDatabase$SetType", "frontFor", "(IILNetworkDatabase$Row;)I"⟩, 9), (⟨"NetworkDatabase$SetType", "frontBySorting", "(IILNetworkDatabase$Row;)I"⟩, 9), (⟨"NetworkDatabase", "requireRunUnit", "()V"⟩, 8), (⟨"NetworkDatabase", "requireWay", "(I)V"⟩, 8), (⟨"NetworkDatabase", "gatherDoomed", "(II)I"⟩, 8), (⟨"NetworkDatabase", "hasMembers", "(I)Z"⟩, 8), (⟨"NetworkDatabase", "gatherMembers", "(II)V"⟩, 8)]
theorem lw_r1 : ∀ q ∈ lw_privs_1, lw_okq q := List.forall_mem_cons.mpr ⟨lw_p0, List.forall_mem_cons.mpr ⟨lw_p1, List.forall_mem_cons.mpr ⟨lw_p2, List.forall_mem_cons.mpr ⟨lw_p3, List.forall_mem_cons.mpr ⟨lw_p4, List.forall_mem_cons.mpr ⟨lw_p5, List.forall_mem_cons.mpr ⟨lw_p6, List.forall_mem_cons.mpr ⟨lw_p7, List.forall_mem_cons.mpr ⟨lw_p8, List.forall_mem_cons.mpr ⟨lw_p9, List.forall_mem_cons.mpr ⟨lw_p10, List.forall_mem_cons.mpr ⟨lw_p11, List.forall_mem_cons.mpr ⟨lw_p12, List.forall_mem_cons.mpr ⟨lw_p13, List.forall_mem_cons.mpr ⟨lw_p14, List.forall_mem_cons.mpr ⟨lw_p15, fun _ h => absurd h List.not_mem_nil⟩⟩⟩⟩⟩⟩⟩⟩⟩⟩⟩⟩⟩⟩⟩⟩
theorem lw_p16 : lw_okq (⟨"NetworkDatabase", "remove", "(I)V"⟩, 8) := ⟨⟨by decide +kernel, by decide +kernel⟩, List.mem_of_getElem? (i := 22) (by decide +kernel), List.mem_of_getElem? (i := 491) (by decide +kernel), List.mem_of_getElem? (i := 492) (by decide +kernel)⟩
theorem lw_p17 : lw_okq (⟨"NetworkDatabase$SetType", "releaseMembers", "(I)V"⟩, 9) := ⟨⟨by decide +kernel, by decide +kernel⟩, List.mem_of_getElem? (i := 264) (by decide +kernel), List.mem_of_getElem? (i := 500) (by decide +kernel), List.mem_of_getElem? (i := 501) (by decide +kernel)⟩
theorem lw_p18 : lw_okq (⟨"NetworkDatabase", "requireSet", "(I)LNetworkDatabase$SetType;"⟩, 8) := ⟨⟨by decide +kernel, by decide +kernel⟩, List.mem_of_getElem? (i := 22) (by decide +kernel), List.mem_of_getElem? (i := 516) (by decide +kernel), List.mem_of_getElem? (i := 517) (by decide +kernel)⟩
theorem lw_p19 : lw_okq (⟨"NetworkDatabase", "requireMembership", "(LNetworkDatabase$SetType;)V"⟩, 8) := ⟨⟨by decide +kernel, by decide +kernel⟩, List.mem_of_getElem? (i := 22) (by decide +kernel), List.mem_of_getElem? (i := 549) (by decide +kernel), List.mem_of_getElem? (i := 550) (by decide +kernel)⟩
theorem lw_p20 : lw_okq (⟨"NetworkDatabase", "requireRecord", "(I)V"⟩, 8) := ⟨⟨by decide +kernel, by decide +kernel⟩, List.mem_of_getElem? (i := 22) (by decide +kernel), List.mem_of_getElem? (i := 630) (by decide +kernel), List.mem_of_getElem? (i := 631) (by decide +kernel)⟩
theorem lw_p21 : lw_okq (⟨"NetworkDatabaseModel", "can", "(I)Z"⟩, 19) := ⟨⟨by decide +kernel, by decide +kernel⟩, List.mem_of_getElem? (i := 687) (by decide +kernel), List.mem_of_getElem? (i := 763) (by decide +kernel), List.mem_of_getElem? (i := 764) (by decide +kernel)⟩
theorem lw_p22 : lw_okq (⟨"NetworkDatabaseModel", "currentOwner", "(I)I"⟩, 19) := ⟨⟨by decide +kernel, by decide +kernel⟩, List.mem_of_getElem? (i := 687) (by decide +kernel), List.mem_of_getElem? (i := 771) (by decide +kernel), List.mem_of_getElem? (i := 772) (by decide +kernel)⟩
theorem lw_p23 : lw_okq (⟨"NetworkDatabaseModel", "ownerIn", "(II)I"⟩, 19) := ⟨⟨by decide +kernel, by decide +kernel⟩, List.mem_of_getElem? (i := 687) (by decide +kernel), List.mem_of_getElem? (i := 775) (by decide +kernel), List.mem_of_getElem? (i := 776) (by decide +kernel)⟩
theorem lw_p24 : lw_okq (⟨"NetworkDatabaseModel", "insert", "(III)V"⟩, 19) := ⟨⟨by decide +kernel, by decide +kernel⟩, List.mem_of_getElem? (i := 687) (by decide +kernel), List.mem_of_getElem? (i := 779) (by decide +kernel), List.mem_of_getElem? (i := 780) (by decide +kernel)⟩
theorem lw_p25 : lw_okq (⟨"NetworkDatabaseModel", "newPlace", "(III)I"⟩, 19) := ⟨⟨by decide +kernel, by decide +kernel⟩, List.mem_of_getElem? (i := 687) (by decide +kernel), List.mem_of_getElem? (i := 783) (by decide +kernel), List.mem_of_getElem? (i := 784) (by decide +kernel)⟩
theorem lw_p26 : lw_okq (⟨"NetworkDatabaseModel", "placeOf", "(II)I"⟩, 19) := ⟨⟨by decide +kernel, by decide +kernel⟩, List.mem_of_getElem? (i := 687) (by decide +kernel), List.mem_of_getElem? (i := 787) (by decide +kernel), List.mem_of_getElem? (i := 788) (by decide +kernel)⟩
theorem lw_p27 : lw_okq (⟨"NetworkDatabaseModel", "becomes", "(I)I"⟩, 19) := ⟨⟨by decide +kernel, by decide +kernel⟩, List.mem_of_getElem? (i := 687) (by decide +kernel), List.mem_of_getElem? (i := 791) (by decide +kernel), List.mem_of_getElem? (i := 792) (by decide +kernel)⟩
theorem lw_p28 : lw_okq (⟨"NetworkDatabaseModel", "takeOut", "(II)V"⟩, 19) := ⟨⟨by decide +kernel, by decide +kernel⟩, List.mem_of_getElem? (i := 687) (by decide +kernel), List.mem_of_getElem? (i := 799) (by decide +kernel), List.mem_of_getElem? (i := 800) (by decide +kernel)⟩
theorem lw_p29 : lw_okq (⟨"NetworkDatabaseModel", "marks", "(II)I"⟩, 19) := ⟨⟨by decide +kernel, by decide +kernel⟩, List.mem_of_getElem? (i := 687) (by decide +kernel), List.mem_of_getElem? (i := 807) (by decide +kernel), List.mem_of_getElem? (i := 808) (by decide +kernel)⟩
theorem lw_p30 : lw_okq (⟨"NetworkDatabaseModel", "isGone", "(I)Z"⟩, 19) := ⟨⟨by decide +kernel, by decide +kernel⟩, List.mem_of_getElem? (i := 687) (by decide +kernel), List.mem_of_getElem? (i := 811) (by decide +kernel), List.mem_of_getElem? (i := 812) (by decide +kernel)⟩
theorem lw_p31 : lw_okq (⟨"NetworkDatabaseModel", "isSet", "(I)Z"⟩, 19) := ⟨⟨by decide +kernel, by decide +kernel⟩, List.mem_of_getElem? (i := 687) (by decide +kernel), List.mem_of_getElem? (i := 819) (by decide +kernel), List.mem_of_getElem? (i := 820) (by decide +kernel)⟩
def lw_privs_2 : List (MethodName × Nat) := [(⟨"NetworkDatabase", "remove", "(I)V"⟩, 8), (⟨"NetworkDatabase$SetType", "releaseMembers", "(I)V"⟩, 9), (⟨"NetworkDatabase", "requireSet", "(I)LNetworkDatabase$SetType;"⟩, 8), (⟨"NetworkDatabase", "requireMembership", "(LNetworkDatabase$SetType;)V"⟩, 8), (⟨"NetworkDatabase", "requireRecord", "(I)V"⟩, 8), (⟨"NetworkDatabaseModel", "can", "(I)Z"⟩, 19), (⟨"NetworkDatabaseModel", "currentOwner", "(I)I"⟩, 19), (⟨"NetworkDatabaseModel", "ownerIn", "(II)I"⟩, 19), (⟨"NetworkDatabaseModel", "insert", "(III)V"⟩, 19), (⟨"NetworkDatabaseModel", "newPlace", "(III)I"⟩, 19), (⟨"NetworkDatabaseModel", "placeOf", "(II)I"⟩, 19), (⟨"NetworkDatabaseModel", "becomes", "(I)I"⟩, 19), (⟨"NetworkDatabaseModel", "takeOut", "(II)V"⟩, 19), (⟨"NetworkDatabaseModel", "marks", "(II)I"⟩, 19), (⟨"NetworkDatabaseModel", "isGone", "(I)Z"⟩, 19), (⟨"NetworkDatabaseModel", "isSet", "(I)Z"⟩, 19)]
theorem lw_r2 : ∀ q ∈ lw_privs_2, lw_okq q := List.forall_mem_cons.mpr ⟨lw_p16, List.forall_mem_cons.mpr ⟨lw_p17, List.forall_mem_cons.mpr ⟨lw_p18, List.forall_mem_cons.mpr ⟨lw_p19, List.forall_mem_cons.mpr ⟨lw_p20, List.forall_mem_cons.mpr ⟨lw_p21, List.forall_mem_cons.mpr ⟨lw_p22, List.forall_mem_cons.mpr ⟨lw_p23, List.forall_mem_cons.mpr ⟨lw_p24, List.forall_mem_cons.mpr ⟨lw_p25, List.forall_mem_cons.mpr ⟨lw_p26, List.forall_mem_cons.mpr ⟨lw_p27, List.forall_mem_cons.mpr ⟨lw_p28, List.forall_mem_cons.mpr ⟨lw_p29, List.forall_mem_cons.mpr ⟨lw_p30, List.forall_mem_cons.mpr ⟨lw_p31, fun _ h => absurd h List.not_mem_nil⟩⟩⟩⟩⟩⟩⟩⟩⟩⟩⟩⟩⟩⟩⟩⟩
theorem lw_p32 : lw_okq (⟨"NetworkDatabaseModel", "membersOf", "(II)I"⟩, 19) := ⟨⟨by decide +kernel, by decide +kernel⟩, List.mem_of_getElem? (i := 687) (by decide +kernel), List.mem_of_getElem? (i := 823) (by decide +kernel), List.mem_of_getElem? (i := 824) (by decide +kernel)⟩
theorem lw_p33 : lw_okq (⟨"NetworkDatabaseModel", "isRecord", "(I)Z"⟩, 19) := ⟨⟨by decide +kernel, by decide +kernel⟩, List.mem_of_getElem? (i := 687) (by decide +kernel), List.mem_of_getElem? (i := 835) (by decide +kernel), List.mem_of_getElem? (i := 836) (by decide +kernel)⟩
theorem lw_p34 : lw_okq (⟨"NetworkDatabaseModel", "memberOf", "(III)I"⟩, 19) := ⟨⟨by decide +kernel, by decide +kernel⟩, List.mem_of_getElem? (i := 687) (by decide +kernel), List.mem_of_getElem? (i := 851) (by decide +kernel), List.mem_of_getElem? (i := 852) (by decide +kernel)⟩
theorem lw_p35 : lw_okq (⟨"NetworkDatabaseModel", "areAsked", "(II)Z"⟩, 19) := ⟨⟨by decide +kernel, by decide +kernel⟩, List.mem_of_getElem? (i := 687) (by decide +kernel), List.mem_of_getElem? (i := 899) (by decide +kernel), List.mem_of_getElem? (i := 900) (by decide +kernel)⟩
theorem lw_p36 : lw_okq (⟨"NetworkDatabaseModel", "countOf", "(II)I"⟩, 19) := ⟨⟨by decide +kernel, by decide +kernel⟩, List.mem_of_getElem? (i := 687) (by decide +kernel), List.mem_of_getElem? (i := 907) (by decide +kernel), List.mem_of_getElem? (i := 908) (by decide +kernel)⟩
def lw_privs_3 : List (MethodName × Nat) := [(⟨"NetworkDatabaseModel", "membersOf", "(II)I"⟩, 19), (⟨"NetworkDatabaseModel", "isRecord", "(I)Z"⟩, 19), (⟨"NetworkDatabaseModel", "memberOf", "(III)I"⟩, 19), (⟨"NetworkDatabaseModel", "areAsked", "(II)Z"⟩, 19), (⟨"NetworkDatabaseModel", "countOf", "(II)I"⟩, 19)]
theorem lw_r3 : ∀ q ∈ lw_privs_3, lw_okq q := List.forall_mem_cons.mpr ⟨lw_p32, List.forall_mem_cons.mpr ⟨lw_p33, List.forall_mem_cons.mpr ⟨lw_p34, List.forall_mem_cons.mpr ⟨lw_p35, List.forall_mem_cons.mpr ⟨lw_p36, fun _ h => absurd h List.not_mem_nil⟩⟩⟩⟩⟩
def lw_privs : List (MethodName × Nat) := lw_privs_1 ++ (lw_privs_2 ++ (lw_privs_3))
def lw_tbl : List Cond := k2_sels lw_privs ++ tables_1
theorem lw_privs_ok : ∀ q ∈ lw_privs, lw_okq q := by
  show ∀ q ∈ lw_privs_1 ++ (lw_privs_2 ++ (lw_privs_3)), lw_okq q
  exact List.forall_mem_append.mpr ⟨lw_r1, List.forall_mem_append.mpr ⟨lw_r2, lw_r3⟩⟩
end
section
/-! ===== BEGIN words of one list among another's, by their places ===== -/
theorem goodIn_r {big : List Cond} (ws : List Cond) (ps : List Nat) (hp : ws = ps.filterMap (fun i => big[i]?)) (h : ws.all goodWord = true) : GoodIn big ws := by
  intro w hw
  have h1 := List.all_eq_true.mp h w hw
  rw [hp] at hw
  obtain ⟨i, -, hi⟩ := List.mem_filterMap.mp hw
  have hm : w ∈ big := by first | exact List.mem_of_getElem? hi | exact List.getElem?_mem hi
  exact ⟨hm, good_of_word h1⟩
theorem goodIn_app {big a b : List Cond} (ha : GoodIn big a) (hb : GoodIn big b) : GoodIn big (a ++ b) := fun w h => (List.mem_append.mp h).elim (ha w) (hb w)
theorem goodIn_ca {big a b : List Cond} {c : Cond} (ha : GoodIn big (c :: a)) (hb : GoodIn big b) : GoodIn big (c :: (a ++ b)) := fun w h => (List.mem_cons.mp h).elim (fun e => ha w (List.mem_cons.mpr (Or.inl e))) (fun h => (List.mem_append.mp h).elim (fun h => ha w (List.mem_cons.mpr (Or.inr h))) (hb w))
theorem goodIn_sub {big ws : List Cond} (hm : ∀ w ∈ ws, w ∈ big) (h : ws.all goodWord = true) : GoodIn big ws := fun w hw => ⟨hm w hw, good_of_word (List.all_eq_true.mp h w hw)⟩
/-! ===== END ===== -/

/-! ===== BEGIN exceptions that leave a method, and their catching by the caller (launches without stack traces) ===== -/
section VXA
/-! The laws vx_back, vx_callV, vx_callS, vx_callSW, vx_throw0, vx_throwS follow proofs of the library, with one case more: JvmDerived/Free/Laws.lean (Back.of_free), Shelf42/LK1.lean (callV, callS), Shelf/KitTraced.lean (throwNew0V, throwNewS). -/
/-- where a method has thrown q: the class by its name, the cell, what was written, the world -/
def vx_T (XC : String → State → State → Prop) (st : State) (q : Addr) (t : State) (mc ms : Nat) (free : Addr → Prop) : Prop :=
  ∃ (E : String) (ce : Cell) (L : List Loc), XC E st t ∧ t.heap[q]? = some ce ∧ ce.vm = .none ∧ st.vm.findClass E = some ce.cls ∧ st.WarmedH t.vm ∧ st.sameButNew ({ t with vm := st.vm } : State) L mc ms ∧ ∀ z ∈ L, free z.base
def vx_Q (Qc : Array Value → State → Outcome → State → Prop) (XC : String → State → State → Prop) (mc ms : Nat) (free : Addr → Prop) : Array Value → State → Outcome → State → Prop := fun a st o t =>
  (Qc a st o t ∧ ∃ L, FrameEnd st o t L mc ms ∧ ∀ q ∈ L, free q.base) ∨ ∃ q, o = .threw q ∧ vx_T XC st q t mc ms free
/-- a callee that returns or throws -/
def vx_Met (l : Launch) (y : MethodName) (ws : List Cond) (rm : Room) (Pc : Array Value → State → Prop) (Qc : Array Value → State → Outcome → State → Prop) (XC : String → State → State → Prop) (mc ms : Nat) (free : Addr → Prop) : Prop :=
  MetFree l y (headSpec ws rm) Pc (fun _ _ _ _ _ => True) (vx_Q Qc XC mc ms free)
def vx_Post (XC : String → State → State → Prop) (mc ms : Nat) (free : Addr → Prop) : Pt → Array Value → Addr → Pt → Prop := fun A a q B =>
  ∃ (g : JFrame) (mk : MethodId) (t : State) (L : List Loc) (E : String) (ce : Cell), B.U.heap = t.heap ∧ B.U.vm = t.vm ∧ XC E (A.U.calling g mk a) t ∧ t.heap[q]? = some ce ∧ ce.vm = .none ∧ A.U.vm.findClass E = some ce.cls ∧ B.locs = A.locs ++ L ∧ (∀ z ∈ L, free z.base) ∧ B.cells = A.cells + mc ∧ B.slots = A.slots + ms
def vx_Back (l : Launch) (R : Room) (p : Program) (e : Env) (below : List Frame) (s : State) (sargs : Array Value) (y : MethodName) (len W9 : Nat)
    (Pre : Pt → Array Value → Prop) (Post : Pt → Array Value → Option Value → Pt → Prop) (PostX : Pt → Array Value → Addr → Pt → Prop) : Prop :=
  ∀ (m : MethodId) (meth : Method) (c : Code) (A : Pt) (g : JFrame) (ig : Instr) (mk : MethodId) (a : Array Value),
    Stand p l e R s m sargs below meth c A.U A.locs A.cells A.slots → g.method = m → g.locals.size = c.maxLocals → decode c.code g.pc = .ok (ig, len) →
    2 * g.monitorRoom + (g.stack.map fun v => v.category).sum ≤ W9 → A.U.methodNamed? y = some mk → Pre A a →
    (∃ (v : Option Value) (B : Pt), Stand p l e R s m sargs below meth c B.U B.locs B.cells B.slots ∧ Post A a v B ∧
      Steps p.tables e below (doInvoke e (A.U.setTop g) [] mk a).1 (B.U.setTop { g with pc := g.pc + len, stack := v.toList ++ g.stack })) ∨
    (∃ (q : Addr) (B : Pt), Stand p l e R s m sargs below meth c B.U B.locs B.cells B.slots ∧ PostX A a q B ∧
      Steps p.tables e below (doInvoke e (A.U.setTop g) [] mk a).1 ((B.U.setTop g).pushFrame (.throwing q)))
section Payer
variable {l : Launch} {R : Room} {p : Program} {e : Env} {below : List Frame} {s : State} {sargs : Array Value} {y : MethodName} {len W9 : Nat}
theorem vx_back {ws : List Cond} {rm : Room} {Pc : Array Value → State → Prop} {Qc : Array Value → State → Outcome → State → Prop} {XC : String → State → State → Prop} {mc ms : Nat} {free : Addr → Prop} {bytes : ByteArray} {maxL : Nat} {ret : Option FieldType}
    (hM : vx_Met l y ws rm Pc Qc XC mc ms free) (hblind : FrameBlind Pc) (hrc : rm.cells = mc) (hrs : rm.slots = ms)
    (hframes : rm.frames + 1 ≤ R.frames) (hlocals : W9 + (maxL + 11) + rm.locals ≤ R.locals)
    (hws : ∀ w ∈ ws, ∀ a' U, s.WarmedH U.vm → w.before a' U = true) (hcode : Cond.code y bytes maxL ret ∈ ws) (hinit : ∀ a' U, s.WarmedH U.vm → (Cond.initialized y.cls).before a' U = true) :
    vx_Back l R p e below s sargs y len W9 (PreOf R mc ms Pc) (PostOf Qc mc ms free) (vx_Post XC mc ms free) := by
  intro m meth c A g ig mk a X hg hsize hdg hW hn hp
  have h1 : (headSpec ws rm).pre.before a A.U = true := atoms_intro fun w hw => hws w hw _ _ X.warmed
  have h2 : (Cond.code y bytes maxL ret).before a A.U = true := hws _ hcode _ _ X.warmed
  have h3 : (Cond.initialized y.cls).before a A.U = true := hinit _ _ X.warmed
  have h4 : A.cells + (headSpec ws rm).room.cells ≤ R.cells := by rw [show (headSpec ws rm).room.cells = mc from hrc]; exact hp.1
  have h5 : A.slots + (headSpec ws rm).room.slots ≤ R.slots := by rw [show (headSpec ws rm).room.slots = ms from hrs]; exact hp.2.1
  have hPc : Pc a (A.U.calling g mk a) := hblind _ _ _ _ hp.2.2
  obtain ⟨U, Ls, c0, s0⟩ := A
  dsimp only [Pt.U, Pt.locs, Pt.cells, Pt.slots] at h1 h2 h3 h4 h5 X hn hPc ⊢
  obtain ⟨methY, cY, hmY, hcY, -, hlY, -, -, -, -⟩ := Cond.code_spec hn h2
  obtain ⟨kY, hkY, -⟩ := className_of_methodNamed hn
  have hinitY : kY.init = .initialized := Cond.initialized_spec (findClass_of_methodNamed hn) hkY h3
  have h : At U g.method c below := by rw [hg]; exact X.here
  have hlocals9 : W9 + (maxL + 11) + (headSpec ws rm).room.locals ≤ R.locals := hlocals
  have happ : (headSpec ws rm).appliesLoose y e.platform (U.calling g mk a) = true :=
    Spec.appliesLoose_calling (g := g) h hdg hn hkY hinitY
      (X.room_calling (g := g) (R' := (headSpec ws rm).room) hsize hmY hcY hframes (by rw [hlY]; omega) h4 h5) h1
  obtain ⟨mid, hmid⟩ := h.above
  have hfr : (U.setTop g).frames = (.java g :: mid) ++ below := by rw [State.frames_setTop' g h.top, hmid]; rfl
  obtain ⟨o, s₂, hsteps, -, hend, hq⟩ := Steps.callFree hM p X.admits X.cas X.clock (acts := []) hfr happ hPc trivial
  have hq' : vx_Q Qc XC mc ms free a (U.calling g mk a) o s₂ := hq
  rw [State.frames_setTop' g h.top] at hend
  obtain ⟨g₀, hg0⟩ := Option.isSome_iff_exists.mp h.top
  obtain ⟨r, hr⟩ := State.topJava?_eq_some.mp hg0
  have hr' : (({ U with heap := s₂.heap, slotsUsed := s₂.slotsUsed } : State).setVm s₂.vm).frames = .java g₀ :: r := hr
  rcases hq' with ⟨hqc, L, hfe, hL⟩ | ⟨q, rfl, E, ce, L, hx, hce, hcv, hcl, hW₂, hsm, hL⟩
  · obtain ⟨⟨v, rfl⟩, hW₂, e2, q2, q3, q4, q5, q6⟩ := id hfe
    have e3 : s₂ = ({ (U.calling g mk a).setFrames s₂.frames with heap := s₂.heap, slotsUsed := s₂.slotsUsed } : State).setVm s₂.vm := by
      have : s₂ = ({ s₂ with vm := (U.calling g mk a).vm } : State).setVm s₂.vm := rfl
      rw [e2] at this
      exact this
    obtain ⟨c₂, i₂, len₂, hc₂, hd₂, hf₂⟩ := hend
    have hW' : U.WarmedH s₂.vm := hW₂
    have hcc : c₂ = c := by
      have h1 : s₂.code? g.method = U.code? g.method := by
        rw [State.code?_eq, State.code?_eq, hW'.alike.method?]
      exact Option.some.inj (hc₂.symm.trans (h1.trans h.code))
    subst hcc
    have hlen : len₂ = len := by rw [hdg] at hd₂; cases hd₂; rfl
    subst hlen
    have hs₂ : s₂ = (({ U with heap := s₂.heap, slotsUsed := s₂.slotsUsed } : State).setVm s₂.vm).setTop { g with pc := g.pc + len₂, stack := v.toList ++ g.stack } := by
      refine e3.trans ?_
      rw [hf₂, State.calling_eq h.top, State.setFrames_setFrames, State.setTop_of_frames _ hr', hr]
      rfl
    have hsame : U.sameButNew ({ U with heap := s₂.heap, slotsUsed := s₂.slotsUsed } : State) L mc ms := by
      refine ⟨?_, q2, q3, q4, q5, q6⟩
      obtain ⟨t, ht, -⟩ := State.frames_cons hr
      show ({ U with heap := s₂.heap, slotsUsed := s₂.slotsUsed } : State) = { U.setFrames U.frames with heap := s₂.heap, slotsUsed := s₂.slotsUsed }
      rw [State.setFrames_self ht]
    subst hg
    refine Or.inl ⟨v, ⟨(({ U with heap := s₂.heap, slotsUsed := s₂.slotsUsed } : State).setVm s₂.vm), Ls ++ L, c0 + mc, s0 + ms⟩,
      ⟨X.admits, X.cas, X.clock, X.frames, X.room, X.hears, X.method, X.code, (X.here.setHeapUsed s₂.heap s₂.slotsUsed).setVm hW'.alike, X.tail, State.WarmedH.trans X.warmed hW', X.limits, X.bytes, X.same.trans (hsame.setVm s.vm)⟩,
      ⟨g, mk, s₂, L, rfl, rfl, hqc, rfl, hL, rfl, rfl⟩, ?_⟩
    show Steps p.tables e below _ ((({ U with heap := s₂.heap, slotsUsed := s₂.slotsUsed } : State).setVm s₂.vm).setTop { g with pc := g.pc + len₂, stack := v.toList ++ g.stack })
    rw [← hs₂]
    exact hsteps
  · obtain ⟨e2, q2, q3, q4, q5, q6⟩ := id hsm
    have e3 : s₂ = ({ (U.calling g mk a).setFrames s₂.frames with heap := s₂.heap, slotsUsed := s₂.slotsUsed } : State).setVm s₂.vm := by
      have : s₂ = ({ s₂ with vm := (U.calling g mk a).vm } : State).setVm s₂.vm := rfl
      rw [e2] at this
      exact this
    have hf₂ : s₂.frames = .throwing q :: .java g :: U.frames.tail := hend
    have hW' : U.WarmedH s₂.vm := hW₂
    have hs₂ : s₂ = ((({ U with heap := s₂.heap, slotsUsed := s₂.slotsUsed } : State).setVm s₂.vm).setTop g).pushFrame (.throwing q) := by
      refine e3.trans ?_
      rw [hf₂, State.calling_eq h.top, State.setFrames_setFrames, State.pushFrame, State.frames_setTop _ hr', State.setTop_of_frames _ hr', State.setFrames_setFrames, hr]
      rfl
    have hsame : U.sameButNew ({ U with heap := s₂.heap, slotsUsed := s₂.slotsUsed } : State) L mc ms := by
      refine ⟨?_, q2, q3, q4, q5, q6⟩
      obtain ⟨t, ht, -⟩ := State.frames_cons hr
      show ({ U with heap := s₂.heap, slotsUsed := s₂.slotsUsed } : State) = { U.setFrames U.frames with heap := s₂.heap, slotsUsed := s₂.slotsUsed }
      rw [State.setFrames_self ht]
    subst hg
    refine Or.inr ⟨q, ⟨(({ U with heap := s₂.heap, slotsUsed := s₂.slotsUsed } : State).setVm s₂.vm), Ls ++ L, c0 + mc, s0 + ms⟩,
      ⟨X.admits, X.cas, X.clock, X.frames, X.room, X.hears, X.method, X.code, (X.here.setHeapUsed s₂.heap s₂.slotsUsed).setVm hW'.alike, X.tail, State.WarmedH.trans X.warmed hW', X.limits, X.bytes, X.same.trans (hsame.setVm s.vm)⟩,
      ⟨g, mk, s₂, L, E, ce, rfl, rfl, hx, hce, hcv, hcl, rfl, hL, rfl, rfl⟩, ?_⟩
    show Steps p.tables e below _ (((({ U with heap := s₂.heap, slotsUsed := s₂.slotsUsed } : State).setVm s₂.vm).setTop g).pushFrame (.throwing q))
    rw [← hs₂]
    exact hsteps
end Payer
section Calls
variable {p : Program} {l : Launch} {e : Env} {R : Room} {s : State} {m : MethodId} {args : Array Value} {below : List Frame} {meth : Method} {c : Code} {T : State} {locs : List Loc} {cells slots : Nat}
theorem vx_callV (X : Stand p l e R s m args below meth c T locs cells slots) (hexec : p.tables.exec = Jvm.exec) {own C : String} {index : Nat} {y : MethodName} {bytes : ByteArray} {maxL : Nat} {ret : Option FieldType}
    (hown : s.vm.findClass own = some m.cls) (hlink : (Cond.methodLink own index y).before args s = true) (hinst : (Cond.instanceMethod y).before args s = true) (hsel : (Cond.selects C y y).before args s = true)
    (hcode : (Cond.code y bytes maxL ret).before args s = true) (hy : y.cls ≠ "java/lang/invoke/MethodHandle" ∧ y.cls ≠ "java/lang/invoke/VarHandle")
    {W9 : Nat} {Pre : Pt → Array Value → Prop} {Post : Pt → Array Value → Option Value → Pt → Prop} {PostX : Pt → Array Value → Addr → Pt → Prop} (hK : vx_Back l R p e below s args y 3 W9 Pre Post PostX)
    {b : Addr} {cellB : Cell} (hcell : T.heap[b]? = some cellB) (hobj : cellB.vm.isStatics = false) (hcls : s.vm.findClass C = some cellB.cls)
    {g : JFrame} (hg : g.method = m) (hsize : g.locals.size = c.maxLocals) {argsL rest : List Value} (hlen : ∀ sig, parseMethodDescriptor y.desc = some sig → argsL.length = sig.parameters.length)
    (hstack : g.stack = argsL.reverse ++ .ref b :: rest) (hW : 2 * g.monitorRoom + (rest.map fun v => v.category).sum ≤ W9) (hdg : decode c.code g.pc = .ok (.invokevirtual index, 3))
    (hpre : ∀ vm₁, s.WarmedH vm₁ → Pre ⟨T.setVm vm₁, locs, cells, slots⟩ (Value.ref b :: argsL).toArray) :
    (∃ (v : Option Value) (vm₁ : Vm) (B : Pt), s.WarmedH vm₁ ∧ Stand p l e R s m args below meth c B.U B.locs B.cells B.slots ∧ Post ⟨T.setVm vm₁, locs, cells, slots⟩ (Value.ref b :: argsL).toArray v B ∧
      ∀ target, Steps p.tables e below (B.U.setTop { g with pc := g.pc + 3, stack := v.toList ++ rest }) target → Steps p.tables e below (T.setTop g) target) ∨
    (∃ (q : Addr) (vm₁ : Vm) (B : Pt), s.WarmedH vm₁ ∧ Stand p l e R s m args below meth c B.U B.locs B.cells B.slots ∧ PostX ⟨T.setVm vm₁, locs, cells, slots⟩ (Value.ref b :: argsL).toArray q B ∧
      Steps p.tables e below (T.setTop g) ((B.U.setTop { g with stack := rest }).pushFrame (.throwing q))) := by
  obtain ⟨mk, methM, hnamed, hmethM, hstM, habM⟩ := Cond.instanceMethod_spec hinst
  obtain ⟨methM', cM, hmethM', -, -, -, -, -, -, hsigM⟩ := Cond.code_spec hnamed hcode
  cases hmethM.symm.trans hmethM'
  obtain ⟨c2, r2, m2, q1, q2, q3, q4, kP, hkP, hkPi⟩ := Cond.selects_spec hsel
  cases hcls.symm.trans q1
  cases (State.methodFound?_of_named hnamed hy).symm.trans q2
  cases hnamed.symm.trans q3
  have hselP : selectMethod e.platform s.vm cellB.cls mk = .method mk := by rw [Launch.admits_selectMethod X.admits]; exact q4
  obtain ⟨vm₁, X₁, hstep₁⟩ := X.invokevirtual hexec hown hlink hnamed hmethM hstM hkP hkPi hy (a := b) (cell := cellB) hcell
    (fun z h => by rw [h] at hobj; cases hobj) hselP hmethM habM hkP hkPi (g := g) hg (argsL := argsL) (rest := rest) (hlen _ hsigM) hstack hdg
  rcases hK m meth c ⟨T.setVm vm₁, locs, cells, slots⟩ { g with stack := rest } (.invokevirtual index) mk (Value.ref b :: argsL).toArray X₁ hg hsize hdg hW (X₁.named hnamed) (hpre vm₁ X₁.warmed) with ⟨v, B, X', hpost, hsteps⟩ | ⟨q, B, X', hpost, hsteps⟩
  · exact Or.inl ⟨v, vm₁, B, X₁.warmed, X', hpost, fun target h => hstep₁ _ fun acts => by rw [doInvoke_state]; exact hsteps.trans h⟩
  · exact Or.inr ⟨q, vm₁, B, X₁.warmed, X', hpost, hstep₁ _ fun acts => by rw [doInvoke_state]; exact hsteps⟩
theorem vx_callS (X : Stand p l e R s m args below meth c T locs cells slots) (hexec : p.tables.exec = Jvm.exec) {own : String} {index : Nat} {y : MethodName} {bytes : ByteArray} {maxL : Nat} {ret : Option FieldType}
    (hown : s.vm.findClass own = some m.cls) (hlink : (Cond.methodLink own index y).before args s = true) (hstat : (Cond.static y).before args s = true) (hinit : (Cond.initialized y.cls).before args s = true)
    (hcode : (Cond.code y bytes maxL ret).before args s = true) (hy : y.cls ≠ "java/lang/invoke/MethodHandle" ∧ y.cls ≠ "java/lang/invoke/VarHandle")
    {W9 : Nat} {Pre : Pt → Array Value → Prop} {Post : Pt → Array Value → Option Value → Pt → Prop} {PostX : Pt → Array Value → Addr → Pt → Prop} (hK : vx_Back l R p e below s args y 3 W9 Pre Post PostX)
    {g : JFrame} (hg : g.method = m) (hsize : g.locals.size = c.maxLocals) {argsL rest : List Value} (hlen : ∀ sig, parseMethodDescriptor y.desc = some sig → argsL.length = sig.parameters.length)
    (hstack : g.stack = argsL.reverse ++ rest) (hW : 2 * g.monitorRoom + (rest.map fun v => v.category).sum ≤ W9) (hdg : decode c.code g.pc = .ok (.invokestatic index, 3))
    (hpre : ∀ vm₁, s.WarmedH vm₁ → Pre ⟨T.setVm vm₁, locs, cells, slots⟩ argsL.toArray) :
    (∃ (v : Option Value) (vm₁ : Vm) (B : Pt), s.WarmedH vm₁ ∧ Stand p l e R s m args below meth c B.U B.locs B.cells B.slots ∧ Post ⟨T.setVm vm₁, locs, cells, slots⟩ argsL.toArray v B ∧
      ∀ target, Steps p.tables e below (B.U.setTop { g with pc := g.pc + 3, stack := v.toList ++ rest }) target → Steps p.tables e below (T.setTop g) target) ∨
    (∃ (q : Addr) (vm₁ : Vm) (B : Pt), s.WarmedH vm₁ ∧ Stand p l e R s m args below meth c B.U B.locs B.cells B.slots ∧ PostX ⟨T.setVm vm₁, locs, cells, slots⟩ argsL.toArray q B ∧
      Steps p.tables e below (T.setTop g) ((B.U.setTop { g with stack := rest }).pushFrame (.throwing q))) := by
  obtain ⟨mk, hnamed⟩ := Cond.code_named hcode
  obtain ⟨methM, cM, hmethM, -, -, -, -, -, -, hsigM⟩ := Cond.code_spec hnamed hcode
  have hstatic : methM.isStatic = true := Cond.static_spec hnamed hmethM hstat
  obtain ⟨kP, hkP, -⟩ := className_of_methodNamed hnamed
  have hinitP : kP.init = .initialized := Cond.initialized_spec (findClass_of_methodNamed hnamed) hkP hinit
  obtain ⟨vm₁, X₁, hstep₁⟩ := X.invokestatic hexec hown hlink hnamed hmethM hstatic hkP hinitP hy (g := g) hg (argsL := argsL) (rest := rest) (hlen _ hsigM) hstack hdg
  rcases hK m meth c ⟨T.setVm vm₁, locs, cells, slots⟩ { g with stack := rest } (.invokestatic index) mk argsL.toArray X₁ hg hsize hdg hW (X₁.named hnamed) (hpre vm₁ X₁.warmed) with ⟨v, B, X', hpost, hsteps⟩ | ⟨q, B, X', hpost, hsteps⟩
  · exact Or.inl ⟨v, vm₁, B, X₁.warmed, X', hpost, fun target h => hstep₁ _ fun acts => by rw [doInvoke_state]; exact hsteps.trans h⟩
  · exact Or.inr ⟨q, vm₁, B, X₁.warmed, X', hpost, hstep₁ _ fun acts => by rw [doInvoke_state]; exact hsteps⟩
end Calls
theorem vx_cls {s : State} {T : State} {vm₁ : Vm} {E : String} {k : ClassId} (hW : s.WarmedH vm₁) (h : (T.setVm vm₁).vm.findClass E = some k) : s.vm.findClass E = some k := by
  have h1 : vm₁.findClass E = some k := h
  rw [hW.alike.findClass] at h1
  exact h1
/-- the method's frame g, with q thrown over it -/
def vx_W (p : Program) (l : Launch) (e : Env) (R : Room) (s : State) (m : MethodId) (args : Array Value) (below : List Frame) (meth : Method) (c : Code) (H : Heap) (locs : List Loc) (cells slots : Nat) (Q : State → Prop) (g : JFrame) (q : Addr) : Prop :=
  ∀ T : State, T.heap = H → Stand p l e R s m args below meth c T locs cells slots → ∃ t, Steps p.tables e below ((T.setTop g).pushFrame (.throwing q)) t ∧ Q t
def vx_Run (p : Program) (l : Launch) (e : Env) (R : Room) (s : State) (m : MethodId) (args : Array Value) (below : List Frame) (meth : Method) (c : Code) (H : Heap) (locs : List Loc) (cells slots mc ms : Nat) (g : JFrame) (rest : List Value) (Qa : State → Outcome → State → Prop) (XC : String → State → State → Prop) (free : Addr → Prop) : Prop :=
  ∀ T : State, T.heap = H → Stand p l e R s m args below meth c T locs cells slots →
    (∃ (v : Option Value) (st₀ t T' : State) (L : List Loc), st₀.heap = H ∧ Stand p l e R s m args below meth c T' (locs ++ L) (cells + mc) (slots + ms) ∧ (∀ q ∈ L, free q.base) ∧ T'.heap = t.heap ∧ T'.vm = t.vm ∧ Qa st₀ (.returned v) t ∧
      Goes p e below T g T' { g with pc := g.pc + 3, stack := v.toList ++ rest }) ∨
    (∃ (q : Addr) (st₀ t T' : State) (L : List Loc) (E : String) (ce : Cell), st₀.heap = H ∧ Stand p l e R s m args below meth c T' (locs ++ L) (cells + mc) (slots + ms) ∧ (∀ z ∈ L, free z.base) ∧ T'.heap = t.heap ∧ T'.vm = t.vm ∧ XC E st₀ t ∧ t.heap[q]? = some ce ∧ ce.vm = .none ∧ s.vm.findClass E = some ce.cls ∧
      Steps p.tables e below (T.setTop g) ((T'.setTop { g with stack := rest }).pushFrame (.throwing q)))
def vx_X {S : Type} (px : S → Prop) (B : String → S → State → Prop) (A : Nat → Prop) : String → State → State → Prop := fun E st t => ∃ u : S, px u ∧ B E u t ∧ va_F A st t
section Runs
variable {p : Program} {l : Launch} {e : Env} {R : Room} {s : State} {m : MethodId} {args : Array Value} {below : List Frame} {meth : Method} {c : Code} {H : Heap} {locs : List Loc} {cells slots : Nat}
variable {y : MethodName} {bytes cc : ByteArray} {maxL nL mc ms n index : Nat} {ret : Option FieldType} {ws : List Cond} {rm : Room} {Pc : Array Value → State → Prop} {Qc : Array Value → State → Outcome → State → Prop} {XC : String → State → State → Prop} {free : Addr → Prop} {Ts : List Cond} {own C : String} {b : Addr} {As rest : List Value} {g : JFrame}
theorem vx_callBack (cb : CallB R s args own index y bytes maxL ret ws rm mc ms n) (hM : vx_Met l y ws rm Pc Qc XC mc ms free) (hbl : FrameBlind Pc) : vx_Back l R p e below s args y 3 8 (PreOf R mc ms Pc) (PostOf Qc mc ms free) (vx_Post XC mc ms free) := by
  obtain ⟨hrc, hrs, hfr, hlo, hws, hcw, -, hini, -⟩ := cb
  exact vx_back (bytes := bytes) (maxL := maxL) (ret := ret) hM hbl hrc hrs hfr hlo hws hcw (fun a' U hW => word_at hW (Or.inl (by first | rfl | simp [Cond.onTables, Cond.keeps, Cond.steady])) hini)
theorem vx_runV (S : CallFix p m c cc nL s args Ts own) (hM : vx_Met l y ws rm Pc Qc XC mc ms free) (cw : CallW R s args own C index y bytes maxL ret ws rm mc ms n) (hp : PreV s H C b Pc As)
    (hg : g.method = m) (hn : As.length = n) (hsize : g.locals.size = nL) (hstack : g.stack = As.reverse ++ .ref b :: rest) (hW : 2 * g.monitorRoom + (rest.map fun v => v.category).sum ≤ 8) (hdg : decode cc g.pc = .ok (.invokevirtual index, 3)) (hf : cells + mc ≤ R.cells ∧ slots + ms ≤ R.slots) :
    vx_Run p l e R s m args below meth c H locs cells slots mc ms g rest (Qc (Value.ref b :: As).toArray) XC free := by
  have hK : vx_Back l R p e below s args y 3 8 (PreOf R mc ms Pc) (PostOf Qc mc ms free) (vx_Post XC mc ms free) := vx_callBack cw.1 hM hp.1
  obtain ⟨⟨-, -, -, -, -, -, hcode, -, hy, hlen, hl⟩, hin, hse⟩ := cw
  obtain ⟨hx, hb, hml, ho, -⟩ := S
  obtain ⟨-, ⟨cellB, hcB, hoB, hclB⟩, hPc⟩ := hp
  intro T hT X
  rcases vx_callV X hx (C := C) (bytes := bytes) (maxL := maxL) (ret := ret) ho hl hin hse hcode hy hK (by rw [hT]; exact hcB) hoB hclB hg (hsize.trans hml.symm) (argsL := As) (rest := rest) (fun sig h => hn.trans (hlen sig h)) hstack hW (by rw [hb]; exact hdg)
    (fun vm₁ hW₁ => ⟨hf.1, hf.2, hPc (T.setVm vm₁) hT hW₁⟩) with ⟨v, vm₁, ⟨U', l2, c2, s2⟩, hW₁, X', ⟨g', mk, t, L, e1, e2, hq, h1, hL, h2, h3⟩, st⟩ | ⟨q, vm₁, ⟨U', l2, c2, s2⟩, hW₁, X', ⟨g', mk, t, L, E, ce, e1, e2, hq, hce, hcv, hcl, h1, hL, h2, h3⟩, st⟩
  · dsimp only [Pt.U, Pt.locs, Pt.cells, Pt.slots] at X' e1 e2 h1 h2 h3 st
    subst h1; subst h2; subst h3
    exact Or.inl ⟨v, (T.setVm vm₁).calling g' mk (Value.ref b :: As).toArray, t, U', L, hT, X', hL, e1, e2, hq, st⟩
  · dsimp only [Pt.U, Pt.locs, Pt.cells, Pt.slots] at X' e1 e2 h1 h2 h3 st hcl
    subst h1; subst h2; subst h3
    exact Or.inr ⟨q, (T.setVm vm₁).calling g' mk (Value.ref b :: As).toArray, t, U', L, E, ce, hT, X', hL, e1, e2, hq, hce, hcv, vx_cls hW₁ hcl, st⟩
theorem vx_runS (S : CallFix p m c cc nL s args Ts own) (hM : vx_Met l y ws rm Pc Qc XC mc ms free) (cw : CallB R s args own index y bytes maxL ret ws rm mc ms n ∧ (Cond.static y).before args s = true) (hp : PreS s H Pc As)
    (hg : g.method = m) (hn : As.length = n) (hsize : g.locals.size = nL) (hstack : g.stack = As.reverse ++ rest) (hW : 2 * g.monitorRoom + (rest.map fun v => v.category).sum ≤ 8) (hdg : decode cc g.pc = .ok (.invokestatic index, 3)) (hf : cells + mc ≤ R.cells ∧ slots + ms ≤ R.slots) :
    vx_Run p l e R s m args below meth c H locs cells slots mc ms g rest (Qc As.toArray) XC free := by
  have hK : vx_Back l R p e below s args y 3 8 (PreOf R mc ms Pc) (PostOf Qc mc ms free) (vx_Post XC mc ms free) := vx_callBack cw.1 hM hp.1
  obtain ⟨⟨-, -, -, -, -, -, hcode, hini, hy, hlen, hl⟩, hstt⟩ := cw
  obtain ⟨hx, hb, hml, ho, -⟩ := S
  intro T hT X
  rcases vx_callS X hx (bytes := bytes) (maxL := maxL) (ret := ret) ho hl hstt hini hcode hy hK hg (hsize.trans hml.symm) (argsL := As) (rest := rest) (fun sig h => hn.trans (hlen sig h)) hstack hW (by rw [hb]; exact hdg)
    (fun vm₁ hW₁ => ⟨hf.1, hf.2, hp.2 (T.setVm vm₁) hT hW₁⟩) with ⟨v, vm₁, ⟨U', l2, c2, s2⟩, hW₁, X', ⟨g', mk, t, L, e1, e2, hq, h1, hL, h2, h3⟩, st⟩ | ⟨q, vm₁, ⟨U', l2, c2, s2⟩, hW₁, X', ⟨g', mk, t, L, E, ce, e1, e2, hq, hce, hcv, hcl, h1, hL, h2, h3⟩, st⟩
  · dsimp only [Pt.U, Pt.locs, Pt.cells, Pt.slots] at X' e1 e2 h1 h2 h3 st
    subst h1; subst h2; subst h3
    exact Or.inl ⟨v, (T.setVm vm₁).calling g' mk As.toArray, t, U', L, hT, X', hL, e1, e2, hq, st⟩
  · dsimp only [Pt.U, Pt.locs, Pt.cells, Pt.slots] at X' e1 e2 h1 h2 h3 st hcl
    subst h1; subst h2; subst h3
    exact Or.inr ⟨q, (T.setVm vm₁).calling g' mk As.toArray, t, U', L, E, ce, hT, X', hL, e1, e2, hq, hce, hcv, vx_cls hW₁ hcl, st⟩
end Runs
section Rows
variable {p : Program} {l : Launch} {e : Env} {R : Room} {s : State} {m : MethodId} {args : Array Value} {below : List Frame} {meth : Method} {c : Code} {H : Heap} {locs : List Loc} {cells slots : Nat} {Q : State → Prop}
variable {mc ms : Nat} {free : Addr → Prop} {A0 A1 : Nat → Prop} {H0 : Heap} {a : Array Value} {pc : Nat} {ls : Array Slot} {st0 rest : List Value}
theorem vx_keep {st₀ t T' : State} {L : List Loc} (h0 : st₀.heap = H) (e1 : T'.heap = t.heap) (hS : va_S A0 H0 H locs) (hA : ∀ q, q < H.size → A1 q → A0 q) (hf : ∀ q, free q → A0 q) (hL : ∀ q ∈ L, free q.base) (hF : va_F A1 st₀ t) :
    H.size ≤ T'.heap.size ∧ (∀ q : Nat, q < H.size → ¬ A1 q → T'.heap[q]? = H[q]?) ∧ va_S A0 H0 T'.heap (locs ++ L) := by
  obtain ⟨hz, hk⟩ := hF
  rw [h0] at hz hk
  exact ⟨by rw [e1]; exact hz, fun q h1 h2 => by rw [e1]; exact hk q h1 h2,
    ⟨Nat.le_trans hS.1 (by rw [e1]; exact hz), fun q h1 h2 => by rw [e1, hk q (Nat.lt_of_lt_of_le h1 hS.1) (fun z => h2 (hA q (Nat.lt_of_lt_of_le h1 hS.1) z))]; exact hS.2.1 q h1 h2, fun q hq => by
      rcases List.mem_append.mp hq with h | h
      · exact hS.2.2 q h
      · exact hf _ (hL q h)⟩⟩
theorem vx_calli {S SX : Type} {post : Int32 → S → Prop} {px : SX → Prop} {B : S → State → Prop} {BX : String → SX → State → Prop} {AX : Nat → Prop} (hr : vx_Run p l e R s m args below meth c H locs cells slots mc ms (F0 m pc ls st0) rest (va_Qi post B A1 a) (vx_X px BX AX) free) (hS : va_S A0 H0 H locs) (hA : ∀ q, q < H.size → A1 q → A0 q) (hf : ∀ q, free q → A0 q) (hAX : ∀ q, q < H.size → AX q → A0 q)
    (kx : ∀ (E : String) (ce : Cell) (q9 : Addr) (u : SX) (t : State) (H1 : Heap) (locs1 : List Loc), t.heap = H1 → s.vm.Alike t.vm → px u → BX E u t → H.size ≤ H1.size → (∀ q : Nat, q < H.size → ¬ AX q → H1[q]? = H[q]?) → va_S A0 H0 H1 locs1 → H1[q9]? = some ce → ce.vm = .none → s.vm.findClass E = some ce.cls → vx_W p l e R s m args below meth c H1 locs1 (cells + mc) (slots + ms) Q (F0 m pc ls rest) q9)
    (kk : ∀ (r : Int32) (u : S) (t : State) (H1 : Heap) (locs1 : List Loc), t.heap = H1 → s.vm.Alike t.vm → post r u → B u t → H.size ≤ H1.size → (∀ q : Nat, q < H.size → ¬ A1 q → H1[q]? = H[q]?) → va_S A0 H0 H1 locs1 → W p l e R s m args below meth c H1 locs1 (cells + mc) (slots + ms) Q (F0 m (pc + 3) ls (.int r :: rest))) : W p l e R s m args below meth c H locs cells slots Q (F0 m pc ls st0) := by
  intro T hT X
  rcases hr T hT X with ⟨v, st₀, t, T', L, h0, X', hL, e1, e2, ⟨⟨r, u, hv, hp, hb⟩, hF⟩, st⟩ | ⟨q, st₀, t, T', L, E, ce, h0, X', hL, e1, e2, ⟨u, hp, hb, hF⟩, hce, hcv, hcl, st⟩
  · cases hv
    obtain ⟨k1, k2, k3⟩ := vx_keep h0 e1 hS hA hf hL hF
    obtain ⟨t2, a1, b1⟩ := kk r u t T'.heap (locs ++ L) e1.symm (by rw [← e2]; exact X'.warmed.alike) hp hb k1 k2 k3 T' rfl X'
    exact ⟨t2, st t2 a1, b1⟩
  · obtain ⟨k1, k2, k3⟩ := vx_keep h0 e1 hS hAX hf hL hF
    obtain ⟨t2, a1, b1⟩ := kx E ce q u t T'.heap (locs ++ L) e1.symm (by rw [← e2]; exact X'.warmed.alike) hp hb k1 k2 k3 (by rw [e1]; exact hce) hcv hcl T' rfl X'
    exact ⟨t2, st.trans a1, b1⟩
theorem vx_calll {S SX : Type} {post : Int64 → S → Prop} {px : SX → Prop} {B : S → State → Prop} {BX : String → SX → State → Prop} {AX : Nat → Prop} (hr : vx_Run p l e R s m args below meth c H locs cells slots mc ms (F0 m pc ls st0) rest (va_Ql post B A1 a) (vx_X px BX AX) free) (hS : va_S A0 H0 H locs) (hA : ∀ q, q < H.size → A1 q → A0 q) (hf : ∀ q, free q → A0 q) (hAX : ∀ q, q < H.size → AX q → A0 q)
    (kx : ∀ (E : String) (ce : Cell) (q9 : Addr) (u : SX) (t : State) (H1 : Heap) (locs1 : List Loc), t.heap = H1 → s.vm.Alike t.vm → px u → BX E u t → H.size ≤ H1.size → (∀ q : Nat, q < H.size → ¬ AX q → H1[q]? = H[q]?) → va_S A0 H0 H1 locs1 → H1[q9]? = some ce → ce.vm = .none → s.vm.findClass E = some ce.cls → vx_W p l e R s m args below meth c H1 locs1 (cells + mc) (slots + ms) Q (F0 m pc ls rest) q9)
    (kk : ∀ (r : Int64) (u : S) (t : State) (H1 : Heap) (locs1 : List Loc), t.heap = H1 → s.vm.Alike t.vm → post r u → B u t → H.size ≤ H1.size → (∀ q : Nat, q < H.size → ¬ A1 q → H1[q]? = H[q]?) → va_S A0 H0 H1 locs1 → W p l e R s m args below meth c H1 locs1 (cells + mc) (slots + ms) Q (F0 m (pc + 3) ls (.long r :: rest))) : W p l e R s m args below meth c H locs cells slots Q (F0 m pc ls st0) := by
  intro T hT X
  rcases hr T hT X with ⟨v, st₀, t, T', L, h0, X', hL, e1, e2, ⟨⟨r, u, hv, hp, hb⟩, hF⟩, st⟩ | ⟨q, st₀, t, T', L, E, ce, h0, X', hL, e1, e2, ⟨u, hp, hb, hF⟩, hce, hcv, hcl, st⟩
  · cases hv
    obtain ⟨k1, k2, k3⟩ := vx_keep h0 e1 hS hA hf hL hF
    obtain ⟨t2, a1, b1⟩ := kk r u t T'.heap (locs ++ L) e1.symm (by rw [← e2]; exact X'.warmed.alike) hp hb k1 k2 k3 T' rfl X'
    exact ⟨t2, st t2 a1, b1⟩
  · obtain ⟨k1, k2, k3⟩ := vx_keep h0 e1 hS hAX hf hL hF
    obtain ⟨t2, a1, b1⟩ := kx E ce q u t T'.heap (locs ++ L) e1.symm (by rw [← e2]; exact X'.warmed.alike) hp hb k1 k2 k3 (by rw [e1]; exact hce) hcv hcl T' rfl X'
    exact ⟨t2, st.trans a1, b1⟩
theorem vx_callf {S SX : Type} {post : UInt32 → S → Prop} {px : SX → Prop} {B : S → State → Prop} {BX : String → SX → State → Prop} {AX : Nat → Prop} (hr : vx_Run p l e R s m args below meth c H locs cells slots mc ms (F0 m pc ls st0) rest (va_Qf post B A1 a) (vx_X px BX AX) free) (hS : va_S A0 H0 H locs) (hA : ∀ q, q < H.size → A1 q → A0 q) (hf : ∀ q, free q → A0 q) (hAX : ∀ q, q < H.size → AX q → A0 q)
    (kx : ∀ (E : String) (ce : Cell) (q9 : Addr) (u : SX) (t : State) (H1 : Heap) (locs1 : List Loc), t.heap = H1 → s.vm.Alike t.vm → px u → BX E u t → H.size ≤ H1.size → (∀ q : Nat, q < H.size → ¬ AX q → H1[q]? = H[q]?) → va_S A0 H0 H1 locs1 → H1[q9]? = some ce → ce.vm = .none → s.vm.findClass E = some ce.cls → vx_W p l e R s m args below meth c H1 locs1 (cells + mc) (slots + ms) Q (F0 m pc ls rest) q9)
    (kk : ∀ (r : UInt32) (u : S) (t : State) (H1 : Heap) (locs1 : List Loc), t.heap = H1 → s.vm.Alike t.vm → post r u → B u t → H.size ≤ H1.size → (∀ q : Nat, q < H.size → ¬ A1 q → H1[q]? = H[q]?) → va_S A0 H0 H1 locs1 → W p l e R s m args below meth c H1 locs1 (cells + mc) (slots + ms) Q (F0 m (pc + 3) ls (.float r :: rest))) : W p l e R s m args below meth c H locs cells slots Q (F0 m pc ls st0) := by
  intro T hT X
  rcases hr T hT X with ⟨v, st₀, t, T', L, h0, X', hL, e1, e2, ⟨⟨r, u, hv, hp, hb⟩, hF⟩, st⟩ | ⟨q, st₀, t, T', L, E, ce, h0, X', hL, e1, e2, ⟨u, hp, hb, hF⟩, hce, hcv, hcl, st⟩
  · cases hv
    obtain ⟨k1, k2, k3⟩ := vx_keep h0 e1 hS hA hf hL hF
    obtain ⟨t2, a1, b1⟩ := kk r u t T'.heap (locs ++ L) e1.symm (by rw [← e2]; exact X'.warmed.alike) hp hb k1 k2 k3 T' rfl X'
    exact ⟨t2, st t2 a1, b1⟩
  · obtain ⟨k1, k2, k3⟩ := vx_keep h0 e1 hS hAX hf hL hF
    obtain ⟨t2, a1, b1⟩ := kx E ce q u t T'.heap (locs ++ L) e1.symm (by rw [← e2]; exact X'.warmed.alike) hp hb k1 k2 k3 (by rw [e1]; exact hce) hcv hcl T' rfl X'
    exact ⟨t2, st.trans a1, b1⟩
theorem vx_calld {S SX : Type} {post : UInt64 → S → Prop} {px : SX → Prop} {B : S → State → Prop} {BX : String → SX → State → Prop} {AX : Nat → Prop} (hr : vx_Run p l e R s m args below meth c H locs cells slots mc ms (F0 m pc ls st0) rest (va_Qd post B A1 a) (vx_X px BX AX) free) (hS : va_S A0 H0 H locs) (hA : ∀ q, q < H.size → A1 q → A0 q) (hf : ∀ q, free q → A0 q) (hAX : ∀ q, q < H.size → AX q → A0 q)
    (kx : ∀ (E : String) (ce : Cell) (q9 : Addr) (u : SX) (t : State) (H1 : Heap) (locs1 : List Loc), t.heap = H1 → s.vm.Alike t.vm → px u → BX E u t → H.size ≤ H1.size → (∀ q : Nat, q < H.size → ¬ AX q → H1[q]? = H[q]?) → va_S A0 H0 H1 locs1 → H1[q9]? = some ce → ce.vm = .none → s.vm.findClass E = some ce.cls → vx_W p l e R s m args below meth c H1 locs1 (cells + mc) (slots + ms) Q (F0 m pc ls rest) q9)
    (kk : ∀ (r : UInt64) (u : S) (t : State) (H1 : Heap) (locs1 : List Loc), t.heap = H1 → s.vm.Alike t.vm → post r u → B u t → H.size ≤ H1.size → (∀ q : Nat, q < H.size → ¬ A1 q → H1[q]? = H[q]?) → va_S A0 H0 H1 locs1 → W p l e R s m args below meth c H1 locs1 (cells + mc) (slots + ms) Q (F0 m (pc + 3) ls (.double r :: rest))) : W p l e R s m args below meth c H locs cells slots Q (F0 m pc ls st0) := by
  intro T hT X
  rcases hr T hT X with ⟨v, st₀, t, T', L, h0, X', hL, e1, e2, ⟨⟨r, u, hv, hp, hb⟩, hF⟩, st⟩ | ⟨q, st₀, t, T', L, E, ce, h0, X', hL, e1, e2, ⟨u, hp, hb, hF⟩, hce, hcv, hcl, st⟩
  · cases hv
    obtain ⟨k1, k2, k3⟩ := vx_keep h0 e1 hS hA hf hL hF
    obtain ⟨t2, a1, b1⟩ := kk r u t T'.heap (locs ++ L) e1.symm (by rw [← e2]; exact X'.warmed.alike) hp hb k1 k2 k3 T' rfl X'
    exact ⟨t2, st t2 a1, b1⟩
  · obtain ⟨k1, k2, k3⟩ := vx_keep h0 e1 hS hAX hf hL hF
    obtain ⟨t2, a1, b1⟩ := kx E ce q u t T'.heap (locs ++ L) e1.symm (by rw [← e2]; exact X'.warmed.alike) hp hb k1 k2 k3 (by rw [e1]; exact hce) hcv hcl T' rfl X'
    exact ⟨t2, st.trans a1, b1⟩
theorem vx_callv {S SX : Type} {post : S → Prop} {px : SX → Prop} {B : S → State → Prop} {BX : String → SX → State → Prop} {AX : Nat → Prop} (hr : vx_Run p l e R s m args below meth c H locs cells slots mc ms (F0 m pc ls st0) rest (va_Qv post B A1 a) (vx_X px BX AX) free) (hS : va_S A0 H0 H locs) (hA : ∀ q, q < H.size → A1 q → A0 q) (hf : ∀ q, free q → A0 q) (hAX : ∀ q, q < H.size → AX q → A0 q)
    (kx : ∀ (E : String) (ce : Cell) (q9 : Addr) (u : SX) (t : State) (H1 : Heap) (locs1 : List Loc), t.heap = H1 → s.vm.Alike t.vm → px u → BX E u t → H.size ≤ H1.size → (∀ q : Nat, q < H.size → ¬ AX q → H1[q]? = H[q]?) → va_S A0 H0 H1 locs1 → H1[q9]? = some ce → ce.vm = .none → s.vm.findClass E = some ce.cls → vx_W p l e R s m args below meth c H1 locs1 (cells + mc) (slots + ms) Q (F0 m pc ls rest) q9)
    (kk : ∀ (u : S) (t : State) (H1 : Heap) (locs1 : List Loc), t.heap = H1 → s.vm.Alike t.vm → post u → B u t → H.size ≤ H1.size → (∀ q : Nat, q < H.size → ¬ A1 q → H1[q]? = H[q]?) → va_S A0 H0 H1 locs1 → W p l e R s m args below meth c H1 locs1 (cells + mc) (slots + ms) Q (F0 m (pc + 3) ls (rest))) : W p l e R s m args below meth c H locs cells slots Q (F0 m pc ls st0) := by
  intro T hT X
  rcases hr T hT X with ⟨v, st₀, t, T', L, h0, X', hL, e1, e2, ⟨⟨u, hv, hp, hb⟩, hF⟩, st⟩ | ⟨q, st₀, t, T', L, E, ce, h0, X', hL, e1, e2, ⟨u, hp, hb, hF⟩, hce, hcv, hcl, st⟩
  · cases hv
    obtain ⟨k1, k2, k3⟩ := vx_keep h0 e1 hS hA hf hL hF
    obtain ⟨t2, a1, b1⟩ := kk u t T'.heap (locs ++ L) e1.symm (by rw [← e2]; exact X'.warmed.alike) hp hb k1 k2 k3 T' rfl X'
    exact ⟨t2, st t2 a1, b1⟩
  · obtain ⟨k1, k2, k3⟩ := vx_keep h0 e1 hS hAX hf hL hF
    obtain ⟨t2, a1, b1⟩ := kx E ce q u t T'.heap (locs ++ L) e1.symm (by rw [← e2]; exact X'.warmed.alike) hp hb k1 k2 k3 (by rw [e1]; exact hce) hcv hcl T' rfl X'
    exact ⟨t2, st.trans a1, b1⟩
/-- caught by the row x of this method's table; the rows ahead don't take it -/
theorem vx_catch {own name : String} {E : String} {ce : Cell} {q : Addr} (hown : s.vm.findClass own = some m.cls) (pre : List ExceptionTableEntry) (x : ExceptionTableEntry) (suf : List ExceptionTableEntry) (hsplit : c.exceptionTable.toList = pre ++ x :: suf)
    (hpass : ∀ z ∈ pre, covers z pc = false ∨ (z.catchType ≠ 0 ∧ ∃ nm : String, (Cond.classLink own z.catchType nm).before args s = true ∧ va_Nc E nm s)) (hx : covers x pc = true) (h0 : x.catchType ≠ 0)
    (hlink : (Cond.classLink own x.catchType name).before args s = true) (hcast : (Cond.castable E name).before args s = true) (hcell : H[q]? = some ce) (hv : ce.vm = .none) (hcl : s.vm.findClass E = some ce.cls)
    (kk : W p l e R s m args below meth c H locs cells slots Q (F0 m x.handlerPc ls [.ref q])) : vx_W p l e R s m args below meth c H locs cells slots Q (F0 m pc ls rest) q := by
  intro T hT X
  have hpl : e.platform.magicAccessors = ({} : Platform).magicAccessors := by rw [X.admits.platform]
  obtain ⟨c3, c4, hc3, hc4, hasg⟩ := Cond.castable_spec hcast
  cases Option.some.inj (hc3.symm.trans hcl)
  obtain ⟨c5, hc5, hcl5⟩ := Cond.classLink_spec hown hlink e.platform hpl
  cases Option.some.inj (hc4.symm.trans hc5)
  obtain ⟨vm', X', st⟩ := X.thenCaughtThrough q (g := F0 m pc ls rest) rfl (Steps.refl _) (by rw [hT]; exact hcell) (by rw [hv]; rfl) (by obtain ⟨k9, h9, -⟩ := Vm.findClass_spec hcl; exact ⟨k9, h9⟩) pre x suf hsplit
    (fun z hz => by
      rcases hpass z hz with h | ⟨hz0, nm, hl1, hn1⟩
      · exact Or.inl h
      · obtain ⟨c6, hc6, hcl6⟩ := Cond.classLink_spec hown hl1 e.platform hpl
        obtain ⟨a8, b8, h1, h2, h3⟩ := hn1
        cases Option.some.inj (h1.symm.trans hcl)
        cases Option.some.inj (h2.symm.trans hc6)
        exact Or.inr ⟨hz0, _, hcl6, h3⟩) hx (Or.inr ⟨h0, c4, hcl5, hasg⟩)
  obtain ⟨t, a1, b1⟩ := kk (T.setVm vm') hT X'
  exact ⟨t, st.trans a1, b1⟩
end Rows
section Ends
variable {p : Program} {l : Launch} {e : Env} {R : Room} {s : State} {m : MethodId} {args : Array Value} {below : List Frame} {meth : Method} {c : Code} {H : Heap} {locs : List Loc} {cells slots : Nat} {Q : State → Prop}
variable {mc ms : Nat} {free : Addr → Prop} {A0 A1 : Nat → Prop} {H0 : Heap} {a : Array Value} {ls : Array Slot} {st0 rest : List Value}
variable {Qc : Array Value → State → Outcome → State → Prop} {XC : String → State → State → Prop}
/-- what a body that may throw owes at its end -/
def vx_MQ (below : List Frame) (Qc : Array Value → State → Outcome → State → Prop) (XC : String → State → State → Prop) (a : Array Value) (s : State) (mc ms : Nat) (free : Addr → Prop) : State → Prop := fun t =>
  ∃ o, t.status = .running ∧ Ended t below o ∧ vx_Q Qc XC mc ms free a s o t
theorem vx_ret {g : JFrame} {mc ms : Nat} (k : W p l e R s m args below meth c H locs cells slots (MQ below Qc args s mc ms free) g) : W p l e R s m args below meth c H locs cells slots (vx_MQ below Qc XC args s mc ms free) g := by
  intro T hT X
  obtain ⟨t, a1, o, b1, b2, b3, b4⟩ := k T hT X
  exact ⟨t, a1, o, b1, b2, Or.inl ⟨b3, b4⟩⟩
/-- not caught here: it goes on to the caller -/
theorem vx_widen {g : JFrame} {q : Addr} {k n : Nat} (h1 : cells ≤ k) (h2 : slots ≤ n) (kk : vx_W p l e R s m args below meth c H locs k n Q g q) : vx_W p l e R s m args below meth c H locs cells slots Q g q := fun T hT X => kk T hT (stand_widen X h1 h2)
theorem vx_out {pc : Nat} {E : String} {ce : Cell} {q : Addr} {mc ms : Nat} (hout : ∀ x ∈ c.exceptionTable.toList, covers x pc = false) (hlocks : meth.locks = false) (hcell : H[q]? = some ce) (hv : ce.vm = .none) (hcl : s.vm.findClass E = some ce.cls)
    (hx : ∀ t : State, t.heap = H → s.vm.Alike t.vm → XC E s t) (hf : ∀ z ∈ locs, free z.base) (hc : cells ≤ mc) (hs : slots ≤ ms) :
    vx_W p l e R s m args below meth c H locs cells slots (vx_MQ below Qc XC args s mc ms free) (F0 m pc ls rest) q := by
  intro T hT X
  obtain ⟨st1, hrun, hend, hW, hsm⟩ := X.leaveThrown q (g := F0 m pc ls rest) rfl rfl rfl hout hlocks
  have hcell9 : (T.setFrames (.throwing q :: below)).heap[q]? = some ce := by
    show T.heap[q]? = some ce
    rw [hT]; exact hcell
  exact ⟨_, st1, .threw q, hrun, hend, Or.inr ⟨q, rfl, E, ce, locs, hx _ hT hW.alike, hcell9, hv, hcl, hW, hsm.mono hc hs, hf⟩⟩
theorem vx_frame {U : State} {k n : Nat} (h : s.sameButNew ({ U with vm := s.vm } : State) locs k n) : s.heap.size ≤ U.heap.size ∧ ∀ q : Nat, q < s.heap.size → (∀ z ∈ locs, z.base ≠ q) → U.heap[q]? = s.heap[q]? := by
  obtain ⟨-, h2, -, -, -, h6⟩ := h
  refine ⟨h2, fun q hq hz => ?_⟩
  obtain ⟨c9, e1, e2, e3, e4⟩ := h6 q _ (Array.getElem?_eq_getElem hq)
  have hs : c9.slots = (s.heap[q]).slots := Array.ext_getElem? fun i => e4 i fun hm => hz _ hm rfl
  have h9 : c9 = s.heap[q] := by
    rw [hs] at e2
    exact e2
  have e5 : U.heap[q]? = some c9 := e1
  rw [e5, h9, Array.getElem?_eq_getElem hq]
/-- the words of a throw but the four that speak of the heap -/
def vx_no (w : Cond) : Bool := decide (w ≠ .isRef (.static Bundle.tN "UNASSIGNED_STACK" Bundle.steD)) && decide (w ≠ .isRef (.static Bundle.tN "SUPPRESSED_SENTINEL" Bundle.listD)) && decide (w ≠ .laysStatic Bundle.tN "UNASSIGNED_STACK" Bundle.steD) && decide (w ≠ .laysStatic Bundle.tN "SUPPRESSED_SENTINEL" Bundle.listD)
def vx_at0 (own : String) (ic : Nat) (X : String) (names : List String) : List Cond := (Bundle.ownAtoms0 own ic X names).filter vx_no
def vx_atS (own : String) (ic : Nat) (X : String) (names : List String) : List Cond := (Bundle.ownAtoms own ic X names).filter vx_no
/-- a word that the tables alone decide, or a good one -/
def vx_ot (w : Cond) : Bool := w.onTables || goodWord w
theorem vx_ot_at {args a' : Array Value} {s U : State} {w : Cond} (hW : s.WarmedH U.vm) (hvm : s.vm = U.vm) (hg : vx_ot w = true) (h : w.before args s = true) : w.before a' U = true := by
  simp only [vx_ot, Bool.or_eq_true] at hg
  rcases hg with hg | hg
  · exact va_tabs hg hvm h
  · exact word_at hW (good_of_word hg) h
/-- a list's words: the good ones out of the method's own list, the others by premises of their own -/
theorem vx_hat {args : Array Value} {s : State} {L B : List Cond} (h1 : ∀ w ∈ L.filter goodWord, w.before args s = true) (h2 : ∀ w ∈ L.filter (fun w => !goodWord w), w ∈ B) (h3 : ∀ w ∈ B, w.before args s = true) : ∀ w ∈ L, w.before args s = true := by
  intro w hw
  by_cases g : goodWord w = true
  · exact h1 w (List.mem_filter.mpr ⟨hw, g⟩)
  · refine h3 w (h2 w (List.mem_filter.mpr ⟨hw, ?_⟩))
    show (!goodWord w) = true
    cases hgw : goodWord w
    · rfl
    · exact absurd hgw g
theorem vx_c {args : Array Value} {s : State} {w : Cond} {B : List Cond} (h : w.before args s = true) (t : ∀ w ∈ B, w.before args s = true) : ∀ w' ∈ w :: B, w'.before args s = true := fun w' h' => (List.mem_cons.mp h').elim (fun e => by rw [e]; exact h) (t w')
theorem vx_n {args : Array Value} {s : State} : ∀ w ∈ ([] : List Cond), w.before args s = true := fun _ h => nomatch h
theorem vx_own {args : Array Value} {s : State} {L : List Cond} (h1 : ∀ w ∈ L.filter vx_no, w.before args s = true)
    (hU : (Cond.isRef (.static Bundle.tN "UNASSIGNED_STACK" Bundle.steD)).before args s = true) (hN : (Cond.isRef (.static Bundle.tN "SUPPRESSED_SENTINEL" Bundle.listD)).before args s = true)
    (lU : (Cond.laysStatic Bundle.tN "UNASSIGNED_STACK" Bundle.steD).before args s = true) (lN : (Cond.laysStatic Bundle.tN "SUPPRESSED_SENTINEL" Bundle.listD).before args s = true) : ∀ w ∈ L, w.before args s = true := by
  intro w hw
  by_cases e1 : w = .isRef (.static Bundle.tN "UNASSIGNED_STACK" Bundle.steD)
  · rw [e1]; exact hU
  · by_cases e2 : w = .isRef (.static Bundle.tN "SUPPRESSED_SENTINEL" Bundle.listD)
    · rw [e2]; exact hN
    · by_cases e3 : w = .laysStatic Bundle.tN "UNASSIGNED_STACK" Bundle.steD
      · rw [e3]; exact lU
      · by_cases e4 : w = .laysStatic Bundle.tN "SUPPRESSED_SENTINEL" Bundle.listD
        · rw [e4]; exact lN
        · exact h1 w (List.mem_filter.mpr ⟨hw, by unfold vx_no; rw [decide_eq_true e1, decide_eq_true e2, decide_eq_true e3, decide_eq_true e4]; rfl⟩)
/-- where a static field lies, its class's statics cell in H -/
def vx_L (C n d : String) (A : Nat → Prop) (U : State) (H : Heap) : Prop := ∃ (c : ClassId) (k : Class) (i : Nat) (f : Field) (a : Nat) (cell : Cell), U.vm.findClass C = some c ∧ U.fieldFound? C n d = some (c, k, i, f) ∧ f.isStatic = true ∧ k.statics = some a ∧ H[a]? = some cell ∧ cell.vm.isStatics = true ∧ cell.cls = c ∧ f.slot < cell.slots.size ∧ k.staticTypes[f.slot]? = some f.type ∧ ¬ A a
theorem vx_L.moved {C n d : String} {A : Nat → Prop} {u U : State} {H : Heap} (hvm : u.vm.Alike U.vm) (h : vx_L C n d A u H) : vx_L C n d A U H := by
  obtain ⟨c, k, i, f, a, cell, h1, h2, h3, h4, h5, h6, h7, h8, h9, h10⟩ := h
  obtain ⟨k', hi', he⟩ := State.fieldFound?_setVm hvm h2
  exact ⟨c, k', i, f, a, cell, by rw [hvm.findClass]; exact h1, hi', h3, by rw [he]; exact h4, h5, h6, h7, h8, by rw [he]; exact h9, h10⟩
theorem vx_L.kept {C n d : String} {A : Nat → Prop} {U : State} {H H1 : Heap} (h : vx_L C n d A U H) (hq : ∀ a : Nat, a < H.size → ¬ A a → H1[a]? = H[a]?) : vx_L C n d A U H1 := by
  obtain ⟨c, k, i, f, a, cell, h1, h2, h3, h4, h5, h6, h7, h8, h9, h10⟩ := h
  exact ⟨c, k, i, f, a, cell, h1, h2, h3, h4, by rw [hq a (Array.getElem?_eq_some_iff.mp h5).1 h10]; exact h5, h6, h7, h8, h9, h10⟩
theorem vx_L.narrow {C n d : String} {A B : Nat → Prop} {U : State} {H : Heap} (h : vx_L C n d A U H) (hAB : ∀ q, B q → A q) : vx_L C n d B U H := by
  obtain ⟨c, k, i, f, a, cell, h1, h2, h3, h4, h5, h6, h7, h8, h9, h10⟩ := h
  exact ⟨c, k, i, f, a, cell, h1, h2, h3, h4, h5, h6, h7, h8, h9, fun z => h10 (hAB _ z)⟩
theorem vx_L.word {C n d : String} {A : Nat → Prop} {s : State} {args : Array Value} (h : vx_L C n d A s s.heap) : (Cond.laysStatic C n d).before args s = true := by
  obtain ⟨c, k, i, f, a, cell, h1, h2, h3, h4, h5, h6, h7, h8, h9, -⟩ := h
  show (Cond.laysStatic C n d).holds args s none s [] = true
  exact Cond.laysStatic_of h1 h2 h3 h4 h5 h6 h7 h8 h9
/-- .. and what it holds: null or some reference -/
def vx_Zq (C n d : String) (A : Nat → Prop) (U : State) (H : Heap) : Prop := va_Zq C n d A U H ∧ vx_L C n d A U H
theorem vx_Zq.moved {C n d : String} {A : Nat → Prop} {u U : State} {H : Heap} (hvm : u.vm.Alike U.vm) (h : vx_Zq C n d A u H) : vx_Zq C n d A U H := ⟨va_Zq.moved hvm h.1, vx_L.moved hvm h.2⟩
theorem vx_Zq.kept {C n d : String} {A : Nat → Prop} {U : State} {H H1 : Heap} (h : vx_Zq C n d A U H) (hq : ∀ a : Nat, a < H.size → ¬ A a → H1[a]? = H[a]?) : vx_Zq C n d A U H1 := ⟨va_Zq.kept h.1 hq, vx_L.kept h.2 hq⟩
theorem vx_Zq.narrow {C n d : String} {A B : Nat → Prop} {U : State} {H : Heap} (h : vx_Zq C n d A U H) (hAB : ∀ q, B q → A q) : vx_Zq C n d B U H := ⟨va_Zq.narrow h.1 hAB, vx_L.narrow h.2 hAB⟩
theorem vx_Zqof {args : Array Value} {s : State} {C n d : String} {A : Nat → Prop} (hl : (Cond.laysStatic C n d).before args s = true) (hini : (Cond.initialized C).before args s = true) (h : (Cond.isRef (.static C n d)).before args s = true) (hA : ∀ a : Nat, a < s.heap.size → ¬ A a) : vx_Zq C n d A s s.heap := by
  refine ⟨va_Zqof hl hini h hA, ?_⟩
  obtain ⟨c, k, i, f, a, cell, h1, h2, h3, h4, h5, h6, h7, h8, h9⟩ := Cond.laysStatic_spec hl
  exact ⟨c, k, i, f, a, cell, h1, h2, h3, h4, h5, h6, h7, h8, h9, hA a (Array.getElem?_eq_some_iff.mp h5).1⟩
theorem vx_isRef {C n d : String} {v : Value} {A : Nat → Prop} {s : State} {args : Array Value} (h : va_Z C n d v A s s.heap) (hv : v.isRef = true) : (Cond.isRef (.static C n d)).before args s = true := by
  obtain ⟨cf, kf, fi, f, a, cell, h1, h2, h3, h4, h5, h6, h7, -⟩ := h
  have he : (Term.static C n d).eval args s none [] s = some v := by
    simp [Term.eval, State.fieldNamed?, h1, h2, h4, h5, h6, h7]
  simp only [Cond.before, Cond.holds, Cond.value, he]
  cases v <;> simp_all [Value.isRef]
theorem vx_isRefq {C n d : String} {A : Nat → Prop} {s : State} {args : Array Value} (h : va_Zq C n d A s s.heap) : (Cond.isRef (.static C n d)).before args s = true := by
  rcases h with h | ⟨t, h⟩
  · exact vx_isRef h rfl
  · exact vx_isRef h rfl
/-- the same frame, seen from here: as if the method were called anew in this heap -/
theorem vx_rebase {T : State} (X : Stand p l e R s m args below meth c T locs cells slots) {R' : Room} (hf : R'.frames ≤ R.frames) (hl : R'.locals ≤ R.locals) (hc : cells + R'.cells ≤ R.cells) (hs : slots + R'.slots ≤ R.slots) :
    Stand p l e R' ((T.setVm s.vm).setFrames (.invoking m args :: below)) m args below meth c T [] 0 0 := by
  have htop : (T.setVm s.vm).topJava?.isSome := X.here.top
  have hF : ((T.setVm s.vm).setFrames (.invoking m args :: below)).frames = .invoking m args :: below := State.frames_setFrames _ (State.cur_lt_of_top htop)
  obtain ⟨g₀, hg0⟩ := Option.isSome_iff_exists.mp htop
  obtain ⟨r, hr⟩ := State.topJava?_eq_some.mp hg0
  have hl9 : e.platform.stackLimits (T.setVm s.vm).me = e.platform.stackLimits s.me := X.limits
  have hb9 : (T.setVm s.vm).me.stackBytes = s.me.stackBytes := X.bytes
  refine ⟨X.admits, X.cas, X.clock, hF, ?_, X.hears, X.method, X.code, X.here, X.tail, X.warmed, ?_, ?_, ?_⟩
  · have h := X.room
    have hU : ((T.setVm s.vm).setFrames (.invoking m args :: below)).localsInUse = s.localsInUse := by
      rw [State.localsInUse_invoking hF (meth := meth) (c := c) X.method X.code, State.localsInUse_invoking X.frames X.method X.code]
    simp only [State.hasRoom, Bool.and_eq_true, decide_eq_true_eq] at h ⊢
    obtain ⟨⟨⟨⟨h1, h2, h3, h4, h5, h6⟩, h7⟩, h8⟩, h9⟩ := h
    rw [X.frames, List.length_cons] at h2 h3
    have q1 := X.heapSize
    have q2 := X.used
    simp only [hF, hU, List.length_cons, State.stackLimits_setFrames, State.stackBytes_setFrames, hl9, hb9]
    refine ⟨⟨⟨⟨by omega, by omega, by omega, by omega, by omega, h6⟩, ?_⟩, ?_⟩, X.book⟩
    · show T.heap.size + R'.cells ≤ e.platform.maxCells
      omega
    · show T.slotsUsed + R'.slots ≤ e.platform.maxSlots
      omega
  · rw [State.stackLimits_setFrames]; rfl
  · rw [State.stackBytes_setFrames]; rfl
  · refine ⟨?_, Nat.le_refl _, Nat.le_refl _, ?_, ?_, fun a c9 h9 => ⟨c9, h9, rfl, rfl, fun _ _ => rfl⟩⟩
    · obtain ⟨t, ht, -⟩ := State.frames_cons hr
      show T.setVm s.vm = { ((T.setVm s.vm).setFrames (.invoking m args :: below)).setFrames (T.setVm s.vm).frames with heap := T.heap, slotsUsed := T.slotsUsed }
      rw [State.setFrames_setFrames, State.setFrames_self ht]
      rfl
    · show T.slotsUsed = T.slotsUsed + ((T.heap.toList.drop T.heap.size).map (·.slots.size)).sum
      rw [List.drop_eq_nil_of_le (Nat.le_of_eq Array.length_toList)]
      rfl
    · show ((T.heap.toList.drop T.heap.size).map (·.slots.size)).sum ≤ 0
      rw [List.drop_eq_nil_of_le (Nat.le_of_eq Array.length_toList)]
      exact Nat.le_refl _
/-- 'throw new E()': new; dup; invokespecial; athrow -/
theorem vx_throw0 {cc : ByteArray} {pc : Nat} (hexec : p.tables.exec = Jvm.exec) (hb : c.code = cc) (hl : l.stackTraces = false) {own cls : String} {names : List String} {ik ic mc ms : Nat} {A : Nat → Prop}
    (hown : s.vm.findClass own = some m.cls) (hcls : Bundle.fit cls = true) (hnames : ∀ n ∈ names, Bundle.fit n = true)
    (hk : (Cond.classLink own ik cls).before args s = true) (hini : (Cond.initialized cls).before args s = true) (hat : ∀ w ∈ vx_at0 own ic cls names, w.before args s = true)
    (hgood : ∀ w ∈ Cond.classLink own ik cls :: Cond.initialized cls :: vx_at0 own ic cls names, vx_ot w = true)
    (hU : vx_Zq Bundle.tN "UNASSIGNED_STACK" Bundle.steD A s s.heap) (hN : vx_Zq Bundle.tN "SUPPRESSED_SENTINEL" Bundle.listD A s s.heap) (hS : va_S A s.heap H locs) (hsize : ls.size = c.maxLocals)
    (d0 : decode cc pc = .ok (.new ik, 3)) (d3 : decode cc (pc + 3) = .ok (.dup, 1)) (d4 : decode cc (pc + 4) = .ok (.invokespecial ic, 3)) (d7 : decode cc (pc + 7) = .ok (.athrow, 1))
    (hout : ∀ x ∈ c.exceptionTable.toList, covers x (pc + 7) = false)
    (hRframes : names.length + 3 < R.frames) (hRlocals : (rest.map fun v => v.category).sum + (13 * (names.length + 1) + 42) ≤ R.locals) (hRcells : cells + 1 ≤ R.cells) (hRslots : slots + 6 ≤ R.slots) (hlocks : meth.locks = false)
    (hx : ∀ t : State, s.vm.Alike t.vm → H.size ≤ t.heap.size → (∀ q : Nat, q < H.size → t.heap[q]? = H[q]?) → XC cls s t)
    (hf : ∀ z ∈ locs, free z.base) (hc : cells + 1 ≤ mc) (hs : slots + 6 ≤ ms) :
    W p l e R s m args below meth c H locs cells slots (vx_MQ below Qc XC args s mc ms free) (F0 m pc ls rest) := by
  intro T hT X
  have htr : e.platform.stackTraces = false := (show e.platform.stackTraces = l.stackTraces by rw [X.admits.platform]).trans hl
  have Y := vx_rebase X (R' := { frames := R.frames, locals := R.locals, cells := 1, slots := 6 }) (Nat.le_refl _) (Nat.le_refl _) hRcells hRslots
  obtain ⟨s', hA⟩ : ∃ z, z = (T.setVm s.vm).setFrames (.invoking m args :: below) := ⟨_, rfl⟩
  rw [← hA] at Y
  have hvm : s'.vm = s.vm := by rw [hA]; rfl
  have hhp : s'.heap = H := by rw [hA]; exact hT
  have hW0 : s.WarmedH s'.vm := by rw [hvm]; exact State.WarmedH.refl s
  have hat' : ∀ w ∈ vx_at0 own ic cls names, w.before args s' = true := fun w hw => vx_ot_at hW0 hvm.symm (hgood w (List.mem_cons_of_mem _ (List.mem_cons_of_mem _ hw))) (hat w hw)
  have hk' : (Cond.classLink own ik cls).before args s' = true := vx_ot_at hW0 hvm.symm (hgood _ List.mem_cons_self) hk
  have hini' : (Cond.initialized cls).before args s' = true := vx_ot_at hW0 hvm.symm (hgood _ (List.mem_cons_of_mem _ List.mem_cons_self)) hini
  have hU' : vx_Zq Bundle.tN "UNASSIGNED_STACK" Bundle.steD A s' s'.heap := by rw [hhp]; exact vx_Zq.moved hW0.alike (hU.kept hS.2.1)
  have hN' : vx_Zq Bundle.tN "SUPPRESSED_SENTINEL" Bundle.listD A s' s'.heap := by rw [hhp]; exact vx_Zq.moved hW0.alike (hN.kept hS.2.1)
  have h : ∀ w ∈ Bundle.ownAtoms0 own ic cls names, w.before args s' = true := vx_own hat' (vx_isRefq hU'.1) (vx_isRefq hN'.1) hU'.2.word hN'.2.word
  have hown' : s'.vm.findClass own = some m.cls := by rw [hvm]; exact hown
  have hins : (Cond.instantiable cls 6).before args s' = true := h _ (by simp [Bundle.ownAtoms0])
  obtain ⟨vm₁, cX, kX, hfX, hkX, -, -, X₁, st1⟩ := Y.newCold hexec (own := own) (C := cls) (index := ik) (n := 6) hown' hk' hins hini'
    (g := F0 m pc ls rest) rfl (by rw [hb]; exact d0) (Nat.le_refl _) (Nat.le_refl _)
  generalize hT1 : (T.setVm vm₁).pushCell { cls := cX, slots := kX.instanceTypes.map defaultValue, vm := .none } = T1 at X₁ st1
  have hcat : (Value.ref T.heap.size).category = 1 := rfl
  have hcellA : T1.heap[T.heap.size]? = some (freshCell cX kX) := by rw [← hT1]; exact State.heap_pushCell_size _ _
  have d3' : decode c.code (pc + 3) = .ok (.dup, 1) := by rw [hb]; exact d3
  obtain ⟨U, hsteps, hrun, hend, hW, hsame, ce, hce, hO⟩ := X₁.ctorThrow0 hexec htr (own := own) (cls := cls) (names := names) (ic := ic) hown' hcls hnames h (fun x hx => nomatch hx) hfX hkX hcellA (by rw [hhp, hT]; exact Nat.le_refl _)
    (g := { method := m, pc := pc + 4, locals := ls, stack := .ref T.heap.size :: .ref T.heap.size :: rest, locked := none }) rfl hsize rfl rfl (rest := rest) rfl
    (by rw [hb]; exact d4) (by rw [hb]; exact d7) hout hRframes (by simp only [List.map_cons, List.sum_cons, hcat]; omega) hlocks
  obtain ⟨f1, f2⟩ := vx_frame hsame
  rw [hhp] at f1 f2
  have hWs : s.WarmedH U.vm := State.WarmedH.trans hW0 hW
  have hcl : s.vm.findClass cls = some ce.cls := by
    have h9 := hO.cls
    rw [hvm] at h9
    exact h9
  have hall : s.sameButNew ({ U with vm := s.vm } : State) locs mc ms := by
    subst hA
    obtain ⟨e1, e2⟩ := hsame
    rw [State.setFrames_setFrames] at e1
    have h2 : (T.setVm s.vm).sameButNew ({ U with vm := s.vm } : State) [] (0 + 1) (0 + 6) := ⟨e1, e2⟩
    have h3 := X.same.trans h2
    rw [List.append_nil] at h3
    exact h3.mono hc hs
  refine ⟨U, ?_, .threw T.heap.size, hrun, hend, Or.inr ⟨T.heap.size, rfl, cls, ce, locs, hx U hWs.alike f1 (fun q hq => f2 q hq (fun z hz => nomatch hz)), hce, hO.vm, hcl, hWs, hall, hf⟩⟩
  refine st1 _ ?_
  show Steps p.tables e below (T1.setTop { method := m, pc := pc + 3, locals := ls, stack := .ref T.heap.size :: rest, locked := none }) _
  jvm_step X₁.here [X₁.here.top, hexec, d3', Value.category]
  exact hsteps
/-- 'throw new E("text")': new; dup; ldc; invokespecial; athrow -/
theorem vx_throwS {cc : ByteArray} {pc : Nat} (hexec : p.tables.exec = Jvm.exec) (hb : c.code = cc) (hl : l.stackTraces = false) {own cls text : String} {names : List String} {ik is ic mc ms sa : Nat} {A : Nat → Prop}
    (hown : s.vm.findClass own = some m.cls) (hcls : Bundle.fit cls = true) (hnames : ∀ n ∈ names, Bundle.fit n = true)
    (hk : (Cond.classLink own ik cls).before args s = true) (hini : (Cond.initialized cls).before args s = true) (hstr : vk_R own is text sa s) (hat : ∀ w ∈ vx_atS own ic cls names, w.before args s = true)
    (hgood : ∀ w ∈ Cond.classLink own ik cls :: Cond.initialized cls :: vx_atS own ic cls names, vx_ot w = true)
    (hU : vx_Zq Bundle.tN "UNASSIGNED_STACK" Bundle.steD A s s.heap) (hN : vx_Zq Bundle.tN "SUPPRESSED_SENTINEL" Bundle.listD A s s.heap) (hS : va_S A s.heap H locs) (hsize : ls.size = c.maxLocals)
    (d0 : decode cc pc = .ok (.new ik, 3)) (d3 : decode cc (pc + 3) = .ok (.dup, 1)) (d4 : decode cc (pc + 4) = .ok (.ldc is, 2)) (d6 : decode cc (pc + 6) = .ok (.invokespecial ic, 3)) (d9 : decode cc (pc + 9) = .ok (.athrow, 1))
    (hout : ∀ x ∈ c.exceptionTable.toList, covers x (pc + 9) = false)
    (hRframes : names.length + 3 < R.frames) (hRlocals : (rest.map fun v => v.category).sum + (13 * (names.length + 1) + 43) ≤ R.locals) (hRcells : cells + 1 ≤ R.cells) (hRslots : slots + 6 ≤ R.slots) (hlocks : meth.locks = false)
    (hx : ∀ t : State, s.vm.Alike t.vm → H.size ≤ t.heap.size → (∀ q : Nat, q < H.size → t.heap[q]? = H[q]?) → XC cls s t)
    (hf : ∀ z ∈ locs, free z.base) (hc : cells + 1 ≤ mc) (hs : slots + 6 ≤ ms) :
    W p l e R s m args below meth c H locs cells slots (vx_MQ below Qc XC args s mc ms free) (F0 m pc ls rest) := by
  intro T hT X
  have htr : e.platform.stackTraces = false := (show e.platform.stackTraces = l.stackTraces by rw [X.admits.platform]).trans hl
  have Y := vx_rebase X (R' := { frames := R.frames, locals := R.locals, cells := 1, slots := 6 }) (Nat.le_refl _) (Nat.le_refl _) hRcells hRslots
  obtain ⟨s', hA⟩ : ∃ z, z = (T.setVm s.vm).setFrames (.invoking m args :: below) := ⟨_, rfl⟩
  rw [← hA] at Y
  have hvm : s'.vm = s.vm := by rw [hA]; rfl
  have hhp : s'.heap = H := by rw [hA]; exact hT
  have hW0 : s.WarmedH s'.vm := by rw [hvm]; exact State.WarmedH.refl s
  have hat' : ∀ w ∈ vx_atS own ic cls names, w.before args s' = true := fun w hw => vx_ot_at hW0 hvm.symm (hgood w (List.mem_cons_of_mem _ (List.mem_cons_of_mem _ hw))) (hat w hw)
  have hk' : (Cond.classLink own ik cls).before args s' = true := vx_ot_at hW0 hvm.symm (hgood _ List.mem_cons_self) hk
  have hini' : (Cond.initialized cls).before args s' = true := vx_ot_at hW0 hvm.symm (hgood _ (List.mem_cons_of_mem _ List.mem_cons_self)) hini
  have hU' : vx_Zq Bundle.tN "UNASSIGNED_STACK" Bundle.steD A s' s'.heap := by rw [hhp]; exact vx_Zq.moved hW0.alike (hU.kept hS.2.1)
  have hN' : vx_Zq Bundle.tN "SUPPRESSED_SENTINEL" Bundle.listD A s' s'.heap := by rw [hhp]; exact vx_Zq.moved hW0.alike (hN.kept hS.2.1)
  have h : ∀ w ∈ Bundle.ownAtoms own ic cls names, w.before args s' = true := vx_own hat' (vx_isRefq hU'.1) (vx_isRefq hN'.1) hU'.2.word hN'.2.word
  have hown' : s'.vm.findClass own = some m.cls := by rw [hvm]; exact hown
  have hins : (Cond.instantiable cls 6).before args s' = true := h _ (by simp [Bundle.ownAtoms])
  obtain ⟨vm₁, cX, kX, hfX, hkX, -, -, X₁, st1⟩ := Y.newCold hexec (own := own) (C := cls) (index := ik) (n := 6) hown' hk' hins hini'
    (g := F0 m pc ls rest) rfl (by rw [hb]; exact d0) (Nat.le_refl _) (Nat.le_refl _)
  generalize hT1 : (T.setVm vm₁).pushCell { cls := cX, slots := kX.instanceTypes.map defaultValue, vm := .none } = T1 at X₁ st1
  have hcat : (Value.ref T.heap.size).category = 1 := rfl
  have hcellA : T1.heap[T.heap.size]? = some (freshCell cX kX) := by rw [← hT1]; exact State.heap_pushCell_size _ _
  have d3' : decode c.code (pc + 3) = .ok (.dup, 1) := by rw [hb]; exact d3
  have d4' : decode c.code (pc + 4) = .ok (.ldc is, 2) := by rw [hb]; exact d4
  have hstr' : vk_R own is text sa s' := vk_R.warm hW0 hstr
  obtain ⟨U, hsteps, hrun, hend, hW, hsame, ce, hce, hO⟩ := X₁.ctorThrowS hexec htr (own := own) (cls := cls) (names := names) (ic := ic) hown' hcls hnames h (fun x hx => nomatch hx) hfX hkX hcellA (by rw [hhp, hT]; exact Nat.le_refl _) (msg := .ref sa) rfl
    (g := { method := m, pc := pc + 6, locals := ls, stack := .ref sa :: .ref T.heap.size :: .ref T.heap.size :: rest, locked := none }) rfl hsize rfl rfl (rest := rest) rfl
    (by rw [hb]; exact d6) (by rw [hb]; exact d9) hout hRframes (by simp only [List.map_cons, List.sum_cons, hcat]; omega) hlocks
  obtain ⟨f1, f2⟩ := vx_frame hsame
  rw [hhp] at f1 f2
  have hWs : s.WarmedH U.vm := State.WarmedH.trans hW0 hW
  have hcl : s.vm.findClass cls = some ce.cls := by
    have h9 := hO.cls
    rw [hvm] at h9
    exact h9
  have hall : s.sameButNew ({ U with vm := s.vm } : State) locs mc ms := by
    subst hA
    obtain ⟨e1, e2⟩ := hsame
    rw [State.setFrames_setFrames] at e1
    have h2 : (T.setVm s.vm).sameButNew ({ U with vm := s.vm } : State) [] (0 + 1) (0 + 6) := ⟨e1, e2⟩
    have h3 := X.same.trans h2
    rw [List.append_nil] at h3
    exact h3.mono hc hs
  refine ⟨U, ?_, .threw T.heap.size, hrun, hend, Or.inr ⟨T.heap.size, rfl, cls, ce, locs, hx U hWs.alike f1 (fun q hq => f2 q hq (fun z hz => nomatch hz)), hce, hO.vm, hcl, hWs, hall, hf⟩⟩
  refine st1 _ ?_
  show Steps p.tables e below (T1.setTop { method := m, pc := pc + 3, locals := ls, stack := .ref T.heap.size :: rest, locked := none }) _
  jvm_step X₁.here [X₁.here.top, hexec, d3', Value.category]
  exact X₁.ldcString hexec (own := own) (text := text) (index := is) (a := sa) hown' hstr'.1 hstr'.2
    (g := { method := m, pc := pc + 4, locals := ls, stack := .ref T.heap.size :: .ref T.heap.size :: rest, locked := none }) rfl d4' _ hsteps
/-- 'throw new E("text")', the text by a wide index -/
theorem vx_throwSW {cc : ByteArray} {pc : Nat} (hexec : p.tables.exec = Jvm.exec) (hb : c.code = cc) (hl : l.stackTraces = false) {own cls text : String} {names : List String} {ik is ic mc ms sa : Nat} {A : Nat → Prop}
    (hown : s.vm.findClass own = some m.cls) (hcls : Bundle.fit cls = true) (hnames : ∀ n ∈ names, Bundle.fit n = true)
    (hk : (Cond.classLink own ik cls).before args s = true) (hini : (Cond.initialized cls).before args s = true) (hstr : vk_R own is text sa s) (hat : ∀ w ∈ vx_atS own ic cls names, w.before args s = true)
    (hgood : ∀ w ∈ Cond.classLink own ik cls :: Cond.initialized cls :: vx_atS own ic cls names, vx_ot w = true)
    (hU : vx_Zq Bundle.tN "UNASSIGNED_STACK" Bundle.steD A s s.heap) (hN : vx_Zq Bundle.tN "SUPPRESSED_SENTINEL" Bundle.listD A s s.heap) (hS : va_S A s.heap H locs) (hsize : ls.size = c.maxLocals)
    (d0 : decode cc pc = .ok (.new ik, 3)) (d3 : decode cc (pc + 3) = .ok (.dup, 1)) (d4 : decode cc (pc + 4) = .ok (.ldc_w is, 3)) (d7 : decode cc (pc + 7) = .ok (.invokespecial ic, 3)) (d10 : decode cc (pc + 10) = .ok (.athrow, 1))
    (hout : ∀ x ∈ c.exceptionTable.toList, covers x (pc + 10) = false)
    (hRframes : names.length + 3 < R.frames) (hRlocals : (rest.map fun v => v.category).sum + (13 * (names.length + 1) + 43) ≤ R.locals) (hRcells : cells + 1 ≤ R.cells) (hRslots : slots + 6 ≤ R.slots) (hlocks : meth.locks = false)
    (hx : ∀ t : State, s.vm.Alike t.vm → H.size ≤ t.heap.size → (∀ q : Nat, q < H.size → t.heap[q]? = H[q]?) → XC cls s t)
    (hf : ∀ z ∈ locs, free z.base) (hc : cells + 1 ≤ mc) (hs : slots + 6 ≤ ms) :
    W p l e R s m args below meth c H locs cells slots (vx_MQ below Qc XC args s mc ms free) (F0 m pc ls rest) := by
  intro T hT X
  have htr : e.platform.stackTraces = false := (show e.platform.stackTraces = l.stackTraces by rw [X.admits.platform]).trans hl
  have Y := vx_rebase X (R' := { frames := R.frames, locals := R.locals, cells := 1, slots := 6 }) (Nat.le_refl _) (Nat.le_refl _) hRcells hRslots
  obtain ⟨s', hA⟩ : ∃ z, z = (T.setVm s.vm).setFrames (.invoking m args :: below) := ⟨_, rfl⟩
  rw [← hA] at Y
  have hvm : s'.vm = s.vm := by rw [hA]; rfl
  have hhp : s'.heap = H := by rw [hA]; exact hT
  have hW0 : s.WarmedH s'.vm := by rw [hvm]; exact State.WarmedH.refl s
  have hat' : ∀ w ∈ vx_atS own ic cls names, w.before args s' = true := fun w hw => vx_ot_at hW0 hvm.symm (hgood w (List.mem_cons_of_mem _ (List.mem_cons_of_mem _ hw))) (hat w hw)
  have hk' : (Cond.classLink own ik cls).before args s' = true := vx_ot_at hW0 hvm.symm (hgood _ List.mem_cons_self) hk
  have hini' : (Cond.initialized cls).before args s' = true := vx_ot_at hW0 hvm.symm (hgood _ (List.mem_cons_of_mem _ List.mem_cons_self)) hini
  have hU' : vx_Zq Bundle.tN "UNASSIGNED_STACK" Bundle.steD A s' s'.heap := by rw [hhp]; exact vx_Zq.moved hW0.alike (hU.kept hS.2.1)
  have hN' : vx_Zq Bundle.tN "SUPPRESSED_SENTINEL" Bundle.listD A s' s'.heap := by rw [hhp]; exact vx_Zq.moved hW0.alike (hN.kept hS.2.1)
  have h : ∀ w ∈ Bundle.ownAtoms own ic cls names, w.before args s' = true := vx_own hat' (vx_isRefq hU'.1) (vx_isRefq hN'.1) hU'.2.word hN'.2.word
  have hown' : s'.vm.findClass own = some m.cls := by rw [hvm]; exact hown
  have hins : (Cond.instantiable cls 6).before args s' = true := h _ (by simp [Bundle.ownAtoms])
  obtain ⟨vm₁, cX, kX, hfX, hkX, -, -, X₁, st1⟩ := Y.newCold hexec (own := own) (C := cls) (index := ik) (n := 6) hown' hk' hins hini'
    (g := F0 m pc ls rest) rfl (by rw [hb]; exact d0) (Nat.le_refl _) (Nat.le_refl _)
  generalize hT1 : (T.setVm vm₁).pushCell { cls := cX, slots := kX.instanceTypes.map defaultValue, vm := .none } = T1 at X₁ st1
  have hcat : (Value.ref T.heap.size).category = 1 := rfl
  have hcellA : T1.heap[T.heap.size]? = some (freshCell cX kX) := by rw [← hT1]; exact State.heap_pushCell_size _ _
  have d3' : decode c.code (pc + 3) = .ok (.dup, 1) := by rw [hb]; exact d3
  have d4' : decode c.code (pc + 4) = .ok (.ldc_w is, 3) := by rw [hb]; exact d4
  have hstr' : vk_R own is text sa s' := vk_R.warm hW0 hstr
  obtain ⟨U, hsteps, hrun, hend, hW, hsame, ce, hce, hO⟩ := X₁.ctorThrowS hexec htr (own := own) (cls := cls) (names := names) (ic := ic) hown' hcls hnames h (fun x hx => nomatch hx) hfX hkX hcellA (by rw [hhp, hT]; exact Nat.le_refl _) (msg := .ref sa) rfl
    (g := { method := m, pc := pc + 7, locals := ls, stack := .ref sa :: .ref T.heap.size :: .ref T.heap.size :: rest, locked := none }) rfl hsize rfl rfl (rest := rest) rfl
    (by rw [hb]; exact d7) (by rw [hb]; exact d10) hout hRframes (by simp only [List.map_cons, List.sum_cons, hcat]; omega) hlocks
  obtain ⟨f1, f2⟩ := vx_frame hsame
  rw [hhp] at f1 f2
  have hWs : s.WarmedH U.vm := State.WarmedH.trans hW0 hW
  have hcl : s.vm.findClass cls = some ce.cls := by
    have h9 := hO.cls
    rw [hvm] at h9
    exact h9
  have hall : s.sameButNew ({ U with vm := s.vm } : State) locs mc ms := by
    subst hA
    obtain ⟨e1, e2⟩ := hsame
    rw [State.setFrames_setFrames] at e1
    have h2 : (T.setVm s.vm).sameButNew ({ U with vm := s.vm } : State) [] (0 + 1) (0 + 6) := ⟨e1, e2⟩
    have h3 := X.same.trans h2
    rw [List.append_nil] at h3
    exact h3.mono hc hs
  refine ⟨U, ?_, .threw T.heap.size, hrun, hend, Or.inr ⟨T.heap.size, rfl, cls, ce, locs, hx U hWs.alike f1 (fun q hq => f2 q hq (fun z hz => nomatch hz)), hce, hO.vm, hcl, hWs, hall, hf⟩⟩
  refine st1 _ ?_
  show Steps p.tables e below (T1.setTop { method := m, pc := pc + 3, locals := ls, stack := .ref T.heap.size :: rest, locked := none }) _
  jvm_step X₁.here [X₁.here.top, hexec, d3', Value.category]
  exact X₁.ldcStringW hexec (own := own) (text := text) (index := is) (a := sa) hown' hstr'.1 hstr'.2
    (g := { method := m, pc := pc + 4, locals := ls, stack := .ref T.heap.size :: .ref T.heap.size :: rest, locked := none }) rfl d4' _ hsteps
end Ends
section Bodies
variable {l : Launch}
theorem vx_ofW {y : MethodName} {ws ws' : List Cond} {rm : Room} {Pc : Array Value → State → Prop} {Qc : Array Value → State → Outcome → State → Prop} {XC : String → State → State → Prop} {mc ms : Nat} {free : Addr → Prop} {cc : ByteArray} {maxL : Nat} {ret : Option FieldType}
    (hy : plainName y.cls = true) (hw : ws = Cond.code y cc maxL ret :: ws')
    (body : ∀ p e s m args below meth c s₁, BodyLoose p l y (headSpec ws rm) cc maxL ret e s m args below meth c s₁ → c.maxLocals = maxL → (∀ x ∈ c.exceptionTable.toList, False) → Pc args s →
      W p l e (headSpec ws rm).room s m args below meth c s.heap [] 0 0 (vx_MQ below Qc XC args s mc ms free) (entryFrame m args maxL)) : vx_Met l y ws rm Pc Qc XC mc ms free := by
  refine MetFree.of_bodyS (code := cc) (maxLocals := maxL) (ret := ret) hy ?_ ?_
  · intro args s m h hn
    obtain ⟨meth, c, h1, h2, h3, h4, h5, h6, -, -⟩ := Cond.code_spec hn (atoms_spec (ws := ws) h _ (by rw [hw]; exact List.mem_cons_self))
    exact ⟨meth, c, h1, h2, h3, h4, h5, h6⟩
  · intro p e s m args below meth c s₁ B hml hP _
    have hh0 : s₁.heap = s.heap := by rw [B.state]; rfl
    have ht : ∀ x ∈ c.exceptionTable.toList, False := by
      obtain ⟨meth9, c9, h1, h2, -, -, -, -, h7, -⟩ := Cond.code_spec B.named (atoms_spec (ws := ws) B.pre _ (by rw [hw]; exact List.mem_cons_self))
      cases Option.some.inj (h1.symm.trans B.method)
      cases Option.some.inj (h2.symm.trans (Stand.of_body B).code)
      intro x hx
      rw [Array.isEmpty_iff.mp h7] at hx
      cases hx
    obtain ⟨t, a1, o, b1, b2, b3⟩ := body p e s m args below meth c s₁ B hml ht hP s₁ hh0 (Stand.of_body B)
    exact ⟨t, o, a1, b1, b2, b3⟩
/-- the table of a body with handlers -/
theorem vx_table {p : Program} {x y : MethodName} {S : Spec} {cc bytes : ByteArray} {maxL maxL' : Nat} {ret ret' : Option FieldType} {e : Env} {s s₁ : State} {m : MethodId} {args : Array Value} {below : List Frame} {meth : Method} {c : Code} {hh : List (Nat × Nat × Nat × Nat)}
    (B : BodyLoose p l y S cc maxL ret e s m args below meth c s₁) (h : (Cond.codeWith y bytes maxL' ret' hh).before args s = true) : c.exceptionTable.toList = tableOf hh := by
  obtain ⟨m9, meth9, c9, hn9, h1, h2, -, -, h6, -⟩ := Cond.codeWith_spec h
  cases Option.some.inj (hn9.symm.trans B.named)
  cases Option.some.inj (h1.symm.trans B.method)
  cases Option.some.inj (h2.symm.trans (Stand.of_body B).code)
  rw [← h6, table_eq]
end Bodies
end VXA
/-! ===== END ===== -/
/-! ===== BEGIN a static call of a method with an exception table ===== -/
section VXS
variable {p : Program} {l : Launch} {e : Env} {R : Room} {s : State} {m : MethodId} {args : Array Value} {below : List Frame} {meth : Method} {c : Code} {T : State} {H : Heap} {locs : List Loc} {cells slots : Nat}
abbrev vx_CSW (R : Room) (s : State) (args : Array Value) (own : String) (index : Nat) (y : MethodName) (bytes : ByteArray) (maxL : Nat) (ret : Option FieldType) (hh : List (Nat × Nat × Nat × Nat)) (ws : List Cond) (rm : Room) (mc ms n : Nat) : Prop :=
  (rm.cells = mc ∧ rm.slots = ms ∧ rm.frames + 1 ≤ R.frames ∧ 8 + (maxL + 11) + rm.locals ≤ R.locals ∧ (∀ w ∈ ws, ∀ (a' : Array Value) (U : State), s.WarmedH U.vm → w.before a' U = true) ∧ Cond.codeWith y bytes maxL ret hh ∈ ws) ∧
  (Cond.codeWith y bytes maxL ret hh).before args s = true ∧ (Cond.initialized y.cls).before args s = true ∧ (y.cls ≠ "java/lang/invoke/MethodHandle" ∧ y.cls ≠ "java/lang/invoke/VarHandle") ∧
  (∀ sig, parseMethodDescriptor y.desc = some sig → n = sig.parameters.length) ∧ (Cond.methodLink own index y).before args s = true ∧ (Cond.static y).before args s = true
theorem vx_cwSW {own : String} {index maxL mc ms : Nat} {y : MethodName} {bytes : ByteArray} {ret : Option FieldType} {hh : List (Nat × Nat × Nat × Nat)} {Ts ws ws' : List Cond} {rm : Room} (n : Nat) (ht : ∀ w ∈ Ts, w.before args s = true) (hT : GoodIn Ts (va_wsS own index y ws)) (hw : ws = Cond.codeWith y bytes maxL ret hh :: ws') (hrc : rm.cells = mc) (hrs : rm.slots = ms)
    (hd : y.cls ≠ "java/lang/invoke/MethodHandle" ∧ y.cls ≠ "java/lang/invoke/VarHandle" ∧ (parseMethodDescriptor y.desc).map (fun d => d.parameters.length) = some n) (hR : rm.frames + 1 ≤ R.frames ∧ 8 + (maxL + 11) + rm.locals ≤ R.locals) :
    vx_CSW R s args own index y bytes maxL ret hh ws rm mc ms n := by
  have ok : ∀ w ∈ va_wsS own index y ws, w.before args s = true := fun w h => ht w (hT w h).1
  have hG : GoodIn Ts ws := fun w h => hT w (by unfold va_wsS; exact List.mem_append_right _ h)
  have hc : Cond.codeWith y bytes maxL ret hh ∈ ws := by rw [hw]; exact List.mem_cons_self
  refine ⟨⟨hrc, hrs, hR.1, hR.2, pay_in ht hG, hc⟩, ht _ (hG _ hc).1, ok _ (by simp [va_wsS]), ⟨hd.1, hd.2.1⟩, fun sig h => ?_, ok _ (by simp [va_wsS]), ok _ (by simp [va_wsS])⟩
  have h2 := hd.2.2
  rw [h] at h2
  exact (Option.some.inj h2).symm
theorem vx_callSW (X : Stand p l e R s m args below meth c T locs cells slots) (hexec : p.tables.exec = Jvm.exec) {own : String} {index : Nat} {y : MethodName} {bytes : ByteArray} {maxL : Nat} {ret : Option FieldType} {hh : List (Nat × Nat × Nat × Nat)}
    (hown : s.vm.findClass own = some m.cls) (hlink : (Cond.methodLink own index y).before args s = true) (hstat : (Cond.static y).before args s = true) (hinit : (Cond.initialized y.cls).before args s = true)
    (hcode : (Cond.codeWith y bytes maxL ret hh).before args s = true) (hy : y.cls ≠ "java/lang/invoke/MethodHandle" ∧ y.cls ≠ "java/lang/invoke/VarHandle")
    {W9 : Nat} {Pre : Pt → Array Value → Prop} {Post : Pt → Array Value → Option Value → Pt → Prop} (hK : Back l R p e below s args y 3 W9 Pre Post)
    {g : JFrame} (hg : g.method = m) (hsize : g.locals.size = c.maxLocals) {argsL rest : List Value} (hlen : ∀ sig, parseMethodDescriptor y.desc = some sig → argsL.length = sig.parameters.length)
    (hstack : g.stack = argsL.reverse ++ rest) (hW : 2 * g.monitorRoom + (rest.map fun v => v.category).sum ≤ W9) (hdg : decode c.code g.pc = .ok (.invokestatic index, 3))
    (hpre : ∀ vm₁, s.WarmedH vm₁ → Pre ⟨T.setVm vm₁, locs, cells, slots⟩ argsL.toArray) :
    ∃ (v : Option Value) (vm₁ : Vm) (B : Pt), s.WarmedH vm₁ ∧ Stand p l e R s m args below meth c B.U B.locs B.cells B.slots ∧ Post ⟨T.setVm vm₁, locs, cells, slots⟩ argsL.toArray v B ∧
      ∀ target, Steps p.tables e below (B.U.setTop { g with pc := g.pc + 3, stack := v.toList ++ rest }) target → Steps p.tables e below (T.setTop g) target := by
  obtain ⟨mk, methM, cM, hnamed, hmethM, -, -, -, -, -, -, hsigM⟩ := Cond.codeWith_spec hcode
  have hstatic : methM.isStatic = true := Cond.static_spec hnamed hmethM hstat
  obtain ⟨kP, hkP, -⟩ := className_of_methodNamed hnamed
  have hinitP : kP.init = .initialized := Cond.initialized_spec (findClass_of_methodNamed hnamed) hkP hinit
  obtain ⟨vm₁, X₁, hstep₁⟩ := X.invokestatic hexec hown hlink hnamed hmethM hstatic hkP hinitP hy (g := g) hg (argsL := argsL) (rest := rest) (hlen _ hsigM) hstack hdg
  obtain ⟨v, B, X', hpost, hsteps⟩ := hK m meth c ⟨T.setVm vm₁, locs, cells, slots⟩ { g with stack := rest } (.invokestatic index) mk argsL.toArray X₁ hg hsize hdg hW (X₁.named hnamed) (hpre vm₁ X₁.warmed)
  exact ⟨v, vm₁, B, X₁.warmed, X', hpost, fun target h => hstep₁ _ fun acts => by rw [doInvoke_state]; exact hsteps.trans h⟩
theorem vx_runSW {y : MethodName} {bytes cc : ByteArray} {maxL nL mc ms n index : Nat} {ret : Option FieldType} {hh : List (Nat × Nat × Nat × Nat)} {ws : List Cond} {rm : Room} {Pc : Array Value → State → Prop} {Qc : Array Value → State → Outcome → State → Prop} {free : Addr → Prop} {Ts : List Cond} {own : String} {As rest : List Value} {g : JFrame}
    (S : CallFix p m c cc nL s args Ts own) (hM : Met l y ws rm Pc Qc mc ms free) (cw : vx_CSW R s args own index y bytes maxL ret hh ws rm mc ms n) (hp : PreS s H Pc As)
    (hg : g.method = m) (hn : As.length = n) (hsize : g.locals.size = nL) (hstack : g.stack = As.reverse ++ rest) (hW : 2 * g.monitorRoom + (rest.map fun v => v.category).sum ≤ 8) (hdg : decode cc g.pc = .ok (.invokestatic index, 3)) (hf : cells + mc ≤ R.cells ∧ slots + ms ≤ R.slots) :
    va_Run p l e R s m args below meth c H locs cells slots mc ms g rest (Qc As.toArray) (free) := by
  obtain ⟨⟨hrc, hrs, hfr, hlo, hws, hcw⟩, hcode, hini, hy, hlen, hl, hstt⟩ := cw
  have hK : Back l R p e below s args y 3 8 (PreOf R mc ms Pc) (PostOf Qc mc ms free) := va_backW (hh := hh) (bytes := bytes) (maxL := maxL) (ret := ret) hM hp.1 hrc hrs hfr hlo hws hcw (fun a' U hW => word_at hW (Or.inl (by first | rfl | simp [Cond.onTables, Cond.keeps, Cond.steady])) hini)
  obtain ⟨hx, hb, hml, ho, -⟩ := S
  intro T hT X
  obtain ⟨v, vm₁, ⟨U', l2, c2, s2⟩, hW₁, X', ⟨g', mk, t, L, e1, e2, hq, h1, hL, h2, h3⟩, st⟩ := vx_callSW X hx (hh := hh) (bytes := bytes) (maxL := maxL) (ret := ret) ho hl hstt hini hcode hy hK hg (hsize.trans hml.symm) (argsL := As) (rest := rest) (fun sig h => hn.trans (hlen sig h)) hstack hW (by rw [hb]; exact hdg)
    (fun vm₁ hW₁ => ⟨hf.1, hf.2, hp.2 (T.setVm vm₁) hT hW₁⟩)
  dsimp only [Pt.U, Pt.locs, Pt.cells, Pt.slots] at X' e1 e2 h1 h2 h3 st
  subst h1; subst h2; subst h3
  exact ⟨v, (T.setVm vm₁).calling g' mk As.toArray, t, U', L, hT, X', hL, e1, e2, hq, st⟩
/-- not caught here, past rows that name other classes: it goes on to the caller -/
theorem vx_outP {p : Program} {l : Launch} {e : Env} {R : Room} {s : State} {m : MethodId} {args : Array Value} {below : List Frame} {meth : Method} {c : Code} {H : Heap} {locs : List Loc} {cells slots : Nat} {free : Addr → Prop} {ls : Array Slot} {rest : List Value} {Qc : Array Value → State → Outcome → State → Prop} {XC : String → State → State → Prop}
    {pc : Nat} {own E : String} {ce : Cell} {q : Addr} {mc ms : Nat} (hown : s.vm.findClass own = some m.cls) (hlocks : meth.locks = false)
    (hpass : ∀ z ∈ c.exceptionTable.toList, covers z pc = false ∨ (z.catchType ≠ 0 ∧ ∃ nm : String, (Cond.classLink own z.catchType nm).before args s = true ∧ va_Nc E nm s)) (hcell : H[q]? = some ce) (hv : ce.vm = .none) (hcl : s.vm.findClass E = some ce.cls)
    (hx : ∀ t : State, t.heap = H → s.vm.Alike t.vm → XC E s t) (hf : ∀ z ∈ locs, free z.base) (hc : cells ≤ mc) (hs : slots ≤ ms) :
    vx_W p l e R s m args below meth c H locs cells slots (vx_MQ below Qc XC args s mc ms free) (F0 m pc ls rest) q := by
  intro T hT X
  have hpl : e.platform.magicAccessors = ({} : Platform).magicAccessors := by rw [X.admits.platform]
  obtain ⟨vm', hW', X', st⟩ := X.outThrough hlocks q (g := F0 m pc ls rest) rfl rfl rfl (cell := ce) (by rw [hT]; exact hcell) (by rw [hv]; rfl)
    (by obtain ⟨k9, h9, -⟩ := Vm.findClass_spec hcl; exact ⟨k9, h9⟩) (fun z hz => by
      rcases hpass z hz with h | ⟨hz0, nm, hl1, hn1⟩
      · exact Or.inl h
      · obtain ⟨c6, hc6, hcl6⟩ := Cond.classLink_spec hown hl1 e.platform hpl
        obtain ⟨a8, b8, h1, h2, h3⟩ := hn1
        cases Option.some.inj (h1.symm.trans hcl)
        cases Option.some.inj (h2.symm.trans hc6)
        exact Or.inr ⟨hz0, _, hcl6, h3⟩)
  obtain ⟨g₀, hfr⟩ := X'.frames_eq
  have hcell9 : ((T.setVm vm').setFrames (.throwing q :: below)).heap[q]? = some ce := by
    show T.heap[q]? = some ce
    rw [hT]; exact hcell
  have hend : Ended ((T.setVm vm').setFrames (.throwing q :: below)) below (.threw q) := State.frames_setFrames _ (State.cur_lt_of_frames hfr)
  refine ⟨(T.setVm vm').setFrames (.throwing q :: below), ?_, .threw q, X'.here.running, hend, Or.inr ⟨q, rfl, E, ce, locs, hx _ hT (X'.ends _).1.alike, hcell9, hv, hcl, (X'.ends _).1, (X'.ends _).2.mono hc hs, hf⟩⟩
  rw [X.pushThrowing_eq]
  exact st
/-- a thing of a world lies in the heap -/
theorem vx_lt {D : va_G} {cl : List vw_C} {ws : va_W} {H1 : Heap} (h : va_P D cl ws H1) {k : Nat} {q : Nat × va_E} (hk : ws[k]? = some q) : q.1 < H1.size := (h k q hk).lt
end VXS
/-! ===== END ===== -/
/-! ===== BEGIN methods with a table of their own: called by a name, returning or throwing ===== -/
section VXH
/-! vx_backW, vx_callVX, vx_callSX, vx_callVW, vx_runVW, vx_runVX, vx_runSX, vx_ofWH follow the same proofs as their sisters above (Free/Laws.lean, Shelf42/LK1.lean); vx_outP calls Shelf42/NT130.lean (outThrough). -/
section
variable {l : Launch} {R : Room} {p : Program} {e : Env} {below : List Frame} {s : State} {sargs : Array Value} {y : MethodName} {len W9 : Nat}
theorem vx_backW {ws : List Cond} {rm : Room} {Pc : Array Value → State → Prop} {Qc : Array Value → State → Outcome → State → Prop} {XC : String → State → State → Prop} {mc ms : Nat} {free : Addr → Prop} {bytes : ByteArray} {maxL : Nat} {ret : Option FieldType} {hh : List (Nat × Nat × Nat × Nat)}
    (hM : vx_Met l y ws rm Pc Qc XC mc ms free) (hblind : FrameBlind Pc) (hrc : rm.cells = mc) (hrs : rm.slots = ms)
    (hframes : rm.frames + 1 ≤ R.frames) (hlocals : W9 + (maxL + 11) + rm.locals ≤ R.locals)
    (hws : ∀ w ∈ ws, ∀ a' U, s.WarmedH U.vm → w.before a' U = true) (hcode : Cond.codeWith y bytes maxL ret hh ∈ ws) (hinit : ∀ a' U, s.WarmedH U.vm → (Cond.initialized y.cls).before a' U = true) :
    vx_Back l R p e below s sargs y len W9 (PreOf R mc ms Pc) (PostOf Qc mc ms free) (vx_Post XC mc ms free) := by
  intro m meth c A g ig mk a X hg hsize hdg hW hn hp
  have h1 : (headSpec ws rm).pre.before a A.U = true := atoms_intro fun w hw => hws w hw _ _ X.warmed
  have h2 : (Cond.codeWith y bytes maxL ret hh).before a A.U = true := hws _ hcode _ _ X.warmed
  have h3 : (Cond.initialized y.cls).before a A.U = true := hinit _ _ X.warmed
  have h4 : A.cells + (headSpec ws rm).room.cells ≤ R.cells := by rw [show (headSpec ws rm).room.cells = mc from hrc]; exact hp.1
  have h5 : A.slots + (headSpec ws rm).room.slots ≤ R.slots := by rw [show (headSpec ws rm).room.slots = ms from hrs]; exact hp.2.1
  have hPc : Pc a (A.U.calling g mk a) := hblind _ _ _ _ hp.2.2
  obtain ⟨U, Ls, c0, s0⟩ := A
  dsimp only [Pt.U, Pt.locs, Pt.cells, Pt.slots] at h1 h2 h3 h4 h5 X hn hPc ⊢
  obtain ⟨m9, methY, cY, hn9, hmY, hcY, -, hlY, -⟩ := Cond.codeWith_spec h2
  cases Option.some.inj (hn9.symm.trans hn)
  obtain ⟨kY, hkY, -⟩ := className_of_methodNamed hn
  have hinitY : kY.init = .initialized := Cond.initialized_spec (findClass_of_methodNamed hn) hkY h3
  have h : At U g.method c below := by rw [hg]; exact X.here
  have hlocals9 : W9 + (maxL + 11) + (headSpec ws rm).room.locals ≤ R.locals := hlocals
  have happ : (headSpec ws rm).appliesLoose y e.platform (U.calling g mk a) = true :=
    Spec.appliesLoose_calling (g := g) h hdg hn hkY hinitY
      (X.room_calling (g := g) (R' := (headSpec ws rm).room) hsize hmY hcY hframes (by rw [hlY]; omega) h4 h5) h1
  obtain ⟨mid, hmid⟩ := h.above
  have hfr : (U.setTop g).frames = (.java g :: mid) ++ below := by rw [State.frames_setTop' g h.top, hmid]; rfl
  obtain ⟨o, s₂, hsteps, -, hend, hq⟩ := Steps.callFree hM p X.admits X.cas X.clock (acts := []) hfr happ hPc trivial
  have hq' : vx_Q Qc XC mc ms free a (U.calling g mk a) o s₂ := hq
  rw [State.frames_setTop' g h.top] at hend
  obtain ⟨g₀, hg0⟩ := Option.isSome_iff_exists.mp h.top
  obtain ⟨r, hr⟩ := State.topJava?_eq_some.mp hg0
  have hr' : (({ U with heap := s₂.heap, slotsUsed := s₂.slotsUsed } : State).setVm s₂.vm).frames = .java g₀ :: r := hr
  rcases hq' with ⟨hqc, L, hfe, hL⟩ | ⟨q, rfl, E, ce, L, hx, hce, hcv, hcl, hW₂, hsm, hL⟩
  · obtain ⟨⟨v, rfl⟩, hW₂, e2, q2, q3, q4, q5, q6⟩ := id hfe
    have e3 : s₂ = ({ (U.calling g mk a).setFrames s₂.frames with heap := s₂.heap, slotsUsed := s₂.slotsUsed } : State).setVm s₂.vm := by
      have : s₂ = ({ s₂ with vm := (U.calling g mk a).vm } : State).setVm s₂.vm := rfl
      rw [e2] at this
      exact this
    obtain ⟨c₂, i₂, len₂, hc₂, hd₂, hf₂⟩ := hend
    have hW' : U.WarmedH s₂.vm := hW₂
    have hcc : c₂ = c := by
      have h1 : s₂.code? g.method = U.code? g.method := by
        rw [State.code?_eq, State.code?_eq, hW'.alike.method?]
      exact Option.some.inj (hc₂.symm.trans (h1.trans h.code))
    subst hcc
    have hlen : len₂ = len := by rw [hdg] at hd₂; cases hd₂; rfl
    subst hlen
    have hs₂ : s₂ = (({ U with heap := s₂.heap, slotsUsed := s₂.slotsUsed } : State).setVm s₂.vm).setTop { g with pc := g.pc + len₂, stack := v.toList ++ g.stack } := by
      refine e3.trans ?_
      rw [hf₂, State.calling_eq h.top, State.setFrames_setFrames, State.setTop_of_frames _ hr', hr]
      rfl
    have hsame : U.sameButNew ({ U with heap := s₂.heap, slotsUsed := s₂.slotsUsed } : State) L mc ms := by
      refine ⟨?_, q2, q3, q4, q5, q6⟩
      obtain ⟨t, ht, -⟩ := State.frames_cons hr
      show ({ U with heap := s₂.heap, slotsUsed := s₂.slotsUsed } : State) = { U.setFrames U.frames with heap := s₂.heap, slotsUsed := s₂.slotsUsed }
      rw [State.setFrames_self ht]
    subst hg
    refine Or.inl ⟨v, ⟨(({ U with heap := s₂.heap, slotsUsed := s₂.slotsUsed } : State).setVm s₂.vm), Ls ++ L, c0 + mc, s0 + ms⟩,
      ⟨X.admits, X.cas, X.clock, X.frames, X.room, X.hears, X.method, X.code, (X.here.setHeapUsed s₂.heap s₂.slotsUsed).setVm hW'.alike, X.tail, State.WarmedH.trans X.warmed hW', X.limits, X.bytes, X.same.trans (hsame.setVm s.vm)⟩,
      ⟨g, mk, s₂, L, rfl, rfl, hqc, rfl, hL, rfl, rfl⟩, ?_⟩
    show Steps p.tables e below _ ((({ U with heap := s₂.heap, slotsUsed := s₂.slotsUsed } : State).setVm s₂.vm).setTop { g with pc := g.pc + len₂, stack := v.toList ++ g.stack })
    rw [← hs₂]
    exact hsteps
  · obtain ⟨e2, q2, q3, q4, q5, q6⟩ := id hsm
    have e3 : s₂ = ({ (U.calling g mk a).setFrames s₂.frames with heap := s₂.heap, slotsUsed := s₂.slotsUsed } : State).setVm s₂.vm := by
      have : s₂ = ({ s₂ with vm := (U.calling g mk a).vm } : State).setVm s₂.vm := rfl
      rw [e2] at this
      exact this
    have hf₂ : s₂.frames = .throwing q :: .java g :: U.frames.tail := hend
    have hW' : U.WarmedH s₂.vm := hW₂
    have hs₂ : s₂ = ((({ U with heap := s₂.heap, slotsUsed := s₂.slotsUsed } : State).setVm s₂.vm).setTop g).pushFrame (.throwing q) := by
      refine e3.trans ?_
      rw [hf₂, State.calling_eq h.top, State.setFrames_setFrames, State.pushFrame, State.frames_setTop _ hr', State.setTop_of_frames _ hr', State.setFrames_setFrames, hr]
      rfl
    have hsame : U.sameButNew ({ U with heap := s₂.heap, slotsUsed := s₂.slotsUsed } : State) L mc ms := by
      refine ⟨?_, q2, q3, q4, q5, q6⟩
      obtain ⟨t, ht, -⟩ := State.frames_cons hr
      show ({ U with heap := s₂.heap, slotsUsed := s₂.slotsUsed } : State) = { U.setFrames U.frames with heap := s₂.heap, slotsUsed := s₂.slotsUsed }
      rw [State.setFrames_self ht]
    subst hg
    refine Or.inr ⟨q, ⟨(({ U with heap := s₂.heap, slotsUsed := s₂.slotsUsed } : State).setVm s₂.vm), Ls ++ L, c0 + mc, s0 + ms⟩,
      ⟨X.admits, X.cas, X.clock, X.frames, X.room, X.hears, X.method, X.code, (X.here.setHeapUsed s₂.heap s₂.slotsUsed).setVm hW'.alike, X.tail, State.WarmedH.trans X.warmed hW', X.limits, X.bytes, X.same.trans (hsame.setVm s.vm)⟩,
      ⟨g, mk, s₂, L, E, ce, rfl, rfl, hx, hce, hcv, hcl, rfl, hL, rfl, rfl⟩, ?_⟩
    show Steps p.tables e below _ (((({ U with heap := s₂.heap, slotsUsed := s₂.slotsUsed } : State).setVm s₂.vm).setTop g).pushFrame (.throwing q))
    rw [← hs₂]
    exact hsteps
end
variable {p : Program} {l : Launch} {e : Env} {R : Room} {s : State} {m : MethodId} {args : Array Value} {below : List Frame} {meth : Method} {c : Code} {T : State} {H : Heap} {locs : List Loc} {cells slots : Nat}
theorem vx_callVX (X : Stand p l e R s m args below meth c T locs cells slots) (hexec : p.tables.exec = Jvm.exec) {own C : String} {index : Nat} {y : MethodName} {bytes : ByteArray} {maxL : Nat} {ret : Option FieldType} {hh : List (Nat × Nat × Nat × Nat)}
    (hown : s.vm.findClass own = some m.cls) (hlink : (Cond.methodLink own index y).before args s = true) (hinst : (Cond.instanceMethod y).before args s = true) (hsel : (Cond.selects C y y).before args s = true)
    (hcode : (Cond.codeWith y bytes maxL ret hh).before args s = true) (hy : y.cls ≠ "java/lang/invoke/MethodHandle" ∧ y.cls ≠ "java/lang/invoke/VarHandle")
    {W9 : Nat} {Pre : Pt → Array Value → Prop} {Post : Pt → Array Value → Option Value → Pt → Prop} {PostX : Pt → Array Value → Addr → Pt → Prop} (hK : vx_Back l R p e below s args y 3 W9 Pre Post PostX)
    {b : Addr} {cellB : Cell} (hcell : T.heap[b]? = some cellB) (hobj : cellB.vm.isStatics = false) (hcls : s.vm.findClass C = some cellB.cls)
    {g : JFrame} (hg : g.method = m) (hsize : g.locals.size = c.maxLocals) {argsL rest : List Value} (hlen : ∀ sig, parseMethodDescriptor y.desc = some sig → argsL.length = sig.parameters.length)
    (hstack : g.stack = argsL.reverse ++ .ref b :: rest) (hW : 2 * g.monitorRoom + (rest.map fun v => v.category).sum ≤ W9) (hdg : decode c.code g.pc = .ok (.invokevirtual index, 3))
    (hpre : ∀ vm₁, s.WarmedH vm₁ → Pre ⟨T.setVm vm₁, locs, cells, slots⟩ (Value.ref b :: argsL).toArray) :
    (∃ (v : Option Value) (vm₁ : Vm) (B : Pt), s.WarmedH vm₁ ∧ Stand p l e R s m args below meth c B.U B.locs B.cells B.slots ∧ Post ⟨T.setVm vm₁, locs, cells, slots⟩ (Value.ref b :: argsL).toArray v B ∧
      ∀ target, Steps p.tables e below (B.U.setTop { g with pc := g.pc + 3, stack := v.toList ++ rest }) target → Steps p.tables e below (T.setTop g) target) ∨
    (∃ (q : Addr) (vm₁ : Vm) (B : Pt), s.WarmedH vm₁ ∧ Stand p l e R s m args below meth c B.U B.locs B.cells B.slots ∧ PostX ⟨T.setVm vm₁, locs, cells, slots⟩ (Value.ref b :: argsL).toArray q B ∧
      Steps p.tables e below (T.setTop g) ((B.U.setTop { g with stack := rest }).pushFrame (.throwing q))) := by
  obtain ⟨mk, methM, hnamed, hmethM, hstM, habM⟩ := Cond.instanceMethod_spec hinst
  obtain ⟨m8, methM', cM, hn8, hmethM', -, -, -, -, -, -, hsigM⟩ := Cond.codeWith_spec hcode
  cases Option.some.inj (hn8.symm.trans hnamed)
  cases hmethM.symm.trans hmethM'
  obtain ⟨c2, r2, m2, q1, q2, q3, q4, kP, hkP, hkPi⟩ := Cond.selects_spec hsel
  cases hcls.symm.trans q1
  cases (State.methodFound?_of_named hnamed hy).symm.trans q2
  cases hnamed.symm.trans q3
  have hselP : selectMethod e.platform s.vm cellB.cls mk = .method mk := by rw [Launch.admits_selectMethod X.admits]; exact q4
  obtain ⟨vm₁, X₁, hstep₁⟩ := X.invokevirtual hexec hown hlink hnamed hmethM hstM hkP hkPi hy (a := b) (cell := cellB) hcell
    (fun z h => by rw [h] at hobj; cases hobj) hselP hmethM habM hkP hkPi (g := g) hg (argsL := argsL) (rest := rest) (hlen _ hsigM) hstack hdg
  rcases hK m meth c ⟨T.setVm vm₁, locs, cells, slots⟩ { g with stack := rest } (.invokevirtual index) mk (Value.ref b :: argsL).toArray X₁ hg hsize hdg hW (X₁.named hnamed) (hpre vm₁ X₁.warmed) with ⟨v, B, X', hpost, hsteps⟩ | ⟨q, B, X', hpost, hsteps⟩
  · exact Or.inl ⟨v, vm₁, B, X₁.warmed, X', hpost, fun target h => hstep₁ _ fun acts => by rw [doInvoke_state]; exact hsteps.trans h⟩
  · exact Or.inr ⟨q, vm₁, B, X₁.warmed, X', hpost, hstep₁ _ fun acts => by rw [doInvoke_state]; exact hsteps⟩
theorem vx_callSX (X : Stand p l e R s m args below meth c T locs cells slots) (hexec : p.tables.exec = Jvm.exec) {own : String} {index : Nat} {y : MethodName} {bytes : ByteArray} {maxL : Nat} {ret : Option FieldType} {hh : List (Nat × Nat × Nat × Nat)}
    (hown : s.vm.findClass own = some m.cls) (hlink : (Cond.methodLink own index y).before args s = true) (hstat : (Cond.static y).before args s = true) (hinit : (Cond.initialized y.cls).before args s = true)
    (hcode : (Cond.codeWith y bytes maxL ret hh).before args s = true) (hy : y.cls ≠ "java/lang/invoke/MethodHandle" ∧ y.cls ≠ "java/lang/invoke/VarHandle")
    {W9 : Nat} {Pre : Pt → Array Value → Prop} {Post : Pt → Array Value → Option Value → Pt → Prop} {PostX : Pt → Array Value → Addr → Pt → Prop} (hK : vx_Back l R p e below s args y 3 W9 Pre Post PostX)
    {g : JFrame} (hg : g.method = m) (hsize : g.locals.size = c.maxLocals) {argsL rest : List Value} (hlen : ∀ sig, parseMethodDescriptor y.desc = some sig → argsL.length = sig.parameters.length)
    (hstack : g.stack = argsL.reverse ++ rest) (hW : 2 * g.monitorRoom + (rest.map fun v => v.category).sum ≤ W9) (hdg : decode c.code g.pc = .ok (.invokestatic index, 3))
    (hpre : ∀ vm₁, s.WarmedH vm₁ → Pre ⟨T.setVm vm₁, locs, cells, slots⟩ argsL.toArray) :
    (∃ (v : Option Value) (vm₁ : Vm) (B : Pt), s.WarmedH vm₁ ∧ Stand p l e R s m args below meth c B.U B.locs B.cells B.slots ∧ Post ⟨T.setVm vm₁, locs, cells, slots⟩ argsL.toArray v B ∧
      ∀ target, Steps p.tables e below (B.U.setTop { g with pc := g.pc + 3, stack := v.toList ++ rest }) target → Steps p.tables e below (T.setTop g) target) ∨
    (∃ (q : Addr) (vm₁ : Vm) (B : Pt), s.WarmedH vm₁ ∧ Stand p l e R s m args below meth c B.U B.locs B.cells B.slots ∧ PostX ⟨T.setVm vm₁, locs, cells, slots⟩ argsL.toArray q B ∧
      Steps p.tables e below (T.setTop g) ((B.U.setTop { g with stack := rest }).pushFrame (.throwing q))) := by
  obtain ⟨mk, methM, cM, hnamed, hmethM, -, -, -, -, -, -, hsigM⟩ := Cond.codeWith_spec hcode
  have hstatic : methM.isStatic = true := Cond.static_spec hnamed hmethM hstat
  obtain ⟨kP, hkP, -⟩ := className_of_methodNamed hnamed
  have hinitP : kP.init = .initialized := Cond.initialized_spec (findClass_of_methodNamed hnamed) hkP hinit
  obtain ⟨vm₁, X₁, hstep₁⟩ := X.invokestatic hexec hown hlink hnamed hmethM hstatic hkP hinitP hy (g := g) hg (argsL := argsL) (rest := rest) (hlen _ hsigM) hstack hdg
  rcases hK m meth c ⟨T.setVm vm₁, locs, cells, slots⟩ { g with stack := rest } (.invokestatic index) mk argsL.toArray X₁ hg hsize hdg hW (X₁.named hnamed) (hpre vm₁ X₁.warmed) with ⟨v, B, X', hpost, hsteps⟩ | ⟨q, B, X', hpost, hsteps⟩
  · exact Or.inl ⟨v, vm₁, B, X₁.warmed, X', hpost, fun target h => hstep₁ _ fun acts => by rw [doInvoke_state]; exact hsteps.trans h⟩
  · exact Or.inr ⟨q, vm₁, B, X₁.warmed, X', hpost, hstep₁ _ fun acts => by rw [doInvoke_state]; exact hsteps⟩
theorem vx_callVW (X : Stand p l e R s m args below meth c T locs cells slots) (hexec : p.tables.exec = Jvm.exec) {own C : String} {index : Nat} {y : MethodName} {bytes : ByteArray} {maxL : Nat} {ret : Option FieldType} {hh : List (Nat × Nat × Nat × Nat)}
    (hown : s.vm.findClass own = some m.cls) (hlink : (Cond.methodLink own index y).before args s = true) (hinst : (Cond.instanceMethod y).before args s = true) (hsel : (Cond.selects C y y).before args s = true)
    (hcode : (Cond.codeWith y bytes maxL ret hh).before args s = true) (hy : y.cls ≠ "java/lang/invoke/MethodHandle" ∧ y.cls ≠ "java/lang/invoke/VarHandle")
    {W9 : Nat} {Pre : Pt → Array Value → Prop} {Post : Pt → Array Value → Option Value → Pt → Prop} (hK : Back l R p e below s args y 3 W9 Pre Post)
    {b : Addr} {cellB : Cell} (hcell : T.heap[b]? = some cellB) (hobj : cellB.vm.isStatics = false) (hcls : s.vm.findClass C = some cellB.cls)
    {g : JFrame} (hg : g.method = m) (hsize : g.locals.size = c.maxLocals) {argsL rest : List Value} (hlen : ∀ sig, parseMethodDescriptor y.desc = some sig → argsL.length = sig.parameters.length)
    (hstack : g.stack = argsL.reverse ++ .ref b :: rest) (hW : 2 * g.monitorRoom + (rest.map fun v => v.category).sum ≤ W9) (hdg : decode c.code g.pc = .ok (.invokevirtual index, 3))
    (hpre : ∀ vm₁, s.WarmedH vm₁ → Pre ⟨T.setVm vm₁, locs, cells, slots⟩ (Value.ref b :: argsL).toArray) :
    ∃ (v : Option Value) (vm₁ : Vm) (B : Pt), s.WarmedH vm₁ ∧ Stand p l e R s m args below meth c B.U B.locs B.cells B.slots ∧ Post ⟨T.setVm vm₁, locs, cells, slots⟩ (Value.ref b :: argsL).toArray v B ∧
      ∀ target, Steps p.tables e below (B.U.setTop { g with pc := g.pc + 3, stack := v.toList ++ rest }) target → Steps p.tables e below (T.setTop g) target := by
  obtain ⟨mk, methM, hnamed, hmethM, hstM, habM⟩ := Cond.instanceMethod_spec hinst
  obtain ⟨m8, methM', cM, hn8, hmethM', -, -, -, -, -, -, hsigM⟩ := Cond.codeWith_spec hcode
  cases Option.some.inj (hn8.symm.trans hnamed)
  cases hmethM.symm.trans hmethM'
  obtain ⟨c2, r2, m2, q1, q2, q3, q4, kP, hkP, hkPi⟩ := Cond.selects_spec hsel
  cases hcls.symm.trans q1
  cases (State.methodFound?_of_named hnamed hy).symm.trans q2
  cases hnamed.symm.trans q3
  have hselP : selectMethod e.platform s.vm cellB.cls mk = .method mk := by rw [Launch.admits_selectMethod X.admits]; exact q4
  obtain ⟨vm₁, X₁, hstep₁⟩ := X.invokevirtual hexec hown hlink hnamed hmethM hstM hkP hkPi hy (a := b) (cell := cellB) hcell
    (fun z h => by rw [h] at hobj; cases hobj) hselP hmethM habM hkP hkPi (g := g) hg (argsL := argsL) (rest := rest) (hlen _ hsigM) hstack hdg
  obtain ⟨v, B, X', hpost, hsteps⟩ := hK m meth c ⟨T.setVm vm₁, locs, cells, slots⟩ { g with stack := rest } (.invokevirtual index) mk (Value.ref b :: argsL).toArray X₁ hg hsize hdg hW (X₁.named hnamed) (hpre vm₁ X₁.warmed)
  exact ⟨v, vm₁, B, X₁.warmed, X', hpost, fun target h => hstep₁ _ fun acts => by rw [doInvoke_state]; exact hsteps.trans h⟩
abbrev vx_CVW (R : Room) (s : State) (args : Array Value) (own C : String) (index : Nat) (y : MethodName) (bytes : ByteArray) (maxL : Nat) (ret : Option FieldType) (hh : List (Nat × Nat × Nat × Nat)) (ws : List Cond) (rm : Room) (mc ms n : Nat) : Prop :=
  (rm.cells = mc ∧ rm.slots = ms ∧ rm.frames + 1 ≤ R.frames ∧ 8 + (maxL + 11) + rm.locals ≤ R.locals ∧ (∀ w ∈ ws, ∀ (a' : Array Value) (U : State), s.WarmedH U.vm → w.before a' U = true) ∧ Cond.codeWith y bytes maxL ret hh ∈ ws) ∧
  (Cond.codeWith y bytes maxL ret hh).before args s = true ∧ (Cond.initialized y.cls).before args s = true ∧ (y.cls ≠ "java/lang/invoke/MethodHandle" ∧ y.cls ≠ "java/lang/invoke/VarHandle") ∧
  (∀ sig, parseMethodDescriptor y.desc = some sig → n = sig.parameters.length) ∧ (Cond.methodLink own index y).before args s = true ∧ (Cond.instanceMethod y).before args s = true ∧ (Cond.selects C y y).before args s = true
theorem vx_cwVW {own C : String} {index maxL mc ms : Nat} {y : MethodName} {bytes : ByteArray} {ret : Option FieldType} {hh : List (Nat × Nat × Nat × Nat)} {Ts ws ws' : List Cond} {rm : Room} (n : Nat) (ht : ∀ w ∈ Ts, w.before args s = true) (hT : GoodIn Ts (wsV own index C y ws)) (hw : ws = Cond.codeWith y bytes maxL ret hh :: ws') (hrc : rm.cells = mc) (hrs : rm.slots = ms)
    (hd : y.cls = C ∧ y.cls ≠ "java/lang/invoke/MethodHandle" ∧ y.cls ≠ "java/lang/invoke/VarHandle" ∧ (parseMethodDescriptor y.desc).map (fun d => d.parameters.length) = some n) (hR : rm.frames + 1 ≤ R.frames ∧ 8 + (maxL + 11) + rm.locals ≤ R.locals) :
    vx_CVW R s args own C index y bytes maxL ret hh ws rm mc ms n := by
  obtain ⟨hC, hd⟩ := hd
  subst hC
  have ok : ∀ w ∈ wsV own index y.cls y ws, w.before args s = true := fun w h => ht w (hT w h).1
  have hG : GoodIn Ts ws := fun w h => hT w (by unfold wsV; exact List.mem_append_right _ h)
  have hc : Cond.codeWith y bytes maxL ret hh ∈ ws := by rw [hw]; exact List.mem_cons_self
  refine ⟨⟨hrc, hrs, hR.1, hR.2, pay_in ht hG, hc⟩, ht _ (hG _ hc).1, ok _ (by simp [wsV]), ⟨hd.1, hd.2.1⟩, fun sig h => ?_, ok _ (by simp [wsV]), ok _ (by simp [wsV]), ok _ (by simp [wsV])⟩
  have h2 := hd.2.2
  rw [h] at h2
  exact (Option.some.inj h2).symm
theorem vx_runVW {y : MethodName} {bytes cc : ByteArray} {maxL nL mc ms n index : Nat} {ret : Option FieldType} {hh : List (Nat × Nat × Nat × Nat)} {ws : List Cond} {rm : Room} {Pc : Array Value → State → Prop} {Qc : Array Value → State → Outcome → State → Prop} {free : Addr → Prop} {Ts : List Cond} {own C : String} {b : Addr} {As rest : List Value} {g : JFrame}
    (S : CallFix p m c cc nL s args Ts own) (hM : Met l y ws rm Pc Qc mc ms free) (cw : vx_CVW R s args own C index y bytes maxL ret hh ws rm mc ms n) (hp : PreV s H C b Pc As)
    (hg : g.method = m) (hn : As.length = n) (hsize : g.locals.size = nL) (hstack : g.stack = As.reverse ++ .ref b :: rest) (hW : 2 * g.monitorRoom + (rest.map fun v => v.category).sum ≤ 8) (hdg : decode cc g.pc = .ok (.invokevirtual index, 3)) (hf : cells + mc ≤ R.cells ∧ slots + ms ≤ R.slots) :
    va_Run p l e R s m args below meth c H locs cells slots mc ms g rest (Qc (Value.ref b :: As).toArray) free := by
  obtain ⟨⟨hrc, hrs, hfr, hlo, hws, hcw⟩, hcode, hini, hy, hlen, hl, hin, hse⟩ := cw
  have hK : Back l R p e below s args y 3 8 (PreOf R mc ms Pc) (PostOf Qc mc ms free) := va_backW (hh := hh) (bytes := bytes) (maxL := maxL) (ret := ret) hM hp.1 hrc hrs hfr hlo hws hcw (fun a' U hW => word_at hW (Or.inl (by first | rfl | simp [Cond.onTables, Cond.keeps, Cond.steady])) hini)
  obtain ⟨hx, hb, hml, ho, -⟩ := S
  obtain ⟨-, ⟨cellB, hcB, hoB, hclB⟩, hPc⟩ := hp
  intro T hT X
  obtain ⟨v, vm₁, ⟨U', l2, c2, s2⟩, hW₁, X', ⟨g', mk, t, L, e1, e2, hq, h1, hL, h2, h3⟩, st⟩ := vx_callVW X hx (C := C) (hh := hh) (bytes := bytes) (maxL := maxL) (ret := ret) ho hl hin hse hcode hy hK (by rw [hT]; exact hcB) hoB hclB hg (hsize.trans hml.symm) (argsL := As) (rest := rest) (fun sig h => hn.trans (hlen sig h)) hstack hW (by rw [hb]; exact hdg)
    (fun vm₁ hW₁ => ⟨hf.1, hf.2, hPc (T.setVm vm₁) hT hW₁⟩)
  dsimp only [Pt.U, Pt.locs, Pt.cells, Pt.slots] at X' e1 e2 h1 h2 h3 st
  subst h1; subst h2; subst h3
  exact ⟨v, (T.setVm vm₁).calling g' mk (Value.ref b :: As).toArray, t, U', L, hT, X', hL, e1, e2, hq, st⟩
section
variable {y : MethodName} {bytes cc : ByteArray} {maxL nL mc ms n index : Nat} {ret : Option FieldType} {ws : List Cond} {rm : Room} {Pc : Array Value → State → Prop} {Qc : Array Value → State → Outcome → State → Prop} {XC : String → State → State → Prop} {free : Addr → Prop} {Ts : List Cond} {own C : String} {b : Addr} {As rest : List Value} {g : JFrame}
theorem vx_runVX {hh : List (Nat × Nat × Nat × Nat)} (S : CallFix p m c cc nL s args Ts own) (hM : vx_Met l y ws rm Pc Qc XC mc ms free) (cw : vx_CVW R s args own C index y bytes maxL ret hh ws rm mc ms n) (hp : PreV s H C b Pc As)
    (hg : g.method = m) (hn : As.length = n) (hsize : g.locals.size = nL) (hstack : g.stack = As.reverse ++ .ref b :: rest) (hW : 2 * g.monitorRoom + (rest.map fun v => v.category).sum ≤ 8) (hdg : decode cc g.pc = .ok (.invokevirtual index, 3)) (hf : cells + mc ≤ R.cells ∧ slots + ms ≤ R.slots) :
    vx_Run p l e R s m args below meth c H locs cells slots mc ms g rest (Qc (Value.ref b :: As).toArray) XC free := by
  obtain ⟨⟨hrc, hrs, hfr, hlo, hws, hcw⟩, hcode, hini, hy, hlen, hl, hin, hse⟩ := cw
  have hK : vx_Back l R p e below s args y 3 8 (PreOf R mc ms Pc) (PostOf Qc mc ms free) (vx_Post XC mc ms free) := vx_backW (hh := hh) (bytes := bytes) (maxL := maxL) (ret := ret) hM hp.1 hrc hrs hfr hlo hws hcw (fun a' U hW => word_at hW (Or.inl (by first | rfl | simp [Cond.onTables, Cond.keeps, Cond.steady])) hini)
  obtain ⟨hx, hb, hml, ho, -⟩ := S
  obtain ⟨-, ⟨cellB, hcB, hoB, hclB⟩, hPc⟩ := hp
  intro T hT X
  rcases vx_callVX X hx (C := C) (hh := hh) (bytes := bytes) (maxL := maxL) (ret := ret) ho hl hin hse hcode hy hK (by rw [hT]; exact hcB) hoB hclB hg (hsize.trans hml.symm) (argsL := As) (rest := rest) (fun sig h => hn.trans (hlen sig h)) hstack hW (by rw [hb]; exact hdg)
    (fun vm₁ hW₁ => ⟨hf.1, hf.2, hPc (T.setVm vm₁) hT hW₁⟩) with ⟨v, vm₁, ⟨U', l2, c2, s2⟩, hW₁, X', ⟨g', mk, t, L, e1, e2, hq, h1, hL, h2, h3⟩, st⟩ | ⟨q, vm₁, ⟨U', l2, c2, s2⟩, hW₁, X', ⟨g', mk, t, L, E, ce, e1, e2, hq, hce, hcv, hcl, h1, hL, h2, h3⟩, st⟩
  · dsimp only [Pt.U, Pt.locs, Pt.cells, Pt.slots] at X' e1 e2 h1 h2 h3 st
    subst h1; subst h2; subst h3
    exact Or.inl ⟨v, (T.setVm vm₁).calling g' mk (Value.ref b :: As).toArray, t, U', L, hT, X', hL, e1, e2, hq, st⟩
  · dsimp only [Pt.U, Pt.locs, Pt.cells, Pt.slots] at X' e1 e2 h1 h2 h3 st hcl
    subst h1; subst h2; subst h3
    exact Or.inr ⟨q, (T.setVm vm₁).calling g' mk (Value.ref b :: As).toArray, t, U', L, E, ce, hT, X', hL, e1, e2, hq, hce, hcv, vx_cls hW₁ hcl, st⟩
theorem vx_runSX {hh : List (Nat × Nat × Nat × Nat)} (S : CallFix p m c cc nL s args Ts own) (hM : vx_Met l y ws rm Pc Qc XC mc ms free) (cw : vx_CSW R s args own index y bytes maxL ret hh ws rm mc ms n) (hp : PreS s H Pc As)
    (hg : g.method = m) (hn : As.length = n) (hsize : g.locals.size = nL) (hstack : g.stack = As.reverse ++ rest) (hW : 2 * g.monitorRoom + (rest.map fun v => v.category).sum ≤ 8) (hdg : decode cc g.pc = .ok (.invokestatic index, 3)) (hf : cells + mc ≤ R.cells ∧ slots + ms ≤ R.slots) :
    vx_Run p l e R s m args below meth c H locs cells slots mc ms g rest (Qc As.toArray) XC free := by
  obtain ⟨⟨hrc, hrs, hfr, hlo, hws, hcw⟩, hcode, hini, hy, hlen, hl, hstt⟩ := cw
  have hK : vx_Back l R p e below s args y 3 8 (PreOf R mc ms Pc) (PostOf Qc mc ms free) (vx_Post XC mc ms free) := vx_backW (hh := hh) (bytes := bytes) (maxL := maxL) (ret := ret) hM hp.1 hrc hrs hfr hlo hws hcw (fun a' U hW => word_at hW (Or.inl (by first | rfl | simp [Cond.onTables, Cond.keeps, Cond.steady])) hini)
  obtain ⟨hx, hb, hml, ho, -⟩ := S
  intro T hT X
  rcases vx_callSX X hx (hh := hh) (bytes := bytes) (maxL := maxL) (ret := ret) ho hl hstt hini hcode hy hK hg (hsize.trans hml.symm) (argsL := As) (rest := rest) (fun sig h => hn.trans (hlen sig h)) hstack hW (by rw [hb]; exact hdg)
    (fun vm₁ hW₁ => ⟨hf.1, hf.2, hp.2 (T.setVm vm₁) hT hW₁⟩) with ⟨v, vm₁, ⟨U', l2, c2, s2⟩, hW₁, X', ⟨g', mk, t, L, e1, e2, hq, h1, hL, h2, h3⟩, st⟩ | ⟨q, vm₁, ⟨U', l2, c2, s2⟩, hW₁, X', ⟨g', mk, t, L, E, ce, e1, e2, hq, hce, hcv, hcl, h1, hL, h2, h3⟩, st⟩
  · dsimp only [Pt.U, Pt.locs, Pt.cells, Pt.slots] at X' e1 e2 h1 h2 h3 st
    subst h1; subst h2; subst h3
    exact Or.inl ⟨v, (T.setVm vm₁).calling g' mk As.toArray, t, U', L, hT, X', hL, e1, e2, hq, st⟩
  · dsimp only [Pt.U, Pt.locs, Pt.cells, Pt.slots] at X' e1 e2 h1 h2 h3 st hcl
    subst h1; subst h2; subst h3
    exact Or.inr ⟨q, (T.setVm vm₁).calling g' mk As.toArray, t, U', L, E, ce, hT, X', hL, e1, e2, hq, hce, hcv, vx_cls hW₁ hcl, st⟩
end
end VXH
theorem vx_ofWH {l : Launch} {y : MethodName} {ws ws' : List Cond} {rm : Room} {Pc : Array Value → State → Prop} {Qc : Array Value → State → Outcome → State → Prop} {XC : String → State → State → Prop} {mc ms : Nat} {free : Addr → Prop} {cc : ByteArray} {maxL : Nat} {ret : Option FieldType} {hh : List (Nat × Nat × Nat × Nat)}
    (hy : plainName y.cls = true) (hw : ws = Cond.codeWith y cc maxL ret hh :: ws')
    (body : ∀ p e s m args below meth c s₁, BodyLoose p l y (headSpec ws rm) cc maxL ret e s m args below meth c s₁ → c.maxLocals = maxL → Pc args s →
      W p l e (headSpec ws rm).room s m args below meth c s.heap [] 0 0 (vx_MQ below Qc XC args s mc ms free) (entryFrame m args maxL)) : vx_Met l y ws rm Pc Qc XC mc ms free := by
  refine MetFree.of_bodyS (code := cc) (maxLocals := maxL) (ret := ret) hy ?_ ?_
  · intro args s m h hn
    obtain ⟨m9, meth, c, hn9, h1, h2, h3, h4, -, h5, h6, -⟩ := Cond.codeWith_spec (atoms_spec (ws := ws) h _ (by rw [hw]; exact List.mem_cons_self))
    cases hn.symm.trans hn9
    exact ⟨meth, c, h1, h2, h3, h4, h5, h6⟩
  · intro p e s m args below meth c s₁ B hml hP _
    have hh0 : s₁.heap = s.heap := by rw [B.state]; rfl
    obtain ⟨t, a1, o, b1, b2, b3⟩ := body p e s m args below meth c s₁ B hml hP s₁ hh0 (Stand.of_body B)
    exact ⟨t, o, a1, b1, b2, b3⟩
/-! ===== END ===== -/
end
section
/-! ===== BEGIN printed: names, fields, word lists, decode rows ===== -/
def RX0 : String := "NetworkDatabase$Gathering"
def TX0 : u_T := fun k => match k with
  | 0 => ("NetworkDatabase$Gathering", "order", "LNetworkDatabase$Row;", true)
  | 1 => ("NetworkDatabase$Gathering", "places", "LNetworkDatabase$Row;", true)
  | _ => ("NetworkDatabase$Gathering", "size", "I", false)
def tyX0 : Nat → FieldType := fun k => match k with
  | 0 => .object "NetworkDatabase$Row"
  | 1 => .object "NetworkDatabase$Row"
  | _ => .int
abbrev wsX00 : List Cond := u_ws RX0 TX0 3
theorem nmX0 : ∀ a, a < 3 → ∀ b, b < 3 → a ≠ b → (TX0 a).2.1 ≠ (TX0 b).2.1 := by decide +kernel
theorem tyX0_ok : ∀ k, k < 3 → parseFieldDescriptor (TX0 k).2.2.1 = some (tyX0 k) := by decide +kernel
abbrev cX0_init : ByteArray := prog_2_method_1_code
def yX0_init : MethodName := ⟨RX0, "<init>", "()V"⟩
abbrev cX0_clear : ByteArray := prog_2_method_2_code
def yX0_clear : MethodName := ⟨RX0, "clear", "()V"⟩
abbrev cX0_add : ByteArray := prog_2_method_3_code
def yX0_add : MethodName := ⟨RX0, "add", "(I)V"⟩
abbrev cX0_at : ByteArray := prog_2_method_4_code
def yX0_at : MethodName := ⟨RX0, "at", "(I)I"⟩
def RX1 : String := "NetworkDatabase$Row"
def TX1 : u_T := fun k => match k with
  | _ => ("NetworkDatabase$Row", "cells", "[I", true)
def tyX1 : Nat → FieldType := fun k => match k with
  | _ => .array .int
abbrev wsX10 : List Cond := u_ws RX1 TX1 1
theorem nmX1 : ∀ a, a < 1 → ∀ b, b < 1 → a ≠ b → (TX1 a).2.1 ≠ (TX1 b).2.1 := by decide +kernel
theorem tyX1_ok : ∀ k, k < 1 → parseFieldDescriptor (TX1 k).2.2.1 = some (tyX1 k) := by decide +kernel
abbrev cX1_init : ByteArray := prog_3_method_1_code
def yX1_init : MethodName := ⟨RX1, "<init>", "(I)V"⟩
abbrev cX1_at : ByteArray := prog_3_method_2_code
def yX1_at : MethodName := ⟨RX1, "at", "(I)I"⟩
abbrev cX1_put : ByteArray := prog_3_method_3_code
def yX1_put : MethodName := ⟨RX1, "put", "(II)V"⟩
abbrev cX1_clear : ByteArray := prog_3_method_4_code
def yX1_clear : MethodName := ⟨RX1, "clear", "()V"⟩
def RX2 : String := "NetworkDatabase$SetType"
def TX2 : u_T := fun k => match k with
  | 0 => ("NetworkDatabase$SetType", "ownerType", "I", true)
  | 1 => ("NetworkDatabase$SetType", "memberType", "I", true)
  | 2 => ("NetworkDatabase$SetType", "insertion", "I", true)
  | 3 => ("NetworkDatabase$SetType", "automatic", "Z", true)
  | 4 => ("NetworkDatabase$SetType", "retention", "I", true)
  | 5 => ("NetworkDatabase$SetType", "ring", "LNetworkDatabase$Row;", true)
  | 6 => ("NetworkDatabase$SetType", "behind", "LNetworkDatabase$Row;", true)
  | 7 => ("NetworkDatabase$SetType", "ahead", "LNetworkDatabase$Row;", true)
  | _ => ("NetworkDatabase$SetType", "current", "I", false)
def tyX2 : Nat → FieldType := fun k => match k with
  | 0 => .int
  | 1 => .int
  | 2 => .int
  | 3 => .boolean
  | 4 => .int
  | 5 => .object "NetworkDatabase$Row"
  | 6 => .object "NetworkDatabase$Row"
  | 7 => .object "NetworkDatabase$Row"
  | _ => .int
abbrev wsX20 : List Cond := u_ws RX2 TX2 9
theorem nmX2 : ∀ a, a < 9 → ∀ b, b < 9 → a ≠ b → (TX2 a).2.1 ≠ (TX2 b).2.1 := by decide +kernel
theorem tyX2_ok : ∀ k, k < 9 → parseFieldDescriptor (TX2 k).2.2.1 = some (tyX2 k) := by decide +kernel
abbrev cX2_init : ByteArray := prog_4_method_1_code
def yX2_init : MethodName := ⟨RX2, "<init>", "(IIIZI)V"⟩
abbrev cX2_owns : ByteArray := prog_4_method_2_code
def yX2_owns : MethodName := ⟨RX2, "owns", "(I)Z"⟩
abbrev cX2_isMember : ByteArray := prog_4_method_3_code
def yX2_isMember : MethodName := ⟨RX2, "isMember", "(I)Z"⟩
abbrev cX2_takesAtStore : ByteArray := prog_4_method_4_code
def yX2_takesAtStore : MethodName := ⟨RX2, "takesAtStore", "(I)Z"⟩
abbrev cX2_erasesMembers : ByteArray := prog_4_method_5_code
def yX2_erasesMembers : MethodName := ⟨RX2, "erasesMembers", "(I)Z"⟩
abbrev cX2_currentOwner : ByteArray := prog_4_method_6_code
def yX2_currentOwner : MethodName := ⟨RX2, "currentOwner", "()I"⟩
abbrev cX2_admit : ByteArray := prog_4_method_7_code
def yX2_admit : MethodName := ⟨RX2, "admit", "(IILNetworkDatabase$Row;)V"⟩
abbrev cX2_insert : ByteArray := prog_4_method_8_code
def yX2_insert : MethodName := ⟨RX2, "insert", "(IILNetworkDatabase$Row;)V"⟩
abbrev cX2_frontFor : ByteArray := prog_4_method_9_code
def yX2_frontFor : MethodName := ⟨RX2, "frontFor", "(IILNetworkDatabase$Row;)I"⟩
abbrev cX2_frontBySorting : ByteArray := prog_4_method_10_code
def yX2_frontBySorting : MethodName := ⟨RX2, "frontBySorting", "(IILNetworkDatabase$Row;)I"⟩
abbrev cX2_link : ByteArray := prog_4_method_11_code
def yX2_link : MethodName := ⟨RX2, "link", "(II)V"⟩
abbrev cX2_takeOut : ByteArray := prog_4_method_12_code
def yX2_takeOut : MethodName := ⟨RX2, "takeOut", "(I)V"⟩
abbrev cX2_release : ByteArray := prog_4_method_13_code
def yX2_release : MethodName := ⟨RX2, "release", "(I)V"⟩
abbrev cX2_sortAnew : ByteArray := prog_4_method_14_code
def yX2_sortAnew : MethodName := ⟨RX2, "sortAnew", "(ILNetworkDatabase$Row;)V"⟩
abbrev cX2_forget : ByteArray := prog_4_method_15_code
def yX2_forget : MethodName := ⟨RX2, "forget", "(I)V"⟩
abbrev cX2_releaseMembers : ByteArray := prog_4_method_16_code
def yX2_releaseMembers : MethodName := ⟨RX2, "releaseMembers", "(I)V"⟩
abbrev cX2_gather : ByteArray := prog_4_method_17_code
def yX2_gather : MethodName := ⟨RX2, "gather", "(ILNetworkDatabase$Gathering;)V"⟩
abbrev cX2_neighbour : ByteArray := prog_4_method_18_code
def yX2_neighbour : MethodName := ⟨RX2, "neighbour", "(IZ)I"⟩
abbrev cX2_firstWithValue : ByteArray := prog_4_method_19_code
def yX2_firstWithValue : MethodName := ⟨RX2, "firstWithValue", "(IILNetworkDatabase$Row;)I"⟩
abbrev cX2_countByRing : ByteArray := prog_4_method_20_code
def yX2_countByRing : MethodName := ⟨RX2, "countByRing", "(I)I"⟩
abbrev cX2_countByTable : ByteArray := prog_4_method_21_code
def yX2_countByTable : MethodName := ⟨RX2, "countByTable", "(I)I"⟩
abbrev cX2_memberByPlace : ByteArray := prog_4_method_22_code
def yX2_memberByPlace : MethodName := ⟨RX2, "memberByPlace", "(II)I"⟩
def RX3 : String := "NetworkDatabase"
def TX3 : u_T := fun k => match k with
  | 0 => ("NetworkDatabase", "sets", "Ljava/util/ArrayList;", true)
  | 1 => ("NetworkDatabase", "types", "LNetworkDatabase$Row;", true)
  | 2 => ("NetworkDatabase", "values", "LNetworkDatabase$Row;", true)
  | 3 => ("NetworkDatabase", "currentOfTypes", "LNetworkDatabase$Row;", true)
  | 4 => ("NetworkDatabase", "doomed", "LNetworkDatabase$Gathering;", true)
  | 5 => ("NetworkDatabase", "stored", "I", false)
  | 6 => ("NetworkDatabase", "present", "I", false)
  | _ => ("NetworkDatabase", "runUnit", "I", false)
def tyX3 : Nat → FieldType := fun k => match k with
  | 0 => .object "java/util/ArrayList"
  | 1 => .object "NetworkDatabase$Row"
  | 2 => .object "NetworkDatabase$Row"
  | 3 => .object "NetworkDatabase$Row"
  | 4 => .object "NetworkDatabase$Gathering"
  | 5 => .int
  | 6 => .int
  | _ => .int
abbrev wsX30 : List Cond := u_ws RX3 TX3 8
theorem nmX3 : ∀ a, a < 8 → ∀ b, b < 8 → a ≠ b → (TX3 a).2.1 ≠ (TX3 b).2.1 := by decide +kernel
theorem tyX3_ok : ∀ k, k < 8 → parseFieldDescriptor (TX3 k).2.2.1 = some (tyX3 k) := by decide +kernel
abbrev cX3_init : ByteArray := prog_1_method_1_code
def yX3_init : MethodName := ⟨RX3, "<init>", "()V"⟩
abbrev cX3_declare : ByteArray := prog_1_method_2_code
def yX3_declare : MethodName := ⟨RX3, "declare", "(IIIZI)I"⟩
abbrev cX3_store : ByteArray := prog_1_method_3_code
def yX3_store : MethodName := ⟨RX3, "store", "(II)I"⟩
abbrev cX3_modify : ByteArray := prog_1_method_4_code
def yX3_modify : MethodName := ⟨RX3, "modify", "(I)I"⟩
abbrev cX3_erase : ByteArray := prog_1_method_5_code
def yX3_erase : MethodName := ⟨RX3, "erase", "(I)I"⟩
abbrev cX3_connect : ByteArray := prog_1_method_6_code
def yX3_connect : MethodName := ⟨RX3, "connect", "(I)I"⟩
abbrev cX3_disconnect : ByteArray := prog_1_method_7_code
def yX3_disconnect : MethodName := ⟨RX3, "disconnect", "(I)I"⟩
abbrev cX3_reconnect : ByteArray := prog_1_method_8_code
def yX3_reconnect : MethodName := ⟨RX3, "reconnect", "(II)I"⟩
abbrev cX3_find : ByteArray := prog_1_method_9_code
def yX3_find : MethodName := ⟨RX3, "find", "(I)I"⟩
abbrev cX3_findOf : ByteArray := prog_1_method_10_code
def yX3_findOf : MethodName := ⟨RX3, "findOf", "(IZ)I"⟩
abbrev cX3_findEnd : ByteArray := prog_1_method_11_code
def yX3_findEnd : MethodName := ⟨RX3, "findEnd", "(IZ)I"⟩
abbrev cX3_findNext : ByteArray := prog_1_method_12_code
def yX3_findNext : MethodName := ⟨RX3, "findNext", "(IZ)I"⟩
abbrev cX3_findOwner : ByteArray := prog_1_method_13_code
def yX3_findOwner : MethodName := ⟨RX3, "findOwner", "(I)I"⟩
abbrev cX3_findValue : ByteArray := prog_1_method_14_code
def yX3_findValue : MethodName := ⟨RX3, "findValue", "(II)I"⟩
abbrev cX3_setTypes : ByteArray := prog_1_method_15_code
def yX3_setTypes : MethodName := ⟨RX3, "setTypes", "()I"⟩
abbrev cX3_records : ByteArray := prog_1_method_16_code
def yX3_records : MethodName := ⟨RX3, "records", "()I"⟩
abbrev cX3_current : ByteArray := prog_1_method_17_code
def yX3_current : MethodName := ⟨RX3, "current", "()I"⟩
abbrev cX3_currentOf : ByteArray := prog_1_method_18_code
def yX3_currentOf : MethodName := ⟨RX3, "currentOf", "(I)I"⟩
abbrev cX3_currentIn : ByteArray := prog_1_method_19_code
def yX3_currentIn : MethodName := ⟨RX3, "currentIn", "(I)I"⟩
abbrev cX3_typeOf : ByteArray := prog_1_method_20_code
def yX3_typeOf : MethodName := ⟨RX3, "typeOf", "(I)I"⟩
abbrev cX3_valueOf : ByteArray := prog_1_method_21_code
def yX3_valueOf : MethodName := ⟨RX3, "valueOf", "(I)I"⟩
abbrev cX3_ownerOf : ByteArray := prog_1_method_22_code
def yX3_ownerOf : MethodName := ⟨RX3, "ownerOf", "(II)I"⟩
abbrev cX3_members : ByteArray := prog_1_method_23_code
def yX3_members : MethodName := ⟨RX3, "members", "(II)I"⟩
abbrev cX3_membersByTable : ByteArray := prog_1_method_24_code
def yX3_membersByTable : MethodName := ⟨RX3, "membersByTable", "(II)I"⟩
abbrev cX3_memberAt : ByteArray := prog_1_method_25_code
def yX3_memberAt : MethodName := ⟨RX3, "memberAt", "(III)I"⟩
abbrev cX3_wouldErase : ByteArray := prog_1_method_26_code
def yX3_wouldErase : MethodName := ⟨RX3, "wouldErase", "(II)I"⟩
abbrev cX3_requireType : ByteArray := prog_1_method_27_code
def yX3_requireType : MethodName := ⟨RX3, "requireType", "(I)V"⟩
abbrev cX3_requireValue : ByteArray := prog_1_method_28_code
def yX3_requireValue : MethodName := ⟨RX3, "requireValue", "(I)V"⟩
abbrev cX3_requireWay : ByteArray := prog_1_method_29_code
def yX3_requireWay : MethodName := ⟨RX3, "requireWay", "(I)V"⟩
abbrev cX3_requireSet : ByteArray := prog_1_method_30_code
def yX3_requireSet : MethodName := ⟨RX3, "requireSet", "(I)LNetworkDatabase$SetType;"⟩
abbrev cX3_requireRecord : ByteArray := prog_1_method_31_code
def yX3_requireRecord : MethodName := ⟨RX3, "requireRecord", "(I)V"⟩
abbrev cX3_requireRunUnit : ByteArray := prog_1_method_32_code
def yX3_requireRunUnit : MethodName := ⟨RX3, "requireRunUnit", "()V"⟩
abbrev cX3_requireMembership : ByteArray := prog_1_method_33_code
def yX3_requireMembership : MethodName := ⟨RX3, "requireMembership", "(LNetworkDatabase$SetType;)V"⟩
abbrev cX3_lacksSetFor : ByteArray := prog_1_method_34_code
def yX3_lacksSetFor : MethodName := ⟨RX3, "lacksSetFor", "(I)Z"⟩
abbrev cX3_makeCurrent : ByteArray := prog_1_method_35_code
def yX3_makeCurrent : MethodName := ⟨RX3, "makeCurrent", "(I)I"⟩
abbrev cX3_gatherDoomed : ByteArray := prog_1_method_36_code
def yX3_gatherDoomed : MethodName := ⟨RX3, "gatherDoomed", "(II)I"⟩
abbrev cX3_gatherMembers : ByteArray := prog_1_method_37_code
def yX3_gatherMembers : MethodName := ⟨RX3, "gatherMembers", "(II)V"⟩
abbrev cX3_hasMembers : ByteArray := prog_1_method_38_code
def yX3_hasMembers : MethodName := ⟨RX3, "hasMembers", "(I)Z"⟩
abbrev cX3_remove : ByteArray := prog_1_method_39_code
def yX3_remove : MethodName := ⟨RX3, "remove", "(I)V"⟩
def RX4 : String := "NetworkDatabaseModel"
def TX4 : u_T := fun k => match k with
  | 0 => ("NetworkDatabaseModel", "sets", "I", false)
  | 1 => ("NetworkDatabaseModel", "ownerType", "[I", true)
  | 2 => ("NetworkDatabaseModel", "memberType", "[I", true)
  | 3 => ("NetworkDatabaseModel", "insertion", "[I", true)
  | 4 => ("NetworkDatabaseModel", "isAutomatic", "[Z", true)
  | 5 => ("NetworkDatabaseModel", "retention", "[I", true)
  | 6 => ("NetworkDatabaseModel", "stored", "I", false)
  | 7 => ("NetworkDatabaseModel", "alive", "I", false)
  | 8 => ("NetworkDatabaseModel", "isThere", "[Z", true)
  | 9 => ("NetworkDatabaseModel", "type", "[I", true)
  | 10 => ("NetworkDatabaseModel", "value", "[I", true)
  | 11 => ("NetworkDatabaseModel", "owner", "[I", true)
  | 12 => ("NetworkDatabaseModel", "many", "[I", true)
  | 13 => ("NetworkDatabaseModel", "row", "[I", true)
  | 14 => ("NetworkDatabaseModel", "run", "I", false)
  | 15 => ("NetworkDatabaseModel", "ofType", "[I", true)
  | 16 => ("NetworkDatabaseModel", "inSet", "[I", true)
  | 17 => ("NetworkDatabaseModel", "isMarked", "[Z", true)
  | _ => ("NetworkDatabaseModel", "thrown", "I", false)
def tyX4 : Nat → FieldType := fun k => match k with
  | 0 => .int
  | 1 => .array .int
  | 2 => .array .int
  | 3 => .array .int
  | 4 => .array .boolean
  | 5 => .array .int
  | 6 => .int
  | 7 => .int
  | 8 => .array .boolean
  | 9 => .array .int
  | 10 => .array .int
  | 11 => .array .int
  | 12 => .array .int
  | 13 => .array .int
  | 14 => .int
  | 15 => .array .int
  | 16 => .array .int
  | 17 => .array .boolean
  | _ => .int
abbrev wsX40 : List Cond := u_ws RX4 TX4 19
theorem nmX4 : ∀ a, a < 19 → ∀ b, b < 19 → a ≠ b → (TX4 a).2.1 ≠ (TX4 b).2.1 := by decide +kernel
theorem tyX4_ok : ∀ k, k < 19 → parseFieldDescriptor (TX4 k).2.2.1 = some (tyX4 k) := by decide +kernel
abbrev cX4_init : ByteArray := prog_6_method_1_code
def yX4_init : MethodName := ⟨RX4, "<init>", "()V"⟩
abbrev cX4_thrown : ByteArray := prog_6_method_2_code
def yX4_thrown : MethodName := ⟨RX4, "thrown", "()I"⟩
abbrev cX4_can : ByteArray := prog_6_method_3_code
def yX4_can : MethodName := ⟨RX4, "can", "(I)Z"⟩
abbrev cX4_isIn : ByteArray := prog_6_method_4_code
def yX4_isIn : MethodName := ⟨RX4, "isIn", "(III)Z"⟩
abbrev cX4_isSet : ByteArray := prog_6_method_5_code
def yX4_isSet : MethodName := ⟨RX4, "isSet", "(I)Z"⟩
abbrev cX4_isRecord : ByteArray := prog_6_method_6_code
def yX4_isRecord : MethodName := ⟨RX4, "isRecord", "(I)Z"⟩
abbrev cX4_ownerIn : ByteArray := prog_6_method_7_code
def yX4_ownerIn : MethodName := ⟨RX4, "ownerIn", "(II)I"⟩
abbrev cX4_declare : ByteArray := prog_6_method_8_code
def yX4_declare : MethodName := ⟨RX4, "declare", "(IIIZI)I"⟩
abbrev cX4_placeOf : ByteArray := prog_6_method_9_code
def yX4_placeOf : MethodName := ⟨RX4, "placeOf", "(II)I"⟩
abbrev cX4_takeOut : ByteArray := prog_6_method_10_code
def yX4_takeOut : MethodName := ⟨RX4, "takeOut", "(II)V"⟩
abbrev cX4_newPlace : ByteArray := prog_6_method_11_code
def yX4_newPlace : MethodName := ⟨RX4, "newPlace", "(III)I"⟩
abbrev cX4_insert : ByteArray := prog_6_method_12_code
def yX4_insert : MethodName := ⟨RX4, "insert", "(III)V"⟩
abbrev cX4_currentOwner : ByteArray := prog_6_method_13_code
def yX4_currentOwner : MethodName := ⟨RX4, "currentOwner", "(I)I"⟩
abbrev cX4_membersOf : ByteArray := prog_6_method_14_code
def yX4_membersOf : MethodName := ⟨RX4, "membersOf", "(II)I"⟩
abbrev cX4_memberOf : ByteArray := prog_6_method_15_code
def yX4_memberOf : MethodName := ⟨RX4, "memberOf", "(III)I"⟩
abbrev cX4_becomes : ByteArray := prog_6_method_16_code
def yX4_becomes : MethodName := ⟨RX4, "becomes", "(I)I"⟩
abbrev cX4_store : ByteArray := prog_6_method_17_code
def yX4_store : MethodName := ⟨RX4, "store", "(II)I"⟩
abbrev cX4_modify : ByteArray := prog_6_method_18_code
def yX4_modify : MethodName := ⟨RX4, "modify", "(I)I"⟩
abbrev cX4_marks : ByteArray := prog_6_method_19_code
def yX4_marks : MethodName := ⟨RX4, "marks", "(II)I"⟩
abbrev cX4_isGone : ByteArray := prog_6_method_20_code
def yX4_isGone : MethodName := ⟨RX4, "isGone", "(I)Z"⟩
abbrev cX4_erase : ByteArray := prog_6_method_21_code
def yX4_erase : MethodName := ⟨RX4, "erase", "(I)I"⟩
abbrev cX4_connect : ByteArray := prog_6_method_22_code
def yX4_connect : MethodName := ⟨RX4, "connect", "(I)I"⟩
abbrev cX4_disconnect : ByteArray := prog_6_method_23_code
def yX4_disconnect : MethodName := ⟨RX4, "disconnect", "(I)I"⟩
abbrev cX4_reconnect : ByteArray := prog_6_method_24_code
def yX4_reconnect : MethodName := ⟨RX4, "reconnect", "(II)I"⟩
abbrev cX4_find : ByteArray := prog_6_method_25_code
def yX4_find : MethodName := ⟨RX4, "find", "(I)I"⟩
abbrev cX4_findOf : ByteArray := prog_6_method_26_code
def yX4_findOf : MethodName := ⟨RX4, "findOf", "(IZ)I"⟩
abbrev cX4_findEnd : ByteArray := prog_6_method_27_code
def yX4_findEnd : MethodName := ⟨RX4, "findEnd", "(IZ)I"⟩
abbrev cX4_findNext : ByteArray := prog_6_method_28_code
def yX4_findNext : MethodName := ⟨RX4, "findNext", "(IZ)I"⟩
abbrev cX4_findOwner : ByteArray := prog_6_method_29_code
def yX4_findOwner : MethodName := ⟨RX4, "findOwner", "(I)I"⟩
abbrev cX4_findValue : ByteArray := prog_6_method_30_code
def yX4_findValue : MethodName := ⟨RX4, "findValue", "(II)I"⟩
abbrev cX4_setTypes : ByteArray := prog_6_method_31_code
def yX4_setTypes : MethodName := ⟨RX4, "setTypes", "()I"⟩
abbrev cX4_records : ByteArray := prog_6_method_32_code
def yX4_records : MethodName := ⟨RX4, "records", "()I"⟩
abbrev cX4_current : ByteArray := prog_6_method_33_code
def yX4_current : MethodName := ⟨RX4, "current", "()I"⟩
abbrev cX4_currentOf : ByteArray := prog_6_method_34_code
def yX4_currentOf : MethodName := ⟨RX4, "currentOf", "(I)I"⟩
abbrev cX4_currentIn : ByteArray := prog_6_method_35_code
def yX4_currentIn : MethodName := ⟨RX4, "currentIn", "(I)I"⟩
abbrev cX4_typeOf : ByteArray := prog_6_method_36_code
def yX4_typeOf : MethodName := ⟨RX4, "typeOf", "(I)I"⟩
abbrev cX4_valueOf : ByteArray := prog_6_method_37_code
def yX4_valueOf : MethodName := ⟨RX4, "valueOf", "(I)I"⟩
abbrev cX4_areAsked : ByteArray := prog_6_method_38_code
def yX4_areAsked : MethodName := ⟨RX4, "areAsked", "(II)Z"⟩
abbrev cX4_ownerOf : ByteArray := prog_6_method_39_code
def yX4_ownerOf : MethodName := ⟨RX4, "ownerOf", "(II)I"⟩
abbrev cX4_countOf : ByteArray := prog_6_method_40_code
def yX4_countOf : MethodName := ⟨RX4, "countOf", "(II)I"⟩
abbrev cX4_members : ByteArray := prog_6_method_41_code
def yX4_members : MethodName := ⟨RX4, "members", "(II)I"⟩
abbrev cX4_membersByTable : ByteArray := prog_6_method_42_code
def yX4_membersByTable : MethodName := ⟨RX4, "membersByTable", "(II)I"⟩
abbrev cX4_memberAt : ByteArray := prog_6_method_43_code
def yX4_memberAt : MethodName := ⟨RX4, "memberAt", "(III)I"⟩
abbrev cX4_wouldErase : ByteArray := prog_6_method_44_code
def yX4_wouldErase : MethodName := ⟨RX4, "wouldErase", "(II)I"⟩
def RJx145de : String := "java/io/Serializable"
def TJx145de : u_T := fun k => match k with
  | _ => ("", "", "", false)
def tyJx145de : Nat → FieldType := fun k => match k with
  | _ => .int
abbrev wsJx145de0 : List Cond := u_ws RJx145de TJx145de 0
theorem nmJx145de : ∀ a, a < 0 → ∀ b, b < 0 → a ≠ b → (TJx145de a).2.1 ≠ (TJx145de b).2.1 := by decide +kernel
theorem tyJx145de_ok : ∀ k, k < 0 → parseFieldDescriptor (TJx145de k).2.2.1 = some (tyJx145de k) := by decide +kernel
def RJx8e188 : String := "java/lang/Cloneable"
def TJx8e188 : u_T := fun k => match k with
  | _ => ("", "", "", false)
def tyJx8e188 : Nat → FieldType := fun k => match k with
  | _ => .int
abbrev wsJx8e1880 : List Cond := u_ws RJx8e188 TJx8e188 0
theorem nmJx8e188 : ∀ a, a < 0 → ∀ b, b < 0 → a ≠ b → (TJx8e188 a).2.1 ≠ (TJx8e188 b).2.1 := by decide +kernel
theorem tyJx8e188_ok : ∀ k, k < 0 → parseFieldDescriptor (TJx8e188 k).2.2.1 = some (tyJx8e188 k) := by decide +kernel
def RJxab1ab : String := "java/lang/Iterable"
def TJxab1ab : u_T := fun k => match k with
  | _ => ("", "", "", false)
def tyJxab1ab : Nat → FieldType := fun k => match k with
  | _ => .int
abbrev wsJxab1ab0 : List Cond := u_ws RJxab1ab TJxab1ab 0
theorem nmJxab1ab : ∀ a, a < 0 → ∀ b, b < 0 → a ≠ b → (TJxab1ab a).2.1 ≠ (TJxab1ab b).2.1 := by decide +kernel
theorem tyJxab1ab_ok : ∀ k, k < 0 → parseFieldDescriptor (TJxab1ab k).2.2.1 = some (tyJxab1ab k) := by decide +kernel
def RJ9 : String := "java/lang/Math"
def TJ9 : u_T := fun k => match k with
  | _ => ("", "", "", false)
def tyJ9 : Nat → FieldType := fun k => match k with
  | _ => .int
abbrev wsJ90 : List Cond := u_ws RJ9 TJ9 0
theorem nmJ9 : ∀ a, a < 0 → ∀ b, b < 0 → a ≠ b → (TJ9 a).2.1 ≠ (TJ9 b).2.1 := by decide +kernel
theorem tyJ9_ok : ∀ k, k < 0 → parseFieldDescriptor (TJ9 k).2.2.1 = some (tyJ9 k) := by decide +kernel
abbrev cJ9_max_7cf53 : ByteArray := prog_14_method_65_code
def yJ9_max_7cf53 : MethodName := ⟨RJ9, "max", "(II)I"⟩
abbrev cJ9_min_7cf53 : ByteArray := prog_14_method_69_code
def yJ9_min_7cf53 : MethodName := ⟨RJ9, "min", "(II)I"⟩
def RJ0 : String := "java/lang/String"
def TJ0 : u_T := fun k => match k with
  | _ => ("", "", "", false)
def tyJ0 : Nat → FieldType := fun k => match k with
  | _ => .int
abbrev wsJ00 : List Cond := u_ws RJ0 TJ0 0
theorem nmJ0 : ∀ a, a < 0 → ∀ b, b < 0 → a ≠ b → (TJ0 a).2.1 ≠ (TJ0 b).2.1 := by decide +kernel
theorem tyJ0_ok : ∀ k, k < 0 → parseFieldDescriptor (TJ0 k).2.2.1 = some (tyJ0 k) := by decide +kernel
def RJ10 : String := "java/lang/System"
def TJ10 : u_T := fun k => match k with
  | _ => ("", "", "", false)
def tyJ10 : Nat → FieldType := fun k => match k with
  | _ => .int
abbrev wsJ100 : List Cond := u_ws RJ10 TJ10 0
theorem nmJ10 : ∀ a, a < 0 → ∀ b, b < 0 → a ≠ b → (TJ10 a).2.1 ≠ (TJ10 b).2.1 := by decide +kernel
theorem tyJ10_ok : ∀ k, k < 0 → parseFieldDescriptor (TJ10 k).2.2.1 = some (tyJ10 k) := by decide +kernel
def RJxa1e45 : String := "java/util/AbstractCollection"
def TJxa1e45 : u_T := fun k => match k with
  | _ => ("", "", "", false)
def tyJxa1e45 : Nat → FieldType := fun k => match k with
  | _ => .int
abbrev wsJxa1e450 : List Cond := u_ws RJxa1e45 TJxa1e45 0
theorem nmJxa1e45 : ∀ a, a < 0 → ∀ b, b < 0 → a ≠ b → (TJxa1e45 a).2.1 ≠ (TJxa1e45 b).2.1 := by decide +kernel
theorem tyJxa1e45_ok : ∀ k, k < 0 → parseFieldDescriptor (TJxa1e45 k).2.2.1 = some (tyJxa1e45 k) := by decide +kernel
abbrev cJxa1e45_init_da8c8 : ByteArray := prog_19_method_1_code
def yJxa1e45_init_da8c8 : MethodName := ⟨RJxa1e45, "<init>", "()V"⟩
def RJxc12de : String := "java/util/AbstractList"
def TJxc12de : u_T := fun k => match k with
  | _ => ("", "", "", false)
def tyJxc12de : Nat → FieldType := fun k => match k with
  | _ => .int
abbrev wsJxc12de0 : List Cond := u_ws RJxc12de TJxc12de 0
theorem nmJxc12de : ∀ a, a < 0 → ∀ b, b < 0 → a ≠ b → (TJxc12de a).2.1 ≠ (TJxc12de b).2.1 := by decide +kernel
theorem tyJxc12de_ok : ∀ k, k < 0 → parseFieldDescriptor (TJxc12de k).2.2.1 = some (tyJxc12de k) := by decide +kernel
abbrev cJxc12de_init_da8c8 : ByteArray := prog_20_method_1_code
def yJxc12de_init_da8c8 : MethodName := ⟨RJxc12de, "<init>", "()V"⟩
def RJx4a65c : String := "java/util/ArrayList"
def TJx4a65c : u_T := fun k => match k with
  | 0 => ("java/util/AbstractList", "modCount", "I", false)
  | 1 => ("java/util/ArrayList", "elementData", "[Ljava/lang/Object;", false)
  | _ => ("java/util/ArrayList", "size", "I", false)
def tyJx4a65c : Nat → FieldType := fun k => match k with
  | 0 => .int
  | 1 => .array (.object "java/lang/Object")
  | _ => .int
abbrev wsJx4a65c0 : List Cond := u_ws RJx4a65c TJx4a65c 3
theorem nmJx4a65c : ∀ a, a < 3 → ∀ b, b < 3 → a ≠ b → (TJx4a65c a).2.1 ≠ (TJx4a65c b).2.1 := by decide +kernel
theorem tyJx4a65c_ok : ∀ k, k < 3 → parseFieldDescriptor (TJx4a65c k).2.2.1 = some (tyJx4a65c k) := by decide +kernel
abbrev cJx4a65c_init_da8c8 : ByteArray := prog_21_method_2_code
def yJx4a65c_init_da8c8 : MethodName := ⟨RJx4a65c, "<init>", "()V"⟩
abbrev cJx4a65c_grow_92f84 : ByteArray := prog_21_method_6_code
def yJx4a65c_grow_92f84 : MethodName := ⟨RJx4a65c, "grow", "(I)[Ljava/lang/Object;"⟩
abbrev cJx4a65c_grow_d5877 : ByteArray := prog_21_method_7_code
def yJx4a65c_grow_d5877 : MethodName := ⟨RJx4a65c, "grow", "()[Ljava/lang/Object;"⟩
abbrev cJx4a65c_size_8abf5 : ByteArray := prog_21_method_8_code
def yJx4a65c_size_8abf5 : MethodName := ⟨RJx4a65c, "size", "()I"⟩
abbrev cJx4a65c_elementData_915e3 : ByteArray := prog_21_method_18_code
def yJx4a65c_elementData_915e3 : MethodName := ⟨RJx4a65c, "elementData", "(I)Ljava/lang/Object;"⟩
abbrev cJx4a65c_get_915e3 : ByteArray := prog_21_method_20_code
def yJx4a65c_get_915e3 : MethodName := ⟨RJx4a65c, "get", "(I)Ljava/lang/Object;"⟩
abbrev cJx4a65c_add_72be8 : ByteArray := prog_21_method_24_code
def yJx4a65c_add_72be8 : MethodName := ⟨RJx4a65c, "add", "(Ljava/lang/Object;[Ljava/lang/Object;I)V"⟩
abbrev cJx4a65c_add_9ea2d : ByteArray := prog_21_method_25_code
def yJx4a65c_add_9ea2d : MethodName := ⟨RJx4a65c, "add", "(Ljava/lang/Object;)Z"⟩
def RJ7 : String := "java/util/Arrays"
def TJ7 : u_T := fun k => match k with
  | _ => ("", "", "", false)
def tyJ7 : Nat → FieldType := fun k => match k with
  | _ => .int
abbrev wsJ70 : List Cond := u_ws RJ7 TJ7 0
theorem nmJ7 : ∀ a, a < 0 → ∀ b, b < 0 → a ≠ b → (TJ7 a).2.1 ≠ (TJ7 b).2.1 := by decide +kernel
theorem tyJ7_ok : ∀ k, k < 0 → parseFieldDescriptor (TJ7 k).2.2.1 = some (tyJ7 k) := by decide +kernel
abbrev cJ7_fill_53178 : ByteArray := prog_22_method_103_code
def yJ7_fill_53178 : MethodName := ⟨RJ7, "fill", "([II)V"⟩
abbrev cJ7_copyOf_1904c : ByteArray := prog_22_method_119_code
def yJ7_copyOf_1904c : MethodName := ⟨RJ7, "copyOf", "([Ljava/lang/Object;I)[Ljava/lang/Object;"⟩
abbrev cJ7_copyOf_6403c : ByteArray := prog_22_method_120_code
def yJ7_copyOf_6403c : MethodName := ⟨RJ7, "copyOf", "([Ljava/lang/Object;ILjava/lang/Class;)[Ljava/lang/Object;"⟩
def RJx5ef63 : String := "java/util/Collection"
def TJx5ef63 : u_T := fun k => match k with
  | _ => ("", "", "", false)
def tyJx5ef63 : Nat → FieldType := fun k => match k with
  | _ => .int
abbrev wsJx5ef630 : List Cond := u_ws RJx5ef63 TJx5ef63 0
theorem nmJx5ef63 : ∀ a, a < 0 → ∀ b, b < 0 → a ≠ b → (TJx5ef63 a).2.1 ≠ (TJx5ef63 b).2.1 := by decide +kernel
theorem tyJx5ef63_ok : ∀ k, k < 0 → parseFieldDescriptor (TJx5ef63 k).2.2.1 = some (tyJx5ef63 k) := by decide +kernel
def RJxbd725 : String := "java/util/List"
def TJxbd725 : u_T := fun k => match k with
  | _ => ("", "", "", false)
def tyJxbd725 : Nat → FieldType := fun k => match k with
  | _ => .int
abbrev wsJxbd7250 : List Cond := u_ws RJxbd725 TJxbd725 0
theorem nmJxbd725 : ∀ a, a < 0 → ∀ b, b < 0 → a ≠ b → (TJxbd725 a).2.1 ≠ (TJxbd725 b).2.1 := by decide +kernel
theorem tyJxbd725_ok : ∀ k, k < 0 → parseFieldDescriptor (TJxbd725 k).2.2.1 = some (tyJxbd725 k) := by decide +kernel
def RJ15 : String := "java/util/Objects"
def TJ15 : u_T := fun k => match k with
  | _ => ("", "", "", false)
def tyJ15 : Nat → FieldType := fun k => match k with
  | _ => .int
abbrev wsJ150 : List Cond := u_ws RJ15 TJ15 0
theorem nmJ15 : ∀ a, a < 0 → ∀ b, b < 0 → a ≠ b → (TJ15 a).2.1 ≠ (TJ15 b).2.1 := by decide +kernel
theorem tyJ15_ok : ∀ k, k < 0 → parseFieldDescriptor (TJ15 k).2.2.1 = some (tyJ15 k) := by decide +kernel
abbrev cJ15_checkIndex_7cf53 : ByteArray := prog_25_method_17_code
def yJ15_checkIndex_7cf53 : MethodName := ⟨RJ15, "checkIndex", "(II)I"⟩
def RJxf0a74 : String := "java/util/RandomAccess"
def TJxf0a74 : u_T := fun k => match k with
  | _ => ("", "", "", false)
def tyJxf0a74 : Nat → FieldType := fun k => match k with
  | _ => .int
abbrev wsJxf0a740 : List Cond := u_ws RJxf0a74 TJxf0a74 0
theorem nmJxf0a74 : ∀ a, a < 0 → ∀ b, b < 0 → a ≠ b → (TJxf0a74 a).2.1 ≠ (TJxf0a74 b).2.1 := by decide +kernel
theorem tyJxf0a74_ok : ∀ k, k < 0 → parseFieldDescriptor (TJxf0a74 k).2.2.1 = some (tyJxf0a74 k) := by decide +kernel
def RJxa66e6 : String := "java/util/SequencedCollection"
def TJxa66e6 : u_T := fun k => match k with
  | _ => ("", "", "", false)
def tyJxa66e6 : Nat → FieldType := fun k => match k with
  | _ => .int
abbrev wsJxa66e60 : List Cond := u_ws RJxa66e6 TJxa66e6 0
theorem nmJxa66e6 : ∀ a, a < 0 → ∀ b, b < 0 → a ≠ b → (TJxa66e6 a).2.1 ≠ (TJxa66e6 b).2.1 := by decide +kernel
theorem tyJxa66e6_ok : ∀ k, k < 0 → parseFieldDescriptor (TJxa66e6 k).2.2.1 = some (tyJxa66e6 k) := by decide +kernel
def RJ8 : String := "jdk/internal/util/ArraysSupport"
def TJ8 : u_T := fun k => match k with
  | _ => ("", "", "", false)
def tyJ8 : Nat → FieldType := fun k => match k with
  | _ => .int
abbrev wsJ80 : List Cond := u_ws RJ8 TJ8 0
theorem nmJ8 : ∀ a, a < 0 → ∀ b, b < 0 → a ≠ b → (TJ8 a).2.1 ≠ (TJ8 b).2.1 := by decide +kernel
theorem tyJ8_ok : ∀ k, k < 0 → parseFieldDescriptor (TJ8 k).2.2.1 = some (tyJ8 k) := by decide +kernel
abbrev cJ8_newLength_cabcc : ByteArray := prog_28_method_27_code
def yJ8_newLength_cabcc : MethodName := ⟨RJ8, "newLength", "(III)I"⟩
abbrev cJ8_hugeLength_7cf53 : ByteArray := prog_28_method_28_code
def yJ8_hugeLength_7cf53 : MethodName := ⟨RJ8, "hugeLength", "(II)I"⟩
def RJ3 : String := "jdk/internal/util/Preconditions"
def TJ3 : u_T := fun k => match k with
  | _ => ("", "", "", false)
def tyJ3 : Nat → FieldType := fun k => match k with
  | _ => .int
abbrev wsJ30 : List Cond := u_ws RJ3 TJ3 0
theorem nmJ3 : ∀ a, a < 0 → ∀ b, b < 0 → a ≠ b → (TJ3 a).2.1 ≠ (TJ3 b).2.1 := by decide +kernel
theorem tyJ3_ok : ∀ k, k < 0 → parseFieldDescriptor (TJ3 k).2.2.1 = some (tyJ3 k) := by decide +kernel
abbrev cJ3_checkIndex_8e157 : ByteArray := prog_29_method_11_code
def yJ3_checkIndex_8e157 : MethodName := ⟨RJ3, "checkIndex", "(IILjava/util/function/BiFunction;)I"⟩
def RL : String := "NetworkDatabaseLaw"
abbrev cL_declare : ByteArray := method_3_code
def yL_declare : MethodName := ⟨RL, "declare", "(LNetworkDatabase;IIIZI[J)I"⟩
abbrev cL_store : ByteArray := method_4_code
def yL_store : MethodName := ⟨RL, "store", "(LNetworkDatabase;II[J)I"⟩
abbrev cL_modify : ByteArray := method_5_code
def yL_modify : MethodName := ⟨RL, "modify", "(LNetworkDatabase;I[J)I"⟩
abbrev cL_erase : ByteArray := method_6_code
def yL_erase : MethodName := ⟨RL, "erase", "(LNetworkDatabase;I[J)I"⟩
abbrev cL_connect : ByteArray := method_7_code
def yL_connect : MethodName := ⟨RL, "connect", "(LNetworkDatabase;I[J)I"⟩
abbrev cL_disconnect : ByteArray := method_8_code
def yL_disconnect : MethodName := ⟨RL, "disconnect", "(LNetworkDatabase;I[J)I"⟩
abbrev cL_reconnect : ByteArray := method_9_code
def yL_reconnect : MethodName := ⟨RL, "reconnect", "(LNetworkDatabase;II[J)I"⟩
abbrev cL_findOf : ByteArray := method_10_code
def yL_findOf : MethodName := ⟨RL, "findOf", "(LNetworkDatabase;IZ[J)I"⟩
abbrev cL_findEnd : ByteArray := method_11_code
def yL_findEnd : MethodName := ⟨RL, "findEnd", "(LNetworkDatabase;IZ[J)I"⟩
abbrev cL_findNext : ByteArray := method_12_code
def yL_findNext : MethodName := ⟨RL, "findNext", "(LNetworkDatabase;IZ[J)I"⟩
abbrev cL_findOwner : ByteArray := method_13_code
def yL_findOwner : MethodName := ⟨RL, "findOwner", "(LNetworkDatabase;I[J)I"⟩
abbrev cL_findValue : ByteArray := method_14_code
def yL_findValue : MethodName := ⟨RL, "findValue", "(LNetworkDatabase;II[J)I"⟩
abbrev cL_currentOf : ByteArray := method_15_code
def yL_currentOf : MethodName := ⟨RL, "currentOf", "(LNetworkDatabase;I[J)I"⟩
abbrev cL_currentIn : ByteArray := method_16_code
def yL_currentIn : MethodName := ⟨RL, "currentIn", "(LNetworkDatabase;I[J)I"⟩
abbrev cL_typeOf : ByteArray := method_17_code
def yL_typeOf : MethodName := ⟨RL, "typeOf", "(LNetworkDatabase;I[J)I"⟩
abbrev cL_valueOf : ByteArray := method_18_code
def yL_valueOf : MethodName := ⟨RL, "valueOf", "(LNetworkDatabase;I[J)I"⟩
abbrev cL_ownerOf : ByteArray := method_19_code
def yL_ownerOf : MethodName := ⟨RL, "ownerOf", "(LNetworkDatabase;II[J)I"⟩
abbrev cL_members : ByteArray := method_20_code
def yL_members : MethodName := ⟨RL, "members", "(LNetworkDatabase;II[J)I"⟩
abbrev cL_membersByTable : ByteArray := method_21_code
def yL_membersByTable : MethodName := ⟨RL, "membersByTable", "(LNetworkDatabase;II[J)I"⟩
abbrev cL_memberAt : ByteArray := method_22_code
def yL_memberAt : MethodName := ⟨RL, "memberAt", "(LNetworkDatabase;III[J)I"⟩
abbrev cL_wouldErase : ByteArray := method_23_code
def yL_wouldErase : MethodName := ⟨RL, "wouldErase", "(LNetworkDatabase;II[J)I"⟩
abbrev cL_law : ByteArray := code
def yL_law : MethodName := ⟨RL, "law", "([I)Z"⟩
end
section
theorem dX0_init_0 : decode cX0_init 0 = .ok (.aload_n 0, 1) := by decide +kernel
theorem dX0_init_1 : decode cX0_init 1 = .ok (.invokespecial 3, 3) := by decide +kernel
theorem dX0_init_4 : decode cX0_init 4 = .ok (.aload_n 0, 1) := by decide +kernel
theorem dX0_init_5 : decode cX0_init 5 = .ok (.new 9, 3) := by decide +kernel
theorem dX0_init_8 : decode cX0_init 8 = .ok (.dup, 1) := by decide +kernel
theorem dX0_init_9 : decode cX0_init 9 = .ok (.bipush 60, 2) := by decide +kernel
theorem dX0_init_11 : decode cX0_init 11 = .ok (.invokespecial 11, 3) := by decide +kernel
theorem dX0_init_14 : decode cX0_init 14 = .ok (.putfield 14, 3) := by decide +kernel
theorem dX0_init_17 : decode cX0_init 17 = .ok (.aload_n 0, 1) := by decide +kernel
theorem dX0_init_18 : decode cX0_init 18 = .ok (.new 9, 3) := by decide +kernel
theorem dX0_init_21 : decode cX0_init 21 = .ok (.dup, 1) := by decide +kernel
theorem dX0_init_22 : decode cX0_init 22 = .ok (.bipush 60, 2) := by decide +kernel
theorem dX0_init_24 : decode cX0_init 24 = .ok (.invokespecial 11, 3) := by decide +kernel
theorem dX0_init_27 : decode cX0_init 27 = .ok (.putfield 20, 3) := by decide +kernel
theorem dX0_init_30 : decode cX0_init 30 = .ok (.aload_n 0, 1) := by decide +kernel
theorem dX0_init_31 : decode cX0_init 31 = .ok (.iconst 0, 1) := by decide +kernel
theorem dX0_init_32 : decode cX0_init 32 = .ok (.putfield 23, 3) := by decide +kernel
theorem dX0_init_35 : decode cX0_init 35 = .ok (.return_, 1) := by decide +kernel
theorem dX0_clear_0 : decode cX0_clear 0 = .ok (.aload_n 0, 1) := by decide +kernel
theorem dX0_clear_1 : decode cX0_clear 1 = .ok (.getfield 20, 3) := by decide +kernel
theorem dX0_clear_4 : decode cX0_clear 4 = .ok (.invokevirtual 27, 3) := by decide +kernel
theorem dX0_clear_7 : decode cX0_clear 7 = .ok (.aload_n 0, 1) := by decide +kernel
theorem dX0_clear_8 : decode cX0_clear 8 = .ok (.iconst 0, 1) := by decide +kernel
theorem dX0_clear_9 : decode cX0_clear 9 = .ok (.putfield 23, 3) := by decide +kernel
theorem dX0_clear_12 : decode cX0_clear 12 = .ok (.return_, 1) := by decide +kernel
theorem dX0_add_0 : decode cX0_add 0 = .ok (.aload_n 0, 1) := by decide +kernel
theorem dX0_add_1 : decode cX0_add 1 = .ok (.getfield 20, 3) := by decide +kernel
theorem dX0_add_4 : decode cX0_add 4 = .ok (.iload_n 1, 1) := by decide +kernel
theorem dX0_add_5 : decode cX0_add 5 = .ok (.invokevirtual 30, 3) := by decide +kernel
theorem dX0_add_8 : decode cX0_add 8 = .ok (.iconst (-1), 1) := by decide +kernel
theorem dX0_add_9 : decode cX0_add 9 = .ok (.if_icmp .ne 46, 3) := by decide +kernel
theorem dX0_add_12 : decode cX0_add 12 = .ok (.aload_n 0, 1) := by decide +kernel
theorem dX0_add_13 : decode cX0_add 13 = .ok (.getfield 23, 3) := by decide +kernel
theorem dX0_add_16 : decode cX0_add 16 = .ok (.bipush 60, 2) := by decide +kernel
theorem dX0_add_18 : decode cX0_add 18 = .ok (.if_icmp .ge 37, 3) := by decide +kernel
theorem dX0_add_21 : decode cX0_add 21 = .ok (.aload_n 0, 1) := by decide +kernel
theorem dX0_add_22 : decode cX0_add 22 = .ok (.getfield 20, 3) := by decide +kernel
theorem dX0_add_25 : decode cX0_add 25 = .ok (.iload_n 1, 1) := by decide +kernel
theorem dX0_add_26 : decode cX0_add 26 = .ok (.aload_n 0, 1) := by decide +kernel
theorem dX0_add_27 : decode cX0_add 27 = .ok (.getfield 23, 3) := by decide +kernel
theorem dX0_add_30 : decode cX0_add 30 = .ok (.invokevirtual 34, 3) := by decide +kernel
theorem dX0_add_33 : decode cX0_add 33 = .ok (.aload_n 0, 1) := by decide +kernel
theorem dX0_add_34 : decode cX0_add 34 = .ok (.getfield 14, 3) := by decide +kernel
theorem dX0_add_37 : decode cX0_add 37 = .ok (.aload_n 0, 1) := by decide +kernel
theorem dX0_add_38 : decode cX0_add 38 = .ok (.getfield 23, 3) := by decide +kernel
theorem dX0_add_41 : decode cX0_add 41 = .ok (.iload_n 1, 1) := by decide +kernel
theorem dX0_add_42 : decode cX0_add 42 = .ok (.invokevirtual 34, 3) := by decide +kernel
theorem dX0_add_45 : decode cX0_add 45 = .ok (.aload_n 0, 1) := by decide +kernel
theorem dX0_add_46 : decode cX0_add 46 = .ok (.dup, 1) := by decide +kernel
theorem dX0_add_47 : decode cX0_add 47 = .ok (.getfield 23, 3) := by decide +kernel
theorem dX0_add_50 : decode cX0_add 50 = .ok (.iconst 1, 1) := by decide +kernel
theorem dX0_add_51 : decode cX0_add 51 = .ok (.iadd, 1) := by decide +kernel
theorem dX0_add_52 : decode cX0_add 52 = .ok (.putfield 23, 3) := by decide +kernel
theorem dX0_add_55 : decode cX0_add 55 = .ok (.return_, 1) := by decide +kernel
theorem dX0_at_0 : decode cX0_at 0 = .ok (.aload_n 0, 1) := by decide +kernel
theorem dX0_at_1 : decode cX0_at 1 = .ok (.getfield 14, 3) := by decide +kernel
theorem dX0_at_4 : decode cX0_at 4 = .ok (.iload_n 1, 1) := by decide +kernel
theorem dX0_at_5 : decode cX0_at 5 = .ok (.invokevirtual 30, 3) := by decide +kernel
theorem dX0_at_8 : decode cX0_at 8 = .ok (.ireturn, 1) := by decide +kernel
theorem dX1_init_0 : decode cX1_init 0 = .ok (.aload_n 0, 1) := by decide +kernel
theorem dX1_init_1 : decode cX1_init 1 = .ok (.invokespecial 3, 3) := by decide +kernel
theorem dX1_init_4 : decode cX1_init 4 = .ok (.aload_n 0, 1) := by decide +kernel
theorem dX1_init_5 : decode cX1_init 5 = .ok (.iload_n 1, 1) := by decide +kernel
theorem dX1_init_6 : decode cX1_init 6 = .ok (.iconst 0, 1) := by decide +kernel
theorem dX1_init_7 : decode cX1_init 7 = .ok (.invokestatic 9, 3) := by decide +kernel
theorem dX1_init_10 : decode cX1_init 10 = .ok (.newarray .int, 2) := by decide +kernel
theorem dX1_init_12 : decode cX1_init 12 = .ok (.putfield 15, 3) := by decide +kernel
theorem dX1_init_15 : decode cX1_init 15 = .ok (.aload_n 0, 1) := by decide +kernel
theorem dX1_init_16 : decode cX1_init 16 = .ok (.getfield 15, 3) := by decide +kernel
theorem dX1_init_19 : decode cX1_init 19 = .ok (.iconst (-1), 1) := by decide +kernel
theorem dX1_init_20 : decode cX1_init 20 = .ok (.invokestatic 21, 3) := by decide +kernel
theorem dX1_init_23 : decode cX1_init 23 = .ok (.return_, 1) := by decide +kernel
theorem dX1_at_0 : decode cX1_at 0 = .ok (.iload_n 1, 1) := by decide +kernel
theorem dX1_at_1 : decode cX1_at 1 = .ok (.ifCond .lt 21, 3) := by decide +kernel
theorem dX1_at_4 : decode cX1_at 4 = .ok (.iload_n 1, 1) := by decide +kernel
theorem dX1_at_5 : decode cX1_at 5 = .ok (.aload_n 0, 1) := by decide +kernel
theorem dX1_at_6 : decode cX1_at 6 = .ok (.getfield 15, 3) := by decide +kernel
theorem dX1_at_9 : decode cX1_at 9 = .ok (.arraylength, 1) := by decide +kernel
theorem dX1_at_10 : decode cX1_at 10 = .ok (.if_icmp .ge 12, 3) := by decide +kernel
theorem dX1_at_13 : decode cX1_at 13 = .ok (.aload_n 0, 1) := by decide +kernel
theorem dX1_at_14 : decode cX1_at 14 = .ok (.getfield 15, 3) := by decide +kernel
theorem dX1_at_17 : decode cX1_at 17 = .ok (.iload_n 1, 1) := by decide +kernel
theorem dX1_at_18 : decode cX1_at 18 = .ok (.iaload, 1) := by decide +kernel
theorem dX1_at_19 : decode cX1_at 19 = .ok (.goto 4, 3) := by decide +kernel
theorem dX1_at_22 : decode cX1_at 22 = .ok (.iconst (-1), 1) := by decide +kernel
theorem dX1_at_23 : decode cX1_at 23 = .ok (.ireturn, 1) := by decide +kernel
theorem dX1_put_0 : decode cX1_put 0 = .ok (.iload_n 1, 1) := by decide +kernel
theorem dX1_put_1 : decode cX1_put 1 = .ok (.ifCond .lt 19, 3) := by decide +kernel
theorem dX1_put_4 : decode cX1_put 4 = .ok (.iload_n 1, 1) := by decide +kernel
theorem dX1_put_5 : decode cX1_put 5 = .ok (.aload_n 0, 1) := by decide +kernel
theorem dX1_put_6 : decode cX1_put 6 = .ok (.getfield 15, 3) := by decide +kernel
theorem dX1_put_9 : decode cX1_put 9 = .ok (.arraylength, 1) := by decide +kernel
theorem dX1_put_10 : decode cX1_put 10 = .ok (.if_icmp .ge 10, 3) := by decide +kernel
theorem dX1_put_13 : decode cX1_put 13 = .ok (.aload_n 0, 1) := by decide +kernel
theorem dX1_put_14 : decode cX1_put 14 = .ok (.getfield 15, 3) := by decide +kernel
theorem dX1_put_17 : decode cX1_put 17 = .ok (.iload_n 1, 1) := by decide +kernel
theorem dX1_put_18 : decode cX1_put 18 = .ok (.iload_n 2, 1) := by decide +kernel
theorem dX1_put_19 : decode cX1_put 19 = .ok (.iastore, 1) := by decide +kernel
theorem dX1_put_20 : decode cX1_put 20 = .ok (.return_, 1) := by decide +kernel
theorem dX1_clear_0 : decode cX1_clear 0 = .ok (.aload_n 0, 1) := by decide +kernel
theorem dX1_clear_1 : decode cX1_clear 1 = .ok (.getfield 15, 3) := by decide +kernel
theorem dX1_clear_4 : decode cX1_clear 4 = .ok (.iconst (-1), 1) := by decide +kernel
theorem dX1_clear_5 : decode cX1_clear 5 = .ok (.invokestatic 21, 3) := by decide +kernel
theorem dX1_clear_8 : decode cX1_clear 8 = .ok (.return_, 1) := by decide +kernel
theorem dX2_init_0 : decode cX2_init 0 = .ok (.aload_n 0, 1) := by decide +kernel
theorem dX2_init_1 : decode cX2_init 1 = .ok (.invokespecial 3, 3) := by decide +kernel
theorem dX2_init_4 : decode cX2_init 4 = .ok (.aload_n 0, 1) := by decide +kernel
theorem dX2_init_5 : decode cX2_init 5 = .ok (.new 9, 3) := by decide +kernel
theorem dX2_init_8 : decode cX2_init 8 = .ok (.dup, 1) := by decide +kernel
theorem dX2_init_9 : decode cX2_init 9 = .ok (.bipush 60, 2) := by decide +kernel
theorem dX2_init_11 : decode cX2_init 11 = .ok (.invokespecial 11, 3) := by decide +kernel
theorem dX2_init_14 : decode cX2_init 14 = .ok (.putfield 14, 3) := by decide +kernel
theorem dX2_init_17 : decode cX2_init 17 = .ok (.aload_n 0, 1) := by decide +kernel
theorem dX2_init_18 : decode cX2_init 18 = .ok (.new 9, 3) := by decide +kernel
theorem dX2_init_21 : decode cX2_init 21 = .ok (.dup, 1) := by decide +kernel
theorem dX2_init_22 : decode cX2_init 22 = .ok (.bipush 60, 2) := by decide +kernel
theorem dX2_init_24 : decode cX2_init 24 = .ok (.invokespecial 11, 3) := by decide +kernel
theorem dX2_init_27 : decode cX2_init 27 = .ok (.putfield 20, 3) := by decide +kernel
theorem dX2_init_30 : decode cX2_init 30 = .ok (.aload_n 0, 1) := by decide +kernel
theorem dX2_init_31 : decode cX2_init 31 = .ok (.new 9, 3) := by decide +kernel
theorem dX2_init_34 : decode cX2_init 34 = .ok (.dup, 1) := by decide +kernel
theorem dX2_init_35 : decode cX2_init 35 = .ok (.bipush 60, 2) := by decide +kernel
theorem dX2_init_37 : decode cX2_init 37 = .ok (.invokespecial 11, 3) := by decide +kernel
theorem dX2_init_40 : decode cX2_init 40 = .ok (.putfield 23, 3) := by decide +kernel
theorem dX2_init_43 : decode cX2_init 43 = .ok (.aload_n 0, 1) := by decide +kernel
theorem dX2_init_44 : decode cX2_init 44 = .ok (.iconst (-1), 1) := by decide +kernel
theorem dX2_init_45 : decode cX2_init 45 = .ok (.putfield 26, 3) := by decide +kernel
theorem dX2_init_48 : decode cX2_init 48 = .ok (.aload_n 0, 1) := by decide +kernel
theorem dX2_init_49 : decode cX2_init 49 = .ok (.iload_n 1, 1) := by decide +kernel
theorem dX2_init_50 : decode cX2_init 50 = .ok (.putfield 30, 3) := by decide +kernel
theorem dX2_init_53 : decode cX2_init 53 = .ok (.aload_n 0, 1) := by decide +kernel
theorem dX2_init_54 : decode cX2_init 54 = .ok (.iload_n 2, 1) := by decide +kernel
theorem dX2_init_55 : decode cX2_init 55 = .ok (.putfield 33, 3) := by decide +kernel
theorem dX2_init_58 : decode cX2_init 58 = .ok (.aload_n 0, 1) := by decide +kernel
theorem dX2_init_59 : decode cX2_init 59 = .ok (.iload_n 3, 1) := by decide +kernel
theorem dX2_init_60 : decode cX2_init 60 = .ok (.putfield 36, 3) := by decide +kernel
theorem dX2_init_63 : decode cX2_init 63 = .ok (.aload_n 0, 1) := by decide +kernel
theorem dX2_init_64 : decode cX2_init 64 = .ok (.iload 4, 2) := by decide +kernel
theorem dX2_init_66 : decode cX2_init 66 = .ok (.putfield 39, 3) := by decide +kernel
theorem dX2_init_69 : decode cX2_init 69 = .ok (.aload_n 0, 1) := by decide +kernel
theorem dX2_init_70 : decode cX2_init 70 = .ok (.iload 5, 2) := by decide +kernel
theorem dX2_init_72 : decode cX2_init 72 = .ok (.putfield 43, 3) := by decide +kernel
theorem dX2_init_75 : decode cX2_init 75 = .ok (.return_, 1) := by decide +kernel
theorem dX2_owns_0 : decode cX2_owns 0 = .ok (.iload_n 1, 1) := by decide +kernel
theorem dX2_owns_1 : decode cX2_owns 1 = .ok (.iconst (-1), 1) := by decide +kernel
theorem dX2_owns_2 : decode cX2_owns 2 = .ok (.if_icmp .eq 19, 3) := by decide +kernel
theorem dX2_owns_5 : decode cX2_owns 5 = .ok (.aload_n 0, 1) := by decide +kernel
theorem dX2_owns_6 : decode cX2_owns 6 = .ok (.getfield 14, 3) := by decide +kernel
theorem dX2_owns_9 : decode cX2_owns 9 = .ok (.iload_n 1, 1) := by decide +kernel
theorem dX2_owns_10 : decode cX2_owns 10 = .ok (.invokevirtual 46, 3) := by decide +kernel
theorem dX2_owns_13 : decode cX2_owns 13 = .ok (.iload_n 1, 1) := by decide +kernel
theorem dX2_owns_14 : decode cX2_owns 14 = .ok (.if_icmp .ne 7, 3) := by decide +kernel
theorem dX2_owns_17 : decode cX2_owns 17 = .ok (.iconst 1, 1) := by decide +kernel
theorem dX2_owns_18 : decode cX2_owns 18 = .ok (.goto 4, 3) := by decide +kernel
theorem dX2_owns_21 : decode cX2_owns 21 = .ok (.iconst 0, 1) := by decide +kernel
theorem dX2_owns_22 : decode cX2_owns 22 = .ok (.ireturn, 1) := by decide +kernel
theorem dX2_isMember_0 : decode cX2_isMember 0 = .ok (.aload_n 0, 1) := by decide +kernel
theorem dX2_isMember_1 : decode cX2_isMember 1 = .ok (.getfield 14, 3) := by decide +kernel
theorem dX2_isMember_4 : decode cX2_isMember 4 = .ok (.iload_n 1, 1) := by decide +kernel
theorem dX2_isMember_5 : decode cX2_isMember 5 = .ok (.invokevirtual 46, 3) := by decide +kernel
theorem dX2_isMember_8 : decode cX2_isMember 8 = .ok (.istore_n 2, 1) := by decide +kernel
theorem dX2_isMember_9 : decode cX2_isMember 9 = .ok (.iload_n 2, 1) := by decide +kernel
theorem dX2_isMember_10 : decode cX2_isMember 10 = .ok (.iconst (-1), 1) := by decide +kernel
theorem dX2_isMember_11 : decode cX2_isMember 11 = .ok (.if_icmp .eq 12, 3) := by decide +kernel
theorem dX2_isMember_14 : decode cX2_isMember 14 = .ok (.iload_n 2, 1) := by decide +kernel
theorem dX2_isMember_15 : decode cX2_isMember 15 = .ok (.iload_n 1, 1) := by decide +kernel
theorem dX2_isMember_16 : decode cX2_isMember 16 = .ok (.if_icmp .eq 7, 3) := by decide +kernel
theorem dX2_isMember_19 : decode cX2_isMember 19 = .ok (.iconst 1, 1) := by decide +kernel
theorem dX2_isMember_20 : decode cX2_isMember 20 = .ok (.goto 4, 3) := by decide +kernel
theorem dX2_isMember_23 : decode cX2_isMember 23 = .ok (.iconst 0, 1) := by decide +kernel
theorem dX2_isMember_24 : decode cX2_isMember 24 = .ok (.ireturn, 1) := by decide +kernel
theorem dX2_takesAtStore_0 : decode cX2_takesAtStore 0 = .ok (.aload_n 0, 1) := by decide +kernel
theorem dX2_takesAtStore_1 : decode cX2_takesAtStore 1 = .ok (.getfield 39, 3) := by decide +kernel
theorem dX2_takesAtStore_4 : decode cX2_takesAtStore 4 = .ok (.ifCond .eq 15, 3) := by decide +kernel
theorem dX2_takesAtStore_7 : decode cX2_takesAtStore 7 = .ok (.aload_n 0, 1) := by decide +kernel
theorem dX2_takesAtStore_8 : decode cX2_takesAtStore 8 = .ok (.getfield 33, 3) := by decide +kernel
theorem dX2_takesAtStore_11 : decode cX2_takesAtStore 11 = .ok (.iload_n 1, 1) := by decide +kernel
theorem dX2_takesAtStore_12 : decode cX2_takesAtStore 12 = .ok (.if_icmp .ne 7, 3) := by decide +kernel
theorem dX2_takesAtStore_15 : decode cX2_takesAtStore 15 = .ok (.iconst 1, 1) := by decide +kernel
theorem dX2_takesAtStore_16 : decode cX2_takesAtStore 16 = .ok (.goto 4, 3) := by decide +kernel
theorem dX2_takesAtStore_19 : decode cX2_takesAtStore 19 = .ok (.iconst 0, 1) := by decide +kernel
theorem dX2_takesAtStore_20 : decode cX2_takesAtStore 20 = .ok (.ireturn, 1) := by decide +kernel
theorem dX2_erasesMembers_0 : decode cX2_erasesMembers 0 = .ok (.iload_n 1, 1) := by decide +kernel
theorem dX2_erasesMembers_1 : decode cX2_erasesMembers 1 = .ok (.iconst 2, 1) := by decide +kernel
theorem dX2_erasesMembers_2 : decode cX2_erasesMembers 2 = .ok (.if_icmp .eq 15, 3) := by decide +kernel
theorem dX2_erasesMembers_5 : decode cX2_erasesMembers 5 = .ok (.iload_n 1, 1) := by decide +kernel
theorem dX2_erasesMembers_6 : decode cX2_erasesMembers 6 = .ok (.ifCond .eq 15, 3) := by decide +kernel
theorem dX2_erasesMembers_9 : decode cX2_erasesMembers 9 = .ok (.aload_n 0, 1) := by decide +kernel
theorem dX2_erasesMembers_10 : decode cX2_erasesMembers 10 = .ok (.getfield 43, 3) := by decide +kernel
theorem dX2_erasesMembers_13 : decode cX2_erasesMembers 13 = .ok (.iconst 2, 1) := by decide +kernel
theorem dX2_erasesMembers_14 : decode cX2_erasesMembers 14 = .ok (.if_icmp .eq 7, 3) := by decide +kernel
theorem dX2_erasesMembers_17 : decode cX2_erasesMembers 17 = .ok (.iconst 1, 1) := by decide +kernel
theorem dX2_erasesMembers_18 : decode cX2_erasesMembers 18 = .ok (.goto 4, 3) := by decide +kernel
theorem dX2_erasesMembers_21 : decode cX2_erasesMembers 21 = .ok (.iconst 0, 1) := by decide +kernel
theorem dX2_erasesMembers_22 : decode cX2_erasesMembers 22 = .ok (.ireturn, 1) := by decide +kernel
theorem dX2_currentOwner_0 : decode cX2_currentOwner 0 = .ok (.aload_n 0, 1) := by decide +kernel
theorem dX2_currentOwner_1 : decode cX2_currentOwner 1 = .ok (.getfield 14, 3) := by decide +kernel
theorem dX2_currentOwner_4 : decode cX2_currentOwner 4 = .ok (.aload_n 0, 1) := by decide +kernel
theorem dX2_currentOwner_5 : decode cX2_currentOwner 5 = .ok (.getfield 26, 3) := by decide +kernel
theorem dX2_currentOwner_8 : decode cX2_currentOwner 8 = .ok (.invokevirtual 46, 3) := by decide +kernel
theorem dX2_currentOwner_11 : decode cX2_currentOwner 11 = .ok (.ireturn, 1) := by decide +kernel
theorem dX2_admit_0 : decode cX2_admit 0 = .ok (.iload_n 2, 1) := by decide +kernel
theorem dX2_admit_1 : decode cX2_admit 1 = .ok (.aload_n 0, 1) := by decide +kernel
theorem dX2_admit_2 : decode cX2_admit 2 = .ok (.getfield 30, 3) := by decide +kernel
theorem dX2_admit_5 : decode cX2_admit 5 = .ok (.if_icmp .ne 18, 3) := by decide +kernel
theorem dX2_admit_8 : decode cX2_admit 8 = .ok (.aload_n 0, 1) := by decide +kernel
theorem dX2_admit_9 : decode cX2_admit 9 = .ok (.getfield 14, 3) := by decide +kernel
theorem dX2_admit_12 : decode cX2_admit 12 = .ok (.iload_n 1, 1) := by decide +kernel
theorem dX2_admit_13 : decode cX2_admit 13 = .ok (.iload_n 1, 1) := by decide +kernel
theorem dX2_admit_14 : decode cX2_admit 14 = .ok (.invokevirtual 50, 3) := by decide +kernel
theorem dX2_admit_17 : decode cX2_admit 17 = .ok (.aload_n 0, 1) := by decide +kernel
theorem dX2_admit_18 : decode cX2_admit 18 = .ok (.iload_n 1, 1) := by decide +kernel
theorem dX2_admit_19 : decode cX2_admit 19 = .ok (.iload_n 1, 1) := by decide +kernel
theorem dX2_admit_20 : decode cX2_admit 20 = .ok (.invokevirtual 54, 3) := by decide +kernel
theorem dX2_admit_23 : decode cX2_admit 23 = .ok (.aload_n 0, 1) := by decide +kernel
theorem dX2_admit_24 : decode cX2_admit 24 = .ok (.iload_n 2, 1) := by decide +kernel
theorem dX2_admit_25 : decode cX2_admit 25 = .ok (.invokevirtual 57, 3) := by decide +kernel
theorem dX2_admit_28 : decode cX2_admit 28 = .ok (.ifCond .eq 13, 3) := by decide +kernel
theorem dX2_admit_31 : decode cX2_admit 31 = .ok (.aload_n 0, 1) := by decide +kernel
theorem dX2_admit_32 : decode cX2_admit 32 = .ok (.iload_n 1, 1) := by decide +kernel
theorem dX2_admit_33 : decode cX2_admit 33 = .ok (.aload_n 0, 1) := by decide +kernel
theorem dX2_admit_34 : decode cX2_admit 34 = .ok (.invokevirtual 61, 3) := by decide +kernel
theorem dX2_admit_37 : decode cX2_admit 37 = .ok (.aload_n 3, 1) := by decide +kernel
theorem dX2_admit_38 : decode cX2_admit 38 = .ok (.invokevirtual 65, 3) := by decide +kernel
theorem dX2_admit_41 : decode cX2_admit 41 = .ok (.return_, 1) := by decide +kernel
theorem dX2_insert_0 : decode cX2_insert 0 = .ok (.aload_n 0, 1) := by decide +kernel
theorem dX2_insert_1 : decode cX2_insert 1 = .ok (.iload_n 2, 1) := by decide +kernel
theorem dX2_insert_2 : decode cX2_insert 2 = .ok (.aload_n 3, 1) := by decide +kernel
theorem dX2_insert_3 : decode cX2_insert 3 = .ok (.iload_n 1, 1) := by decide +kernel
theorem dX2_insert_4 : decode cX2_insert 4 = .ok (.invokevirtual 46, 3) := by decide +kernel
theorem dX2_insert_7 : decode cX2_insert 7 = .ok (.aload_n 3, 1) := by decide +kernel
theorem dX2_insert_8 : decode cX2_insert 8 = .ok (.invokevirtual 69, 3) := by decide +kernel
theorem dX2_insert_11 : decode cX2_insert 11 = .ok (.istore 4, 2) := by decide +kernel
theorem dX2_insert_13 : decode cX2_insert 13 = .ok (.aload_n 0, 1) := by decide +kernel
theorem dX2_insert_14 : decode cX2_insert 14 = .ok (.getfield 20, 3) := by decide +kernel
theorem dX2_insert_17 : decode cX2_insert 17 = .ok (.iload 4, 2) := by decide +kernel
theorem dX2_insert_19 : decode cX2_insert 19 = .ok (.invokevirtual 46, 3) := by decide +kernel
theorem dX2_insert_22 : decode cX2_insert 22 = .ok (.istore 5, 2) := by decide +kernel
theorem dX2_insert_24 : decode cX2_insert 24 = .ok (.aload_n 0, 1) := by decide +kernel
theorem dX2_insert_25 : decode cX2_insert 25 = .ok (.iload 4, 2) := by decide +kernel
theorem dX2_insert_27 : decode cX2_insert 27 = .ok (.iload_n 1, 1) := by decide +kernel
theorem dX2_insert_28 : decode cX2_insert 28 = .ok (.invokevirtual 54, 3) := by decide +kernel
theorem dX2_insert_31 : decode cX2_insert 31 = .ok (.aload_n 0, 1) := by decide +kernel
theorem dX2_insert_32 : decode cX2_insert 32 = .ok (.iload_n 1, 1) := by decide +kernel
theorem dX2_insert_33 : decode cX2_insert 33 = .ok (.iload 5, 2) := by decide +kernel
theorem dX2_insert_35 : decode cX2_insert 35 = .ok (.invokevirtual 54, 3) := by decide +kernel
theorem dX2_insert_38 : decode cX2_insert 38 = .ok (.aload_n 0, 1) := by decide +kernel
theorem dX2_insert_39 : decode cX2_insert 39 = .ok (.getfield 14, 3) := by decide +kernel
theorem dX2_insert_42 : decode cX2_insert 42 = .ok (.iload_n 1, 1) := by decide +kernel
theorem dX2_insert_43 : decode cX2_insert 43 = .ok (.iload_n 2, 1) := by decide +kernel
theorem dX2_insert_44 : decode cX2_insert 44 = .ok (.invokevirtual 50, 3) := by decide +kernel
theorem dX2_insert_47 : decode cX2_insert 47 = .ok (.return_, 1) := by decide +kernel
theorem dX2_frontFor_0 : decode cX2_frontFor 0 = .ok (.aload_n 0, 1) := by decide +kernel
theorem dX2_frontFor_1 : decode cX2_frontFor 1 = .ok (.getfield 14, 3) := by decide +kernel
theorem dX2_frontFor_4 : decode cX2_frontFor 4 = .ok (.aload_n 0, 1) := by decide +kernel
theorem dX2_frontFor_5 : decode cX2_frontFor 5 = .ok (.getfield 26, 3) := by decide +kernel
theorem dX2_frontFor_8 : decode cX2_frontFor 8 = .ok (.invokevirtual 46, 3) := by decide +kernel
theorem dX2_frontFor_11 : decode cX2_frontFor 11 = .ok (.iload_n 1, 1) := by decide +kernel
theorem dX2_frontFor_12 : decode cX2_frontFor 12 = .ok (.if_icmp .ne 10, 3) := by decide +kernel
theorem dX2_frontFor_15 : decode cX2_frontFor 15 = .ok (.aload_n 0, 1) := by decide +kernel
theorem dX2_frontFor_16 : decode cX2_frontFor 16 = .ok (.getfield 26, 3) := by decide +kernel
theorem dX2_frontFor_19 : decode cX2_frontFor 19 = .ok (.goto 4, 3) := by decide +kernel
theorem dX2_frontFor_22 : decode cX2_frontFor 22 = .ok (.iload_n 1, 1) := by decide +kernel
theorem dX2_frontFor_23 : decode cX2_frontFor 23 = .ok (.istore 4, 2) := by decide +kernel
theorem dX2_frontFor_25 : decode cX2_frontFor 25 = .ok (.aload_n 0, 1) := by decide +kernel
theorem dX2_frontFor_26 : decode cX2_frontFor 26 = .ok (.getfield 36, 3) := by decide +kernel
theorem dX2_frontFor_29 : decode cX2_frontFor 29 = .ok (.tableswitch 61 1 4 #[31, 40, 43, 53], 31) := by decide +kernel
theorem dX2_frontFor_60 : decode cX2_frontFor 60 = .ok (.aload_n 0, 1) := by decide +kernel
theorem dX2_frontFor_61 : decode cX2_frontFor 61 = .ok (.getfield 23, 3) := by decide +kernel
theorem dX2_frontFor_64 : decode cX2_frontFor 64 = .ok (.iload_n 1, 1) := by decide +kernel
theorem dX2_frontFor_65 : decode cX2_frontFor 65 = .ok (.invokevirtual 46, 3) := by decide +kernel
theorem dX2_frontFor_68 : decode cX2_frontFor 68 = .ok (.ireturn, 1) := by decide +kernel
theorem dX2_frontFor_69 : decode cX2_frontFor 69 = .ok (.iload 4, 2) := by decide +kernel
theorem dX2_frontFor_71 : decode cX2_frontFor 71 = .ok (.ireturn, 1) := by decide +kernel
theorem dX2_frontFor_72 : decode cX2_frontFor 72 = .ok (.aload_n 0, 1) := by decide +kernel
theorem dX2_frontFor_73 : decode cX2_frontFor 73 = .ok (.getfield 23, 3) := by decide +kernel
theorem dX2_frontFor_76 : decode cX2_frontFor 76 = .ok (.iload 4, 2) := by decide +kernel
theorem dX2_frontFor_78 : decode cX2_frontFor 78 = .ok (.invokevirtual 46, 3) := by decide +kernel
theorem dX2_frontFor_81 : decode cX2_frontFor 81 = .ok (.ireturn, 1) := by decide +kernel
theorem dX2_frontFor_82 : decode cX2_frontFor 82 = .ok (.aload_n 0, 1) := by decide +kernel
theorem dX2_frontFor_83 : decode cX2_frontFor 83 = .ok (.iload_n 1, 1) := by decide +kernel
theorem dX2_frontFor_84 : decode cX2_frontFor 84 = .ok (.iload_n 2, 1) := by decide +kernel
theorem dX2_frontFor_85 : decode cX2_frontFor 85 = .ok (.aload_n 3, 1) := by decide +kernel
theorem dX2_frontFor_86 : decode cX2_frontFor 86 = .ok (.invokevirtual 73, 3) := by decide +kernel
theorem dX2_frontFor_89 : decode cX2_frontFor 89 = .ok (.ireturn, 1) := by decide +kernel
theorem dX2_frontFor_90 : decode cX2_frontFor 90 = .ok (.iload_n 1, 1) := by decide +kernel
theorem dX2_frontFor_91 : decode cX2_frontFor 91 = .ok (.ireturn, 1) := by decide +kernel
theorem dX2_frontBySorting_0 : decode cX2_frontBySorting 0 = .ok (.iload_n 1, 1) := by decide +kernel
theorem dX2_frontBySorting_1 : decode cX2_frontBySorting 1 = .ok (.istore 4, 2) := by decide +kernel
theorem dX2_frontBySorting_3 : decode cX2_frontBySorting 3 = .ok (.iconst 0, 1) := by decide +kernel
theorem dX2_frontBySorting_4 : decode cX2_frontBySorting 4 = .ok (.istore 5, 2) := by decide +kernel
theorem dX2_frontBySorting_6 : decode cX2_frontBySorting 6 = .ok (.iload 5, 2) := by decide +kernel
theorem dX2_frontBySorting_8 : decode cX2_frontBySorting 8 = .ok (.bipush 60, 2) := by decide +kernel
theorem dX2_frontBySorting_10 : decode cX2_frontBySorting 10 = .ok (.if_icmp .ge 43, 3) := by decide +kernel
theorem dX2_frontBySorting_13 : decode cX2_frontBySorting 13 = .ok (.aload_n 0, 1) := by decide +kernel
theorem dX2_frontBySorting_14 : decode cX2_frontBySorting 14 = .ok (.getfield 20, 3) := by decide +kernel
theorem dX2_frontBySorting_17 : decode cX2_frontBySorting 17 = .ok (.iload 4, 2) := by decide +kernel
theorem dX2_frontBySorting_19 : decode cX2_frontBySorting 19 = .ok (.invokevirtual 46, 3) := by decide +kernel
theorem dX2_frontBySorting_22 : decode cX2_frontBySorting 22 = .ok (.istore 6, 2) := by decide +kernel
theorem dX2_frontBySorting_24 : decode cX2_frontBySorting 24 = .ok (.iload 6, 2) := by decide +kernel
theorem dX2_frontBySorting_26 : decode cX2_frontBySorting 26 = .ok (.iload_n 1, 1) := by decide +kernel
theorem dX2_frontBySorting_27 : decode cX2_frontBySorting 27 = .ok (.if_icmp .eq 13, 3) := by decide +kernel
theorem dX2_frontBySorting_30 : decode cX2_frontBySorting 30 = .ok (.aload_n 3, 1) := by decide +kernel
theorem dX2_frontBySorting_31 : decode cX2_frontBySorting 31 = .ok (.iload 6, 2) := by decide +kernel
theorem dX2_frontBySorting_33 : decode cX2_frontBySorting 33 = .ok (.invokevirtual 46, 3) := by decide +kernel
theorem dX2_frontBySorting_36 : decode cX2_frontBySorting 36 = .ok (.iload_n 2, 1) := by decide +kernel
theorem dX2_frontBySorting_37 : decode cX2_frontBySorting 37 = .ok (.if_icmp .le 6, 3) := by decide +kernel
theorem dX2_frontBySorting_40 : decode cX2_frontBySorting 40 = .ok (.iload 4, 2) := by decide +kernel
theorem dX2_frontBySorting_42 : decode cX2_frontBySorting 42 = .ok (.ireturn, 1) := by decide +kernel
theorem dX2_frontBySorting_43 : decode cX2_frontBySorting 43 = .ok (.iload 6, 2) := by decide +kernel
theorem dX2_frontBySorting_45 : decode cX2_frontBySorting 45 = .ok (.istore 4, 2) := by decide +kernel
theorem dX2_frontBySorting_47 : decode cX2_frontBySorting 47 = .ok (.iinc 5 1, 3) := by decide +kernel
theorem dX2_frontBySorting_50 : decode cX2_frontBySorting 50 = .ok (.goto (-44), 3) := by decide +kernel
theorem dX2_frontBySorting_53 : decode cX2_frontBySorting 53 = .ok (.iload 4, 2) := by decide +kernel
theorem dX2_frontBySorting_55 : decode cX2_frontBySorting 55 = .ok (.ireturn, 1) := by decide +kernel
theorem dX2_link_0 : decode cX2_link 0 = .ok (.aload_n 0, 1) := by decide +kernel
theorem dX2_link_1 : decode cX2_link 1 = .ok (.getfield 20, 3) := by decide +kernel
theorem dX2_link_4 : decode cX2_link 4 = .ok (.iload_n 1, 1) := by decide +kernel
theorem dX2_link_5 : decode cX2_link 5 = .ok (.iload_n 2, 1) := by decide +kernel
theorem dX2_link_6 : decode cX2_link 6 = .ok (.invokevirtual 50, 3) := by decide +kernel
theorem dX2_link_9 : decode cX2_link 9 = .ok (.aload_n 0, 1) := by decide +kernel
theorem dX2_link_10 : decode cX2_link 10 = .ok (.getfield 23, 3) := by decide +kernel
theorem dX2_link_13 : decode cX2_link 13 = .ok (.iload_n 2, 1) := by decide +kernel
theorem dX2_link_14 : decode cX2_link 14 = .ok (.iload_n 1, 1) := by decide +kernel
theorem dX2_link_15 : decode cX2_link 15 = .ok (.invokevirtual 50, 3) := by decide +kernel
theorem dX2_link_18 : decode cX2_link 18 = .ok (.return_, 1) := by decide +kernel
theorem dX2_takeOut_0 : decode cX2_takeOut 0 = .ok (.aload_n 0, 1) := by decide +kernel
theorem dX2_takeOut_1 : decode cX2_takeOut 1 = .ok (.aload_n 0, 1) := by decide +kernel
theorem dX2_takeOut_2 : decode cX2_takeOut 2 = .ok (.getfield 23, 3) := by decide +kernel
theorem dX2_takeOut_5 : decode cX2_takeOut 5 = .ok (.iload_n 1, 1) := by decide +kernel
theorem dX2_takeOut_6 : decode cX2_takeOut 6 = .ok (.invokevirtual 46, 3) := by decide +kernel
theorem dX2_takeOut_9 : decode cX2_takeOut 9 = .ok (.aload_n 0, 1) := by decide +kernel
theorem dX2_takeOut_10 : decode cX2_takeOut 10 = .ok (.getfield 20, 3) := by decide +kernel
theorem dX2_takeOut_13 : decode cX2_takeOut 13 = .ok (.iload_n 1, 1) := by decide +kernel
theorem dX2_takeOut_14 : decode cX2_takeOut 14 = .ok (.invokevirtual 46, 3) := by decide +kernel
theorem dX2_takeOut_17 : decode cX2_takeOut 17 = .ok (.invokevirtual 54, 3) := by decide +kernel
theorem dX2_takeOut_20 : decode cX2_takeOut 20 = .ok (.aload_n 0, 1) := by decide +kernel
theorem dX2_takeOut_21 : decode cX2_takeOut 21 = .ok (.getfield 14, 3) := by decide +kernel
theorem dX2_takeOut_24 : decode cX2_takeOut 24 = .ok (.iload_n 1, 1) := by decide +kernel
theorem dX2_takeOut_25 : decode cX2_takeOut 25 = .ok (.iconst (-1), 1) := by decide +kernel
theorem dX2_takeOut_26 : decode cX2_takeOut 26 = .ok (.invokevirtual 50, 3) := by decide +kernel
theorem dX2_takeOut_29 : decode cX2_takeOut 29 = .ok (.return_, 1) := by decide +kernel
theorem dX2_release_0 : decode cX2_release 0 = .ok (.aload_n 0, 1) := by decide +kernel
theorem dX2_release_1 : decode cX2_release 1 = .ok (.iload_n 1, 1) := by decide +kernel
theorem dX2_release_2 : decode cX2_release 2 = .ok (.invokevirtual 76, 3) := by decide +kernel
theorem dX2_release_5 : decode cX2_release 5 = .ok (.aload_n 0, 1) := by decide +kernel
theorem dX2_release_6 : decode cX2_release 6 = .ok (.getfield 26, 3) := by decide +kernel
theorem dX2_release_9 : decode cX2_release 9 = .ok (.iload_n 1, 1) := by decide +kernel
theorem dX2_release_10 : decode cX2_release 10 = .ok (.if_icmp .ne 8, 3) := by decide +kernel
theorem dX2_release_13 : decode cX2_release 13 = .ok (.aload_n 0, 1) := by decide +kernel
theorem dX2_release_14 : decode cX2_release 14 = .ok (.iconst (-1), 1) := by decide +kernel
theorem dX2_release_15 : decode cX2_release 15 = .ok (.putfield 26, 3) := by decide +kernel
theorem dX2_release_18 : decode cX2_release 18 = .ok (.return_, 1) := by decide +kernel
theorem dX2_sortAnew_0 : decode cX2_sortAnew 0 = .ok (.aload_n 0, 1) := by decide +kernel
theorem dX2_sortAnew_1 : decode cX2_sortAnew 1 = .ok (.getfield 36, 3) := by decide +kernel
theorem dX2_sortAnew_4 : decode cX2_sortAnew 4 = .ok (.iconst 4, 1) := by decide +kernel
theorem dX2_sortAnew_5 : decode cX2_sortAnew 5 = .ok (.if_icmp .ne 32, 3) := by decide +kernel
theorem dX2_sortAnew_8 : decode cX2_sortAnew 8 = .ok (.aload_n 0, 1) := by decide +kernel
theorem dX2_sortAnew_9 : decode cX2_sortAnew 9 = .ok (.iload_n 1, 1) := by decide +kernel
theorem dX2_sortAnew_10 : decode cX2_sortAnew 10 = .ok (.invokevirtual 79, 3) := by decide +kernel
theorem dX2_sortAnew_13 : decode cX2_sortAnew 13 = .ok (.ifCond .eq 24, 3) := by decide +kernel
theorem dX2_sortAnew_16 : decode cX2_sortAnew 16 = .ok (.aload_n 0, 1) := by decide +kernel
theorem dX2_sortAnew_17 : decode cX2_sortAnew 17 = .ok (.getfield 14, 3) := by decide +kernel
theorem dX2_sortAnew_20 : decode cX2_sortAnew 20 = .ok (.iload_n 1, 1) := by decide +kernel
theorem dX2_sortAnew_21 : decode cX2_sortAnew 21 = .ok (.invokevirtual 46, 3) := by decide +kernel
theorem dX2_sortAnew_24 : decode cX2_sortAnew 24 = .ok (.istore_n 3, 1) := by decide +kernel
theorem dX2_sortAnew_25 : decode cX2_sortAnew 25 = .ok (.aload_n 0, 1) := by decide +kernel
theorem dX2_sortAnew_26 : decode cX2_sortAnew 26 = .ok (.iload_n 1, 1) := by decide +kernel
theorem dX2_sortAnew_27 : decode cX2_sortAnew 27 = .ok (.invokevirtual 76, 3) := by decide +kernel
theorem dX2_sortAnew_30 : decode cX2_sortAnew 30 = .ok (.aload_n 0, 1) := by decide +kernel
theorem dX2_sortAnew_31 : decode cX2_sortAnew 31 = .ok (.iload_n 1, 1) := by decide +kernel
theorem dX2_sortAnew_32 : decode cX2_sortAnew 32 = .ok (.iload_n 3, 1) := by decide +kernel
theorem dX2_sortAnew_33 : decode cX2_sortAnew 33 = .ok (.aload_n 2, 1) := by decide +kernel
theorem dX2_sortAnew_34 : decode cX2_sortAnew 34 = .ok (.invokevirtual 65, 3) := by decide +kernel
theorem dX2_sortAnew_37 : decode cX2_sortAnew 37 = .ok (.return_, 1) := by decide +kernel
theorem dX2_forget_0 : decode cX2_forget 0 = .ok (.aload_n 0, 1) := by decide +kernel
theorem dX2_forget_1 : decode cX2_forget 1 = .ok (.iload_n 1, 1) := by decide +kernel
theorem dX2_forget_2 : decode cX2_forget 2 = .ok (.invokevirtual 82, 3) := by decide +kernel
theorem dX2_forget_5 : decode cX2_forget 5 = .ok (.ifCond .eq 20, 3) := by decide +kernel
theorem dX2_forget_8 : decode cX2_forget 8 = .ok (.aload_n 0, 1) := by decide +kernel
theorem dX2_forget_9 : decode cX2_forget 9 = .ok (.iload_n 1, 1) := by decide +kernel
theorem dX2_forget_10 : decode cX2_forget 10 = .ok (.invokevirtual 85, 3) := by decide +kernel
theorem dX2_forget_13 : decode cX2_forget 13 = .ok (.aload_n 0, 1) := by decide +kernel
theorem dX2_forget_14 : decode cX2_forget 14 = .ok (.getfield 14, 3) := by decide +kernel
theorem dX2_forget_17 : decode cX2_forget 17 = .ok (.iload_n 1, 1) := by decide +kernel
theorem dX2_forget_18 : decode cX2_forget 18 = .ok (.iconst (-1), 1) := by decide +kernel
theorem dX2_forget_19 : decode cX2_forget 19 = .ok (.invokevirtual 50, 3) := by decide +kernel
theorem dX2_forget_22 : decode cX2_forget 22 = .ok (.goto 16, 3) := by decide +kernel
theorem dX2_forget_25 : decode cX2_forget 25 = .ok (.aload_n 0, 1) := by decide +kernel
theorem dX2_forget_26 : decode cX2_forget 26 = .ok (.iload_n 1, 1) := by decide +kernel
theorem dX2_forget_27 : decode cX2_forget 27 = .ok (.invokevirtual 79, 3) := by decide +kernel
theorem dX2_forget_30 : decode cX2_forget 30 = .ok (.ifCond .eq 8, 3) := by decide +kernel
theorem dX2_forget_33 : decode cX2_forget 33 = .ok (.aload_n 0, 1) := by decide +kernel
theorem dX2_forget_34 : decode cX2_forget 34 = .ok (.iload_n 1, 1) := by decide +kernel
theorem dX2_forget_35 : decode cX2_forget 35 = .ok (.invokevirtual 76, 3) := by decide +kernel
theorem dX2_forget_38 : decode cX2_forget 38 = .ok (.aload_n 0, 1) := by decide +kernel
theorem dX2_forget_39 : decode cX2_forget 39 = .ok (.getfield 26, 3) := by decide +kernel
theorem dX2_forget_42 : decode cX2_forget 42 = .ok (.iload_n 1, 1) := by decide +kernel
theorem dX2_forget_43 : decode cX2_forget 43 = .ok (.if_icmp .ne 8, 3) := by decide +kernel
theorem dX2_forget_46 : decode cX2_forget 46 = .ok (.aload_n 0, 1) := by decide +kernel
theorem dX2_forget_47 : decode cX2_forget 47 = .ok (.iconst (-1), 1) := by decide +kernel
theorem dX2_forget_48 : decode cX2_forget 48 = .ok (.putfield 26, 3) := by decide +kernel
theorem dX2_forget_51 : decode cX2_forget 51 = .ok (.return_, 1) := by decide +kernel
theorem dX2_releaseMembers_0 : decode cX2_releaseMembers 0 = .ok (.iconst 0, 1) := by decide +kernel
theorem dX2_releaseMembers_1 : decode cX2_releaseMembers 1 = .ok (.istore_n 2, 1) := by decide +kernel
theorem dX2_releaseMembers_2 : decode cX2_releaseMembers 2 = .ok (.iload_n 2, 1) := by decide +kernel
theorem dX2_releaseMembers_3 : decode cX2_releaseMembers 3 = .ok (.bipush 60, 2) := by decide +kernel
theorem dX2_releaseMembers_5 : decode cX2_releaseMembers 5 = .ok (.if_icmp .ge 33, 3) := by decide +kernel
theorem dX2_releaseMembers_8 : decode cX2_releaseMembers 8 = .ok (.aload_n 0, 1) := by decide +kernel
theorem dX2_releaseMembers_9 : decode cX2_releaseMembers 9 = .ok (.getfield 20, 3) := by decide +kernel
theorem dX2_releaseMembers_12 : decode cX2_releaseMembers 12 = .ok (.iload_n 1, 1) := by decide +kernel
theorem dX2_releaseMembers_13 : decode cX2_releaseMembers 13 = .ok (.invokevirtual 46, 3) := by decide +kernel
theorem dX2_releaseMembers_16 : decode cX2_releaseMembers 16 = .ok (.iload_n 1, 1) := by decide +kernel
theorem dX2_releaseMembers_17 : decode cX2_releaseMembers 17 = .ok (.if_icmp .eq 21, 3) := by decide +kernel
theorem dX2_releaseMembers_20 : decode cX2_releaseMembers 20 = .ok (.aload_n 0, 1) := by decide +kernel
theorem dX2_releaseMembers_21 : decode cX2_releaseMembers 21 = .ok (.aload_n 0, 1) := by decide +kernel
theorem dX2_releaseMembers_22 : decode cX2_releaseMembers 22 = .ok (.getfield 20, 3) := by decide +kernel
theorem dX2_releaseMembers_25 : decode cX2_releaseMembers 25 = .ok (.iload_n 1, 1) := by decide +kernel
theorem dX2_releaseMembers_26 : decode cX2_releaseMembers 26 = .ok (.invokevirtual 46, 3) := by decide +kernel
theorem dX2_releaseMembers_29 : decode cX2_releaseMembers 29 = .ok (.invokevirtual 88, 3) := by decide +kernel
theorem dX2_releaseMembers_32 : decode cX2_releaseMembers 32 = .ok (.iinc 2 1, 3) := by decide +kernel
theorem dX2_releaseMembers_35 : decode cX2_releaseMembers 35 = .ok (.goto (-33), 3) := by decide +kernel
theorem dX2_releaseMembers_38 : decode cX2_releaseMembers 38 = .ok (.return_, 1) := by decide +kernel
theorem dX2_gather_0 : decode cX2_gather 0 = .ok (.aload_n 0, 1) := by decide +kernel
theorem dX2_gather_1 : decode cX2_gather 1 = .ok (.getfield 20, 3) := by decide +kernel
theorem dX2_gather_4 : decode cX2_gather 4 = .ok (.iload_n 1, 1) := by decide +kernel
theorem dX2_gather_5 : decode cX2_gather 5 = .ok (.invokevirtual 46, 3) := by decide +kernel
theorem dX2_gather_8 : decode cX2_gather 8 = .ok (.istore_n 3, 1) := by decide +kernel
theorem dX2_gather_9 : decode cX2_gather 9 = .ok (.iconst 0, 1) := by decide +kernel
theorem dX2_gather_10 : decode cX2_gather 10 = .ok (.istore 4, 2) := by decide +kernel
theorem dX2_gather_12 : decode cX2_gather 12 = .ok (.iload 4, 2) := by decide +kernel
theorem dX2_gather_14 : decode cX2_gather 14 = .ok (.bipush 60, 2) := by decide +kernel
theorem dX2_gather_16 : decode cX2_gather 16 = .ok (.if_icmp .ge 28, 3) := by decide +kernel
theorem dX2_gather_19 : decode cX2_gather 19 = .ok (.iload_n 3, 1) := by decide +kernel
theorem dX2_gather_20 : decode cX2_gather 20 = .ok (.iload_n 1, 1) := by decide +kernel
theorem dX2_gather_21 : decode cX2_gather 21 = .ok (.if_icmp .eq 23, 3) := by decide +kernel
theorem dX2_gather_24 : decode cX2_gather 24 = .ok (.aload_n 2, 1) := by decide +kernel
theorem dX2_gather_25 : decode cX2_gather 25 = .ok (.iload_n 3, 1) := by decide +kernel
theorem dX2_gather_26 : decode cX2_gather 26 = .ok (.invokevirtual 91, 3) := by decide +kernel
theorem dX2_gather_29 : decode cX2_gather 29 = .ok (.aload_n 0, 1) := by decide +kernel
theorem dX2_gather_30 : decode cX2_gather 30 = .ok (.getfield 20, 3) := by decide +kernel
theorem dX2_gather_33 : decode cX2_gather 33 = .ok (.iload_n 3, 1) := by decide +kernel
theorem dX2_gather_34 : decode cX2_gather 34 = .ok (.invokevirtual 46, 3) := by decide +kernel
theorem dX2_gather_37 : decode cX2_gather 37 = .ok (.istore_n 3, 1) := by decide +kernel
theorem dX2_gather_38 : decode cX2_gather 38 = .ok (.iinc 4 1, 3) := by decide +kernel
theorem dX2_gather_41 : decode cX2_gather 41 = .ok (.goto (-29), 3) := by decide +kernel
theorem dX2_gather_44 : decode cX2_gather 44 = .ok (.return_, 1) := by decide +kernel
theorem dX2_neighbour_0 : decode cX2_neighbour 0 = .ok (.iload_n 2, 1) := by decide +kernel
theorem dX2_neighbour_1 : decode cX2_neighbour 1 = .ok (.ifCond .eq 14, 3) := by decide +kernel
theorem dX2_neighbour_4 : decode cX2_neighbour 4 = .ok (.aload_n 0, 1) := by decide +kernel
theorem dX2_neighbour_5 : decode cX2_neighbour 5 = .ok (.getfield 23, 3) := by decide +kernel
theorem dX2_neighbour_8 : decode cX2_neighbour 8 = .ok (.iload_n 1, 1) := by decide +kernel
theorem dX2_neighbour_9 : decode cX2_neighbour 9 = .ok (.invokevirtual 46, 3) := by decide +kernel
theorem dX2_neighbour_12 : decode cX2_neighbour 12 = .ok (.goto 11, 3) := by decide +kernel
theorem dX2_neighbour_15 : decode cX2_neighbour 15 = .ok (.aload_n 0, 1) := by decide +kernel
theorem dX2_neighbour_16 : decode cX2_neighbour 16 = .ok (.getfield 20, 3) := by decide +kernel
theorem dX2_neighbour_19 : decode cX2_neighbour 19 = .ok (.iload_n 1, 1) := by decide +kernel
theorem dX2_neighbour_20 : decode cX2_neighbour 20 = .ok (.invokevirtual 46, 3) := by decide +kernel
theorem dX2_neighbour_23 : decode cX2_neighbour 23 = .ok (.istore_n 3, 1) := by decide +kernel
theorem dX2_neighbour_24 : decode cX2_neighbour 24 = .ok (.iload_n 3, 1) := by decide +kernel
theorem dX2_neighbour_25 : decode cX2_neighbour 25 = .ok (.aload_n 0, 1) := by decide +kernel
theorem dX2_neighbour_26 : decode cX2_neighbour 26 = .ok (.getfield 14, 3) := by decide +kernel
theorem dX2_neighbour_29 : decode cX2_neighbour 29 = .ok (.iload_n 1, 1) := by decide +kernel
theorem dX2_neighbour_30 : decode cX2_neighbour 30 = .ok (.invokevirtual 46, 3) := by decide +kernel
theorem dX2_neighbour_33 : decode cX2_neighbour 33 = .ok (.if_icmp .ne 7, 3) := by decide +kernel
theorem dX2_neighbour_36 : decode cX2_neighbour 36 = .ok (.iconst (-1), 1) := by decide +kernel
theorem dX2_neighbour_37 : decode cX2_neighbour 37 = .ok (.goto 4, 3) := by decide +kernel
theorem dX2_neighbour_40 : decode cX2_neighbour 40 = .ok (.iload_n 3, 1) := by decide +kernel
theorem dX2_neighbour_41 : decode cX2_neighbour 41 = .ok (.ireturn, 1) := by decide +kernel
theorem dX2_firstWithValue_0 : decode cX2_firstWithValue 0 = .ok (.aload_n 0, 1) := by decide +kernel
theorem dX2_firstWithValue_1 : decode cX2_firstWithValue 1 = .ok (.getfield 20, 3) := by decide +kernel
theorem dX2_firstWithValue_4 : decode cX2_firstWithValue 4 = .ok (.iload_n 1, 1) := by decide +kernel
theorem dX2_firstWithValue_5 : decode cX2_firstWithValue 5 = .ok (.invokevirtual 46, 3) := by decide +kernel
theorem dX2_firstWithValue_8 : decode cX2_firstWithValue 8 = .ok (.istore 4, 2) := by decide +kernel
theorem dX2_firstWithValue_10 : decode cX2_firstWithValue 10 = .ok (.iconst 0, 1) := by decide +kernel
theorem dX2_firstWithValue_11 : decode cX2_firstWithValue 11 = .ok (.istore 5, 2) := by decide +kernel
theorem dX2_firstWithValue_13 : decode cX2_firstWithValue 13 = .ok (.iload 5, 2) := by decide +kernel
theorem dX2_firstWithValue_15 : decode cX2_firstWithValue 15 = .ok (.bipush 60, 2) := by decide +kernel
theorem dX2_firstWithValue_17 : decode cX2_firstWithValue 17 = .ok (.if_icmp .ge 39, 3) := by decide +kernel
theorem dX2_firstWithValue_20 : decode cX2_firstWithValue 20 = .ok (.iload 4, 2) := by decide +kernel
theorem dX2_firstWithValue_22 : decode cX2_firstWithValue 22 = .ok (.iload_n 1, 1) := by decide +kernel
theorem dX2_firstWithValue_23 : decode cX2_firstWithValue 23 = .ok (.if_icmp .eq 33, 3) := by decide +kernel
theorem dX2_firstWithValue_26 : decode cX2_firstWithValue 26 = .ok (.aload_n 3, 1) := by decide +kernel
theorem dX2_firstWithValue_27 : decode cX2_firstWithValue 27 = .ok (.iload 4, 2) := by decide +kernel
theorem dX2_firstWithValue_29 : decode cX2_firstWithValue 29 = .ok (.invokevirtual 46, 3) := by decide +kernel
theorem dX2_firstWithValue_32 : decode cX2_firstWithValue 32 = .ok (.iload_n 2, 1) := by decide +kernel
theorem dX2_firstWithValue_33 : decode cX2_firstWithValue 33 = .ok (.if_icmp .ne 6, 3) := by decide +kernel
theorem dX2_firstWithValue_36 : decode cX2_firstWithValue 36 = .ok (.iload 4, 2) := by decide +kernel
theorem dX2_firstWithValue_38 : decode cX2_firstWithValue 38 = .ok (.ireturn, 1) := by decide +kernel
theorem dX2_firstWithValue_39 : decode cX2_firstWithValue 39 = .ok (.aload_n 0, 1) := by decide +kernel
theorem dX2_firstWithValue_40 : decode cX2_firstWithValue 40 = .ok (.getfield 20, 3) := by decide +kernel
theorem dX2_firstWithValue_43 : decode cX2_firstWithValue 43 = .ok (.iload 4, 2) := by decide +kernel
theorem dX2_firstWithValue_45 : decode cX2_firstWithValue 45 = .ok (.invokevirtual 46, 3) := by decide +kernel
theorem dX2_firstWithValue_48 : decode cX2_firstWithValue 48 = .ok (.istore 4, 2) := by decide +kernel
theorem dX2_firstWithValue_50 : decode cX2_firstWithValue 50 = .ok (.iinc 5 1, 3) := by decide +kernel
theorem dX2_firstWithValue_53 : decode cX2_firstWithValue 53 = .ok (.goto (-40), 3) := by decide +kernel
theorem dX2_firstWithValue_56 : decode cX2_firstWithValue 56 = .ok (.iconst (-1), 1) := by decide +kernel
theorem dX2_firstWithValue_57 : decode cX2_firstWithValue 57 = .ok (.ireturn, 1) := by decide +kernel
theorem dX2_countByRing_0 : decode cX2_countByRing 0 = .ok (.iconst 0, 1) := by decide +kernel
theorem dX2_countByRing_1 : decode cX2_countByRing 1 = .ok (.istore_n 2, 1) := by decide +kernel
theorem dX2_countByRing_2 : decode cX2_countByRing 2 = .ok (.aload_n 0, 1) := by decide +kernel
theorem dX2_countByRing_3 : decode cX2_countByRing 3 = .ok (.getfield 20, 3) := by decide +kernel
theorem dX2_countByRing_6 : decode cX2_countByRing 6 = .ok (.iload_n 1, 1) := by decide +kernel
theorem dX2_countByRing_7 : decode cX2_countByRing 7 = .ok (.invokevirtual 46, 3) := by decide +kernel
theorem dX2_countByRing_10 : decode cX2_countByRing 10 = .ok (.istore_n 3, 1) := by decide +kernel
theorem dX2_countByRing_11 : decode cX2_countByRing 11 = .ok (.iload_n 3, 1) := by decide +kernel
theorem dX2_countByRing_12 : decode cX2_countByRing 12 = .ok (.iload_n 1, 1) := by decide +kernel
theorem dX2_countByRing_13 : decode cX2_countByRing 13 = .ok (.if_icmp .eq 24, 3) := by decide +kernel
theorem dX2_countByRing_16 : decode cX2_countByRing 16 = .ok (.iload_n 2, 1) := by decide +kernel
theorem dX2_countByRing_17 : decode cX2_countByRing 17 = .ok (.bipush 60, 2) := by decide +kernel
theorem dX2_countByRing_19 : decode cX2_countByRing 19 = .ok (.if_icmp .ge 18, 3) := by decide +kernel
theorem dX2_countByRing_22 : decode cX2_countByRing 22 = .ok (.iinc 2 1, 3) := by decide +kernel
theorem dX2_countByRing_25 : decode cX2_countByRing 25 = .ok (.aload_n 0, 1) := by decide +kernel
theorem dX2_countByRing_26 : decode cX2_countByRing 26 = .ok (.getfield 20, 3) := by decide +kernel
theorem dX2_countByRing_29 : decode cX2_countByRing 29 = .ok (.iload_n 3, 1) := by decide +kernel
theorem dX2_countByRing_30 : decode cX2_countByRing 30 = .ok (.invokevirtual 46, 3) := by decide +kernel
theorem dX2_countByRing_33 : decode cX2_countByRing 33 = .ok (.istore_n 3, 1) := by decide +kernel
theorem dX2_countByRing_34 : decode cX2_countByRing 34 = .ok (.goto (-23), 3) := by decide +kernel
theorem dX2_countByRing_37 : decode cX2_countByRing 37 = .ok (.iload_n 2, 1) := by decide +kernel
theorem dX2_countByRing_38 : decode cX2_countByRing 38 = .ok (.ireturn, 1) := by decide +kernel
theorem dX2_countByTable_0 : decode cX2_countByTable 0 = .ok (.iconst 0, 1) := by decide +kernel
theorem dX2_countByTable_1 : decode cX2_countByTable 1 = .ok (.istore_n 2, 1) := by decide +kernel
theorem dX2_countByTable_2 : decode cX2_countByTable 2 = .ok (.iconst 0, 1) := by decide +kernel
theorem dX2_countByTable_3 : decode cX2_countByTable 3 = .ok (.istore_n 3, 1) := by decide +kernel
theorem dX2_countByTable_4 : decode cX2_countByTable 4 = .ok (.iload_n 3, 1) := by decide +kernel
theorem dX2_countByTable_5 : decode cX2_countByTable 5 = .ok (.bipush 60, 2) := by decide +kernel
theorem dX2_countByTable_7 : decode cX2_countByTable 7 = .ok (.if_icmp .ge 29, 3) := by decide +kernel
theorem dX2_countByTable_10 : decode cX2_countByTable 10 = .ok (.iload_n 3, 1) := by decide +kernel
theorem dX2_countByTable_11 : decode cX2_countByTable 11 = .ok (.iload_n 1, 1) := by decide +kernel
theorem dX2_countByTable_12 : decode cX2_countByTable 12 = .ok (.if_icmp .eq 18, 3) := by decide +kernel
theorem dX2_countByTable_15 : decode cX2_countByTable 15 = .ok (.aload_n 0, 1) := by decide +kernel
theorem dX2_countByTable_16 : decode cX2_countByTable 16 = .ok (.getfield 14, 3) := by decide +kernel
theorem dX2_countByTable_19 : decode cX2_countByTable 19 = .ok (.iload_n 3, 1) := by decide +kernel
theorem dX2_countByTable_20 : decode cX2_countByTable 20 = .ok (.invokevirtual 46, 3) := by decide +kernel
theorem dX2_countByTable_23 : decode cX2_countByTable 23 = .ok (.iload_n 1, 1) := by decide +kernel
theorem dX2_countByTable_24 : decode cX2_countByTable 24 = .ok (.if_icmp .ne 6, 3) := by decide +kernel
theorem dX2_countByTable_27 : decode cX2_countByTable 27 = .ok (.iinc 2 1, 3) := by decide +kernel
theorem dX2_countByTable_30 : decode cX2_countByTable 30 = .ok (.iinc 3 1, 3) := by decide +kernel
theorem dX2_countByTable_33 : decode cX2_countByTable 33 = .ok (.goto (-29), 3) := by decide +kernel
theorem dX2_countByTable_36 : decode cX2_countByTable 36 = .ok (.iload_n 2, 1) := by decide +kernel
theorem dX2_countByTable_37 : decode cX2_countByTable 37 = .ok (.ireturn, 1) := by decide +kernel
theorem dX2_memberByPlace_0 : decode cX2_memberByPlace 0 = .ok (.aload_n 0, 1) := by decide +kernel
theorem dX2_memberByPlace_1 : decode cX2_memberByPlace 1 = .ok (.getfield 20, 3) := by decide +kernel
theorem dX2_memberByPlace_4 : decode cX2_memberByPlace 4 = .ok (.iload_n 1, 1) := by decide +kernel
theorem dX2_memberByPlace_5 : decode cX2_memberByPlace 5 = .ok (.invokevirtual 46, 3) := by decide +kernel
theorem dX2_memberByPlace_8 : decode cX2_memberByPlace 8 = .ok (.istore_n 3, 1) := by decide +kernel
theorem dX2_memberByPlace_9 : decode cX2_memberByPlace 9 = .ok (.iconst 0, 1) := by decide +kernel
theorem dX2_memberByPlace_10 : decode cX2_memberByPlace 10 = .ok (.istore 4, 2) := by decide +kernel
theorem dX2_memberByPlace_12 : decode cX2_memberByPlace 12 = .ok (.iload 4, 2) := by decide +kernel
theorem dX2_memberByPlace_14 : decode cX2_memberByPlace 14 = .ok (.iload_n 2, 1) := by decide +kernel
theorem dX2_memberByPlace_15 : decode cX2_memberByPlace 15 = .ok (.if_icmp .ge 25, 3) := by decide +kernel
theorem dX2_memberByPlace_18 : decode cX2_memberByPlace 18 = .ok (.iload 4, 2) := by decide +kernel
theorem dX2_memberByPlace_20 : decode cX2_memberByPlace 20 = .ok (.bipush 60, 2) := by decide +kernel
theorem dX2_memberByPlace_22 : decode cX2_memberByPlace 22 = .ok (.if_icmp .ge 18, 3) := by decide +kernel
theorem dX2_memberByPlace_25 : decode cX2_memberByPlace 25 = .ok (.aload_n 0, 1) := by decide +kernel
theorem dX2_memberByPlace_26 : decode cX2_memberByPlace 26 = .ok (.getfield 20, 3) := by decide +kernel
theorem dX2_memberByPlace_29 : decode cX2_memberByPlace 29 = .ok (.iload_n 3, 1) := by decide +kernel
theorem dX2_memberByPlace_30 : decode cX2_memberByPlace 30 = .ok (.invokevirtual 46, 3) := by decide +kernel
theorem dX2_memberByPlace_33 : decode cX2_memberByPlace 33 = .ok (.istore_n 3, 1) := by decide +kernel
theorem dX2_memberByPlace_34 : decode cX2_memberByPlace 34 = .ok (.iinc 4 1, 3) := by decide +kernel
theorem dX2_memberByPlace_37 : decode cX2_memberByPlace 37 = .ok (.goto (-25), 3) := by decide +kernel
theorem dX2_memberByPlace_40 : decode cX2_memberByPlace 40 = .ok (.iload_n 3, 1) := by decide +kernel
theorem dX2_memberByPlace_41 : decode cX2_memberByPlace 41 = .ok (.ireturn, 1) := by decide +kernel
theorem dX3_init_0 : decode cX3_init 0 = .ok (.aload_n 0, 1) := by decide +kernel
theorem dX3_init_1 : decode cX3_init 1 = .ok (.invokespecial 1, 3) := by decide +kernel
theorem dX3_init_4 : decode cX3_init 4 = .ok (.aload_n 0, 1) := by decide +kernel
theorem dX3_init_5 : decode cX3_init 5 = .ok (.new 7, 3) := by decide +kernel
theorem dX3_init_8 : decode cX3_init 8 = .ok (.dup, 1) := by decide +kernel
theorem dX3_init_9 : decode cX3_init 9 = .ok (.invokespecial 9, 3) := by decide +kernel
theorem dX3_init_12 : decode cX3_init 12 = .ok (.putfield 10, 3) := by decide +kernel
theorem dX3_init_15 : decode cX3_init 15 = .ok (.aload_n 0, 1) := by decide +kernel
theorem dX3_init_16 : decode cX3_init 16 = .ok (.new 16, 3) := by decide +kernel
theorem dX3_init_19 : decode cX3_init 19 = .ok (.dup, 1) := by decide +kernel
theorem dX3_init_20 : decode cX3_init 20 = .ok (.bipush 60, 2) := by decide +kernel
theorem dX3_init_22 : decode cX3_init 22 = .ok (.invokespecial 18, 3) := by decide +kernel
theorem dX3_init_25 : decode cX3_init 25 = .ok (.putfield 21, 3) := by decide +kernel
theorem dX3_init_28 : decode cX3_init 28 = .ok (.aload_n 0, 1) := by decide +kernel
theorem dX3_init_29 : decode cX3_init 29 = .ok (.new 16, 3) := by decide +kernel
theorem dX3_init_32 : decode cX3_init 32 = .ok (.dup, 1) := by decide +kernel
theorem dX3_init_33 : decode cX3_init 33 = .ok (.bipush 60, 2) := by decide +kernel
theorem dX3_init_35 : decode cX3_init 35 = .ok (.invokespecial 18, 3) := by decide +kernel
theorem dX3_init_38 : decode cX3_init 38 = .ok (.putfield 25, 3) := by decide +kernel
theorem dX3_init_41 : decode cX3_init 41 = .ok (.aload_n 0, 1) := by decide +kernel
theorem dX3_init_42 : decode cX3_init 42 = .ok (.new 16, 3) := by decide +kernel
theorem dX3_init_45 : decode cX3_init 45 = .ok (.dup, 1) := by decide +kernel
theorem dX3_init_46 : decode cX3_init 46 = .ok (.iconst 4, 1) := by decide +kernel
theorem dX3_init_47 : decode cX3_init 47 = .ok (.invokespecial 18, 3) := by decide +kernel
theorem dX3_init_50 : decode cX3_init 50 = .ok (.putfield 28, 3) := by decide +kernel
theorem dX3_init_53 : decode cX3_init 53 = .ok (.aload_n 0, 1) := by decide +kernel
theorem dX3_init_54 : decode cX3_init 54 = .ok (.new 31, 3) := by decide +kernel
theorem dX3_init_57 : decode cX3_init 57 = .ok (.dup, 1) := by decide +kernel
theorem dX3_init_58 : decode cX3_init 58 = .ok (.invokespecial 33, 3) := by decide +kernel
theorem dX3_init_61 : decode cX3_init 61 = .ok (.putfield 34, 3) := by decide +kernel
theorem dX3_init_64 : decode cX3_init 64 = .ok (.aload_n 0, 1) := by decide +kernel
theorem dX3_init_65 : decode cX3_init 65 = .ok (.iconst 0, 1) := by decide +kernel
theorem dX3_init_66 : decode cX3_init 66 = .ok (.putfield 38, 3) := by decide +kernel
theorem dX3_init_69 : decode cX3_init 69 = .ok (.aload_n 0, 1) := by decide +kernel
theorem dX3_init_70 : decode cX3_init 70 = .ok (.iconst 0, 1) := by decide +kernel
theorem dX3_init_71 : decode cX3_init 71 = .ok (.putfield 42, 3) := by decide +kernel
theorem dX3_init_74 : decode cX3_init 74 = .ok (.aload_n 0, 1) := by decide +kernel
theorem dX3_init_75 : decode cX3_init 75 = .ok (.iconst (-1), 1) := by decide +kernel
theorem dX3_init_76 : decode cX3_init 76 = .ok (.putfield 45, 3) := by decide +kernel
theorem dX3_init_79 : decode cX3_init 79 = .ok (.return_, 1) := by decide +kernel
theorem dX3_declare_0 : decode cX3_declare 0 = .ok (.aload_n 0, 1) := by decide +kernel
theorem dX3_declare_1 : decode cX3_declare 1 = .ok (.iload_n 1, 1) := by decide +kernel
theorem dX3_declare_2 : decode cX3_declare 2 = .ok (.invokevirtual 48, 3) := by decide +kernel
theorem dX3_declare_5 : decode cX3_declare 5 = .ok (.aload_n 0, 1) := by decide +kernel
theorem dX3_declare_6 : decode cX3_declare 6 = .ok (.iload_n 2, 1) := by decide +kernel
theorem dX3_declare_7 : decode cX3_declare 7 = .ok (.invokevirtual 48, 3) := by decide +kernel
theorem dX3_declare_10 : decode cX3_declare 10 = .ok (.iload_n 1, 1) := by decide +kernel
theorem dX3_declare_11 : decode cX3_declare 11 = .ok (.iload_n 2, 1) := by decide +kernel
theorem dX3_declare_12 : decode cX3_declare 12 = .ok (.if_icmp .ne 13, 3) := by decide +kernel
theorem dX3_declare_15 : decode cX3_declare 15 = .ok (.new 51, 3) := by decide +kernel
theorem dX3_declare_18 : decode cX3_declare 18 = .ok (.dup, 1) := by decide +kernel
theorem dX3_declare_19 : decode cX3_declare 19 = .ok (.ldc 53, 2) := by decide +kernel
theorem dX3_declare_21 : decode cX3_declare 21 = .ok (.invokespecial 55, 3) := by decide +kernel
theorem dX3_declare_24 : decode cX3_declare 24 = .ok (.athrow, 1) := by decide +kernel
theorem dX3_declare_25 : decode cX3_declare 25 = .ok (.iload_n 3, 1) := by decide +kernel
theorem dX3_declare_26 : decode cX3_declare 26 = .ok (.ifCond .lt 8, 3) := by decide +kernel
theorem dX3_declare_29 : decode cX3_declare 29 = .ok (.iload_n 3, 1) := by decide +kernel
theorem dX3_declare_30 : decode cX3_declare 30 = .ok (.iconst 4, 1) := by decide +kernel
theorem dX3_declare_31 : decode cX3_declare 31 = .ok (.if_icmp .le 13, 3) := by decide +kernel
theorem dX3_declare_34 : decode cX3_declare 34 = .ok (.new 51, 3) := by decide +kernel
theorem dX3_declare_37 : decode cX3_declare 37 = .ok (.dup, 1) := by decide +kernel
theorem dX3_declare_38 : decode cX3_declare 38 = .ok (.ldc 58, 2) := by decide +kernel
theorem dX3_declare_40 : decode cX3_declare 40 = .ok (.invokespecial 55, 3) := by decide +kernel
theorem dX3_declare_43 : decode cX3_declare 43 = .ok (.athrow, 1) := by decide +kernel
theorem dX3_declare_44 : decode cX3_declare 44 = .ok (.iload 5, 2) := by decide +kernel
theorem dX3_declare_46 : decode cX3_declare 46 = .ok (.ifCond .lt 9, 3) := by decide +kernel
theorem dX3_declare_49 : decode cX3_declare 49 = .ok (.iload 5, 2) := by decide +kernel
theorem dX3_declare_51 : decode cX3_declare 51 = .ok (.iconst 2, 1) := by decide +kernel
theorem dX3_declare_52 : decode cX3_declare 52 = .ok (.if_icmp .le 13, 3) := by decide +kernel
theorem dX3_declare_55 : decode cX3_declare 55 = .ok (.new 51, 3) := by decide +kernel
theorem dX3_declare_58 : decode cX3_declare 58 = .ok (.dup, 1) := by decide +kernel
theorem dX3_declare_59 : decode cX3_declare 59 = .ok (.ldc 60, 2) := by decide +kernel
theorem dX3_declare_61 : decode cX3_declare 61 = .ok (.invokespecial 55, 3) := by decide +kernel
theorem dX3_declare_64 : decode cX3_declare 64 = .ok (.athrow, 1) := by decide +kernel
theorem dX3_declare_65 : decode cX3_declare 65 = .ok (.aload_n 0, 1) := by decide +kernel
theorem dX3_declare_66 : decode cX3_declare 66 = .ok (.getfield 10, 3) := by decide +kernel
theorem dX3_declare_69 : decode cX3_declare 69 = .ok (.invokevirtual 62, 3) := by decide +kernel
theorem dX3_declare_72 : decode cX3_declare 72 = .ok (.bipush 6, 2) := by decide +kernel
theorem dX3_declare_74 : decode cX3_declare 74 = .ok (.if_icmp .lt 13, 3) := by decide +kernel
theorem dX3_declare_77 : decode cX3_declare 77 = .ok (.new 66, 3) := by decide +kernel
theorem dX3_declare_80 : decode cX3_declare 80 = .ok (.dup, 1) := by decide +kernel
theorem dX3_declare_81 : decode cX3_declare 81 = .ok (.ldc 68, 2) := by decide +kernel
theorem dX3_declare_83 : decode cX3_declare 83 = .ok (.invokespecial 70, 3) := by decide +kernel
theorem dX3_declare_86 : decode cX3_declare 86 = .ok (.athrow, 1) := by decide +kernel
theorem dX3_declare_87 : decode cX3_declare 87 = .ok (.aload_n 0, 1) := by decide +kernel
theorem dX3_declare_88 : decode cX3_declare 88 = .ok (.getfield 38, 3) := by decide +kernel
theorem dX3_declare_91 : decode cX3_declare 91 = .ok (.ifCond .le 13, 3) := by decide +kernel
theorem dX3_declare_94 : decode cX3_declare 94 = .ok (.new 66, 3) := by decide +kernel
theorem dX3_declare_97 : decode cX3_declare 97 = .ok (.dup, 1) := by decide +kernel
theorem dX3_declare_98 : decode cX3_declare 98 = .ok (.ldc 71, 2) := by decide +kernel
theorem dX3_declare_100 : decode cX3_declare 100 = .ok (.invokespecial 70, 3) := by decide +kernel
theorem dX3_declare_103 : decode cX3_declare 103 = .ok (.athrow, 1) := by decide +kernel
theorem dX3_declare_104 : decode cX3_declare 104 = .ok (.aload_n 0, 1) := by decide +kernel
theorem dX3_declare_105 : decode cX3_declare 105 = .ok (.getfield 10, 3) := by decide +kernel
theorem dX3_declare_108 : decode cX3_declare 108 = .ok (.new 73, 3) := by decide +kernel
theorem dX3_declare_111 : decode cX3_declare 111 = .ok (.dup, 1) := by decide +kernel
theorem dX3_declare_112 : decode cX3_declare 112 = .ok (.iload_n 1, 1) := by decide +kernel
theorem dX3_declare_113 : decode cX3_declare 113 = .ok (.iload_n 2, 1) := by decide +kernel
theorem dX3_declare_114 : decode cX3_declare 114 = .ok (.iload_n 3, 1) := by decide +kernel
theorem dX3_declare_115 : decode cX3_declare 115 = .ok (.iload 4, 2) := by decide +kernel
theorem dX3_declare_117 : decode cX3_declare 117 = .ok (.iload 5, 2) := by decide +kernel
theorem dX3_declare_119 : decode cX3_declare 119 = .ok (.invokespecial 75, 3) := by decide +kernel
theorem dX3_declare_122 : decode cX3_declare 122 = .ok (.invokevirtual 78, 3) := by decide +kernel
theorem dX3_declare_125 : decode cX3_declare 125 = .ok (.pop, 1) := by decide +kernel
theorem dX3_declare_126 : decode cX3_declare 126 = .ok (.aload_n 0, 1) := by decide +kernel
theorem dX3_declare_127 : decode cX3_declare 127 = .ok (.getfield 10, 3) := by decide +kernel
theorem dX3_declare_130 : decode cX3_declare 130 = .ok (.invokevirtual 62, 3) := by decide +kernel
theorem dX3_declare_133 : decode cX3_declare 133 = .ok (.iconst 1, 1) := by decide +kernel
theorem dX3_declare_134 : decode cX3_declare 134 = .ok (.isub, 1) := by decide +kernel
theorem dX3_declare_135 : decode cX3_declare 135 = .ok (.ireturn, 1) := by decide +kernel
theorem dX3_store_0 : decode cX3_store 0 = .ok (.aload_n 0, 1) := by decide +kernel
theorem dX3_store_1 : decode cX3_store 1 = .ok (.iload_n 1, 1) := by decide +kernel
theorem dX3_store_2 : decode cX3_store 2 = .ok (.invokevirtual 48, 3) := by decide +kernel
theorem dX3_store_5 : decode cX3_store 5 = .ok (.aload_n 0, 1) := by decide +kernel
theorem dX3_store_6 : decode cX3_store 6 = .ok (.iload_n 2, 1) := by decide +kernel
theorem dX3_store_7 : decode cX3_store 7 = .ok (.invokevirtual 82, 3) := by decide +kernel
theorem dX3_store_10 : decode cX3_store 10 = .ok (.aload_n 0, 1) := by decide +kernel
theorem dX3_store_11 : decode cX3_store 11 = .ok (.getfield 38, 3) := by decide +kernel
theorem dX3_store_14 : decode cX3_store 14 = .ok (.bipush 60, 2) := by decide +kernel
theorem dX3_store_16 : decode cX3_store 16 = .ok (.if_icmp .lt 13, 3) := by decide +kernel
theorem dX3_store_19 : decode cX3_store 19 = .ok (.new 66, 3) := by decide +kernel
theorem dX3_store_22 : decode cX3_store 22 = .ok (.dup, 1) := by decide +kernel
theorem dX3_store_23 : decode cX3_store 23 = .ok (.ldc 85, 2) := by decide +kernel
theorem dX3_store_25 : decode cX3_store 25 = .ok (.invokespecial 70, 3) := by decide +kernel
theorem dX3_store_28 : decode cX3_store 28 = .ok (.athrow, 1) := by decide +kernel
theorem dX3_store_29 : decode cX3_store 29 = .ok (.aload_n 0, 1) := by decide +kernel
theorem dX3_store_30 : decode cX3_store 30 = .ok (.iload_n 1, 1) := by decide +kernel
theorem dX3_store_31 : decode cX3_store 31 = .ok (.invokevirtual 87, 3) := by decide +kernel
theorem dX3_store_34 : decode cX3_store 34 = .ok (.ifCond .eq 13, 3) := by decide +kernel
theorem dX3_store_37 : decode cX3_store 37 = .ok (.new 66, 3) := by decide +kernel
theorem dX3_store_40 : decode cX3_store 40 = .ok (.dup, 1) := by decide +kernel
theorem dX3_store_41 : decode cX3_store 41 = .ok (.ldc 91, 2) := by decide +kernel
theorem dX3_store_43 : decode cX3_store 43 = .ok (.invokespecial 70, 3) := by decide +kernel
theorem dX3_store_46 : decode cX3_store 46 = .ok (.athrow, 1) := by decide +kernel
theorem dX3_store_47 : decode cX3_store 47 = .ok (.aload_n 0, 1) := by decide +kernel
theorem dX3_store_48 : decode cX3_store 48 = .ok (.getfield 38, 3) := by decide +kernel
theorem dX3_store_51 : decode cX3_store 51 = .ok (.istore_n 3, 1) := by decide +kernel
theorem dX3_store_52 : decode cX3_store 52 = .ok (.aload_n 0, 1) := by decide +kernel
theorem dX3_store_53 : decode cX3_store 53 = .ok (.dup, 1) := by decide +kernel
theorem dX3_store_54 : decode cX3_store 54 = .ok (.getfield 38, 3) := by decide +kernel
theorem dX3_store_57 : decode cX3_store 57 = .ok (.iconst 1, 1) := by decide +kernel
theorem dX3_store_58 : decode cX3_store 58 = .ok (.iadd, 1) := by decide +kernel
theorem dX3_store_59 : decode cX3_store 59 = .ok (.putfield 38, 3) := by decide +kernel
theorem dX3_store_62 : decode cX3_store 62 = .ok (.aload_n 0, 1) := by decide +kernel
theorem dX3_store_63 : decode cX3_store 63 = .ok (.dup, 1) := by decide +kernel
theorem dX3_store_64 : decode cX3_store 64 = .ok (.getfield 42, 3) := by decide +kernel
theorem dX3_store_67 : decode cX3_store 67 = .ok (.iconst 1, 1) := by decide +kernel
theorem dX3_store_68 : decode cX3_store 68 = .ok (.iadd, 1) := by decide +kernel
theorem dX3_store_69 : decode cX3_store 69 = .ok (.putfield 42, 3) := by decide +kernel
theorem dX3_store_72 : decode cX3_store 72 = .ok (.aload_n 0, 1) := by decide +kernel
theorem dX3_store_73 : decode cX3_store 73 = .ok (.getfield 21, 3) := by decide +kernel
theorem dX3_store_76 : decode cX3_store 76 = .ok (.iload_n 3, 1) := by decide +kernel
theorem dX3_store_77 : decode cX3_store 77 = .ok (.iload_n 1, 1) := by decide +kernel
theorem dX3_store_78 : decode cX3_store 78 = .ok (.invokevirtual 93, 3) := by decide +kernel
theorem dX3_store_81 : decode cX3_store 81 = .ok (.aload_n 0, 1) := by decide +kernel
theorem dX3_store_82 : decode cX3_store 82 = .ok (.getfield 25, 3) := by decide +kernel
theorem dX3_store_85 : decode cX3_store 85 = .ok (.iload_n 3, 1) := by decide +kernel
theorem dX3_store_86 : decode cX3_store 86 = .ok (.iload_n 2, 1) := by decide +kernel
theorem dX3_store_87 : decode cX3_store 87 = .ok (.invokevirtual 93, 3) := by decide +kernel
theorem dX3_store_90 : decode cX3_store 90 = .ok (.iconst 0, 1) := by decide +kernel
theorem dX3_store_91 : decode cX3_store 91 = .ok (.istore 4, 2) := by decide +kernel
theorem dX3_store_93 : decode cX3_store 93 = .ok (.iload 4, 2) := by decide +kernel
theorem dX3_store_95 : decode cX3_store 95 = .ok (.aload_n 0, 1) := by decide +kernel
theorem dX3_store_96 : decode cX3_store 96 = .ok (.getfield 10, 3) := by decide +kernel
theorem dX3_store_99 : decode cX3_store 99 = .ok (.invokevirtual 62, 3) := by decide +kernel
theorem dX3_store_102 : decode cX3_store 102 = .ok (.if_icmp .ge 30, 3) := by decide +kernel
theorem dX3_store_105 : decode cX3_store 105 = .ok (.aload_n 0, 1) := by decide +kernel
theorem dX3_store_106 : decode cX3_store 106 = .ok (.getfield 10, 3) := by decide +kernel
theorem dX3_store_109 : decode cX3_store 109 = .ok (.iload 4, 2) := by decide +kernel
theorem dX3_store_111 : decode cX3_store 111 = .ok (.invokevirtual 97, 3) := by decide +kernel
theorem dX3_store_114 : decode cX3_store 114 = .ok (.checkcast 73, 3) := by decide +kernel
theorem dX3_store_117 : decode cX3_store 117 = .ok (.iload_n 3, 1) := by decide +kernel
theorem dX3_store_118 : decode cX3_store 118 = .ok (.iload_n 1, 1) := by decide +kernel
theorem dX3_store_119 : decode cX3_store 119 = .ok (.aload_n 0, 1) := by decide +kernel
theorem dX3_store_120 : decode cX3_store 120 = .ok (.getfield 25, 3) := by decide +kernel
theorem dX3_store_123 : decode cX3_store 123 = .ok (.invokevirtual 101, 3) := by decide +kernel
theorem dX3_store_126 : decode cX3_store 126 = .ok (.iinc 4 1, 3) := by decide +kernel
theorem dX3_store_129 : decode cX3_store 129 = .ok (.goto (-36), 3) := by decide +kernel
theorem dX3_store_132 : decode cX3_store 132 = .ok (.aload_n 0, 1) := by decide +kernel
theorem dX3_store_133 : decode cX3_store 133 = .ok (.iload_n 3, 1) := by decide +kernel
theorem dX3_store_134 : decode cX3_store 134 = .ok (.invokevirtual 105, 3) := by decide +kernel
theorem dX3_store_137 : decode cX3_store 137 = .ok (.ireturn, 1) := by decide +kernel
theorem dX3_modify_0 : decode cX3_modify 0 = .ok (.aload_n 0, 1) := by decide +kernel
theorem dX3_modify_1 : decode cX3_modify 1 = .ok (.iload_n 1, 1) := by decide +kernel
theorem dX3_modify_2 : decode cX3_modify 2 = .ok (.invokevirtual 82, 3) := by decide +kernel
theorem dX3_modify_5 : decode cX3_modify 5 = .ok (.aload_n 0, 1) := by decide +kernel
theorem dX3_modify_6 : decode cX3_modify 6 = .ok (.invokevirtual 109, 3) := by decide +kernel
theorem dX3_modify_9 : decode cX3_modify 9 = .ok (.aload_n 0, 1) := by decide +kernel
theorem dX3_modify_10 : decode cX3_modify 10 = .ok (.getfield 25, 3) := by decide +kernel
theorem dX3_modify_13 : decode cX3_modify 13 = .ok (.aload_n 0, 1) := by decide +kernel
theorem dX3_modify_14 : decode cX3_modify 14 = .ok (.getfield 45, 3) := by decide +kernel
theorem dX3_modify_17 : decode cX3_modify 17 = .ok (.invokevirtual 112, 3) := by decide +kernel
theorem dX3_modify_20 : decode cX3_modify 20 = .ok (.istore_n 2, 1) := by decide +kernel
theorem dX3_modify_21 : decode cX3_modify 21 = .ok (.aload_n 0, 1) := by decide +kernel
theorem dX3_modify_22 : decode cX3_modify 22 = .ok (.getfield 25, 3) := by decide +kernel
theorem dX3_modify_25 : decode cX3_modify 25 = .ok (.aload_n 0, 1) := by decide +kernel
theorem dX3_modify_26 : decode cX3_modify 26 = .ok (.getfield 45, 3) := by decide +kernel
theorem dX3_modify_29 : decode cX3_modify 29 = .ok (.iload_n 1, 1) := by decide +kernel
theorem dX3_modify_30 : decode cX3_modify 30 = .ok (.invokevirtual 93, 3) := by decide +kernel
theorem dX3_modify_33 : decode cX3_modify 33 = .ok (.iconst 0, 1) := by decide +kernel
theorem dX3_modify_34 : decode cX3_modify 34 = .ok (.istore_n 3, 1) := by decide +kernel
theorem dX3_modify_35 : decode cX3_modify 35 = .ok (.iload_n 3, 1) := by decide +kernel
theorem dX3_modify_36 : decode cX3_modify 36 = .ok (.aload_n 0, 1) := by decide +kernel
theorem dX3_modify_37 : decode cX3_modify 37 = .ok (.getfield 10, 3) := by decide +kernel
theorem dX3_modify_40 : decode cX3_modify 40 = .ok (.invokevirtual 62, 3) := by decide +kernel
theorem dX3_modify_43 : decode cX3_modify 43 = .ok (.if_icmp .ge 31, 3) := by decide +kernel
theorem dX3_modify_46 : decode cX3_modify 46 = .ok (.aload_n 0, 1) := by decide +kernel
theorem dX3_modify_47 : decode cX3_modify 47 = .ok (.getfield 10, 3) := by decide +kernel
theorem dX3_modify_50 : decode cX3_modify 50 = .ok (.iload_n 3, 1) := by decide +kernel
theorem dX3_modify_51 : decode cX3_modify 51 = .ok (.invokevirtual 97, 3) := by decide +kernel
theorem dX3_modify_54 : decode cX3_modify 54 = .ok (.checkcast 73, 3) := by decide +kernel
theorem dX3_modify_57 : decode cX3_modify 57 = .ok (.aload_n 0, 1) := by decide +kernel
theorem dX3_modify_58 : decode cX3_modify 58 = .ok (.getfield 45, 3) := by decide +kernel
theorem dX3_modify_61 : decode cX3_modify 61 = .ok (.aload_n 0, 1) := by decide +kernel
theorem dX3_modify_62 : decode cX3_modify 62 = .ok (.getfield 25, 3) := by decide +kernel
theorem dX3_modify_65 : decode cX3_modify 65 = .ok (.invokevirtual 115, 3) := by decide +kernel
theorem dX3_modify_68 : decode cX3_modify 68 = .ok (.iinc 3 1, 3) := by decide +kernel
theorem dX3_modify_71 : decode cX3_modify 71 = .ok (.goto (-36), 3) := by decide +kernel
theorem dX3_modify_74 : decode cX3_modify 74 = .ok (.iload_n 2, 1) := by decide +kernel
theorem dX3_modify_75 : decode cX3_modify 75 = .ok (.ireturn, 1) := by decide +kernel
theorem dX3_erase_0 : decode cX3_erase 0 = .ok (.aload_n 0, 1) := by decide +kernel
theorem dX3_erase_1 : decode cX3_erase 1 = .ok (.iload_n 1, 1) := by decide +kernel
theorem dX3_erase_2 : decode cX3_erase 2 = .ok (.invokevirtual 119, 3) := by decide +kernel
theorem dX3_erase_5 : decode cX3_erase 5 = .ok (.aload_n 0, 1) := by decide +kernel
theorem dX3_erase_6 : decode cX3_erase 6 = .ok (.invokevirtual 109, 3) := by decide +kernel
theorem dX3_erase_9 : decode cX3_erase 9 = .ok (.aload_n 0, 1) := by decide +kernel
theorem dX3_erase_10 : decode cX3_erase 10 = .ok (.aload_n 0, 1) := by decide +kernel
theorem dX3_erase_11 : decode cX3_erase 11 = .ok (.getfield 45, 3) := by decide +kernel
theorem dX3_erase_14 : decode cX3_erase 14 = .ok (.iload_n 1, 1) := by decide +kernel
theorem dX3_erase_15 : decode cX3_erase 15 = .ok (.invokevirtual 122, 3) := by decide +kernel
theorem dX3_erase_18 : decode cX3_erase 18 = .ok (.istore_n 2, 1) := by decide +kernel
theorem dX3_erase_19 : decode cX3_erase 19 = .ok (.iload_n 2, 1) := by decide +kernel
theorem dX3_erase_20 : decode cX3_erase 20 = .ok (.iconst (-1), 1) := by decide +kernel
theorem dX3_erase_21 : decode cX3_erase 21 = .ok (.if_icmp .ne 13, 3) := by decide +kernel
theorem dX3_erase_24 : decode cX3_erase 24 = .ok (.new 66, 3) := by decide +kernel
theorem dX3_erase_27 : decode cX3_erase 27 = .ok (.dup, 1) := by decide +kernel
theorem dX3_erase_28 : decode cX3_erase 28 = .ok (.ldc 126, 2) := by decide +kernel
theorem dX3_erase_30 : decode cX3_erase 30 = .ok (.invokespecial 70, 3) := by decide +kernel
theorem dX3_erase_33 : decode cX3_erase 33 = .ok (.athrow, 1) := by decide +kernel
theorem dX3_erase_34 : decode cX3_erase 34 = .ok (.iconst 0, 1) := by decide +kernel
theorem dX3_erase_35 : decode cX3_erase 35 = .ok (.istore_n 3, 1) := by decide +kernel
theorem dX3_erase_36 : decode cX3_erase 36 = .ok (.iload_n 3, 1) := by decide +kernel
theorem dX3_erase_37 : decode cX3_erase 37 = .ok (.iload_n 2, 1) := by decide +kernel
theorem dX3_erase_38 : decode cX3_erase 38 = .ok (.if_icmp .ge 21, 3) := by decide +kernel
theorem dX3_erase_41 : decode cX3_erase 41 = .ok (.aload_n 0, 1) := by decide +kernel
theorem dX3_erase_42 : decode cX3_erase 42 = .ok (.aload_n 0, 1) := by decide +kernel
theorem dX3_erase_43 : decode cX3_erase 43 = .ok (.getfield 34, 3) := by decide +kernel
theorem dX3_erase_46 : decode cX3_erase 46 = .ok (.iload_n 3, 1) := by decide +kernel
theorem dX3_erase_47 : decode cX3_erase 47 = .ok (.invokevirtual 128, 3) := by decide +kernel
theorem dX3_erase_50 : decode cX3_erase 50 = .ok (.invokevirtual 129, 3) := by decide +kernel
theorem dX3_erase_53 : decode cX3_erase 53 = .ok (.iinc 3 1, 3) := by decide +kernel
theorem dX3_erase_56 : decode cX3_erase 56 = .ok (.goto (-20), 3) := by decide +kernel
theorem dX3_erase_59 : decode cX3_erase 59 = .ok (.iload_n 2, 1) := by decide +kernel
theorem dX3_erase_60 : decode cX3_erase 60 = .ok (.ireturn, 1) := by decide +kernel
theorem dX3_connect_0 : decode cX3_connect 0 = .ok (.aload_n 0, 1) := by decide +kernel
theorem dX3_connect_1 : decode cX3_connect 1 = .ok (.iload_n 1, 1) := by decide +kernel
theorem dX3_connect_2 : decode cX3_connect 2 = .ok (.invokevirtual 132, 3) := by decide +kernel
theorem dX3_connect_5 : decode cX3_connect 5 = .ok (.astore_n 2, 1) := by decide +kernel
theorem dX3_connect_6 : decode cX3_connect 6 = .ok (.aload_n 0, 1) := by decide +kernel
theorem dX3_connect_7 : decode cX3_connect 7 = .ok (.invokevirtual 109, 3) := by decide +kernel
theorem dX3_connect_10 : decode cX3_connect 10 = .ok (.aload_n 0, 1) := by decide +kernel
theorem dX3_connect_11 : decode cX3_connect 11 = .ok (.getfield 21, 3) := by decide +kernel
theorem dX3_connect_14 : decode cX3_connect 14 = .ok (.aload_n 0, 1) := by decide +kernel
theorem dX3_connect_15 : decode cX3_connect 15 = .ok (.getfield 45, 3) := by decide +kernel
theorem dX3_connect_18 : decode cX3_connect 18 = .ok (.invokevirtual 112, 3) := by decide +kernel
theorem dX3_connect_21 : decode cX3_connect 21 = .ok (.aload_n 2, 1) := by decide +kernel
theorem dX3_connect_22 : decode cX3_connect 22 = .ok (.getfield 136, 3) := by decide +kernel
theorem dX3_connect_25 : decode cX3_connect 25 = .ok (.if_icmp .eq 13, 3) := by decide +kernel
theorem dX3_connect_28 : decode cX3_connect 28 = .ok (.new 66, 3) := by decide +kernel
theorem dX3_connect_31 : decode cX3_connect 31 = .ok (.dup, 1) := by decide +kernel
theorem dX3_connect_32 : decode cX3_connect 32 = .ok (.ldc 139, 2) := by decide +kernel
theorem dX3_connect_34 : decode cX3_connect 34 = .ok (.invokespecial 70, 3) := by decide +kernel
theorem dX3_connect_37 : decode cX3_connect 37 = .ok (.athrow, 1) := by decide +kernel
theorem dX3_connect_38 : decode cX3_connect 38 = .ok (.aload_n 2, 1) := by decide +kernel
theorem dX3_connect_39 : decode cX3_connect 39 = .ok (.aload_n 0, 1) := by decide +kernel
theorem dX3_connect_40 : decode cX3_connect 40 = .ok (.getfield 45, 3) := by decide +kernel
theorem dX3_connect_43 : decode cX3_connect 43 = .ok (.invokevirtual 141, 3) := by decide +kernel
theorem dX3_connect_46 : decode cX3_connect 46 = .ok (.ifCond .eq 13, 3) := by decide +kernel
theorem dX3_connect_49 : decode cX3_connect 49 = .ok (.new 66, 3) := by decide +kernel
theorem dX3_connect_52 : decode cX3_connect 52 = .ok (.dup, 1) := by decide +kernel
theorem dX3_connect_53 : decode cX3_connect 53 = .ok (.ldc 144, 2) := by decide +kernel
theorem dX3_connect_55 : decode cX3_connect 55 = .ok (.invokespecial 70, 3) := by decide +kernel
theorem dX3_connect_58 : decode cX3_connect 58 = .ok (.athrow, 1) := by decide +kernel
theorem dX3_connect_59 : decode cX3_connect 59 = .ok (.aload_n 2, 1) := by decide +kernel
theorem dX3_connect_60 : decode cX3_connect 60 = .ok (.invokevirtual 146, 3) := by decide +kernel
theorem dX3_connect_63 : decode cX3_connect 63 = .ok (.istore_n 3, 1) := by decide +kernel
theorem dX3_connect_64 : decode cX3_connect 64 = .ok (.iload_n 3, 1) := by decide +kernel
theorem dX3_connect_65 : decode cX3_connect 65 = .ok (.iconst (-1), 1) := by decide +kernel
theorem dX3_connect_66 : decode cX3_connect 66 = .ok (.if_icmp .ne 13, 3) := by decide +kernel
theorem dX3_connect_69 : decode cX3_connect 69 = .ok (.new 66, 3) := by decide +kernel
theorem dX3_connect_72 : decode cX3_connect 72 = .ok (.dup, 1) := by decide +kernel
theorem dX3_connect_73 : decode cX3_connect 73 = .ok (.ldc 149, 2) := by decide +kernel
theorem dX3_connect_75 : decode cX3_connect 75 = .ok (.invokespecial 70, 3) := by decide +kernel
theorem dX3_connect_78 : decode cX3_connect 78 = .ok (.athrow, 1) := by decide +kernel
theorem dX3_connect_79 : decode cX3_connect 79 = .ok (.aload_n 2, 1) := by decide +kernel
theorem dX3_connect_80 : decode cX3_connect 80 = .ok (.aload_n 0, 1) := by decide +kernel
theorem dX3_connect_81 : decode cX3_connect 81 = .ok (.getfield 45, 3) := by decide +kernel
theorem dX3_connect_84 : decode cX3_connect 84 = .ok (.iload_n 3, 1) := by decide +kernel
theorem dX3_connect_85 : decode cX3_connect 85 = .ok (.aload_n 0, 1) := by decide +kernel
theorem dX3_connect_86 : decode cX3_connect 86 = .ok (.getfield 25, 3) := by decide +kernel
theorem dX3_connect_89 : decode cX3_connect 89 = .ok (.invokevirtual 151, 3) := by decide +kernel
theorem dX3_connect_92 : decode cX3_connect 92 = .ok (.aload_n 2, 1) := by decide +kernel
theorem dX3_connect_93 : decode cX3_connect 93 = .ok (.aload_n 0, 1) := by decide +kernel
theorem dX3_connect_94 : decode cX3_connect 94 = .ok (.getfield 45, 3) := by decide +kernel
theorem dX3_connect_97 : decode cX3_connect 97 = .ok (.putfield 154, 3) := by decide +kernel
theorem dX3_connect_100 : decode cX3_connect 100 = .ok (.aload_n 2, 1) := by decide +kernel
theorem dX3_connect_101 : decode cX3_connect 101 = .ok (.iload_n 3, 1) := by decide +kernel
theorem dX3_connect_102 : decode cX3_connect 102 = .ok (.invokevirtual 157, 3) := by decide +kernel
theorem dX3_connect_105 : decode cX3_connect 105 = .ok (.ireturn, 1) := by decide +kernel
theorem dX3_disconnect_0 : decode cX3_disconnect 0 = .ok (.aload_n 0, 1) := by decide +kernel
theorem dX3_disconnect_1 : decode cX3_disconnect 1 = .ok (.iload_n 1, 1) := by decide +kernel
theorem dX3_disconnect_2 : decode cX3_disconnect 2 = .ok (.invokevirtual 132, 3) := by decide +kernel
theorem dX3_disconnect_5 : decode cX3_disconnect 5 = .ok (.astore_n 2, 1) := by decide +kernel
theorem dX3_disconnect_6 : decode cX3_disconnect 6 = .ok (.aload_n 0, 1) := by decide +kernel
theorem dX3_disconnect_7 : decode cX3_disconnect 7 = .ok (.aload_n 2, 1) := by decide +kernel
theorem dX3_disconnect_8 : decode cX3_disconnect 8 = .ok (.invokevirtual 160, 3) := by decide +kernel
theorem dX3_disconnect_11 : decode cX3_disconnect 11 = .ok (.aload_n 2, 1) := by decide +kernel
theorem dX3_disconnect_12 : decode cX3_disconnect 12 = .ok (.getfield 164, 3) := by decide +kernel
theorem dX3_disconnect_15 : decode cX3_disconnect 15 = .ok (.iconst 2, 1) := by decide +kernel
theorem dX3_disconnect_16 : decode cX3_disconnect 16 = .ok (.if_icmp .eq 13, 3) := by decide +kernel
theorem dX3_disconnect_19 : decode cX3_disconnect 19 = .ok (.new 66, 3) := by decide +kernel
theorem dX3_disconnect_22 : decode cX3_disconnect 22 = .ok (.dup, 1) := by decide +kernel
theorem dX3_disconnect_23 : decode cX3_disconnect 23 = .ok (.ldc 167, 2) := by decide +kernel
theorem dX3_disconnect_25 : decode cX3_disconnect 25 = .ok (.invokespecial 70, 3) := by decide +kernel
theorem dX3_disconnect_28 : decode cX3_disconnect 28 = .ok (.athrow, 1) := by decide +kernel
theorem dX3_disconnect_29 : decode cX3_disconnect 29 = .ok (.aload_n 2, 1) := by decide +kernel
theorem dX3_disconnect_30 : decode cX3_disconnect 30 = .ok (.getfield 169, 3) := by decide +kernel
theorem dX3_disconnect_33 : decode cX3_disconnect 33 = .ok (.aload_n 0, 1) := by decide +kernel
theorem dX3_disconnect_34 : decode cX3_disconnect 34 = .ok (.getfield 45, 3) := by decide +kernel
theorem dX3_disconnect_37 : decode cX3_disconnect 37 = .ok (.invokevirtual 112, 3) := by decide +kernel
theorem dX3_disconnect_40 : decode cX3_disconnect 40 = .ok (.istore_n 3, 1) := by decide +kernel
theorem dX3_disconnect_41 : decode cX3_disconnect 41 = .ok (.aload_n 2, 1) := by decide +kernel
theorem dX3_disconnect_42 : decode cX3_disconnect 42 = .ok (.aload_n 0, 1) := by decide +kernel
theorem dX3_disconnect_43 : decode cX3_disconnect 43 = .ok (.getfield 45, 3) := by decide +kernel
theorem dX3_disconnect_46 : decode cX3_disconnect 46 = .ok (.invokevirtual 172, 3) := by decide +kernel
theorem dX3_disconnect_49 : decode cX3_disconnect 49 = .ok (.aload_n 2, 1) := by decide +kernel
theorem dX3_disconnect_50 : decode cX3_disconnect 50 = .ok (.iload_n 3, 1) := by decide +kernel
theorem dX3_disconnect_51 : decode cX3_disconnect 51 = .ok (.invokevirtual 157, 3) := by decide +kernel
theorem dX3_disconnect_54 : decode cX3_disconnect 54 = .ok (.ireturn, 1) := by decide +kernel
theorem dX3_reconnect_0 : decode cX3_reconnect 0 = .ok (.aload_n 0, 1) := by decide +kernel
theorem dX3_reconnect_1 : decode cX3_reconnect 1 = .ok (.iload_n 1, 1) := by decide +kernel
theorem dX3_reconnect_2 : decode cX3_reconnect 2 = .ok (.invokevirtual 132, 3) := by decide +kernel
theorem dX3_reconnect_5 : decode cX3_reconnect 5 = .ok (.astore_n 3, 1) := by decide +kernel
theorem dX3_reconnect_6 : decode cX3_reconnect 6 = .ok (.aload_n 3, 1) := by decide +kernel
theorem dX3_reconnect_7 : decode cX3_reconnect 7 = .ok (.iload_n 2, 1) := by decide +kernel
theorem dX3_reconnect_8 : decode cX3_reconnect 8 = .ok (.invokevirtual 175, 3) := by decide +kernel
theorem dX3_reconnect_11 : decode cX3_reconnect 11 = .ok (.ifCond .ne 13, 3) := by decide +kernel
theorem dX3_reconnect_14 : decode cX3_reconnect 14 = .ok (.new 178, 3) := by decide +kernel
theorem dX3_reconnect_17 : decode cX3_reconnect 17 = .ok (.dup, 1) := by decide +kernel
theorem dX3_reconnect_18 : decode cX3_reconnect 18 = .ok (.ldc 180, 2) := by decide +kernel
theorem dX3_reconnect_20 : decode cX3_reconnect 20 = .ok (.invokespecial 182, 3) := by decide +kernel
theorem dX3_reconnect_23 : decode cX3_reconnect 23 = .ok (.athrow, 1) := by decide +kernel
theorem dX3_reconnect_24 : decode cX3_reconnect 24 = .ok (.aload_n 0, 1) := by decide +kernel
theorem dX3_reconnect_25 : decode cX3_reconnect 25 = .ok (.aload_n 3, 1) := by decide +kernel
theorem dX3_reconnect_26 : decode cX3_reconnect 26 = .ok (.invokevirtual 160, 3) := by decide +kernel
theorem dX3_reconnect_29 : decode cX3_reconnect 29 = .ok (.aload_n 3, 1) := by decide +kernel
theorem dX3_reconnect_30 : decode cX3_reconnect 30 = .ok (.getfield 164, 3) := by decide +kernel
theorem dX3_reconnect_33 : decode cX3_reconnect 33 = .ok (.ifCond .ne 13, 3) := by decide +kernel
theorem dX3_reconnect_36 : decode cX3_reconnect 36 = .ok (.new 66, 3) := by decide +kernel
theorem dX3_reconnect_39 : decode cX3_reconnect 39 = .ok (.dup, 1) := by decide +kernel
theorem dX3_reconnect_40 : decode cX3_reconnect 40 = .ok (.ldc 183, 2) := by decide +kernel
theorem dX3_reconnect_42 : decode cX3_reconnect 42 = .ok (.invokespecial 70, 3) := by decide +kernel
theorem dX3_reconnect_45 : decode cX3_reconnect 45 = .ok (.athrow, 1) := by decide +kernel
theorem dX3_reconnect_46 : decode cX3_reconnect 46 = .ok (.aload_n 3, 1) := by decide +kernel
theorem dX3_reconnect_47 : decode cX3_reconnect 47 = .ok (.aload_n 0, 1) := by decide +kernel
theorem dX3_reconnect_48 : decode cX3_reconnect 48 = .ok (.getfield 45, 3) := by decide +kernel
theorem dX3_reconnect_51 : decode cX3_reconnect 51 = .ok (.invokevirtual 185, 3) := by decide +kernel
theorem dX3_reconnect_54 : decode cX3_reconnect 54 = .ok (.aload_n 3, 1) := by decide +kernel
theorem dX3_reconnect_55 : decode cX3_reconnect 55 = .ok (.aload_n 0, 1) := by decide +kernel
theorem dX3_reconnect_56 : decode cX3_reconnect 56 = .ok (.getfield 45, 3) := by decide +kernel
theorem dX3_reconnect_59 : decode cX3_reconnect 59 = .ok (.iload_n 2, 1) := by decide +kernel
theorem dX3_reconnect_60 : decode cX3_reconnect 60 = .ok (.aload_n 0, 1) := by decide +kernel
theorem dX3_reconnect_61 : decode cX3_reconnect 61 = .ok (.getfield 25, 3) := by decide +kernel
theorem dX3_reconnect_64 : decode cX3_reconnect 64 = .ok (.invokevirtual 151, 3) := by decide +kernel
theorem dX3_reconnect_67 : decode cX3_reconnect 67 = .ok (.aload_n 3, 1) := by decide +kernel
theorem dX3_reconnect_68 : decode cX3_reconnect 68 = .ok (.aload_n 0, 1) := by decide +kernel
theorem dX3_reconnect_69 : decode cX3_reconnect 69 = .ok (.getfield 45, 3) := by decide +kernel
theorem dX3_reconnect_72 : decode cX3_reconnect 72 = .ok (.putfield 154, 3) := by decide +kernel
theorem dX3_reconnect_75 : decode cX3_reconnect 75 = .ok (.aload_n 3, 1) := by decide +kernel
theorem dX3_reconnect_76 : decode cX3_reconnect 76 = .ok (.iload_n 2, 1) := by decide +kernel
theorem dX3_reconnect_77 : decode cX3_reconnect 77 = .ok (.invokevirtual 157, 3) := by decide +kernel
theorem dX3_reconnect_80 : decode cX3_reconnect 80 = .ok (.ireturn, 1) := by decide +kernel
theorem dX3_find_0 : decode cX3_find 0 = .ok (.aload_n 0, 1) := by decide +kernel
theorem dX3_find_1 : decode cX3_find 1 = .ok (.iload_n 1, 1) := by decide +kernel
theorem dX3_find_2 : decode cX3_find 2 = .ok (.invokevirtual 105, 3) := by decide +kernel
theorem dX3_find_5 : decode cX3_find 5 = .ok (.ireturn, 1) := by decide +kernel
theorem dX3_findOf_0 : decode cX3_findOf 0 = .ok (.aload_n 0, 1) := by decide +kernel
theorem dX3_findOf_1 : decode cX3_findOf 1 = .ok (.iload_n 1, 1) := by decide +kernel
theorem dX3_findOf_2 : decode cX3_findOf 2 = .ok (.invokevirtual 48, 3) := by decide +kernel
theorem dX3_findOf_5 : decode cX3_findOf 5 = .ok (.iload_n 2, 1) := by decide +kernel
theorem dX3_findOf_6 : decode cX3_findOf 6 = .ok (.ifCond .eq 7, 3) := by decide +kernel
theorem dX3_findOf_9 : decode cX3_findOf 9 = .ok (.iconst 0, 1) := by decide +kernel
theorem dX3_findOf_10 : decode cX3_findOf 10 = .ok (.goto 13, 3) := by decide +kernel
theorem dX3_findOf_13 : decode cX3_findOf 13 = .ok (.aload_n 0, 1) := by decide +kernel
theorem dX3_findOf_14 : decode cX3_findOf 14 = .ok (.getfield 28, 3) := by decide +kernel
theorem dX3_findOf_17 : decode cX3_findOf 17 = .ok (.iload_n 1, 1) := by decide +kernel
theorem dX3_findOf_18 : decode cX3_findOf 18 = .ok (.invokevirtual 112, 3) := by decide +kernel
theorem dX3_findOf_21 : decode cX3_findOf 21 = .ok (.iconst 1, 1) := by decide +kernel
theorem dX3_findOf_22 : decode cX3_findOf 22 = .ok (.iadd, 1) := by decide +kernel
theorem dX3_findOf_23 : decode cX3_findOf 23 = .ok (.istore_n 3, 1) := by decide +kernel
theorem dX3_findOf_24 : decode cX3_findOf 24 = .ok (.iload_n 3, 1) := by decide +kernel
theorem dX3_findOf_25 : decode cX3_findOf 25 = .ok (.istore 4, 2) := by decide +kernel
theorem dX3_findOf_27 : decode cX3_findOf 27 = .ok (.iload 4, 2) := by decide +kernel
theorem dX3_findOf_29 : decode cX3_findOf 29 = .ok (.aload_n 0, 1) := by decide +kernel
theorem dX3_findOf_30 : decode cX3_findOf 30 = .ok (.getfield 38, 3) := by decide +kernel
theorem dX3_findOf_33 : decode cX3_findOf 33 = .ok (.if_icmp .ge 29, 3) := by decide +kernel
theorem dX3_findOf_36 : decode cX3_findOf 36 = .ok (.aload_n 0, 1) := by decide +kernel
theorem dX3_findOf_37 : decode cX3_findOf 37 = .ok (.getfield 21, 3) := by decide +kernel
theorem dX3_findOf_40 : decode cX3_findOf 40 = .ok (.iload 4, 2) := by decide +kernel
theorem dX3_findOf_42 : decode cX3_findOf 42 = .ok (.invokevirtual 112, 3) := by decide +kernel
theorem dX3_findOf_45 : decode cX3_findOf 45 = .ok (.iload_n 1, 1) := by decide +kernel
theorem dX3_findOf_46 : decode cX3_findOf 46 = .ok (.if_icmp .ne 10, 3) := by decide +kernel
theorem dX3_findOf_49 : decode cX3_findOf 49 = .ok (.aload_n 0, 1) := by decide +kernel
theorem dX3_findOf_50 : decode cX3_findOf 50 = .ok (.iload 4, 2) := by decide +kernel
theorem dX3_findOf_52 : decode cX3_findOf 52 = .ok (.invokevirtual 105, 3) := by decide +kernel
theorem dX3_findOf_55 : decode cX3_findOf 55 = .ok (.ireturn, 1) := by decide +kernel
theorem dX3_findOf_56 : decode cX3_findOf 56 = .ok (.iinc 4 1, 3) := by decide +kernel
theorem dX3_findOf_59 : decode cX3_findOf 59 = .ok (.goto (-32), 3) := by decide +kernel
theorem dX3_findOf_62 : decode cX3_findOf 62 = .ok (.iconst (-1), 1) := by decide +kernel
theorem dX3_findOf_63 : decode cX3_findOf 63 = .ok (.ireturn, 1) := by decide +kernel
theorem dX3_findEnd_0 : decode cX3_findEnd 0 = .ok (.aload_n 0, 1) := by decide +kernel
theorem dX3_findEnd_1 : decode cX3_findEnd 1 = .ok (.iload_n 1, 1) := by decide +kernel
theorem dX3_findEnd_2 : decode cX3_findEnd 2 = .ok (.invokevirtual 132, 3) := by decide +kernel
theorem dX3_findEnd_5 : decode cX3_findEnd 5 = .ok (.astore_n 3, 1) := by decide +kernel
theorem dX3_findEnd_6 : decode cX3_findEnd 6 = .ok (.aload_n 0, 1) := by decide +kernel
theorem dX3_findEnd_7 : decode cX3_findEnd 7 = .ok (.aload_n 3, 1) := by decide +kernel
theorem dX3_findEnd_8 : decode cX3_findEnd 8 = .ok (.aload_n 3, 1) := by decide +kernel
theorem dX3_findEnd_9 : decode cX3_findEnd 9 = .ok (.invokevirtual 146, 3) := by decide +kernel
theorem dX3_findEnd_12 : decode cX3_findEnd 12 = .ok (.iload_n 2, 1) := by decide +kernel
theorem dX3_findEnd_13 : decode cX3_findEnd 13 = .ok (.invokevirtual 188, 3) := by decide +kernel
theorem dX3_findEnd_16 : decode cX3_findEnd 16 = .ok (.invokevirtual 105, 3) := by decide +kernel
theorem dX3_findEnd_19 : decode cX3_findEnd 19 = .ok (.ireturn, 1) := by decide +kernel
theorem dX3_findNext_0 : decode cX3_findNext 0 = .ok (.aload_n 0, 1) := by decide +kernel
theorem dX3_findNext_1 : decode cX3_findNext 1 = .ok (.iload_n 1, 1) := by decide +kernel
theorem dX3_findNext_2 : decode cX3_findNext 2 = .ok (.invokevirtual 132, 3) := by decide +kernel
theorem dX3_findNext_5 : decode cX3_findNext 5 = .ok (.astore_n 3, 1) := by decide +kernel
theorem dX3_findNext_6 : decode cX3_findNext 6 = .ok (.aload_n 0, 1) := by decide +kernel
theorem dX3_findNext_7 : decode cX3_findNext 7 = .ok (.aload_n 3, 1) := by decide +kernel
theorem dX3_findNext_8 : decode cX3_findNext 8 = .ok (.aload_n 3, 1) := by decide +kernel
theorem dX3_findNext_9 : decode cX3_findNext 9 = .ok (.getfield 154, 3) := by decide +kernel
theorem dX3_findNext_12 : decode cX3_findNext 12 = .ok (.iload_n 2, 1) := by decide +kernel
theorem dX3_findNext_13 : decode cX3_findNext 13 = .ok (.invokevirtual 188, 3) := by decide +kernel
theorem dX3_findNext_16 : decode cX3_findNext 16 = .ok (.invokevirtual 105, 3) := by decide +kernel
theorem dX3_findNext_19 : decode cX3_findNext 19 = .ok (.ireturn, 1) := by decide +kernel
theorem dX3_findOwner_0 : decode cX3_findOwner 0 = .ok (.aload_n 0, 1) := by decide +kernel
theorem dX3_findOwner_1 : decode cX3_findOwner 1 = .ok (.aload_n 0, 1) := by decide +kernel
theorem dX3_findOwner_2 : decode cX3_findOwner 2 = .ok (.iload_n 1, 1) := by decide +kernel
theorem dX3_findOwner_3 : decode cX3_findOwner 3 = .ok (.invokevirtual 132, 3) := by decide +kernel
theorem dX3_findOwner_6 : decode cX3_findOwner 6 = .ok (.invokevirtual 146, 3) := by decide +kernel
theorem dX3_findOwner_9 : decode cX3_findOwner 9 = .ok (.invokevirtual 105, 3) := by decide +kernel
theorem dX3_findOwner_12 : decode cX3_findOwner 12 = .ok (.ireturn, 1) := by decide +kernel
theorem dX3_findValue_0 : decode cX3_findValue 0 = .ok (.aload_n 0, 1) := by decide +kernel
theorem dX3_findValue_1 : decode cX3_findValue 1 = .ok (.iload_n 1, 1) := by decide +kernel
theorem dX3_findValue_2 : decode cX3_findValue 2 = .ok (.invokevirtual 132, 3) := by decide +kernel
theorem dX3_findValue_5 : decode cX3_findValue 5 = .ok (.astore_n 3, 1) := by decide +kernel
theorem dX3_findValue_6 : decode cX3_findValue 6 = .ok (.aload_n 0, 1) := by decide +kernel
theorem dX3_findValue_7 : decode cX3_findValue 7 = .ok (.aload_n 3, 1) := by decide +kernel
theorem dX3_findValue_8 : decode cX3_findValue 8 = .ok (.aload_n 3, 1) := by decide +kernel
theorem dX3_findValue_9 : decode cX3_findValue 9 = .ok (.invokevirtual 146, 3) := by decide +kernel
theorem dX3_findValue_12 : decode cX3_findValue 12 = .ok (.iload_n 2, 1) := by decide +kernel
theorem dX3_findValue_13 : decode cX3_findValue 13 = .ok (.aload_n 0, 1) := by decide +kernel
theorem dX3_findValue_14 : decode cX3_findValue 14 = .ok (.getfield 25, 3) := by decide +kernel
theorem dX3_findValue_17 : decode cX3_findValue 17 = .ok (.invokevirtual 192, 3) := by decide +kernel
theorem dX3_findValue_20 : decode cX3_findValue 20 = .ok (.invokevirtual 105, 3) := by decide +kernel
theorem dX3_findValue_23 : decode cX3_findValue 23 = .ok (.ireturn, 1) := by decide +kernel
theorem dX3_setTypes_0 : decode cX3_setTypes 0 = .ok (.aload_n 0, 1) := by decide +kernel
theorem dX3_setTypes_1 : decode cX3_setTypes 1 = .ok (.getfield 10, 3) := by decide +kernel
theorem dX3_setTypes_4 : decode cX3_setTypes 4 = .ok (.invokevirtual 62, 3) := by decide +kernel
theorem dX3_setTypes_7 : decode cX3_setTypes 7 = .ok (.ireturn, 1) := by decide +kernel
theorem dX3_records_0 : decode cX3_records 0 = .ok (.aload_n 0, 1) := by decide +kernel
theorem dX3_records_1 : decode cX3_records 1 = .ok (.getfield 42, 3) := by decide +kernel
theorem dX3_records_4 : decode cX3_records 4 = .ok (.ireturn, 1) := by decide +kernel
theorem dX3_current_0 : decode cX3_current 0 = .ok (.aload_n 0, 1) := by decide +kernel
theorem dX3_current_1 : decode cX3_current 1 = .ok (.getfield 45, 3) := by decide +kernel
theorem dX3_current_4 : decode cX3_current 4 = .ok (.ireturn, 1) := by decide +kernel
theorem dX3_currentOf_0 : decode cX3_currentOf 0 = .ok (.aload_n 0, 1) := by decide +kernel
theorem dX3_currentOf_1 : decode cX3_currentOf 1 = .ok (.iload_n 1, 1) := by decide +kernel
theorem dX3_currentOf_2 : decode cX3_currentOf 2 = .ok (.invokevirtual 48, 3) := by decide +kernel
theorem dX3_currentOf_5 : decode cX3_currentOf 5 = .ok (.aload_n 0, 1) := by decide +kernel
theorem dX3_currentOf_6 : decode cX3_currentOf 6 = .ok (.getfield 28, 3) := by decide +kernel
theorem dX3_currentOf_9 : decode cX3_currentOf 9 = .ok (.iload_n 1, 1) := by decide +kernel
theorem dX3_currentOf_10 : decode cX3_currentOf 10 = .ok (.invokevirtual 112, 3) := by decide +kernel
theorem dX3_currentOf_13 : decode cX3_currentOf 13 = .ok (.ireturn, 1) := by decide +kernel
theorem dX3_currentIn_0 : decode cX3_currentIn 0 = .ok (.aload_n 0, 1) := by decide +kernel
theorem dX3_currentIn_1 : decode cX3_currentIn 1 = .ok (.iload_n 1, 1) := by decide +kernel
theorem dX3_currentIn_2 : decode cX3_currentIn 2 = .ok (.invokevirtual 132, 3) := by decide +kernel
theorem dX3_currentIn_5 : decode cX3_currentIn 5 = .ok (.getfield 154, 3) := by decide +kernel
theorem dX3_currentIn_8 : decode cX3_currentIn 8 = .ok (.ireturn, 1) := by decide +kernel
theorem dX3_typeOf_0 : decode cX3_typeOf 0 = .ok (.aload_n 0, 1) := by decide +kernel
theorem dX3_typeOf_1 : decode cX3_typeOf 1 = .ok (.iload_n 1, 1) := by decide +kernel
theorem dX3_typeOf_2 : decode cX3_typeOf 2 = .ok (.invokevirtual 196, 3) := by decide +kernel
theorem dX3_typeOf_5 : decode cX3_typeOf 5 = .ok (.aload_n 0, 1) := by decide +kernel
theorem dX3_typeOf_6 : decode cX3_typeOf 6 = .ok (.getfield 21, 3) := by decide +kernel
theorem dX3_typeOf_9 : decode cX3_typeOf 9 = .ok (.iload_n 1, 1) := by decide +kernel
theorem dX3_typeOf_10 : decode cX3_typeOf 10 = .ok (.invokevirtual 112, 3) := by decide +kernel
theorem dX3_typeOf_13 : decode cX3_typeOf 13 = .ok (.ireturn, 1) := by decide +kernel
theorem dX3_valueOf_0 : decode cX3_valueOf 0 = .ok (.aload_n 0, 1) := by decide +kernel
theorem dX3_valueOf_1 : decode cX3_valueOf 1 = .ok (.iload_n 1, 1) := by decide +kernel
theorem dX3_valueOf_2 : decode cX3_valueOf 2 = .ok (.invokevirtual 196, 3) := by decide +kernel
theorem dX3_valueOf_5 : decode cX3_valueOf 5 = .ok (.aload_n 0, 1) := by decide +kernel
theorem dX3_valueOf_6 : decode cX3_valueOf 6 = .ok (.getfield 25, 3) := by decide +kernel
theorem dX3_valueOf_9 : decode cX3_valueOf 9 = .ok (.iload_n 1, 1) := by decide +kernel
theorem dX3_valueOf_10 : decode cX3_valueOf 10 = .ok (.invokevirtual 112, 3) := by decide +kernel
theorem dX3_valueOf_13 : decode cX3_valueOf 13 = .ok (.ireturn, 1) := by decide +kernel
theorem dX3_ownerOf_0 : decode cX3_ownerOf 0 = .ok (.aload_n 0, 1) := by decide +kernel
theorem dX3_ownerOf_1 : decode cX3_ownerOf 1 = .ok (.iload_n 1, 1) := by decide +kernel
theorem dX3_ownerOf_2 : decode cX3_ownerOf 2 = .ok (.invokevirtual 196, 3) := by decide +kernel
theorem dX3_ownerOf_5 : decode cX3_ownerOf 5 = .ok (.aload_n 0, 1) := by decide +kernel
theorem dX3_ownerOf_6 : decode cX3_ownerOf 6 = .ok (.iload_n 2, 1) := by decide +kernel
theorem dX3_ownerOf_7 : decode cX3_ownerOf 7 = .ok (.invokevirtual 132, 3) := by decide +kernel
theorem dX3_ownerOf_10 : decode cX3_ownerOf 10 = .ok (.astore_n 3, 1) := by decide +kernel
theorem dX3_ownerOf_11 : decode cX3_ownerOf 11 = .ok (.aload_n 3, 1) := by decide +kernel
theorem dX3_ownerOf_12 : decode cX3_ownerOf 12 = .ok (.iload_n 1, 1) := by decide +kernel
theorem dX3_ownerOf_13 : decode cX3_ownerOf 13 = .ok (.invokevirtual 141, 3) := by decide +kernel
theorem dX3_ownerOf_16 : decode cX3_ownerOf 16 = .ok (.ifCond .eq 14, 3) := by decide +kernel
theorem dX3_ownerOf_19 : decode cX3_ownerOf 19 = .ok (.aload_n 3, 1) := by decide +kernel
theorem dX3_ownerOf_20 : decode cX3_ownerOf 20 = .ok (.getfield 169, 3) := by decide +kernel
theorem dX3_ownerOf_23 : decode cX3_ownerOf 23 = .ok (.iload_n 1, 1) := by decide +kernel
theorem dX3_ownerOf_24 : decode cX3_ownerOf 24 = .ok (.invokevirtual 112, 3) := by decide +kernel
theorem dX3_ownerOf_27 : decode cX3_ownerOf 27 = .ok (.goto 4, 3) := by decide +kernel
theorem dX3_ownerOf_30 : decode cX3_ownerOf 30 = .ok (.iconst (-1), 1) := by decide +kernel
theorem dX3_ownerOf_31 : decode cX3_ownerOf 31 = .ok (.ireturn, 1) := by decide +kernel
theorem dX3_members_0 : decode cX3_members 0 = .ok (.aload_n 0, 1) := by decide +kernel
theorem dX3_members_1 : decode cX3_members 1 = .ok (.iload_n 1, 1) := by decide +kernel
theorem dX3_members_2 : decode cX3_members 2 = .ok (.invokevirtual 196, 3) := by decide +kernel
theorem dX3_members_5 : decode cX3_members 5 = .ok (.aload_n 0, 1) := by decide +kernel
theorem dX3_members_6 : decode cX3_members 6 = .ok (.iload_n 2, 1) := by decide +kernel
theorem dX3_members_7 : decode cX3_members 7 = .ok (.invokevirtual 132, 3) := by decide +kernel
theorem dX3_members_10 : decode cX3_members 10 = .ok (.astore_n 3, 1) := by decide +kernel
theorem dX3_members_11 : decode cX3_members 11 = .ok (.aload_n 3, 1) := by decide +kernel
theorem dX3_members_12 : decode cX3_members 12 = .ok (.iload_n 1, 1) := by decide +kernel
theorem dX3_members_13 : decode cX3_members 13 = .ok (.invokevirtual 175, 3) := by decide +kernel
theorem dX3_members_16 : decode cX3_members 16 = .ok (.ifCond .eq 11, 3) := by decide +kernel
theorem dX3_members_19 : decode cX3_members 19 = .ok (.aload_n 3, 1) := by decide +kernel
theorem dX3_members_20 : decode cX3_members 20 = .ok (.iload_n 1, 1) := by decide +kernel
theorem dX3_members_21 : decode cX3_members 21 = .ok (.invokevirtual 157, 3) := by decide +kernel
theorem dX3_members_24 : decode cX3_members 24 = .ok (.goto 4, 3) := by decide +kernel
theorem dX3_members_27 : decode cX3_members 27 = .ok (.iconst (-1), 1) := by decide +kernel
theorem dX3_members_28 : decode cX3_members 28 = .ok (.ireturn, 1) := by decide +kernel
theorem dX3_membersByTable_0 : decode cX3_membersByTable 0 = .ok (.aload_n 0, 1) := by decide +kernel
theorem dX3_membersByTable_1 : decode cX3_membersByTable 1 = .ok (.iload_n 1, 1) := by decide +kernel
theorem dX3_membersByTable_2 : decode cX3_membersByTable 2 = .ok (.invokevirtual 196, 3) := by decide +kernel
theorem dX3_membersByTable_5 : decode cX3_membersByTable 5 = .ok (.aload_n 0, 1) := by decide +kernel
theorem dX3_membersByTable_6 : decode cX3_membersByTable 6 = .ok (.iload_n 2, 1) := by decide +kernel
theorem dX3_membersByTable_7 : decode cX3_membersByTable 7 = .ok (.invokevirtual 132, 3) := by decide +kernel
theorem dX3_membersByTable_10 : decode cX3_membersByTable 10 = .ok (.astore_n 3, 1) := by decide +kernel
theorem dX3_membersByTable_11 : decode cX3_membersByTable 11 = .ok (.aload_n 3, 1) := by decide +kernel
theorem dX3_membersByTable_12 : decode cX3_membersByTable 12 = .ok (.iload_n 1, 1) := by decide +kernel
theorem dX3_membersByTable_13 : decode cX3_membersByTable 13 = .ok (.invokevirtual 175, 3) := by decide +kernel
theorem dX3_membersByTable_16 : decode cX3_membersByTable 16 = .ok (.ifCond .eq 11, 3) := by decide +kernel
theorem dX3_membersByTable_19 : decode cX3_membersByTable 19 = .ok (.aload_n 3, 1) := by decide +kernel
theorem dX3_membersByTable_20 : decode cX3_membersByTable 20 = .ok (.iload_n 1, 1) := by decide +kernel
theorem dX3_membersByTable_21 : decode cX3_membersByTable 21 = .ok (.invokevirtual 199, 3) := by decide +kernel
theorem dX3_membersByTable_24 : decode cX3_membersByTable 24 = .ok (.goto 4, 3) := by decide +kernel
theorem dX3_membersByTable_27 : decode cX3_membersByTable 27 = .ok (.iconst (-1), 1) := by decide +kernel
theorem dX3_membersByTable_28 : decode cX3_membersByTable 28 = .ok (.ireturn, 1) := by decide +kernel
theorem dX3_memberAt_0 : decode cX3_memberAt 0 = .ok (.aload_n 0, 1) := by decide +kernel
theorem dX3_memberAt_1 : decode cX3_memberAt 1 = .ok (.iload_n 1, 1) := by decide +kernel
theorem dX3_memberAt_2 : decode cX3_memberAt 2 = .ok (.invokevirtual 196, 3) := by decide +kernel
theorem dX3_memberAt_5 : decode cX3_memberAt 5 = .ok (.aload_n 0, 1) := by decide +kernel
theorem dX3_memberAt_6 : decode cX3_memberAt 6 = .ok (.iload_n 2, 1) := by decide +kernel
theorem dX3_memberAt_7 : decode cX3_memberAt 7 = .ok (.invokevirtual 132, 3) := by decide +kernel
theorem dX3_memberAt_10 : decode cX3_memberAt 10 = .ok (.astore 4, 2) := by decide +kernel
theorem dX3_memberAt_12 : decode cX3_memberAt 12 = .ok (.aload 4, 2) := by decide +kernel
theorem dX3_memberAt_14 : decode cX3_memberAt 14 = .ok (.iload_n 1, 1) := by decide +kernel
theorem dX3_memberAt_15 : decode cX3_memberAt 15 = .ok (.invokevirtual 175, 3) := by decide +kernel
theorem dX3_memberAt_18 : decode cX3_memberAt 18 = .ok (.ifCond .ne 13, 3) := by decide +kernel
theorem dX3_memberAt_21 : decode cX3_memberAt 21 = .ok (.new 178, 3) := by decide +kernel
theorem dX3_memberAt_24 : decode cX3_memberAt 24 = .ok (.dup, 1) := by decide +kernel
theorem dX3_memberAt_25 : decode cX3_memberAt 25 = .ok (.ldc 202, 2) := by decide +kernel
theorem dX3_memberAt_27 : decode cX3_memberAt 27 = .ok (.invokespecial 182, 3) := by decide +kernel
theorem dX3_memberAt_30 : decode cX3_memberAt 30 = .ok (.athrow, 1) := by decide +kernel
theorem dX3_memberAt_31 : decode cX3_memberAt 31 = .ok (.iload_n 3, 1) := by decide +kernel
theorem dX3_memberAt_32 : decode cX3_memberAt 32 = .ok (.ifCond .lt 13, 3) := by decide +kernel
theorem dX3_memberAt_35 : decode cX3_memberAt 35 = .ok (.iload_n 3, 1) := by decide +kernel
theorem dX3_memberAt_36 : decode cX3_memberAt 36 = .ok (.aload 4, 2) := by decide +kernel
theorem dX3_memberAt_38 : decode cX3_memberAt 38 = .ok (.iload_n 1, 1) := by decide +kernel
theorem dX3_memberAt_39 : decode cX3_memberAt 39 = .ok (.invokevirtual 157, 3) := by decide +kernel
theorem dX3_memberAt_42 : decode cX3_memberAt 42 = .ok (.if_icmp .lt 13, 3) := by decide +kernel
theorem dX3_memberAt_45 : decode cX3_memberAt 45 = .ok (.new 178, 3) := by decide +kernel
theorem dX3_memberAt_48 : decode cX3_memberAt 48 = .ok (.dup, 1) := by decide +kernel
theorem dX3_memberAt_49 : decode cX3_memberAt 49 = .ok (.ldc 204, 2) := by decide +kernel
theorem dX3_memberAt_51 : decode cX3_memberAt 51 = .ok (.invokespecial 182, 3) := by decide +kernel
theorem dX3_memberAt_54 : decode cX3_memberAt 54 = .ok (.athrow, 1) := by decide +kernel
theorem dX3_memberAt_55 : decode cX3_memberAt 55 = .ok (.aload 4, 2) := by decide +kernel
theorem dX3_memberAt_57 : decode cX3_memberAt 57 = .ok (.iload_n 1, 1) := by decide +kernel
theorem dX3_memberAt_58 : decode cX3_memberAt 58 = .ok (.iload_n 3, 1) := by decide +kernel
theorem dX3_memberAt_59 : decode cX3_memberAt 59 = .ok (.invokevirtual 206, 3) := by decide +kernel
theorem dX3_memberAt_62 : decode cX3_memberAt 62 = .ok (.ireturn, 1) := by decide +kernel
theorem dX3_wouldErase_0 : decode cX3_wouldErase 0 = .ok (.aload_n 0, 1) := by decide +kernel
theorem dX3_wouldErase_1 : decode cX3_wouldErase 1 = .ok (.iload_n 1, 1) := by decide +kernel
theorem dX3_wouldErase_2 : decode cX3_wouldErase 2 = .ok (.invokevirtual 196, 3) := by decide +kernel
theorem dX3_wouldErase_5 : decode cX3_wouldErase 5 = .ok (.aload_n 0, 1) := by decide +kernel
theorem dX3_wouldErase_6 : decode cX3_wouldErase 6 = .ok (.iload_n 2, 1) := by decide +kernel
theorem dX3_wouldErase_7 : decode cX3_wouldErase 7 = .ok (.invokevirtual 119, 3) := by decide +kernel
theorem dX3_wouldErase_10 : decode cX3_wouldErase 10 = .ok (.aload_n 0, 1) := by decide +kernel
theorem dX3_wouldErase_11 : decode cX3_wouldErase 11 = .ok (.iload_n 1, 1) := by decide +kernel
theorem dX3_wouldErase_12 : decode cX3_wouldErase 12 = .ok (.iload_n 2, 1) := by decide +kernel
theorem dX3_wouldErase_13 : decode cX3_wouldErase 13 = .ok (.invokevirtual 122, 3) := by decide +kernel
theorem dX3_wouldErase_16 : decode cX3_wouldErase 16 = .ok (.ireturn, 1) := by decide +kernel
theorem dX3_requireType_0 : decode cX3_requireType 0 = .ok (.iload_n 1, 1) := by decide +kernel
theorem dX3_requireType_1 : decode cX3_requireType 1 = .ok (.ifCond .lt 8, 3) := by decide +kernel
theorem dX3_requireType_4 : decode cX3_requireType 4 = .ok (.iload_n 1, 1) := by decide +kernel
theorem dX3_requireType_5 : decode cX3_requireType 5 = .ok (.iconst 4, 1) := by decide +kernel
theorem dX3_requireType_6 : decode cX3_requireType 6 = .ok (.if_icmp .lt 13, 3) := by decide +kernel
theorem dX3_requireType_9 : decode cX3_requireType 9 = .ok (.new 51, 3) := by decide +kernel
theorem dX3_requireType_12 : decode cX3_requireType 12 = .ok (.dup, 1) := by decide +kernel
theorem dX3_requireType_13 : decode cX3_requireType 13 = .ok (.ldc 209, 2) := by decide +kernel
theorem dX3_requireType_15 : decode cX3_requireType 15 = .ok (.invokespecial 55, 3) := by decide +kernel
theorem dX3_requireType_18 : decode cX3_requireType 18 = .ok (.athrow, 1) := by decide +kernel
theorem dX3_requireType_19 : decode cX3_requireType 19 = .ok (.return_, 1) := by decide +kernel
theorem dX3_requireValue_0 : decode cX3_requireValue 0 = .ok (.iload_n 1, 1) := by decide +kernel
theorem dX3_requireValue_1 : decode cX3_requireValue 1 = .ok (.sipush (-1000), 3) := by decide +kernel
theorem dX3_requireValue_4 : decode cX3_requireValue 4 = .ok (.if_icmp .lt 10, 3) := by decide +kernel
theorem dX3_requireValue_7 : decode cX3_requireValue 7 = .ok (.iload_n 1, 1) := by decide +kernel
theorem dX3_requireValue_8 : decode cX3_requireValue 8 = .ok (.sipush 1000, 3) := by decide +kernel
theorem dX3_requireValue_11 : decode cX3_requireValue 11 = .ok (.if_icmp .le 13, 3) := by decide +kernel
theorem dX3_requireValue_14 : decode cX3_requireValue 14 = .ok (.new 51, 3) := by decide +kernel
theorem dX3_requireValue_17 : decode cX3_requireValue 17 = .ok (.dup, 1) := by decide +kernel
theorem dX3_requireValue_18 : decode cX3_requireValue 18 = .ok (.ldc 211, 2) := by decide +kernel
theorem dX3_requireValue_20 : decode cX3_requireValue 20 = .ok (.invokespecial 55, 3) := by decide +kernel
theorem dX3_requireValue_23 : decode cX3_requireValue 23 = .ok (.athrow, 1) := by decide +kernel
theorem dX3_requireValue_24 : decode cX3_requireValue 24 = .ok (.return_, 1) := by decide +kernel
theorem dX3_requireWay_0 : decode cX3_requireWay 0 = .ok (.iload_n 1, 1) := by decide +kernel
theorem dX3_requireWay_1 : decode cX3_requireWay 1 = .ok (.ifCond .lt 8, 3) := by decide +kernel
theorem dX3_requireWay_4 : decode cX3_requireWay 4 = .ok (.iload_n 1, 1) := by decide +kernel
theorem dX3_requireWay_5 : decode cX3_requireWay 5 = .ok (.iconst 2, 1) := by decide +kernel
theorem dX3_requireWay_6 : decode cX3_requireWay 6 = .ok (.if_icmp .le 13, 3) := by decide +kernel
theorem dX3_requireWay_9 : decode cX3_requireWay 9 = .ok (.new 51, 3) := by decide +kernel
theorem dX3_requireWay_12 : decode cX3_requireWay 12 = .ok (.dup, 1) := by decide +kernel
theorem dX3_requireWay_13 : decode cX3_requireWay 13 = .ok (.ldc 213, 2) := by decide +kernel
theorem dX3_requireWay_15 : decode cX3_requireWay 15 = .ok (.invokespecial 55, 3) := by decide +kernel
theorem dX3_requireWay_18 : decode cX3_requireWay 18 = .ok (.athrow, 1) := by decide +kernel
theorem dX3_requireWay_19 : decode cX3_requireWay 19 = .ok (.return_, 1) := by decide +kernel
theorem dX3_requireSet_0 : decode cX3_requireSet 0 = .ok (.iload_n 1, 1) := by decide +kernel
theorem dX3_requireSet_1 : decode cX3_requireSet 1 = .ok (.ifCond .lt 14, 3) := by decide +kernel
theorem dX3_requireSet_4 : decode cX3_requireSet 4 = .ok (.iload_n 1, 1) := by decide +kernel
theorem dX3_requireSet_5 : decode cX3_requireSet 5 = .ok (.aload_n 0, 1) := by decide +kernel
theorem dX3_requireSet_6 : decode cX3_requireSet 6 = .ok (.getfield 10, 3) := by decide +kernel
theorem dX3_requireSet_9 : decode cX3_requireSet 9 = .ok (.invokevirtual 62, 3) := by decide +kernel
theorem dX3_requireSet_12 : decode cX3_requireSet 12 = .ok (.if_icmp .lt 13, 3) := by decide +kernel
theorem dX3_requireSet_15 : decode cX3_requireSet 15 = .ok (.new 178, 3) := by decide +kernel
theorem dX3_requireSet_18 : decode cX3_requireSet 18 = .ok (.dup, 1) := by decide +kernel
theorem dX3_requireSet_19 : decode cX3_requireSet 19 = .ok (.ldc 215, 2) := by decide +kernel
theorem dX3_requireSet_21 : decode cX3_requireSet 21 = .ok (.invokespecial 182, 3) := by decide +kernel
theorem dX3_requireSet_24 : decode cX3_requireSet 24 = .ok (.athrow, 1) := by decide +kernel
theorem dX3_requireSet_25 : decode cX3_requireSet 25 = .ok (.aload_n 0, 1) := by decide +kernel
theorem dX3_requireSet_26 : decode cX3_requireSet 26 = .ok (.getfield 10, 3) := by decide +kernel
theorem dX3_requireSet_29 : decode cX3_requireSet 29 = .ok (.iload_n 1, 1) := by decide +kernel
theorem dX3_requireSet_30 : decode cX3_requireSet 30 = .ok (.invokevirtual 97, 3) := by decide +kernel
theorem dX3_requireSet_33 : decode cX3_requireSet 33 = .ok (.checkcast 73, 3) := by decide +kernel
theorem dX3_requireSet_36 : decode cX3_requireSet 36 = .ok (.areturn, 1) := by decide +kernel
theorem dX3_requireRecord_0 : decode cX3_requireRecord 0 = .ok (.aload_n 0, 1) := by decide +kernel
theorem dX3_requireRecord_1 : decode cX3_requireRecord 1 = .ok (.getfield 21, 3) := by decide +kernel
theorem dX3_requireRecord_4 : decode cX3_requireRecord 4 = .ok (.iload_n 1, 1) := by decide +kernel
theorem dX3_requireRecord_5 : decode cX3_requireRecord 5 = .ok (.invokevirtual 112, 3) := by decide +kernel
theorem dX3_requireRecord_8 : decode cX3_requireRecord 8 = .ok (.iconst (-1), 1) := by decide +kernel
theorem dX3_requireRecord_9 : decode cX3_requireRecord 9 = .ok (.if_icmp .ne 13, 3) := by decide +kernel
theorem dX3_requireRecord_12 : decode cX3_requireRecord 12 = .ok (.new 178, 3) := by decide +kernel
theorem dX3_requireRecord_15 : decode cX3_requireRecord 15 = .ok (.dup, 1) := by decide +kernel
theorem dX3_requireRecord_16 : decode cX3_requireRecord 16 = .ok (.ldc 217, 2) := by decide +kernel
theorem dX3_requireRecord_18 : decode cX3_requireRecord 18 = .ok (.invokespecial 182, 3) := by decide +kernel
theorem dX3_requireRecord_21 : decode cX3_requireRecord 21 = .ok (.athrow, 1) := by decide +kernel
theorem dX3_requireRecord_22 : decode cX3_requireRecord 22 = .ok (.return_, 1) := by decide +kernel
theorem dX3_requireRunUnit_0 : decode cX3_requireRunUnit 0 = .ok (.aload_n 0, 1) := by decide +kernel
theorem dX3_requireRunUnit_1 : decode cX3_requireRunUnit 1 = .ok (.getfield 45, 3) := by decide +kernel
theorem dX3_requireRunUnit_4 : decode cX3_requireRunUnit 4 = .ok (.iconst (-1), 1) := by decide +kernel
theorem dX3_requireRunUnit_5 : decode cX3_requireRunUnit 5 = .ok (.if_icmp .ne 13, 3) := by decide +kernel
theorem dX3_requireRunUnit_8 : decode cX3_requireRunUnit 8 = .ok (.new 66, 3) := by decide +kernel
theorem dX3_requireRunUnit_11 : decode cX3_requireRunUnit 11 = .ok (.dup, 1) := by decide +kernel
theorem dX3_requireRunUnit_12 : decode cX3_requireRunUnit 12 = .ok (.ldc 219, 2) := by decide +kernel
theorem dX3_requireRunUnit_14 : decode cX3_requireRunUnit 14 = .ok (.invokespecial 70, 3) := by decide +kernel
theorem dX3_requireRunUnit_17 : decode cX3_requireRunUnit 17 = .ok (.athrow, 1) := by decide +kernel
theorem dX3_requireRunUnit_18 : decode cX3_requireRunUnit 18 = .ok (.return_, 1) := by decide +kernel
theorem dX3_requireMembership_0 : decode cX3_requireMembership 0 = .ok (.aload_n 0, 1) := by decide +kernel
theorem dX3_requireMembership_1 : decode cX3_requireMembership 1 = .ok (.invokevirtual 109, 3) := by decide +kernel
theorem dX3_requireMembership_4 : decode cX3_requireMembership 4 = .ok (.aload_n 1, 1) := by decide +kernel
theorem dX3_requireMembership_5 : decode cX3_requireMembership 5 = .ok (.aload_n 0, 1) := by decide +kernel
theorem dX3_requireMembership_6 : decode cX3_requireMembership 6 = .ok (.getfield 45, 3) := by decide +kernel
theorem dX3_requireMembership_9 : decode cX3_requireMembership 9 = .ok (.invokevirtual 141, 3) := by decide +kernel
theorem dX3_requireMembership_12 : decode cX3_requireMembership 12 = .ok (.ifCond .ne 13, 3) := by decide +kernel
theorem dX3_requireMembership_15 : decode cX3_requireMembership 15 = .ok (.new 66, 3) := by decide +kernel
theorem dX3_requireMembership_18 : decode cX3_requireMembership 18 = .ok (.dup, 1) := by decide +kernel
theorem dX3_requireMembership_19 : decode cX3_requireMembership 19 = .ok (.ldc 221, 2) := by decide +kernel
theorem dX3_requireMembership_21 : decode cX3_requireMembership 21 = .ok (.invokespecial 70, 3) := by decide +kernel
theorem dX3_requireMembership_24 : decode cX3_requireMembership 24 = .ok (.athrow, 1) := by decide +kernel
theorem dX3_requireMembership_25 : decode cX3_requireMembership 25 = .ok (.return_, 1) := by decide +kernel
theorem dX3_lacksSetFor_0 : decode cX3_lacksSetFor 0 = .ok (.iconst 0, 1) := by decide +kernel
theorem dX3_lacksSetFor_1 : decode cX3_lacksSetFor 1 = .ok (.istore_n 2, 1) := by decide +kernel
theorem dX3_lacksSetFor_2 : decode cX3_lacksSetFor 2 = .ok (.iload_n 2, 1) := by decide +kernel
theorem dX3_lacksSetFor_3 : decode cX3_lacksSetFor 3 = .ok (.aload_n 0, 1) := by decide +kernel
theorem dX3_lacksSetFor_4 : decode cX3_lacksSetFor 4 = .ok (.getfield 10, 3) := by decide +kernel
theorem dX3_lacksSetFor_7 : decode cX3_lacksSetFor 7 = .ok (.invokevirtual 62, 3) := by decide +kernel
theorem dX3_lacksSetFor_10 : decode cX3_lacksSetFor 10 = .ok (.if_icmp .ge 39, 3) := by decide +kernel
theorem dX3_lacksSetFor_13 : decode cX3_lacksSetFor 13 = .ok (.aload_n 0, 1) := by decide +kernel
theorem dX3_lacksSetFor_14 : decode cX3_lacksSetFor 14 = .ok (.getfield 10, 3) := by decide +kernel
theorem dX3_lacksSetFor_17 : decode cX3_lacksSetFor 17 = .ok (.iload_n 2, 1) := by decide +kernel
theorem dX3_lacksSetFor_18 : decode cX3_lacksSetFor 18 = .ok (.invokevirtual 97, 3) := by decide +kernel
theorem dX3_lacksSetFor_21 : decode cX3_lacksSetFor 21 = .ok (.checkcast 73, 3) := by decide +kernel
theorem dX3_lacksSetFor_24 : decode cX3_lacksSetFor 24 = .ok (.astore_n 3, 1) := by decide +kernel
theorem dX3_lacksSetFor_25 : decode cX3_lacksSetFor 25 = .ok (.aload_n 3, 1) := by decide +kernel
theorem dX3_lacksSetFor_26 : decode cX3_lacksSetFor 26 = .ok (.iload_n 1, 1) := by decide +kernel
theorem dX3_lacksSetFor_27 : decode cX3_lacksSetFor 27 = .ok (.invokevirtual 223, 3) := by decide +kernel
theorem dX3_lacksSetFor_30 : decode cX3_lacksSetFor 30 = .ok (.ifCond .eq 13, 3) := by decide +kernel
theorem dX3_lacksSetFor_33 : decode cX3_lacksSetFor 33 = .ok (.aload_n 3, 1) := by decide +kernel
theorem dX3_lacksSetFor_34 : decode cX3_lacksSetFor 34 = .ok (.getfield 154, 3) := by decide +kernel
theorem dX3_lacksSetFor_37 : decode cX3_lacksSetFor 37 = .ok (.iconst (-1), 1) := by decide +kernel
theorem dX3_lacksSetFor_38 : decode cX3_lacksSetFor 38 = .ok (.if_icmp .ne 5, 3) := by decide +kernel
theorem dX3_lacksSetFor_41 : decode cX3_lacksSetFor 41 = .ok (.iconst 1, 1) := by decide +kernel
theorem dX3_lacksSetFor_42 : decode cX3_lacksSetFor 42 = .ok (.ireturn, 1) := by decide +kernel
theorem dX3_lacksSetFor_43 : decode cX3_lacksSetFor 43 = .ok (.iinc 2 1, 3) := by decide +kernel
theorem dX3_lacksSetFor_46 : decode cX3_lacksSetFor 46 = .ok (.goto (-44), 3) := by decide +kernel
theorem dX3_lacksSetFor_49 : decode cX3_lacksSetFor 49 = .ok (.iconst 0, 1) := by decide +kernel
theorem dX3_lacksSetFor_50 : decode cX3_lacksSetFor 50 = .ok (.ireturn, 1) := by decide +kernel
theorem dX3_makeCurrent_0 : decode cX3_makeCurrent 0 = .ok (.aload_n 0, 1) := by decide +kernel
theorem dX3_makeCurrent_1 : decode cX3_makeCurrent 1 = .ok (.getfield 21, 3) := by decide +kernel
theorem dX3_makeCurrent_4 : decode cX3_makeCurrent 4 = .ok (.iload_n 1, 1) := by decide +kernel
theorem dX3_makeCurrent_5 : decode cX3_makeCurrent 5 = .ok (.invokevirtual 112, 3) := by decide +kernel
theorem dX3_makeCurrent_8 : decode cX3_makeCurrent 8 = .ok (.istore_n 2, 1) := by decide +kernel
theorem dX3_makeCurrent_9 : decode cX3_makeCurrent 9 = .ok (.iload_n 2, 1) := by decide +kernel
theorem dX3_makeCurrent_10 : decode cX3_makeCurrent 10 = .ok (.iconst (-1), 1) := by decide +kernel
theorem dX3_makeCurrent_11 : decode cX3_makeCurrent 11 = .ok (.if_icmp .ne 5, 3) := by decide +kernel
theorem dX3_makeCurrent_14 : decode cX3_makeCurrent 14 = .ok (.iconst (-1), 1) := by decide +kernel
theorem dX3_makeCurrent_15 : decode cX3_makeCurrent 15 = .ok (.ireturn, 1) := by decide +kernel
theorem dX3_makeCurrent_16 : decode cX3_makeCurrent 16 = .ok (.aload_n 0, 1) := by decide +kernel
theorem dX3_makeCurrent_17 : decode cX3_makeCurrent 17 = .ok (.iload_n 1, 1) := by decide +kernel
theorem dX3_makeCurrent_18 : decode cX3_makeCurrent 18 = .ok (.putfield 45, 3) := by decide +kernel
theorem dX3_makeCurrent_21 : decode cX3_makeCurrent 21 = .ok (.aload_n 0, 1) := by decide +kernel
theorem dX3_makeCurrent_22 : decode cX3_makeCurrent 22 = .ok (.getfield 28, 3) := by decide +kernel
theorem dX3_makeCurrent_25 : decode cX3_makeCurrent 25 = .ok (.iload_n 2, 1) := by decide +kernel
theorem dX3_makeCurrent_26 : decode cX3_makeCurrent 26 = .ok (.iload_n 1, 1) := by decide +kernel
theorem dX3_makeCurrent_27 : decode cX3_makeCurrent 27 = .ok (.invokevirtual 93, 3) := by decide +kernel
theorem dX3_makeCurrent_30 : decode cX3_makeCurrent 30 = .ok (.iconst 0, 1) := by decide +kernel
theorem dX3_makeCurrent_31 : decode cX3_makeCurrent 31 = .ok (.istore_n 3, 1) := by decide +kernel
theorem dX3_makeCurrent_32 : decode cX3_makeCurrent 32 = .ok (.iload_n 3, 1) := by decide +kernel
theorem dX3_makeCurrent_33 : decode cX3_makeCurrent 33 = .ok (.aload_n 0, 1) := by decide +kernel
theorem dX3_makeCurrent_34 : decode cX3_makeCurrent 34 = .ok (.getfield 10, 3) := by decide +kernel
theorem dX3_makeCurrent_37 : decode cX3_makeCurrent 37 = .ok (.invokevirtual 62, 3) := by decide +kernel
theorem dX3_makeCurrent_40 : decode cX3_makeCurrent 40 = .ok (.if_icmp .ge 41, 3) := by decide +kernel
theorem dX3_makeCurrent_43 : decode cX3_makeCurrent 43 = .ok (.aload_n 0, 1) := by decide +kernel
theorem dX3_makeCurrent_44 : decode cX3_makeCurrent 44 = .ok (.getfield 10, 3) := by decide +kernel
theorem dX3_makeCurrent_47 : decode cX3_makeCurrent 47 = .ok (.iload_n 3, 1) := by decide +kernel
theorem dX3_makeCurrent_48 : decode cX3_makeCurrent 48 = .ok (.invokevirtual 97, 3) := by decide +kernel
theorem dX3_makeCurrent_51 : decode cX3_makeCurrent 51 = .ok (.checkcast 73, 3) := by decide +kernel
theorem dX3_makeCurrent_54 : decode cX3_makeCurrent 54 = .ok (.astore 4, 2) := by decide +kernel
theorem dX3_makeCurrent_56 : decode cX3_makeCurrent 56 = .ok (.aload 4, 2) := by decide +kernel
theorem dX3_makeCurrent_58 : decode cX3_makeCurrent 58 = .ok (.getfield 169, 3) := by decide +kernel
theorem dX3_makeCurrent_61 : decode cX3_makeCurrent 61 = .ok (.iload_n 1, 1) := by decide +kernel
theorem dX3_makeCurrent_62 : decode cX3_makeCurrent 62 = .ok (.invokevirtual 112, 3) := by decide +kernel
theorem dX3_makeCurrent_65 : decode cX3_makeCurrent 65 = .ok (.iconst (-1), 1) := by decide +kernel
theorem dX3_makeCurrent_66 : decode cX3_makeCurrent 66 = .ok (.if_icmp .eq 9, 3) := by decide +kernel
theorem dX3_makeCurrent_69 : decode cX3_makeCurrent 69 = .ok (.aload 4, 2) := by decide +kernel
theorem dX3_makeCurrent_71 : decode cX3_makeCurrent 71 = .ok (.iload_n 1, 1) := by decide +kernel
theorem dX3_makeCurrent_72 : decode cX3_makeCurrent 72 = .ok (.putfield 154, 3) := by decide +kernel
theorem dX3_makeCurrent_75 : decode cX3_makeCurrent 75 = .ok (.iinc 3 1, 3) := by decide +kernel
theorem dX3_makeCurrent_78 : decode cX3_makeCurrent 78 = .ok (.goto (-46), 3) := by decide +kernel
theorem dX3_makeCurrent_81 : decode cX3_makeCurrent 81 = .ok (.iload_n 1, 1) := by decide +kernel
theorem dX3_makeCurrent_82 : decode cX3_makeCurrent 82 = .ok (.ireturn, 1) := by decide +kernel
theorem dX3_gatherDoomed_0 : decode cX3_gatherDoomed 0 = .ok (.iload_n 2, 1) := by decide +kernel
theorem dX3_gatherDoomed_1 : decode cX3_gatherDoomed 1 = .ok (.ifCond .ne 13, 3) := by decide +kernel
theorem dX3_gatherDoomed_4 : decode cX3_gatherDoomed 4 = .ok (.aload_n 0, 1) := by decide +kernel
theorem dX3_gatherDoomed_5 : decode cX3_gatherDoomed 5 = .ok (.iload_n 1, 1) := by decide +kernel
theorem dX3_gatherDoomed_6 : decode cX3_gatherDoomed 6 = .ok (.invokevirtual 226, 3) := by decide +kernel
theorem dX3_gatherDoomed_9 : decode cX3_gatherDoomed 9 = .ok (.ifCond .eq 5, 3) := by decide +kernel
theorem dX3_gatherDoomed_12 : decode cX3_gatherDoomed 12 = .ok (.iconst (-1), 1) := by decide +kernel
theorem dX3_gatherDoomed_13 : decode cX3_gatherDoomed 13 = .ok (.ireturn, 1) := by decide +kernel
theorem dX3_gatherDoomed_14 : decode cX3_gatherDoomed 14 = .ok (.aload_n 0, 1) := by decide +kernel
theorem dX3_gatherDoomed_15 : decode cX3_gatherDoomed 15 = .ok (.getfield 34, 3) := by decide +kernel
theorem dX3_gatherDoomed_18 : decode cX3_gatherDoomed 18 = .ok (.invokevirtual 229, 3) := by decide +kernel
theorem dX3_gatherDoomed_21 : decode cX3_gatherDoomed 21 = .ok (.aload_n 0, 1) := by decide +kernel
theorem dX3_gatherDoomed_22 : decode cX3_gatherDoomed 22 = .ok (.getfield 34, 3) := by decide +kernel
theorem dX3_gatherDoomed_25 : decode cX3_gatherDoomed 25 = .ok (.iload_n 1, 1) := by decide +kernel
theorem dX3_gatherDoomed_26 : decode cX3_gatherDoomed 26 = .ok (.invokevirtual 232, 3) := by decide +kernel
theorem dX3_gatherDoomed_29 : decode cX3_gatherDoomed 29 = .ok (.iconst 0, 1) := by decide +kernel
theorem dX3_gatherDoomed_30 : decode cX3_gatherDoomed 30 = .ok (.istore_n 3, 1) := by decide +kernel
theorem dX3_gatherDoomed_31 : decode cX3_gatherDoomed 31 = .ok (.iload_n 3, 1) := by decide +kernel
theorem dX3_gatherDoomed_32 : decode cX3_gatherDoomed 32 = .ok (.bipush 60, 2) := by decide +kernel
theorem dX3_gatherDoomed_34 : decode cX3_gatherDoomed 34 = .ok (.if_icmp .ge 33, 3) := by decide +kernel
theorem dX3_gatherDoomed_37 : decode cX3_gatherDoomed 37 = .ok (.iload_n 3, 1) := by decide +kernel
theorem dX3_gatherDoomed_38 : decode cX3_gatherDoomed 38 = .ok (.aload_n 0, 1) := by decide +kernel
theorem dX3_gatherDoomed_39 : decode cX3_gatherDoomed 39 = .ok (.getfield 34, 3) := by decide +kernel
theorem dX3_gatherDoomed_42 : decode cX3_gatherDoomed 42 = .ok (.getfield 234, 3) := by decide +kernel
theorem dX3_gatherDoomed_45 : decode cX3_gatherDoomed 45 = .ok (.if_icmp .ge 22, 3) := by decide +kernel
theorem dX3_gatherDoomed_48 : decode cX3_gatherDoomed 48 = .ok (.aload_n 0, 1) := by decide +kernel
theorem dX3_gatherDoomed_49 : decode cX3_gatherDoomed 49 = .ok (.aload_n 0, 1) := by decide +kernel
theorem dX3_gatherDoomed_50 : decode cX3_gatherDoomed 50 = .ok (.getfield 34, 3) := by decide +kernel
theorem dX3_gatherDoomed_53 : decode cX3_gatherDoomed 53 = .ok (.iload_n 3, 1) := by decide +kernel
theorem dX3_gatherDoomed_54 : decode cX3_gatherDoomed 54 = .ok (.invokevirtual 128, 3) := by decide +kernel
theorem dX3_gatherDoomed_57 : decode cX3_gatherDoomed 57 = .ok (.iload_n 2, 1) := by decide +kernel
theorem dX3_gatherDoomed_58 : decode cX3_gatherDoomed 58 = .ok (.invokevirtual 236, 3) := by decide +kernel
theorem dX3_gatherDoomed_61 : decode cX3_gatherDoomed 61 = .ok (.iinc 3 1, 3) := by decide +kernel
theorem dX3_gatherDoomed_64 : decode cX3_gatherDoomed 64 = .ok (.goto (-33), 3) := by decide +kernel
theorem dX3_gatherDoomed_67 : decode cX3_gatherDoomed 67 = .ok (.aload_n 0, 1) := by decide +kernel
theorem dX3_gatherDoomed_68 : decode cX3_gatherDoomed 68 = .ok (.getfield 34, 3) := by decide +kernel
theorem dX3_gatherDoomed_71 : decode cX3_gatherDoomed 71 = .ok (.getfield 234, 3) := by decide +kernel
theorem dX3_gatherDoomed_74 : decode cX3_gatherDoomed 74 = .ok (.ireturn, 1) := by decide +kernel
theorem dX3_gatherMembers_0 : decode cX3_gatherMembers 0 = .ok (.iconst 0, 1) := by decide +kernel
theorem dX3_gatherMembers_1 : decode cX3_gatherMembers 1 = .ok (.istore_n 3, 1) := by decide +kernel
theorem dX3_gatherMembers_2 : decode cX3_gatherMembers 2 = .ok (.iload_n 3, 1) := by decide +kernel
theorem dX3_gatherMembers_3 : decode cX3_gatherMembers 3 = .ok (.aload_n 0, 1) := by decide +kernel
theorem dX3_gatherMembers_4 : decode cX3_gatherMembers 4 = .ok (.getfield 10, 3) := by decide +kernel
theorem dX3_gatherMembers_7 : decode cX3_gatherMembers 7 = .ok (.invokevirtual 62, 3) := by decide +kernel
theorem dX3_gatherMembers_10 : decode cX3_gatherMembers 10 = .ok (.if_icmp .ge 50, 3) := by decide +kernel
theorem dX3_gatherMembers_13 : decode cX3_gatherMembers 13 = .ok (.aload_n 0, 1) := by decide +kernel
theorem dX3_gatherMembers_14 : decode cX3_gatherMembers 14 = .ok (.getfield 10, 3) := by decide +kernel
theorem dX3_gatherMembers_17 : decode cX3_gatherMembers 17 = .ok (.iload_n 3, 1) := by decide +kernel
theorem dX3_gatherMembers_18 : decode cX3_gatherMembers 18 = .ok (.invokevirtual 97, 3) := by decide +kernel
theorem dX3_gatherMembers_21 : decode cX3_gatherMembers 21 = .ok (.checkcast 73, 3) := by decide +kernel
theorem dX3_gatherMembers_24 : decode cX3_gatherMembers 24 = .ok (.astore 4, 2) := by decide +kernel
theorem dX3_gatherMembers_26 : decode cX3_gatherMembers 26 = .ok (.aload 4, 2) := by decide +kernel
theorem dX3_gatherMembers_28 : decode cX3_gatherMembers 28 = .ok (.iload_n 1, 1) := by decide +kernel
theorem dX3_gatherMembers_29 : decode cX3_gatherMembers 29 = .ok (.invokevirtual 175, 3) := by decide +kernel
theorem dX3_gatherMembers_32 : decode cX3_gatherMembers 32 = .ok (.ifCond .eq 22, 3) := by decide +kernel
theorem dX3_gatherMembers_35 : decode cX3_gatherMembers 35 = .ok (.aload 4, 2) := by decide +kernel
theorem dX3_gatherMembers_37 : decode cX3_gatherMembers 37 = .ok (.iload_n 2, 1) := by decide +kernel
theorem dX3_gatherMembers_38 : decode cX3_gatherMembers 38 = .ok (.invokevirtual 239, 3) := by decide +kernel
theorem dX3_gatherMembers_41 : decode cX3_gatherMembers 41 = .ok (.ifCond .eq 13, 3) := by decide +kernel
theorem dX3_gatherMembers_44 : decode cX3_gatherMembers 44 = .ok (.aload 4, 2) := by decide +kernel
theorem dX3_gatherMembers_46 : decode cX3_gatherMembers 46 = .ok (.iload_n 1, 1) := by decide +kernel
theorem dX3_gatherMembers_47 : decode cX3_gatherMembers 47 = .ok (.aload_n 0, 1) := by decide +kernel
theorem dX3_gatherMembers_48 : decode cX3_gatherMembers 48 = .ok (.getfield 34, 3) := by decide +kernel
theorem dX3_gatherMembers_51 : decode cX3_gatherMembers 51 = .ok (.invokevirtual 242, 3) := by decide +kernel
theorem dX3_gatherMembers_54 : decode cX3_gatherMembers 54 = .ok (.iinc 3 1, 3) := by decide +kernel
theorem dX3_gatherMembers_57 : decode cX3_gatherMembers 57 = .ok (.goto (-55), 3) := by decide +kernel
theorem dX3_gatherMembers_60 : decode cX3_gatherMembers 60 = .ok (.return_, 1) := by decide +kernel
theorem dX3_hasMembers_0 : decode cX3_hasMembers 0 = .ok (.iconst 0, 1) := by decide +kernel
theorem dX3_hasMembers_1 : decode cX3_hasMembers 1 = .ok (.istore_n 2, 1) := by decide +kernel
theorem dX3_hasMembers_2 : decode cX3_hasMembers 2 = .ok (.iload_n 2, 1) := by decide +kernel
theorem dX3_hasMembers_3 : decode cX3_hasMembers 3 = .ok (.aload_n 0, 1) := by decide +kernel
theorem dX3_hasMembers_4 : decode cX3_hasMembers 4 = .ok (.getfield 10, 3) := by decide +kernel
theorem dX3_hasMembers_7 : decode cX3_hasMembers 7 = .ok (.invokevirtual 62, 3) := by decide +kernel
theorem dX3_hasMembers_10 : decode cX3_hasMembers 10 = .ok (.if_icmp .ge 39, 3) := by decide +kernel
theorem dX3_hasMembers_13 : decode cX3_hasMembers 13 = .ok (.aload_n 0, 1) := by decide +kernel
theorem dX3_hasMembers_14 : decode cX3_hasMembers 14 = .ok (.getfield 10, 3) := by decide +kernel
theorem dX3_hasMembers_17 : decode cX3_hasMembers 17 = .ok (.iload_n 2, 1) := by decide +kernel
theorem dX3_hasMembers_18 : decode cX3_hasMembers 18 = .ok (.invokevirtual 97, 3) := by decide +kernel
theorem dX3_hasMembers_21 : decode cX3_hasMembers 21 = .ok (.checkcast 73, 3) := by decide +kernel
theorem dX3_hasMembers_24 : decode cX3_hasMembers 24 = .ok (.astore_n 3, 1) := by decide +kernel
theorem dX3_hasMembers_25 : decode cX3_hasMembers 25 = .ok (.aload_n 3, 1) := by decide +kernel
theorem dX3_hasMembers_26 : decode cX3_hasMembers 26 = .ok (.iload_n 1, 1) := by decide +kernel
theorem dX3_hasMembers_27 : decode cX3_hasMembers 27 = .ok (.invokevirtual 175, 3) := by decide +kernel
theorem dX3_hasMembers_30 : decode cX3_hasMembers 30 = .ok (.ifCond .eq 13, 3) := by decide +kernel
theorem dX3_hasMembers_33 : decode cX3_hasMembers 33 = .ok (.aload_n 3, 1) := by decide +kernel
theorem dX3_hasMembers_34 : decode cX3_hasMembers 34 = .ok (.iload_n 1, 1) := by decide +kernel
theorem dX3_hasMembers_35 : decode cX3_hasMembers 35 = .ok (.invokevirtual 157, 3) := by decide +kernel
theorem dX3_hasMembers_38 : decode cX3_hasMembers 38 = .ok (.ifCond .le 5, 3) := by decide +kernel
theorem dX3_hasMembers_41 : decode cX3_hasMembers 41 = .ok (.iconst 1, 1) := by decide +kernel
theorem dX3_hasMembers_42 : decode cX3_hasMembers 42 = .ok (.ireturn, 1) := by decide +kernel
theorem dX3_hasMembers_43 : decode cX3_hasMembers 43 = .ok (.iinc 2 1, 3) := by decide +kernel
theorem dX3_hasMembers_46 : decode cX3_hasMembers 46 = .ok (.goto (-44), 3) := by decide +kernel
theorem dX3_hasMembers_49 : decode cX3_hasMembers 49 = .ok (.iconst 0, 1) := by decide +kernel
theorem dX3_hasMembers_50 : decode cX3_hasMembers 50 = .ok (.ireturn, 1) := by decide +kernel
theorem dX3_remove_0 : decode cX3_remove 0 = .ok (.iconst 0, 1) := by decide +kernel
theorem dX3_remove_1 : decode cX3_remove 1 = .ok (.istore_n 2, 1) := by decide +kernel
theorem dX3_remove_2 : decode cX3_remove 2 = .ok (.iload_n 2, 1) := by decide +kernel
theorem dX3_remove_3 : decode cX3_remove 3 = .ok (.aload_n 0, 1) := by decide +kernel
theorem dX3_remove_4 : decode cX3_remove 4 = .ok (.getfield 10, 3) := by decide +kernel
theorem dX3_remove_7 : decode cX3_remove 7 = .ok (.invokevirtual 62, 3) := by decide +kernel
theorem dX3_remove_10 : decode cX3_remove 10 = .ok (.if_icmp .ge 24, 3) := by decide +kernel
theorem dX3_remove_13 : decode cX3_remove 13 = .ok (.aload_n 0, 1) := by decide +kernel
theorem dX3_remove_14 : decode cX3_remove 14 = .ok (.getfield 10, 3) := by decide +kernel
theorem dX3_remove_17 : decode cX3_remove 17 = .ok (.iload_n 2, 1) := by decide +kernel
theorem dX3_remove_18 : decode cX3_remove 18 = .ok (.invokevirtual 97, 3) := by decide +kernel
theorem dX3_remove_21 : decode cX3_remove 21 = .ok (.checkcast 73, 3) := by decide +kernel
theorem dX3_remove_24 : decode cX3_remove 24 = .ok (.iload_n 1, 1) := by decide +kernel
theorem dX3_remove_25 : decode cX3_remove 25 = .ok (.invokevirtual 246, 3) := by decide +kernel
theorem dX3_remove_28 : decode cX3_remove 28 = .ok (.iinc 2 1, 3) := by decide +kernel
theorem dX3_remove_31 : decode cX3_remove 31 = .ok (.goto (-29), 3) := by decide +kernel
theorem dX3_remove_34 : decode cX3_remove 34 = .ok (.aload_n 0, 1) := by decide +kernel
theorem dX3_remove_35 : decode cX3_remove 35 = .ok (.getfield 21, 3) := by decide +kernel
theorem dX3_remove_38 : decode cX3_remove 38 = .ok (.iload_n 1, 1) := by decide +kernel
theorem dX3_remove_39 : decode cX3_remove 39 = .ok (.invokevirtual 112, 3) := by decide +kernel
theorem dX3_remove_42 : decode cX3_remove 42 = .ok (.istore_n 2, 1) := by decide +kernel
theorem dX3_remove_43 : decode cX3_remove 43 = .ok (.aload_n 0, 1) := by decide +kernel
theorem dX3_remove_44 : decode cX3_remove 44 = .ok (.getfield 28, 3) := by decide +kernel
theorem dX3_remove_47 : decode cX3_remove 47 = .ok (.iload_n 2, 1) := by decide +kernel
theorem dX3_remove_48 : decode cX3_remove 48 = .ok (.invokevirtual 112, 3) := by decide +kernel
theorem dX3_remove_51 : decode cX3_remove 51 = .ok (.iload_n 1, 1) := by decide +kernel
theorem dX3_remove_52 : decode cX3_remove 52 = .ok (.if_icmp .ne 12, 3) := by decide +kernel
theorem dX3_remove_55 : decode cX3_remove 55 = .ok (.aload_n 0, 1) := by decide +kernel
theorem dX3_remove_56 : decode cX3_remove 56 = .ok (.getfield 28, 3) := by decide +kernel
theorem dX3_remove_59 : decode cX3_remove 59 = .ok (.iload_n 2, 1) := by decide +kernel
theorem dX3_remove_60 : decode cX3_remove 60 = .ok (.iconst (-1), 1) := by decide +kernel
theorem dX3_remove_61 : decode cX3_remove 61 = .ok (.invokevirtual 93, 3) := by decide +kernel
theorem dX3_remove_64 : decode cX3_remove 64 = .ok (.aload_n 0, 1) := by decide +kernel
theorem dX3_remove_65 : decode cX3_remove 65 = .ok (.getfield 45, 3) := by decide +kernel
theorem dX3_remove_68 : decode cX3_remove 68 = .ok (.iload_n 1, 1) := by decide +kernel
theorem dX3_remove_69 : decode cX3_remove 69 = .ok (.if_icmp .ne 8, 3) := by decide +kernel
theorem dX3_remove_72 : decode cX3_remove 72 = .ok (.aload_n 0, 1) := by decide +kernel
theorem dX3_remove_73 : decode cX3_remove 73 = .ok (.iconst (-1), 1) := by decide +kernel
theorem dX3_remove_74 : decode cX3_remove 74 = .ok (.putfield 45, 3) := by decide +kernel
theorem dX3_remove_77 : decode cX3_remove 77 = .ok (.aload_n 0, 1) := by decide +kernel
theorem dX3_remove_78 : decode cX3_remove 78 = .ok (.getfield 21, 3) := by decide +kernel
theorem dX3_remove_81 : decode cX3_remove 81 = .ok (.iload_n 1, 1) := by decide +kernel
theorem dX3_remove_82 : decode cX3_remove 82 = .ok (.iconst (-1), 1) := by decide +kernel
theorem dX3_remove_83 : decode cX3_remove 83 = .ok (.invokevirtual 93, 3) := by decide +kernel
theorem dX3_remove_86 : decode cX3_remove 86 = .ok (.aload_n 0, 1) := by decide +kernel
theorem dX3_remove_87 : decode cX3_remove 87 = .ok (.dup, 1) := by decide +kernel
theorem dX3_remove_88 : decode cX3_remove 88 = .ok (.getfield 42, 3) := by decide +kernel
theorem dX3_remove_91 : decode cX3_remove 91 = .ok (.iconst 1, 1) := by decide +kernel
theorem dX3_remove_92 : decode cX3_remove 92 = .ok (.isub, 1) := by decide +kernel
theorem dX3_remove_93 : decode cX3_remove 93 = .ok (.putfield 42, 3) := by decide +kernel
theorem dX3_remove_96 : decode cX3_remove 96 = .ok (.return_, 1) := by decide +kernel
end
section
theorem dX4_init_0 : decode cX4_init 0 = .ok (.aload_n 0, 1) := by decide +kernel
theorem dX4_init_1 : decode cX4_init 1 = .ok (.invokespecial 1, 3) := by decide +kernel
theorem dX4_init_4 : decode cX4_init 4 = .ok (.aload_n 0, 1) := by decide +kernel
theorem dX4_init_5 : decode cX4_init 5 = .ok (.bipush 6, 2) := by decide +kernel
theorem dX4_init_7 : decode cX4_init 7 = .ok (.newarray .int, 2) := by decide +kernel
theorem dX4_init_9 : decode cX4_init 9 = .ok (.putfield 7, 3) := by decide +kernel
theorem dX4_init_12 : decode cX4_init 12 = .ok (.aload_n 0, 1) := by decide +kernel
theorem dX4_init_13 : decode cX4_init 13 = .ok (.bipush 6, 2) := by decide +kernel
theorem dX4_init_15 : decode cX4_init 15 = .ok (.newarray .int, 2) := by decide +kernel
theorem dX4_init_17 : decode cX4_init 17 = .ok (.putfield 13, 3) := by decide +kernel
theorem dX4_init_20 : decode cX4_init 20 = .ok (.aload_n 0, 1) := by decide +kernel
theorem dX4_init_21 : decode cX4_init 21 = .ok (.bipush 6, 2) := by decide +kernel
theorem dX4_init_23 : decode cX4_init 23 = .ok (.newarray .int, 2) := by decide +kernel
theorem dX4_init_25 : decode cX4_init 25 = .ok (.putfield 16, 3) := by decide +kernel
theorem dX4_init_28 : decode cX4_init 28 = .ok (.aload_n 0, 1) := by decide +kernel
theorem dX4_init_29 : decode cX4_init 29 = .ok (.bipush 6, 2) := by decide +kernel
theorem dX4_init_31 : decode cX4_init 31 = .ok (.newarray .boolean, 2) := by decide +kernel
theorem dX4_init_33 : decode cX4_init 33 = .ok (.putfield 19, 3) := by decide +kernel
theorem dX4_init_36 : decode cX4_init 36 = .ok (.aload_n 0, 1) := by decide +kernel
theorem dX4_init_37 : decode cX4_init 37 = .ok (.bipush 6, 2) := by decide +kernel
theorem dX4_init_39 : decode cX4_init 39 = .ok (.newarray .int, 2) := by decide +kernel
theorem dX4_init_41 : decode cX4_init 41 = .ok (.putfield 23, 3) := by decide +kernel
theorem dX4_init_44 : decode cX4_init 44 = .ok (.aload_n 0, 1) := by decide +kernel
theorem dX4_init_45 : decode cX4_init 45 = .ok (.bipush 60, 2) := by decide +kernel
theorem dX4_init_47 : decode cX4_init 47 = .ok (.newarray .boolean, 2) := by decide +kernel
theorem dX4_init_49 : decode cX4_init 49 = .ok (.putfield 26, 3) := by decide +kernel
theorem dX4_init_52 : decode cX4_init 52 = .ok (.aload_n 0, 1) := by decide +kernel
theorem dX4_init_53 : decode cX4_init 53 = .ok (.bipush 60, 2) := by decide +kernel
theorem dX4_init_55 : decode cX4_init 55 = .ok (.newarray .int, 2) := by decide +kernel
theorem dX4_init_57 : decode cX4_init 57 = .ok (.putfield 29, 3) := by decide +kernel
theorem dX4_init_60 : decode cX4_init 60 = .ok (.aload_n 0, 1) := by decide +kernel
theorem dX4_init_61 : decode cX4_init 61 = .ok (.bipush 60, 2) := by decide +kernel
theorem dX4_init_63 : decode cX4_init 63 = .ok (.newarray .int, 2) := by decide +kernel
theorem dX4_init_65 : decode cX4_init 65 = .ok (.putfield 32, 3) := by decide +kernel
theorem dX4_init_68 : decode cX4_init 68 = .ok (.aload_n 0, 1) := by decide +kernel
theorem dX4_init_69 : decode cX4_init 69 = .ok (.sipush 360, 3) := by decide +kernel
theorem dX4_init_72 : decode cX4_init 72 = .ok (.newarray .int, 2) := by decide +kernel
theorem dX4_init_74 : decode cX4_init 74 = .ok (.putfield 35, 3) := by decide +kernel
theorem dX4_init_77 : decode cX4_init 77 = .ok (.aload_n 0, 1) := by decide +kernel
theorem dX4_init_78 : decode cX4_init 78 = .ok (.bipush 6, 2) := by decide +kernel
theorem dX4_init_80 : decode cX4_init 80 = .ok (.newarray .int, 2) := by decide +kernel
theorem dX4_init_82 : decode cX4_init 82 = .ok (.putfield 38, 3) := by decide +kernel
theorem dX4_init_85 : decode cX4_init 85 = .ok (.aload_n 0, 1) := by decide +kernel
theorem dX4_init_86 : decode cX4_init 86 = .ok (.sipush 360, 3) := by decide +kernel
theorem dX4_init_89 : decode cX4_init 89 = .ok (.newarray .int, 2) := by decide +kernel
theorem dX4_init_91 : decode cX4_init 91 = .ok (.putfield 41, 3) := by decide +kernel
theorem dX4_init_94 : decode cX4_init 94 = .ok (.aload_n 0, 1) := by decide +kernel
theorem dX4_init_95 : decode cX4_init 95 = .ok (.iconst 4, 1) := by decide +kernel
theorem dX4_init_96 : decode cX4_init 96 = .ok (.newarray .int, 2) := by decide +kernel
theorem dX4_init_98 : decode cX4_init 98 = .ok (.putfield 44, 3) := by decide +kernel
theorem dX4_init_101 : decode cX4_init 101 = .ok (.aload_n 0, 1) := by decide +kernel
theorem dX4_init_102 : decode cX4_init 102 = .ok (.bipush 6, 2) := by decide +kernel
theorem dX4_init_104 : decode cX4_init 104 = .ok (.newarray .int, 2) := by decide +kernel
theorem dX4_init_106 : decode cX4_init 106 = .ok (.putfield 47, 3) := by decide +kernel
theorem dX4_init_109 : decode cX4_init 109 = .ok (.aload_n 0, 1) := by decide +kernel
theorem dX4_init_110 : decode cX4_init 110 = .ok (.bipush 60, 2) := by decide +kernel
theorem dX4_init_112 : decode cX4_init 112 = .ok (.newarray .boolean, 2) := by decide +kernel
theorem dX4_init_114 : decode cX4_init 114 = .ok (.putfield 50, 3) := by decide +kernel
theorem dX4_init_117 : decode cX4_init 117 = .ok (.aload_n 0, 1) := by decide +kernel
theorem dX4_init_118 : decode cX4_init 118 = .ok (.iconst (-1), 1) := by decide +kernel
theorem dX4_init_119 : decode cX4_init 119 = .ok (.putfield 53, 3) := by decide +kernel
theorem dX4_init_122 : decode cX4_init 122 = .ok (.iconst 0, 1) := by decide +kernel
theorem dX4_init_123 : decode cX4_init 123 = .ok (.istore_n 1, 1) := by decide +kernel
theorem dX4_init_124 : decode cX4_init 124 = .ok (.iload_n 1, 1) := by decide +kernel
theorem dX4_init_125 : decode cX4_init 125 = .ok (.iconst 4, 1) := by decide +kernel
theorem dX4_init_126 : decode cX4_init 126 = .ok (.if_icmp .ge 16, 3) := by decide +kernel
theorem dX4_init_129 : decode cX4_init 129 = .ok (.aload_n 0, 1) := by decide +kernel
theorem dX4_init_130 : decode cX4_init 130 = .ok (.getfield 44, 3) := by decide +kernel
theorem dX4_init_133 : decode cX4_init 133 = .ok (.iload_n 1, 1) := by decide +kernel
theorem dX4_init_134 : decode cX4_init 134 = .ok (.iconst (-1), 1) := by decide +kernel
theorem dX4_init_135 : decode cX4_init 135 = .ok (.iastore, 1) := by decide +kernel
theorem dX4_init_136 : decode cX4_init 136 = .ok (.iinc 1 1, 3) := by decide +kernel
theorem dX4_init_139 : decode cX4_init 139 = .ok (.goto (-15), 3) := by decide +kernel
theorem dX4_init_142 : decode cX4_init 142 = .ok (.iconst 0, 1) := by decide +kernel
theorem dX4_init_143 : decode cX4_init 143 = .ok (.istore_n 1, 1) := by decide +kernel
theorem dX4_init_144 : decode cX4_init 144 = .ok (.iload_n 1, 1) := by decide +kernel
theorem dX4_init_145 : decode cX4_init 145 = .ok (.bipush 6, 2) := by decide +kernel
theorem dX4_init_147 : decode cX4_init 147 = .ok (.if_icmp .ge 16, 3) := by decide +kernel
theorem dX4_init_150 : decode cX4_init 150 = .ok (.aload_n 0, 1) := by decide +kernel
theorem dX4_init_151 : decode cX4_init 151 = .ok (.getfield 47, 3) := by decide +kernel
theorem dX4_init_154 : decode cX4_init 154 = .ok (.iload_n 1, 1) := by decide +kernel
theorem dX4_init_155 : decode cX4_init 155 = .ok (.iconst (-1), 1) := by decide +kernel
theorem dX4_init_156 : decode cX4_init 156 = .ok (.iastore, 1) := by decide +kernel
theorem dX4_init_157 : decode cX4_init 157 = .ok (.iinc 1 1, 3) := by decide +kernel
theorem dX4_init_160 : decode cX4_init 160 = .ok (.goto (-16), 3) := by decide +kernel
theorem dX4_init_163 : decode cX4_init 163 = .ok (.iconst 0, 1) := by decide +kernel
theorem dX4_init_164 : decode cX4_init 164 = .ok (.istore_n 1, 1) := by decide +kernel
theorem dX4_init_165 : decode cX4_init 165 = .ok (.iload_n 1, 1) := by decide +kernel
theorem dX4_init_166 : decode cX4_init 166 = .ok (.sipush 360, 3) := by decide +kernel
theorem dX4_init_169 : decode cX4_init 169 = .ok (.if_icmp .ge 16, 3) := by decide +kernel
theorem dX4_init_172 : decode cX4_init 172 = .ok (.aload_n 0, 1) := by decide +kernel
theorem dX4_init_173 : decode cX4_init 173 = .ok (.getfield 35, 3) := by decide +kernel
theorem dX4_init_176 : decode cX4_init 176 = .ok (.iload_n 1, 1) := by decide +kernel
theorem dX4_init_177 : decode cX4_init 177 = .ok (.iconst (-1), 1) := by decide +kernel
theorem dX4_init_178 : decode cX4_init 178 = .ok (.iastore, 1) := by decide +kernel
theorem dX4_init_179 : decode cX4_init 179 = .ok (.iinc 1 1, 3) := by decide +kernel
theorem dX4_init_182 : decode cX4_init 182 = .ok (.goto (-17), 3) := by decide +kernel
theorem dX4_init_185 : decode cX4_init 185 = .ok (.return_, 1) := by decide +kernel
theorem dX4_thrown_0 : decode cX4_thrown 0 = .ok (.aload_n 0, 1) := by decide +kernel
theorem dX4_thrown_1 : decode cX4_thrown 1 = .ok (.getfield 57, 3) := by decide +kernel
theorem dX4_thrown_4 : decode cX4_thrown 4 = .ok (.ireturn, 1) := by decide +kernel
theorem dX4_can_0 : decode cX4_can 0 = .ok (.aload_n 0, 1) := by decide +kernel
theorem dX4_can_1 : decode cX4_can 1 = .ok (.iload_n 1, 1) := by decide +kernel
theorem dX4_can_2 : decode cX4_can 2 = .ok (.putfield 57, 3) := by decide +kernel
theorem dX4_can_5 : decode cX4_can 5 = .ok (.iload_n 1, 1) := by decide +kernel
theorem dX4_can_6 : decode cX4_can 6 = .ok (.ifCond .ne 7, 3) := by decide +kernel
theorem dX4_can_9 : decode cX4_can 9 = .ok (.iconst 1, 1) := by decide +kernel
theorem dX4_can_10 : decode cX4_can 10 = .ok (.goto 4, 3) := by decide +kernel
theorem dX4_can_13 : decode cX4_can 13 = .ok (.iconst 0, 1) := by decide +kernel
theorem dX4_can_14 : decode cX4_can 14 = .ok (.ireturn, 1) := by decide +kernel
theorem dX4_isIn_0 : decode cX4_isIn 0 = .ok (.iload_n 0, 1) := by decide +kernel
theorem dX4_isIn_1 : decode cX4_isIn 1 = .ok (.iload_n 1, 1) := by decide +kernel
theorem dX4_isIn_2 : decode cX4_isIn 2 = .ok (.if_icmp .lt 12, 3) := by decide +kernel
theorem dX4_isIn_5 : decode cX4_isIn 5 = .ok (.iload_n 0, 1) := by decide +kernel
theorem dX4_isIn_6 : decode cX4_isIn 6 = .ok (.iload_n 2, 1) := by decide +kernel
theorem dX4_isIn_7 : decode cX4_isIn 7 = .ok (.if_icmp .gt 7, 3) := by decide +kernel
theorem dX4_isIn_10 : decode cX4_isIn 10 = .ok (.iconst 1, 1) := by decide +kernel
theorem dX4_isIn_11 : decode cX4_isIn 11 = .ok (.goto 4, 3) := by decide +kernel
theorem dX4_isIn_14 : decode cX4_isIn 14 = .ok (.iconst 0, 1) := by decide +kernel
theorem dX4_isIn_15 : decode cX4_isIn 15 = .ok (.ireturn, 1) := by decide +kernel
theorem dX4_isSet_0 : decode cX4_isSet 0 = .ok (.iload_n 1, 1) := by decide +kernel
theorem dX4_isSet_1 : decode cX4_isSet 1 = .ok (.iconst 0, 1) := by decide +kernel
theorem dX4_isSet_2 : decode cX4_isSet 2 = .ok (.aload_n 0, 1) := by decide +kernel
theorem dX4_isSet_3 : decode cX4_isSet 3 = .ok (.getfield 60, 3) := by decide +kernel
theorem dX4_isSet_6 : decode cX4_isSet 6 = .ok (.iconst 1, 1) := by decide +kernel
theorem dX4_isSet_7 : decode cX4_isSet 7 = .ok (.isub, 1) := by decide +kernel
theorem dX4_isSet_8 : decode cX4_isSet 8 = .ok (.invokestatic 63, 3) := by decide +kernel
theorem dX4_isSet_11 : decode cX4_isSet 11 = .ok (.ireturn, 1) := by decide +kernel
theorem dX4_isRecord_0 : decode cX4_isRecord 0 = .ok (.iload_n 1, 1) := by decide +kernel
theorem dX4_isRecord_1 : decode cX4_isRecord 1 = .ok (.iconst 0, 1) := by decide +kernel
theorem dX4_isRecord_2 : decode cX4_isRecord 2 = .ok (.aload_n 0, 1) := by decide +kernel
theorem dX4_isRecord_3 : decode cX4_isRecord 3 = .ok (.getfield 67, 3) := by decide +kernel
theorem dX4_isRecord_6 : decode cX4_isRecord 6 = .ok (.iconst 1, 1) := by decide +kernel
theorem dX4_isRecord_7 : decode cX4_isRecord 7 = .ok (.isub, 1) := by decide +kernel
theorem dX4_isRecord_8 : decode cX4_isRecord 8 = .ok (.invokestatic 63, 3) := by decide +kernel
theorem dX4_isRecord_11 : decode cX4_isRecord 11 = .ok (.ifCond .eq 16, 3) := by decide +kernel
theorem dX4_isRecord_14 : decode cX4_isRecord 14 = .ok (.aload_n 0, 1) := by decide +kernel
theorem dX4_isRecord_15 : decode cX4_isRecord 15 = .ok (.getfield 26, 3) := by decide +kernel
theorem dX4_isRecord_18 : decode cX4_isRecord 18 = .ok (.iload_n 1, 1) := by decide +kernel
theorem dX4_isRecord_19 : decode cX4_isRecord 19 = .ok (.baload, 1) := by decide +kernel
theorem dX4_isRecord_20 : decode cX4_isRecord 20 = .ok (.ifCond .eq 7, 3) := by decide +kernel
theorem dX4_isRecord_23 : decode cX4_isRecord 23 = .ok (.iconst 1, 1) := by decide +kernel
theorem dX4_isRecord_24 : decode cX4_isRecord 24 = .ok (.goto 4, 3) := by decide +kernel
theorem dX4_isRecord_27 : decode cX4_isRecord 27 = .ok (.iconst 0, 1) := by decide +kernel
theorem dX4_isRecord_28 : decode cX4_isRecord 28 = .ok (.ireturn, 1) := by decide +kernel
theorem dX4_ownerIn_0 : decode cX4_ownerIn 0 = .ok (.aload_n 0, 1) := by decide +kernel
theorem dX4_ownerIn_1 : decode cX4_ownerIn 1 = .ok (.getfield 35, 3) := by decide +kernel
theorem dX4_ownerIn_4 : decode cX4_ownerIn 4 = .ok (.bipush 60, 2) := by decide +kernel
theorem dX4_ownerIn_6 : decode cX4_ownerIn 6 = .ok (.iload_n 1, 1) := by decide +kernel
theorem dX4_ownerIn_7 : decode cX4_ownerIn 7 = .ok (.imul, 1) := by decide +kernel
theorem dX4_ownerIn_8 : decode cX4_ownerIn 8 = .ok (.iload_n 2, 1) := by decide +kernel
theorem dX4_ownerIn_9 : decode cX4_ownerIn 9 = .ok (.iadd, 1) := by decide +kernel
theorem dX4_ownerIn_10 : decode cX4_ownerIn 10 = .ok (.iaload, 1) := by decide +kernel
theorem dX4_ownerIn_11 : decode cX4_ownerIn 11 = .ok (.ireturn, 1) := by decide +kernel
theorem dX4_declare_0 : decode cX4_declare 0 = .ok (.iload_n 1, 1) := by decide +kernel
theorem dX4_declare_1 : decode cX4_declare 1 = .ok (.iconst 0, 1) := by decide +kernel
theorem dX4_declare_2 : decode cX4_declare 2 = .ok (.iconst 3, 1) := by decide +kernel
theorem dX4_declare_3 : decode cX4_declare 3 = .ok (.invokestatic 63, 3) := by decide +kernel
theorem dX4_declare_6 : decode cX4_declare 6 = .ok (.ifCond .eq 40, 3) := by decide +kernel
theorem dX4_declare_9 : decode cX4_declare 9 = .ok (.iload_n 2, 1) := by decide +kernel
theorem dX4_declare_10 : decode cX4_declare 10 = .ok (.iconst 0, 1) := by decide +kernel
theorem dX4_declare_11 : decode cX4_declare 11 = .ok (.iconst 3, 1) := by decide +kernel
theorem dX4_declare_12 : decode cX4_declare 12 = .ok (.invokestatic 63, 3) := by decide +kernel
theorem dX4_declare_15 : decode cX4_declare 15 = .ok (.ifCond .eq 31, 3) := by decide +kernel
theorem dX4_declare_18 : decode cX4_declare 18 = .ok (.iload_n 3, 1) := by decide +kernel
theorem dX4_declare_19 : decode cX4_declare 19 = .ok (.iconst 0, 1) := by decide +kernel
theorem dX4_declare_20 : decode cX4_declare 20 = .ok (.iconst 4, 1) := by decide +kernel
theorem dX4_declare_21 : decode cX4_declare 21 = .ok (.invokestatic 63, 3) := by decide +kernel
theorem dX4_declare_24 : decode cX4_declare 24 = .ok (.ifCond .eq 22, 3) := by decide +kernel
theorem dX4_declare_27 : decode cX4_declare 27 = .ok (.iload 5, 2) := by decide +kernel
theorem dX4_declare_29 : decode cX4_declare 29 = .ok (.iconst 0, 1) := by decide +kernel
theorem dX4_declare_30 : decode cX4_declare 30 = .ok (.iconst 2, 1) := by decide +kernel
theorem dX4_declare_31 : decode cX4_declare 31 = .ok (.invokestatic 63, 3) := by decide +kernel
theorem dX4_declare_34 : decode cX4_declare 34 = .ok (.ifCond .eq 12, 3) := by decide +kernel
theorem dX4_declare_37 : decode cX4_declare 37 = .ok (.iload_n 1, 1) := by decide +kernel
theorem dX4_declare_38 : decode cX4_declare 38 = .ok (.iload_n 2, 1) := by decide +kernel
theorem dX4_declare_39 : decode cX4_declare 39 = .ok (.if_icmp .eq 7, 3) := by decide +kernel
theorem dX4_declare_42 : decode cX4_declare 42 = .ok (.iconst 1, 1) := by decide +kernel
theorem dX4_declare_43 : decode cX4_declare 43 = .ok (.goto 4, 3) := by decide +kernel
theorem dX4_declare_46 : decode cX4_declare 46 = .ok (.iconst 0, 1) := by decide +kernel
theorem dX4_declare_47 : decode cX4_declare 47 = .ok (.istore 6, 2) := by decide +kernel
theorem dX4_declare_49 : decode cX4_declare 49 = .ok (.aload_n 0, 1) := by decide +kernel
theorem dX4_declare_50 : decode cX4_declare 50 = .ok (.iload 6, 2) := by decide +kernel
theorem dX4_declare_52 : decode cX4_declare 52 = .ok (.ifCond .ne 7, 3) := by decide +kernel
theorem dX4_declare_55 : decode cX4_declare 55 = .ok (.iconst 1, 1) := by decide +kernel
theorem dX4_declare_56 : decode cX4_declare 56 = .ok (.goto 24, 3) := by decide +kernel
theorem dX4_declare_59 : decode cX4_declare 59 = .ok (.aload_n 0, 1) := by decide +kernel
theorem dX4_declare_60 : decode cX4_declare 60 = .ok (.getfield 60, 3) := by decide +kernel
theorem dX4_declare_63 : decode cX4_declare 63 = .ok (.bipush 6, 2) := by decide +kernel
theorem dX4_declare_65 : decode cX4_declare 65 = .ok (.if_icmp .eq 10, 3) := by decide +kernel
theorem dX4_declare_68 : decode cX4_declare 68 = .ok (.aload_n 0, 1) := by decide +kernel
theorem dX4_declare_69 : decode cX4_declare 69 = .ok (.getfield 67, 3) := by decide +kernel
theorem dX4_declare_72 : decode cX4_declare 72 = .ok (.ifCond .le 7, 3) := by decide +kernel
theorem dX4_declare_75 : decode cX4_declare 75 = .ok (.iconst 2, 1) := by decide +kernel
theorem dX4_declare_76 : decode cX4_declare 76 = .ok (.goto 4, 3) := by decide +kernel
theorem dX4_declare_79 : decode cX4_declare 79 = .ok (.iconst 0, 1) := by decide +kernel
theorem dX4_declare_80 : decode cX4_declare 80 = .ok (.invokevirtual 70, 3) := by decide +kernel
theorem dX4_declare_83 : decode cX4_declare 83 = .ok (.ifCond .ne 5, 3) := by decide +kernel
theorem dX4_declare_86 : decode cX4_declare 86 = .ok (.iconst 0, 1) := by decide +kernel
theorem dX4_declare_87 : decode cX4_declare 87 = .ok (.ireturn, 1) := by decide +kernel
theorem dX4_declare_88 : decode cX4_declare 88 = .ok (.aload_n 0, 1) := by decide +kernel
theorem dX4_declare_89 : decode cX4_declare 89 = .ok (.getfield 7, 3) := by decide +kernel
theorem dX4_declare_92 : decode cX4_declare 92 = .ok (.aload_n 0, 1) := by decide +kernel
theorem dX4_declare_93 : decode cX4_declare 93 = .ok (.getfield 60, 3) := by decide +kernel
theorem dX4_declare_96 : decode cX4_declare 96 = .ok (.iload_n 1, 1) := by decide +kernel
theorem dX4_declare_97 : decode cX4_declare 97 = .ok (.iastore, 1) := by decide +kernel
theorem dX4_declare_98 : decode cX4_declare 98 = .ok (.aload_n 0, 1) := by decide +kernel
theorem dX4_declare_99 : decode cX4_declare 99 = .ok (.getfield 13, 3) := by decide +kernel
theorem dX4_declare_102 : decode cX4_declare 102 = .ok (.aload_n 0, 1) := by decide +kernel
theorem dX4_declare_103 : decode cX4_declare 103 = .ok (.getfield 60, 3) := by decide +kernel
theorem dX4_declare_106 : decode cX4_declare 106 = .ok (.iload_n 2, 1) := by decide +kernel
theorem dX4_declare_107 : decode cX4_declare 107 = .ok (.iastore, 1) := by decide +kernel
theorem dX4_declare_108 : decode cX4_declare 108 = .ok (.aload_n 0, 1) := by decide +kernel
theorem dX4_declare_109 : decode cX4_declare 109 = .ok (.getfield 16, 3) := by decide +kernel
theorem dX4_declare_112 : decode cX4_declare 112 = .ok (.aload_n 0, 1) := by decide +kernel
theorem dX4_declare_113 : decode cX4_declare 113 = .ok (.getfield 60, 3) := by decide +kernel
theorem dX4_declare_116 : decode cX4_declare 116 = .ok (.iload_n 3, 1) := by decide +kernel
theorem dX4_declare_117 : decode cX4_declare 117 = .ok (.iastore, 1) := by decide +kernel
theorem dX4_declare_118 : decode cX4_declare 118 = .ok (.aload_n 0, 1) := by decide +kernel
theorem dX4_declare_119 : decode cX4_declare 119 = .ok (.getfield 19, 3) := by decide +kernel
theorem dX4_declare_122 : decode cX4_declare 122 = .ok (.aload_n 0, 1) := by decide +kernel
theorem dX4_declare_123 : decode cX4_declare 123 = .ok (.getfield 60, 3) := by decide +kernel
theorem dX4_declare_126 : decode cX4_declare 126 = .ok (.iload 4, 2) := by decide +kernel
theorem dX4_declare_128 : decode cX4_declare 128 = .ok (.bastore, 1) := by decide +kernel
theorem dX4_declare_129 : decode cX4_declare 129 = .ok (.aload_n 0, 1) := by decide +kernel
theorem dX4_declare_130 : decode cX4_declare 130 = .ok (.getfield 23, 3) := by decide +kernel
theorem dX4_declare_133 : decode cX4_declare 133 = .ok (.aload_n 0, 1) := by decide +kernel
theorem dX4_declare_134 : decode cX4_declare 134 = .ok (.getfield 60, 3) := by decide +kernel
theorem dX4_declare_137 : decode cX4_declare 137 = .ok (.iload 5, 2) := by decide +kernel
theorem dX4_declare_139 : decode cX4_declare 139 = .ok (.iastore, 1) := by decide +kernel
theorem dX4_declare_140 : decode cX4_declare 140 = .ok (.aload_n 0, 1) := by decide +kernel
theorem dX4_declare_141 : decode cX4_declare 141 = .ok (.dup, 1) := by decide +kernel
theorem dX4_declare_142 : decode cX4_declare 142 = .ok (.getfield 60, 3) := by decide +kernel
theorem dX4_declare_145 : decode cX4_declare 145 = .ok (.iconst 1, 1) := by decide +kernel
theorem dX4_declare_146 : decode cX4_declare 146 = .ok (.iadd, 1) := by decide +kernel
theorem dX4_declare_147 : decode cX4_declare 147 = .ok (.putfield 60, 3) := by decide +kernel
theorem dX4_declare_150 : decode cX4_declare 150 = .ok (.aload_n 0, 1) := by decide +kernel
theorem dX4_declare_151 : decode cX4_declare 151 = .ok (.getfield 60, 3) := by decide +kernel
theorem dX4_declare_154 : decode cX4_declare 154 = .ok (.iconst 1, 1) := by decide +kernel
theorem dX4_declare_155 : decode cX4_declare 155 = .ok (.isub, 1) := by decide +kernel
theorem dX4_declare_156 : decode cX4_declare 156 = .ok (.ireturn, 1) := by decide +kernel
theorem dX4_placeOf_0 : decode cX4_placeOf 0 = .ok (.iconst 0, 1) := by decide +kernel
theorem dX4_placeOf_1 : decode cX4_placeOf 1 = .ok (.istore_n 3, 1) := by decide +kernel
theorem dX4_placeOf_2 : decode cX4_placeOf 2 = .ok (.iload_n 3, 1) := by decide +kernel
theorem dX4_placeOf_3 : decode cX4_placeOf 3 = .ok (.aload_n 0, 1) := by decide +kernel
theorem dX4_placeOf_4 : decode cX4_placeOf 4 = .ok (.getfield 38, 3) := by decide +kernel
theorem dX4_placeOf_7 : decode cX4_placeOf 7 = .ok (.iload_n 1, 1) := by decide +kernel
theorem dX4_placeOf_8 : decode cX4_placeOf 8 = .ok (.iaload, 1) := by decide +kernel
theorem dX4_placeOf_9 : decode cX4_placeOf 9 = .ok (.if_icmp .ge 24, 3) := by decide +kernel
theorem dX4_placeOf_12 : decode cX4_placeOf 12 = .ok (.aload_n 0, 1) := by decide +kernel
theorem dX4_placeOf_13 : decode cX4_placeOf 13 = .ok (.getfield 41, 3) := by decide +kernel
theorem dX4_placeOf_16 : decode cX4_placeOf 16 = .ok (.bipush 60, 2) := by decide +kernel
theorem dX4_placeOf_18 : decode cX4_placeOf 18 = .ok (.iload_n 1, 1) := by decide +kernel
theorem dX4_placeOf_19 : decode cX4_placeOf 19 = .ok (.imul, 1) := by decide +kernel
theorem dX4_placeOf_20 : decode cX4_placeOf 20 = .ok (.iload_n 3, 1) := by decide +kernel
theorem dX4_placeOf_21 : decode cX4_placeOf 21 = .ok (.iadd, 1) := by decide +kernel
theorem dX4_placeOf_22 : decode cX4_placeOf 22 = .ok (.iaload, 1) := by decide +kernel
theorem dX4_placeOf_23 : decode cX4_placeOf 23 = .ok (.iload_n 2, 1) := by decide +kernel
theorem dX4_placeOf_24 : decode cX4_placeOf 24 = .ok (.if_icmp .eq 9, 3) := by decide +kernel
theorem dX4_placeOf_27 : decode cX4_placeOf 27 = .ok (.iinc 3 1, 3) := by decide +kernel
theorem dX4_placeOf_30 : decode cX4_placeOf 30 = .ok (.goto (-28), 3) := by decide +kernel
theorem dX4_placeOf_33 : decode cX4_placeOf 33 = .ok (.iload_n 3, 1) := by decide +kernel
theorem dX4_placeOf_34 : decode cX4_placeOf 34 = .ok (.ireturn, 1) := by decide +kernel
theorem dX4_takeOut_0 : decode cX4_takeOut 0 = .ok (.aload_n 0, 1) := by decide +kernel
theorem dX4_takeOut_1 : decode cX4_takeOut 1 = .ok (.getfield 38, 3) := by decide +kernel
theorem dX4_takeOut_4 : decode cX4_takeOut 4 = .ok (.iload_n 1, 1) := by decide +kernel
theorem dX4_takeOut_5 : decode cX4_takeOut 5 = .ok (.dup2, 1) := by decide +kernel
theorem dX4_takeOut_6 : decode cX4_takeOut 6 = .ok (.iaload, 1) := by decide +kernel
theorem dX4_takeOut_7 : decode cX4_takeOut 7 = .ok (.iconst 1, 1) := by decide +kernel
theorem dX4_takeOut_8 : decode cX4_takeOut 8 = .ok (.isub, 1) := by decide +kernel
theorem dX4_takeOut_9 : decode cX4_takeOut 9 = .ok (.iastore, 1) := by decide +kernel
theorem dX4_takeOut_10 : decode cX4_takeOut 10 = .ok (.aload_n 0, 1) := by decide +kernel
theorem dX4_takeOut_11 : decode cX4_takeOut 11 = .ok (.iload_n 1, 1) := by decide +kernel
theorem dX4_takeOut_12 : decode cX4_takeOut 12 = .ok (.iload_n 2, 1) := by decide +kernel
theorem dX4_takeOut_13 : decode cX4_takeOut 13 = .ok (.invokevirtual 74, 3) := by decide +kernel
theorem dX4_takeOut_16 : decode cX4_takeOut 16 = .ok (.istore_n 3, 1) := by decide +kernel
theorem dX4_takeOut_17 : decode cX4_takeOut 17 = .ok (.iload_n 3, 1) := by decide +kernel
theorem dX4_takeOut_18 : decode cX4_takeOut 18 = .ok (.aload_n 0, 1) := by decide +kernel
theorem dX4_takeOut_19 : decode cX4_takeOut 19 = .ok (.getfield 38, 3) := by decide +kernel
theorem dX4_takeOut_22 : decode cX4_takeOut 22 = .ok (.iload_n 1, 1) := by decide +kernel
theorem dX4_takeOut_23 : decode cX4_takeOut 23 = .ok (.iaload, 1) := by decide +kernel
theorem dX4_takeOut_24 : decode cX4_takeOut 24 = .ok (.if_icmp .ge 33, 3) := by decide +kernel
theorem dX4_takeOut_27 : decode cX4_takeOut 27 = .ok (.aload_n 0, 1) := by decide +kernel
theorem dX4_takeOut_28 : decode cX4_takeOut 28 = .ok (.getfield 41, 3) := by decide +kernel
theorem dX4_takeOut_31 : decode cX4_takeOut 31 = .ok (.bipush 60, 2) := by decide +kernel
theorem dX4_takeOut_33 : decode cX4_takeOut 33 = .ok (.iload_n 1, 1) := by decide +kernel
theorem dX4_takeOut_34 : decode cX4_takeOut 34 = .ok (.imul, 1) := by decide +kernel
theorem dX4_takeOut_35 : decode cX4_takeOut 35 = .ok (.iload_n 3, 1) := by decide +kernel
theorem dX4_takeOut_36 : decode cX4_takeOut 36 = .ok (.iadd, 1) := by decide +kernel
theorem dX4_takeOut_37 : decode cX4_takeOut 37 = .ok (.aload_n 0, 1) := by decide +kernel
theorem dX4_takeOut_38 : decode cX4_takeOut 38 = .ok (.getfield 41, 3) := by decide +kernel
theorem dX4_takeOut_41 : decode cX4_takeOut 41 = .ok (.bipush 60, 2) := by decide +kernel
theorem dX4_takeOut_43 : decode cX4_takeOut 43 = .ok (.iload_n 1, 1) := by decide +kernel
theorem dX4_takeOut_44 : decode cX4_takeOut 44 = .ok (.imul, 1) := by decide +kernel
theorem dX4_takeOut_45 : decode cX4_takeOut 45 = .ok (.iload_n 3, 1) := by decide +kernel
theorem dX4_takeOut_46 : decode cX4_takeOut 46 = .ok (.iadd, 1) := by decide +kernel
theorem dX4_takeOut_47 : decode cX4_takeOut 47 = .ok (.iconst 1, 1) := by decide +kernel
theorem dX4_takeOut_48 : decode cX4_takeOut 48 = .ok (.iadd, 1) := by decide +kernel
theorem dX4_takeOut_49 : decode cX4_takeOut 49 = .ok (.iaload, 1) := by decide +kernel
theorem dX4_takeOut_50 : decode cX4_takeOut 50 = .ok (.iastore, 1) := by decide +kernel
theorem dX4_takeOut_51 : decode cX4_takeOut 51 = .ok (.iinc 3 1, 3) := by decide +kernel
theorem dX4_takeOut_54 : decode cX4_takeOut 54 = .ok (.goto (-37), 3) := by decide +kernel
theorem dX4_takeOut_57 : decode cX4_takeOut 57 = .ok (.aload_n 0, 1) := by decide +kernel
theorem dX4_takeOut_58 : decode cX4_takeOut 58 = .ok (.getfield 35, 3) := by decide +kernel
theorem dX4_takeOut_61 : decode cX4_takeOut 61 = .ok (.bipush 60, 2) := by decide +kernel
theorem dX4_takeOut_63 : decode cX4_takeOut 63 = .ok (.iload_n 1, 1) := by decide +kernel
theorem dX4_takeOut_64 : decode cX4_takeOut 64 = .ok (.imul, 1) := by decide +kernel
theorem dX4_takeOut_65 : decode cX4_takeOut 65 = .ok (.iload_n 2, 1) := by decide +kernel
theorem dX4_takeOut_66 : decode cX4_takeOut 66 = .ok (.iadd, 1) := by decide +kernel
theorem dX4_takeOut_67 : decode cX4_takeOut 67 = .ok (.iconst (-1), 1) := by decide +kernel
theorem dX4_takeOut_68 : decode cX4_takeOut 68 = .ok (.iastore, 1) := by decide +kernel
theorem dX4_takeOut_69 : decode cX4_takeOut 69 = .ok (.return_, 1) := by decide +kernel
theorem dX4_newPlace_0 : decode cX4_newPlace 0 = .ok (.aload_n 0, 1) := by decide +kernel
theorem dX4_newPlace_1 : decode cX4_newPlace 1 = .ok (.getfield 47, 3) := by decide +kernel
theorem dX4_newPlace_4 : decode cX4_newPlace 4 = .ok (.iload_n 1, 1) := by decide +kernel
theorem dX4_newPlace_5 : decode cX4_newPlace 5 = .ok (.iaload, 1) := by decide +kernel
theorem dX4_newPlace_6 : decode cX4_newPlace 6 = .ok (.istore 4, 2) := by decide +kernel
theorem dX4_newPlace_8 : decode cX4_newPlace 8 = .ok (.aload_n 0, 1) := by decide +kernel
theorem dX4_newPlace_9 : decode cX4_newPlace 9 = .ok (.getfield 16, 3) := by decide +kernel
theorem dX4_newPlace_12 : decode cX4_newPlace 12 = .ok (.iload_n 1, 1) := by decide +kernel
theorem dX4_newPlace_13 : decode cX4_newPlace 13 = .ok (.iaload, 1) := by decide +kernel
theorem dX4_newPlace_14 : decode cX4_newPlace 14 = .ok (.istore 5, 2) := by decide +kernel
theorem dX4_newPlace_16 : decode cX4_newPlace 16 = .ok (.iload 5, 2) := by decide +kernel
theorem dX4_newPlace_18 : decode cX4_newPlace 18 = .ok (.iconst 4, 1) := by decide +kernel
theorem dX4_newPlace_19 : decode cX4_newPlace 19 = .ok (.if_icmp .ne 73, 3) := by decide +kernel
theorem dX4_newPlace_22 : decode cX4_newPlace 22 = .ok (.iconst 0, 1) := by decide +kernel
theorem dX4_newPlace_23 : decode cX4_newPlace 23 = .ok (.istore 6, 2) := by decide +kernel
theorem dX4_newPlace_25 : decode cX4_newPlace 25 = .ok (.iload 6, 2) := by decide +kernel
theorem dX4_newPlace_27 : decode cX4_newPlace 27 = .ok (.aload_n 0, 1) := by decide +kernel
theorem dX4_newPlace_28 : decode cX4_newPlace 28 = .ok (.getfield 38, 3) := by decide +kernel
theorem dX4_newPlace_31 : decode cX4_newPlace 31 = .ok (.iload_n 1, 1) := by decide +kernel
theorem dX4_newPlace_32 : decode cX4_newPlace 32 = .ok (.iaload, 1) := by decide +kernel
theorem dX4_newPlace_33 : decode cX4_newPlace 33 = .ok (.if_icmp .ge 56, 3) := by decide +kernel
theorem dX4_newPlace_36 : decode cX4_newPlace 36 = .ok (.aload_n 0, 1) := by decide +kernel
theorem dX4_newPlace_37 : decode cX4_newPlace 37 = .ok (.iload_n 1, 1) := by decide +kernel
theorem dX4_newPlace_38 : decode cX4_newPlace 38 = .ok (.aload_n 0, 1) := by decide +kernel
theorem dX4_newPlace_39 : decode cX4_newPlace 39 = .ok (.getfield 41, 3) := by decide +kernel
theorem dX4_newPlace_42 : decode cX4_newPlace 42 = .ok (.bipush 60, 2) := by decide +kernel
theorem dX4_newPlace_44 : decode cX4_newPlace 44 = .ok (.iload_n 1, 1) := by decide +kernel
theorem dX4_newPlace_45 : decode cX4_newPlace 45 = .ok (.imul, 1) := by decide +kernel
theorem dX4_newPlace_46 : decode cX4_newPlace 46 = .ok (.iload 6, 2) := by decide +kernel
theorem dX4_newPlace_48 : decode cX4_newPlace 48 = .ok (.iadd, 1) := by decide +kernel
theorem dX4_newPlace_49 : decode cX4_newPlace 49 = .ok (.iaload, 1) := by decide +kernel
theorem dX4_newPlace_50 : decode cX4_newPlace 50 = .ok (.invokevirtual 78, 3) := by decide +kernel
theorem dX4_newPlace_53 : decode cX4_newPlace 53 = .ok (.iload_n 3, 1) := by decide +kernel
theorem dX4_newPlace_54 : decode cX4_newPlace 54 = .ok (.if_icmp .ne 29, 3) := by decide +kernel
theorem dX4_newPlace_57 : decode cX4_newPlace 57 = .ok (.aload_n 0, 1) := by decide +kernel
theorem dX4_newPlace_58 : decode cX4_newPlace 58 = .ok (.getfield 32, 3) := by decide +kernel
theorem dX4_newPlace_61 : decode cX4_newPlace 61 = .ok (.aload_n 0, 1) := by decide +kernel
theorem dX4_newPlace_62 : decode cX4_newPlace 62 = .ok (.getfield 41, 3) := by decide +kernel
theorem dX4_newPlace_65 : decode cX4_newPlace 65 = .ok (.bipush 60, 2) := by decide +kernel
theorem dX4_newPlace_67 : decode cX4_newPlace 67 = .ok (.iload_n 1, 1) := by decide +kernel
theorem dX4_newPlace_68 : decode cX4_newPlace 68 = .ok (.imul, 1) := by decide +kernel
theorem dX4_newPlace_69 : decode cX4_newPlace 69 = .ok (.iload 6, 2) := by decide +kernel
theorem dX4_newPlace_71 : decode cX4_newPlace 71 = .ok (.iadd, 1) := by decide +kernel
theorem dX4_newPlace_72 : decode cX4_newPlace 72 = .ok (.iaload, 1) := by decide +kernel
theorem dX4_newPlace_73 : decode cX4_newPlace 73 = .ok (.iaload, 1) := by decide +kernel
theorem dX4_newPlace_74 : decode cX4_newPlace 74 = .ok (.aload_n 0, 1) := by decide +kernel
theorem dX4_newPlace_75 : decode cX4_newPlace 75 = .ok (.getfield 32, 3) := by decide +kernel
theorem dX4_newPlace_78 : decode cX4_newPlace 78 = .ok (.iload_n 2, 1) := by decide +kernel
theorem dX4_newPlace_79 : decode cX4_newPlace 79 = .ok (.iaload, 1) := by decide +kernel
theorem dX4_newPlace_80 : decode cX4_newPlace 80 = .ok (.if_icmp .gt 9, 3) := by decide +kernel
theorem dX4_newPlace_83 : decode cX4_newPlace 83 = .ok (.iinc 6 1, 3) := by decide +kernel
theorem dX4_newPlace_86 : decode cX4_newPlace 86 = .ok (.goto (-61), 3) := by decide +kernel
theorem dX4_newPlace_89 : decode cX4_newPlace 89 = .ok (.iload 6, 2) := by decide +kernel
theorem dX4_newPlace_91 : decode cX4_newPlace 91 = .ok (.ireturn, 1) := by decide +kernel
theorem dX4_newPlace_92 : decode cX4_newPlace 92 = .ok (.iload 4, 2) := by decide +kernel
theorem dX4_newPlace_94 : decode cX4_newPlace 94 = .ok (.iconst (-1), 1) := by decide +kernel
theorem dX4_newPlace_95 : decode cX4_newPlace 95 = .ok (.if_icmp .eq 18, 3) := by decide +kernel
theorem dX4_newPlace_98 : decode cX4_newPlace 98 = .ok (.aload_n 0, 1) := by decide +kernel
theorem dX4_newPlace_99 : decode cX4_newPlace 99 = .ok (.iload_n 1, 1) := by decide +kernel
theorem dX4_newPlace_100 : decode cX4_newPlace 100 = .ok (.iload 4, 2) := by decide +kernel
theorem dX4_newPlace_102 : decode cX4_newPlace 102 = .ok (.invokevirtual 78, 3) := by decide +kernel
theorem dX4_newPlace_105 : decode cX4_newPlace 105 = .ok (.iload_n 3, 1) := by decide +kernel
theorem dX4_newPlace_106 : decode cX4_newPlace 106 = .ok (.if_icmp .ne 7, 3) := by decide +kernel
theorem dX4_newPlace_109 : decode cX4_newPlace 109 = .ok (.iconst 1, 1) := by decide +kernel
theorem dX4_newPlace_110 : decode cX4_newPlace 110 = .ok (.goto 4, 3) := by decide +kernel
theorem dX4_newPlace_113 : decode cX4_newPlace 113 = .ok (.iconst 0, 1) := by decide +kernel
theorem dX4_newPlace_114 : decode cX4_newPlace 114 = .ok (.istore 6, 2) := by decide +kernel
theorem dX4_newPlace_116 : decode cX4_newPlace 116 = .ok (.iload 6, 2) := by decide +kernel
theorem dX4_newPlace_118 : decode cX4_newPlace 118 = .ok (.ifCond .eq 29, 3) := by decide +kernel
theorem dX4_newPlace_121 : decode cX4_newPlace 121 = .ok (.iload 5, 2) := by decide +kernel
theorem dX4_newPlace_123 : decode cX4_newPlace 123 = .ok (.iconst 2, 1) := by decide +kernel
theorem dX4_newPlace_124 : decode cX4_newPlace 124 = .ok (.if_icmp .lt 23, 3) := by decide +kernel
theorem dX4_newPlace_127 : decode cX4_newPlace 127 = .ok (.aload_n 0, 1) := by decide +kernel
theorem dX4_newPlace_128 : decode cX4_newPlace 128 = .ok (.iload_n 1, 1) := by decide +kernel
theorem dX4_newPlace_129 : decode cX4_newPlace 129 = .ok (.iload 4, 2) := by decide +kernel
theorem dX4_newPlace_131 : decode cX4_newPlace 131 = .ok (.invokevirtual 74, 3) := by decide +kernel
theorem dX4_newPlace_134 : decode cX4_newPlace 134 = .ok (.iload 5, 2) := by decide +kernel
theorem dX4_newPlace_136 : decode cX4_newPlace 136 = .ok (.iconst 2, 1) := by decide +kernel
theorem dX4_newPlace_137 : decode cX4_newPlace 137 = .ok (.if_icmp .ne 7, 3) := by decide +kernel
theorem dX4_newPlace_140 : decode cX4_newPlace 140 = .ok (.iconst 1, 1) := by decide +kernel
theorem dX4_newPlace_141 : decode cX4_newPlace 141 = .ok (.goto 4, 3) := by decide +kernel
theorem dX4_newPlace_144 : decode cX4_newPlace 144 = .ok (.iconst 0, 1) := by decide +kernel
theorem dX4_newPlace_145 : decode cX4_newPlace 145 = .ok (.iadd, 1) := by decide +kernel
theorem dX4_newPlace_146 : decode cX4_newPlace 146 = .ok (.ireturn, 1) := by decide +kernel
theorem dX4_newPlace_147 : decode cX4_newPlace 147 = .ok (.iload 5, 2) := by decide +kernel
theorem dX4_newPlace_149 : decode cX4_newPlace 149 = .ok (.ifCond .eq 9, 3) := by decide +kernel
theorem dX4_newPlace_152 : decode cX4_newPlace 152 = .ok (.iload 5, 2) := by decide +kernel
theorem dX4_newPlace_154 : decode cX4_newPlace 154 = .ok (.iconst 2, 1) := by decide +kernel
theorem dX4_newPlace_155 : decode cX4_newPlace 155 = .ok (.if_icmp .ne 7, 3) := by decide +kernel
theorem dX4_newPlace_158 : decode cX4_newPlace 158 = .ok (.iconst 0, 1) := by decide +kernel
theorem dX4_newPlace_159 : decode cX4_newPlace 159 = .ok (.goto 9, 3) := by decide +kernel
theorem dX4_newPlace_162 : decode cX4_newPlace 162 = .ok (.aload_n 0, 1) := by decide +kernel
theorem dX4_newPlace_163 : decode cX4_newPlace 163 = .ok (.getfield 38, 3) := by decide +kernel
theorem dX4_newPlace_166 : decode cX4_newPlace 166 = .ok (.iload_n 1, 1) := by decide +kernel
theorem dX4_newPlace_167 : decode cX4_newPlace 167 = .ok (.iaload, 1) := by decide +kernel
theorem dX4_newPlace_168 : decode cX4_newPlace 168 = .ok (.ireturn, 1) := by decide +kernel
theorem dX4_insert_0 : decode cX4_insert 0 = .ok (.aload_n 0, 1) := by decide +kernel
theorem dX4_insert_1 : decode cX4_insert 1 = .ok (.iload_n 1, 1) := by decide +kernel
theorem dX4_insert_2 : decode cX4_insert 2 = .ok (.iload_n 2, 1) := by decide +kernel
theorem dX4_insert_3 : decode cX4_insert 3 = .ok (.iload_n 3, 1) := by decide +kernel
theorem dX4_insert_4 : decode cX4_insert 4 = .ok (.invokevirtual 81, 3) := by decide +kernel
theorem dX4_insert_7 : decode cX4_insert 7 = .ok (.istore 4, 2) := by decide +kernel
theorem dX4_insert_9 : decode cX4_insert 9 = .ok (.aload_n 0, 1) := by decide +kernel
theorem dX4_insert_10 : decode cX4_insert 10 = .ok (.getfield 38, 3) := by decide +kernel
theorem dX4_insert_13 : decode cX4_insert 13 = .ok (.iload_n 1, 1) := by decide +kernel
theorem dX4_insert_14 : decode cX4_insert 14 = .ok (.iaload, 1) := by decide +kernel
theorem dX4_insert_15 : decode cX4_insert 15 = .ok (.istore 5, 2) := by decide +kernel
theorem dX4_insert_17 : decode cX4_insert 17 = .ok (.iload 5, 2) := by decide +kernel
theorem dX4_insert_19 : decode cX4_insert 19 = .ok (.iload 4, 2) := by decide +kernel
theorem dX4_insert_21 : decode cX4_insert 21 = .ok (.if_icmp .le 35, 3) := by decide +kernel
theorem dX4_insert_24 : decode cX4_insert 24 = .ok (.aload_n 0, 1) := by decide +kernel
theorem dX4_insert_25 : decode cX4_insert 25 = .ok (.getfield 41, 3) := by decide +kernel
theorem dX4_insert_28 : decode cX4_insert 28 = .ok (.bipush 60, 2) := by decide +kernel
theorem dX4_insert_30 : decode cX4_insert 30 = .ok (.iload_n 1, 1) := by decide +kernel
theorem dX4_insert_31 : decode cX4_insert 31 = .ok (.imul, 1) := by decide +kernel
theorem dX4_insert_32 : decode cX4_insert 32 = .ok (.iload 5, 2) := by decide +kernel
theorem dX4_insert_34 : decode cX4_insert 34 = .ok (.iadd, 1) := by decide +kernel
theorem dX4_insert_35 : decode cX4_insert 35 = .ok (.aload_n 0, 1) := by decide +kernel
theorem dX4_insert_36 : decode cX4_insert 36 = .ok (.getfield 41, 3) := by decide +kernel
theorem dX4_insert_39 : decode cX4_insert 39 = .ok (.bipush 60, 2) := by decide +kernel
theorem dX4_insert_41 : decode cX4_insert 41 = .ok (.iload_n 1, 1) := by decide +kernel
theorem dX4_insert_42 : decode cX4_insert 42 = .ok (.imul, 1) := by decide +kernel
theorem dX4_insert_43 : decode cX4_insert 43 = .ok (.iload 5, 2) := by decide +kernel
theorem dX4_insert_45 : decode cX4_insert 45 = .ok (.iadd, 1) := by decide +kernel
theorem dX4_insert_46 : decode cX4_insert 46 = .ok (.iconst 1, 1) := by decide +kernel
theorem dX4_insert_47 : decode cX4_insert 47 = .ok (.isub, 1) := by decide +kernel
theorem dX4_insert_48 : decode cX4_insert 48 = .ok (.iaload, 1) := by decide +kernel
theorem dX4_insert_49 : decode cX4_insert 49 = .ok (.iastore, 1) := by decide +kernel
theorem dX4_insert_50 : decode cX4_insert 50 = .ok (.iinc 5 (-1), 3) := by decide +kernel
theorem dX4_insert_53 : decode cX4_insert 53 = .ok (.goto (-36), 3) := by decide +kernel
theorem dX4_insert_56 : decode cX4_insert 56 = .ok (.aload_n 0, 1) := by decide +kernel
theorem dX4_insert_57 : decode cX4_insert 57 = .ok (.getfield 41, 3) := by decide +kernel
theorem dX4_insert_60 : decode cX4_insert 60 = .ok (.bipush 60, 2) := by decide +kernel
theorem dX4_insert_62 : decode cX4_insert 62 = .ok (.iload_n 1, 1) := by decide +kernel
theorem dX4_insert_63 : decode cX4_insert 63 = .ok (.imul, 1) := by decide +kernel
theorem dX4_insert_64 : decode cX4_insert 64 = .ok (.iload 4, 2) := by decide +kernel
theorem dX4_insert_66 : decode cX4_insert 66 = .ok (.iadd, 1) := by decide +kernel
theorem dX4_insert_67 : decode cX4_insert 67 = .ok (.iload_n 2, 1) := by decide +kernel
theorem dX4_insert_68 : decode cX4_insert 68 = .ok (.iastore, 1) := by decide +kernel
theorem dX4_insert_69 : decode cX4_insert 69 = .ok (.aload_n 0, 1) := by decide +kernel
theorem dX4_insert_70 : decode cX4_insert 70 = .ok (.getfield 38, 3) := by decide +kernel
theorem dX4_insert_73 : decode cX4_insert 73 = .ok (.iload_n 1, 1) := by decide +kernel
theorem dX4_insert_74 : decode cX4_insert 74 = .ok (.dup2, 1) := by decide +kernel
theorem dX4_insert_75 : decode cX4_insert 75 = .ok (.iaload, 1) := by decide +kernel
theorem dX4_insert_76 : decode cX4_insert 76 = .ok (.iconst 1, 1) := by decide +kernel
theorem dX4_insert_77 : decode cX4_insert 77 = .ok (.iadd, 1) := by decide +kernel
theorem dX4_insert_78 : decode cX4_insert 78 = .ok (.iastore, 1) := by decide +kernel
theorem dX4_insert_79 : decode cX4_insert 79 = .ok (.aload_n 0, 1) := by decide +kernel
theorem dX4_insert_80 : decode cX4_insert 80 = .ok (.getfield 35, 3) := by decide +kernel
theorem dX4_insert_83 : decode cX4_insert 83 = .ok (.bipush 60, 2) := by decide +kernel
theorem dX4_insert_85 : decode cX4_insert 85 = .ok (.iload_n 1, 1) := by decide +kernel
theorem dX4_insert_86 : decode cX4_insert 86 = .ok (.imul, 1) := by decide +kernel
theorem dX4_insert_87 : decode cX4_insert 87 = .ok (.iload_n 2, 1) := by decide +kernel
theorem dX4_insert_88 : decode cX4_insert 88 = .ok (.iadd, 1) := by decide +kernel
theorem dX4_insert_89 : decode cX4_insert 89 = .ok (.iload_n 3, 1) := by decide +kernel
theorem dX4_insert_90 : decode cX4_insert 90 = .ok (.iastore, 1) := by decide +kernel
theorem dX4_insert_91 : decode cX4_insert 91 = .ok (.return_, 1) := by decide +kernel
theorem dX4_currentOwner_0 : decode cX4_currentOwner 0 = .ok (.aload_n 0, 1) := by decide +kernel
theorem dX4_currentOwner_1 : decode cX4_currentOwner 1 = .ok (.getfield 47, 3) := by decide +kernel
theorem dX4_currentOwner_4 : decode cX4_currentOwner 4 = .ok (.iload_n 1, 1) := by decide +kernel
theorem dX4_currentOwner_5 : decode cX4_currentOwner 5 = .ok (.iaload, 1) := by decide +kernel
theorem dX4_currentOwner_6 : decode cX4_currentOwner 6 = .ok (.istore_n 2, 1) := by decide +kernel
theorem dX4_currentOwner_7 : decode cX4_currentOwner 7 = .ok (.iload_n 2, 1) := by decide +kernel
theorem dX4_currentOwner_8 : decode cX4_currentOwner 8 = .ok (.iconst (-1), 1) := by decide +kernel
theorem dX4_currentOwner_9 : decode cX4_currentOwner 9 = .ok (.if_icmp .eq 18, 3) := by decide +kernel
theorem dX4_currentOwner_12 : decode cX4_currentOwner 12 = .ok (.aload_n 0, 1) := by decide +kernel
theorem dX4_currentOwner_13 : decode cX4_currentOwner 13 = .ok (.getfield 29, 3) := by decide +kernel
theorem dX4_currentOwner_16 : decode cX4_currentOwner 16 = .ok (.iload_n 2, 1) := by decide +kernel
theorem dX4_currentOwner_17 : decode cX4_currentOwner 17 = .ok (.iaload, 1) := by decide +kernel
theorem dX4_currentOwner_18 : decode cX4_currentOwner 18 = .ok (.aload_n 0, 1) := by decide +kernel
theorem dX4_currentOwner_19 : decode cX4_currentOwner 19 = .ok (.getfield 7, 3) := by decide +kernel
theorem dX4_currentOwner_22 : decode cX4_currentOwner 22 = .ok (.iload_n 1, 1) := by decide +kernel
theorem dX4_currentOwner_23 : decode cX4_currentOwner 23 = .ok (.iaload, 1) := by decide +kernel
theorem dX4_currentOwner_24 : decode cX4_currentOwner 24 = .ok (.if_icmp .ne 7, 3) := by decide +kernel
theorem dX4_currentOwner_27 : decode cX4_currentOwner 27 = .ok (.iload_n 2, 1) := by decide +kernel
theorem dX4_currentOwner_28 : decode cX4_currentOwner 28 = .ok (.goto 9, 3) := by decide +kernel
theorem dX4_currentOwner_31 : decode cX4_currentOwner 31 = .ok (.aload_n 0, 1) := by decide +kernel
theorem dX4_currentOwner_32 : decode cX4_currentOwner 32 = .ok (.iload_n 1, 1) := by decide +kernel
theorem dX4_currentOwner_33 : decode cX4_currentOwner 33 = .ok (.iload_n 2, 1) := by decide +kernel
theorem dX4_currentOwner_34 : decode cX4_currentOwner 34 = .ok (.invokevirtual 78, 3) := by decide +kernel
theorem dX4_currentOwner_37 : decode cX4_currentOwner 37 = .ok (.ireturn, 1) := by decide +kernel
theorem dX4_membersOf_0 : decode cX4_membersOf 0 = .ok (.iconst 0, 1) := by decide +kernel
theorem dX4_membersOf_1 : decode cX4_membersOf 1 = .ok (.istore_n 3, 1) := by decide +kernel
theorem dX4_membersOf_2 : decode cX4_membersOf 2 = .ok (.iconst 0, 1) := by decide +kernel
theorem dX4_membersOf_3 : decode cX4_membersOf 3 = .ok (.istore 4, 2) := by decide +kernel
theorem dX4_membersOf_5 : decode cX4_membersOf 5 = .ok (.iload 4, 2) := by decide +kernel
theorem dX4_membersOf_7 : decode cX4_membersOf 7 = .ok (.aload_n 0, 1) := by decide +kernel
theorem dX4_membersOf_8 : decode cX4_membersOf 8 = .ok (.getfield 38, 3) := by decide +kernel
theorem dX4_membersOf_11 : decode cX4_membersOf 11 = .ok (.iload_n 1, 1) := by decide +kernel
theorem dX4_membersOf_12 : decode cX4_membersOf 12 = .ok (.iaload, 1) := by decide +kernel
theorem dX4_membersOf_13 : decode cX4_membersOf 13 = .ok (.if_icmp .ge 38, 3) := by decide +kernel
theorem dX4_membersOf_16 : decode cX4_membersOf 16 = .ok (.iload_n 3, 1) := by decide +kernel
theorem dX4_membersOf_17 : decode cX4_membersOf 17 = .ok (.aload_n 0, 1) := by decide +kernel
theorem dX4_membersOf_18 : decode cX4_membersOf 18 = .ok (.iload_n 1, 1) := by decide +kernel
theorem dX4_membersOf_19 : decode cX4_membersOf 19 = .ok (.aload_n 0, 1) := by decide +kernel
theorem dX4_membersOf_20 : decode cX4_membersOf 20 = .ok (.getfield 41, 3) := by decide +kernel
theorem dX4_membersOf_23 : decode cX4_membersOf 23 = .ok (.bipush 60, 2) := by decide +kernel
theorem dX4_membersOf_25 : decode cX4_membersOf 25 = .ok (.iload_n 1, 1) := by decide +kernel
theorem dX4_membersOf_26 : decode cX4_membersOf 26 = .ok (.imul, 1) := by decide +kernel
theorem dX4_membersOf_27 : decode cX4_membersOf 27 = .ok (.iload 4, 2) := by decide +kernel
theorem dX4_membersOf_29 : decode cX4_membersOf 29 = .ok (.iadd, 1) := by decide +kernel
theorem dX4_membersOf_30 : decode cX4_membersOf 30 = .ok (.iaload, 1) := by decide +kernel
theorem dX4_membersOf_31 : decode cX4_membersOf 31 = .ok (.invokevirtual 78, 3) := by decide +kernel
theorem dX4_membersOf_34 : decode cX4_membersOf 34 = .ok (.iload_n 2, 1) := by decide +kernel
theorem dX4_membersOf_35 : decode cX4_membersOf 35 = .ok (.if_icmp .ne 7, 3) := by decide +kernel
theorem dX4_membersOf_38 : decode cX4_membersOf 38 = .ok (.iconst 1, 1) := by decide +kernel
theorem dX4_membersOf_39 : decode cX4_membersOf 39 = .ok (.goto 4, 3) := by decide +kernel
theorem dX4_membersOf_42 : decode cX4_membersOf 42 = .ok (.iconst 0, 1) := by decide +kernel
theorem dX4_membersOf_43 : decode cX4_membersOf 43 = .ok (.iadd, 1) := by decide +kernel
theorem dX4_membersOf_44 : decode cX4_membersOf 44 = .ok (.istore_n 3, 1) := by decide +kernel
theorem dX4_membersOf_45 : decode cX4_membersOf 45 = .ok (.iinc 4 1, 3) := by decide +kernel
theorem dX4_membersOf_48 : decode cX4_membersOf 48 = .ok (.goto (-43), 3) := by decide +kernel
theorem dX4_membersOf_51 : decode cX4_membersOf 51 = .ok (.iload_n 3, 1) := by decide +kernel
theorem dX4_membersOf_52 : decode cX4_membersOf 52 = .ok (.ireturn, 1) := by decide +kernel
theorem dX4_memberOf_0 : decode cX4_memberOf 0 = .ok (.iload_n 3, 1) := by decide +kernel
theorem dX4_memberOf_1 : decode cX4_memberOf 1 = .ok (.istore 4, 2) := by decide +kernel
theorem dX4_memberOf_3 : decode cX4_memberOf 3 = .ok (.iconst (-1), 1) := by decide +kernel
theorem dX4_memberOf_4 : decode cX4_memberOf 4 = .ok (.istore 5, 2) := by decide +kernel
theorem dX4_memberOf_6 : decode cX4_memberOf 6 = .ok (.iconst 0, 1) := by decide +kernel
theorem dX4_memberOf_7 : decode cX4_memberOf 7 = .ok (.istore 6, 2) := by decide +kernel
theorem dX4_memberOf_9 : decode cX4_memberOf 9 = .ok (.iload 6, 2) := by decide +kernel
theorem dX4_memberOf_11 : decode cX4_memberOf 11 = .ok (.aload_n 0, 1) := by decide +kernel
theorem dX4_memberOf_12 : decode cX4_memberOf 12 = .ok (.getfield 38, 3) := by decide +kernel
theorem dX4_memberOf_15 : decode cX4_memberOf 15 = .ok (.iload_n 1, 1) := by decide +kernel
theorem dX4_memberOf_16 : decode cX4_memberOf 16 = .ok (.iaload, 1) := by decide +kernel
theorem dX4_memberOf_17 : decode cX4_memberOf 17 = .ok (.if_icmp .ge 74, 3) := by decide +kernel
theorem dX4_memberOf_20 : decode cX4_memberOf 20 = .ok (.iload 5, 2) := by decide +kernel
theorem dX4_memberOf_22 : decode cX4_memberOf 22 = .ok (.iconst (-1), 1) := by decide +kernel
theorem dX4_memberOf_23 : decode cX4_memberOf 23 = .ok (.if_icmp .ne 68, 3) := by decide +kernel
theorem dX4_memberOf_26 : decode cX4_memberOf 26 = .ok (.aload_n 0, 1) := by decide +kernel
theorem dX4_memberOf_27 : decode cX4_memberOf 27 = .ok (.getfield 41, 3) := by decide +kernel
theorem dX4_memberOf_30 : decode cX4_memberOf 30 = .ok (.bipush 60, 2) := by decide +kernel
theorem dX4_memberOf_32 : decode cX4_memberOf 32 = .ok (.iload_n 1, 1) := by decide +kernel
theorem dX4_memberOf_33 : decode cX4_memberOf 33 = .ok (.imul, 1) := by decide +kernel
theorem dX4_memberOf_34 : decode cX4_memberOf 34 = .ok (.iload 6, 2) := by decide +kernel
theorem dX4_memberOf_36 : decode cX4_memberOf 36 = .ok (.iadd, 1) := by decide +kernel
theorem dX4_memberOf_37 : decode cX4_memberOf 37 = .ok (.iaload, 1) := by decide +kernel
theorem dX4_memberOf_38 : decode cX4_memberOf 38 = .ok (.istore 7, 2) := by decide +kernel
theorem dX4_memberOf_40 : decode cX4_memberOf 40 = .ok (.aload_n 0, 1) := by decide +kernel
theorem dX4_memberOf_41 : decode cX4_memberOf 41 = .ok (.iload_n 1, 1) := by decide +kernel
theorem dX4_memberOf_42 : decode cX4_memberOf 42 = .ok (.iload 7, 2) := by decide +kernel
theorem dX4_memberOf_44 : decode cX4_memberOf 44 = .ok (.invokevirtual 78, 3) := by decide +kernel
theorem dX4_memberOf_47 : decode cX4_memberOf 47 = .ok (.iload_n 2, 1) := by decide +kernel
theorem dX4_memberOf_48 : decode cX4_memberOf 48 = .ok (.if_icmp .ne 13, 3) := by decide +kernel
theorem dX4_memberOf_51 : decode cX4_memberOf 51 = .ok (.iload 4, 2) := by decide +kernel
theorem dX4_memberOf_53 : decode cX4_memberOf 53 = .ok (.ifCond .ne 8, 3) := by decide +kernel
theorem dX4_memberOf_56 : decode cX4_memberOf 56 = .ok (.iload 7, 2) := by decide +kernel
theorem dX4_memberOf_58 : decode cX4_memberOf 58 = .ok (.goto 4, 3) := by decide +kernel
theorem dX4_memberOf_61 : decode cX4_memberOf 61 = .ok (.iconst (-1), 1) := by decide +kernel
theorem dX4_memberOf_62 : decode cX4_memberOf 62 = .ok (.istore 5, 2) := by decide +kernel
theorem dX4_memberOf_64 : decode cX4_memberOf 64 = .ok (.iload 4, 2) := by decide +kernel
theorem dX4_memberOf_66 : decode cX4_memberOf 66 = .ok (.aload_n 0, 1) := by decide +kernel
theorem dX4_memberOf_67 : decode cX4_memberOf 67 = .ok (.iload_n 1, 1) := by decide +kernel
theorem dX4_memberOf_68 : decode cX4_memberOf 68 = .ok (.iload 7, 2) := by decide +kernel
theorem dX4_memberOf_70 : decode cX4_memberOf 70 = .ok (.invokevirtual 78, 3) := by decide +kernel
theorem dX4_memberOf_73 : decode cX4_memberOf 73 = .ok (.iload_n 2, 1) := by decide +kernel
theorem dX4_memberOf_74 : decode cX4_memberOf 74 = .ok (.if_icmp .ne 7, 3) := by decide +kernel
theorem dX4_memberOf_77 : decode cX4_memberOf 77 = .ok (.iconst 1, 1) := by decide +kernel
theorem dX4_memberOf_78 : decode cX4_memberOf 78 = .ok (.goto 4, 3) := by decide +kernel
theorem dX4_memberOf_81 : decode cX4_memberOf 81 = .ok (.iconst 0, 1) := by decide +kernel
theorem dX4_memberOf_82 : decode cX4_memberOf 82 = .ok (.isub, 1) := by decide +kernel
theorem dX4_memberOf_83 : decode cX4_memberOf 83 = .ok (.istore 4, 2) := by decide +kernel
theorem dX4_memberOf_85 : decode cX4_memberOf 85 = .ok (.iinc 6 1, 3) := by decide +kernel
theorem dX4_memberOf_88 : decode cX4_memberOf 88 = .ok (.goto (-79), 3) := by decide +kernel
theorem dX4_memberOf_91 : decode cX4_memberOf 91 = .ok (.iload 5, 2) := by decide +kernel
theorem dX4_memberOf_93 : decode cX4_memberOf 93 = .ok (.ireturn, 1) := by decide +kernel
theorem dX4_becomes_0 : decode cX4_becomes 0 = .ok (.iload_n 1, 1) := by decide +kernel
theorem dX4_becomes_1 : decode cX4_becomes 1 = .ok (.iconst (-1), 1) := by decide +kernel
theorem dX4_becomes_2 : decode cX4_becomes 2 = .ok (.if_icmp .eq 77, 3) := by decide +kernel
theorem dX4_becomes_5 : decode cX4_becomes 5 = .ok (.aload_n 0, 1) := by decide +kernel
theorem dX4_becomes_6 : decode cX4_becomes 6 = .ok (.iload_n 1, 1) := by decide +kernel
theorem dX4_becomes_7 : decode cX4_becomes 7 = .ok (.putfield 53, 3) := by decide +kernel
theorem dX4_becomes_10 : decode cX4_becomes 10 = .ok (.aload_n 0, 1) := by decide +kernel
theorem dX4_becomes_11 : decode cX4_becomes 11 = .ok (.getfield 44, 3) := by decide +kernel
theorem dX4_becomes_14 : decode cX4_becomes 14 = .ok (.aload_n 0, 1) := by decide +kernel
theorem dX4_becomes_15 : decode cX4_becomes 15 = .ok (.getfield 29, 3) := by decide +kernel
theorem dX4_becomes_18 : decode cX4_becomes 18 = .ok (.iload_n 1, 1) := by decide +kernel
theorem dX4_becomes_19 : decode cX4_becomes 19 = .ok (.iaload, 1) := by decide +kernel
theorem dX4_becomes_20 : decode cX4_becomes 20 = .ok (.iload_n 1, 1) := by decide +kernel
theorem dX4_becomes_21 : decode cX4_becomes 21 = .ok (.iastore, 1) := by decide +kernel
theorem dX4_becomes_22 : decode cX4_becomes 22 = .ok (.iconst 0, 1) := by decide +kernel
theorem dX4_becomes_23 : decode cX4_becomes 23 = .ok (.istore_n 2, 1) := by decide +kernel
theorem dX4_becomes_24 : decode cX4_becomes 24 = .ok (.iload_n 2, 1) := by decide +kernel
theorem dX4_becomes_25 : decode cX4_becomes 25 = .ok (.aload_n 0, 1) := by decide +kernel
theorem dX4_becomes_26 : decode cX4_becomes 26 = .ok (.getfield 60, 3) := by decide +kernel
theorem dX4_becomes_29 : decode cX4_becomes 29 = .ok (.if_icmp .ge 50, 3) := by decide +kernel
theorem dX4_becomes_32 : decode cX4_becomes 32 = .ok (.aload_n 0, 1) := by decide +kernel
theorem dX4_becomes_33 : decode cX4_becomes 33 = .ok (.getfield 47, 3) := by decide +kernel
theorem dX4_becomes_36 : decode cX4_becomes 36 = .ok (.iload_n 2, 1) := by decide +kernel
theorem dX4_becomes_37 : decode cX4_becomes 37 = .ok (.aload_n 0, 1) := by decide +kernel
theorem dX4_becomes_38 : decode cX4_becomes 38 = .ok (.getfield 29, 3) := by decide +kernel
theorem dX4_becomes_41 : decode cX4_becomes 41 = .ok (.iload_n 1, 1) := by decide +kernel
theorem dX4_becomes_42 : decode cX4_becomes 42 = .ok (.iaload, 1) := by decide +kernel
theorem dX4_becomes_43 : decode cX4_becomes 43 = .ok (.aload_n 0, 1) := by decide +kernel
theorem dX4_becomes_44 : decode cX4_becomes 44 = .ok (.getfield 7, 3) := by decide +kernel
theorem dX4_becomes_47 : decode cX4_becomes 47 = .ok (.iload_n 2, 1) := by decide +kernel
theorem dX4_becomes_48 : decode cX4_becomes 48 = .ok (.iaload, 1) := by decide +kernel
theorem dX4_becomes_49 : decode cX4_becomes 49 = .ok (.if_icmp .eq 13, 3) := by decide +kernel
theorem dX4_becomes_52 : decode cX4_becomes 52 = .ok (.aload_n 0, 1) := by decide +kernel
theorem dX4_becomes_53 : decode cX4_becomes 53 = .ok (.iload_n 2, 1) := by decide +kernel
theorem dX4_becomes_54 : decode cX4_becomes 54 = .ok (.iload_n 1, 1) := by decide +kernel
theorem dX4_becomes_55 : decode cX4_becomes 55 = .ok (.invokevirtual 78, 3) := by decide +kernel
theorem dX4_becomes_58 : decode cX4_becomes 58 = .ok (.iconst (-1), 1) := by decide +kernel
theorem dX4_becomes_59 : decode cX4_becomes 59 = .ok (.if_icmp .eq 7, 3) := by decide +kernel
theorem dX4_becomes_62 : decode cX4_becomes 62 = .ok (.iload_n 1, 1) := by decide +kernel
theorem dX4_becomes_63 : decode cX4_becomes 63 = .ok (.goto 9, 3) := by decide +kernel
theorem dX4_becomes_66 : decode cX4_becomes 66 = .ok (.aload_n 0, 1) := by decide +kernel
theorem dX4_becomes_67 : decode cX4_becomes 67 = .ok (.getfield 47, 3) := by decide +kernel
theorem dX4_becomes_70 : decode cX4_becomes 70 = .ok (.iload_n 2, 1) := by decide +kernel
theorem dX4_becomes_71 : decode cX4_becomes 71 = .ok (.iaload, 1) := by decide +kernel
theorem dX4_becomes_72 : decode cX4_becomes 72 = .ok (.iastore, 1) := by decide +kernel
theorem dX4_becomes_73 : decode cX4_becomes 73 = .ok (.iinc 2 1, 3) := by decide +kernel
theorem dX4_becomes_76 : decode cX4_becomes 76 = .ok (.goto (-52), 3) := by decide +kernel
theorem dX4_becomes_79 : decode cX4_becomes 79 = .ok (.iload_n 1, 1) := by decide +kernel
theorem dX4_becomes_80 : decode cX4_becomes 80 = .ok (.ireturn, 1) := by decide +kernel
theorem dX4_store_0 : decode cX4_store 0 = .ok (.iload_n 1, 1) := by decide +kernel
theorem dX4_store_1 : decode cX4_store 1 = .ok (.iconst 0, 1) := by decide +kernel
theorem dX4_store_2 : decode cX4_store 2 = .ok (.iconst 3, 1) := by decide +kernel
theorem dX4_store_3 : decode cX4_store 3 = .ok (.invokestatic 63, 3) := by decide +kernel
theorem dX4_store_6 : decode cX4_store 6 = .ok (.ifCond .eq 20, 3) := by decide +kernel
theorem dX4_store_9 : decode cX4_store 9 = .ok (.iload_n 2, 1) := by decide +kernel
theorem dX4_store_10 : decode cX4_store 10 = .ok (.sipush (-1000), 3) := by decide +kernel
theorem dX4_store_13 : decode cX4_store 13 = .ok (.sipush 1000, 3) := by decide +kernel
theorem dX4_store_16 : decode cX4_store 16 = .ok (.invokestatic 63, 3) := by decide +kernel
theorem dX4_store_19 : decode cX4_store 19 = .ok (.ifCond .eq 7, 3) := by decide +kernel
theorem dX4_store_22 : decode cX4_store 22 = .ok (.iconst 1, 1) := by decide +kernel
theorem dX4_store_23 : decode cX4_store 23 = .ok (.goto 4, 3) := by decide +kernel
theorem dX4_store_26 : decode cX4_store 26 = .ok (.iconst 0, 1) := by decide +kernel
theorem dX4_store_27 : decode cX4_store 27 = .ok (.istore_n 3, 1) := by decide +kernel
theorem dX4_store_28 : decode cX4_store 28 = .ok (.aload_n 0, 1) := by decide +kernel
theorem dX4_store_29 : decode cX4_store 29 = .ok (.getfield 67, 3) := by decide +kernel
theorem dX4_store_32 : decode cX4_store 32 = .ok (.bipush 60, 2) := by decide +kernel
theorem dX4_store_34 : decode cX4_store 34 = .ok (.if_icmp .ge 7, 3) := by decide +kernel
theorem dX4_store_37 : decode cX4_store 37 = .ok (.iconst 1, 1) := by decide +kernel
theorem dX4_store_38 : decode cX4_store 38 = .ok (.goto 4, 3) := by decide +kernel
theorem dX4_store_41 : decode cX4_store 41 = .ok (.iconst 0, 1) := by decide +kernel
theorem dX4_store_42 : decode cX4_store 42 = .ok (.istore 4, 2) := by decide +kernel
theorem dX4_store_44 : decode cX4_store 44 = .ok (.iconst 0, 1) := by decide +kernel
theorem dX4_store_45 : decode cX4_store 45 = .ok (.istore 5, 2) := by decide +kernel
theorem dX4_store_47 : decode cX4_store 47 = .ok (.iload 5, 2) := by decide +kernel
theorem dX4_store_49 : decode cX4_store 49 = .ok (.aload_n 0, 1) := by decide +kernel
theorem dX4_store_50 : decode cX4_store 50 = .ok (.getfield 60, 3) := by decide +kernel
theorem dX4_store_53 : decode cX4_store 53 = .ok (.if_icmp .ge 53, 3) := by decide +kernel
theorem dX4_store_56 : decode cX4_store 56 = .ok (.iload 4, 2) := by decide +kernel
theorem dX4_store_58 : decode cX4_store 58 = .ok (.ifCond .eq 39, 3) := by decide +kernel
theorem dX4_store_61 : decode cX4_store 61 = .ok (.aload_n 0, 1) := by decide +kernel
theorem dX4_store_62 : decode cX4_store 62 = .ok (.getfield 19, 3) := by decide +kernel
theorem dX4_store_65 : decode cX4_store 65 = .ok (.iload 5, 2) := by decide +kernel
theorem dX4_store_67 : decode cX4_store 67 = .ok (.baload, 1) := by decide +kernel
theorem dX4_store_68 : decode cX4_store 68 = .ok (.ifCond .eq 25, 3) := by decide +kernel
theorem dX4_store_71 : decode cX4_store 71 = .ok (.aload_n 0, 1) := by decide +kernel
theorem dX4_store_72 : decode cX4_store 72 = .ok (.getfield 13, 3) := by decide +kernel
theorem dX4_store_75 : decode cX4_store 75 = .ok (.iload 5, 2) := by decide +kernel
theorem dX4_store_77 : decode cX4_store 77 = .ok (.iaload, 1) := by decide +kernel
theorem dX4_store_78 : decode cX4_store 78 = .ok (.iload_n 1, 1) := by decide +kernel
theorem dX4_store_79 : decode cX4_store 79 = .ok (.if_icmp .ne 14, 3) := by decide +kernel
theorem dX4_store_82 : decode cX4_store 82 = .ok (.aload_n 0, 1) := by decide +kernel
theorem dX4_store_83 : decode cX4_store 83 = .ok (.getfield 47, 3) := by decide +kernel
theorem dX4_store_86 : decode cX4_store 86 = .ok (.iload 5, 2) := by decide +kernel
theorem dX4_store_88 : decode cX4_store 88 = .ok (.iaload, 1) := by decide +kernel
theorem dX4_store_89 : decode cX4_store 89 = .ok (.iconst (-1), 1) := by decide +kernel
theorem dX4_store_90 : decode cX4_store 90 = .ok (.if_icmp .eq 7, 3) := by decide +kernel
theorem dX4_store_93 : decode cX4_store 93 = .ok (.iconst 1, 1) := by decide +kernel
theorem dX4_store_94 : decode cX4_store 94 = .ok (.goto 4, 3) := by decide +kernel
theorem dX4_store_97 : decode cX4_store 97 = .ok (.iconst 0, 1) := by decide +kernel
theorem dX4_store_98 : decode cX4_store 98 = .ok (.istore 4, 2) := by decide +kernel
theorem dX4_store_100 : decode cX4_store 100 = .ok (.iinc 5 1, 3) := by decide +kernel
theorem dX4_store_103 : decode cX4_store 103 = .ok (.goto (-56), 3) := by decide +kernel
theorem dX4_store_106 : decode cX4_store 106 = .ok (.aload_n 0, 1) := by decide +kernel
theorem dX4_store_107 : decode cX4_store 107 = .ok (.iload_n 3, 1) := by decide +kernel
theorem dX4_store_108 : decode cX4_store 108 = .ok (.ifCond .ne 7, 3) := by decide +kernel
theorem dX4_store_111 : decode cX4_store 111 = .ok (.iconst 1, 1) := by decide +kernel
theorem dX4_store_112 : decode cX4_store 112 = .ok (.goto 13, 3) := by decide +kernel
theorem dX4_store_115 : decode cX4_store 115 = .ok (.iload 4, 2) := by decide +kernel
theorem dX4_store_117 : decode cX4_store 117 = .ok (.ifCond .eq 7, 3) := by decide +kernel
theorem dX4_store_120 : decode cX4_store 120 = .ok (.iconst 0, 1) := by decide +kernel
theorem dX4_store_121 : decode cX4_store 121 = .ok (.goto 4, 3) := by decide +kernel
theorem dX4_store_124 : decode cX4_store 124 = .ok (.iconst 2, 1) := by decide +kernel
theorem dX4_store_125 : decode cX4_store 125 = .ok (.invokevirtual 70, 3) := by decide +kernel
theorem dX4_store_128 : decode cX4_store 128 = .ok (.ifCond .ne 5, 3) := by decide +kernel
theorem dX4_store_131 : decode cX4_store 131 = .ok (.iconst 0, 1) := by decide +kernel
theorem dX4_store_132 : decode cX4_store 132 = .ok (.ireturn, 1) := by decide +kernel
theorem dX4_store_133 : decode cX4_store 133 = .ok (.aload_n 0, 1) := by decide +kernel
theorem dX4_store_134 : decode cX4_store 134 = .ok (.getfield 67, 3) := by decide +kernel
theorem dX4_store_137 : decode cX4_store 137 = .ok (.istore 5, 2) := by decide +kernel
theorem dX4_store_139 : decode cX4_store 139 = .ok (.aload_n 0, 1) := by decide +kernel
theorem dX4_store_140 : decode cX4_store 140 = .ok (.dup, 1) := by decide +kernel
theorem dX4_store_141 : decode cX4_store 141 = .ok (.getfield 67, 3) := by decide +kernel
theorem dX4_store_144 : decode cX4_store 144 = .ok (.iconst 1, 1) := by decide +kernel
theorem dX4_store_145 : decode cX4_store 145 = .ok (.iadd, 1) := by decide +kernel
theorem dX4_store_146 : decode cX4_store 146 = .ok (.putfield 67, 3) := by decide +kernel
theorem dX4_store_149 : decode cX4_store 149 = .ok (.aload_n 0, 1) := by decide +kernel
theorem dX4_store_150 : decode cX4_store 150 = .ok (.dup, 1) := by decide +kernel
theorem dX4_store_151 : decode cX4_store 151 = .ok (.getfield 85, 3) := by decide +kernel
theorem dX4_store_154 : decode cX4_store 154 = .ok (.iconst 1, 1) := by decide +kernel
theorem dX4_store_155 : decode cX4_store 155 = .ok (.iadd, 1) := by decide +kernel
theorem dX4_store_156 : decode cX4_store 156 = .ok (.putfield 85, 3) := by decide +kernel
theorem dX4_store_159 : decode cX4_store 159 = .ok (.aload_n 0, 1) := by decide +kernel
theorem dX4_store_160 : decode cX4_store 160 = .ok (.getfield 26, 3) := by decide +kernel
theorem dX4_store_163 : decode cX4_store 163 = .ok (.iload 5, 2) := by decide +kernel
theorem dX4_store_165 : decode cX4_store 165 = .ok (.iconst 1, 1) := by decide +kernel
theorem dX4_store_166 : decode cX4_store 166 = .ok (.bastore, 1) := by decide +kernel
theorem dX4_store_167 : decode cX4_store 167 = .ok (.aload_n 0, 1) := by decide +kernel
theorem dX4_store_168 : decode cX4_store 168 = .ok (.getfield 29, 3) := by decide +kernel
theorem dX4_store_171 : decode cX4_store 171 = .ok (.iload 5, 2) := by decide +kernel
theorem dX4_store_173 : decode cX4_store 173 = .ok (.iload_n 1, 1) := by decide +kernel
theorem dX4_store_174 : decode cX4_store 174 = .ok (.iastore, 1) := by decide +kernel
theorem dX4_store_175 : decode cX4_store 175 = .ok (.aload_n 0, 1) := by decide +kernel
theorem dX4_store_176 : decode cX4_store 176 = .ok (.getfield 32, 3) := by decide +kernel
theorem dX4_store_179 : decode cX4_store 179 = .ok (.iload 5, 2) := by decide +kernel
theorem dX4_store_181 : decode cX4_store 181 = .ok (.iload_n 2, 1) := by decide +kernel
theorem dX4_store_182 : decode cX4_store 182 = .ok (.iastore, 1) := by decide +kernel
theorem dX4_store_183 : decode cX4_store 183 = .ok (.iconst 0, 1) := by decide +kernel
theorem dX4_store_184 : decode cX4_store 184 = .ok (.istore 6, 2) := by decide +kernel
theorem dX4_store_186 : decode cX4_store 186 = .ok (.iload 6, 2) := by decide +kernel
theorem dX4_store_188 : decode cX4_store 188 = .ok (.aload_n 0, 1) := by decide +kernel
theorem dX4_store_189 : decode cX4_store 189 = .ok (.getfield 60, 3) := by decide +kernel
theorem dX4_store_192 : decode cX4_store 192 = .ok (.if_icmp .ge 44, 3) := by decide +kernel
theorem dX4_store_195 : decode cX4_store 195 = .ok (.aload_n 0, 1) := by decide +kernel
theorem dX4_store_196 : decode cX4_store 196 = .ok (.getfield 19, 3) := by decide +kernel
theorem dX4_store_199 : decode cX4_store 199 = .ok (.iload 6, 2) := by decide +kernel
theorem dX4_store_201 : decode cX4_store 201 = .ok (.baload, 1) := by decide +kernel
theorem dX4_store_202 : decode cX4_store 202 = .ok (.ifCond .eq 28, 3) := by decide +kernel
theorem dX4_store_205 : decode cX4_store 205 = .ok (.aload_n 0, 1) := by decide +kernel
theorem dX4_store_206 : decode cX4_store 206 = .ok (.getfield 13, 3) := by decide +kernel
theorem dX4_store_209 : decode cX4_store 209 = .ok (.iload 6, 2) := by decide +kernel
theorem dX4_store_211 : decode cX4_store 211 = .ok (.iaload, 1) := by decide +kernel
theorem dX4_store_212 : decode cX4_store 212 = .ok (.iload_n 1, 1) := by decide +kernel
theorem dX4_store_213 : decode cX4_store 213 = .ok (.if_icmp .ne 17, 3) := by decide +kernel
theorem dX4_store_216 : decode cX4_store 216 = .ok (.aload_n 0, 1) := by decide +kernel
theorem dX4_store_217 : decode cX4_store 217 = .ok (.iload 6, 2) := by decide +kernel
theorem dX4_store_219 : decode cX4_store 219 = .ok (.iload 5, 2) := by decide +kernel
theorem dX4_store_221 : decode cX4_store 221 = .ok (.aload_n 0, 1) := by decide +kernel
theorem dX4_store_222 : decode cX4_store 222 = .ok (.iload 6, 2) := by decide +kernel
theorem dX4_store_224 : decode cX4_store 224 = .ok (.invokevirtual 88, 3) := by decide +kernel
theorem dX4_store_227 : decode cX4_store 227 = .ok (.invokevirtual 92, 3) := by decide +kernel
theorem dX4_store_230 : decode cX4_store 230 = .ok (.iinc 6 1, 3) := by decide +kernel
theorem dX4_store_233 : decode cX4_store 233 = .ok (.goto (-47), 3) := by decide +kernel
theorem dX4_store_236 : decode cX4_store 236 = .ok (.aload_n 0, 1) := by decide +kernel
theorem dX4_store_237 : decode cX4_store 237 = .ok (.iload 5, 2) := by decide +kernel
theorem dX4_store_239 : decode cX4_store 239 = .ok (.invokevirtual 96, 3) := by decide +kernel
theorem dX4_store_242 : decode cX4_store 242 = .ok (.ireturn, 1) := by decide +kernel
theorem dX4_modify_0 : decode cX4_modify 0 = .ok (.aload_n 0, 1) := by decide +kernel
theorem dX4_modify_1 : decode cX4_modify 1 = .ok (.iload_n 1, 1) := by decide +kernel
theorem dX4_modify_2 : decode cX4_modify 2 = .ok (.sipush (-1000), 3) := by decide +kernel
theorem dX4_modify_5 : decode cX4_modify 5 = .ok (.sipush 1000, 3) := by decide +kernel
theorem dX4_modify_8 : decode cX4_modify 8 = .ok (.invokestatic 63, 3) := by decide +kernel
theorem dX4_modify_11 : decode cX4_modify 11 = .ok (.ifCond .ne 7, 3) := by decide +kernel
theorem dX4_modify_14 : decode cX4_modify 14 = .ok (.iconst 1, 1) := by decide +kernel
theorem dX4_modify_15 : decode cX4_modify 15 = .ok (.goto 16, 3) := by decide +kernel
theorem dX4_modify_18 : decode cX4_modify 18 = .ok (.aload_n 0, 1) := by decide +kernel
theorem dX4_modify_19 : decode cX4_modify 19 = .ok (.getfield 53, 3) := by decide +kernel
theorem dX4_modify_22 : decode cX4_modify 22 = .ok (.iconst (-1), 1) := by decide +kernel
theorem dX4_modify_23 : decode cX4_modify 23 = .ok (.if_icmp .ne 7, 3) := by decide +kernel
theorem dX4_modify_26 : decode cX4_modify 26 = .ok (.iconst 2, 1) := by decide +kernel
theorem dX4_modify_27 : decode cX4_modify 27 = .ok (.goto 4, 3) := by decide +kernel
theorem dX4_modify_30 : decode cX4_modify 30 = .ok (.iconst 0, 1) := by decide +kernel
theorem dX4_modify_31 : decode cX4_modify 31 = .ok (.invokevirtual 70, 3) := by decide +kernel
theorem dX4_modify_34 : decode cX4_modify 34 = .ok (.ifCond .ne 5, 3) := by decide +kernel
theorem dX4_modify_37 : decode cX4_modify 37 = .ok (.iconst 0, 1) := by decide +kernel
theorem dX4_modify_38 : decode cX4_modify 38 = .ok (.ireturn, 1) := by decide +kernel
theorem dX4_modify_39 : decode cX4_modify 39 = .ok (.aload_n 0, 1) := by decide +kernel
theorem dX4_modify_40 : decode cX4_modify 40 = .ok (.getfield 32, 3) := by decide +kernel
theorem dX4_modify_43 : decode cX4_modify 43 = .ok (.aload_n 0, 1) := by decide +kernel
theorem dX4_modify_44 : decode cX4_modify 44 = .ok (.getfield 53, 3) := by decide +kernel
theorem dX4_modify_47 : decode cX4_modify 47 = .ok (.iaload, 1) := by decide +kernel
theorem dX4_modify_48 : decode cX4_modify 48 = .ok (.istore_n 2, 1) := by decide +kernel
theorem dX4_modify_49 : decode cX4_modify 49 = .ok (.aload_n 0, 1) := by decide +kernel
theorem dX4_modify_50 : decode cX4_modify 50 = .ok (.getfield 32, 3) := by decide +kernel
theorem dX4_modify_53 : decode cX4_modify 53 = .ok (.aload_n 0, 1) := by decide +kernel
theorem dX4_modify_54 : decode cX4_modify 54 = .ok (.getfield 53, 3) := by decide +kernel
theorem dX4_modify_57 : decode cX4_modify 57 = .ok (.iload_n 1, 1) := by decide +kernel
theorem dX4_modify_58 : decode cX4_modify 58 = .ok (.iastore, 1) := by decide +kernel
theorem dX4_modify_59 : decode cX4_modify 59 = .ok (.iconst 0, 1) := by decide +kernel
theorem dX4_modify_60 : decode cX4_modify 60 = .ok (.istore_n 3, 1) := by decide +kernel
theorem dX4_modify_61 : decode cX4_modify 61 = .ok (.iload_n 3, 1) := by decide +kernel
theorem dX4_modify_62 : decode cX4_modify 62 = .ok (.aload_n 0, 1) := by decide +kernel
theorem dX4_modify_63 : decode cX4_modify 63 = .ok (.getfield 60, 3) := by decide +kernel
theorem dX4_modify_66 : decode cX4_modify 66 = .ok (.if_icmp .ge 56, 3) := by decide +kernel
theorem dX4_modify_69 : decode cX4_modify 69 = .ok (.aload_n 0, 1) := by decide +kernel
theorem dX4_modify_70 : decode cX4_modify 70 = .ok (.iload_n 3, 1) := by decide +kernel
theorem dX4_modify_71 : decode cX4_modify 71 = .ok (.aload_n 0, 1) := by decide +kernel
theorem dX4_modify_72 : decode cX4_modify 72 = .ok (.getfield 53, 3) := by decide +kernel
theorem dX4_modify_75 : decode cX4_modify 75 = .ok (.invokevirtual 78, 3) := by decide +kernel
theorem dX4_modify_78 : decode cX4_modify 78 = .ok (.istore 4, 2) := by decide +kernel
theorem dX4_modify_80 : decode cX4_modify 80 = .ok (.iload 4, 2) := by decide +kernel
theorem dX4_modify_82 : decode cX4_modify 82 = .ok (.iconst (-1), 1) := by decide +kernel
theorem dX4_modify_83 : decode cX4_modify 83 = .ok (.if_icmp .eq 33, 3) := by decide +kernel
theorem dX4_modify_86 : decode cX4_modify 86 = .ok (.aload_n 0, 1) := by decide +kernel
theorem dX4_modify_87 : decode cX4_modify 87 = .ok (.getfield 16, 3) := by decide +kernel
theorem dX4_modify_90 : decode cX4_modify 90 = .ok (.iload_n 3, 1) := by decide +kernel
theorem dX4_modify_91 : decode cX4_modify 91 = .ok (.iaload, 1) := by decide +kernel
theorem dX4_modify_92 : decode cX4_modify 92 = .ok (.iconst 4, 1) := by decide +kernel
theorem dX4_modify_93 : decode cX4_modify 93 = .ok (.if_icmp .ne 23, 3) := by decide +kernel
theorem dX4_modify_96 : decode cX4_modify 96 = .ok (.aload_n 0, 1) := by decide +kernel
theorem dX4_modify_97 : decode cX4_modify 97 = .ok (.iload_n 3, 1) := by decide +kernel
theorem dX4_modify_98 : decode cX4_modify 98 = .ok (.aload_n 0, 1) := by decide +kernel
theorem dX4_modify_99 : decode cX4_modify 99 = .ok (.getfield 53, 3) := by decide +kernel
theorem dX4_modify_102 : decode cX4_modify 102 = .ok (.invokevirtual 99, 3) := by decide +kernel
theorem dX4_modify_105 : decode cX4_modify 105 = .ok (.aload_n 0, 1) := by decide +kernel
theorem dX4_modify_106 : decode cX4_modify 106 = .ok (.iload_n 3, 1) := by decide +kernel
theorem dX4_modify_107 : decode cX4_modify 107 = .ok (.aload_n 0, 1) := by decide +kernel
theorem dX4_modify_108 : decode cX4_modify 108 = .ok (.getfield 53, 3) := by decide +kernel
theorem dX4_modify_111 : decode cX4_modify 111 = .ok (.iload 4, 2) := by decide +kernel
theorem dX4_modify_113 : decode cX4_modify 113 = .ok (.invokevirtual 92, 3) := by decide +kernel
theorem dX4_modify_116 : decode cX4_modify 116 = .ok (.iinc 3 1, 3) := by decide +kernel
theorem dX4_modify_119 : decode cX4_modify 119 = .ok (.goto (-58), 3) := by decide +kernel
theorem dX4_modify_122 : decode cX4_modify 122 = .ok (.iload_n 2, 1) := by decide +kernel
theorem dX4_modify_123 : decode cX4_modify 123 = .ok (.ireturn, 1) := by decide +kernel
theorem dX4_marks_0 : decode cX4_marks 0 = .ok (.iconst 1, 1) := by decide +kernel
theorem dX4_marks_1 : decode cX4_marks 1 = .ok (.istore_n 3, 1) := by decide +kernel
theorem dX4_marks_2 : decode cX4_marks 2 = .ok (.iconst 0, 1) := by decide +kernel
theorem dX4_marks_3 : decode cX4_marks 3 = .ok (.istore 4, 2) := by decide +kernel
theorem dX4_marks_5 : decode cX4_marks 5 = .ok (.iload 4, 2) := by decide +kernel
theorem dX4_marks_7 : decode cX4_marks 7 = .ok (.bipush 60, 2) := by decide +kernel
theorem dX4_marks_9 : decode cX4_marks 9 = .ok (.if_icmp .ge 27, 3) := by decide +kernel
theorem dX4_marks_12 : decode cX4_marks 12 = .ok (.aload_n 0, 1) := by decide +kernel
theorem dX4_marks_13 : decode cX4_marks 13 = .ok (.getfield 50, 3) := by decide +kernel
theorem dX4_marks_16 : decode cX4_marks 16 = .ok (.iload 4, 2) := by decide +kernel
theorem dX4_marks_18 : decode cX4_marks 18 = .ok (.iload 4, 2) := by decide +kernel
theorem dX4_marks_20 : decode cX4_marks 20 = .ok (.iload_n 1, 1) := by decide +kernel
theorem dX4_marks_21 : decode cX4_marks 21 = .ok (.if_icmp .ne 7, 3) := by decide +kernel
theorem dX4_marks_24 : decode cX4_marks 24 = .ok (.iconst 1, 1) := by decide +kernel
theorem dX4_marks_25 : decode cX4_marks 25 = .ok (.goto 4, 3) := by decide +kernel
theorem dX4_marks_28 : decode cX4_marks 28 = .ok (.iconst 0, 1) := by decide +kernel
theorem dX4_marks_29 : decode cX4_marks 29 = .ok (.bastore, 1) := by decide +kernel
theorem dX4_marks_30 : decode cX4_marks 30 = .ok (.iinc 4 1, 3) := by decide +kernel
theorem dX4_marks_33 : decode cX4_marks 33 = .ok (.goto (-28), 3) := by decide +kernel
theorem dX4_marks_36 : decode cX4_marks 36 = .ok (.iconst 0, 1) := by decide +kernel
theorem dX4_marks_37 : decode cX4_marks 37 = .ok (.istore 4, 2) := by decide +kernel
theorem dX4_marks_39 : decode cX4_marks 39 = .ok (.iload 4, 2) := by decide +kernel
theorem dX4_marks_41 : decode cX4_marks 41 = .ok (.iload_n 3, 1) := by decide +kernel
theorem dX4_marks_42 : decode cX4_marks 42 = .ok (.if_icmp .ge 121, 3) := by decide +kernel
theorem dX4_marks_45 : decode cX4_marks 45 = .ok (.iload_n 3, 1) := by decide +kernel
theorem dX4_marks_46 : decode cX4_marks 46 = .ok (.istore 4, 2) := by decide +kernel
theorem dX4_marks_48 : decode cX4_marks 48 = .ok (.iconst 0, 1) := by decide +kernel
theorem dX4_marks_49 : decode cX4_marks 49 = .ok (.istore 5, 2) := by decide +kernel
theorem dX4_marks_51 : decode cX4_marks 51 = .ok (.iload 5, 2) := by decide +kernel
theorem dX4_marks_53 : decode cX4_marks 53 = .ok (.sipush 360, 3) := by decide +kernel
theorem dX4_marks_56 : decode cX4_marks 56 = .ok (.if_icmp .ge 104, 3) := by decide +kernel
theorem dX4_marks_59 : decode cX4_marks 59 = .ok (.aload_n 0, 1) := by decide +kernel
theorem dX4_marks_60 : decode cX4_marks 60 = .ok (.getfield 35, 3) := by decide +kernel
theorem dX4_marks_63 : decode cX4_marks 63 = .ok (.iload 5, 2) := by decide +kernel
theorem dX4_marks_65 : decode cX4_marks 65 = .ok (.iaload, 1) := by decide +kernel
theorem dX4_marks_66 : decode cX4_marks 66 = .ok (.iconst (-1), 1) := by decide +kernel
theorem dX4_marks_67 : decode cX4_marks 67 = .ok (.if_icmp .eq 35, 3) := by decide +kernel
theorem dX4_marks_70 : decode cX4_marks 70 = .ok (.aload_n 0, 1) := by decide +kernel
theorem dX4_marks_71 : decode cX4_marks 71 = .ok (.getfield 50, 3) := by decide +kernel
theorem dX4_marks_74 : decode cX4_marks 74 = .ok (.aload_n 0, 1) := by decide +kernel
theorem dX4_marks_75 : decode cX4_marks 75 = .ok (.getfield 35, 3) := by decide +kernel
theorem dX4_marks_78 : decode cX4_marks 78 = .ok (.iload 5, 2) := by decide +kernel
theorem dX4_marks_80 : decode cX4_marks 80 = .ok (.iaload, 1) := by decide +kernel
theorem dX4_marks_81 : decode cX4_marks 81 = .ok (.baload, 1) := by decide +kernel
theorem dX4_marks_82 : decode cX4_marks 82 = .ok (.ifCond .eq 20, 3) := by decide +kernel
theorem dX4_marks_85 : decode cX4_marks 85 = .ok (.aload_n 0, 1) := by decide +kernel
theorem dX4_marks_86 : decode cX4_marks 86 = .ok (.getfield 50, 3) := by decide +kernel
theorem dX4_marks_89 : decode cX4_marks 89 = .ok (.iload 5, 2) := by decide +kernel
theorem dX4_marks_91 : decode cX4_marks 91 = .ok (.bipush 60, 2) := by decide +kernel
theorem dX4_marks_93 : decode cX4_marks 93 = .ok (.irem, 1) := by decide +kernel
theorem dX4_marks_94 : decode cX4_marks 94 = .ok (.baload, 1) := by decide +kernel
theorem dX4_marks_95 : decode cX4_marks 95 = .ok (.ifCond .ne 7, 3) := by decide +kernel
theorem dX4_marks_98 : decode cX4_marks 98 = .ok (.iconst 1, 1) := by decide +kernel
theorem dX4_marks_99 : decode cX4_marks 99 = .ok (.goto 4, 3) := by decide +kernel
theorem dX4_marks_102 : decode cX4_marks 102 = .ok (.iconst 0, 1) := by decide +kernel
theorem dX4_marks_103 : decode cX4_marks 103 = .ok (.istore 6, 2) := by decide +kernel
theorem dX4_marks_105 : decode cX4_marks 105 = .ok (.iload 6, 2) := by decide +kernel
theorem dX4_marks_107 : decode cX4_marks 107 = .ok (.ifCond .eq 9, 3) := by decide +kernel
theorem dX4_marks_110 : decode cX4_marks 110 = .ok (.iload_n 2, 1) := by decide +kernel
theorem dX4_marks_111 : decode cX4_marks 111 = .ok (.ifCond .ne 5, 3) := by decide +kernel
theorem dX4_marks_114 : decode cX4_marks 114 = .ok (.iconst (-1), 1) := by decide +kernel
theorem dX4_marks_115 : decode cX4_marks 115 = .ok (.ireturn, 1) := by decide +kernel
theorem dX4_marks_116 : decode cX4_marks 116 = .ok (.iload 6, 2) := by decide +kernel
theorem dX4_marks_118 : decode cX4_marks 118 = .ok (.ifCond .eq 36, 3) := by decide +kernel
theorem dX4_marks_121 : decode cX4_marks 121 = .ok (.iload_n 2, 1) := by decide +kernel
theorem dX4_marks_122 : decode cX4_marks 122 = .ok (.iconst 2, 1) := by decide +kernel
theorem dX4_marks_123 : decode cX4_marks 123 = .ok (.if_icmp .eq 17, 3) := by decide +kernel
theorem dX4_marks_126 : decode cX4_marks 126 = .ok (.aload_n 0, 1) := by decide +kernel
theorem dX4_marks_127 : decode cX4_marks 127 = .ok (.getfield 23, 3) := by decide +kernel
theorem dX4_marks_130 : decode cX4_marks 130 = .ok (.iload 5, 2) := by decide +kernel
theorem dX4_marks_132 : decode cX4_marks 132 = .ok (.bipush 60, 2) := by decide +kernel
theorem dX4_marks_134 : decode cX4_marks 134 = .ok (.idiv, 1) := by decide +kernel
theorem dX4_marks_135 : decode cX4_marks 135 = .ok (.iaload, 1) := by decide +kernel
theorem dX4_marks_136 : decode cX4_marks 136 = .ok (.iconst 2, 1) := by decide +kernel
theorem dX4_marks_137 : decode cX4_marks 137 = .ok (.if_icmp .eq 17, 3) := by decide +kernel
theorem dX4_marks_140 : decode cX4_marks 140 = .ok (.aload_n 0, 1) := by decide +kernel
theorem dX4_marks_141 : decode cX4_marks 141 = .ok (.getfield 50, 3) := by decide +kernel
theorem dX4_marks_144 : decode cX4_marks 144 = .ok (.iload 5, 2) := by decide +kernel
theorem dX4_marks_146 : decode cX4_marks 146 = .ok (.bipush 60, 2) := by decide +kernel
theorem dX4_marks_148 : decode cX4_marks 148 = .ok (.irem, 1) := by decide +kernel
theorem dX4_marks_149 : decode cX4_marks 149 = .ok (.iconst 1, 1) := by decide +kernel
theorem dX4_marks_150 : decode cX4_marks 150 = .ok (.bastore, 1) := by decide +kernel
theorem dX4_marks_151 : decode cX4_marks 151 = .ok (.iinc 3 1, 3) := by decide +kernel
theorem dX4_marks_154 : decode cX4_marks 154 = .ok (.iinc 5 1, 3) := by decide +kernel
theorem dX4_marks_157 : decode cX4_marks 157 = .ok (.goto (-106), 3) := by decide +kernel
theorem dX4_marks_160 : decode cX4_marks 160 = .ok (.goto (-121), 3) := by decide +kernel
theorem dX4_marks_163 : decode cX4_marks 163 = .ok (.iload_n 3, 1) := by decide +kernel
theorem dX4_marks_164 : decode cX4_marks 164 = .ok (.ireturn, 1) := by decide +kernel
theorem dX4_isGone_0 : decode cX4_isGone 0 = .ok (.iload_n 1, 1) := by decide +kernel
theorem dX4_isGone_1 : decode cX4_isGone 1 = .ok (.iconst (-1), 1) := by decide +kernel
theorem dX4_isGone_2 : decode cX4_isGone 2 = .ok (.if_icmp .eq 16, 3) := by decide +kernel
theorem dX4_isGone_5 : decode cX4_isGone 5 = .ok (.aload_n 0, 1) := by decide +kernel
theorem dX4_isGone_6 : decode cX4_isGone 6 = .ok (.getfield 50, 3) := by decide +kernel
theorem dX4_isGone_9 : decode cX4_isGone 9 = .ok (.iload_n 1, 1) := by decide +kernel
theorem dX4_isGone_10 : decode cX4_isGone 10 = .ok (.baload, 1) := by decide +kernel
theorem dX4_isGone_11 : decode cX4_isGone 11 = .ok (.ifCond .eq 7, 3) := by decide +kernel
theorem dX4_isGone_14 : decode cX4_isGone 14 = .ok (.iconst 1, 1) := by decide +kernel
theorem dX4_isGone_15 : decode cX4_isGone 15 = .ok (.goto 4, 3) := by decide +kernel
theorem dX4_isGone_18 : decode cX4_isGone 18 = .ok (.iconst 0, 1) := by decide +kernel
theorem dX4_isGone_19 : decode cX4_isGone 19 = .ok (.ireturn, 1) := by decide +kernel
theorem dX4_erase_0 : decode cX4_erase 0 = .ok (.aload_n 0, 1) := by decide +kernel
theorem dX4_erase_1 : decode cX4_erase 1 = .ok (.getfield 53, 3) := by decide +kernel
theorem dX4_erase_4 : decode cX4_erase 4 = .ok (.iconst (-1), 1) := by decide +kernel
theorem dX4_erase_5 : decode cX4_erase 5 = .ok (.if_icmp .eq 12, 3) := by decide +kernel
theorem dX4_erase_8 : decode cX4_erase 8 = .ok (.iload_n 1, 1) := by decide +kernel
theorem dX4_erase_9 : decode cX4_erase 9 = .ok (.iconst 0, 1) := by decide +kernel
theorem dX4_erase_10 : decode cX4_erase 10 = .ok (.iconst 2, 1) := by decide +kernel
theorem dX4_erase_11 : decode cX4_erase 11 = .ok (.invokestatic 63, 3) := by decide +kernel
theorem dX4_erase_14 : decode cX4_erase 14 = .ok (.ifCond .ne 7, 3) := by decide +kernel
theorem dX4_erase_17 : decode cX4_erase 17 = .ok (.iconst (-1), 1) := by decide +kernel
theorem dX4_erase_18 : decode cX4_erase 18 = .ok (.goto 12, 3) := by decide +kernel
theorem dX4_erase_21 : decode cX4_erase 21 = .ok (.aload_n 0, 1) := by decide +kernel
theorem dX4_erase_22 : decode cX4_erase 22 = .ok (.aload_n 0, 1) := by decide +kernel
theorem dX4_erase_23 : decode cX4_erase 23 = .ok (.getfield 53, 3) := by decide +kernel
theorem dX4_erase_26 : decode cX4_erase 26 = .ok (.iload_n 1, 1) := by decide +kernel
theorem dX4_erase_27 : decode cX4_erase 27 = .ok (.invokevirtual 103, 3) := by decide +kernel
theorem dX4_erase_30 : decode cX4_erase 30 = .ok (.istore_n 2, 1) := by decide +kernel
theorem dX4_erase_31 : decode cX4_erase 31 = .ok (.aload_n 0, 1) := by decide +kernel
theorem dX4_erase_32 : decode cX4_erase 32 = .ok (.iload_n 1, 1) := by decide +kernel
theorem dX4_erase_33 : decode cX4_erase 33 = .ok (.iconst 0, 1) := by decide +kernel
theorem dX4_erase_34 : decode cX4_erase 34 = .ok (.iconst 2, 1) := by decide +kernel
theorem dX4_erase_35 : decode cX4_erase 35 = .ok (.invokestatic 63, 3) := by decide +kernel
theorem dX4_erase_38 : decode cX4_erase 38 = .ok (.ifCond .ne 7, 3) := by decide +kernel
theorem dX4_erase_41 : decode cX4_erase 41 = .ok (.iconst 1, 1) := by decide +kernel
theorem dX4_erase_42 : decode cX4_erase 42 = .ok (.goto 13, 3) := by decide +kernel
theorem dX4_erase_45 : decode cX4_erase 45 = .ok (.iload_n 2, 1) := by decide +kernel
theorem dX4_erase_46 : decode cX4_erase 46 = .ok (.iconst (-1), 1) := by decide +kernel
theorem dX4_erase_47 : decode cX4_erase 47 = .ok (.if_icmp .ne 7, 3) := by decide +kernel
theorem dX4_erase_50 : decode cX4_erase 50 = .ok (.iconst 2, 1) := by decide +kernel
theorem dX4_erase_51 : decode cX4_erase 51 = .ok (.goto 4, 3) := by decide +kernel
theorem dX4_erase_54 : decode cX4_erase 54 = .ok (.iconst 0, 1) := by decide +kernel
theorem dX4_erase_55 : decode cX4_erase 55 = .ok (.invokevirtual 70, 3) := by decide +kernel
theorem dX4_erase_58 : decode cX4_erase 58 = .ok (.ifCond .ne 5, 3) := by decide +kernel
theorem dX4_erase_61 : decode cX4_erase 61 = .ok (.iconst 0, 1) := by decide +kernel
theorem dX4_erase_62 : decode cX4_erase 62 = .ok (.ireturn, 1) := by decide +kernel
theorem dX4_erase_63 : decode cX4_erase 63 = .ok (.iconst 0, 1) := by decide +kernel
theorem dX4_erase_64 : decode cX4_erase 64 = .ok (.istore_n 3, 1) := by decide +kernel
theorem dX4_erase_65 : decode cX4_erase 65 = .ok (.iload_n 3, 1) := by decide +kernel
theorem dX4_erase_66 : decode cX4_erase 66 = .ok (.aload_n 0, 1) := by decide +kernel
theorem dX4_erase_67 : decode cX4_erase 67 = .ok (.getfield 60, 3) := by decide +kernel
theorem dX4_erase_70 : decode cX4_erase 70 = .ok (.if_icmp .ge 152, 3) := by decide +kernel
theorem dX4_erase_73 : decode cX4_erase 73 = .ok (.iconst 0, 1) := by decide +kernel
theorem dX4_erase_74 : decode cX4_erase 74 = .ok (.istore 4, 2) := by decide +kernel
theorem dX4_erase_76 : decode cX4_erase 76 = .ok (.iload 4, 2) := by decide +kernel
theorem dX4_erase_78 : decode cX4_erase 78 = .ok (.aload_n 0, 1) := by decide +kernel
theorem dX4_erase_79 : decode cX4_erase 79 = .ok (.getfield 67, 3) := by decide +kernel
theorem dX4_erase_82 : decode cX4_erase 82 = .ok (.if_icmp .ge 105, 3) := by decide +kernel
theorem dX4_erase_85 : decode cX4_erase 85 = .ok (.aload_n 0, 1) := by decide +kernel
theorem dX4_erase_86 : decode cX4_erase 86 = .ok (.aload_n 0, 1) := by decide +kernel
theorem dX4_erase_87 : decode cX4_erase 87 = .ok (.iload_n 3, 1) := by decide +kernel
theorem dX4_erase_88 : decode cX4_erase 88 = .ok (.iload 4, 2) := by decide +kernel
theorem dX4_erase_90 : decode cX4_erase 90 = .ok (.invokevirtual 78, 3) := by decide +kernel
theorem dX4_erase_93 : decode cX4_erase 93 = .ok (.invokevirtual 106, 3) := by decide +kernel
theorem dX4_erase_96 : decode cX4_erase 96 = .ok (.ifCond .eq 17, 3) := by decide +kernel
theorem dX4_erase_99 : decode cX4_erase 99 = .ok (.aload_n 0, 1) := by decide +kernel
theorem dX4_erase_100 : decode cX4_erase 100 = .ok (.getfield 50, 3) := by decide +kernel
theorem dX4_erase_103 : decode cX4_erase 103 = .ok (.iload 4, 2) := by decide +kernel
theorem dX4_erase_105 : decode cX4_erase 105 = .ok (.baload, 1) := by decide +kernel
theorem dX4_erase_106 : decode cX4_erase 106 = .ok (.ifCond .ne 7, 3) := by decide +kernel
theorem dX4_erase_109 : decode cX4_erase 109 = .ok (.iconst 1, 1) := by decide +kernel
theorem dX4_erase_110 : decode cX4_erase 110 = .ok (.goto 4, 3) := by decide +kernel
theorem dX4_erase_113 : decode cX4_erase 113 = .ok (.iconst 0, 1) := by decide +kernel
theorem dX4_erase_114 : decode cX4_erase 114 = .ok (.istore 5, 2) := by decide +kernel
theorem dX4_erase_116 : decode cX4_erase 116 = .ok (.aload_n 0, 1) := by decide +kernel
theorem dX4_erase_117 : decode cX4_erase 117 = .ok (.iload_n 3, 1) := by decide +kernel
theorem dX4_erase_118 : decode cX4_erase 118 = .ok (.iload 4, 2) := by decide +kernel
theorem dX4_erase_120 : decode cX4_erase 120 = .ok (.invokevirtual 78, 3) := by decide +kernel
theorem dX4_erase_123 : decode cX4_erase 123 = .ok (.iconst (-1), 1) := by decide +kernel
theorem dX4_erase_124 : decode cX4_erase 124 = .ok (.if_icmp .eq 25, 3) := by decide +kernel
theorem dX4_erase_127 : decode cX4_erase 127 = .ok (.aload_n 0, 1) := by decide +kernel
theorem dX4_erase_128 : decode cX4_erase 128 = .ok (.getfield 50, 3) := by decide +kernel
theorem dX4_erase_131 : decode cX4_erase 131 = .ok (.iload 4, 2) := by decide +kernel
theorem dX4_erase_133 : decode cX4_erase 133 = .ok (.baload, 1) := by decide +kernel
theorem dX4_erase_134 : decode cX4_erase 134 = .ok (.ifCond .ne 8, 3) := by decide +kernel
theorem dX4_erase_137 : decode cX4_erase 137 = .ok (.iload 5, 2) := by decide +kernel
theorem dX4_erase_139 : decode cX4_erase 139 = .ok (.ifCond .eq 10, 3) := by decide +kernel
theorem dX4_erase_142 : decode cX4_erase 142 = .ok (.aload_n 0, 1) := by decide +kernel
theorem dX4_erase_143 : decode cX4_erase 143 = .ok (.iload_n 3, 1) := by decide +kernel
theorem dX4_erase_144 : decode cX4_erase 144 = .ok (.iload 4, 2) := by decide +kernel
theorem dX4_erase_146 : decode cX4_erase 146 = .ok (.invokevirtual 99, 3) := by decide +kernel
theorem dX4_erase_149 : decode cX4_erase 149 = .ok (.aload_n 0, 1) := by decide +kernel
theorem dX4_erase_150 : decode cX4_erase 150 = .ok (.getfield 47, 3) := by decide +kernel
theorem dX4_erase_153 : decode cX4_erase 153 = .ok (.iload_n 3, 1) := by decide +kernel
theorem dX4_erase_154 : decode cX4_erase 154 = .ok (.iload 5, 2) := by decide +kernel
theorem dX4_erase_156 : decode cX4_erase 156 = .ok (.ifCond .eq 18, 3) := by decide +kernel
theorem dX4_erase_159 : decode cX4_erase 159 = .ok (.aload_n 0, 1) := by decide +kernel
theorem dX4_erase_160 : decode cX4_erase 160 = .ok (.getfield 47, 3) := by decide +kernel
theorem dX4_erase_163 : decode cX4_erase 163 = .ok (.iload_n 3, 1) := by decide +kernel
theorem dX4_erase_164 : decode cX4_erase 164 = .ok (.iaload, 1) := by decide +kernel
theorem dX4_erase_165 : decode cX4_erase 165 = .ok (.iload 4, 2) := by decide +kernel
theorem dX4_erase_167 : decode cX4_erase 167 = .ok (.if_icmp .ne 7, 3) := by decide +kernel
theorem dX4_erase_170 : decode cX4_erase 170 = .ok (.iconst (-1), 1) := by decide +kernel
theorem dX4_erase_171 : decode cX4_erase 171 = .ok (.goto 9, 3) := by decide +kernel
theorem dX4_erase_174 : decode cX4_erase 174 = .ok (.aload_n 0, 1) := by decide +kernel
theorem dX4_erase_175 : decode cX4_erase 175 = .ok (.getfield 47, 3) := by decide +kernel
theorem dX4_erase_178 : decode cX4_erase 178 = .ok (.iload_n 3, 1) := by decide +kernel
theorem dX4_erase_179 : decode cX4_erase 179 = .ok (.iaload, 1) := by decide +kernel
theorem dX4_erase_180 : decode cX4_erase 180 = .ok (.iastore, 1) := by decide +kernel
theorem dX4_erase_181 : decode cX4_erase 181 = .ok (.iinc 4 1, 3) := by decide +kernel
theorem dX4_erase_184 : decode cX4_erase 184 = .ok (.goto (-108), 3) := by decide +kernel
theorem dX4_erase_187 : decode cX4_erase 187 = .ok (.aload_n 0, 1) := by decide +kernel
theorem dX4_erase_188 : decode cX4_erase 188 = .ok (.getfield 47, 3) := by decide +kernel
theorem dX4_erase_191 : decode cX4_erase 191 = .ok (.iload_n 3, 1) := by decide +kernel
theorem dX4_erase_192 : decode cX4_erase 192 = .ok (.aload_n 0, 1) := by decide +kernel
theorem dX4_erase_193 : decode cX4_erase 193 = .ok (.aload_n 0, 1) := by decide +kernel
theorem dX4_erase_194 : decode cX4_erase 194 = .ok (.getfield 47, 3) := by decide +kernel
theorem dX4_erase_197 : decode cX4_erase 197 = .ok (.iload_n 3, 1) := by decide +kernel
theorem dX4_erase_198 : decode cX4_erase 198 = .ok (.iaload, 1) := by decide +kernel
theorem dX4_erase_199 : decode cX4_erase 199 = .ok (.invokevirtual 106, 3) := by decide +kernel
theorem dX4_erase_202 : decode cX4_erase 202 = .ok (.ifCond .eq 7, 3) := by decide +kernel
theorem dX4_erase_205 : decode cX4_erase 205 = .ok (.iconst (-1), 1) := by decide +kernel
theorem dX4_erase_206 : decode cX4_erase 206 = .ok (.goto 9, 3) := by decide +kernel
theorem dX4_erase_209 : decode cX4_erase 209 = .ok (.aload_n 0, 1) := by decide +kernel
theorem dX4_erase_210 : decode cX4_erase 210 = .ok (.getfield 47, 3) := by decide +kernel
theorem dX4_erase_213 : decode cX4_erase 213 = .ok (.iload_n 3, 1) := by decide +kernel
theorem dX4_erase_214 : decode cX4_erase 214 = .ok (.iaload, 1) := by decide +kernel
theorem dX4_erase_215 : decode cX4_erase 215 = .ok (.iastore, 1) := by decide +kernel
theorem dX4_erase_216 : decode cX4_erase 216 = .ok (.iinc 3 1, 3) := by decide +kernel
theorem dX4_erase_219 : decode cX4_erase 219 = .ok (.goto (-154), 3) := by decide +kernel
theorem dX4_erase_222 : decode cX4_erase 222 = .ok (.iconst 0, 1) := by decide +kernel
theorem dX4_erase_223 : decode cX4_erase 223 = .ok (.istore_n 3, 1) := by decide +kernel
theorem dX4_erase_224 : decode cX4_erase 224 = .ok (.iload_n 3, 1) := by decide +kernel
theorem dX4_erase_225 : decode cX4_erase 225 = .ok (.iconst 4, 1) := by decide +kernel
theorem dX4_erase_226 : decode cX4_erase 226 = .ok (.if_icmp .ge 38, 3) := by decide +kernel
theorem dX4_erase_229 : decode cX4_erase 229 = .ok (.aload_n 0, 1) := by decide +kernel
theorem dX4_erase_230 : decode cX4_erase 230 = .ok (.getfield 44, 3) := by decide +kernel
theorem dX4_erase_233 : decode cX4_erase 233 = .ok (.iload_n 3, 1) := by decide +kernel
theorem dX4_erase_234 : decode cX4_erase 234 = .ok (.aload_n 0, 1) := by decide +kernel
theorem dX4_erase_235 : decode cX4_erase 235 = .ok (.aload_n 0, 1) := by decide +kernel
theorem dX4_erase_236 : decode cX4_erase 236 = .ok (.getfield 44, 3) := by decide +kernel
theorem dX4_erase_239 : decode cX4_erase 239 = .ok (.iload_n 3, 1) := by decide +kernel
theorem dX4_erase_240 : decode cX4_erase 240 = .ok (.iaload, 1) := by decide +kernel
theorem dX4_erase_241 : decode cX4_erase 241 = .ok (.invokevirtual 106, 3) := by decide +kernel
theorem dX4_erase_244 : decode cX4_erase 244 = .ok (.ifCond .eq 7, 3) := by decide +kernel
theorem dX4_erase_247 : decode cX4_erase 247 = .ok (.iconst (-1), 1) := by decide +kernel
theorem dX4_erase_248 : decode cX4_erase 248 = .ok (.goto 9, 3) := by decide +kernel
theorem dX4_erase_251 : decode cX4_erase 251 = .ok (.aload_n 0, 1) := by decide +kernel
theorem dX4_erase_252 : decode cX4_erase 252 = .ok (.getfield 44, 3) := by decide +kernel
theorem dX4_erase_255 : decode cX4_erase 255 = .ok (.iload_n 3, 1) := by decide +kernel
theorem dX4_erase_256 : decode cX4_erase 256 = .ok (.iaload, 1) := by decide +kernel
theorem dX4_erase_257 : decode cX4_erase 257 = .ok (.iastore, 1) := by decide +kernel
theorem dX4_erase_258 : decode cX4_erase 258 = .ok (.iinc 3 1, 3) := by decide +kernel
theorem dX4_erase_261 : decode cX4_erase 261 = .ok (.goto (-37), 3) := by decide +kernel
theorem dX4_erase_264 : decode cX4_erase 264 = .ok (.iconst 0, 1) := by decide +kernel
theorem dX4_erase_265 : decode cX4_erase 265 = .ok (.istore_n 3, 1) := by decide +kernel
theorem dX4_erase_266 : decode cX4_erase 266 = .ok (.iload_n 3, 1) := by decide +kernel
theorem dX4_erase_267 : decode cX4_erase 267 = .ok (.aload_n 0, 1) := by decide +kernel
theorem dX4_erase_268 : decode cX4_erase 268 = .ok (.getfield 67, 3) := by decide +kernel
theorem dX4_erase_271 : decode cX4_erase 271 = .ok (.if_icmp .ge 38, 3) := by decide +kernel
theorem dX4_erase_274 : decode cX4_erase 274 = .ok (.aload_n 0, 1) := by decide +kernel
theorem dX4_erase_275 : decode cX4_erase 275 = .ok (.getfield 26, 3) := by decide +kernel
theorem dX4_erase_278 : decode cX4_erase 278 = .ok (.iload_n 3, 1) := by decide +kernel
theorem dX4_erase_279 : decode cX4_erase 279 = .ok (.aload_n 0, 1) := by decide +kernel
theorem dX4_erase_280 : decode cX4_erase 280 = .ok (.getfield 26, 3) := by decide +kernel
theorem dX4_erase_283 : decode cX4_erase 283 = .ok (.iload_n 3, 1) := by decide +kernel
theorem dX4_erase_284 : decode cX4_erase 284 = .ok (.baload, 1) := by decide +kernel
theorem dX4_erase_285 : decode cX4_erase 285 = .ok (.ifCond .eq 16, 3) := by decide +kernel
theorem dX4_erase_288 : decode cX4_erase 288 = .ok (.aload_n 0, 1) := by decide +kernel
theorem dX4_erase_289 : decode cX4_erase 289 = .ok (.getfield 50, 3) := by decide +kernel
theorem dX4_erase_292 : decode cX4_erase 292 = .ok (.iload_n 3, 1) := by decide +kernel
theorem dX4_erase_293 : decode cX4_erase 293 = .ok (.baload, 1) := by decide +kernel
theorem dX4_erase_294 : decode cX4_erase 294 = .ok (.ifCond .ne 7, 3) := by decide +kernel
theorem dX4_erase_297 : decode cX4_erase 297 = .ok (.iconst 1, 1) := by decide +kernel
theorem dX4_erase_298 : decode cX4_erase 298 = .ok (.goto 4, 3) := by decide +kernel
theorem dX4_erase_301 : decode cX4_erase 301 = .ok (.iconst 0, 1) := by decide +kernel
theorem dX4_erase_302 : decode cX4_erase 302 = .ok (.bastore, 1) := by decide +kernel
theorem dX4_erase_303 : decode cX4_erase 303 = .ok (.iinc 3 1, 3) := by decide +kernel
theorem dX4_erase_306 : decode cX4_erase 306 = .ok (.goto (-40), 3) := by decide +kernel
theorem dX4_erase_309 : decode cX4_erase 309 = .ok (.aload_n 0, 1) := by decide +kernel
theorem dX4_erase_310 : decode cX4_erase 310 = .ok (.iconst (-1), 1) := by decide +kernel
theorem dX4_erase_311 : decode cX4_erase 311 = .ok (.putfield 53, 3) := by decide +kernel
theorem dX4_erase_314 : decode cX4_erase 314 = .ok (.aload_n 0, 1) := by decide +kernel
theorem dX4_erase_315 : decode cX4_erase 315 = .ok (.dup, 1) := by decide +kernel
theorem dX4_erase_316 : decode cX4_erase 316 = .ok (.getfield 85, 3) := by decide +kernel
theorem dX4_erase_319 : decode cX4_erase 319 = .ok (.iload_n 2, 1) := by decide +kernel
theorem dX4_erase_320 : decode cX4_erase 320 = .ok (.isub, 1) := by decide +kernel
theorem dX4_erase_321 : decode cX4_erase 321 = .ok (.putfield 85, 3) := by decide +kernel
theorem dX4_erase_324 : decode cX4_erase 324 = .ok (.iload_n 2, 1) := by decide +kernel
theorem dX4_erase_325 : decode cX4_erase 325 = .ok (.ireturn, 1) := by decide +kernel
theorem dX4_connect_0 : decode cX4_connect 0 = .ok (.aload_n 0, 1) := by decide +kernel
theorem dX4_connect_1 : decode cX4_connect 1 = .ok (.iload_n 1, 1) := by decide +kernel
theorem dX4_connect_2 : decode cX4_connect 2 = .ok (.invokevirtual 109, 3) := by decide +kernel
theorem dX4_connect_5 : decode cX4_connect 5 = .ok (.ifCond .eq 56, 3) := by decide +kernel
theorem dX4_connect_8 : decode cX4_connect 8 = .ok (.aload_n 0, 1) := by decide +kernel
theorem dX4_connect_9 : decode cX4_connect 9 = .ok (.getfield 53, 3) := by decide +kernel
theorem dX4_connect_12 : decode cX4_connect 12 = .ok (.iconst (-1), 1) := by decide +kernel
theorem dX4_connect_13 : decode cX4_connect 13 = .ok (.if_icmp .eq 48, 3) := by decide +kernel
theorem dX4_connect_16 : decode cX4_connect 16 = .ok (.aload_n 0, 1) := by decide +kernel
theorem dX4_connect_17 : decode cX4_connect 17 = .ok (.getfield 29, 3) := by decide +kernel
theorem dX4_connect_20 : decode cX4_connect 20 = .ok (.aload_n 0, 1) := by decide +kernel
theorem dX4_connect_21 : decode cX4_connect 21 = .ok (.getfield 53, 3) := by decide +kernel
theorem dX4_connect_24 : decode cX4_connect 24 = .ok (.iaload, 1) := by decide +kernel
theorem dX4_connect_25 : decode cX4_connect 25 = .ok (.aload_n 0, 1) := by decide +kernel
theorem dX4_connect_26 : decode cX4_connect 26 = .ok (.getfield 13, 3) := by decide +kernel
theorem dX4_connect_29 : decode cX4_connect 29 = .ok (.iload_n 1, 1) := by decide +kernel
theorem dX4_connect_30 : decode cX4_connect 30 = .ok (.iaload, 1) := by decide +kernel
theorem dX4_connect_31 : decode cX4_connect 31 = .ok (.if_icmp .ne 30, 3) := by decide +kernel
theorem dX4_connect_34 : decode cX4_connect 34 = .ok (.aload_n 0, 1) := by decide +kernel
theorem dX4_connect_35 : decode cX4_connect 35 = .ok (.iload_n 1, 1) := by decide +kernel
theorem dX4_connect_36 : decode cX4_connect 36 = .ok (.aload_n 0, 1) := by decide +kernel
theorem dX4_connect_37 : decode cX4_connect 37 = .ok (.getfield 53, 3) := by decide +kernel
theorem dX4_connect_40 : decode cX4_connect 40 = .ok (.invokevirtual 78, 3) := by decide +kernel
theorem dX4_connect_43 : decode cX4_connect 43 = .ok (.iconst (-1), 1) := by decide +kernel
theorem dX4_connect_44 : decode cX4_connect 44 = .ok (.if_icmp .ne 17, 3) := by decide +kernel
theorem dX4_connect_47 : decode cX4_connect 47 = .ok (.aload_n 0, 1) := by decide +kernel
theorem dX4_connect_48 : decode cX4_connect 48 = .ok (.getfield 47, 3) := by decide +kernel
theorem dX4_connect_51 : decode cX4_connect 51 = .ok (.iload_n 1, 1) := by decide +kernel
theorem dX4_connect_52 : decode cX4_connect 52 = .ok (.iaload, 1) := by decide +kernel
theorem dX4_connect_53 : decode cX4_connect 53 = .ok (.iconst (-1), 1) := by decide +kernel
theorem dX4_connect_54 : decode cX4_connect 54 = .ok (.if_icmp .eq 7, 3) := by decide +kernel
theorem dX4_connect_57 : decode cX4_connect 57 = .ok (.iconst 1, 1) := by decide +kernel
theorem dX4_connect_58 : decode cX4_connect 58 = .ok (.goto 4, 3) := by decide +kernel
theorem dX4_connect_61 : decode cX4_connect 61 = .ok (.iconst 0, 1) := by decide +kernel
theorem dX4_connect_62 : decode cX4_connect 62 = .ok (.istore_n 2, 1) := by decide +kernel
theorem dX4_connect_63 : decode cX4_connect 63 = .ok (.aload_n 0, 1) := by decide +kernel
theorem dX4_connect_64 : decode cX4_connect 64 = .ok (.aload_n 0, 1) := by decide +kernel
theorem dX4_connect_65 : decode cX4_connect 65 = .ok (.iload_n 1, 1) := by decide +kernel
theorem dX4_connect_66 : decode cX4_connect 66 = .ok (.invokevirtual 109, 3) := by decide +kernel
theorem dX4_connect_69 : decode cX4_connect 69 = .ok (.ifCond .ne 7, 3) := by decide +kernel
theorem dX4_connect_72 : decode cX4_connect 72 = .ok (.iconst 1, 1) := by decide +kernel
theorem dX4_connect_73 : decode cX4_connect 73 = .ok (.goto 12, 3) := by decide +kernel
theorem dX4_connect_76 : decode cX4_connect 76 = .ok (.iload_n 2, 1) := by decide +kernel
theorem dX4_connect_77 : decode cX4_connect 77 = .ok (.ifCond .eq 7, 3) := by decide +kernel
theorem dX4_connect_80 : decode cX4_connect 80 = .ok (.iconst 0, 1) := by decide +kernel
theorem dX4_connect_81 : decode cX4_connect 81 = .ok (.goto 4, 3) := by decide +kernel
theorem dX4_connect_84 : decode cX4_connect 84 = .ok (.iconst 2, 1) := by decide +kernel
theorem dX4_connect_85 : decode cX4_connect 85 = .ok (.invokevirtual 70, 3) := by decide +kernel
theorem dX4_connect_88 : decode cX4_connect 88 = .ok (.ifCond .ne 5, 3) := by decide +kernel
theorem dX4_connect_91 : decode cX4_connect 91 = .ok (.iconst 0, 1) := by decide +kernel
theorem dX4_connect_92 : decode cX4_connect 92 = .ok (.ireturn, 1) := by decide +kernel
theorem dX4_connect_93 : decode cX4_connect 93 = .ok (.aload_n 0, 1) := by decide +kernel
theorem dX4_connect_94 : decode cX4_connect 94 = .ok (.iload_n 1, 1) := by decide +kernel
theorem dX4_connect_95 : decode cX4_connect 95 = .ok (.invokevirtual 88, 3) := by decide +kernel
theorem dX4_connect_98 : decode cX4_connect 98 = .ok (.istore_n 3, 1) := by decide +kernel
theorem dX4_connect_99 : decode cX4_connect 99 = .ok (.aload_n 0, 1) := by decide +kernel
theorem dX4_connect_100 : decode cX4_connect 100 = .ok (.iload_n 1, 1) := by decide +kernel
theorem dX4_connect_101 : decode cX4_connect 101 = .ok (.aload_n 0, 1) := by decide +kernel
theorem dX4_connect_102 : decode cX4_connect 102 = .ok (.getfield 53, 3) := by decide +kernel
theorem dX4_connect_105 : decode cX4_connect 105 = .ok (.iload_n 3, 1) := by decide +kernel
theorem dX4_connect_106 : decode cX4_connect 106 = .ok (.invokevirtual 92, 3) := by decide +kernel
theorem dX4_connect_109 : decode cX4_connect 109 = .ok (.aload_n 0, 1) := by decide +kernel
theorem dX4_connect_110 : decode cX4_connect 110 = .ok (.getfield 47, 3) := by decide +kernel
theorem dX4_connect_113 : decode cX4_connect 113 = .ok (.iload_n 1, 1) := by decide +kernel
theorem dX4_connect_114 : decode cX4_connect 114 = .ok (.aload_n 0, 1) := by decide +kernel
theorem dX4_connect_115 : decode cX4_connect 115 = .ok (.getfield 53, 3) := by decide +kernel
theorem dX4_connect_118 : decode cX4_connect 118 = .ok (.iastore, 1) := by decide +kernel
theorem dX4_connect_119 : decode cX4_connect 119 = .ok (.aload_n 0, 1) := by decide +kernel
theorem dX4_connect_120 : decode cX4_connect 120 = .ok (.iload_n 1, 1) := by decide +kernel
theorem dX4_connect_121 : decode cX4_connect 121 = .ok (.iload_n 3, 1) := by decide +kernel
theorem dX4_connect_122 : decode cX4_connect 122 = .ok (.invokevirtual 112, 3) := by decide +kernel
theorem dX4_connect_125 : decode cX4_connect 125 = .ok (.ireturn, 1) := by decide +kernel
theorem dX4_disconnect_0 : decode cX4_disconnect 0 = .ok (.aload_n 0, 1) := by decide +kernel
theorem dX4_disconnect_1 : decode cX4_disconnect 1 = .ok (.iload_n 1, 1) := by decide +kernel
theorem dX4_disconnect_2 : decode cX4_disconnect 2 = .ok (.invokevirtual 109, 3) := by decide +kernel
theorem dX4_disconnect_5 : decode cX4_disconnect 5 = .ok (.ifCond .eq 38, 3) := by decide +kernel
theorem dX4_disconnect_8 : decode cX4_disconnect 8 = .ok (.aload_n 0, 1) := by decide +kernel
theorem dX4_disconnect_9 : decode cX4_disconnect 9 = .ok (.getfield 53, 3) := by decide +kernel
theorem dX4_disconnect_12 : decode cX4_disconnect 12 = .ok (.iconst (-1), 1) := by decide +kernel
theorem dX4_disconnect_13 : decode cX4_disconnect 13 = .ok (.if_icmp .eq 30, 3) := by decide +kernel
theorem dX4_disconnect_16 : decode cX4_disconnect 16 = .ok (.aload_n 0, 1) := by decide +kernel
theorem dX4_disconnect_17 : decode cX4_disconnect 17 = .ok (.iload_n 1, 1) := by decide +kernel
theorem dX4_disconnect_18 : decode cX4_disconnect 18 = .ok (.aload_n 0, 1) := by decide +kernel
theorem dX4_disconnect_19 : decode cX4_disconnect 19 = .ok (.getfield 53, 3) := by decide +kernel
theorem dX4_disconnect_22 : decode cX4_disconnect 22 = .ok (.invokevirtual 78, 3) := by decide +kernel
theorem dX4_disconnect_25 : decode cX4_disconnect 25 = .ok (.iconst (-1), 1) := by decide +kernel
theorem dX4_disconnect_26 : decode cX4_disconnect 26 = .ok (.if_icmp .eq 17, 3) := by decide +kernel
theorem dX4_disconnect_29 : decode cX4_disconnect 29 = .ok (.aload_n 0, 1) := by decide +kernel
theorem dX4_disconnect_30 : decode cX4_disconnect 30 = .ok (.getfield 23, 3) := by decide +kernel
theorem dX4_disconnect_33 : decode cX4_disconnect 33 = .ok (.iload_n 1, 1) := by decide +kernel
theorem dX4_disconnect_34 : decode cX4_disconnect 34 = .ok (.iaload, 1) := by decide +kernel
theorem dX4_disconnect_35 : decode cX4_disconnect 35 = .ok (.iconst 2, 1) := by decide +kernel
theorem dX4_disconnect_36 : decode cX4_disconnect 36 = .ok (.if_icmp .ne 7, 3) := by decide +kernel
theorem dX4_disconnect_39 : decode cX4_disconnect 39 = .ok (.iconst 1, 1) := by decide +kernel
theorem dX4_disconnect_40 : decode cX4_disconnect 40 = .ok (.goto 4, 3) := by decide +kernel
theorem dX4_disconnect_43 : decode cX4_disconnect 43 = .ok (.iconst 0, 1) := by decide +kernel
theorem dX4_disconnect_44 : decode cX4_disconnect 44 = .ok (.istore_n 2, 1) := by decide +kernel
theorem dX4_disconnect_45 : decode cX4_disconnect 45 = .ok (.aload_n 0, 1) := by decide +kernel
theorem dX4_disconnect_46 : decode cX4_disconnect 46 = .ok (.aload_n 0, 1) := by decide +kernel
theorem dX4_disconnect_47 : decode cX4_disconnect 47 = .ok (.iload_n 1, 1) := by decide +kernel
theorem dX4_disconnect_48 : decode cX4_disconnect 48 = .ok (.invokevirtual 109, 3) := by decide +kernel
theorem dX4_disconnect_51 : decode cX4_disconnect 51 = .ok (.ifCond .ne 7, 3) := by decide +kernel
theorem dX4_disconnect_54 : decode cX4_disconnect 54 = .ok (.iconst 1, 1) := by decide +kernel
theorem dX4_disconnect_55 : decode cX4_disconnect 55 = .ok (.goto 12, 3) := by decide +kernel
theorem dX4_disconnect_58 : decode cX4_disconnect 58 = .ok (.iload_n 2, 1) := by decide +kernel
theorem dX4_disconnect_59 : decode cX4_disconnect 59 = .ok (.ifCond .eq 7, 3) := by decide +kernel
theorem dX4_disconnect_62 : decode cX4_disconnect 62 = .ok (.iconst 0, 1) := by decide +kernel
theorem dX4_disconnect_63 : decode cX4_disconnect 63 = .ok (.goto 4, 3) := by decide +kernel
theorem dX4_disconnect_66 : decode cX4_disconnect 66 = .ok (.iconst 2, 1) := by decide +kernel
theorem dX4_disconnect_67 : decode cX4_disconnect 67 = .ok (.invokevirtual 70, 3) := by decide +kernel
theorem dX4_disconnect_70 : decode cX4_disconnect 70 = .ok (.ifCond .ne 5, 3) := by decide +kernel
theorem dX4_disconnect_73 : decode cX4_disconnect 73 = .ok (.iconst 0, 1) := by decide +kernel
theorem dX4_disconnect_74 : decode cX4_disconnect 74 = .ok (.ireturn, 1) := by decide +kernel
theorem dX4_disconnect_75 : decode cX4_disconnect 75 = .ok (.aload_n 0, 1) := by decide +kernel
theorem dX4_disconnect_76 : decode cX4_disconnect 76 = .ok (.iload_n 1, 1) := by decide +kernel
theorem dX4_disconnect_77 : decode cX4_disconnect 77 = .ok (.aload_n 0, 1) := by decide +kernel
theorem dX4_disconnect_78 : decode cX4_disconnect 78 = .ok (.getfield 53, 3) := by decide +kernel
theorem dX4_disconnect_81 : decode cX4_disconnect 81 = .ok (.invokevirtual 78, 3) := by decide +kernel
theorem dX4_disconnect_84 : decode cX4_disconnect 84 = .ok (.istore_n 3, 1) := by decide +kernel
theorem dX4_disconnect_85 : decode cX4_disconnect 85 = .ok (.aload_n 0, 1) := by decide +kernel
theorem dX4_disconnect_86 : decode cX4_disconnect 86 = .ok (.iload_n 1, 1) := by decide +kernel
theorem dX4_disconnect_87 : decode cX4_disconnect 87 = .ok (.aload_n 0, 1) := by decide +kernel
theorem dX4_disconnect_88 : decode cX4_disconnect 88 = .ok (.getfield 53, 3) := by decide +kernel
theorem dX4_disconnect_91 : decode cX4_disconnect 91 = .ok (.invokevirtual 99, 3) := by decide +kernel
theorem dX4_disconnect_94 : decode cX4_disconnect 94 = .ok (.aload_n 0, 1) := by decide +kernel
theorem dX4_disconnect_95 : decode cX4_disconnect 95 = .ok (.getfield 47, 3) := by decide +kernel
theorem dX4_disconnect_98 : decode cX4_disconnect 98 = .ok (.iload_n 1, 1) := by decide +kernel
theorem dX4_disconnect_99 : decode cX4_disconnect 99 = .ok (.aload_n 0, 1) := by decide +kernel
theorem dX4_disconnect_100 : decode cX4_disconnect 100 = .ok (.getfield 47, 3) := by decide +kernel
theorem dX4_disconnect_103 : decode cX4_disconnect 103 = .ok (.iload_n 1, 1) := by decide +kernel
theorem dX4_disconnect_104 : decode cX4_disconnect 104 = .ok (.iaload, 1) := by decide +kernel
theorem dX4_disconnect_105 : decode cX4_disconnect 105 = .ok (.aload_n 0, 1) := by decide +kernel
theorem dX4_disconnect_106 : decode cX4_disconnect 106 = .ok (.getfield 53, 3) := by decide +kernel
theorem dX4_disconnect_109 : decode cX4_disconnect 109 = .ok (.if_icmp .ne 7, 3) := by decide +kernel
theorem dX4_disconnect_112 : decode cX4_disconnect 112 = .ok (.iconst (-1), 1) := by decide +kernel
theorem dX4_disconnect_113 : decode cX4_disconnect 113 = .ok (.goto 9, 3) := by decide +kernel
theorem dX4_disconnect_116 : decode cX4_disconnect 116 = .ok (.aload_n 0, 1) := by decide +kernel
theorem dX4_disconnect_117 : decode cX4_disconnect 117 = .ok (.getfield 47, 3) := by decide +kernel
theorem dX4_disconnect_120 : decode cX4_disconnect 120 = .ok (.iload_n 1, 1) := by decide +kernel
theorem dX4_disconnect_121 : decode cX4_disconnect 121 = .ok (.iaload, 1) := by decide +kernel
theorem dX4_disconnect_122 : decode cX4_disconnect 122 = .ok (.iastore, 1) := by decide +kernel
theorem dX4_disconnect_123 : decode cX4_disconnect 123 = .ok (.aload_n 0, 1) := by decide +kernel
theorem dX4_disconnect_124 : decode cX4_disconnect 124 = .ok (.iload_n 1, 1) := by decide +kernel
theorem dX4_disconnect_125 : decode cX4_disconnect 125 = .ok (.iload_n 3, 1) := by decide +kernel
theorem dX4_disconnect_126 : decode cX4_disconnect 126 = .ok (.invokevirtual 112, 3) := by decide +kernel
theorem dX4_disconnect_129 : decode cX4_disconnect 129 = .ok (.ireturn, 1) := by decide +kernel
theorem dX4_reconnect_0 : decode cX4_reconnect 0 = .ok (.aload_n 0, 1) := by decide +kernel
theorem dX4_reconnect_1 : decode cX4_reconnect 1 = .ok (.iload_n 1, 1) := by decide +kernel
theorem dX4_reconnect_2 : decode cX4_reconnect 2 = .ok (.invokevirtual 109, 3) := by decide +kernel
theorem dX4_reconnect_5 : decode cX4_reconnect 5 = .ok (.ifCond .eq 30, 3) := by decide +kernel
theorem dX4_reconnect_8 : decode cX4_reconnect 8 = .ok (.aload_n 0, 1) := by decide +kernel
theorem dX4_reconnect_9 : decode cX4_reconnect 9 = .ok (.iload_n 2, 1) := by decide +kernel
theorem dX4_reconnect_10 : decode cX4_reconnect 10 = .ok (.invokevirtual 115, 3) := by decide +kernel
theorem dX4_reconnect_13 : decode cX4_reconnect 13 = .ok (.ifCond .eq 22, 3) := by decide +kernel
theorem dX4_reconnect_16 : decode cX4_reconnect 16 = .ok (.aload_n 0, 1) := by decide +kernel
theorem dX4_reconnect_17 : decode cX4_reconnect 17 = .ok (.getfield 29, 3) := by decide +kernel
theorem dX4_reconnect_20 : decode cX4_reconnect 20 = .ok (.iload_n 2, 1) := by decide +kernel
theorem dX4_reconnect_21 : decode cX4_reconnect 21 = .ok (.iaload, 1) := by decide +kernel
theorem dX4_reconnect_22 : decode cX4_reconnect 22 = .ok (.aload_n 0, 1) := by decide +kernel
theorem dX4_reconnect_23 : decode cX4_reconnect 23 = .ok (.getfield 7, 3) := by decide +kernel
theorem dX4_reconnect_26 : decode cX4_reconnect 26 = .ok (.iload_n 1, 1) := by decide +kernel
theorem dX4_reconnect_27 : decode cX4_reconnect 27 = .ok (.iaload, 1) := by decide +kernel
theorem dX4_reconnect_28 : decode cX4_reconnect 28 = .ok (.if_icmp .ne 7, 3) := by decide +kernel
theorem dX4_reconnect_31 : decode cX4_reconnect 31 = .ok (.iconst 1, 1) := by decide +kernel
theorem dX4_reconnect_32 : decode cX4_reconnect 32 = .ok (.goto 4, 3) := by decide +kernel
theorem dX4_reconnect_35 : decode cX4_reconnect 35 = .ok (.iconst 0, 1) := by decide +kernel
theorem dX4_reconnect_36 : decode cX4_reconnect 36 = .ok (.istore_n 3, 1) := by decide +kernel
theorem dX4_reconnect_37 : decode cX4_reconnect 37 = .ok (.iload_n 3, 1) := by decide +kernel
theorem dX4_reconnect_38 : decode cX4_reconnect 38 = .ok (.ifCond .eq 37, 3) := by decide +kernel
theorem dX4_reconnect_41 : decode cX4_reconnect 41 = .ok (.aload_n 0, 1) := by decide +kernel
theorem dX4_reconnect_42 : decode cX4_reconnect 42 = .ok (.getfield 53, 3) := by decide +kernel
theorem dX4_reconnect_45 : decode cX4_reconnect 45 = .ok (.iconst (-1), 1) := by decide +kernel
theorem dX4_reconnect_46 : decode cX4_reconnect 46 = .ok (.if_icmp .eq 29, 3) := by decide +kernel
theorem dX4_reconnect_49 : decode cX4_reconnect 49 = .ok (.aload_n 0, 1) := by decide +kernel
theorem dX4_reconnect_50 : decode cX4_reconnect 50 = .ok (.iload_n 1, 1) := by decide +kernel
theorem dX4_reconnect_51 : decode cX4_reconnect 51 = .ok (.aload_n 0, 1) := by decide +kernel
theorem dX4_reconnect_52 : decode cX4_reconnect 52 = .ok (.getfield 53, 3) := by decide +kernel
theorem dX4_reconnect_55 : decode cX4_reconnect 55 = .ok (.invokevirtual 78, 3) := by decide +kernel
theorem dX4_reconnect_58 : decode cX4_reconnect 58 = .ok (.iconst (-1), 1) := by decide +kernel
theorem dX4_reconnect_59 : decode cX4_reconnect 59 = .ok (.if_icmp .eq 16, 3) := by decide +kernel
theorem dX4_reconnect_62 : decode cX4_reconnect 62 = .ok (.aload_n 0, 1) := by decide +kernel
theorem dX4_reconnect_63 : decode cX4_reconnect 63 = .ok (.getfield 23, 3) := by decide +kernel
theorem dX4_reconnect_66 : decode cX4_reconnect 66 = .ok (.iload_n 1, 1) := by decide +kernel
theorem dX4_reconnect_67 : decode cX4_reconnect 67 = .ok (.iaload, 1) := by decide +kernel
theorem dX4_reconnect_68 : decode cX4_reconnect 68 = .ok (.ifCond .eq 7, 3) := by decide +kernel
theorem dX4_reconnect_71 : decode cX4_reconnect 71 = .ok (.iconst 1, 1) := by decide +kernel
theorem dX4_reconnect_72 : decode cX4_reconnect 72 = .ok (.goto 4, 3) := by decide +kernel
theorem dX4_reconnect_75 : decode cX4_reconnect 75 = .ok (.iconst 0, 1) := by decide +kernel
theorem dX4_reconnect_76 : decode cX4_reconnect 76 = .ok (.istore 4, 2) := by decide +kernel
theorem dX4_reconnect_78 : decode cX4_reconnect 78 = .ok (.aload_n 0, 1) := by decide +kernel
theorem dX4_reconnect_79 : decode cX4_reconnect 79 = .ok (.iload_n 3, 1) := by decide +kernel
theorem dX4_reconnect_80 : decode cX4_reconnect 80 = .ok (.ifCond .ne 7, 3) := by decide +kernel
theorem dX4_reconnect_83 : decode cX4_reconnect 83 = .ok (.iconst 1, 1) := by decide +kernel
theorem dX4_reconnect_84 : decode cX4_reconnect 84 = .ok (.goto 13, 3) := by decide +kernel
theorem dX4_reconnect_87 : decode cX4_reconnect 87 = .ok (.iload 4, 2) := by decide +kernel
theorem dX4_reconnect_89 : decode cX4_reconnect 89 = .ok (.ifCond .eq 7, 3) := by decide +kernel
theorem dX4_reconnect_92 : decode cX4_reconnect 92 = .ok (.iconst 0, 1) := by decide +kernel
theorem dX4_reconnect_93 : decode cX4_reconnect 93 = .ok (.goto 4, 3) := by decide +kernel
theorem dX4_reconnect_96 : decode cX4_reconnect 96 = .ok (.iconst 2, 1) := by decide +kernel
theorem dX4_reconnect_97 : decode cX4_reconnect 97 = .ok (.invokevirtual 70, 3) := by decide +kernel
theorem dX4_reconnect_100 : decode cX4_reconnect 100 = .ok (.ifCond .ne 5, 3) := by decide +kernel
theorem dX4_reconnect_103 : decode cX4_reconnect 103 = .ok (.iconst 0, 1) := by decide +kernel
theorem dX4_reconnect_104 : decode cX4_reconnect 104 = .ok (.ireturn, 1) := by decide +kernel
theorem dX4_reconnect_105 : decode cX4_reconnect 105 = .ok (.aload_n 0, 1) := by decide +kernel
theorem dX4_reconnect_106 : decode cX4_reconnect 106 = .ok (.iload_n 1, 1) := by decide +kernel
theorem dX4_reconnect_107 : decode cX4_reconnect 107 = .ok (.aload_n 0, 1) := by decide +kernel
theorem dX4_reconnect_108 : decode cX4_reconnect 108 = .ok (.getfield 53, 3) := by decide +kernel
theorem dX4_reconnect_111 : decode cX4_reconnect 111 = .ok (.invokevirtual 99, 3) := by decide +kernel
theorem dX4_reconnect_114 : decode cX4_reconnect 114 = .ok (.aload_n 0, 1) := by decide +kernel
theorem dX4_reconnect_115 : decode cX4_reconnect 115 = .ok (.iload_n 1, 1) := by decide +kernel
theorem dX4_reconnect_116 : decode cX4_reconnect 116 = .ok (.aload_n 0, 1) := by decide +kernel
theorem dX4_reconnect_117 : decode cX4_reconnect 117 = .ok (.getfield 53, 3) := by decide +kernel
theorem dX4_reconnect_120 : decode cX4_reconnect 120 = .ok (.iload_n 2, 1) := by decide +kernel
theorem dX4_reconnect_121 : decode cX4_reconnect 121 = .ok (.invokevirtual 92, 3) := by decide +kernel
theorem dX4_reconnect_124 : decode cX4_reconnect 124 = .ok (.aload_n 0, 1) := by decide +kernel
theorem dX4_reconnect_125 : decode cX4_reconnect 125 = .ok (.getfield 47, 3) := by decide +kernel
theorem dX4_reconnect_128 : decode cX4_reconnect 128 = .ok (.iload_n 1, 1) := by decide +kernel
theorem dX4_reconnect_129 : decode cX4_reconnect 129 = .ok (.aload_n 0, 1) := by decide +kernel
theorem dX4_reconnect_130 : decode cX4_reconnect 130 = .ok (.getfield 53, 3) := by decide +kernel
theorem dX4_reconnect_133 : decode cX4_reconnect 133 = .ok (.iastore, 1) := by decide +kernel
theorem dX4_reconnect_134 : decode cX4_reconnect 134 = .ok (.aload_n 0, 1) := by decide +kernel
theorem dX4_reconnect_135 : decode cX4_reconnect 135 = .ok (.iload_n 1, 1) := by decide +kernel
theorem dX4_reconnect_136 : decode cX4_reconnect 136 = .ok (.iload_n 2, 1) := by decide +kernel
theorem dX4_reconnect_137 : decode cX4_reconnect 137 = .ok (.invokevirtual 112, 3) := by decide +kernel
theorem dX4_reconnect_140 : decode cX4_reconnect 140 = .ok (.ireturn, 1) := by decide +kernel
theorem dX4_find_0 : decode cX4_find 0 = .ok (.aload_n 0, 1) := by decide +kernel
theorem dX4_find_1 : decode cX4_find 1 = .ok (.iconst 0, 1) := by decide +kernel
theorem dX4_find_2 : decode cX4_find 2 = .ok (.putfield 57, 3) := by decide +kernel
theorem dX4_find_5 : decode cX4_find 5 = .ok (.aload_n 0, 1) := by decide +kernel
theorem dX4_find_6 : decode cX4_find 6 = .ok (.aload_n 0, 1) := by decide +kernel
theorem dX4_find_7 : decode cX4_find 7 = .ok (.iload_n 1, 1) := by decide +kernel
theorem dX4_find_8 : decode cX4_find 8 = .ok (.invokevirtual 115, 3) := by decide +kernel
theorem dX4_find_11 : decode cX4_find 11 = .ok (.ifCond .eq 7, 3) := by decide +kernel
theorem dX4_find_14 : decode cX4_find 14 = .ok (.iload_n 1, 1) := by decide +kernel
theorem dX4_find_15 : decode cX4_find 15 = .ok (.goto 4, 3) := by decide +kernel
theorem dX4_find_18 : decode cX4_find 18 = .ok (.iconst (-1), 1) := by decide +kernel
theorem dX4_find_19 : decode cX4_find 19 = .ok (.invokevirtual 96, 3) := by decide +kernel
theorem dX4_find_22 : decode cX4_find 22 = .ok (.ireturn, 1) := by decide +kernel
theorem dX4_findOf_0 : decode cX4_findOf 0 = .ok (.aload_n 0, 1) := by decide +kernel
theorem dX4_findOf_1 : decode cX4_findOf 1 = .ok (.iload_n 1, 1) := by decide +kernel
theorem dX4_findOf_2 : decode cX4_findOf 2 = .ok (.iconst 0, 1) := by decide +kernel
theorem dX4_findOf_3 : decode cX4_findOf 3 = .ok (.iconst 3, 1) := by decide +kernel
theorem dX4_findOf_4 : decode cX4_findOf 4 = .ok (.invokestatic 63, 3) := by decide +kernel
theorem dX4_findOf_7 : decode cX4_findOf 7 = .ok (.ifCond .eq 7, 3) := by decide +kernel
theorem dX4_findOf_10 : decode cX4_findOf 10 = .ok (.iconst 0, 1) := by decide +kernel
theorem dX4_findOf_11 : decode cX4_findOf 11 = .ok (.goto 4, 3) := by decide +kernel
theorem dX4_findOf_14 : decode cX4_findOf 14 = .ok (.iconst 1, 1) := by decide +kernel
theorem dX4_findOf_15 : decode cX4_findOf 15 = .ok (.invokevirtual 70, 3) := by decide +kernel
theorem dX4_findOf_18 : decode cX4_findOf 18 = .ok (.ifCond .ne 5, 3) := by decide +kernel
theorem dX4_findOf_21 : decode cX4_findOf 21 = .ok (.iconst 0, 1) := by decide +kernel
theorem dX4_findOf_22 : decode cX4_findOf 22 = .ok (.ireturn, 1) := by decide +kernel
theorem dX4_findOf_23 : decode cX4_findOf 23 = .ok (.iconst (-1), 1) := by decide +kernel
theorem dX4_findOf_24 : decode cX4_findOf 24 = .ok (.istore_n 3, 1) := by decide +kernel
theorem dX4_findOf_25 : decode cX4_findOf 25 = .ok (.aload_n 0, 1) := by decide +kernel
theorem dX4_findOf_26 : decode cX4_findOf 26 = .ok (.getfield 67, 3) := by decide +kernel
theorem dX4_findOf_29 : decode cX4_findOf 29 = .ok (.iconst 1, 1) := by decide +kernel
theorem dX4_findOf_30 : decode cX4_findOf 30 = .ok (.isub, 1) := by decide +kernel
theorem dX4_findOf_31 : decode cX4_findOf 31 = .ok (.istore 4, 2) := by decide +kernel
theorem dX4_findOf_33 : decode cX4_findOf 33 = .ok (.iload 4, 2) := by decide +kernel
theorem dX4_findOf_35 : decode cX4_findOf 35 = .ok (.ifCond .lt 52, 3) := by decide +kernel
theorem dX4_findOf_38 : decode cX4_findOf 38 = .ok (.iload_n 2, 1) := by decide +kernel
theorem dX4_findOf_39 : decode cX4_findOf 39 = .ok (.ifCond .ne 14, 3) := by decide +kernel
theorem dX4_findOf_42 : decode cX4_findOf 42 = .ok (.iload 4, 2) := by decide +kernel
theorem dX4_findOf_44 : decode cX4_findOf 44 = .ok (.aload_n 0, 1) := by decide +kernel
theorem dX4_findOf_45 : decode cX4_findOf 45 = .ok (.getfield 44, 3) := by decide +kernel
theorem dX4_findOf_48 : decode cX4_findOf 48 = .ok (.iload_n 1, 1) := by decide +kernel
theorem dX4_findOf_49 : decode cX4_findOf 49 = .ok (.iaload, 1) := by decide +kernel
theorem dX4_findOf_50 : decode cX4_findOf 50 = .ok (.if_icmp .le 37, 3) := by decide +kernel
theorem dX4_findOf_53 : decode cX4_findOf 53 = .ok (.aload_n 0, 1) := by decide +kernel
theorem dX4_findOf_54 : decode cX4_findOf 54 = .ok (.getfield 26, 3) := by decide +kernel
theorem dX4_findOf_57 : decode cX4_findOf 57 = .ok (.iload 4, 2) := by decide +kernel
theorem dX4_findOf_59 : decode cX4_findOf 59 = .ok (.baload, 1) := by decide +kernel
theorem dX4_findOf_60 : decode cX4_findOf 60 = .ok (.ifCond .eq 19, 3) := by decide +kernel
theorem dX4_findOf_63 : decode cX4_findOf 63 = .ok (.aload_n 0, 1) := by decide +kernel
theorem dX4_findOf_64 : decode cX4_findOf 64 = .ok (.getfield 29, 3) := by decide +kernel
theorem dX4_findOf_67 : decode cX4_findOf 67 = .ok (.iload 4, 2) := by decide +kernel
theorem dX4_findOf_69 : decode cX4_findOf 69 = .ok (.iaload, 1) := by decide +kernel
theorem dX4_findOf_70 : decode cX4_findOf 70 = .ok (.iload_n 1, 1) := by decide +kernel
theorem dX4_findOf_71 : decode cX4_findOf 71 = .ok (.if_icmp .ne 8, 3) := by decide +kernel
theorem dX4_findOf_74 : decode cX4_findOf 74 = .ok (.iload 4, 2) := by decide +kernel
theorem dX4_findOf_76 : decode cX4_findOf 76 = .ok (.goto 4, 3) := by decide +kernel
theorem dX4_findOf_79 : decode cX4_findOf 79 = .ok (.iload_n 3, 1) := by decide +kernel
theorem dX4_findOf_80 : decode cX4_findOf 80 = .ok (.istore_n 3, 1) := by decide +kernel
theorem dX4_findOf_81 : decode cX4_findOf 81 = .ok (.iinc 4 (-1), 3) := by decide +kernel
theorem dX4_findOf_84 : decode cX4_findOf 84 = .ok (.goto (-51), 3) := by decide +kernel
theorem dX4_findOf_87 : decode cX4_findOf 87 = .ok (.aload_n 0, 1) := by decide +kernel
theorem dX4_findOf_88 : decode cX4_findOf 88 = .ok (.iload_n 3, 1) := by decide +kernel
theorem dX4_findOf_89 : decode cX4_findOf 89 = .ok (.invokevirtual 96, 3) := by decide +kernel
theorem dX4_findOf_92 : decode cX4_findOf 92 = .ok (.ireturn, 1) := by decide +kernel
theorem dX4_findEnd_0 : decode cX4_findEnd 0 = .ok (.aload_n 0, 1) := by decide +kernel
theorem dX4_findEnd_1 : decode cX4_findEnd 1 = .ok (.aload_n 0, 1) := by decide +kernel
theorem dX4_findEnd_2 : decode cX4_findEnd 2 = .ok (.iload_n 1, 1) := by decide +kernel
theorem dX4_findEnd_3 : decode cX4_findEnd 3 = .ok (.invokevirtual 109, 3) := by decide +kernel
theorem dX4_findEnd_6 : decode cX4_findEnd 6 = .ok (.ifCond .eq 7, 3) := by decide +kernel
theorem dX4_findEnd_9 : decode cX4_findEnd 9 = .ok (.iconst 0, 1) := by decide +kernel
theorem dX4_findEnd_10 : decode cX4_findEnd 10 = .ok (.goto 4, 3) := by decide +kernel
theorem dX4_findEnd_13 : decode cX4_findEnd 13 = .ok (.iconst 1, 1) := by decide +kernel
theorem dX4_findEnd_14 : decode cX4_findEnd 14 = .ok (.invokevirtual 70, 3) := by decide +kernel
theorem dX4_findEnd_17 : decode cX4_findEnd 17 = .ok (.ifCond .eq 13, 3) := by decide +kernel
theorem dX4_findEnd_20 : decode cX4_findEnd 20 = .ok (.aload_n 0, 1) := by decide +kernel
theorem dX4_findEnd_21 : decode cX4_findEnd 21 = .ok (.getfield 47, 3) := by decide +kernel
theorem dX4_findEnd_24 : decode cX4_findEnd 24 = .ok (.iload_n 1, 1) := by decide +kernel
theorem dX4_findEnd_25 : decode cX4_findEnd 25 = .ok (.iaload, 1) := by decide +kernel
theorem dX4_findEnd_26 : decode cX4_findEnd 26 = .ok (.iconst (-1), 1) := by decide +kernel
theorem dX4_findEnd_27 : decode cX4_findEnd 27 = .ok (.if_icmp .ne 16, 3) := by decide +kernel
theorem dX4_findEnd_30 : decode cX4_findEnd 30 = .ok (.aload_n 0, 1) := by decide +kernel
theorem dX4_findEnd_31 : decode cX4_findEnd 31 = .ok (.getfield 57, 3) := by decide +kernel
theorem dX4_findEnd_34 : decode cX4_findEnd 34 = .ok (.ifCond .ne 7, 3) := by decide +kernel
theorem dX4_findEnd_37 : decode cX4_findEnd 37 = .ok (.iconst (-1), 1) := by decide +kernel
theorem dX4_findEnd_38 : decode cX4_findEnd 38 = .ok (.goto 4, 3) := by decide +kernel
theorem dX4_findEnd_41 : decode cX4_findEnd 41 = .ok (.iconst 0, 1) := by decide +kernel
theorem dX4_findEnd_42 : decode cX4_findEnd 42 = .ok (.ireturn, 1) := by decide +kernel
theorem dX4_findEnd_43 : decode cX4_findEnd 43 = .ok (.aload_n 0, 1) := by decide +kernel
theorem dX4_findEnd_44 : decode cX4_findEnd 44 = .ok (.iload_n 1, 1) := by decide +kernel
theorem dX4_findEnd_45 : decode cX4_findEnd 45 = .ok (.invokevirtual 88, 3) := by decide +kernel
theorem dX4_findEnd_48 : decode cX4_findEnd 48 = .ok (.istore_n 3, 1) := by decide +kernel
theorem dX4_findEnd_49 : decode cX4_findEnd 49 = .ok (.aload_n 0, 1) := by decide +kernel
theorem dX4_findEnd_50 : decode cX4_findEnd 50 = .ok (.aload_n 0, 1) := by decide +kernel
theorem dX4_findEnd_51 : decode cX4_findEnd 51 = .ok (.iload_n 1, 1) := by decide +kernel
theorem dX4_findEnd_52 : decode cX4_findEnd 52 = .ok (.iload_n 3, 1) := by decide +kernel
theorem dX4_findEnd_53 : decode cX4_findEnd 53 = .ok (.iload_n 2, 1) := by decide +kernel
theorem dX4_findEnd_54 : decode cX4_findEnd 54 = .ok (.ifCond .eq 14, 3) := by decide +kernel
theorem dX4_findEnd_57 : decode cX4_findEnd 57 = .ok (.aload_n 0, 1) := by decide +kernel
theorem dX4_findEnd_58 : decode cX4_findEnd 58 = .ok (.iload_n 1, 1) := by decide +kernel
theorem dX4_findEnd_59 : decode cX4_findEnd 59 = .ok (.iload_n 3, 1) := by decide +kernel
theorem dX4_findEnd_60 : decode cX4_findEnd 60 = .ok (.invokevirtual 112, 3) := by decide +kernel
theorem dX4_findEnd_63 : decode cX4_findEnd 63 = .ok (.iconst 1, 1) := by decide +kernel
theorem dX4_findEnd_64 : decode cX4_findEnd 64 = .ok (.isub, 1) := by decide +kernel
theorem dX4_findEnd_65 : decode cX4_findEnd 65 = .ok (.goto 4, 3) := by decide +kernel
theorem dX4_findEnd_68 : decode cX4_findEnd 68 = .ok (.iconst 0, 1) := by decide +kernel
theorem dX4_findEnd_69 : decode cX4_findEnd 69 = .ok (.invokevirtual 118, 3) := by decide +kernel
theorem dX4_findEnd_72 : decode cX4_findEnd 72 = .ok (.invokevirtual 96, 3) := by decide +kernel
theorem dX4_findEnd_75 : decode cX4_findEnd 75 = .ok (.ireturn, 1) := by decide +kernel
theorem dX4_findNext_0 : decode cX4_findNext 0 = .ok (.aload_n 0, 1) := by decide +kernel
theorem dX4_findNext_1 : decode cX4_findNext 1 = .ok (.aload_n 0, 1) := by decide +kernel
theorem dX4_findNext_2 : decode cX4_findNext 2 = .ok (.iload_n 1, 1) := by decide +kernel
theorem dX4_findNext_3 : decode cX4_findNext 3 = .ok (.invokevirtual 109, 3) := by decide +kernel
theorem dX4_findNext_6 : decode cX4_findNext 6 = .ok (.ifCond .eq 7, 3) := by decide +kernel
theorem dX4_findNext_9 : decode cX4_findNext 9 = .ok (.iconst 0, 1) := by decide +kernel
theorem dX4_findNext_10 : decode cX4_findNext 10 = .ok (.goto 4, 3) := by decide +kernel
theorem dX4_findNext_13 : decode cX4_findNext 13 = .ok (.iconst 1, 1) := by decide +kernel
theorem dX4_findNext_14 : decode cX4_findNext 14 = .ok (.invokevirtual 70, 3) := by decide +kernel
theorem dX4_findNext_17 : decode cX4_findNext 17 = .ok (.ifCond .eq 13, 3) := by decide +kernel
theorem dX4_findNext_20 : decode cX4_findNext 20 = .ok (.aload_n 0, 1) := by decide +kernel
theorem dX4_findNext_21 : decode cX4_findNext 21 = .ok (.getfield 47, 3) := by decide +kernel
theorem dX4_findNext_24 : decode cX4_findNext 24 = .ok (.iload_n 1, 1) := by decide +kernel
theorem dX4_findNext_25 : decode cX4_findNext 25 = .ok (.iaload, 1) := by decide +kernel
theorem dX4_findNext_26 : decode cX4_findNext 26 = .ok (.iconst (-1), 1) := by decide +kernel
theorem dX4_findNext_27 : decode cX4_findNext 27 = .ok (.if_icmp .ne 16, 3) := by decide +kernel
theorem dX4_findNext_30 : decode cX4_findNext 30 = .ok (.aload_n 0, 1) := by decide +kernel
theorem dX4_findNext_31 : decode cX4_findNext 31 = .ok (.getfield 57, 3) := by decide +kernel
theorem dX4_findNext_34 : decode cX4_findNext 34 = .ok (.ifCond .ne 7, 3) := by decide +kernel
theorem dX4_findNext_37 : decode cX4_findNext 37 = .ok (.iconst (-1), 1) := by decide +kernel
theorem dX4_findNext_38 : decode cX4_findNext 38 = .ok (.goto 4, 3) := by decide +kernel
theorem dX4_findNext_41 : decode cX4_findNext 41 = .ok (.iconst 0, 1) := by decide +kernel
theorem dX4_findNext_42 : decode cX4_findNext 42 = .ok (.ireturn, 1) := by decide +kernel
theorem dX4_findNext_43 : decode cX4_findNext 43 = .ok (.aload_n 0, 1) := by decide +kernel
theorem dX4_findNext_44 : decode cX4_findNext 44 = .ok (.iload_n 1, 1) := by decide +kernel
theorem dX4_findNext_45 : decode cX4_findNext 45 = .ok (.invokevirtual 88, 3) := by decide +kernel
theorem dX4_findNext_48 : decode cX4_findNext 48 = .ok (.istore_n 3, 1) := by decide +kernel
theorem dX4_findNext_49 : decode cX4_findNext 49 = .ok (.aload_n 0, 1) := by decide +kernel
theorem dX4_findNext_50 : decode cX4_findNext 50 = .ok (.iload_n 1, 1) := by decide +kernel
theorem dX4_findNext_51 : decode cX4_findNext 51 = .ok (.iload_n 3, 1) := by decide +kernel
theorem dX4_findNext_52 : decode cX4_findNext 52 = .ok (.invokevirtual 112, 3) := by decide +kernel
theorem dX4_findNext_55 : decode cX4_findNext 55 = .ok (.istore 4, 2) := by decide +kernel
theorem dX4_findNext_57 : decode cX4_findNext 57 = .ok (.iload_n 2, 1) := by decide +kernel
theorem dX4_findNext_58 : decode cX4_findNext 58 = .ok (.ifCond .eq 8, 3) := by decide +kernel
theorem dX4_findNext_61 : decode cX4_findNext 61 = .ok (.iload 4, 2) := by decide +kernel
theorem dX4_findNext_63 : decode cX4_findNext 63 = .ok (.goto 4, 3) := by decide +kernel
theorem dX4_findNext_66 : decode cX4_findNext 66 = .ok (.iconst (-1), 1) := by decide +kernel
theorem dX4_findNext_67 : decode cX4_findNext 67 = .ok (.istore 5, 2) := by decide +kernel
theorem dX4_findNext_69 : decode cX4_findNext 69 = .ok (.iconst 0, 1) := by decide +kernel
theorem dX4_findNext_70 : decode cX4_findNext 70 = .ok (.istore 6, 2) := by decide +kernel
theorem dX4_findNext_72 : decode cX4_findNext 72 = .ok (.iload 6, 2) := by decide +kernel
theorem dX4_findNext_74 : decode cX4_findNext 74 = .ok (.iload 4, 2) := by decide +kernel
theorem dX4_findNext_76 : decode cX4_findNext 76 = .ok (.if_icmp .ge 35, 3) := by decide +kernel
theorem dX4_findNext_79 : decode cX4_findNext 79 = .ok (.aload_n 0, 1) := by decide +kernel
theorem dX4_findNext_80 : decode cX4_findNext 80 = .ok (.iload_n 1, 1) := by decide +kernel
theorem dX4_findNext_81 : decode cX4_findNext 81 = .ok (.iload_n 3, 1) := by decide +kernel
theorem dX4_findNext_82 : decode cX4_findNext 82 = .ok (.iload 6, 2) := by decide +kernel
theorem dX4_findNext_84 : decode cX4_findNext 84 = .ok (.invokevirtual 118, 3) := by decide +kernel
theorem dX4_findNext_87 : decode cX4_findNext 87 = .ok (.aload_n 0, 1) := by decide +kernel
theorem dX4_findNext_88 : decode cX4_findNext 88 = .ok (.getfield 47, 3) := by decide +kernel
theorem dX4_findNext_91 : decode cX4_findNext 91 = .ok (.iload_n 1, 1) := by decide +kernel
theorem dX4_findNext_92 : decode cX4_findNext 92 = .ok (.iaload, 1) := by decide +kernel
theorem dX4_findNext_93 : decode cX4_findNext 93 = .ok (.if_icmp .ne 8, 3) := by decide +kernel
theorem dX4_findNext_96 : decode cX4_findNext 96 = .ok (.iload 6, 2) := by decide +kernel
theorem dX4_findNext_98 : decode cX4_findNext 98 = .ok (.goto 5, 3) := by decide +kernel
theorem dX4_findNext_101 : decode cX4_findNext 101 = .ok (.iload 5, 2) := by decide +kernel
theorem dX4_findNext_103 : decode cX4_findNext 103 = .ok (.istore 5, 2) := by decide +kernel
theorem dX4_findNext_105 : decode cX4_findNext 105 = .ok (.iinc 6 1, 3) := by decide +kernel
theorem dX4_findNext_108 : decode cX4_findNext 108 = .ok (.goto (-36), 3) := by decide +kernel
theorem dX4_findNext_111 : decode cX4_findNext 111 = .ok (.aload_n 0, 1) := by decide +kernel
theorem dX4_findNext_112 : decode cX4_findNext 112 = .ok (.aload_n 0, 1) := by decide +kernel
theorem dX4_findNext_113 : decode cX4_findNext 113 = .ok (.iload_n 1, 1) := by decide +kernel
theorem dX4_findNext_114 : decode cX4_findNext 114 = .ok (.iload_n 3, 1) := by decide +kernel
theorem dX4_findNext_115 : decode cX4_findNext 115 = .ok (.iload_n 2, 1) := by decide +kernel
theorem dX4_findNext_116 : decode cX4_findNext 116 = .ok (.ifCond .eq 10, 3) := by decide +kernel
theorem dX4_findNext_119 : decode cX4_findNext 119 = .ok (.iload 5, 2) := by decide +kernel
theorem dX4_findNext_121 : decode cX4_findNext 121 = .ok (.iconst 1, 1) := by decide +kernel
theorem dX4_findNext_122 : decode cX4_findNext 122 = .ok (.isub, 1) := by decide +kernel
theorem dX4_findNext_123 : decode cX4_findNext 123 = .ok (.goto 7, 3) := by decide +kernel
theorem dX4_findNext_126 : decode cX4_findNext 126 = .ok (.iload 5, 2) := by decide +kernel
theorem dX4_findNext_128 : decode cX4_findNext 128 = .ok (.iconst 1, 1) := by decide +kernel
theorem dX4_findNext_129 : decode cX4_findNext 129 = .ok (.iadd, 1) := by decide +kernel
theorem dX4_findNext_130 : decode cX4_findNext 130 = .ok (.invokevirtual 118, 3) := by decide +kernel
theorem dX4_findNext_133 : decode cX4_findNext 133 = .ok (.invokevirtual 96, 3) := by decide +kernel
theorem dX4_findNext_136 : decode cX4_findNext 136 = .ok (.ireturn, 1) := by decide +kernel
theorem dX4_findOwner_0 : decode cX4_findOwner 0 = .ok (.aload_n 0, 1) := by decide +kernel
theorem dX4_findOwner_1 : decode cX4_findOwner 1 = .ok (.aload_n 0, 1) := by decide +kernel
theorem dX4_findOwner_2 : decode cX4_findOwner 2 = .ok (.iload_n 1, 1) := by decide +kernel
theorem dX4_findOwner_3 : decode cX4_findOwner 3 = .ok (.invokevirtual 109, 3) := by decide +kernel
theorem dX4_findOwner_6 : decode cX4_findOwner 6 = .ok (.ifCond .eq 7, 3) := by decide +kernel
theorem dX4_findOwner_9 : decode cX4_findOwner 9 = .ok (.iconst 0, 1) := by decide +kernel
theorem dX4_findOwner_10 : decode cX4_findOwner 10 = .ok (.goto 4, 3) := by decide +kernel
theorem dX4_findOwner_13 : decode cX4_findOwner 13 = .ok (.iconst 1, 1) := by decide +kernel
theorem dX4_findOwner_14 : decode cX4_findOwner 14 = .ok (.invokevirtual 70, 3) := by decide +kernel
theorem dX4_findOwner_17 : decode cX4_findOwner 17 = .ok (.ifCond .eq 13, 3) := by decide +kernel
theorem dX4_findOwner_20 : decode cX4_findOwner 20 = .ok (.aload_n 0, 1) := by decide +kernel
theorem dX4_findOwner_21 : decode cX4_findOwner 21 = .ok (.getfield 47, 3) := by decide +kernel
theorem dX4_findOwner_24 : decode cX4_findOwner 24 = .ok (.iload_n 1, 1) := by decide +kernel
theorem dX4_findOwner_25 : decode cX4_findOwner 25 = .ok (.iaload, 1) := by decide +kernel
theorem dX4_findOwner_26 : decode cX4_findOwner 26 = .ok (.iconst (-1), 1) := by decide +kernel
theorem dX4_findOwner_27 : decode cX4_findOwner 27 = .ok (.if_icmp .ne 16, 3) := by decide +kernel
theorem dX4_findOwner_30 : decode cX4_findOwner 30 = .ok (.aload_n 0, 1) := by decide +kernel
theorem dX4_findOwner_31 : decode cX4_findOwner 31 = .ok (.getfield 57, 3) := by decide +kernel
theorem dX4_findOwner_34 : decode cX4_findOwner 34 = .ok (.ifCond .ne 7, 3) := by decide +kernel
theorem dX4_findOwner_37 : decode cX4_findOwner 37 = .ok (.iconst (-1), 1) := by decide +kernel
theorem dX4_findOwner_38 : decode cX4_findOwner 38 = .ok (.goto 4, 3) := by decide +kernel
theorem dX4_findOwner_41 : decode cX4_findOwner 41 = .ok (.iconst 0, 1) := by decide +kernel
theorem dX4_findOwner_42 : decode cX4_findOwner 42 = .ok (.ireturn, 1) := by decide +kernel
theorem dX4_findOwner_43 : decode cX4_findOwner 43 = .ok (.aload_n 0, 1) := by decide +kernel
theorem dX4_findOwner_44 : decode cX4_findOwner 44 = .ok (.aload_n 0, 1) := by decide +kernel
theorem dX4_findOwner_45 : decode cX4_findOwner 45 = .ok (.iload_n 1, 1) := by decide +kernel
theorem dX4_findOwner_46 : decode cX4_findOwner 46 = .ok (.invokevirtual 88, 3) := by decide +kernel
theorem dX4_findOwner_49 : decode cX4_findOwner 49 = .ok (.invokevirtual 96, 3) := by decide +kernel
theorem dX4_findOwner_52 : decode cX4_findOwner 52 = .ok (.ireturn, 1) := by decide +kernel
theorem dX4_findValue_0 : decode cX4_findValue 0 = .ok (.aload_n 0, 1) := by decide +kernel
theorem dX4_findValue_1 : decode cX4_findValue 1 = .ok (.aload_n 0, 1) := by decide +kernel
theorem dX4_findValue_2 : decode cX4_findValue 2 = .ok (.iload_n 1, 1) := by decide +kernel
theorem dX4_findValue_3 : decode cX4_findValue 3 = .ok (.invokevirtual 109, 3) := by decide +kernel
theorem dX4_findValue_6 : decode cX4_findValue 6 = .ok (.ifCond .eq 7, 3) := by decide +kernel
theorem dX4_findValue_9 : decode cX4_findValue 9 = .ok (.iconst 0, 1) := by decide +kernel
theorem dX4_findValue_10 : decode cX4_findValue 10 = .ok (.goto 4, 3) := by decide +kernel
theorem dX4_findValue_13 : decode cX4_findValue 13 = .ok (.iconst 1, 1) := by decide +kernel
theorem dX4_findValue_14 : decode cX4_findValue 14 = .ok (.invokevirtual 70, 3) := by decide +kernel
theorem dX4_findValue_17 : decode cX4_findValue 17 = .ok (.ifCond .eq 13, 3) := by decide +kernel
theorem dX4_findValue_20 : decode cX4_findValue 20 = .ok (.aload_n 0, 1) := by decide +kernel
theorem dX4_findValue_21 : decode cX4_findValue 21 = .ok (.getfield 47, 3) := by decide +kernel
theorem dX4_findValue_24 : decode cX4_findValue 24 = .ok (.iload_n 1, 1) := by decide +kernel
theorem dX4_findValue_25 : decode cX4_findValue 25 = .ok (.iaload, 1) := by decide +kernel
theorem dX4_findValue_26 : decode cX4_findValue 26 = .ok (.iconst (-1), 1) := by decide +kernel
theorem dX4_findValue_27 : decode cX4_findValue 27 = .ok (.if_icmp .ne 16, 3) := by decide +kernel
theorem dX4_findValue_30 : decode cX4_findValue 30 = .ok (.aload_n 0, 1) := by decide +kernel
theorem dX4_findValue_31 : decode cX4_findValue 31 = .ok (.getfield 57, 3) := by decide +kernel
theorem dX4_findValue_34 : decode cX4_findValue 34 = .ok (.ifCond .ne 7, 3) := by decide +kernel
theorem dX4_findValue_37 : decode cX4_findValue 37 = .ok (.iconst (-1), 1) := by decide +kernel
theorem dX4_findValue_38 : decode cX4_findValue 38 = .ok (.goto 4, 3) := by decide +kernel
theorem dX4_findValue_41 : decode cX4_findValue 41 = .ok (.iconst 0, 1) := by decide +kernel
theorem dX4_findValue_42 : decode cX4_findValue 42 = .ok (.ireturn, 1) := by decide +kernel
theorem dX4_findValue_43 : decode cX4_findValue 43 = .ok (.aload_n 0, 1) := by decide +kernel
theorem dX4_findValue_44 : decode cX4_findValue 44 = .ok (.iload_n 1, 1) := by decide +kernel
theorem dX4_findValue_45 : decode cX4_findValue 45 = .ok (.invokevirtual 88, 3) := by decide +kernel
theorem dX4_findValue_48 : decode cX4_findValue 48 = .ok (.istore_n 3, 1) := by decide +kernel
theorem dX4_findValue_49 : decode cX4_findValue 49 = .ok (.iconst (-1), 1) := by decide +kernel
theorem dX4_findValue_50 : decode cX4_findValue 50 = .ok (.istore 4, 2) := by decide +kernel
theorem dX4_findValue_52 : decode cX4_findValue 52 = .ok (.aload_n 0, 1) := by decide +kernel
theorem dX4_findValue_53 : decode cX4_findValue 53 = .ok (.iload_n 1, 1) := by decide +kernel
theorem dX4_findValue_54 : decode cX4_findValue 54 = .ok (.iload_n 3, 1) := by decide +kernel
theorem dX4_findValue_55 : decode cX4_findValue 55 = .ok (.invokevirtual 112, 3) := by decide +kernel
theorem dX4_findValue_58 : decode cX4_findValue 58 = .ok (.iconst 1, 1) := by decide +kernel
theorem dX4_findValue_59 : decode cX4_findValue 59 = .ok (.isub, 1) := by decide +kernel
theorem dX4_findValue_60 : decode cX4_findValue 60 = .ok (.istore 5, 2) := by decide +kernel
theorem dX4_findValue_62 : decode cX4_findValue 62 = .ok (.iload 5, 2) := by decide +kernel
theorem dX4_findValue_64 : decode cX4_findValue 64 = .ok (.ifCond .lt 39, 3) := by decide +kernel
theorem dX4_findValue_67 : decode cX4_findValue 67 = .ok (.aload_n 0, 1) := by decide +kernel
theorem dX4_findValue_68 : decode cX4_findValue 68 = .ok (.iload_n 1, 1) := by decide +kernel
theorem dX4_findValue_69 : decode cX4_findValue 69 = .ok (.iload_n 3, 1) := by decide +kernel
theorem dX4_findValue_70 : decode cX4_findValue 70 = .ok (.iload 5, 2) := by decide +kernel
theorem dX4_findValue_72 : decode cX4_findValue 72 = .ok (.invokevirtual 118, 3) := by decide +kernel
theorem dX4_findValue_75 : decode cX4_findValue 75 = .ok (.istore 6, 2) := by decide +kernel
theorem dX4_findValue_77 : decode cX4_findValue 77 = .ok (.aload_n 0, 1) := by decide +kernel
theorem dX4_findValue_78 : decode cX4_findValue 78 = .ok (.getfield 32, 3) := by decide +kernel
theorem dX4_findValue_81 : decode cX4_findValue 81 = .ok (.iload 6, 2) := by decide +kernel
theorem dX4_findValue_83 : decode cX4_findValue 83 = .ok (.iaload, 1) := by decide +kernel
theorem dX4_findValue_84 : decode cX4_findValue 84 = .ok (.iload_n 2, 1) := by decide +kernel
theorem dX4_findValue_85 : decode cX4_findValue 85 = .ok (.if_icmp .ne 8, 3) := by decide +kernel
theorem dX4_findValue_88 : decode cX4_findValue 88 = .ok (.iload 6, 2) := by decide +kernel
theorem dX4_findValue_90 : decode cX4_findValue 90 = .ok (.goto 5, 3) := by decide +kernel
theorem dX4_findValue_93 : decode cX4_findValue 93 = .ok (.iload 4, 2) := by decide +kernel
theorem dX4_findValue_95 : decode cX4_findValue 95 = .ok (.istore 4, 2) := by decide +kernel
theorem dX4_findValue_97 : decode cX4_findValue 97 = .ok (.iinc 5 (-1), 3) := by decide +kernel
theorem dX4_findValue_100 : decode cX4_findValue 100 = .ok (.goto (-38), 3) := by decide +kernel
theorem dX4_findValue_103 : decode cX4_findValue 103 = .ok (.aload_n 0, 1) := by decide +kernel
theorem dX4_findValue_104 : decode cX4_findValue 104 = .ok (.iload 4, 2) := by decide +kernel
theorem dX4_findValue_106 : decode cX4_findValue 106 = .ok (.invokevirtual 96, 3) := by decide +kernel
theorem dX4_findValue_109 : decode cX4_findValue 109 = .ok (.ireturn, 1) := by decide +kernel
theorem dX4_setTypes_0 : decode cX4_setTypes 0 = .ok (.aload_n 0, 1) := by decide +kernel
theorem dX4_setTypes_1 : decode cX4_setTypes 1 = .ok (.iconst 0, 1) := by decide +kernel
theorem dX4_setTypes_2 : decode cX4_setTypes 2 = .ok (.putfield 57, 3) := by decide +kernel
theorem dX4_setTypes_5 : decode cX4_setTypes 5 = .ok (.aload_n 0, 1) := by decide +kernel
theorem dX4_setTypes_6 : decode cX4_setTypes 6 = .ok (.getfield 60, 3) := by decide +kernel
theorem dX4_setTypes_9 : decode cX4_setTypes 9 = .ok (.ireturn, 1) := by decide +kernel
theorem dX4_records_0 : decode cX4_records 0 = .ok (.aload_n 0, 1) := by decide +kernel
theorem dX4_records_1 : decode cX4_records 1 = .ok (.iconst 0, 1) := by decide +kernel
theorem dX4_records_2 : decode cX4_records 2 = .ok (.putfield 57, 3) := by decide +kernel
theorem dX4_records_5 : decode cX4_records 5 = .ok (.aload_n 0, 1) := by decide +kernel
theorem dX4_records_6 : decode cX4_records 6 = .ok (.getfield 85, 3) := by decide +kernel
theorem dX4_records_9 : decode cX4_records 9 = .ok (.ireturn, 1) := by decide +kernel
theorem dX4_current_0 : decode cX4_current 0 = .ok (.aload_n 0, 1) := by decide +kernel
theorem dX4_current_1 : decode cX4_current 1 = .ok (.iconst 0, 1) := by decide +kernel
theorem dX4_current_2 : decode cX4_current 2 = .ok (.putfield 57, 3) := by decide +kernel
theorem dX4_current_5 : decode cX4_current 5 = .ok (.aload_n 0, 1) := by decide +kernel
theorem dX4_current_6 : decode cX4_current 6 = .ok (.getfield 53, 3) := by decide +kernel
theorem dX4_current_9 : decode cX4_current 9 = .ok (.ireturn, 1) := by decide +kernel
theorem dX4_currentOf_0 : decode cX4_currentOf 0 = .ok (.aload_n 0, 1) := by decide +kernel
theorem dX4_currentOf_1 : decode cX4_currentOf 1 = .ok (.iload_n 1, 1) := by decide +kernel
theorem dX4_currentOf_2 : decode cX4_currentOf 2 = .ok (.iconst 0, 1) := by decide +kernel
theorem dX4_currentOf_3 : decode cX4_currentOf 3 = .ok (.iconst 3, 1) := by decide +kernel
theorem dX4_currentOf_4 : decode cX4_currentOf 4 = .ok (.invokestatic 63, 3) := by decide +kernel
theorem dX4_currentOf_7 : decode cX4_currentOf 7 = .ok (.ifCond .eq 7, 3) := by decide +kernel
theorem dX4_currentOf_10 : decode cX4_currentOf 10 = .ok (.iconst 0, 1) := by decide +kernel
theorem dX4_currentOf_11 : decode cX4_currentOf 11 = .ok (.goto 4, 3) := by decide +kernel
theorem dX4_currentOf_14 : decode cX4_currentOf 14 = .ok (.iconst 1, 1) := by decide +kernel
theorem dX4_currentOf_15 : decode cX4_currentOf 15 = .ok (.invokevirtual 70, 3) := by decide +kernel
theorem dX4_currentOf_18 : decode cX4_currentOf 18 = .ok (.ifCond .eq 12, 3) := by decide +kernel
theorem dX4_currentOf_21 : decode cX4_currentOf 21 = .ok (.aload_n 0, 1) := by decide +kernel
theorem dX4_currentOf_22 : decode cX4_currentOf 22 = .ok (.getfield 44, 3) := by decide +kernel
theorem dX4_currentOf_25 : decode cX4_currentOf 25 = .ok (.iload_n 1, 1) := by decide +kernel
theorem dX4_currentOf_26 : decode cX4_currentOf 26 = .ok (.iaload, 1) := by decide +kernel
theorem dX4_currentOf_27 : decode cX4_currentOf 27 = .ok (.goto 4, 3) := by decide +kernel
theorem dX4_currentOf_30 : decode cX4_currentOf 30 = .ok (.iconst 0, 1) := by decide +kernel
theorem dX4_currentOf_31 : decode cX4_currentOf 31 = .ok (.ireturn, 1) := by decide +kernel
theorem dX4_currentIn_0 : decode cX4_currentIn 0 = .ok (.aload_n 0, 1) := by decide +kernel
theorem dX4_currentIn_1 : decode cX4_currentIn 1 = .ok (.aload_n 0, 1) := by decide +kernel
theorem dX4_currentIn_2 : decode cX4_currentIn 2 = .ok (.iload_n 1, 1) := by decide +kernel
theorem dX4_currentIn_3 : decode cX4_currentIn 3 = .ok (.invokevirtual 109, 3) := by decide +kernel
theorem dX4_currentIn_6 : decode cX4_currentIn 6 = .ok (.ifCond .eq 7, 3) := by decide +kernel
theorem dX4_currentIn_9 : decode cX4_currentIn 9 = .ok (.iconst 0, 1) := by decide +kernel
theorem dX4_currentIn_10 : decode cX4_currentIn 10 = .ok (.goto 4, 3) := by decide +kernel
theorem dX4_currentIn_13 : decode cX4_currentIn 13 = .ok (.iconst 1, 1) := by decide +kernel
theorem dX4_currentIn_14 : decode cX4_currentIn 14 = .ok (.invokevirtual 70, 3) := by decide +kernel
theorem dX4_currentIn_17 : decode cX4_currentIn 17 = .ok (.ifCond .eq 12, 3) := by decide +kernel
theorem dX4_currentIn_20 : decode cX4_currentIn 20 = .ok (.aload_n 0, 1) := by decide +kernel
theorem dX4_currentIn_21 : decode cX4_currentIn 21 = .ok (.getfield 47, 3) := by decide +kernel
theorem dX4_currentIn_24 : decode cX4_currentIn 24 = .ok (.iload_n 1, 1) := by decide +kernel
theorem dX4_currentIn_25 : decode cX4_currentIn 25 = .ok (.iaload, 1) := by decide +kernel
theorem dX4_currentIn_26 : decode cX4_currentIn 26 = .ok (.goto 4, 3) := by decide +kernel
theorem dX4_currentIn_29 : decode cX4_currentIn 29 = .ok (.iconst 0, 1) := by decide +kernel
theorem dX4_currentIn_30 : decode cX4_currentIn 30 = .ok (.ireturn, 1) := by decide +kernel
theorem dX4_typeOf_0 : decode cX4_typeOf 0 = .ok (.aload_n 0, 1) := by decide +kernel
theorem dX4_typeOf_1 : decode cX4_typeOf 1 = .ok (.aload_n 0, 1) := by decide +kernel
theorem dX4_typeOf_2 : decode cX4_typeOf 2 = .ok (.iload_n 1, 1) := by decide +kernel
theorem dX4_typeOf_3 : decode cX4_typeOf 3 = .ok (.invokevirtual 115, 3) := by decide +kernel
theorem dX4_typeOf_6 : decode cX4_typeOf 6 = .ok (.ifCond .eq 7, 3) := by decide +kernel
theorem dX4_typeOf_9 : decode cX4_typeOf 9 = .ok (.iconst 0, 1) := by decide +kernel
theorem dX4_typeOf_10 : decode cX4_typeOf 10 = .ok (.goto 4, 3) := by decide +kernel
theorem dX4_typeOf_13 : decode cX4_typeOf 13 = .ok (.iconst 1, 1) := by decide +kernel
theorem dX4_typeOf_14 : decode cX4_typeOf 14 = .ok (.invokevirtual 70, 3) := by decide +kernel
theorem dX4_typeOf_17 : decode cX4_typeOf 17 = .ok (.ifCond .eq 12, 3) := by decide +kernel
theorem dX4_typeOf_20 : decode cX4_typeOf 20 = .ok (.aload_n 0, 1) := by decide +kernel
theorem dX4_typeOf_21 : decode cX4_typeOf 21 = .ok (.getfield 29, 3) := by decide +kernel
theorem dX4_typeOf_24 : decode cX4_typeOf 24 = .ok (.iload_n 1, 1) := by decide +kernel
theorem dX4_typeOf_25 : decode cX4_typeOf 25 = .ok (.iaload, 1) := by decide +kernel
theorem dX4_typeOf_26 : decode cX4_typeOf 26 = .ok (.goto 4, 3) := by decide +kernel
theorem dX4_typeOf_29 : decode cX4_typeOf 29 = .ok (.iconst 0, 1) := by decide +kernel
theorem dX4_typeOf_30 : decode cX4_typeOf 30 = .ok (.ireturn, 1) := by decide +kernel
theorem dX4_valueOf_0 : decode cX4_valueOf 0 = .ok (.aload_n 0, 1) := by decide +kernel
theorem dX4_valueOf_1 : decode cX4_valueOf 1 = .ok (.aload_n 0, 1) := by decide +kernel
theorem dX4_valueOf_2 : decode cX4_valueOf 2 = .ok (.iload_n 1, 1) := by decide +kernel
theorem dX4_valueOf_3 : decode cX4_valueOf 3 = .ok (.invokevirtual 115, 3) := by decide +kernel
theorem dX4_valueOf_6 : decode cX4_valueOf 6 = .ok (.ifCond .eq 7, 3) := by decide +kernel
theorem dX4_valueOf_9 : decode cX4_valueOf 9 = .ok (.iconst 0, 1) := by decide +kernel
theorem dX4_valueOf_10 : decode cX4_valueOf 10 = .ok (.goto 4, 3) := by decide +kernel
theorem dX4_valueOf_13 : decode cX4_valueOf 13 = .ok (.iconst 1, 1) := by decide +kernel
theorem dX4_valueOf_14 : decode cX4_valueOf 14 = .ok (.invokevirtual 70, 3) := by decide +kernel
theorem dX4_valueOf_17 : decode cX4_valueOf 17 = .ok (.ifCond .eq 12, 3) := by decide +kernel
theorem dX4_valueOf_20 : decode cX4_valueOf 20 = .ok (.aload_n 0, 1) := by decide +kernel
theorem dX4_valueOf_21 : decode cX4_valueOf 21 = .ok (.getfield 32, 3) := by decide +kernel
theorem dX4_valueOf_24 : decode cX4_valueOf 24 = .ok (.iload_n 1, 1) := by decide +kernel
theorem dX4_valueOf_25 : decode cX4_valueOf 25 = .ok (.iaload, 1) := by decide +kernel
theorem dX4_valueOf_26 : decode cX4_valueOf 26 = .ok (.goto 4, 3) := by decide +kernel
theorem dX4_valueOf_29 : decode cX4_valueOf 29 = .ok (.iconst 0, 1) := by decide +kernel
theorem dX4_valueOf_30 : decode cX4_valueOf 30 = .ok (.ireturn, 1) := by decide +kernel
theorem dX4_areAsked_0 : decode cX4_areAsked 0 = .ok (.aload_n 0, 1) := by decide +kernel
theorem dX4_areAsked_1 : decode cX4_areAsked 1 = .ok (.aload_n 0, 1) := by decide +kernel
theorem dX4_areAsked_2 : decode cX4_areAsked 2 = .ok (.iload_n 1, 1) := by decide +kernel
theorem dX4_areAsked_3 : decode cX4_areAsked 3 = .ok (.invokevirtual 115, 3) := by decide +kernel
theorem dX4_areAsked_6 : decode cX4_areAsked 6 = .ok (.ifCond .eq 15, 3) := by decide +kernel
theorem dX4_areAsked_9 : decode cX4_areAsked 9 = .ok (.aload_n 0, 1) := by decide +kernel
theorem dX4_areAsked_10 : decode cX4_areAsked 10 = .ok (.iload_n 2, 1) := by decide +kernel
theorem dX4_areAsked_11 : decode cX4_areAsked 11 = .ok (.invokevirtual 109, 3) := by decide +kernel
theorem dX4_areAsked_14 : decode cX4_areAsked 14 = .ok (.ifCond .eq 7, 3) := by decide +kernel
theorem dX4_areAsked_17 : decode cX4_areAsked 17 = .ok (.iconst 0, 1) := by decide +kernel
theorem dX4_areAsked_18 : decode cX4_areAsked 18 = .ok (.goto 4, 3) := by decide +kernel
theorem dX4_areAsked_21 : decode cX4_areAsked 21 = .ok (.iconst 1, 1) := by decide +kernel
theorem dX4_areAsked_22 : decode cX4_areAsked 22 = .ok (.invokevirtual 70, 3) := by decide +kernel
theorem dX4_areAsked_25 : decode cX4_areAsked 25 = .ok (.ireturn, 1) := by decide +kernel
theorem dX4_ownerOf_0 : decode cX4_ownerOf 0 = .ok (.aload_n 0, 1) := by decide +kernel
theorem dX4_ownerOf_1 : decode cX4_ownerOf 1 = .ok (.iload_n 1, 1) := by decide +kernel
theorem dX4_ownerOf_2 : decode cX4_ownerOf 2 = .ok (.iload_n 2, 1) := by decide +kernel
theorem dX4_ownerOf_3 : decode cX4_ownerOf 3 = .ok (.invokevirtual 121, 3) := by decide +kernel
theorem dX4_ownerOf_6 : decode cX4_ownerOf 6 = .ok (.ifCond .eq 12, 3) := by decide +kernel
theorem dX4_ownerOf_9 : decode cX4_ownerOf 9 = .ok (.aload_n 0, 1) := by decide +kernel
theorem dX4_ownerOf_10 : decode cX4_ownerOf 10 = .ok (.iload_n 2, 1) := by decide +kernel
theorem dX4_ownerOf_11 : decode cX4_ownerOf 11 = .ok (.iload_n 1, 1) := by decide +kernel
theorem dX4_ownerOf_12 : decode cX4_ownerOf 12 = .ok (.invokevirtual 78, 3) := by decide +kernel
theorem dX4_ownerOf_15 : decode cX4_ownerOf 15 = .ok (.goto 4, 3) := by decide +kernel
theorem dX4_ownerOf_18 : decode cX4_ownerOf 18 = .ok (.iconst 0, 1) := by decide +kernel
theorem dX4_ownerOf_19 : decode cX4_ownerOf 19 = .ok (.ireturn, 1) := by decide +kernel
theorem dX4_countOf_0 : decode cX4_countOf 0 = .ok (.aload_n 0, 1) := by decide +kernel
theorem dX4_countOf_1 : decode cX4_countOf 1 = .ok (.getfield 29, 3) := by decide +kernel
theorem dX4_countOf_4 : decode cX4_countOf 4 = .ok (.iload_n 1, 1) := by decide +kernel
theorem dX4_countOf_5 : decode cX4_countOf 5 = .ok (.iaload, 1) := by decide +kernel
theorem dX4_countOf_6 : decode cX4_countOf 6 = .ok (.aload_n 0, 1) := by decide +kernel
theorem dX4_countOf_7 : decode cX4_countOf 7 = .ok (.getfield 7, 3) := by decide +kernel
theorem dX4_countOf_10 : decode cX4_countOf 10 = .ok (.iload_n 2, 1) := by decide +kernel
theorem dX4_countOf_11 : decode cX4_countOf 11 = .ok (.iaload, 1) := by decide +kernel
theorem dX4_countOf_12 : decode cX4_countOf 12 = .ok (.if_icmp .ne 12, 3) := by decide +kernel
theorem dX4_countOf_15 : decode cX4_countOf 15 = .ok (.aload_n 0, 1) := by decide +kernel
theorem dX4_countOf_16 : decode cX4_countOf 16 = .ok (.iload_n 2, 1) := by decide +kernel
theorem dX4_countOf_17 : decode cX4_countOf 17 = .ok (.iload_n 1, 1) := by decide +kernel
theorem dX4_countOf_18 : decode cX4_countOf 18 = .ok (.invokevirtual 112, 3) := by decide +kernel
theorem dX4_countOf_21 : decode cX4_countOf 21 = .ok (.goto 4, 3) := by decide +kernel
theorem dX4_countOf_24 : decode cX4_countOf 24 = .ok (.iconst (-1), 1) := by decide +kernel
theorem dX4_countOf_25 : decode cX4_countOf 25 = .ok (.ireturn, 1) := by decide +kernel
theorem dX4_members_0 : decode cX4_members 0 = .ok (.aload_n 0, 1) := by decide +kernel
theorem dX4_members_1 : decode cX4_members 1 = .ok (.iload_n 1, 1) := by decide +kernel
theorem dX4_members_2 : decode cX4_members 2 = .ok (.iload_n 2, 1) := by decide +kernel
theorem dX4_members_3 : decode cX4_members 3 = .ok (.invokevirtual 121, 3) := by decide +kernel
theorem dX4_members_6 : decode cX4_members 6 = .ok (.ifCond .eq 12, 3) := by decide +kernel
theorem dX4_members_9 : decode cX4_members 9 = .ok (.aload_n 0, 1) := by decide +kernel
theorem dX4_members_10 : decode cX4_members 10 = .ok (.iload_n 1, 1) := by decide +kernel
theorem dX4_members_11 : decode cX4_members 11 = .ok (.iload_n 2, 1) := by decide +kernel
theorem dX4_members_12 : decode cX4_members 12 = .ok (.invokevirtual 125, 3) := by decide +kernel
theorem dX4_members_15 : decode cX4_members 15 = .ok (.goto 4, 3) := by decide +kernel
theorem dX4_members_18 : decode cX4_members 18 = .ok (.iconst 0, 1) := by decide +kernel
theorem dX4_members_19 : decode cX4_members 19 = .ok (.ireturn, 1) := by decide +kernel
theorem dX4_membersByTable_0 : decode cX4_membersByTable 0 = .ok (.aload_n 0, 1) := by decide +kernel
theorem dX4_membersByTable_1 : decode cX4_membersByTable 1 = .ok (.iload_n 1, 1) := by decide +kernel
theorem dX4_membersByTable_2 : decode cX4_membersByTable 2 = .ok (.iload_n 2, 1) := by decide +kernel
theorem dX4_membersByTable_3 : decode cX4_membersByTable 3 = .ok (.invokevirtual 121, 3) := by decide +kernel
theorem dX4_membersByTable_6 : decode cX4_membersByTable 6 = .ok (.ifCond .eq 12, 3) := by decide +kernel
theorem dX4_membersByTable_9 : decode cX4_membersByTable 9 = .ok (.aload_n 0, 1) := by decide +kernel
theorem dX4_membersByTable_10 : decode cX4_membersByTable 10 = .ok (.iload_n 1, 1) := by decide +kernel
theorem dX4_membersByTable_11 : decode cX4_membersByTable 11 = .ok (.iload_n 2, 1) := by decide +kernel
theorem dX4_membersByTable_12 : decode cX4_membersByTable 12 = .ok (.invokevirtual 125, 3) := by decide +kernel
theorem dX4_membersByTable_15 : decode cX4_membersByTable 15 = .ok (.goto 4, 3) := by decide +kernel
theorem dX4_membersByTable_18 : decode cX4_membersByTable 18 = .ok (.iconst 0, 1) := by decide +kernel
theorem dX4_membersByTable_19 : decode cX4_membersByTable 19 = .ok (.ireturn, 1) := by decide +kernel
theorem dX4_memberAt_0 : decode cX4_memberAt 0 = .ok (.aload_n 0, 1) := by decide +kernel
theorem dX4_memberAt_1 : decode cX4_memberAt 1 = .ok (.iload_n 1, 1) := by decide +kernel
theorem dX4_memberAt_2 : decode cX4_memberAt 2 = .ok (.invokevirtual 115, 3) := by decide +kernel
theorem dX4_memberAt_5 : decode cX4_memberAt 5 = .ok (.ifCond .eq 46, 3) := by decide +kernel
theorem dX4_memberAt_8 : decode cX4_memberAt 8 = .ok (.aload_n 0, 1) := by decide +kernel
theorem dX4_memberAt_9 : decode cX4_memberAt 9 = .ok (.iload_n 2, 1) := by decide +kernel
theorem dX4_memberAt_10 : decode cX4_memberAt 10 = .ok (.invokevirtual 109, 3) := by decide +kernel
theorem dX4_memberAt_13 : decode cX4_memberAt 13 = .ok (.ifCond .eq 38, 3) := by decide +kernel
theorem dX4_memberAt_16 : decode cX4_memberAt 16 = .ok (.aload_n 0, 1) := by decide +kernel
theorem dX4_memberAt_17 : decode cX4_memberAt 17 = .ok (.getfield 29, 3) := by decide +kernel
theorem dX4_memberAt_20 : decode cX4_memberAt 20 = .ok (.iload_n 1, 1) := by decide +kernel
theorem dX4_memberAt_21 : decode cX4_memberAt 21 = .ok (.iaload, 1) := by decide +kernel
theorem dX4_memberAt_22 : decode cX4_memberAt 22 = .ok (.aload_n 0, 1) := by decide +kernel
theorem dX4_memberAt_23 : decode cX4_memberAt 23 = .ok (.getfield 7, 3) := by decide +kernel
theorem dX4_memberAt_26 : decode cX4_memberAt 26 = .ok (.iload_n 2, 1) := by decide +kernel
theorem dX4_memberAt_27 : decode cX4_memberAt 27 = .ok (.iaload, 1) := by decide +kernel
theorem dX4_memberAt_28 : decode cX4_memberAt 28 = .ok (.if_icmp .ne 23, 3) := by decide +kernel
theorem dX4_memberAt_31 : decode cX4_memberAt 31 = .ok (.iload_n 3, 1) := by decide +kernel
theorem dX4_memberAt_32 : decode cX4_memberAt 32 = .ok (.ifCond .lt 19, 3) := by decide +kernel
theorem dX4_memberAt_35 : decode cX4_memberAt 35 = .ok (.iload_n 3, 1) := by decide +kernel
theorem dX4_memberAt_36 : decode cX4_memberAt 36 = .ok (.bipush 60, 2) := by decide +kernel
theorem dX4_memberAt_38 : decode cX4_memberAt 38 = .ok (.if_icmp .ge 13, 3) := by decide +kernel
theorem dX4_memberAt_41 : decode cX4_memberAt 41 = .ok (.aload_n 0, 1) := by decide +kernel
theorem dX4_memberAt_42 : decode cX4_memberAt 42 = .ok (.iload_n 2, 1) := by decide +kernel
theorem dX4_memberAt_43 : decode cX4_memberAt 43 = .ok (.iload_n 1, 1) := by decide +kernel
theorem dX4_memberAt_44 : decode cX4_memberAt 44 = .ok (.iload_n 3, 1) := by decide +kernel
theorem dX4_memberAt_45 : decode cX4_memberAt 45 = .ok (.invokevirtual 118, 3) := by decide +kernel
theorem dX4_memberAt_48 : decode cX4_memberAt 48 = .ok (.goto 4, 3) := by decide +kernel
theorem dX4_memberAt_51 : decode cX4_memberAt 51 = .ok (.iconst (-1), 1) := by decide +kernel
theorem dX4_memberAt_52 : decode cX4_memberAt 52 = .ok (.istore 4, 2) := by decide +kernel
theorem dX4_memberAt_54 : decode cX4_memberAt 54 = .ok (.aload_n 0, 1) := by decide +kernel
theorem dX4_memberAt_55 : decode cX4_memberAt 55 = .ok (.iload 4, 2) := by decide +kernel
theorem dX4_memberAt_57 : decode cX4_memberAt 57 = .ok (.iconst (-1), 1) := by decide +kernel
theorem dX4_memberAt_58 : decode cX4_memberAt 58 = .ok (.if_icmp .ne 7, 3) := by decide +kernel
theorem dX4_memberAt_61 : decode cX4_memberAt 61 = .ok (.iconst 1, 1) := by decide +kernel
theorem dX4_memberAt_62 : decode cX4_memberAt 62 = .ok (.goto 4, 3) := by decide +kernel
theorem dX4_memberAt_65 : decode cX4_memberAt 65 = .ok (.iconst 0, 1) := by decide +kernel
theorem dX4_memberAt_66 : decode cX4_memberAt 66 = .ok (.invokevirtual 70, 3) := by decide +kernel
theorem dX4_memberAt_69 : decode cX4_memberAt 69 = .ok (.ifCond .eq 8, 3) := by decide +kernel
theorem dX4_memberAt_72 : decode cX4_memberAt 72 = .ok (.iload 4, 2) := by decide +kernel
theorem dX4_memberAt_74 : decode cX4_memberAt 74 = .ok (.goto 4, 3) := by decide +kernel
theorem dX4_memberAt_77 : decode cX4_memberAt 77 = .ok (.iconst 0, 1) := by decide +kernel
theorem dX4_memberAt_78 : decode cX4_memberAt 78 = .ok (.ireturn, 1) := by decide +kernel
theorem dX4_wouldErase_0 : decode cX4_wouldErase 0 = .ok (.aload_n 0, 1) := by decide +kernel
theorem dX4_wouldErase_1 : decode cX4_wouldErase 1 = .ok (.aload_n 0, 1) := by decide +kernel
theorem dX4_wouldErase_2 : decode cX4_wouldErase 2 = .ok (.iload_n 1, 1) := by decide +kernel
theorem dX4_wouldErase_3 : decode cX4_wouldErase 3 = .ok (.invokevirtual 115, 3) := by decide +kernel
theorem dX4_wouldErase_6 : decode cX4_wouldErase 6 = .ok (.ifCond .ne 7, 3) := by decide +kernel
theorem dX4_wouldErase_9 : decode cX4_wouldErase 9 = .ok (.iconst 1, 1) := by decide +kernel
theorem dX4_wouldErase_10 : decode cX4_wouldErase 10 = .ok (.goto 17, 3) := by decide +kernel
theorem dX4_wouldErase_13 : decode cX4_wouldErase 13 = .ok (.iload_n 2, 1) := by decide +kernel
theorem dX4_wouldErase_14 : decode cX4_wouldErase 14 = .ok (.iconst 0, 1) := by decide +kernel
theorem dX4_wouldErase_15 : decode cX4_wouldErase 15 = .ok (.iconst 2, 1) := by decide +kernel
theorem dX4_wouldErase_16 : decode cX4_wouldErase 16 = .ok (.invokestatic 63, 3) := by decide +kernel
theorem dX4_wouldErase_19 : decode cX4_wouldErase 19 = .ok (.ifCond .eq 7, 3) := by decide +kernel
theorem dX4_wouldErase_22 : decode cX4_wouldErase 22 = .ok (.iconst 0, 1) := by decide +kernel
theorem dX4_wouldErase_23 : decode cX4_wouldErase 23 = .ok (.goto 4, 3) := by decide +kernel
theorem dX4_wouldErase_26 : decode cX4_wouldErase 26 = .ok (.iconst 2, 1) := by decide +kernel
theorem dX4_wouldErase_27 : decode cX4_wouldErase 27 = .ok (.invokevirtual 70, 3) := by decide +kernel
theorem dX4_wouldErase_30 : decode cX4_wouldErase 30 = .ok (.ifCond .eq 12, 3) := by decide +kernel
theorem dX4_wouldErase_33 : decode cX4_wouldErase 33 = .ok (.aload_n 0, 1) := by decide +kernel
theorem dX4_wouldErase_34 : decode cX4_wouldErase 34 = .ok (.iload_n 1, 1) := by decide +kernel
theorem dX4_wouldErase_35 : decode cX4_wouldErase 35 = .ok (.iload_n 2, 1) := by decide +kernel
theorem dX4_wouldErase_36 : decode cX4_wouldErase 36 = .ok (.invokevirtual 103, 3) := by decide +kernel
theorem dX4_wouldErase_39 : decode cX4_wouldErase 39 = .ok (.goto 4, 3) := by decide +kernel
theorem dX4_wouldErase_42 : decode cX4_wouldErase 42 = .ok (.iconst 0, 1) := by decide +kernel
theorem dX4_wouldErase_43 : decode cX4_wouldErase 43 = .ok (.ireturn, 1) := by decide +kernel
end
section
theorem dL_declare_0 : decode cL_declare 0 = .ok (.aload 6, 2) := by decide +kernel
theorem dL_declare_2 : decode cL_declare 2 = .ok (.iconst 0, 1) := by decide +kernel
theorem dL_declare_3 : decode cL_declare 3 = .ok (.aload_n 0, 1) := by decide +kernel
theorem dL_declare_4 : decode cL_declare 4 = .ok (.iload_n 1, 1) := by decide +kernel
theorem dL_declare_5 : decode cL_declare 5 = .ok (.iload_n 2, 1) := by decide +kernel
theorem dL_declare_6 : decode cL_declare 6 = .ok (.iload_n 3, 1) := by decide +kernel
theorem dL_declare_7 : decode cL_declare 7 = .ok (.iload 4, 2) := by decide +kernel
theorem dL_declare_9 : decode cL_declare 9 = .ok (.iload 5, 2) := by decide +kernel
theorem dL_declare_11 : decode cL_declare 11 = .ok (.invokevirtual 7, 3) := by decide +kernel
theorem dL_declare_14 : decode cL_declare 14 = .ok (.i2l, 1) := by decide +kernel
theorem dL_declare_15 : decode cL_declare 15 = .ok (.lastore, 1) := by decide +kernel
theorem dL_declare_16 : decode cL_declare 16 = .ok (.goto 11, 3) := by decide +kernel
theorem dL_declare_19 : decode cL_declare 19 = .ok (.astore 7, 2) := by decide +kernel
theorem dL_declare_21 : decode cL_declare 21 = .ok (.iconst 1, 1) := by decide +kernel
theorem dL_declare_22 : decode cL_declare 22 = .ok (.ireturn, 1) := by decide +kernel
theorem dL_declare_23 : decode cL_declare 23 = .ok (.astore 7, 2) := by decide +kernel
theorem dL_declare_25 : decode cL_declare 25 = .ok (.iconst 2, 1) := by decide +kernel
theorem dL_declare_26 : decode cL_declare 26 = .ok (.ireturn, 1) := by decide +kernel
theorem dL_declare_27 : decode cL_declare 27 = .ok (.iconst 0, 1) := by decide +kernel
theorem dL_declare_28 : decode cL_declare 28 = .ok (.ireturn, 1) := by decide +kernel
theorem dL_store_0 : decode cL_store 0 = .ok (.aload_n 3, 1) := by decide +kernel
theorem dL_store_1 : decode cL_store 1 = .ok (.iconst 0, 1) := by decide +kernel
theorem dL_store_2 : decode cL_store 2 = .ok (.aload_n 0, 1) := by decide +kernel
theorem dL_store_3 : decode cL_store 3 = .ok (.iload_n 1, 1) := by decide +kernel
theorem dL_store_4 : decode cL_store 4 = .ok (.iload_n 2, 1) := by decide +kernel
theorem dL_store_5 : decode cL_store 5 = .ok (.invokevirtual 17, 3) := by decide +kernel
theorem dL_store_8 : decode cL_store 8 = .ok (.i2l, 1) := by decide +kernel
theorem dL_store_9 : decode cL_store 9 = .ok (.lastore, 1) := by decide +kernel
theorem dL_store_10 : decode cL_store 10 = .ok (.goto 11, 3) := by decide +kernel
theorem dL_store_13 : decode cL_store 13 = .ok (.astore 4, 2) := by decide +kernel
theorem dL_store_15 : decode cL_store 15 = .ok (.iconst 1, 1) := by decide +kernel
theorem dL_store_16 : decode cL_store 16 = .ok (.ireturn, 1) := by decide +kernel
theorem dL_store_17 : decode cL_store 17 = .ok (.astore 4, 2) := by decide +kernel
theorem dL_store_19 : decode cL_store 19 = .ok (.iconst 2, 1) := by decide +kernel
theorem dL_store_20 : decode cL_store 20 = .ok (.ireturn, 1) := by decide +kernel
theorem dL_store_21 : decode cL_store 21 = .ok (.iconst 0, 1) := by decide +kernel
theorem dL_store_22 : decode cL_store 22 = .ok (.ireturn, 1) := by decide +kernel
theorem dL_modify_0 : decode cL_modify 0 = .ok (.aload_n 2, 1) := by decide +kernel
theorem dL_modify_1 : decode cL_modify 1 = .ok (.iconst 0, 1) := by decide +kernel
theorem dL_modify_2 : decode cL_modify 2 = .ok (.aload_n 0, 1) := by decide +kernel
theorem dL_modify_3 : decode cL_modify 3 = .ok (.iload_n 1, 1) := by decide +kernel
theorem dL_modify_4 : decode cL_modify 4 = .ok (.invokevirtual 21, 3) := by decide +kernel
theorem dL_modify_7 : decode cL_modify 7 = .ok (.i2l, 1) := by decide +kernel
theorem dL_modify_8 : decode cL_modify 8 = .ok (.lastore, 1) := by decide +kernel
theorem dL_modify_9 : decode cL_modify 9 = .ok (.goto 9, 3) := by decide +kernel
theorem dL_modify_12 : decode cL_modify 12 = .ok (.astore_n 3, 1) := by decide +kernel
theorem dL_modify_13 : decode cL_modify 13 = .ok (.iconst 1, 1) := by decide +kernel
theorem dL_modify_14 : decode cL_modify 14 = .ok (.ireturn, 1) := by decide +kernel
theorem dL_modify_15 : decode cL_modify 15 = .ok (.astore_n 3, 1) := by decide +kernel
theorem dL_modify_16 : decode cL_modify 16 = .ok (.iconst 2, 1) := by decide +kernel
theorem dL_modify_17 : decode cL_modify 17 = .ok (.ireturn, 1) := by decide +kernel
theorem dL_modify_18 : decode cL_modify 18 = .ok (.iconst 0, 1) := by decide +kernel
theorem dL_modify_19 : decode cL_modify 19 = .ok (.ireturn, 1) := by decide +kernel
theorem dL_erase_0 : decode cL_erase 0 = .ok (.aload_n 2, 1) := by decide +kernel
theorem dL_erase_1 : decode cL_erase 1 = .ok (.iconst 0, 1) := by decide +kernel
theorem dL_erase_2 : decode cL_erase 2 = .ok (.aload_n 0, 1) := by decide +kernel
theorem dL_erase_3 : decode cL_erase 3 = .ok (.iload_n 1, 1) := by decide +kernel
theorem dL_erase_4 : decode cL_erase 4 = .ok (.invokevirtual 25, 3) := by decide +kernel
theorem dL_erase_7 : decode cL_erase 7 = .ok (.i2l, 1) := by decide +kernel
theorem dL_erase_8 : decode cL_erase 8 = .ok (.lastore, 1) := by decide +kernel
theorem dL_erase_9 : decode cL_erase 9 = .ok (.goto 9, 3) := by decide +kernel
theorem dL_erase_12 : decode cL_erase 12 = .ok (.astore_n 3, 1) := by decide +kernel
theorem dL_erase_13 : decode cL_erase 13 = .ok (.iconst 1, 1) := by decide +kernel
theorem dL_erase_14 : decode cL_erase 14 = .ok (.ireturn, 1) := by decide +kernel
theorem dL_erase_15 : decode cL_erase 15 = .ok (.astore_n 3, 1) := by decide +kernel
theorem dL_erase_16 : decode cL_erase 16 = .ok (.iconst 2, 1) := by decide +kernel
theorem dL_erase_17 : decode cL_erase 17 = .ok (.ireturn, 1) := by decide +kernel
theorem dL_erase_18 : decode cL_erase 18 = .ok (.iconst 0, 1) := by decide +kernel
theorem dL_erase_19 : decode cL_erase 19 = .ok (.ireturn, 1) := by decide +kernel
theorem dL_connect_0 : decode cL_connect 0 = .ok (.aload_n 2, 1) := by decide +kernel
theorem dL_connect_1 : decode cL_connect 1 = .ok (.iconst 0, 1) := by decide +kernel
theorem dL_connect_2 : decode cL_connect 2 = .ok (.aload_n 0, 1) := by decide +kernel
theorem dL_connect_3 : decode cL_connect 3 = .ok (.iload_n 1, 1) := by decide +kernel
theorem dL_connect_4 : decode cL_connect 4 = .ok (.invokevirtual 28, 3) := by decide +kernel
theorem dL_connect_7 : decode cL_connect 7 = .ok (.i2l, 1) := by decide +kernel
theorem dL_connect_8 : decode cL_connect 8 = .ok (.lastore, 1) := by decide +kernel
theorem dL_connect_9 : decode cL_connect 9 = .ok (.goto 9, 3) := by decide +kernel
theorem dL_connect_12 : decode cL_connect 12 = .ok (.astore_n 3, 1) := by decide +kernel
theorem dL_connect_13 : decode cL_connect 13 = .ok (.iconst 1, 1) := by decide +kernel
theorem dL_connect_14 : decode cL_connect 14 = .ok (.ireturn, 1) := by decide +kernel
theorem dL_connect_15 : decode cL_connect 15 = .ok (.astore_n 3, 1) := by decide +kernel
theorem dL_connect_16 : decode cL_connect 16 = .ok (.iconst 2, 1) := by decide +kernel
theorem dL_connect_17 : decode cL_connect 17 = .ok (.ireturn, 1) := by decide +kernel
theorem dL_connect_18 : decode cL_connect 18 = .ok (.iconst 0, 1) := by decide +kernel
theorem dL_connect_19 : decode cL_connect 19 = .ok (.ireturn, 1) := by decide +kernel
theorem dL_disconnect_0 : decode cL_disconnect 0 = .ok (.aload_n 2, 1) := by decide +kernel
theorem dL_disconnect_1 : decode cL_disconnect 1 = .ok (.iconst 0, 1) := by decide +kernel
theorem dL_disconnect_2 : decode cL_disconnect 2 = .ok (.aload_n 0, 1) := by decide +kernel
theorem dL_disconnect_3 : decode cL_disconnect 3 = .ok (.iload_n 1, 1) := by decide +kernel
theorem dL_disconnect_4 : decode cL_disconnect 4 = .ok (.invokevirtual 33, 3) := by decide +kernel
theorem dL_disconnect_7 : decode cL_disconnect 7 = .ok (.i2l, 1) := by decide +kernel
theorem dL_disconnect_8 : decode cL_disconnect 8 = .ok (.lastore, 1) := by decide +kernel
theorem dL_disconnect_9 : decode cL_disconnect 9 = .ok (.goto 9, 3) := by decide +kernel
theorem dL_disconnect_12 : decode cL_disconnect 12 = .ok (.astore_n 3, 1) := by decide +kernel
theorem dL_disconnect_13 : decode cL_disconnect 13 = .ok (.iconst 1, 1) := by decide +kernel
theorem dL_disconnect_14 : decode cL_disconnect 14 = .ok (.ireturn, 1) := by decide +kernel
theorem dL_disconnect_15 : decode cL_disconnect 15 = .ok (.astore_n 3, 1) := by decide +kernel
theorem dL_disconnect_16 : decode cL_disconnect 16 = .ok (.iconst 2, 1) := by decide +kernel
theorem dL_disconnect_17 : decode cL_disconnect 17 = .ok (.ireturn, 1) := by decide +kernel
theorem dL_disconnect_18 : decode cL_disconnect 18 = .ok (.iconst 0, 1) := by decide +kernel
theorem dL_disconnect_19 : decode cL_disconnect 19 = .ok (.ireturn, 1) := by decide +kernel
theorem dL_reconnect_0 : decode cL_reconnect 0 = .ok (.aload_n 3, 1) := by decide +kernel
theorem dL_reconnect_1 : decode cL_reconnect 1 = .ok (.iconst 0, 1) := by decide +kernel
theorem dL_reconnect_2 : decode cL_reconnect 2 = .ok (.aload_n 0, 1) := by decide +kernel
theorem dL_reconnect_3 : decode cL_reconnect 3 = .ok (.iload_n 1, 1) := by decide +kernel
theorem dL_reconnect_4 : decode cL_reconnect 4 = .ok (.iload_n 2, 1) := by decide +kernel
theorem dL_reconnect_5 : decode cL_reconnect 5 = .ok (.invokevirtual 36, 3) := by decide +kernel
theorem dL_reconnect_8 : decode cL_reconnect 8 = .ok (.i2l, 1) := by decide +kernel
theorem dL_reconnect_9 : decode cL_reconnect 9 = .ok (.lastore, 1) := by decide +kernel
theorem dL_reconnect_10 : decode cL_reconnect 10 = .ok (.goto 11, 3) := by decide +kernel
theorem dL_reconnect_13 : decode cL_reconnect 13 = .ok (.astore 4, 2) := by decide +kernel
theorem dL_reconnect_15 : decode cL_reconnect 15 = .ok (.iconst 1, 1) := by decide +kernel
theorem dL_reconnect_16 : decode cL_reconnect 16 = .ok (.ireturn, 1) := by decide +kernel
theorem dL_reconnect_17 : decode cL_reconnect 17 = .ok (.astore 4, 2) := by decide +kernel
theorem dL_reconnect_19 : decode cL_reconnect 19 = .ok (.iconst 2, 1) := by decide +kernel
theorem dL_reconnect_20 : decode cL_reconnect 20 = .ok (.ireturn, 1) := by decide +kernel
theorem dL_reconnect_21 : decode cL_reconnect 21 = .ok (.iconst 0, 1) := by decide +kernel
theorem dL_reconnect_22 : decode cL_reconnect 22 = .ok (.ireturn, 1) := by decide +kernel
theorem dL_findOf_0 : decode cL_findOf 0 = .ok (.aload_n 3, 1) := by decide +kernel
theorem dL_findOf_1 : decode cL_findOf 1 = .ok (.iconst 0, 1) := by decide +kernel
theorem dL_findOf_2 : decode cL_findOf 2 = .ok (.aload_n 0, 1) := by decide +kernel
theorem dL_findOf_3 : decode cL_findOf 3 = .ok (.iload_n 1, 1) := by decide +kernel
theorem dL_findOf_4 : decode cL_findOf 4 = .ok (.iload_n 2, 1) := by decide +kernel
theorem dL_findOf_5 : decode cL_findOf 5 = .ok (.invokevirtual 39, 3) := by decide +kernel
theorem dL_findOf_8 : decode cL_findOf 8 = .ok (.i2l, 1) := by decide +kernel
theorem dL_findOf_9 : decode cL_findOf 9 = .ok (.lastore, 1) := by decide +kernel
theorem dL_findOf_10 : decode cL_findOf 10 = .ok (.goto 7, 3) := by decide +kernel
theorem dL_findOf_13 : decode cL_findOf 13 = .ok (.astore 4, 2) := by decide +kernel
theorem dL_findOf_15 : decode cL_findOf 15 = .ok (.iconst 1, 1) := by decide +kernel
theorem dL_findOf_16 : decode cL_findOf 16 = .ok (.ireturn, 1) := by decide +kernel
theorem dL_findOf_17 : decode cL_findOf 17 = .ok (.iconst 0, 1) := by decide +kernel
theorem dL_findOf_18 : decode cL_findOf 18 = .ok (.ireturn, 1) := by decide +kernel
theorem dL_findEnd_0 : decode cL_findEnd 0 = .ok (.aload_n 3, 1) := by decide +kernel
theorem dL_findEnd_1 : decode cL_findEnd 1 = .ok (.iconst 0, 1) := by decide +kernel
theorem dL_findEnd_2 : decode cL_findEnd 2 = .ok (.aload_n 0, 1) := by decide +kernel
theorem dL_findEnd_3 : decode cL_findEnd 3 = .ok (.iload_n 1, 1) := by decide +kernel
theorem dL_findEnd_4 : decode cL_findEnd 4 = .ok (.iload_n 2, 1) := by decide +kernel
theorem dL_findEnd_5 : decode cL_findEnd 5 = .ok (.invokevirtual 43, 3) := by decide +kernel
theorem dL_findEnd_8 : decode cL_findEnd 8 = .ok (.i2l, 1) := by decide +kernel
theorem dL_findEnd_9 : decode cL_findEnd 9 = .ok (.lastore, 1) := by decide +kernel
theorem dL_findEnd_10 : decode cL_findEnd 10 = .ok (.goto 7, 3) := by decide +kernel
theorem dL_findEnd_13 : decode cL_findEnd 13 = .ok (.astore 4, 2) := by decide +kernel
theorem dL_findEnd_15 : decode cL_findEnd 15 = .ok (.iconst 1, 1) := by decide +kernel
theorem dL_findEnd_16 : decode cL_findEnd 16 = .ok (.ireturn, 1) := by decide +kernel
theorem dL_findEnd_17 : decode cL_findEnd 17 = .ok (.iconst 0, 1) := by decide +kernel
theorem dL_findEnd_18 : decode cL_findEnd 18 = .ok (.ireturn, 1) := by decide +kernel
theorem dL_findNext_0 : decode cL_findNext 0 = .ok (.aload_n 3, 1) := by decide +kernel
theorem dL_findNext_1 : decode cL_findNext 1 = .ok (.iconst 0, 1) := by decide +kernel
theorem dL_findNext_2 : decode cL_findNext 2 = .ok (.aload_n 0, 1) := by decide +kernel
theorem dL_findNext_3 : decode cL_findNext 3 = .ok (.iload_n 1, 1) := by decide +kernel
theorem dL_findNext_4 : decode cL_findNext 4 = .ok (.iload_n 2, 1) := by decide +kernel
theorem dL_findNext_5 : decode cL_findNext 5 = .ok (.invokevirtual 46, 3) := by decide +kernel
theorem dL_findNext_8 : decode cL_findNext 8 = .ok (.i2l, 1) := by decide +kernel
theorem dL_findNext_9 : decode cL_findNext 9 = .ok (.lastore, 1) := by decide +kernel
theorem dL_findNext_10 : decode cL_findNext 10 = .ok (.goto 7, 3) := by decide +kernel
theorem dL_findNext_13 : decode cL_findNext 13 = .ok (.astore 4, 2) := by decide +kernel
theorem dL_findNext_15 : decode cL_findNext 15 = .ok (.iconst 1, 1) := by decide +kernel
theorem dL_findNext_16 : decode cL_findNext 16 = .ok (.ireturn, 1) := by decide +kernel
theorem dL_findNext_17 : decode cL_findNext 17 = .ok (.iconst 0, 1) := by decide +kernel
theorem dL_findNext_18 : decode cL_findNext 18 = .ok (.ireturn, 1) := by decide +kernel
theorem dL_findOwner_0 : decode cL_findOwner 0 = .ok (.aload_n 2, 1) := by decide +kernel
theorem dL_findOwner_1 : decode cL_findOwner 1 = .ok (.iconst 0, 1) := by decide +kernel
theorem dL_findOwner_2 : decode cL_findOwner 2 = .ok (.aload_n 0, 1) := by decide +kernel
theorem dL_findOwner_3 : decode cL_findOwner 3 = .ok (.iload_n 1, 1) := by decide +kernel
theorem dL_findOwner_4 : decode cL_findOwner 4 = .ok (.invokevirtual 49, 3) := by decide +kernel
theorem dL_findOwner_7 : decode cL_findOwner 7 = .ok (.i2l, 1) := by decide +kernel
theorem dL_findOwner_8 : decode cL_findOwner 8 = .ok (.lastore, 1) := by decide +kernel
theorem dL_findOwner_9 : decode cL_findOwner 9 = .ok (.goto 6, 3) := by decide +kernel
theorem dL_findOwner_12 : decode cL_findOwner 12 = .ok (.astore_n 3, 1) := by decide +kernel
theorem dL_findOwner_13 : decode cL_findOwner 13 = .ok (.iconst 1, 1) := by decide +kernel
theorem dL_findOwner_14 : decode cL_findOwner 14 = .ok (.ireturn, 1) := by decide +kernel
theorem dL_findOwner_15 : decode cL_findOwner 15 = .ok (.iconst 0, 1) := by decide +kernel
theorem dL_findOwner_16 : decode cL_findOwner 16 = .ok (.ireturn, 1) := by decide +kernel
theorem dL_findValue_0 : decode cL_findValue 0 = .ok (.aload_n 3, 1) := by decide +kernel
theorem dL_findValue_1 : decode cL_findValue 1 = .ok (.iconst 0, 1) := by decide +kernel
theorem dL_findValue_2 : decode cL_findValue 2 = .ok (.aload_n 0, 1) := by decide +kernel
theorem dL_findValue_3 : decode cL_findValue 3 = .ok (.iload_n 1, 1) := by decide +kernel
theorem dL_findValue_4 : decode cL_findValue 4 = .ok (.iload_n 2, 1) := by decide +kernel
theorem dL_findValue_5 : decode cL_findValue 5 = .ok (.invokevirtual 52, 3) := by decide +kernel
theorem dL_findValue_8 : decode cL_findValue 8 = .ok (.i2l, 1) := by decide +kernel
theorem dL_findValue_9 : decode cL_findValue 9 = .ok (.lastore, 1) := by decide +kernel
theorem dL_findValue_10 : decode cL_findValue 10 = .ok (.goto 7, 3) := by decide +kernel
theorem dL_findValue_13 : decode cL_findValue 13 = .ok (.astore 4, 2) := by decide +kernel
theorem dL_findValue_15 : decode cL_findValue 15 = .ok (.iconst 1, 1) := by decide +kernel
theorem dL_findValue_16 : decode cL_findValue 16 = .ok (.ireturn, 1) := by decide +kernel
theorem dL_findValue_17 : decode cL_findValue 17 = .ok (.iconst 0, 1) := by decide +kernel
theorem dL_findValue_18 : decode cL_findValue 18 = .ok (.ireturn, 1) := by decide +kernel
theorem dL_currentOf_0 : decode cL_currentOf 0 = .ok (.aload_n 2, 1) := by decide +kernel
theorem dL_currentOf_1 : decode cL_currentOf 1 = .ok (.iconst 0, 1) := by decide +kernel
theorem dL_currentOf_2 : decode cL_currentOf 2 = .ok (.aload_n 0, 1) := by decide +kernel
theorem dL_currentOf_3 : decode cL_currentOf 3 = .ok (.iload_n 1, 1) := by decide +kernel
theorem dL_currentOf_4 : decode cL_currentOf 4 = .ok (.invokevirtual 55, 3) := by decide +kernel
theorem dL_currentOf_7 : decode cL_currentOf 7 = .ok (.i2l, 1) := by decide +kernel
theorem dL_currentOf_8 : decode cL_currentOf 8 = .ok (.lastore, 1) := by decide +kernel
theorem dL_currentOf_9 : decode cL_currentOf 9 = .ok (.goto 6, 3) := by decide +kernel
theorem dL_currentOf_12 : decode cL_currentOf 12 = .ok (.astore_n 3, 1) := by decide +kernel
theorem dL_currentOf_13 : decode cL_currentOf 13 = .ok (.iconst 1, 1) := by decide +kernel
theorem dL_currentOf_14 : decode cL_currentOf 14 = .ok (.ireturn, 1) := by decide +kernel
theorem dL_currentOf_15 : decode cL_currentOf 15 = .ok (.iconst 0, 1) := by decide +kernel
theorem dL_currentOf_16 : decode cL_currentOf 16 = .ok (.ireturn, 1) := by decide +kernel
theorem dL_currentIn_0 : decode cL_currentIn 0 = .ok (.aload_n 2, 1) := by decide +kernel
theorem dL_currentIn_1 : decode cL_currentIn 1 = .ok (.iconst 0, 1) := by decide +kernel
theorem dL_currentIn_2 : decode cL_currentIn 2 = .ok (.aload_n 0, 1) := by decide +kernel
theorem dL_currentIn_3 : decode cL_currentIn 3 = .ok (.iload_n 1, 1) := by decide +kernel
theorem dL_currentIn_4 : decode cL_currentIn 4 = .ok (.invokevirtual 58, 3) := by decide +kernel
theorem dL_currentIn_7 : decode cL_currentIn 7 = .ok (.i2l, 1) := by decide +kernel
theorem dL_currentIn_8 : decode cL_currentIn 8 = .ok (.lastore, 1) := by decide +kernel
theorem dL_currentIn_9 : decode cL_currentIn 9 = .ok (.goto 6, 3) := by decide +kernel
theorem dL_currentIn_12 : decode cL_currentIn 12 = .ok (.astore_n 3, 1) := by decide +kernel
theorem dL_currentIn_13 : decode cL_currentIn 13 = .ok (.iconst 1, 1) := by decide +kernel
theorem dL_currentIn_14 : decode cL_currentIn 14 = .ok (.ireturn, 1) := by decide +kernel
theorem dL_currentIn_15 : decode cL_currentIn 15 = .ok (.iconst 0, 1) := by decide +kernel
theorem dL_currentIn_16 : decode cL_currentIn 16 = .ok (.ireturn, 1) := by decide +kernel
theorem dL_typeOf_0 : decode cL_typeOf 0 = .ok (.aload_n 2, 1) := by decide +kernel
theorem dL_typeOf_1 : decode cL_typeOf 1 = .ok (.iconst 0, 1) := by decide +kernel
theorem dL_typeOf_2 : decode cL_typeOf 2 = .ok (.aload_n 0, 1) := by decide +kernel
theorem dL_typeOf_3 : decode cL_typeOf 3 = .ok (.iload_n 1, 1) := by decide +kernel
theorem dL_typeOf_4 : decode cL_typeOf 4 = .ok (.invokevirtual 61, 3) := by decide +kernel
theorem dL_typeOf_7 : decode cL_typeOf 7 = .ok (.i2l, 1) := by decide +kernel
theorem dL_typeOf_8 : decode cL_typeOf 8 = .ok (.lastore, 1) := by decide +kernel
theorem dL_typeOf_9 : decode cL_typeOf 9 = .ok (.goto 6, 3) := by decide +kernel
theorem dL_typeOf_12 : decode cL_typeOf 12 = .ok (.astore_n 3, 1) := by decide +kernel
theorem dL_typeOf_13 : decode cL_typeOf 13 = .ok (.iconst 1, 1) := by decide +kernel
theorem dL_typeOf_14 : decode cL_typeOf 14 = .ok (.ireturn, 1) := by decide +kernel
theorem dL_typeOf_15 : decode cL_typeOf 15 = .ok (.iconst 0, 1) := by decide +kernel
theorem dL_typeOf_16 : decode cL_typeOf 16 = .ok (.ireturn, 1) := by decide +kernel
theorem dL_valueOf_0 : decode cL_valueOf 0 = .ok (.aload_n 2, 1) := by decide +kernel
theorem dL_valueOf_1 : decode cL_valueOf 1 = .ok (.iconst 0, 1) := by decide +kernel
theorem dL_valueOf_2 : decode cL_valueOf 2 = .ok (.aload_n 0, 1) := by decide +kernel
theorem dL_valueOf_3 : decode cL_valueOf 3 = .ok (.iload_n 1, 1) := by decide +kernel
theorem dL_valueOf_4 : decode cL_valueOf 4 = .ok (.invokevirtual 64, 3) := by decide +kernel
theorem dL_valueOf_7 : decode cL_valueOf 7 = .ok (.i2l, 1) := by decide +kernel
theorem dL_valueOf_8 : decode cL_valueOf 8 = .ok (.lastore, 1) := by decide +kernel
theorem dL_valueOf_9 : decode cL_valueOf 9 = .ok (.goto 6, 3) := by decide +kernel
theorem dL_valueOf_12 : decode cL_valueOf 12 = .ok (.astore_n 3, 1) := by decide +kernel
theorem dL_valueOf_13 : decode cL_valueOf 13 = .ok (.iconst 1, 1) := by decide +kernel
theorem dL_valueOf_14 : decode cL_valueOf 14 = .ok (.ireturn, 1) := by decide +kernel
theorem dL_valueOf_15 : decode cL_valueOf 15 = .ok (.iconst 0, 1) := by decide +kernel
theorem dL_valueOf_16 : decode cL_valueOf 16 = .ok (.ireturn, 1) := by decide +kernel
theorem dL_ownerOf_0 : decode cL_ownerOf 0 = .ok (.aload_n 3, 1) := by decide +kernel
theorem dL_ownerOf_1 : decode cL_ownerOf 1 = .ok (.iconst 0, 1) := by decide +kernel
theorem dL_ownerOf_2 : decode cL_ownerOf 2 = .ok (.aload_n 0, 1) := by decide +kernel
theorem dL_ownerOf_3 : decode cL_ownerOf 3 = .ok (.iload_n 1, 1) := by decide +kernel
theorem dL_ownerOf_4 : decode cL_ownerOf 4 = .ok (.iload_n 2, 1) := by decide +kernel
theorem dL_ownerOf_5 : decode cL_ownerOf 5 = .ok (.invokevirtual 67, 3) := by decide +kernel
theorem dL_ownerOf_8 : decode cL_ownerOf 8 = .ok (.i2l, 1) := by decide +kernel
theorem dL_ownerOf_9 : decode cL_ownerOf 9 = .ok (.lastore, 1) := by decide +kernel
theorem dL_ownerOf_10 : decode cL_ownerOf 10 = .ok (.goto 7, 3) := by decide +kernel
theorem dL_ownerOf_13 : decode cL_ownerOf 13 = .ok (.astore 4, 2) := by decide +kernel
theorem dL_ownerOf_15 : decode cL_ownerOf 15 = .ok (.iconst 1, 1) := by decide +kernel
theorem dL_ownerOf_16 : decode cL_ownerOf 16 = .ok (.ireturn, 1) := by decide +kernel
theorem dL_ownerOf_17 : decode cL_ownerOf 17 = .ok (.iconst 0, 1) := by decide +kernel
theorem dL_ownerOf_18 : decode cL_ownerOf 18 = .ok (.ireturn, 1) := by decide +kernel
theorem dL_members_0 : decode cL_members 0 = .ok (.aload_n 3, 1) := by decide +kernel
theorem dL_members_1 : decode cL_members 1 = .ok (.iconst 0, 1) := by decide +kernel
theorem dL_members_2 : decode cL_members 2 = .ok (.aload_n 0, 1) := by decide +kernel
theorem dL_members_3 : decode cL_members 3 = .ok (.iload_n 1, 1) := by decide +kernel
theorem dL_members_4 : decode cL_members 4 = .ok (.iload_n 2, 1) := by decide +kernel
theorem dL_members_5 : decode cL_members 5 = .ok (.invokevirtual 70, 3) := by decide +kernel
theorem dL_members_8 : decode cL_members 8 = .ok (.i2l, 1) := by decide +kernel
theorem dL_members_9 : decode cL_members 9 = .ok (.lastore, 1) := by decide +kernel
theorem dL_members_10 : decode cL_members 10 = .ok (.goto 7, 3) := by decide +kernel
theorem dL_members_13 : decode cL_members 13 = .ok (.astore 4, 2) := by decide +kernel
theorem dL_members_15 : decode cL_members 15 = .ok (.iconst 1, 1) := by decide +kernel
theorem dL_members_16 : decode cL_members 16 = .ok (.ireturn, 1) := by decide +kernel
theorem dL_members_17 : decode cL_members 17 = .ok (.iconst 0, 1) := by decide +kernel
theorem dL_members_18 : decode cL_members 18 = .ok (.ireturn, 1) := by decide +kernel
theorem dL_membersByTable_0 : decode cL_membersByTable 0 = .ok (.aload_n 3, 1) := by decide +kernel
theorem dL_membersByTable_1 : decode cL_membersByTable 1 = .ok (.iconst 0, 1) := by decide +kernel
theorem dL_membersByTable_2 : decode cL_membersByTable 2 = .ok (.aload_n 0, 1) := by decide +kernel
theorem dL_membersByTable_3 : decode cL_membersByTable 3 = .ok (.iload_n 1, 1) := by decide +kernel
theorem dL_membersByTable_4 : decode cL_membersByTable 4 = .ok (.iload_n 2, 1) := by decide +kernel
theorem dL_membersByTable_5 : decode cL_membersByTable 5 = .ok (.invokevirtual 73, 3) := by decide +kernel
theorem dL_membersByTable_8 : decode cL_membersByTable 8 = .ok (.i2l, 1) := by decide +kernel
theorem dL_membersByTable_9 : decode cL_membersByTable 9 = .ok (.lastore, 1) := by decide +kernel
theorem dL_membersByTable_10 : decode cL_membersByTable 10 = .ok (.goto 7, 3) := by decide +kernel
theorem dL_membersByTable_13 : decode cL_membersByTable 13 = .ok (.astore 4, 2) := by decide +kernel
theorem dL_membersByTable_15 : decode cL_membersByTable 15 = .ok (.iconst 1, 1) := by decide +kernel
theorem dL_membersByTable_16 : decode cL_membersByTable 16 = .ok (.ireturn, 1) := by decide +kernel
theorem dL_membersByTable_17 : decode cL_membersByTable 17 = .ok (.iconst 0, 1) := by decide +kernel
theorem dL_membersByTable_18 : decode cL_membersByTable 18 = .ok (.ireturn, 1) := by decide +kernel
theorem dL_memberAt_0 : decode cL_memberAt 0 = .ok (.aload 4, 2) := by decide +kernel
theorem dL_memberAt_2 : decode cL_memberAt 2 = .ok (.iconst 0, 1) := by decide +kernel
theorem dL_memberAt_3 : decode cL_memberAt 3 = .ok (.aload_n 0, 1) := by decide +kernel
theorem dL_memberAt_4 : decode cL_memberAt 4 = .ok (.iload_n 1, 1) := by decide +kernel
theorem dL_memberAt_5 : decode cL_memberAt 5 = .ok (.iload_n 2, 1) := by decide +kernel
theorem dL_memberAt_6 : decode cL_memberAt 6 = .ok (.iload_n 3, 1) := by decide +kernel
theorem dL_memberAt_7 : decode cL_memberAt 7 = .ok (.invokevirtual 76, 3) := by decide +kernel
theorem dL_memberAt_10 : decode cL_memberAt 10 = .ok (.i2l, 1) := by decide +kernel
theorem dL_memberAt_11 : decode cL_memberAt 11 = .ok (.lastore, 1) := by decide +kernel
theorem dL_memberAt_12 : decode cL_memberAt 12 = .ok (.goto 7, 3) := by decide +kernel
theorem dL_memberAt_15 : decode cL_memberAt 15 = .ok (.astore 5, 2) := by decide +kernel
theorem dL_memberAt_17 : decode cL_memberAt 17 = .ok (.iconst 1, 1) := by decide +kernel
theorem dL_memberAt_18 : decode cL_memberAt 18 = .ok (.ireturn, 1) := by decide +kernel
theorem dL_memberAt_19 : decode cL_memberAt 19 = .ok (.iconst 0, 1) := by decide +kernel
theorem dL_memberAt_20 : decode cL_memberAt 20 = .ok (.ireturn, 1) := by decide +kernel
theorem dL_wouldErase_0 : decode cL_wouldErase 0 = .ok (.aload_n 3, 1) := by decide +kernel
theorem dL_wouldErase_1 : decode cL_wouldErase 1 = .ok (.iconst 0, 1) := by decide +kernel
theorem dL_wouldErase_2 : decode cL_wouldErase 2 = .ok (.aload_n 0, 1) := by decide +kernel
theorem dL_wouldErase_3 : decode cL_wouldErase 3 = .ok (.iload_n 1, 1) := by decide +kernel
theorem dL_wouldErase_4 : decode cL_wouldErase 4 = .ok (.iload_n 2, 1) := by decide +kernel
theorem dL_wouldErase_5 : decode cL_wouldErase 5 = .ok (.invokevirtual 80, 3) := by decide +kernel
theorem dL_wouldErase_8 : decode cL_wouldErase 8 = .ok (.i2l, 1) := by decide +kernel
theorem dL_wouldErase_9 : decode cL_wouldErase 9 = .ok (.lastore, 1) := by decide +kernel
theorem dL_wouldErase_10 : decode cL_wouldErase 10 = .ok (.goto 11, 3) := by decide +kernel
theorem dL_wouldErase_13 : decode cL_wouldErase 13 = .ok (.astore 4, 2) := by decide +kernel
theorem dL_wouldErase_15 : decode cL_wouldErase 15 = .ok (.iconst 1, 1) := by decide +kernel
theorem dL_wouldErase_16 : decode cL_wouldErase 16 = .ok (.ireturn, 1) := by decide +kernel
theorem dL_wouldErase_17 : decode cL_wouldErase 17 = .ok (.astore 4, 2) := by decide +kernel
theorem dL_wouldErase_19 : decode cL_wouldErase 19 = .ok (.iconst 2, 1) := by decide +kernel
theorem dL_wouldErase_20 : decode cL_wouldErase 20 = .ok (.ireturn, 1) := by decide +kernel
theorem dL_wouldErase_21 : decode cL_wouldErase 21 = .ok (.iconst 0, 1) := by decide +kernel
theorem dL_wouldErase_22 : decode cL_wouldErase 22 = .ok (.ireturn, 1) := by decide +kernel
theorem dL_law_0 : decode cL_law 0 = .ok (.new 8, 3) := by decide +kernel
theorem dL_law_3 : decode cL_law 3 = .ok (.dup, 1) := by decide +kernel
theorem dL_law_4 : decode cL_law 4 = .ok (.invokespecial 83, 3) := by decide +kernel
theorem dL_law_7 : decode cL_law 7 = .ok (.astore_n 1, 1) := by decide +kernel
theorem dL_law_8 : decode cL_law 8 = .ok (.new 84, 3) := by decide +kernel
theorem dL_law_11 : decode cL_law 11 = .ok (.dup, 1) := by decide +kernel
theorem dL_law_12 : decode cL_law 12 = .ok (.invokespecial 86, 3) := by decide +kernel
theorem dL_law_15 : decode cL_law 15 = .ok (.astore_n 2, 1) := by decide +kernel
theorem dL_law_16 : decode cL_law 16 = .ok (.iconst 1, 1) := by decide +kernel
theorem dL_law_17 : decode cL_law 17 = .ok (.newarray .long, 2) := by decide +kernel
theorem dL_law_19 : decode cL_law 19 = .ok (.astore_n 3, 1) := by decide +kernel
theorem dL_law_20 : decode cL_law 20 = .ok (.iconst 0, 1) := by decide +kernel
theorem dL_law_21 : decode cL_law 21 = .ok (.istore 4, 2) := by decide +kernel
theorem dL_law_23 : decode cL_law 23 = .ok (.iload 4, 2) := by decide +kernel
theorem dL_law_25 : decode cL_law 25 = .ok (.aload_n 0, 1) := by decide +kernel
theorem dL_law_26 : decode cL_law 26 = .ok (.arraylength, 1) := by decide +kernel
theorem dL_law_27 : decode cL_law 27 = .ok (.bipush 6, 2) := by decide +kernel
theorem dL_law_29 : decode cL_law 29 = .ok (.isub, 1) := by decide +kernel
theorem dL_law_30 : decode cL_law 30 = .ok (.if_icmp .gt 1628, 3) := by decide +kernel
theorem dL_law_33 : decode cL_law 33 = .ok (.aload_n 0, 1) := by decide +kernel
theorem dL_law_34 : decode cL_law 34 = .ok (.iload 4, 2) := by decide +kernel
theorem dL_law_36 : decode cL_law 36 = .ok (.iaload, 1) := by decide +kernel
theorem dL_law_37 : decode cL_law 37 = .ok (.bipush 31, 2) := by decide +kernel
theorem dL_law_39 : decode cL_law 39 = .ok (.iand, 1) := by decide +kernel
theorem dL_law_40 : decode cL_law 40 = .ok (.tableswitch 1612 0 24 #[116, 236, 304, 360, 416, 472, 528, 596, 621, 705, 789, 873, 929, 997, 1010, 1023, 1036, 1092, 1148, 1204, 1260, 1328, 1396, 1464, 1544], 116) := by decide +kernel
theorem dL_law_156 : decode cL_law 156 = .ok (.aload_n 1, 1) := by decide +kernel
theorem dL_law_157 : decode cL_law 157 = .ok (.aload_n 0, 1) := by decide +kernel
theorem dL_law_158 : decode cL_law 158 = .ok (.iload 4, 2) := by decide +kernel
theorem dL_law_160 : decode cL_law 160 = .ok (.iconst 1, 1) := by decide +kernel
theorem dL_law_161 : decode cL_law 161 = .ok (.iadd, 1) := by decide +kernel
theorem dL_law_162 : decode cL_law 162 = .ok (.iaload, 1) := by decide +kernel
theorem dL_law_163 : decode cL_law 163 = .ok (.aload_n 0, 1) := by decide +kernel
theorem dL_law_164 : decode cL_law 164 = .ok (.iload 4, 2) := by decide +kernel
theorem dL_law_166 : decode cL_law 166 = .ok (.iconst 2, 1) := by decide +kernel
theorem dL_law_167 : decode cL_law 167 = .ok (.iadd, 1) := by decide +kernel
theorem dL_law_168 : decode cL_law 168 = .ok (.iaload, 1) := by decide +kernel
theorem dL_law_169 : decode cL_law 169 = .ok (.aload_n 0, 1) := by decide +kernel
theorem dL_law_170 : decode cL_law 170 = .ok (.iload 4, 2) := by decide +kernel
theorem dL_law_172 : decode cL_law 172 = .ok (.iconst 3, 1) := by decide +kernel
theorem dL_law_173 : decode cL_law 173 = .ok (.iadd, 1) := by decide +kernel
theorem dL_law_174 : decode cL_law 174 = .ok (.iaload, 1) := by decide +kernel
theorem dL_law_175 : decode cL_law 175 = .ok (.aload_n 0, 1) := by decide +kernel
theorem dL_law_176 : decode cL_law 176 = .ok (.iload 4, 2) := by decide +kernel
theorem dL_law_178 : decode cL_law 178 = .ok (.iconst 4, 1) := by decide +kernel
theorem dL_law_179 : decode cL_law 179 = .ok (.iadd, 1) := by decide +kernel
theorem dL_law_180 : decode cL_law 180 = .ok (.iaload, 1) := by decide +kernel
theorem dL_law_181 : decode cL_law 181 = .ok (.ifCond .eq 7, 3) := by decide +kernel
theorem dL_law_184 : decode cL_law 184 = .ok (.iconst 1, 1) := by decide +kernel
theorem dL_law_185 : decode cL_law 185 = .ok (.goto 4, 3) := by decide +kernel
theorem dL_law_188 : decode cL_law 188 = .ok (.iconst 0, 1) := by decide +kernel
theorem dL_law_189 : decode cL_law 189 = .ok (.aload_n 0, 1) := by decide +kernel
theorem dL_law_190 : decode cL_law 190 = .ok (.iload 4, 2) := by decide +kernel
theorem dL_law_192 : decode cL_law 192 = .ok (.iconst 5, 1) := by decide +kernel
theorem dL_law_193 : decode cL_law 193 = .ok (.iadd, 1) := by decide +kernel
theorem dL_law_194 : decode cL_law 194 = .ok (.iaload, 1) := by decide +kernel
theorem dL_law_195 : decode cL_law 195 = .ok (.aload_n 3, 1) := by decide +kernel
theorem dL_law_196 : decode cL_law 196 = .ok (.invokestatic 87, 3) := by decide +kernel
theorem dL_law_199 : decode cL_law 199 = .ok (.istore 5, 2) := by decide +kernel
theorem dL_law_201 : decode cL_law 201 = .ok (.aload_n 2, 1) := by decide +kernel
theorem dL_law_202 : decode cL_law 202 = .ok (.aload_n 0, 1) := by decide +kernel
theorem dL_law_203 : decode cL_law 203 = .ok (.iload 4, 2) := by decide +kernel
theorem dL_law_205 : decode cL_law 205 = .ok (.iconst 1, 1) := by decide +kernel
theorem dL_law_206 : decode cL_law 206 = .ok (.iadd, 1) := by decide +kernel
theorem dL_law_207 : decode cL_law 207 = .ok (.iaload, 1) := by decide +kernel
theorem dL_law_208 : decode cL_law 208 = .ok (.aload_n 0, 1) := by decide +kernel
theorem dL_law_209 : decode cL_law 209 = .ok (.iload 4, 2) := by decide +kernel
theorem dL_law_211 : decode cL_law 211 = .ok (.iconst 2, 1) := by decide +kernel
theorem dL_law_212 : decode cL_law 212 = .ok (.iadd, 1) := by decide +kernel
theorem dL_law_213 : decode cL_law 213 = .ok (.iaload, 1) := by decide +kernel
theorem dL_law_214 : decode cL_law 214 = .ok (.aload_n 0, 1) := by decide +kernel
theorem dL_law_215 : decode cL_law 215 = .ok (.iload 4, 2) := by decide +kernel
theorem dL_law_217 : decode cL_law 217 = .ok (.iconst 3, 1) := by decide +kernel
theorem dL_law_218 : decode cL_law 218 = .ok (.iadd, 1) := by decide +kernel
theorem dL_law_219 : decode cL_law 219 = .ok (.iaload, 1) := by decide +kernel
theorem dL_law_220 : decode cL_law 220 = .ok (.aload_n 0, 1) := by decide +kernel
theorem dL_law_221 : decode cL_law 221 = .ok (.iload 4, 2) := by decide +kernel
theorem dL_law_223 : decode cL_law 223 = .ok (.iconst 4, 1) := by decide +kernel
theorem dL_law_224 : decode cL_law 224 = .ok (.iadd, 1) := by decide +kernel
theorem dL_law_225 : decode cL_law 225 = .ok (.iaload, 1) := by decide +kernel
theorem dL_law_226 : decode cL_law 226 = .ok (.ifCond .eq 7, 3) := by decide +kernel
theorem dL_law_229 : decode cL_law 229 = .ok (.iconst 1, 1) := by decide +kernel
theorem dL_law_230 : decode cL_law 230 = .ok (.goto 4, 3) := by decide +kernel
theorem dL_law_233 : decode cL_law 233 = .ok (.iconst 0, 1) := by decide +kernel
theorem dL_law_234 : decode cL_law 234 = .ok (.aload_n 0, 1) := by decide +kernel
theorem dL_law_235 : decode cL_law 235 = .ok (.iload 4, 2) := by decide +kernel
theorem dL_law_237 : decode cL_law 237 = .ok (.iconst 5, 1) := by decide +kernel
theorem dL_law_238 : decode cL_law 238 = .ok (.iadd, 1) := by decide +kernel
theorem dL_law_239 : decode cL_law 239 = .ok (.iaload, 1) := by decide +kernel
theorem dL_law_240 : decode cL_law 240 = .ok (.invokevirtual 92, 3) := by decide +kernel
theorem dL_law_243 : decode cL_law 243 = .ok (.istore 6, 2) := by decide +kernel
theorem dL_law_245 : decode cL_law 245 = .ok (.aload_n 2, 1) := by decide +kernel
theorem dL_law_246 : decode cL_law 246 = .ok (.invokevirtual 93, 3) := by decide +kernel
theorem dL_law_249 : decode cL_law 249 = .ok (.iload 5, 2) := by decide +kernel
theorem dL_law_251 : decode cL_law 251 = .ok (.if_icmp .eq 5, 3) := by decide +kernel
theorem dL_law_254 : decode cL_law 254 = .ok (.iconst 0, 1) := by decide +kernel
theorem dL_law_255 : decode cL_law 255 = .ok (.ireturn, 1) := by decide +kernel
theorem dL_law_256 : decode cL_law 256 = .ok (.iload 5, 2) := by decide +kernel
theorem dL_law_258 : decode cL_law 258 = .ok (.ifCond .ne 15, 3) := by decide +kernel
theorem dL_law_261 : decode cL_law 261 = .ok (.aload_n 3, 1) := by decide +kernel
theorem dL_law_262 : decode cL_law 262 = .ok (.iconst 0, 1) := by decide +kernel
theorem dL_law_263 : decode cL_law 263 = .ok (.laload, 1) := by decide +kernel
theorem dL_law_264 : decode cL_law 264 = .ok (.iload 6, 2) := by decide +kernel
theorem dL_law_266 : decode cL_law 266 = .ok (.i2l, 1) := by decide +kernel
theorem dL_law_267 : decode cL_law 267 = .ok (.lcmp, 1) := by decide +kernel
theorem dL_law_268 : decode cL_law 268 = .ok (.ifCond .eq 5, 3) := by decide +kernel
theorem dL_law_271 : decode cL_law 271 = .ok (.iconst 0, 1) := by decide +kernel
theorem dL_law_272 : decode cL_law 272 = .ok (.ireturn, 1) := by decide +kernel
theorem dL_law_273 : decode cL_law 273 = .ok (.goto 1379, 3) := by decide +kernel
theorem dL_law_276 : decode cL_law 276 = .ok (.aload_n 1, 1) := by decide +kernel
theorem dL_law_277 : decode cL_law 277 = .ok (.aload_n 0, 1) := by decide +kernel
theorem dL_law_278 : decode cL_law 278 = .ok (.iload 4, 2) := by decide +kernel
theorem dL_law_280 : decode cL_law 280 = .ok (.iconst 1, 1) := by decide +kernel
theorem dL_law_281 : decode cL_law 281 = .ok (.iadd, 1) := by decide +kernel
theorem dL_law_282 : decode cL_law 282 = .ok (.iaload, 1) := by decide +kernel
theorem dL_law_283 : decode cL_law 283 = .ok (.aload_n 0, 1) := by decide +kernel
theorem dL_law_284 : decode cL_law 284 = .ok (.iload 4, 2) := by decide +kernel
theorem dL_law_286 : decode cL_law 286 = .ok (.iconst 2, 1) := by decide +kernel
theorem dL_law_287 : decode cL_law 287 = .ok (.iadd, 1) := by decide +kernel
theorem dL_law_288 : decode cL_law 288 = .ok (.iaload, 1) := by decide +kernel
theorem dL_law_289 : decode cL_law 289 = .ok (.aload_n 3, 1) := by decide +kernel
theorem dL_law_290 : decode cL_law 290 = .ok (.invokestatic 97, 3) := by decide +kernel
theorem dL_law_293 : decode cL_law 293 = .ok (.istore 5, 2) := by decide +kernel
theorem dL_law_295 : decode cL_law 295 = .ok (.aload_n 2, 1) := by decide +kernel
theorem dL_law_296 : decode cL_law 296 = .ok (.aload_n 0, 1) := by decide +kernel
theorem dL_law_297 : decode cL_law 297 = .ok (.iload 4, 2) := by decide +kernel
theorem dL_law_299 : decode cL_law 299 = .ok (.iconst 1, 1) := by decide +kernel
theorem dL_law_300 : decode cL_law 300 = .ok (.iadd, 1) := by decide +kernel
theorem dL_law_301 : decode cL_law 301 = .ok (.iaload, 1) := by decide +kernel
theorem dL_law_302 : decode cL_law 302 = .ok (.aload_n 0, 1) := by decide +kernel
theorem dL_law_303 : decode cL_law 303 = .ok (.iload 4, 2) := by decide +kernel
theorem dL_law_305 : decode cL_law 305 = .ok (.iconst 2, 1) := by decide +kernel
theorem dL_law_306 : decode cL_law 306 = .ok (.iadd, 1) := by decide +kernel
theorem dL_law_307 : decode cL_law 307 = .ok (.iaload, 1) := by decide +kernel
theorem dL_law_308 : decode cL_law 308 = .ok (.invokevirtual 100, 3) := by decide +kernel
theorem dL_law_311 : decode cL_law 311 = .ok (.istore 6, 2) := by decide +kernel
theorem dL_law_313 : decode cL_law 313 = .ok (.aload_n 2, 1) := by decide +kernel
theorem dL_law_314 : decode cL_law 314 = .ok (.invokevirtual 93, 3) := by decide +kernel
theorem dL_law_317 : decode cL_law 317 = .ok (.iload 5, 2) := by decide +kernel
theorem dL_law_319 : decode cL_law 319 = .ok (.if_icmp .eq 5, 3) := by decide +kernel
theorem dL_law_322 : decode cL_law 322 = .ok (.iconst 0, 1) := by decide +kernel
theorem dL_law_323 : decode cL_law 323 = .ok (.ireturn, 1) := by decide +kernel
theorem dL_law_324 : decode cL_law 324 = .ok (.iload 5, 2) := by decide +kernel
theorem dL_law_326 : decode cL_law 326 = .ok (.ifCond .ne 15, 3) := by decide +kernel
theorem dL_law_329 : decode cL_law 329 = .ok (.aload_n 3, 1) := by decide +kernel
theorem dL_law_330 : decode cL_law 330 = .ok (.iconst 0, 1) := by decide +kernel
theorem dL_law_331 : decode cL_law 331 = .ok (.laload, 1) := by decide +kernel
theorem dL_law_332 : decode cL_law 332 = .ok (.iload 6, 2) := by decide +kernel
theorem dL_law_334 : decode cL_law 334 = .ok (.i2l, 1) := by decide +kernel
theorem dL_law_335 : decode cL_law 335 = .ok (.lcmp, 1) := by decide +kernel
theorem dL_law_336 : decode cL_law 336 = .ok (.ifCond .eq 5, 3) := by decide +kernel
theorem dL_law_339 : decode cL_law 339 = .ok (.iconst 0, 1) := by decide +kernel
theorem dL_law_340 : decode cL_law 340 = .ok (.ireturn, 1) := by decide +kernel
theorem dL_law_341 : decode cL_law 341 = .ok (.goto 1311, 3) := by decide +kernel
theorem dL_law_344 : decode cL_law 344 = .ok (.aload_n 1, 1) := by decide +kernel
theorem dL_law_345 : decode cL_law 345 = .ok (.aload_n 0, 1) := by decide +kernel
theorem dL_law_346 : decode cL_law 346 = .ok (.iload 4, 2) := by decide +kernel
theorem dL_law_348 : decode cL_law 348 = .ok (.iconst 1, 1) := by decide +kernel
theorem dL_law_349 : decode cL_law 349 = .ok (.iadd, 1) := by decide +kernel
theorem dL_law_350 : decode cL_law 350 = .ok (.iaload, 1) := by decide +kernel
theorem dL_law_351 : decode cL_law 351 = .ok (.aload_n 3, 1) := by decide +kernel
theorem dL_law_352 : decode cL_law 352 = .ok (.invokestatic 101, 3) := by decide +kernel
theorem dL_law_355 : decode cL_law 355 = .ok (.istore 5, 2) := by decide +kernel
theorem dL_law_357 : decode cL_law 357 = .ok (.aload_n 2, 1) := by decide +kernel
theorem dL_law_358 : decode cL_law 358 = .ok (.aload_n 0, 1) := by decide +kernel
theorem dL_law_359 : decode cL_law 359 = .ok (.iload 4, 2) := by decide +kernel
theorem dL_law_361 : decode cL_law 361 = .ok (.iconst 1, 1) := by decide +kernel
theorem dL_law_362 : decode cL_law 362 = .ok (.iadd, 1) := by decide +kernel
theorem dL_law_363 : decode cL_law 363 = .ok (.iaload, 1) := by decide +kernel
theorem dL_law_364 : decode cL_law 364 = .ok (.invokevirtual 104, 3) := by decide +kernel
theorem dL_law_367 : decode cL_law 367 = .ok (.istore 6, 2) := by decide +kernel
theorem dL_law_369 : decode cL_law 369 = .ok (.aload_n 2, 1) := by decide +kernel
theorem dL_law_370 : decode cL_law 370 = .ok (.invokevirtual 93, 3) := by decide +kernel
theorem dL_law_373 : decode cL_law 373 = .ok (.iload 5, 2) := by decide +kernel
theorem dL_law_375 : decode cL_law 375 = .ok (.if_icmp .eq 5, 3) := by decide +kernel
theorem dL_law_378 : decode cL_law 378 = .ok (.iconst 0, 1) := by decide +kernel
theorem dL_law_379 : decode cL_law 379 = .ok (.ireturn, 1) := by decide +kernel
theorem dL_law_380 : decode cL_law 380 = .ok (.iload 5, 2) := by decide +kernel
theorem dL_law_382 : decode cL_law 382 = .ok (.ifCond .ne 15, 3) := by decide +kernel
theorem dL_law_385 : decode cL_law 385 = .ok (.aload_n 3, 1) := by decide +kernel
theorem dL_law_386 : decode cL_law 386 = .ok (.iconst 0, 1) := by decide +kernel
theorem dL_law_387 : decode cL_law 387 = .ok (.laload, 1) := by decide +kernel
theorem dL_law_388 : decode cL_law 388 = .ok (.iload 6, 2) := by decide +kernel
theorem dL_law_390 : decode cL_law 390 = .ok (.i2l, 1) := by decide +kernel
theorem dL_law_391 : decode cL_law 391 = .ok (.lcmp, 1) := by decide +kernel
theorem dL_law_392 : decode cL_law 392 = .ok (.ifCond .eq 5, 3) := by decide +kernel
theorem dL_law_395 : decode cL_law 395 = .ok (.iconst 0, 1) := by decide +kernel
theorem dL_law_396 : decode cL_law 396 = .ok (.ireturn, 1) := by decide +kernel
theorem dL_law_397 : decode cL_law 397 = .ok (.goto 1255, 3) := by decide +kernel
theorem dL_law_400 : decode cL_law 400 = .ok (.aload_n 1, 1) := by decide +kernel
theorem dL_law_401 : decode cL_law 401 = .ok (.aload_n 0, 1) := by decide +kernel
theorem dL_law_402 : decode cL_law 402 = .ok (.iload 4, 2) := by decide +kernel
theorem dL_law_404 : decode cL_law 404 = .ok (.iconst 1, 1) := by decide +kernel
theorem dL_law_405 : decode cL_law 405 = .ok (.iadd, 1) := by decide +kernel
theorem dL_law_406 : decode cL_law 406 = .ok (.iaload, 1) := by decide +kernel
theorem dL_law_407 : decode cL_law 407 = .ok (.aload_n 3, 1) := by decide +kernel
theorem dL_law_408 : decode cL_law 408 = .ok (.invokestatic 105, 3) := by decide +kernel
theorem dL_law_411 : decode cL_law 411 = .ok (.istore 5, 2) := by decide +kernel
theorem dL_law_413 : decode cL_law 413 = .ok (.aload_n 2, 1) := by decide +kernel
theorem dL_law_414 : decode cL_law 414 = .ok (.aload_n 0, 1) := by decide +kernel
theorem dL_law_415 : decode cL_law 415 = .ok (.iload 4, 2) := by decide +kernel
theorem dL_law_417 : decode cL_law 417 = .ok (.iconst 1, 1) := by decide +kernel
theorem dL_law_418 : decode cL_law 418 = .ok (.iadd, 1) := by decide +kernel
theorem dL_law_419 : decode cL_law 419 = .ok (.iaload, 1) := by decide +kernel
theorem dL_law_420 : decode cL_law 420 = .ok (.invokevirtual 107, 3) := by decide +kernel
theorem dL_law_423 : decode cL_law 423 = .ok (.istore 6, 2) := by decide +kernel
theorem dL_law_425 : decode cL_law 425 = .ok (.aload_n 2, 1) := by decide +kernel
theorem dL_law_426 : decode cL_law 426 = .ok (.invokevirtual 93, 3) := by decide +kernel
theorem dL_law_429 : decode cL_law 429 = .ok (.iload 5, 2) := by decide +kernel
theorem dL_law_431 : decode cL_law 431 = .ok (.if_icmp .eq 5, 3) := by decide +kernel
theorem dL_law_434 : decode cL_law 434 = .ok (.iconst 0, 1) := by decide +kernel
theorem dL_law_435 : decode cL_law 435 = .ok (.ireturn, 1) := by decide +kernel
theorem dL_law_436 : decode cL_law 436 = .ok (.iload 5, 2) := by decide +kernel
theorem dL_law_438 : decode cL_law 438 = .ok (.ifCond .ne 15, 3) := by decide +kernel
theorem dL_law_441 : decode cL_law 441 = .ok (.aload_n 3, 1) := by decide +kernel
theorem dL_law_442 : decode cL_law 442 = .ok (.iconst 0, 1) := by decide +kernel
theorem dL_law_443 : decode cL_law 443 = .ok (.laload, 1) := by decide +kernel
theorem dL_law_444 : decode cL_law 444 = .ok (.iload 6, 2) := by decide +kernel
theorem dL_law_446 : decode cL_law 446 = .ok (.i2l, 1) := by decide +kernel
theorem dL_law_447 : decode cL_law 447 = .ok (.lcmp, 1) := by decide +kernel
theorem dL_law_448 : decode cL_law 448 = .ok (.ifCond .eq 5, 3) := by decide +kernel
theorem dL_law_451 : decode cL_law 451 = .ok (.iconst 0, 1) := by decide +kernel
theorem dL_law_452 : decode cL_law 452 = .ok (.ireturn, 1) := by decide +kernel
theorem dL_law_453 : decode cL_law 453 = .ok (.goto 1199, 3) := by decide +kernel
theorem dL_law_456 : decode cL_law 456 = .ok (.aload_n 1, 1) := by decide +kernel
theorem dL_law_457 : decode cL_law 457 = .ok (.aload_n 0, 1) := by decide +kernel
theorem dL_law_458 : decode cL_law 458 = .ok (.iload 4, 2) := by decide +kernel
theorem dL_law_460 : decode cL_law 460 = .ok (.iconst 1, 1) := by decide +kernel
theorem dL_law_461 : decode cL_law 461 = .ok (.iadd, 1) := by decide +kernel
theorem dL_law_462 : decode cL_law 462 = .ok (.iaload, 1) := by decide +kernel
theorem dL_law_463 : decode cL_law 463 = .ok (.aload_n 3, 1) := by decide +kernel
theorem dL_law_464 : decode cL_law 464 = .ok (.invokestatic 108, 3) := by decide +kernel
theorem dL_law_467 : decode cL_law 467 = .ok (.istore 5, 2) := by decide +kernel
theorem dL_law_469 : decode cL_law 469 = .ok (.aload_n 2, 1) := by decide +kernel
theorem dL_law_470 : decode cL_law 470 = .ok (.aload_n 0, 1) := by decide +kernel
theorem dL_law_471 : decode cL_law 471 = .ok (.iload 4, 2) := by decide +kernel
theorem dL_law_473 : decode cL_law 473 = .ok (.iconst 1, 1) := by decide +kernel
theorem dL_law_474 : decode cL_law 474 = .ok (.iadd, 1) := by decide +kernel
theorem dL_law_475 : decode cL_law 475 = .ok (.iaload, 1) := by decide +kernel
theorem dL_law_476 : decode cL_law 476 = .ok (.invokevirtual 110, 3) := by decide +kernel
theorem dL_law_479 : decode cL_law 479 = .ok (.istore 6, 2) := by decide +kernel
theorem dL_law_481 : decode cL_law 481 = .ok (.aload_n 2, 1) := by decide +kernel
theorem dL_law_482 : decode cL_law 482 = .ok (.invokevirtual 93, 3) := by decide +kernel
theorem dL_law_485 : decode cL_law 485 = .ok (.iload 5, 2) := by decide +kernel
theorem dL_law_487 : decode cL_law 487 = .ok (.if_icmp .eq 5, 3) := by decide +kernel
theorem dL_law_490 : decode cL_law 490 = .ok (.iconst 0, 1) := by decide +kernel
theorem dL_law_491 : decode cL_law 491 = .ok (.ireturn, 1) := by decide +kernel
theorem dL_law_492 : decode cL_law 492 = .ok (.iload 5, 2) := by decide +kernel
theorem dL_law_494 : decode cL_law 494 = .ok (.ifCond .ne 15, 3) := by decide +kernel
theorem dL_law_497 : decode cL_law 497 = .ok (.aload_n 3, 1) := by decide +kernel
theorem dL_law_498 : decode cL_law 498 = .ok (.iconst 0, 1) := by decide +kernel
theorem dL_law_499 : decode cL_law 499 = .ok (.laload, 1) := by decide +kernel
theorem dL_law_500 : decode cL_law 500 = .ok (.iload 6, 2) := by decide +kernel
theorem dL_law_502 : decode cL_law 502 = .ok (.i2l, 1) := by decide +kernel
theorem dL_law_503 : decode cL_law 503 = .ok (.lcmp, 1) := by decide +kernel
theorem dL_law_504 : decode cL_law 504 = .ok (.ifCond .eq 5, 3) := by decide +kernel
theorem dL_law_507 : decode cL_law 507 = .ok (.iconst 0, 1) := by decide +kernel
theorem dL_law_508 : decode cL_law 508 = .ok (.ireturn, 1) := by decide +kernel
theorem dL_law_509 : decode cL_law 509 = .ok (.goto 1143, 3) := by decide +kernel
theorem dL_law_512 : decode cL_law 512 = .ok (.aload_n 1, 1) := by decide +kernel
theorem dL_law_513 : decode cL_law 513 = .ok (.aload_n 0, 1) := by decide +kernel
theorem dL_law_514 : decode cL_law 514 = .ok (.iload 4, 2) := by decide +kernel
theorem dL_law_516 : decode cL_law 516 = .ok (.iconst 1, 1) := by decide +kernel
theorem dL_law_517 : decode cL_law 517 = .ok (.iadd, 1) := by decide +kernel
theorem dL_law_518 : decode cL_law 518 = .ok (.iaload, 1) := by decide +kernel
theorem dL_law_519 : decode cL_law 519 = .ok (.aload_n 3, 1) := by decide +kernel
theorem dL_law_520 : decode cL_law 520 = .ok (.invokestatic 111, 3) := by decide +kernel
theorem dL_law_523 : decode cL_law 523 = .ok (.istore 5, 2) := by decide +kernel
theorem dL_law_525 : decode cL_law 525 = .ok (.aload_n 2, 1) := by decide +kernel
theorem dL_law_526 : decode cL_law 526 = .ok (.aload_n 0, 1) := by decide +kernel
theorem dL_law_527 : decode cL_law 527 = .ok (.iload 4, 2) := by decide +kernel
theorem dL_law_529 : decode cL_law 529 = .ok (.iconst 1, 1) := by decide +kernel
theorem dL_law_530 : decode cL_law 530 = .ok (.iadd, 1) := by decide +kernel
theorem dL_law_531 : decode cL_law 531 = .ok (.iaload, 1) := by decide +kernel
theorem dL_law_532 : decode cL_law 532 = .ok (.invokevirtual 113, 3) := by decide +kernel
theorem dL_law_535 : decode cL_law 535 = .ok (.istore 6, 2) := by decide +kernel
theorem dL_law_537 : decode cL_law 537 = .ok (.aload_n 2, 1) := by decide +kernel
theorem dL_law_538 : decode cL_law 538 = .ok (.invokevirtual 93, 3) := by decide +kernel
theorem dL_law_541 : decode cL_law 541 = .ok (.iload 5, 2) := by decide +kernel
theorem dL_law_543 : decode cL_law 543 = .ok (.if_icmp .eq 5, 3) := by decide +kernel
theorem dL_law_546 : decode cL_law 546 = .ok (.iconst 0, 1) := by decide +kernel
theorem dL_law_547 : decode cL_law 547 = .ok (.ireturn, 1) := by decide +kernel
theorem dL_law_548 : decode cL_law 548 = .ok (.iload 5, 2) := by decide +kernel
theorem dL_law_550 : decode cL_law 550 = .ok (.ifCond .ne 15, 3) := by decide +kernel
theorem dL_law_553 : decode cL_law 553 = .ok (.aload_n 3, 1) := by decide +kernel
theorem dL_law_554 : decode cL_law 554 = .ok (.iconst 0, 1) := by decide +kernel
theorem dL_law_555 : decode cL_law 555 = .ok (.laload, 1) := by decide +kernel
theorem dL_law_556 : decode cL_law 556 = .ok (.iload 6, 2) := by decide +kernel
theorem dL_law_558 : decode cL_law 558 = .ok (.i2l, 1) := by decide +kernel
theorem dL_law_559 : decode cL_law 559 = .ok (.lcmp, 1) := by decide +kernel
theorem dL_law_560 : decode cL_law 560 = .ok (.ifCond .eq 5, 3) := by decide +kernel
theorem dL_law_563 : decode cL_law 563 = .ok (.iconst 0, 1) := by decide +kernel
theorem dL_law_564 : decode cL_law 564 = .ok (.ireturn, 1) := by decide +kernel
theorem dL_law_565 : decode cL_law 565 = .ok (.goto 1087, 3) := by decide +kernel
theorem dL_law_568 : decode cL_law 568 = .ok (.aload_n 1, 1) := by decide +kernel
theorem dL_law_569 : decode cL_law 569 = .ok (.aload_n 0, 1) := by decide +kernel
theorem dL_law_570 : decode cL_law 570 = .ok (.iload 4, 2) := by decide +kernel
theorem dL_law_572 : decode cL_law 572 = .ok (.iconst 1, 1) := by decide +kernel
theorem dL_law_573 : decode cL_law 573 = .ok (.iadd, 1) := by decide +kernel
theorem dL_law_574 : decode cL_law 574 = .ok (.iaload, 1) := by decide +kernel
theorem dL_law_575 : decode cL_law 575 = .ok (.aload_n 0, 1) := by decide +kernel
theorem dL_law_576 : decode cL_law 576 = .ok (.iload 4, 2) := by decide +kernel
theorem dL_law_578 : decode cL_law 578 = .ok (.iconst 2, 1) := by decide +kernel
theorem dL_law_579 : decode cL_law 579 = .ok (.iadd, 1) := by decide +kernel
theorem dL_law_580 : decode cL_law 580 = .ok (.iaload, 1) := by decide +kernel
theorem dL_law_581 : decode cL_law 581 = .ok (.aload_n 3, 1) := by decide +kernel
theorem dL_law_582 : decode cL_law 582 = .ok (.invokestatic 114, 3) := by decide +kernel
theorem dL_law_585 : decode cL_law 585 = .ok (.istore 5, 2) := by decide +kernel
theorem dL_law_587 : decode cL_law 587 = .ok (.aload_n 2, 1) := by decide +kernel
theorem dL_law_588 : decode cL_law 588 = .ok (.aload_n 0, 1) := by decide +kernel
theorem dL_law_589 : decode cL_law 589 = .ok (.iload 4, 2) := by decide +kernel
theorem dL_law_591 : decode cL_law 591 = .ok (.iconst 1, 1) := by decide +kernel
theorem dL_law_592 : decode cL_law 592 = .ok (.iadd, 1) := by decide +kernel
theorem dL_law_593 : decode cL_law 593 = .ok (.iaload, 1) := by decide +kernel
theorem dL_law_594 : decode cL_law 594 = .ok (.aload_n 0, 1) := by decide +kernel
theorem dL_law_595 : decode cL_law 595 = .ok (.iload 4, 2) := by decide +kernel
theorem dL_law_597 : decode cL_law 597 = .ok (.iconst 2, 1) := by decide +kernel
theorem dL_law_598 : decode cL_law 598 = .ok (.iadd, 1) := by decide +kernel
theorem dL_law_599 : decode cL_law 599 = .ok (.iaload, 1) := by decide +kernel
theorem dL_law_600 : decode cL_law 600 = .ok (.invokevirtual 116, 3) := by decide +kernel
theorem dL_law_603 : decode cL_law 603 = .ok (.istore 6, 2) := by decide +kernel
theorem dL_law_605 : decode cL_law 605 = .ok (.aload_n 2, 1) := by decide +kernel
theorem dL_law_606 : decode cL_law 606 = .ok (.invokevirtual 93, 3) := by decide +kernel
theorem dL_law_609 : decode cL_law 609 = .ok (.iload 5, 2) := by decide +kernel
theorem dL_law_611 : decode cL_law 611 = .ok (.if_icmp .eq 5, 3) := by decide +kernel
theorem dL_law_614 : decode cL_law 614 = .ok (.iconst 0, 1) := by decide +kernel
theorem dL_law_615 : decode cL_law 615 = .ok (.ireturn, 1) := by decide +kernel
theorem dL_law_616 : decode cL_law 616 = .ok (.iload 5, 2) := by decide +kernel
theorem dL_law_618 : decode cL_law 618 = .ok (.ifCond .ne 15, 3) := by decide +kernel
theorem dL_law_621 : decode cL_law 621 = .ok (.aload_n 3, 1) := by decide +kernel
theorem dL_law_622 : decode cL_law 622 = .ok (.iconst 0, 1) := by decide +kernel
theorem dL_law_623 : decode cL_law 623 = .ok (.laload, 1) := by decide +kernel
theorem dL_law_624 : decode cL_law 624 = .ok (.iload 6, 2) := by decide +kernel
theorem dL_law_626 : decode cL_law 626 = .ok (.i2l, 1) := by decide +kernel
theorem dL_law_627 : decode cL_law 627 = .ok (.lcmp, 1) := by decide +kernel
theorem dL_law_628 : decode cL_law 628 = .ok (.ifCond .eq 5, 3) := by decide +kernel
theorem dL_law_631 : decode cL_law 631 = .ok (.iconst 0, 1) := by decide +kernel
theorem dL_law_632 : decode cL_law 632 = .ok (.ireturn, 1) := by decide +kernel
theorem dL_law_633 : decode cL_law 633 = .ok (.goto 1019, 3) := by decide +kernel
theorem dL_law_636 : decode cL_law 636 = .ok (.aload_n 1, 1) := by decide +kernel
theorem dL_law_637 : decode cL_law 637 = .ok (.aload_n 0, 1) := by decide +kernel
theorem dL_law_638 : decode cL_law 638 = .ok (.iload 4, 2) := by decide +kernel
theorem dL_law_640 : decode cL_law 640 = .ok (.iconst 1, 1) := by decide +kernel
theorem dL_law_641 : decode cL_law 641 = .ok (.iadd, 1) := by decide +kernel
theorem dL_law_642 : decode cL_law 642 = .ok (.iaload, 1) := by decide +kernel
theorem dL_law_643 : decode cL_law 643 = .ok (.invokevirtual 117, 3) := by decide +kernel
theorem dL_law_646 : decode cL_law 646 = .ok (.aload_n 2, 1) := by decide +kernel
theorem dL_law_647 : decode cL_law 647 = .ok (.aload_n 0, 1) := by decide +kernel
theorem dL_law_648 : decode cL_law 648 = .ok (.iload 4, 2) := by decide +kernel
theorem dL_law_650 : decode cL_law 650 = .ok (.iconst 1, 1) := by decide +kernel
theorem dL_law_651 : decode cL_law 651 = .ok (.iadd, 1) := by decide +kernel
theorem dL_law_652 : decode cL_law 652 = .ok (.iaload, 1) := by decide +kernel
theorem dL_law_653 : decode cL_law 653 = .ok (.invokevirtual 120, 3) := by decide +kernel
theorem dL_law_656 : decode cL_law 656 = .ok (.if_icmp .eq 996, 3) := by decide +kernel
theorem dL_law_659 : decode cL_law 659 = .ok (.iconst 0, 1) := by decide +kernel
theorem dL_law_660 : decode cL_law 660 = .ok (.ireturn, 1) := by decide +kernel
theorem dL_law_661 : decode cL_law 661 = .ok (.aload_n 1, 1) := by decide +kernel
theorem dL_law_662 : decode cL_law 662 = .ok (.aload_n 0, 1) := by decide +kernel
theorem dL_law_663 : decode cL_law 663 = .ok (.iload 4, 2) := by decide +kernel
theorem dL_law_665 : decode cL_law 665 = .ok (.iconst 1, 1) := by decide +kernel
theorem dL_law_666 : decode cL_law 666 = .ok (.iadd, 1) := by decide +kernel
theorem dL_law_667 : decode cL_law 667 = .ok (.iaload, 1) := by decide +kernel
theorem dL_law_668 : decode cL_law 668 = .ok (.aload_n 0, 1) := by decide +kernel
theorem dL_law_669 : decode cL_law 669 = .ok (.iload 4, 2) := by decide +kernel
theorem dL_law_671 : decode cL_law 671 = .ok (.iconst 2, 1) := by decide +kernel
theorem dL_law_672 : decode cL_law 672 = .ok (.iadd, 1) := by decide +kernel
theorem dL_law_673 : decode cL_law 673 = .ok (.iaload, 1) := by decide +kernel
theorem dL_law_674 : decode cL_law 674 = .ok (.ifCond .eq 7, 3) := by decide +kernel
theorem dL_law_677 : decode cL_law 677 = .ok (.iconst 1, 1) := by decide +kernel
theorem dL_law_678 : decode cL_law 678 = .ok (.goto 4, 3) := by decide +kernel
theorem dL_law_681 : decode cL_law 681 = .ok (.iconst 0, 1) := by decide +kernel
theorem dL_law_682 : decode cL_law 682 = .ok (.aload_n 3, 1) := by decide +kernel
theorem dL_law_683 : decode cL_law 683 = .ok (.invokestatic 121, 3) := by decide +kernel
theorem dL_law_686 : decode cL_law 686 = .ok (.istore 5, 2) := by decide +kernel
theorem dL_law_688 : decode cL_law 688 = .ok (.aload_n 2, 1) := by decide +kernel
theorem dL_law_689 : decode cL_law 689 = .ok (.aload_n 0, 1) := by decide +kernel
theorem dL_law_690 : decode cL_law 690 = .ok (.iload 4, 2) := by decide +kernel
theorem dL_law_692 : decode cL_law 692 = .ok (.iconst 1, 1) := by decide +kernel
theorem dL_law_693 : decode cL_law 693 = .ok (.iadd, 1) := by decide +kernel
theorem dL_law_694 : decode cL_law 694 = .ok (.iaload, 1) := by decide +kernel
theorem dL_law_695 : decode cL_law 695 = .ok (.aload_n 0, 1) := by decide +kernel
theorem dL_law_696 : decode cL_law 696 = .ok (.iload 4, 2) := by decide +kernel
theorem dL_law_698 : decode cL_law 698 = .ok (.iconst 2, 1) := by decide +kernel
theorem dL_law_699 : decode cL_law 699 = .ok (.iadd, 1) := by decide +kernel
theorem dL_law_700 : decode cL_law 700 = .ok (.iaload, 1) := by decide +kernel
theorem dL_law_701 : decode cL_law 701 = .ok (.ifCond .eq 7, 3) := by decide +kernel
theorem dL_law_704 : decode cL_law 704 = .ok (.iconst 1, 1) := by decide +kernel
theorem dL_law_705 : decode cL_law 705 = .ok (.goto 4, 3) := by decide +kernel
theorem dL_law_708 : decode cL_law 708 = .ok (.iconst 0, 1) := by decide +kernel
theorem dL_law_709 : decode cL_law 709 = .ok (.invokevirtual 124, 3) := by decide +kernel
theorem dL_law_712 : decode cL_law 712 = .ok (.istore 6, 2) := by decide +kernel
theorem dL_law_714 : decode cL_law 714 = .ok (.aload_n 2, 1) := by decide +kernel
theorem dL_law_715 : decode cL_law 715 = .ok (.invokevirtual 93, 3) := by decide +kernel
theorem dL_law_718 : decode cL_law 718 = .ok (.iload 5, 2) := by decide +kernel
theorem dL_law_720 : decode cL_law 720 = .ok (.if_icmp .eq 5, 3) := by decide +kernel
theorem dL_law_723 : decode cL_law 723 = .ok (.iconst 0, 1) := by decide +kernel
theorem dL_law_724 : decode cL_law 724 = .ok (.ireturn, 1) := by decide +kernel
theorem dL_law_725 : decode cL_law 725 = .ok (.iload 5, 2) := by decide +kernel
theorem dL_law_727 : decode cL_law 727 = .ok (.ifCond .ne 15, 3) := by decide +kernel
theorem dL_law_730 : decode cL_law 730 = .ok (.aload_n 3, 1) := by decide +kernel
theorem dL_law_731 : decode cL_law 731 = .ok (.iconst 0, 1) := by decide +kernel
theorem dL_law_732 : decode cL_law 732 = .ok (.laload, 1) := by decide +kernel
theorem dL_law_733 : decode cL_law 733 = .ok (.iload 6, 2) := by decide +kernel
theorem dL_law_735 : decode cL_law 735 = .ok (.i2l, 1) := by decide +kernel
theorem dL_law_736 : decode cL_law 736 = .ok (.lcmp, 1) := by decide +kernel
theorem dL_law_737 : decode cL_law 737 = .ok (.ifCond .eq 5, 3) := by decide +kernel
theorem dL_law_740 : decode cL_law 740 = .ok (.iconst 0, 1) := by decide +kernel
theorem dL_law_741 : decode cL_law 741 = .ok (.ireturn, 1) := by decide +kernel
theorem dL_law_742 : decode cL_law 742 = .ok (.goto 910, 3) := by decide +kernel
theorem dL_law_745 : decode cL_law 745 = .ok (.aload_n 1, 1) := by decide +kernel
theorem dL_law_746 : decode cL_law 746 = .ok (.aload_n 0, 1) := by decide +kernel
theorem dL_law_747 : decode cL_law 747 = .ok (.iload 4, 2) := by decide +kernel
theorem dL_law_749 : decode cL_law 749 = .ok (.iconst 1, 1) := by decide +kernel
theorem dL_law_750 : decode cL_law 750 = .ok (.iadd, 1) := by decide +kernel
theorem dL_law_751 : decode cL_law 751 = .ok (.iaload, 1) := by decide +kernel
theorem dL_law_752 : decode cL_law 752 = .ok (.aload_n 0, 1) := by decide +kernel
theorem dL_law_753 : decode cL_law 753 = .ok (.iload 4, 2) := by decide +kernel
theorem dL_law_755 : decode cL_law 755 = .ok (.iconst 2, 1) := by decide +kernel
theorem dL_law_756 : decode cL_law 756 = .ok (.iadd, 1) := by decide +kernel
theorem dL_law_757 : decode cL_law 757 = .ok (.iaload, 1) := by decide +kernel
theorem dL_law_758 : decode cL_law 758 = .ok (.ifCond .eq 7, 3) := by decide +kernel
theorem dL_law_761 : decode cL_law 761 = .ok (.iconst 1, 1) := by decide +kernel
theorem dL_law_762 : decode cL_law 762 = .ok (.goto 4, 3) := by decide +kernel
theorem dL_law_765 : decode cL_law 765 = .ok (.iconst 0, 1) := by decide +kernel
theorem dL_law_766 : decode cL_law 766 = .ok (.aload_n 3, 1) := by decide +kernel
theorem dL_law_767 : decode cL_law 767 = .ok (.invokestatic 125, 3) := by decide +kernel
theorem dL_law_770 : decode cL_law 770 = .ok (.istore 5, 2) := by decide +kernel
theorem dL_law_772 : decode cL_law 772 = .ok (.aload_n 2, 1) := by decide +kernel
theorem dL_law_773 : decode cL_law 773 = .ok (.aload_n 0, 1) := by decide +kernel
theorem dL_law_774 : decode cL_law 774 = .ok (.iload 4, 2) := by decide +kernel
theorem dL_law_776 : decode cL_law 776 = .ok (.iconst 1, 1) := by decide +kernel
theorem dL_law_777 : decode cL_law 777 = .ok (.iadd, 1) := by decide +kernel
theorem dL_law_778 : decode cL_law 778 = .ok (.iaload, 1) := by decide +kernel
theorem dL_law_779 : decode cL_law 779 = .ok (.aload_n 0, 1) := by decide +kernel
theorem dL_law_780 : decode cL_law 780 = .ok (.iload 4, 2) := by decide +kernel
theorem dL_law_782 : decode cL_law 782 = .ok (.iconst 2, 1) := by decide +kernel
theorem dL_law_783 : decode cL_law 783 = .ok (.iadd, 1) := by decide +kernel
theorem dL_law_784 : decode cL_law 784 = .ok (.iaload, 1) := by decide +kernel
theorem dL_law_785 : decode cL_law 785 = .ok (.ifCond .eq 7, 3) := by decide +kernel
theorem dL_law_788 : decode cL_law 788 = .ok (.iconst 1, 1) := by decide +kernel
theorem dL_law_789 : decode cL_law 789 = .ok (.goto 4, 3) := by decide +kernel
theorem dL_law_792 : decode cL_law 792 = .ok (.iconst 0, 1) := by decide +kernel
theorem dL_law_793 : decode cL_law 793 = .ok (.invokevirtual 127, 3) := by decide +kernel
theorem dL_law_796 : decode cL_law 796 = .ok (.istore 6, 2) := by decide +kernel
theorem dL_law_798 : decode cL_law 798 = .ok (.aload_n 2, 1) := by decide +kernel
theorem dL_law_799 : decode cL_law 799 = .ok (.invokevirtual 93, 3) := by decide +kernel
theorem dL_law_802 : decode cL_law 802 = .ok (.iload 5, 2) := by decide +kernel
theorem dL_law_804 : decode cL_law 804 = .ok (.if_icmp .eq 5, 3) := by decide +kernel
theorem dL_law_807 : decode cL_law 807 = .ok (.iconst 0, 1) := by decide +kernel
theorem dL_law_808 : decode cL_law 808 = .ok (.ireturn, 1) := by decide +kernel
theorem dL_law_809 : decode cL_law 809 = .ok (.iload 5, 2) := by decide +kernel
theorem dL_law_811 : decode cL_law 811 = .ok (.ifCond .ne 15, 3) := by decide +kernel
theorem dL_law_814 : decode cL_law 814 = .ok (.aload_n 3, 1) := by decide +kernel
theorem dL_law_815 : decode cL_law 815 = .ok (.iconst 0, 1) := by decide +kernel
theorem dL_law_816 : decode cL_law 816 = .ok (.laload, 1) := by decide +kernel
theorem dL_law_817 : decode cL_law 817 = .ok (.iload 6, 2) := by decide +kernel
theorem dL_law_819 : decode cL_law 819 = .ok (.i2l, 1) := by decide +kernel
theorem dL_law_820 : decode cL_law 820 = .ok (.lcmp, 1) := by decide +kernel
theorem dL_law_821 : decode cL_law 821 = .ok (.ifCond .eq 5, 3) := by decide +kernel
theorem dL_law_824 : decode cL_law 824 = .ok (.iconst 0, 1) := by decide +kernel
theorem dL_law_825 : decode cL_law 825 = .ok (.ireturn, 1) := by decide +kernel
theorem dL_law_826 : decode cL_law 826 = .ok (.goto 826, 3) := by decide +kernel
theorem dL_law_829 : decode cL_law 829 = .ok (.aload_n 1, 1) := by decide +kernel
theorem dL_law_830 : decode cL_law 830 = .ok (.aload_n 0, 1) := by decide +kernel
theorem dL_law_831 : decode cL_law 831 = .ok (.iload 4, 2) := by decide +kernel
theorem dL_law_833 : decode cL_law 833 = .ok (.iconst 1, 1) := by decide +kernel
theorem dL_law_834 : decode cL_law 834 = .ok (.iadd, 1) := by decide +kernel
theorem dL_law_835 : decode cL_law 835 = .ok (.iaload, 1) := by decide +kernel
theorem dL_law_836 : decode cL_law 836 = .ok (.aload_n 0, 1) := by decide +kernel
theorem dL_law_837 : decode cL_law 837 = .ok (.iload 4, 2) := by decide +kernel
theorem dL_law_839 : decode cL_law 839 = .ok (.iconst 2, 1) := by decide +kernel
theorem dL_law_840 : decode cL_law 840 = .ok (.iadd, 1) := by decide +kernel
theorem dL_law_841 : decode cL_law 841 = .ok (.iaload, 1) := by decide +kernel
theorem dL_law_842 : decode cL_law 842 = .ok (.ifCond .eq 7, 3) := by decide +kernel
theorem dL_law_845 : decode cL_law 845 = .ok (.iconst 1, 1) := by decide +kernel
theorem dL_law_846 : decode cL_law 846 = .ok (.goto 4, 3) := by decide +kernel
theorem dL_law_849 : decode cL_law 849 = .ok (.iconst 0, 1) := by decide +kernel
theorem dL_law_850 : decode cL_law 850 = .ok (.aload_n 3, 1) := by decide +kernel
theorem dL_law_851 : decode cL_law 851 = .ok (.invokestatic 128, 3) := by decide +kernel
theorem dL_law_854 : decode cL_law 854 = .ok (.istore 5, 2) := by decide +kernel
theorem dL_law_856 : decode cL_law 856 = .ok (.aload_n 2, 1) := by decide +kernel
theorem dL_law_857 : decode cL_law 857 = .ok (.aload_n 0, 1) := by decide +kernel
theorem dL_law_858 : decode cL_law 858 = .ok (.iload 4, 2) := by decide +kernel
theorem dL_law_860 : decode cL_law 860 = .ok (.iconst 1, 1) := by decide +kernel
theorem dL_law_861 : decode cL_law 861 = .ok (.iadd, 1) := by decide +kernel
theorem dL_law_862 : decode cL_law 862 = .ok (.iaload, 1) := by decide +kernel
theorem dL_law_863 : decode cL_law 863 = .ok (.aload_n 0, 1) := by decide +kernel
theorem dL_law_864 : decode cL_law 864 = .ok (.iload 4, 2) := by decide +kernel
theorem dL_law_866 : decode cL_law 866 = .ok (.iconst 2, 1) := by decide +kernel
theorem dL_law_867 : decode cL_law 867 = .ok (.iadd, 1) := by decide +kernel
theorem dL_law_868 : decode cL_law 868 = .ok (.iaload, 1) := by decide +kernel
theorem dL_law_869 : decode cL_law 869 = .ok (.ifCond .eq 7, 3) := by decide +kernel
theorem dL_law_872 : decode cL_law 872 = .ok (.iconst 1, 1) := by decide +kernel
theorem dL_law_873 : decode cL_law 873 = .ok (.goto 4, 3) := by decide +kernel
theorem dL_law_876 : decode cL_law 876 = .ok (.iconst 0, 1) := by decide +kernel
theorem dL_law_877 : decode cL_law 877 = .ok (.invokevirtual 130, 3) := by decide +kernel
theorem dL_law_880 : decode cL_law 880 = .ok (.istore 6, 2) := by decide +kernel
theorem dL_law_882 : decode cL_law 882 = .ok (.aload_n 2, 1) := by decide +kernel
theorem dL_law_883 : decode cL_law 883 = .ok (.invokevirtual 93, 3) := by decide +kernel
theorem dL_law_886 : decode cL_law 886 = .ok (.iload 5, 2) := by decide +kernel
theorem dL_law_888 : decode cL_law 888 = .ok (.if_icmp .eq 5, 3) := by decide +kernel
theorem dL_law_891 : decode cL_law 891 = .ok (.iconst 0, 1) := by decide +kernel
theorem dL_law_892 : decode cL_law 892 = .ok (.ireturn, 1) := by decide +kernel
theorem dL_law_893 : decode cL_law 893 = .ok (.iload 5, 2) := by decide +kernel
theorem dL_law_895 : decode cL_law 895 = .ok (.ifCond .ne 15, 3) := by decide +kernel
theorem dL_law_898 : decode cL_law 898 = .ok (.aload_n 3, 1) := by decide +kernel
theorem dL_law_899 : decode cL_law 899 = .ok (.iconst 0, 1) := by decide +kernel
theorem dL_law_900 : decode cL_law 900 = .ok (.laload, 1) := by decide +kernel
theorem dL_law_901 : decode cL_law 901 = .ok (.iload 6, 2) := by decide +kernel
theorem dL_law_903 : decode cL_law 903 = .ok (.i2l, 1) := by decide +kernel
theorem dL_law_904 : decode cL_law 904 = .ok (.lcmp, 1) := by decide +kernel
theorem dL_law_905 : decode cL_law 905 = .ok (.ifCond .eq 5, 3) := by decide +kernel
theorem dL_law_908 : decode cL_law 908 = .ok (.iconst 0, 1) := by decide +kernel
theorem dL_law_909 : decode cL_law 909 = .ok (.ireturn, 1) := by decide +kernel
theorem dL_law_910 : decode cL_law 910 = .ok (.goto 742, 3) := by decide +kernel
theorem dL_law_913 : decode cL_law 913 = .ok (.aload_n 1, 1) := by decide +kernel
theorem dL_law_914 : decode cL_law 914 = .ok (.aload_n 0, 1) := by decide +kernel
theorem dL_law_915 : decode cL_law 915 = .ok (.iload 4, 2) := by decide +kernel
theorem dL_law_917 : decode cL_law 917 = .ok (.iconst 1, 1) := by decide +kernel
theorem dL_law_918 : decode cL_law 918 = .ok (.iadd, 1) := by decide +kernel
theorem dL_law_919 : decode cL_law 919 = .ok (.iaload, 1) := by decide +kernel
theorem dL_law_920 : decode cL_law 920 = .ok (.aload_n 3, 1) := by decide +kernel
theorem dL_law_921 : decode cL_law 921 = .ok (.invokestatic 131, 3) := by decide +kernel
theorem dL_law_924 : decode cL_law 924 = .ok (.istore 5, 2) := by decide +kernel
theorem dL_law_926 : decode cL_law 926 = .ok (.aload_n 2, 1) := by decide +kernel
theorem dL_law_927 : decode cL_law 927 = .ok (.aload_n 0, 1) := by decide +kernel
theorem dL_law_928 : decode cL_law 928 = .ok (.iload 4, 2) := by decide +kernel
theorem dL_law_930 : decode cL_law 930 = .ok (.iconst 1, 1) := by decide +kernel
theorem dL_law_931 : decode cL_law 931 = .ok (.iadd, 1) := by decide +kernel
theorem dL_law_932 : decode cL_law 932 = .ok (.iaload, 1) := by decide +kernel
theorem dL_law_933 : decode cL_law 933 = .ok (.invokevirtual 133, 3) := by decide +kernel
theorem dL_law_936 : decode cL_law 936 = .ok (.istore 6, 2) := by decide +kernel
theorem dL_law_938 : decode cL_law 938 = .ok (.aload_n 2, 1) := by decide +kernel
theorem dL_law_939 : decode cL_law 939 = .ok (.invokevirtual 93, 3) := by decide +kernel
theorem dL_law_942 : decode cL_law 942 = .ok (.iload 5, 2) := by decide +kernel
theorem dL_law_944 : decode cL_law 944 = .ok (.if_icmp .eq 5, 3) := by decide +kernel
theorem dL_law_947 : decode cL_law 947 = .ok (.iconst 0, 1) := by decide +kernel
theorem dL_law_948 : decode cL_law 948 = .ok (.ireturn, 1) := by decide +kernel
theorem dL_law_949 : decode cL_law 949 = .ok (.iload 5, 2) := by decide +kernel
theorem dL_law_951 : decode cL_law 951 = .ok (.ifCond .ne 15, 3) := by decide +kernel
theorem dL_law_954 : decode cL_law 954 = .ok (.aload_n 3, 1) := by decide +kernel
theorem dL_law_955 : decode cL_law 955 = .ok (.iconst 0, 1) := by decide +kernel
theorem dL_law_956 : decode cL_law 956 = .ok (.laload, 1) := by decide +kernel
theorem dL_law_957 : decode cL_law 957 = .ok (.iload 6, 2) := by decide +kernel
theorem dL_law_959 : decode cL_law 959 = .ok (.i2l, 1) := by decide +kernel
theorem dL_law_960 : decode cL_law 960 = .ok (.lcmp, 1) := by decide +kernel
theorem dL_law_961 : decode cL_law 961 = .ok (.ifCond .eq 5, 3) := by decide +kernel
theorem dL_law_964 : decode cL_law 964 = .ok (.iconst 0, 1) := by decide +kernel
theorem dL_law_965 : decode cL_law 965 = .ok (.ireturn, 1) := by decide +kernel
theorem dL_law_966 : decode cL_law 966 = .ok (.goto 686, 3) := by decide +kernel
theorem dL_law_969 : decode cL_law 969 = .ok (.aload_n 1, 1) := by decide +kernel
theorem dL_law_970 : decode cL_law 970 = .ok (.aload_n 0, 1) := by decide +kernel
theorem dL_law_971 : decode cL_law 971 = .ok (.iload 4, 2) := by decide +kernel
theorem dL_law_973 : decode cL_law 973 = .ok (.iconst 1, 1) := by decide +kernel
theorem dL_law_974 : decode cL_law 974 = .ok (.iadd, 1) := by decide +kernel
theorem dL_law_975 : decode cL_law 975 = .ok (.iaload, 1) := by decide +kernel
theorem dL_law_976 : decode cL_law 976 = .ok (.aload_n 0, 1) := by decide +kernel
theorem dL_law_977 : decode cL_law 977 = .ok (.iload 4, 2) := by decide +kernel
theorem dL_law_979 : decode cL_law 979 = .ok (.iconst 2, 1) := by decide +kernel
theorem dL_law_980 : decode cL_law 980 = .ok (.iadd, 1) := by decide +kernel
theorem dL_law_981 : decode cL_law 981 = .ok (.iaload, 1) := by decide +kernel
theorem dL_law_982 : decode cL_law 982 = .ok (.aload_n 3, 1) := by decide +kernel
theorem dL_law_983 : decode cL_law 983 = .ok (.invokestatic 134, 3) := by decide +kernel
theorem dL_law_986 : decode cL_law 986 = .ok (.istore 5, 2) := by decide +kernel
theorem dL_law_988 : decode cL_law 988 = .ok (.aload_n 2, 1) := by decide +kernel
theorem dL_law_989 : decode cL_law 989 = .ok (.aload_n 0, 1) := by decide +kernel
theorem dL_law_990 : decode cL_law 990 = .ok (.iload 4, 2) := by decide +kernel
theorem dL_law_992 : decode cL_law 992 = .ok (.iconst 1, 1) := by decide +kernel
theorem dL_law_993 : decode cL_law 993 = .ok (.iadd, 1) := by decide +kernel
theorem dL_law_994 : decode cL_law 994 = .ok (.iaload, 1) := by decide +kernel
theorem dL_law_995 : decode cL_law 995 = .ok (.aload_n 0, 1) := by decide +kernel
theorem dL_law_996 : decode cL_law 996 = .ok (.iload 4, 2) := by decide +kernel
theorem dL_law_998 : decode cL_law 998 = .ok (.iconst 2, 1) := by decide +kernel
theorem dL_law_999 : decode cL_law 999 = .ok (.iadd, 1) := by decide +kernel
theorem dL_law_1000 : decode cL_law 1000 = .ok (.iaload, 1) := by decide +kernel
theorem dL_law_1001 : decode cL_law 1001 = .ok (.invokevirtual 136, 3) := by decide +kernel
theorem dL_law_1004 : decode cL_law 1004 = .ok (.istore 6, 2) := by decide +kernel
theorem dL_law_1006 : decode cL_law 1006 = .ok (.aload_n 2, 1) := by decide +kernel
theorem dL_law_1007 : decode cL_law 1007 = .ok (.invokevirtual 93, 3) := by decide +kernel
theorem dL_law_1010 : decode cL_law 1010 = .ok (.iload 5, 2) := by decide +kernel
theorem dL_law_1012 : decode cL_law 1012 = .ok (.if_icmp .eq 5, 3) := by decide +kernel
theorem dL_law_1015 : decode cL_law 1015 = .ok (.iconst 0, 1) := by decide +kernel
theorem dL_law_1016 : decode cL_law 1016 = .ok (.ireturn, 1) := by decide +kernel
theorem dL_law_1017 : decode cL_law 1017 = .ok (.iload 5, 2) := by decide +kernel
theorem dL_law_1019 : decode cL_law 1019 = .ok (.ifCond .ne 15, 3) := by decide +kernel
theorem dL_law_1022 : decode cL_law 1022 = .ok (.aload_n 3, 1) := by decide +kernel
theorem dL_law_1023 : decode cL_law 1023 = .ok (.iconst 0, 1) := by decide +kernel
theorem dL_law_1024 : decode cL_law 1024 = .ok (.laload, 1) := by decide +kernel
theorem dL_law_1025 : decode cL_law 1025 = .ok (.iload 6, 2) := by decide +kernel
theorem dL_law_1027 : decode cL_law 1027 = .ok (.i2l, 1) := by decide +kernel
theorem dL_law_1028 : decode cL_law 1028 = .ok (.lcmp, 1) := by decide +kernel
theorem dL_law_1029 : decode cL_law 1029 = .ok (.ifCond .eq 5, 3) := by decide +kernel
theorem dL_law_1032 : decode cL_law 1032 = .ok (.iconst 0, 1) := by decide +kernel
theorem dL_law_1033 : decode cL_law 1033 = .ok (.ireturn, 1) := by decide +kernel
theorem dL_law_1034 : decode cL_law 1034 = .ok (.goto 618, 3) := by decide +kernel
theorem dL_law_1037 : decode cL_law 1037 = .ok (.aload_n 1, 1) := by decide +kernel
theorem dL_law_1038 : decode cL_law 1038 = .ok (.invokevirtual 137, 3) := by decide +kernel
theorem dL_law_1041 : decode cL_law 1041 = .ok (.aload_n 2, 1) := by decide +kernel
theorem dL_law_1042 : decode cL_law 1042 = .ok (.invokevirtual 140, 3) := by decide +kernel
theorem dL_law_1045 : decode cL_law 1045 = .ok (.if_icmp .eq 607, 3) := by decide +kernel
theorem dL_law_1048 : decode cL_law 1048 = .ok (.iconst 0, 1) := by decide +kernel
theorem dL_law_1049 : decode cL_law 1049 = .ok (.ireturn, 1) := by decide +kernel
theorem dL_law_1050 : decode cL_law 1050 = .ok (.aload_n 1, 1) := by decide +kernel
theorem dL_law_1051 : decode cL_law 1051 = .ok (.invokevirtual 141, 3) := by decide +kernel
theorem dL_law_1054 : decode cL_law 1054 = .ok (.aload_n 2, 1) := by decide +kernel
theorem dL_law_1055 : decode cL_law 1055 = .ok (.invokevirtual 144, 3) := by decide +kernel
theorem dL_law_1058 : decode cL_law 1058 = .ok (.if_icmp .eq 594, 3) := by decide +kernel
theorem dL_law_1061 : decode cL_law 1061 = .ok (.iconst 0, 1) := by decide +kernel
theorem dL_law_1062 : decode cL_law 1062 = .ok (.ireturn, 1) := by decide +kernel
theorem dL_law_1063 : decode cL_law 1063 = .ok (.aload_n 1, 1) := by decide +kernel
theorem dL_law_1064 : decode cL_law 1064 = .ok (.invokevirtual 145, 3) := by decide +kernel
theorem dL_law_1067 : decode cL_law 1067 = .ok (.aload_n 2, 1) := by decide +kernel
theorem dL_law_1068 : decode cL_law 1068 = .ok (.invokevirtual 148, 3) := by decide +kernel
theorem dL_law_1071 : decode cL_law 1071 = .ok (.if_icmp .eq 581, 3) := by decide +kernel
theorem dL_law_1074 : decode cL_law 1074 = .ok (.iconst 0, 1) := by decide +kernel
theorem dL_law_1075 : decode cL_law 1075 = .ok (.ireturn, 1) := by decide +kernel
theorem dL_law_1076 : decode cL_law 1076 = .ok (.aload_n 1, 1) := by decide +kernel
theorem dL_law_1077 : decode cL_law 1077 = .ok (.aload_n 0, 1) := by decide +kernel
theorem dL_law_1078 : decode cL_law 1078 = .ok (.iload 4, 2) := by decide +kernel
theorem dL_law_1080 : decode cL_law 1080 = .ok (.iconst 1, 1) := by decide +kernel
theorem dL_law_1081 : decode cL_law 1081 = .ok (.iadd, 1) := by decide +kernel
theorem dL_law_1082 : decode cL_law 1082 = .ok (.iaload, 1) := by decide +kernel
theorem dL_law_1083 : decode cL_law 1083 = .ok (.aload_n 3, 1) := by decide +kernel
theorem dL_law_1084 : decode cL_law 1084 = .ok (.invokestatic 149, 3) := by decide +kernel
theorem dL_law_1087 : decode cL_law 1087 = .ok (.istore 5, 2) := by decide +kernel
theorem dL_law_1089 : decode cL_law 1089 = .ok (.aload_n 2, 1) := by decide +kernel
theorem dL_law_1090 : decode cL_law 1090 = .ok (.aload_n 0, 1) := by decide +kernel
theorem dL_law_1091 : decode cL_law 1091 = .ok (.iload 4, 2) := by decide +kernel
theorem dL_law_1093 : decode cL_law 1093 = .ok (.iconst 1, 1) := by decide +kernel
theorem dL_law_1094 : decode cL_law 1094 = .ok (.iadd, 1) := by decide +kernel
theorem dL_law_1095 : decode cL_law 1095 = .ok (.iaload, 1) := by decide +kernel
theorem dL_law_1096 : decode cL_law 1096 = .ok (.invokevirtual 151, 3) := by decide +kernel
theorem dL_law_1099 : decode cL_law 1099 = .ok (.istore 6, 2) := by decide +kernel
theorem dL_law_1101 : decode cL_law 1101 = .ok (.aload_n 2, 1) := by decide +kernel
theorem dL_law_1102 : decode cL_law 1102 = .ok (.invokevirtual 93, 3) := by decide +kernel
theorem dL_law_1105 : decode cL_law 1105 = .ok (.iload 5, 2) := by decide +kernel
theorem dL_law_1107 : decode cL_law 1107 = .ok (.if_icmp .eq 5, 3) := by decide +kernel
theorem dL_law_1110 : decode cL_law 1110 = .ok (.iconst 0, 1) := by decide +kernel
theorem dL_law_1111 : decode cL_law 1111 = .ok (.ireturn, 1) := by decide +kernel
theorem dL_law_1112 : decode cL_law 1112 = .ok (.iload 5, 2) := by decide +kernel
theorem dL_law_1114 : decode cL_law 1114 = .ok (.ifCond .ne 15, 3) := by decide +kernel
theorem dL_law_1117 : decode cL_law 1117 = .ok (.aload_n 3, 1) := by decide +kernel
theorem dL_law_1118 : decode cL_law 1118 = .ok (.iconst 0, 1) := by decide +kernel
theorem dL_law_1119 : decode cL_law 1119 = .ok (.laload, 1) := by decide +kernel
theorem dL_law_1120 : decode cL_law 1120 = .ok (.iload 6, 2) := by decide +kernel
theorem dL_law_1122 : decode cL_law 1122 = .ok (.i2l, 1) := by decide +kernel
theorem dL_law_1123 : decode cL_law 1123 = .ok (.lcmp, 1) := by decide +kernel
theorem dL_law_1124 : decode cL_law 1124 = .ok (.ifCond .eq 5, 3) := by decide +kernel
theorem dL_law_1127 : decode cL_law 1127 = .ok (.iconst 0, 1) := by decide +kernel
theorem dL_law_1128 : decode cL_law 1128 = .ok (.ireturn, 1) := by decide +kernel
theorem dL_law_1129 : decode cL_law 1129 = .ok (.goto 523, 3) := by decide +kernel
theorem dL_law_1132 : decode cL_law 1132 = .ok (.aload_n 1, 1) := by decide +kernel
theorem dL_law_1133 : decode cL_law 1133 = .ok (.aload_n 0, 1) := by decide +kernel
theorem dL_law_1134 : decode cL_law 1134 = .ok (.iload 4, 2) := by decide +kernel
theorem dL_law_1136 : decode cL_law 1136 = .ok (.iconst 1, 1) := by decide +kernel
theorem dL_law_1137 : decode cL_law 1137 = .ok (.iadd, 1) := by decide +kernel
theorem dL_law_1138 : decode cL_law 1138 = .ok (.iaload, 1) := by decide +kernel
theorem dL_law_1139 : decode cL_law 1139 = .ok (.aload_n 3, 1) := by decide +kernel
theorem dL_law_1140 : decode cL_law 1140 = .ok (.invokestatic 152, 3) := by decide +kernel
theorem dL_law_1143 : decode cL_law 1143 = .ok (.istore 5, 2) := by decide +kernel
theorem dL_law_1145 : decode cL_law 1145 = .ok (.aload_n 2, 1) := by decide +kernel
theorem dL_law_1146 : decode cL_law 1146 = .ok (.aload_n 0, 1) := by decide +kernel
theorem dL_law_1147 : decode cL_law 1147 = .ok (.iload 4, 2) := by decide +kernel
theorem dL_law_1149 : decode cL_law 1149 = .ok (.iconst 1, 1) := by decide +kernel
theorem dL_law_1150 : decode cL_law 1150 = .ok (.iadd, 1) := by decide +kernel
theorem dL_law_1151 : decode cL_law 1151 = .ok (.iaload, 1) := by decide +kernel
theorem dL_law_1152 : decode cL_law 1152 = .ok (.invokevirtual 154, 3) := by decide +kernel
theorem dL_law_1155 : decode cL_law 1155 = .ok (.istore 6, 2) := by decide +kernel
theorem dL_law_1157 : decode cL_law 1157 = .ok (.aload_n 2, 1) := by decide +kernel
theorem dL_law_1158 : decode cL_law 1158 = .ok (.invokevirtual 93, 3) := by decide +kernel
theorem dL_law_1161 : decode cL_law 1161 = .ok (.iload 5, 2) := by decide +kernel
theorem dL_law_1163 : decode cL_law 1163 = .ok (.if_icmp .eq 5, 3) := by decide +kernel
theorem dL_law_1166 : decode cL_law 1166 = .ok (.iconst 0, 1) := by decide +kernel
theorem dL_law_1167 : decode cL_law 1167 = .ok (.ireturn, 1) := by decide +kernel
theorem dL_law_1168 : decode cL_law 1168 = .ok (.iload 5, 2) := by decide +kernel
theorem dL_law_1170 : decode cL_law 1170 = .ok (.ifCond .ne 15, 3) := by decide +kernel
theorem dL_law_1173 : decode cL_law 1173 = .ok (.aload_n 3, 1) := by decide +kernel
theorem dL_law_1174 : decode cL_law 1174 = .ok (.iconst 0, 1) := by decide +kernel
theorem dL_law_1175 : decode cL_law 1175 = .ok (.laload, 1) := by decide +kernel
theorem dL_law_1176 : decode cL_law 1176 = .ok (.iload 6, 2) := by decide +kernel
theorem dL_law_1178 : decode cL_law 1178 = .ok (.i2l, 1) := by decide +kernel
theorem dL_law_1179 : decode cL_law 1179 = .ok (.lcmp, 1) := by decide +kernel
theorem dL_law_1180 : decode cL_law 1180 = .ok (.ifCond .eq 5, 3) := by decide +kernel
theorem dL_law_1183 : decode cL_law 1183 = .ok (.iconst 0, 1) := by decide +kernel
theorem dL_law_1184 : decode cL_law 1184 = .ok (.ireturn, 1) := by decide +kernel
theorem dL_law_1185 : decode cL_law 1185 = .ok (.goto 467, 3) := by decide +kernel
theorem dL_law_1188 : decode cL_law 1188 = .ok (.aload_n 1, 1) := by decide +kernel
theorem dL_law_1189 : decode cL_law 1189 = .ok (.aload_n 0, 1) := by decide +kernel
theorem dL_law_1190 : decode cL_law 1190 = .ok (.iload 4, 2) := by decide +kernel
theorem dL_law_1192 : decode cL_law 1192 = .ok (.iconst 1, 1) := by decide +kernel
theorem dL_law_1193 : decode cL_law 1193 = .ok (.iadd, 1) := by decide +kernel
theorem dL_law_1194 : decode cL_law 1194 = .ok (.iaload, 1) := by decide +kernel
theorem dL_law_1195 : decode cL_law 1195 = .ok (.aload_n 3, 1) := by decide +kernel
theorem dL_law_1196 : decode cL_law 1196 = .ok (.invokestatic 155, 3) := by decide +kernel
theorem dL_law_1199 : decode cL_law 1199 = .ok (.istore 5, 2) := by decide +kernel
theorem dL_law_1201 : decode cL_law 1201 = .ok (.aload_n 2, 1) := by decide +kernel
theorem dL_law_1202 : decode cL_law 1202 = .ok (.aload_n 0, 1) := by decide +kernel
theorem dL_law_1203 : decode cL_law 1203 = .ok (.iload 4, 2) := by decide +kernel
theorem dL_law_1205 : decode cL_law 1205 = .ok (.iconst 1, 1) := by decide +kernel
theorem dL_law_1206 : decode cL_law 1206 = .ok (.iadd, 1) := by decide +kernel
theorem dL_law_1207 : decode cL_law 1207 = .ok (.iaload, 1) := by decide +kernel
theorem dL_law_1208 : decode cL_law 1208 = .ok (.invokevirtual 157, 3) := by decide +kernel
theorem dL_law_1211 : decode cL_law 1211 = .ok (.istore 6, 2) := by decide +kernel
theorem dL_law_1213 : decode cL_law 1213 = .ok (.aload_n 2, 1) := by decide +kernel
theorem dL_law_1214 : decode cL_law 1214 = .ok (.invokevirtual 93, 3) := by decide +kernel
theorem dL_law_1217 : decode cL_law 1217 = .ok (.iload 5, 2) := by decide +kernel
theorem dL_law_1219 : decode cL_law 1219 = .ok (.if_icmp .eq 5, 3) := by decide +kernel
theorem dL_law_1222 : decode cL_law 1222 = .ok (.iconst 0, 1) := by decide +kernel
theorem dL_law_1223 : decode cL_law 1223 = .ok (.ireturn, 1) := by decide +kernel
theorem dL_law_1224 : decode cL_law 1224 = .ok (.iload 5, 2) := by decide +kernel
theorem dL_law_1226 : decode cL_law 1226 = .ok (.ifCond .ne 15, 3) := by decide +kernel
theorem dL_law_1229 : decode cL_law 1229 = .ok (.aload_n 3, 1) := by decide +kernel
theorem dL_law_1230 : decode cL_law 1230 = .ok (.iconst 0, 1) := by decide +kernel
theorem dL_law_1231 : decode cL_law 1231 = .ok (.laload, 1) := by decide +kernel
theorem dL_law_1232 : decode cL_law 1232 = .ok (.iload 6, 2) := by decide +kernel
theorem dL_law_1234 : decode cL_law 1234 = .ok (.i2l, 1) := by decide +kernel
theorem dL_law_1235 : decode cL_law 1235 = .ok (.lcmp, 1) := by decide +kernel
theorem dL_law_1236 : decode cL_law 1236 = .ok (.ifCond .eq 5, 3) := by decide +kernel
theorem dL_law_1239 : decode cL_law 1239 = .ok (.iconst 0, 1) := by decide +kernel
theorem dL_law_1240 : decode cL_law 1240 = .ok (.ireturn, 1) := by decide +kernel
theorem dL_law_1241 : decode cL_law 1241 = .ok (.goto 411, 3) := by decide +kernel
theorem dL_law_1244 : decode cL_law 1244 = .ok (.aload_n 1, 1) := by decide +kernel
theorem dL_law_1245 : decode cL_law 1245 = .ok (.aload_n 0, 1) := by decide +kernel
theorem dL_law_1246 : decode cL_law 1246 = .ok (.iload 4, 2) := by decide +kernel
theorem dL_law_1248 : decode cL_law 1248 = .ok (.iconst 1, 1) := by decide +kernel
theorem dL_law_1249 : decode cL_law 1249 = .ok (.iadd, 1) := by decide +kernel
theorem dL_law_1250 : decode cL_law 1250 = .ok (.iaload, 1) := by decide +kernel
theorem dL_law_1251 : decode cL_law 1251 = .ok (.aload_n 3, 1) := by decide +kernel
theorem dL_law_1252 : decode cL_law 1252 = .ok (.invokestatic 158, 3) := by decide +kernel
theorem dL_law_1255 : decode cL_law 1255 = .ok (.istore 5, 2) := by decide +kernel
theorem dL_law_1257 : decode cL_law 1257 = .ok (.aload_n 2, 1) := by decide +kernel
theorem dL_law_1258 : decode cL_law 1258 = .ok (.aload_n 0, 1) := by decide +kernel
theorem dL_law_1259 : decode cL_law 1259 = .ok (.iload 4, 2) := by decide +kernel
theorem dL_law_1261 : decode cL_law 1261 = .ok (.iconst 1, 1) := by decide +kernel
theorem dL_law_1262 : decode cL_law 1262 = .ok (.iadd, 1) := by decide +kernel
theorem dL_law_1263 : decode cL_law 1263 = .ok (.iaload, 1) := by decide +kernel
theorem dL_law_1264 : decode cL_law 1264 = .ok (.invokevirtual 160, 3) := by decide +kernel
theorem dL_law_1267 : decode cL_law 1267 = .ok (.istore 6, 2) := by decide +kernel
theorem dL_law_1269 : decode cL_law 1269 = .ok (.aload_n 2, 1) := by decide +kernel
theorem dL_law_1270 : decode cL_law 1270 = .ok (.invokevirtual 93, 3) := by decide +kernel
theorem dL_law_1273 : decode cL_law 1273 = .ok (.iload 5, 2) := by decide +kernel
theorem dL_law_1275 : decode cL_law 1275 = .ok (.if_icmp .eq 5, 3) := by decide +kernel
theorem dL_law_1278 : decode cL_law 1278 = .ok (.iconst 0, 1) := by decide +kernel
theorem dL_law_1279 : decode cL_law 1279 = .ok (.ireturn, 1) := by decide +kernel
theorem dL_law_1280 : decode cL_law 1280 = .ok (.iload 5, 2) := by decide +kernel
theorem dL_law_1282 : decode cL_law 1282 = .ok (.ifCond .ne 15, 3) := by decide +kernel
theorem dL_law_1285 : decode cL_law 1285 = .ok (.aload_n 3, 1) := by decide +kernel
theorem dL_law_1286 : decode cL_law 1286 = .ok (.iconst 0, 1) := by decide +kernel
theorem dL_law_1287 : decode cL_law 1287 = .ok (.laload, 1) := by decide +kernel
theorem dL_law_1288 : decode cL_law 1288 = .ok (.iload 6, 2) := by decide +kernel
theorem dL_law_1290 : decode cL_law 1290 = .ok (.i2l, 1) := by decide +kernel
theorem dL_law_1291 : decode cL_law 1291 = .ok (.lcmp, 1) := by decide +kernel
theorem dL_law_1292 : decode cL_law 1292 = .ok (.ifCond .eq 5, 3) := by decide +kernel
theorem dL_law_1295 : decode cL_law 1295 = .ok (.iconst 0, 1) := by decide +kernel
theorem dL_law_1296 : decode cL_law 1296 = .ok (.ireturn, 1) := by decide +kernel
theorem dL_law_1297 : decode cL_law 1297 = .ok (.goto 355, 3) := by decide +kernel
theorem dL_law_1300 : decode cL_law 1300 = .ok (.aload_n 1, 1) := by decide +kernel
theorem dL_law_1301 : decode cL_law 1301 = .ok (.aload_n 0, 1) := by decide +kernel
theorem dL_law_1302 : decode cL_law 1302 = .ok (.iload 4, 2) := by decide +kernel
theorem dL_law_1304 : decode cL_law 1304 = .ok (.iconst 1, 1) := by decide +kernel
theorem dL_law_1305 : decode cL_law 1305 = .ok (.iadd, 1) := by decide +kernel
theorem dL_law_1306 : decode cL_law 1306 = .ok (.iaload, 1) := by decide +kernel
theorem dL_law_1307 : decode cL_law 1307 = .ok (.aload_n 0, 1) := by decide +kernel
theorem dL_law_1308 : decode cL_law 1308 = .ok (.iload 4, 2) := by decide +kernel
theorem dL_law_1310 : decode cL_law 1310 = .ok (.iconst 2, 1) := by decide +kernel
theorem dL_law_1311 : decode cL_law 1311 = .ok (.iadd, 1) := by decide +kernel
theorem dL_law_1312 : decode cL_law 1312 = .ok (.iaload, 1) := by decide +kernel
theorem dL_law_1313 : decode cL_law 1313 = .ok (.aload_n 3, 1) := by decide +kernel
theorem dL_law_1314 : decode cL_law 1314 = .ok (.invokestatic 161, 3) := by decide +kernel
theorem dL_law_1317 : decode cL_law 1317 = .ok (.istore 5, 2) := by decide +kernel
theorem dL_law_1319 : decode cL_law 1319 = .ok (.aload_n 2, 1) := by decide +kernel
theorem dL_law_1320 : decode cL_law 1320 = .ok (.aload_n 0, 1) := by decide +kernel
theorem dL_law_1321 : decode cL_law 1321 = .ok (.iload 4, 2) := by decide +kernel
theorem dL_law_1323 : decode cL_law 1323 = .ok (.iconst 1, 1) := by decide +kernel
theorem dL_law_1324 : decode cL_law 1324 = .ok (.iadd, 1) := by decide +kernel
theorem dL_law_1325 : decode cL_law 1325 = .ok (.iaload, 1) := by decide +kernel
theorem dL_law_1326 : decode cL_law 1326 = .ok (.aload_n 0, 1) := by decide +kernel
theorem dL_law_1327 : decode cL_law 1327 = .ok (.iload 4, 2) := by decide +kernel
theorem dL_law_1329 : decode cL_law 1329 = .ok (.iconst 2, 1) := by decide +kernel
theorem dL_law_1330 : decode cL_law 1330 = .ok (.iadd, 1) := by decide +kernel
theorem dL_law_1331 : decode cL_law 1331 = .ok (.iaload, 1) := by decide +kernel
theorem dL_law_1332 : decode cL_law 1332 = .ok (.invokevirtual 163, 3) := by decide +kernel
theorem dL_law_1335 : decode cL_law 1335 = .ok (.istore 6, 2) := by decide +kernel
theorem dL_law_1337 : decode cL_law 1337 = .ok (.aload_n 2, 1) := by decide +kernel
theorem dL_law_1338 : decode cL_law 1338 = .ok (.invokevirtual 93, 3) := by decide +kernel
theorem dL_law_1341 : decode cL_law 1341 = .ok (.iload 5, 2) := by decide +kernel
theorem dL_law_1343 : decode cL_law 1343 = .ok (.if_icmp .eq 5, 3) := by decide +kernel
theorem dL_law_1346 : decode cL_law 1346 = .ok (.iconst 0, 1) := by decide +kernel
theorem dL_law_1347 : decode cL_law 1347 = .ok (.ireturn, 1) := by decide +kernel
theorem dL_law_1348 : decode cL_law 1348 = .ok (.iload 5, 2) := by decide +kernel
theorem dL_law_1350 : decode cL_law 1350 = .ok (.ifCond .ne 15, 3) := by decide +kernel
theorem dL_law_1353 : decode cL_law 1353 = .ok (.aload_n 3, 1) := by decide +kernel
theorem dL_law_1354 : decode cL_law 1354 = .ok (.iconst 0, 1) := by decide +kernel
theorem dL_law_1355 : decode cL_law 1355 = .ok (.laload, 1) := by decide +kernel
theorem dL_law_1356 : decode cL_law 1356 = .ok (.iload 6, 2) := by decide +kernel
theorem dL_law_1358 : decode cL_law 1358 = .ok (.i2l, 1) := by decide +kernel
theorem dL_law_1359 : decode cL_law 1359 = .ok (.lcmp, 1) := by decide +kernel
theorem dL_law_1360 : decode cL_law 1360 = .ok (.ifCond .eq 5, 3) := by decide +kernel
theorem dL_law_1363 : decode cL_law 1363 = .ok (.iconst 0, 1) := by decide +kernel
theorem dL_law_1364 : decode cL_law 1364 = .ok (.ireturn, 1) := by decide +kernel
theorem dL_law_1365 : decode cL_law 1365 = .ok (.goto 287, 3) := by decide +kernel
theorem dL_law_1368 : decode cL_law 1368 = .ok (.aload_n 1, 1) := by decide +kernel
theorem dL_law_1369 : decode cL_law 1369 = .ok (.aload_n 0, 1) := by decide +kernel
theorem dL_law_1370 : decode cL_law 1370 = .ok (.iload 4, 2) := by decide +kernel
theorem dL_law_1372 : decode cL_law 1372 = .ok (.iconst 1, 1) := by decide +kernel
theorem dL_law_1373 : decode cL_law 1373 = .ok (.iadd, 1) := by decide +kernel
theorem dL_law_1374 : decode cL_law 1374 = .ok (.iaload, 1) := by decide +kernel
theorem dL_law_1375 : decode cL_law 1375 = .ok (.aload_n 0, 1) := by decide +kernel
theorem dL_law_1376 : decode cL_law 1376 = .ok (.iload 4, 2) := by decide +kernel
theorem dL_law_1378 : decode cL_law 1378 = .ok (.iconst 2, 1) := by decide +kernel
theorem dL_law_1379 : decode cL_law 1379 = .ok (.iadd, 1) := by decide +kernel
theorem dL_law_1380 : decode cL_law 1380 = .ok (.iaload, 1) := by decide +kernel
theorem dL_law_1381 : decode cL_law 1381 = .ok (.aload_n 3, 1) := by decide +kernel
theorem dL_law_1382 : decode cL_law 1382 = .ok (.invokestatic 164, 3) := by decide +kernel
theorem dL_law_1385 : decode cL_law 1385 = .ok (.istore 5, 2) := by decide +kernel
theorem dL_law_1387 : decode cL_law 1387 = .ok (.aload_n 2, 1) := by decide +kernel
theorem dL_law_1388 : decode cL_law 1388 = .ok (.aload_n 0, 1) := by decide +kernel
theorem dL_law_1389 : decode cL_law 1389 = .ok (.iload 4, 2) := by decide +kernel
theorem dL_law_1391 : decode cL_law 1391 = .ok (.iconst 1, 1) := by decide +kernel
theorem dL_law_1392 : decode cL_law 1392 = .ok (.iadd, 1) := by decide +kernel
theorem dL_law_1393 : decode cL_law 1393 = .ok (.iaload, 1) := by decide +kernel
theorem dL_law_1394 : decode cL_law 1394 = .ok (.aload_n 0, 1) := by decide +kernel
theorem dL_law_1395 : decode cL_law 1395 = .ok (.iload 4, 2) := by decide +kernel
theorem dL_law_1397 : decode cL_law 1397 = .ok (.iconst 2, 1) := by decide +kernel
theorem dL_law_1398 : decode cL_law 1398 = .ok (.iadd, 1) := by decide +kernel
theorem dL_law_1399 : decode cL_law 1399 = .ok (.iaload, 1) := by decide +kernel
theorem dL_law_1400 : decode cL_law 1400 = .ok (.invokevirtual 166, 3) := by decide +kernel
theorem dL_law_1403 : decode cL_law 1403 = .ok (.istore 6, 2) := by decide +kernel
theorem dL_law_1405 : decode cL_law 1405 = .ok (.aload_n 2, 1) := by decide +kernel
theorem dL_law_1406 : decode cL_law 1406 = .ok (.invokevirtual 93, 3) := by decide +kernel
theorem dL_law_1409 : decode cL_law 1409 = .ok (.iload 5, 2) := by decide +kernel
theorem dL_law_1411 : decode cL_law 1411 = .ok (.if_icmp .eq 5, 3) := by decide +kernel
theorem dL_law_1414 : decode cL_law 1414 = .ok (.iconst 0, 1) := by decide +kernel
theorem dL_law_1415 : decode cL_law 1415 = .ok (.ireturn, 1) := by decide +kernel
theorem dL_law_1416 : decode cL_law 1416 = .ok (.iload 5, 2) := by decide +kernel
theorem dL_law_1418 : decode cL_law 1418 = .ok (.ifCond .ne 15, 3) := by decide +kernel
theorem dL_law_1421 : decode cL_law 1421 = .ok (.aload_n 3, 1) := by decide +kernel
theorem dL_law_1422 : decode cL_law 1422 = .ok (.iconst 0, 1) := by decide +kernel
theorem dL_law_1423 : decode cL_law 1423 = .ok (.laload, 1) := by decide +kernel
theorem dL_law_1424 : decode cL_law 1424 = .ok (.iload 6, 2) := by decide +kernel
theorem dL_law_1426 : decode cL_law 1426 = .ok (.i2l, 1) := by decide +kernel
theorem dL_law_1427 : decode cL_law 1427 = .ok (.lcmp, 1) := by decide +kernel
theorem dL_law_1428 : decode cL_law 1428 = .ok (.ifCond .eq 5, 3) := by decide +kernel
theorem dL_law_1431 : decode cL_law 1431 = .ok (.iconst 0, 1) := by decide +kernel
theorem dL_law_1432 : decode cL_law 1432 = .ok (.ireturn, 1) := by decide +kernel
theorem dL_law_1433 : decode cL_law 1433 = .ok (.goto 219, 3) := by decide +kernel
theorem dL_law_1436 : decode cL_law 1436 = .ok (.aload_n 1, 1) := by decide +kernel
theorem dL_law_1437 : decode cL_law 1437 = .ok (.aload_n 0, 1) := by decide +kernel
theorem dL_law_1438 : decode cL_law 1438 = .ok (.iload 4, 2) := by decide +kernel
theorem dL_law_1440 : decode cL_law 1440 = .ok (.iconst 1, 1) := by decide +kernel
theorem dL_law_1441 : decode cL_law 1441 = .ok (.iadd, 1) := by decide +kernel
theorem dL_law_1442 : decode cL_law 1442 = .ok (.iaload, 1) := by decide +kernel
theorem dL_law_1443 : decode cL_law 1443 = .ok (.aload_n 0, 1) := by decide +kernel
theorem dL_law_1444 : decode cL_law 1444 = .ok (.iload 4, 2) := by decide +kernel
theorem dL_law_1446 : decode cL_law 1446 = .ok (.iconst 2, 1) := by decide +kernel
theorem dL_law_1447 : decode cL_law 1447 = .ok (.iadd, 1) := by decide +kernel
theorem dL_law_1448 : decode cL_law 1448 = .ok (.iaload, 1) := by decide +kernel
theorem dL_law_1449 : decode cL_law 1449 = .ok (.aload_n 3, 1) := by decide +kernel
theorem dL_law_1450 : decode cL_law 1450 = .ok (.invokestatic 167, 3) := by decide +kernel
theorem dL_law_1453 : decode cL_law 1453 = .ok (.istore 5, 2) := by decide +kernel
theorem dL_law_1455 : decode cL_law 1455 = .ok (.aload_n 2, 1) := by decide +kernel
theorem dL_law_1456 : decode cL_law 1456 = .ok (.aload_n 0, 1) := by decide +kernel
theorem dL_law_1457 : decode cL_law 1457 = .ok (.iload 4, 2) := by decide +kernel
theorem dL_law_1459 : decode cL_law 1459 = .ok (.iconst 1, 1) := by decide +kernel
theorem dL_law_1460 : decode cL_law 1460 = .ok (.iadd, 1) := by decide +kernel
theorem dL_law_1461 : decode cL_law 1461 = .ok (.iaload, 1) := by decide +kernel
theorem dL_law_1462 : decode cL_law 1462 = .ok (.aload_n 0, 1) := by decide +kernel
theorem dL_law_1463 : decode cL_law 1463 = .ok (.iload 4, 2) := by decide +kernel
theorem dL_law_1465 : decode cL_law 1465 = .ok (.iconst 2, 1) := by decide +kernel
theorem dL_law_1466 : decode cL_law 1466 = .ok (.iadd, 1) := by decide +kernel
theorem dL_law_1467 : decode cL_law 1467 = .ok (.iaload, 1) := by decide +kernel
theorem dL_law_1468 : decode cL_law 1468 = .ok (.invokevirtual 169, 3) := by decide +kernel
theorem dL_law_1471 : decode cL_law 1471 = .ok (.istore 6, 2) := by decide +kernel
theorem dL_law_1473 : decode cL_law 1473 = .ok (.aload_n 2, 1) := by decide +kernel
theorem dL_law_1474 : decode cL_law 1474 = .ok (.invokevirtual 93, 3) := by decide +kernel
theorem dL_law_1477 : decode cL_law 1477 = .ok (.iload 5, 2) := by decide +kernel
theorem dL_law_1479 : decode cL_law 1479 = .ok (.if_icmp .eq 5, 3) := by decide +kernel
theorem dL_law_1482 : decode cL_law 1482 = .ok (.iconst 0, 1) := by decide +kernel
theorem dL_law_1483 : decode cL_law 1483 = .ok (.ireturn, 1) := by decide +kernel
theorem dL_law_1484 : decode cL_law 1484 = .ok (.iload 5, 2) := by decide +kernel
theorem dL_law_1486 : decode cL_law 1486 = .ok (.ifCond .ne 15, 3) := by decide +kernel
theorem dL_law_1489 : decode cL_law 1489 = .ok (.aload_n 3, 1) := by decide +kernel
theorem dL_law_1490 : decode cL_law 1490 = .ok (.iconst 0, 1) := by decide +kernel
theorem dL_law_1491 : decode cL_law 1491 = .ok (.laload, 1) := by decide +kernel
theorem dL_law_1492 : decode cL_law 1492 = .ok (.iload 6, 2) := by decide +kernel
theorem dL_law_1494 : decode cL_law 1494 = .ok (.i2l, 1) := by decide +kernel
theorem dL_law_1495 : decode cL_law 1495 = .ok (.lcmp, 1) := by decide +kernel
theorem dL_law_1496 : decode cL_law 1496 = .ok (.ifCond .eq 5, 3) := by decide +kernel
theorem dL_law_1499 : decode cL_law 1499 = .ok (.iconst 0, 1) := by decide +kernel
theorem dL_law_1500 : decode cL_law 1500 = .ok (.ireturn, 1) := by decide +kernel
theorem dL_law_1501 : decode cL_law 1501 = .ok (.goto 151, 3) := by decide +kernel
theorem dL_law_1504 : decode cL_law 1504 = .ok (.aload_n 1, 1) := by decide +kernel
theorem dL_law_1505 : decode cL_law 1505 = .ok (.aload_n 0, 1) := by decide +kernel
theorem dL_law_1506 : decode cL_law 1506 = .ok (.iload 4, 2) := by decide +kernel
theorem dL_law_1508 : decode cL_law 1508 = .ok (.iconst 1, 1) := by decide +kernel
theorem dL_law_1509 : decode cL_law 1509 = .ok (.iadd, 1) := by decide +kernel
theorem dL_law_1510 : decode cL_law 1510 = .ok (.iaload, 1) := by decide +kernel
theorem dL_law_1511 : decode cL_law 1511 = .ok (.aload_n 0, 1) := by decide +kernel
theorem dL_law_1512 : decode cL_law 1512 = .ok (.iload 4, 2) := by decide +kernel
theorem dL_law_1514 : decode cL_law 1514 = .ok (.iconst 2, 1) := by decide +kernel
theorem dL_law_1515 : decode cL_law 1515 = .ok (.iadd, 1) := by decide +kernel
theorem dL_law_1516 : decode cL_law 1516 = .ok (.iaload, 1) := by decide +kernel
theorem dL_law_1517 : decode cL_law 1517 = .ok (.aload_n 0, 1) := by decide +kernel
theorem dL_law_1518 : decode cL_law 1518 = .ok (.iload 4, 2) := by decide +kernel
theorem dL_law_1520 : decode cL_law 1520 = .ok (.iconst 3, 1) := by decide +kernel
theorem dL_law_1521 : decode cL_law 1521 = .ok (.iadd, 1) := by decide +kernel
theorem dL_law_1522 : decode cL_law 1522 = .ok (.iaload, 1) := by decide +kernel
theorem dL_law_1523 : decode cL_law 1523 = .ok (.aload_n 3, 1) := by decide +kernel
theorem dL_law_1524 : decode cL_law 1524 = .ok (.invokestatic 170, 3) := by decide +kernel
theorem dL_law_1527 : decode cL_law 1527 = .ok (.istore 5, 2) := by decide +kernel
theorem dL_law_1529 : decode cL_law 1529 = .ok (.aload_n 2, 1) := by decide +kernel
theorem dL_law_1530 : decode cL_law 1530 = .ok (.aload_n 0, 1) := by decide +kernel
theorem dL_law_1531 : decode cL_law 1531 = .ok (.iload 4, 2) := by decide +kernel
theorem dL_law_1533 : decode cL_law 1533 = .ok (.iconst 1, 1) := by decide +kernel
theorem dL_law_1534 : decode cL_law 1534 = .ok (.iadd, 1) := by decide +kernel
theorem dL_law_1535 : decode cL_law 1535 = .ok (.iaload, 1) := by decide +kernel
theorem dL_law_1536 : decode cL_law 1536 = .ok (.aload_n 0, 1) := by decide +kernel
theorem dL_law_1537 : decode cL_law 1537 = .ok (.iload 4, 2) := by decide +kernel
theorem dL_law_1539 : decode cL_law 1539 = .ok (.iconst 2, 1) := by decide +kernel
theorem dL_law_1540 : decode cL_law 1540 = .ok (.iadd, 1) := by decide +kernel
theorem dL_law_1541 : decode cL_law 1541 = .ok (.iaload, 1) := by decide +kernel
theorem dL_law_1542 : decode cL_law 1542 = .ok (.aload_n 0, 1) := by decide +kernel
theorem dL_law_1543 : decode cL_law 1543 = .ok (.iload 4, 2) := by decide +kernel
theorem dL_law_1545 : decode cL_law 1545 = .ok (.iconst 3, 1) := by decide +kernel
theorem dL_law_1546 : decode cL_law 1546 = .ok (.iadd, 1) := by decide +kernel
theorem dL_law_1547 : decode cL_law 1547 = .ok (.iaload, 1) := by decide +kernel
theorem dL_law_1548 : decode cL_law 1548 = .ok (.invokevirtual 173, 3) := by decide +kernel
theorem dL_law_1551 : decode cL_law 1551 = .ok (.istore 6, 2) := by decide +kernel
theorem dL_law_1553 : decode cL_law 1553 = .ok (.aload_n 2, 1) := by decide +kernel
theorem dL_law_1554 : decode cL_law 1554 = .ok (.invokevirtual 93, 3) := by decide +kernel
theorem dL_law_1557 : decode cL_law 1557 = .ok (.iload 5, 2) := by decide +kernel
theorem dL_law_1559 : decode cL_law 1559 = .ok (.if_icmp .eq 5, 3) := by decide +kernel
theorem dL_law_1562 : decode cL_law 1562 = .ok (.iconst 0, 1) := by decide +kernel
theorem dL_law_1563 : decode cL_law 1563 = .ok (.ireturn, 1) := by decide +kernel
theorem dL_law_1564 : decode cL_law 1564 = .ok (.iload 5, 2) := by decide +kernel
theorem dL_law_1566 : decode cL_law 1566 = .ok (.ifCond .ne 15, 3) := by decide +kernel
theorem dL_law_1569 : decode cL_law 1569 = .ok (.aload_n 3, 1) := by decide +kernel
theorem dL_law_1570 : decode cL_law 1570 = .ok (.iconst 0, 1) := by decide +kernel
theorem dL_law_1571 : decode cL_law 1571 = .ok (.laload, 1) := by decide +kernel
theorem dL_law_1572 : decode cL_law 1572 = .ok (.iload 6, 2) := by decide +kernel
theorem dL_law_1574 : decode cL_law 1574 = .ok (.i2l, 1) := by decide +kernel
theorem dL_law_1575 : decode cL_law 1575 = .ok (.lcmp, 1) := by decide +kernel
theorem dL_law_1576 : decode cL_law 1576 = .ok (.ifCond .eq 5, 3) := by decide +kernel
theorem dL_law_1579 : decode cL_law 1579 = .ok (.iconst 0, 1) := by decide +kernel
theorem dL_law_1580 : decode cL_law 1580 = .ok (.ireturn, 1) := by decide +kernel
theorem dL_law_1581 : decode cL_law 1581 = .ok (.goto 71, 3) := by decide +kernel
theorem dL_law_1584 : decode cL_law 1584 = .ok (.aload_n 1, 1) := by decide +kernel
theorem dL_law_1585 : decode cL_law 1585 = .ok (.aload_n 0, 1) := by decide +kernel
theorem dL_law_1586 : decode cL_law 1586 = .ok (.iload 4, 2) := by decide +kernel
theorem dL_law_1588 : decode cL_law 1588 = .ok (.iconst 1, 1) := by decide +kernel
theorem dL_law_1589 : decode cL_law 1589 = .ok (.iadd, 1) := by decide +kernel
theorem dL_law_1590 : decode cL_law 1590 = .ok (.iaload, 1) := by decide +kernel
theorem dL_law_1591 : decode cL_law 1591 = .ok (.aload_n 0, 1) := by decide +kernel
theorem dL_law_1592 : decode cL_law 1592 = .ok (.iload 4, 2) := by decide +kernel
theorem dL_law_1594 : decode cL_law 1594 = .ok (.iconst 2, 1) := by decide +kernel
theorem dL_law_1595 : decode cL_law 1595 = .ok (.iadd, 1) := by decide +kernel
theorem dL_law_1596 : decode cL_law 1596 = .ok (.iaload, 1) := by decide +kernel
theorem dL_law_1597 : decode cL_law 1597 = .ok (.aload_n 3, 1) := by decide +kernel
theorem dL_law_1598 : decode cL_law 1598 = .ok (.invokestatic 174, 3) := by decide +kernel
theorem dL_law_1601 : decode cL_law 1601 = .ok (.istore 5, 2) := by decide +kernel
theorem dL_law_1603 : decode cL_law 1603 = .ok (.aload_n 2, 1) := by decide +kernel
theorem dL_law_1604 : decode cL_law 1604 = .ok (.aload_n 0, 1) := by decide +kernel
theorem dL_law_1605 : decode cL_law 1605 = .ok (.iload 4, 2) := by decide +kernel
theorem dL_law_1607 : decode cL_law 1607 = .ok (.iconst 1, 1) := by decide +kernel
theorem dL_law_1608 : decode cL_law 1608 = .ok (.iadd, 1) := by decide +kernel
theorem dL_law_1609 : decode cL_law 1609 = .ok (.iaload, 1) := by decide +kernel
theorem dL_law_1610 : decode cL_law 1610 = .ok (.aload_n 0, 1) := by decide +kernel
theorem dL_law_1611 : decode cL_law 1611 = .ok (.iload 4, 2) := by decide +kernel
theorem dL_law_1613 : decode cL_law 1613 = .ok (.iconst 2, 1) := by decide +kernel
theorem dL_law_1614 : decode cL_law 1614 = .ok (.iadd, 1) := by decide +kernel
theorem dL_law_1615 : decode cL_law 1615 = .ok (.iaload, 1) := by decide +kernel
theorem dL_law_1616 : decode cL_law 1616 = .ok (.invokevirtual 176, 3) := by decide +kernel
theorem dL_law_1619 : decode cL_law 1619 = .ok (.istore 6, 2) := by decide +kernel
theorem dL_law_1621 : decode cL_law 1621 = .ok (.aload_n 2, 1) := by decide +kernel
theorem dL_law_1622 : decode cL_law 1622 = .ok (.invokevirtual 93, 3) := by decide +kernel
theorem dL_law_1625 : decode cL_law 1625 = .ok (.iload 5, 2) := by decide +kernel
theorem dL_law_1627 : decode cL_law 1627 = .ok (.if_icmp .eq 5, 3) := by decide +kernel
theorem dL_law_1630 : decode cL_law 1630 = .ok (.iconst 0, 1) := by decide +kernel
theorem dL_law_1631 : decode cL_law 1631 = .ok (.ireturn, 1) := by decide +kernel
theorem dL_law_1632 : decode cL_law 1632 = .ok (.iload 5, 2) := by decide +kernel
theorem dL_law_1634 : decode cL_law 1634 = .ok (.ifCond .ne 15, 3) := by decide +kernel
theorem dL_law_1637 : decode cL_law 1637 = .ok (.aload_n 3, 1) := by decide +kernel
theorem dL_law_1638 : decode cL_law 1638 = .ok (.iconst 0, 1) := by decide +kernel
theorem dL_law_1639 : decode cL_law 1639 = .ok (.laload, 1) := by decide +kernel
theorem dL_law_1640 : decode cL_law 1640 = .ok (.iload 6, 2) := by decide +kernel
theorem dL_law_1642 : decode cL_law 1642 = .ok (.i2l, 1) := by decide +kernel
theorem dL_law_1643 : decode cL_law 1643 = .ok (.lcmp, 1) := by decide +kernel
theorem dL_law_1644 : decode cL_law 1644 = .ok (.ifCond .eq 5, 3) := by decide +kernel
theorem dL_law_1647 : decode cL_law 1647 = .ok (.iconst 0, 1) := by decide +kernel
theorem dL_law_1648 : decode cL_law 1648 = .ok (.ireturn, 1) := by decide +kernel
theorem dL_law_1649 : decode cL_law 1649 = .ok (.goto 3, 3) := by decide +kernel
theorem dL_law_1652 : decode cL_law 1652 = .ok (.iinc 4 6, 3) := by decide +kernel
theorem dL_law_1655 : decode cL_law 1655 = .ok (.goto (-1632), 3) := by decide +kernel
theorem dL_law_1658 : decode cL_law 1658 = .ok (.iconst 1, 1) := by decide +kernel
theorem dL_law_1659 : decode cL_law 1659 = .ok (.ireturn, 1) := by decide +kernel
end
section
theorem dJ9_max_7cf53_0 : decode cJ9_max_7cf53 0 = .ok (.iload_n 0, 1) := by decide +kernel
theorem dJ9_max_7cf53_1 : decode cJ9_max_7cf53 1 = .ok (.iload_n 1, 1) := by decide +kernel
theorem dJ9_max_7cf53_2 : decode cJ9_max_7cf53 2 = .ok (.if_icmp .lt 7, 3) := by decide +kernel
theorem dJ9_max_7cf53_5 : decode cJ9_max_7cf53 5 = .ok (.iload_n 0, 1) := by decide +kernel
theorem dJ9_max_7cf53_6 : decode cJ9_max_7cf53 6 = .ok (.goto 4, 3) := by decide +kernel
theorem dJ9_max_7cf53_9 : decode cJ9_max_7cf53 9 = .ok (.iload_n 1, 1) := by decide +kernel
theorem dJ9_max_7cf53_10 : decode cJ9_max_7cf53 10 = .ok (.ireturn, 1) := by decide +kernel
theorem dJ9_min_7cf53_0 : decode cJ9_min_7cf53 0 = .ok (.iload_n 0, 1) := by decide +kernel
theorem dJ9_min_7cf53_1 : decode cJ9_min_7cf53 1 = .ok (.iload_n 1, 1) := by decide +kernel
theorem dJ9_min_7cf53_2 : decode cJ9_min_7cf53 2 = .ok (.if_icmp .gt 7, 3) := by decide +kernel
theorem dJ9_min_7cf53_5 : decode cJ9_min_7cf53 5 = .ok (.iload_n 0, 1) := by decide +kernel
theorem dJ9_min_7cf53_6 : decode cJ9_min_7cf53 6 = .ok (.goto 4, 3) := by decide +kernel
theorem dJ9_min_7cf53_9 : decode cJ9_min_7cf53 9 = .ok (.iload_n 1, 1) := by decide +kernel
theorem dJ9_min_7cf53_10 : decode cJ9_min_7cf53 10 = .ok (.ireturn, 1) := by decide +kernel
theorem dJxa1e45_init_da8c8_0 : decode cJxa1e45_init_da8c8 0 = .ok (.aload_n 0, 1) := by decide +kernel
theorem dJxa1e45_init_da8c8_1 : decode cJxa1e45_init_da8c8 1 = .ok (.invokespecial 1, 3) := by decide +kernel
theorem dJxa1e45_init_da8c8_4 : decode cJxa1e45_init_da8c8 4 = .ok (.return_, 1) := by decide +kernel
theorem dJxc12de_init_da8c8_0 : decode cJxc12de_init_da8c8 0 = .ok (.aload_n 0, 1) := by decide +kernel
theorem dJxc12de_init_da8c8_1 : decode cJxc12de_init_da8c8 1 = .ok (.invokespecial 1, 3) := by decide +kernel
theorem dJxc12de_init_da8c8_4 : decode cJxc12de_init_da8c8 4 = .ok (.aload_n 0, 1) := by decide +kernel
theorem dJxc12de_init_da8c8_5 : decode cJxc12de_init_da8c8 5 = .ok (.iconst 0, 1) := by decide +kernel
theorem dJxc12de_init_da8c8_6 : decode cJxc12de_init_da8c8 6 = .ok (.putfield 7, 3) := by decide +kernel
theorem dJxc12de_init_da8c8_9 : decode cJxc12de_init_da8c8 9 = .ok (.return_, 1) := by decide +kernel
theorem dJx4a65c_init_da8c8_0 : decode cJx4a65c_init_da8c8 0 = .ok (.aload_n 0, 1) := by decide +kernel
theorem dJx4a65c_init_da8c8_1 : decode cJx4a65c_init_da8c8 1 = .ok (.invokespecial 1, 3) := by decide +kernel
theorem dJx4a65c_init_da8c8_4 : decode cJx4a65c_init_da8c8 4 = .ok (.aload_n 0, 1) := by decide +kernel
theorem dJx4a65c_init_da8c8_5 : decode cJx4a65c_init_da8c8 5 = .ok (.getstatic 39, 3) := by decide +kernel
theorem dJx4a65c_init_da8c8_8 : decode cJx4a65c_init_da8c8 8 = .ok (.putfield 9, 3) := by decide +kernel
theorem dJx4a65c_init_da8c8_11 : decode cJx4a65c_init_da8c8 11 = .ok (.return_, 1) := by decide +kernel
theorem dJx4a65c_grow_92f84_0 : decode cJx4a65c_grow_92f84 0 = .ok (.aload_n 0, 1) := by decide +kernel
theorem dJx4a65c_grow_92f84_1 : decode cJx4a65c_grow_92f84 1 = .ok (.getfield 9, 3) := by decide +kernel
theorem dJx4a65c_grow_92f84_4 : decode cJx4a65c_grow_92f84 4 = .ok (.arraylength, 1) := by decide +kernel
theorem dJx4a65c_grow_92f84_5 : decode cJx4a65c_grow_92f84 5 = .ok (.istore_n 2, 1) := by decide +kernel
theorem dJx4a65c_grow_92f84_6 : decode cJx4a65c_grow_92f84 6 = .ok (.iload_n 2, 1) := by decide +kernel
theorem dJx4a65c_grow_92f84_7 : decode cJx4a65c_grow_92f84 7 = .ok (.ifCond .gt 13, 3) := by decide +kernel
theorem dJx4a65c_grow_92f84_10 : decode cJx4a65c_grow_92f84 10 = .ok (.aload_n 0, 1) := by decide +kernel
theorem dJx4a65c_grow_92f84_11 : decode cJx4a65c_grow_92f84 11 = .ok (.getfield 9, 3) := by decide +kernel
theorem dJx4a65c_grow_92f84_14 : decode cJx4a65c_grow_92f84 14 = .ok (.getstatic 39, 3) := by decide +kernel
theorem dJx4a65c_grow_92f84_17 : decode cJx4a65c_grow_92f84 17 = .ok (.if_acmp .eq 28, 3) := by decide +kernel
theorem dJx4a65c_grow_92f84_20 : decode cJx4a65c_grow_92f84 20 = .ok (.iload_n 2, 1) := by decide +kernel
theorem dJx4a65c_grow_92f84_21 : decode cJx4a65c_grow_92f84 21 = .ok (.iload_n 1, 1) := by decide +kernel
theorem dJx4a65c_grow_92f84_22 : decode cJx4a65c_grow_92f84 22 = .ok (.iload_n 2, 1) := by decide +kernel
theorem dJx4a65c_grow_92f84_23 : decode cJx4a65c_grow_92f84 23 = .ok (.isub, 1) := by decide +kernel
theorem dJx4a65c_grow_92f84_24 : decode cJx4a65c_grow_92f84 24 = .ok (.iload_n 2, 1) := by decide +kernel
theorem dJx4a65c_grow_92f84_25 : decode cJx4a65c_grow_92f84 25 = .ok (.iconst 1, 1) := by decide +kernel
theorem dJx4a65c_grow_92f84_26 : decode cJx4a65c_grow_92f84 26 = .ok (.ishr, 1) := by decide +kernel
theorem dJx4a65c_grow_92f84_27 : decode cJx4a65c_grow_92f84 27 = .ok (.invokestatic 73, 3) := by decide +kernel
theorem dJx4a65c_grow_92f84_30 : decode cJx4a65c_grow_92f84 30 = .ok (.istore_n 3, 1) := by decide +kernel
theorem dJx4a65c_grow_92f84_31 : decode cJx4a65c_grow_92f84 31 = .ok (.aload_n 0, 1) := by decide +kernel
theorem dJx4a65c_grow_92f84_32 : decode cJx4a65c_grow_92f84 32 = .ok (.aload_n 0, 1) := by decide +kernel
theorem dJx4a65c_grow_92f84_33 : decode cJx4a65c_grow_92f84 33 = .ok (.getfield 9, 3) := by decide +kernel
theorem dJx4a65c_grow_92f84_36 : decode cJx4a65c_grow_92f84 36 = .ok (.iload_n 3, 1) := by decide +kernel
theorem dJx4a65c_grow_92f84_37 : decode cJx4a65c_grow_92f84 37 = .ok (.invokestatic 66, 3) := by decide +kernel
theorem dJx4a65c_grow_92f84_40 : decode cJx4a65c_grow_92f84 40 = .ok (.dup_x1, 1) := by decide +kernel
theorem dJx4a65c_grow_92f84_41 : decode cJx4a65c_grow_92f84 41 = .ok (.putfield 9, 3) := by decide +kernel
theorem dJx4a65c_grow_92f84_44 : decode cJx4a65c_grow_92f84 44 = .ok (.areturn, 1) := by decide +kernel
theorem dJx4a65c_grow_92f84_45 : decode cJx4a65c_grow_92f84 45 = .ok (.aload_n 0, 1) := by decide +kernel
theorem dJx4a65c_grow_92f84_46 : decode cJx4a65c_grow_92f84 46 = .ok (.bipush 10, 2) := by decide +kernel
theorem dJx4a65c_grow_92f84_48 : decode cJx4a65c_grow_92f84 48 = .ok (.iload_n 1, 1) := by decide +kernel
theorem dJx4a65c_grow_92f84_49 : decode cJx4a65c_grow_92f84 49 = .ok (.invokestatic 79, 3) := by decide +kernel
theorem dJx4a65c_grow_92f84_52 : decode cJx4a65c_grow_92f84 52 = .ok (.anewarray 7, 3) := by decide +kernel
theorem dJx4a65c_grow_92f84_55 : decode cJx4a65c_grow_92f84 55 = .ok (.dup_x1, 1) := by decide +kernel
theorem dJx4a65c_grow_92f84_56 : decode cJx4a65c_grow_92f84 56 = .ok (.putfield 9, 3) := by decide +kernel
theorem dJx4a65c_grow_92f84_59 : decode cJx4a65c_grow_92f84 59 = .ok (.areturn, 1) := by decide +kernel
theorem dJx4a65c_grow_d5877_0 : decode cJx4a65c_grow_d5877 0 = .ok (.aload_n 0, 1) := by decide +kernel
theorem dJx4a65c_grow_d5877_1 : decode cJx4a65c_grow_d5877 1 = .ok (.aload_n 0, 1) := by decide +kernel
theorem dJx4a65c_grow_d5877_2 : decode cJx4a65c_grow_d5877 2 = .ok (.getfield 48, 3) := by decide +kernel
theorem dJx4a65c_grow_d5877_5 : decode cJx4a65c_grow_d5877 5 = .ok (.iconst 1, 1) := by decide +kernel
theorem dJx4a65c_grow_d5877_6 : decode cJx4a65c_grow_d5877 6 = .ok (.iadd, 1) := by decide +kernel
theorem dJx4a65c_grow_d5877_7 : decode cJx4a65c_grow_d5877 7 = .ok (.invokevirtual 69, 3) := by decide +kernel
theorem dJx4a65c_grow_d5877_10 : decode cJx4a65c_grow_d5877 10 = .ok (.areturn, 1) := by decide +kernel
theorem dJx4a65c_size_8abf5_0 : decode cJx4a65c_size_8abf5 0 = .ok (.aload_n 0, 1) := by decide +kernel
theorem dJx4a65c_size_8abf5_1 : decode cJx4a65c_size_8abf5 1 = .ok (.getfield 48, 3) := by decide +kernel
theorem dJx4a65c_size_8abf5_4 : decode cJx4a65c_size_8abf5 4 = .ok (.ireturn, 1) := by decide +kernel
theorem dJx4a65c_elementData_915e3_0 : decode cJx4a65c_elementData_915e3 0 = .ok (.aload_n 0, 1) := by decide +kernel
theorem dJx4a65c_elementData_915e3_1 : decode cJx4a65c_elementData_915e3 1 = .ok (.getfield 9, 3) := by decide +kernel
theorem dJx4a65c_elementData_915e3_4 : decode cJx4a65c_elementData_915e3 4 = .ok (.iload_n 1, 1) := by decide +kernel
theorem dJx4a65c_elementData_915e3_5 : decode cJx4a65c_elementData_915e3 5 = .ok (.aaload, 1) := by decide +kernel
theorem dJx4a65c_elementData_915e3_6 : decode cJx4a65c_elementData_915e3 6 = .ok (.areturn, 1) := by decide +kernel
theorem dJx4a65c_get_915e3_0 : decode cJx4a65c_get_915e3 0 = .ok (.iload_n 1, 1) := by decide +kernel
theorem dJx4a65c_get_915e3_1 : decode cJx4a65c_get_915e3 1 = .ok (.aload_n 0, 1) := by decide +kernel
theorem dJx4a65c_get_915e3_2 : decode cJx4a65c_get_915e3 2 = .ok (.getfield 48, 3) := by decide +kernel
theorem dJx4a65c_get_915e3_5 : decode cJx4a65c_get_915e3 5 = .ok (.invokestatic 118, 3) := by decide +kernel
theorem dJx4a65c_get_915e3_8 : decode cJx4a65c_get_915e3 8 = .ok (.pop, 1) := by decide +kernel
theorem dJx4a65c_get_915e3_9 : decode cJx4a65c_get_915e3 9 = .ok (.aload_n 0, 1) := by decide +kernel
theorem dJx4a65c_get_915e3_10 : decode cJx4a65c_get_915e3 10 = .ok (.iload_n 1, 1) := by decide +kernel
theorem dJx4a65c_get_915e3_11 : decode cJx4a65c_get_915e3 11 = .ok (.invokevirtual 123, 3) := by decide +kernel
theorem dJx4a65c_get_915e3_14 : decode cJx4a65c_get_915e3 14 = .ok (.areturn, 1) := by decide +kernel
theorem dJx4a65c_add_72be8_0 : decode cJx4a65c_add_72be8 0 = .ok (.iload_n 3, 1) := by decide +kernel
theorem dJx4a65c_add_72be8_1 : decode cJx4a65c_add_72be8 1 = .ok (.aload_n 2, 1) := by decide +kernel
theorem dJx4a65c_add_72be8_2 : decode cJx4a65c_add_72be8 2 = .ok (.arraylength, 1) := by decide +kernel
theorem dJx4a65c_add_72be8_3 : decode cJx4a65c_add_72be8 3 = .ok (.if_icmp .ne 8, 3) := by decide +kernel
theorem dJx4a65c_add_72be8_6 : decode cJx4a65c_add_72be8 6 = .ok (.aload_n 0, 1) := by decide +kernel
theorem dJx4a65c_add_72be8_7 : decode cJx4a65c_add_72be8 7 = .ok (.invokevirtual 129, 3) := by decide +kernel
theorem dJx4a65c_add_72be8_10 : decode cJx4a65c_add_72be8 10 = .ok (.astore_n 2, 1) := by decide +kernel
theorem dJx4a65c_add_72be8_11 : decode cJx4a65c_add_72be8 11 = .ok (.aload_n 2, 1) := by decide +kernel
theorem dJx4a65c_add_72be8_12 : decode cJx4a65c_add_72be8 12 = .ok (.iload_n 3, 1) := by decide +kernel
theorem dJx4a65c_add_72be8_13 : decode cJx4a65c_add_72be8 13 = .ok (.aload_n 1, 1) := by decide +kernel
theorem dJx4a65c_add_72be8_14 : decode cJx4a65c_add_72be8 14 = .ok (.aastore, 1) := by decide +kernel
theorem dJx4a65c_add_72be8_15 : decode cJx4a65c_add_72be8 15 = .ok (.aload_n 0, 1) := by decide +kernel
theorem dJx4a65c_add_72be8_16 : decode cJx4a65c_add_72be8 16 = .ok (.iload_n 3, 1) := by decide +kernel
theorem dJx4a65c_add_72be8_17 : decode cJx4a65c_add_72be8 17 = .ok (.iconst 1, 1) := by decide +kernel
theorem dJx4a65c_add_72be8_18 : decode cJx4a65c_add_72be8 18 = .ok (.iadd, 1) := by decide +kernel
theorem dJx4a65c_add_72be8_19 : decode cJx4a65c_add_72be8 19 = .ok (.putfield 48, 3) := by decide +kernel
theorem dJx4a65c_add_72be8_22 : decode cJx4a65c_add_72be8 22 = .ok (.return_, 1) := by decide +kernel
theorem dJx4a65c_add_9ea2d_0 : decode cJx4a65c_add_9ea2d 0 = .ok (.aload_n 0, 1) := by decide +kernel
theorem dJx4a65c_add_9ea2d_1 : decode cJx4a65c_add_9ea2d 1 = .ok (.dup, 1) := by decide +kernel
theorem dJx4a65c_add_9ea2d_2 : decode cJx4a65c_add_9ea2d 2 = .ok (.getfield 63, 3) := by decide +kernel
theorem dJx4a65c_add_9ea2d_5 : decode cJx4a65c_add_9ea2d 5 = .ok (.iconst 1, 1) := by decide +kernel
theorem dJx4a65c_add_9ea2d_6 : decode cJx4a65c_add_9ea2d 6 = .ok (.iadd, 1) := by decide +kernel
theorem dJx4a65c_add_9ea2d_7 : decode cJx4a65c_add_9ea2d 7 = .ok (.putfield 63, 3) := by decide +kernel
theorem dJx4a65c_add_9ea2d_10 : decode cJx4a65c_add_9ea2d 10 = .ok (.aload_n 0, 1) := by decide +kernel
theorem dJx4a65c_add_9ea2d_11 : decode cJx4a65c_add_9ea2d 11 = .ok (.aload_n 1, 1) := by decide +kernel
theorem dJx4a65c_add_9ea2d_12 : decode cJx4a65c_add_9ea2d 12 = .ok (.aload_n 0, 1) := by decide +kernel
theorem dJx4a65c_add_9ea2d_13 : decode cJx4a65c_add_9ea2d 13 = .ok (.getfield 9, 3) := by decide +kernel
theorem dJx4a65c_add_9ea2d_16 : decode cJx4a65c_add_9ea2d 16 = .ok (.aload_n 0, 1) := by decide +kernel
theorem dJx4a65c_add_9ea2d_17 : decode cJx4a65c_add_9ea2d 17 = .ok (.getfield 48, 3) := by decide +kernel
theorem dJx4a65c_add_9ea2d_20 : decode cJx4a65c_add_9ea2d 20 = .ok (.invokevirtual 131, 3) := by decide +kernel
theorem dJx4a65c_add_9ea2d_23 : decode cJx4a65c_add_9ea2d 23 = .ok (.iconst 1, 1) := by decide +kernel
theorem dJx4a65c_add_9ea2d_24 : decode cJx4a65c_add_9ea2d 24 = .ok (.ireturn, 1) := by decide +kernel
theorem dJ7_fill_53178_0 : decode cJ7_fill_53178 0 = .ok (.iconst 0, 1) := by decide +kernel
theorem dJ7_fill_53178_1 : decode cJ7_fill_53178 1 = .ok (.istore_n 2, 1) := by decide +kernel
theorem dJ7_fill_53178_2 : decode cJ7_fill_53178 2 = .ok (.aload_n 0, 1) := by decide +kernel
theorem dJ7_fill_53178_3 : decode cJ7_fill_53178 3 = .ok (.arraylength, 1) := by decide +kernel
theorem dJ7_fill_53178_4 : decode cJ7_fill_53178 4 = .ok (.istore_n 3, 1) := by decide +kernel
theorem dJ7_fill_53178_5 : decode cJ7_fill_53178 5 = .ok (.iload_n 2, 1) := by decide +kernel
theorem dJ7_fill_53178_6 : decode cJ7_fill_53178 6 = .ok (.iload_n 3, 1) := by decide +kernel
theorem dJ7_fill_53178_7 : decode cJ7_fill_53178 7 = .ok (.if_icmp .ge 13, 3) := by decide +kernel
theorem dJ7_fill_53178_10 : decode cJ7_fill_53178 10 = .ok (.aload_n 0, 1) := by decide +kernel
theorem dJ7_fill_53178_11 : decode cJ7_fill_53178 11 = .ok (.iload_n 2, 1) := by decide +kernel
theorem dJ7_fill_53178_12 : decode cJ7_fill_53178 12 = .ok (.iload_n 1, 1) := by decide +kernel
theorem dJ7_fill_53178_13 : decode cJ7_fill_53178 13 = .ok (.iastore, 1) := by decide +kernel
theorem dJ7_fill_53178_14 : decode cJ7_fill_53178 14 = .ok (.iinc 2 1, 3) := by decide +kernel
theorem dJ7_fill_53178_17 : decode cJ7_fill_53178 17 = .ok (.goto (-12), 3) := by decide +kernel
theorem dJ7_fill_53178_20 : decode cJ7_fill_53178 20 = .ok (.return_, 1) := by decide +kernel
theorem dJ7_copyOf_1904c_0 : decode cJ7_copyOf_1904c 0 = .ok (.aload_n 0, 1) := by decide +kernel
theorem dJ7_copyOf_1904c_1 : decode cJ7_copyOf_1904c 1 = .ok (.iload_n 1, 1) := by decide +kernel
theorem dJ7_copyOf_1904c_2 : decode cJ7_copyOf_1904c 2 = .ok (.aload_n 0, 1) := by decide +kernel
theorem dJ7_copyOf_1904c_3 : decode cJ7_copyOf_1904c 3 = .ok (.invokevirtual 86, 3) := by decide +kernel
theorem dJ7_copyOf_1904c_6 : decode cJ7_copyOf_1904c 6 = .ok (.invokestatic 300, 3) := by decide +kernel
theorem dJ7_copyOf_1904c_9 : decode cJ7_copyOf_1904c 9 = .ok (.areturn, 1) := by decide +kernel
theorem dJ7_copyOf_6403c_0 : decode cJ7_copyOf_6403c 0 = .ok (.aload_n 2, 1) := by decide +kernel
theorem dJ7_copyOf_6403c_1 : decode cJ7_copyOf_6403c 1 = .ok (.ldc 110, 2) := by decide +kernel
theorem dJ7_copyOf_6403c_3 : decode cJ7_copyOf_6403c 3 = .ok (.if_acmp .ne 10, 3) := by decide +kernel
theorem dJ7_copyOf_6403c_6 : decode cJ7_copyOf_6403c 6 = .ok (.iload_n 1, 1) := by decide +kernel
theorem dJ7_copyOf_6403c_7 : decode cJ7_copyOf_6403c 7 = .ok (.anewarray 2, 3) := by decide +kernel
theorem dJ7_copyOf_6403c_10 : decode cJ7_copyOf_6403c 10 = .ok (.goto 14, 3) := by decide +kernel
theorem dJ7_copyOf_6403c_13 : decode cJ7_copyOf_6403c 13 = .ok (.aload_n 2, 1) := by decide +kernel
theorem dJ7_copyOf_6403c_14 : decode cJ7_copyOf_6403c 14 = .ok (.invokevirtual 90, 3) := by decide +kernel
theorem dJ7_copyOf_6403c_17 : decode cJ7_copyOf_6403c 17 = .ok (.iload_n 1, 1) := by decide +kernel
theorem dJ7_copyOf_6403c_18 : decode cJ7_copyOf_6403c 18 = .ok (.invokestatic 95, 3) := by decide +kernel
theorem dJ7_copyOf_6403c_21 : decode cJ7_copyOf_6403c 21 = .ok (.checkcast 110, 3) := by decide +kernel
theorem dJ7_copyOf_6403c_24 : decode cJ7_copyOf_6403c 24 = .ok (.astore_n 3, 1) := by decide +kernel
theorem dJ7_copyOf_6403c_25 : decode cJ7_copyOf_6403c 25 = .ok (.aload_n 0, 1) := by decide +kernel
theorem dJ7_copyOf_6403c_26 : decode cJ7_copyOf_6403c 26 = .ok (.iconst 0, 1) := by decide +kernel
theorem dJ7_copyOf_6403c_27 : decode cJ7_copyOf_6403c 27 = .ok (.aload_n 3, 1) := by decide +kernel
theorem dJ7_copyOf_6403c_28 : decode cJ7_copyOf_6403c 28 = .ok (.iconst 0, 1) := by decide +kernel
theorem dJ7_copyOf_6403c_29 : decode cJ7_copyOf_6403c 29 = .ok (.aload_n 0, 1) := by decide +kernel
theorem dJ7_copyOf_6403c_30 : decode cJ7_copyOf_6403c 30 = .ok (.arraylength, 1) := by decide +kernel
theorem dJ7_copyOf_6403c_31 : decode cJ7_copyOf_6403c 31 = .ok (.iload_n 1, 1) := by decide +kernel
theorem dJ7_copyOf_6403c_32 : decode cJ7_copyOf_6403c 32 = .ok (.invokestatic 304, 3) := by decide +kernel
theorem dJ7_copyOf_6403c_35 : decode cJ7_copyOf_6403c 35 = .ok (.invokestatic 150, 3) := by decide +kernel
theorem dJ7_copyOf_6403c_38 : decode cJ7_copyOf_6403c 38 = .ok (.aload_n 3, 1) := by decide +kernel
theorem dJ7_copyOf_6403c_39 : decode cJ7_copyOf_6403c 39 = .ok (.areturn, 1) := by decide +kernel
theorem dJ15_checkIndex_7cf53_0 : decode cJ15_checkIndex_7cf53 0 = .ok (.iload_n 0, 1) := by decide +kernel
theorem dJ15_checkIndex_7cf53_1 : decode cJ15_checkIndex_7cf53 1 = .ok (.iload_n 1, 1) := by decide +kernel
theorem dJ15_checkIndex_7cf53_2 : decode cJ15_checkIndex_7cf53 2 = .ok (.aconst_null, 1) := by decide +kernel
theorem dJ15_checkIndex_7cf53_3 : decode cJ15_checkIndex_7cf53 3 = .ok (.invokestatic 105, 3) := by decide +kernel
theorem dJ15_checkIndex_7cf53_6 : decode cJ15_checkIndex_7cf53 6 = .ok (.ireturn, 1) := by decide +kernel
theorem dJ8_newLength_cabcc_0 : decode cJ8_newLength_cabcc 0 = .ok (.iload_n 0, 1) := by decide +kernel
theorem dJ8_newLength_cabcc_1 : decode cJ8_newLength_cabcc 1 = .ok (.iload_n 1, 1) := by decide +kernel
theorem dJ8_newLength_cabcc_2 : decode cJ8_newLength_cabcc 2 = .ok (.iload_n 2, 1) := by decide +kernel
theorem dJ8_newLength_cabcc_3 : decode cJ8_newLength_cabcc 3 = .ok (.invokestatic 194, 3) := by decide +kernel
theorem dJ8_newLength_cabcc_6 : decode cJ8_newLength_cabcc 6 = .ok (.iadd, 1) := by decide +kernel
theorem dJ8_newLength_cabcc_7 : decode cJ8_newLength_cabcc 7 = .ok (.istore_n 3, 1) := by decide +kernel
theorem dJ8_newLength_cabcc_8 : decode cJ8_newLength_cabcc 8 = .ok (.iconst 0, 1) := by decide +kernel
theorem dJ8_newLength_cabcc_9 : decode cJ8_newLength_cabcc 9 = .ok (.iload_n 3, 1) := by decide +kernel
theorem dJ8_newLength_cabcc_10 : decode cJ8_newLength_cabcc 10 = .ok (.if_icmp .ge 11, 3) := by decide +kernel
theorem dJ8_newLength_cabcc_13 : decode cJ8_newLength_cabcc 13 = .ok (.iload_n 3, 1) := by decide +kernel
theorem dJ8_newLength_cabcc_14 : decode cJ8_newLength_cabcc 14 = .ok (.ldc 200, 2) := by decide +kernel
theorem dJ8_newLength_cabcc_16 : decode cJ8_newLength_cabcc 16 = .ok (.if_icmp .gt 5, 3) := by decide +kernel
theorem dJ8_newLength_cabcc_19 : decode cJ8_newLength_cabcc 19 = .ok (.iload_n 3, 1) := by decide +kernel
theorem dJ8_newLength_cabcc_20 : decode cJ8_newLength_cabcc 20 = .ok (.ireturn, 1) := by decide +kernel
theorem dJ8_newLength_cabcc_21 : decode cJ8_newLength_cabcc 21 = .ok (.iload_n 0, 1) := by decide +kernel
theorem dJ8_newLength_cabcc_22 : decode cJ8_newLength_cabcc 22 = .ok (.iload_n 1, 1) := by decide +kernel
theorem dJ8_newLength_cabcc_23 : decode cJ8_newLength_cabcc 23 = .ok (.invokestatic 201, 3) := by decide +kernel
theorem dJ8_newLength_cabcc_26 : decode cJ8_newLength_cabcc 26 = .ok (.ireturn, 1) := by decide +kernel
theorem dJ8_hugeLength_7cf53_0 : decode cJ8_hugeLength_7cf53 0 = .ok (.iload_n 0, 1) := by decide +kernel
theorem dJ8_hugeLength_7cf53_1 : decode cJ8_hugeLength_7cf53 1 = .ok (.iload_n 1, 1) := by decide +kernel
theorem dJ8_hugeLength_7cf53_2 : decode cJ8_hugeLength_7cf53 2 = .ok (.iadd, 1) := by decide +kernel
theorem dJ8_hugeLength_7cf53_3 : decode cJ8_hugeLength_7cf53 3 = .ok (.istore_n 2, 1) := by decide +kernel
theorem dJ8_hugeLength_7cf53_4 : decode cJ8_hugeLength_7cf53 4 = .ok (.iload_n 2, 1) := by decide +kernel
theorem dJ8_hugeLength_7cf53_5 : decode cJ8_hugeLength_7cf53 5 = .ok (.ifCond .ge 44, 3) := by decide +kernel
theorem dJ8_hugeLength_7cf53_8 : decode cJ8_hugeLength_7cf53 8 = .ok (.new 204, 3) := by decide +kernel
theorem dJ8_hugeLength_7cf53_11 : decode cJ8_hugeLength_7cf53 11 = .ok (.dup, 1) := by decide +kernel
theorem dJ8_hugeLength_7cf53_12 : decode cJ8_hugeLength_7cf53 12 = .ok (.new 89, 3) := by decide +kernel
theorem dJ8_hugeLength_7cf53_15 : decode cJ8_hugeLength_7cf53 15 = .ok (.dup, 1) := by decide +kernel
theorem dJ8_hugeLength_7cf53_16 : decode cJ8_hugeLength_7cf53 16 = .ok (.invokespecial 91, 3) := by decide +kernel
theorem dJ8_hugeLength_7cf53_19 : decode cJ8_hugeLength_7cf53 19 = .ok (.ldc 206, 2) := by decide +kernel
theorem dJ8_hugeLength_7cf53_21 : decode cJ8_hugeLength_7cf53 21 = .ok (.invokevirtual 94, 3) := by decide +kernel
theorem dJ8_hugeLength_7cf53_24 : decode cJ8_hugeLength_7cf53 24 = .ok (.iload_n 0, 1) := by decide +kernel
theorem dJ8_hugeLength_7cf53_25 : decode cJ8_hugeLength_7cf53 25 = .ok (.invokevirtual 98, 3) := by decide +kernel
theorem dJ8_hugeLength_7cf53_28 : decode cJ8_hugeLength_7cf53 28 = .ok (.ldc 208, 2) := by decide +kernel
theorem dJ8_hugeLength_7cf53_30 : decode cJ8_hugeLength_7cf53 30 = .ok (.invokevirtual 94, 3) := by decide +kernel
theorem dJ8_hugeLength_7cf53_33 : decode cJ8_hugeLength_7cf53 33 = .ok (.iload_n 1, 1) := by decide +kernel
theorem dJ8_hugeLength_7cf53_34 : decode cJ8_hugeLength_7cf53 34 = .ok (.invokevirtual 98, 3) := by decide +kernel
theorem dJ8_hugeLength_7cf53_37 : decode cJ8_hugeLength_7cf53 37 = .ok (.ldc 210, 2) := by decide +kernel
theorem dJ8_hugeLength_7cf53_39 : decode cJ8_hugeLength_7cf53 39 = .ok (.invokevirtual 94, 3) := by decide +kernel
theorem dJ8_hugeLength_7cf53_42 : decode cJ8_hugeLength_7cf53 42 = .ok (.invokevirtual 101, 3) := by decide +kernel
theorem dJ8_hugeLength_7cf53_45 : decode cJ8_hugeLength_7cf53 45 = .ok (.invokespecial 212, 3) := by decide +kernel
theorem dJ8_hugeLength_7cf53_48 : decode cJ8_hugeLength_7cf53 48 = .ok (.athrow, 1) := by decide +kernel
theorem dJ8_hugeLength_7cf53_49 : decode cJ8_hugeLength_7cf53 49 = .ok (.iload_n 2, 1) := by decide +kernel
theorem dJ8_hugeLength_7cf53_50 : decode cJ8_hugeLength_7cf53 50 = .ok (.ldc 200, 2) := by decide +kernel
theorem dJ8_hugeLength_7cf53_52 : decode cJ8_hugeLength_7cf53 52 = .ok (.if_icmp .gt 6, 3) := by decide +kernel
theorem dJ8_hugeLength_7cf53_55 : decode cJ8_hugeLength_7cf53 55 = .ok (.ldc 200, 2) := by decide +kernel
theorem dJ8_hugeLength_7cf53_57 : decode cJ8_hugeLength_7cf53 57 = .ok (.ireturn, 1) := by decide +kernel
theorem dJ8_hugeLength_7cf53_58 : decode cJ8_hugeLength_7cf53 58 = .ok (.iload_n 2, 1) := by decide +kernel
theorem dJ8_hugeLength_7cf53_59 : decode cJ8_hugeLength_7cf53 59 = .ok (.ireturn, 1) := by decide +kernel
theorem dJ3_checkIndex_8e157_0 : decode cJ3_checkIndex_8e157 0 = .ok (.iload_n 0, 1) := by decide +kernel
theorem dJ3_checkIndex_8e157_1 : decode cJ3_checkIndex_8e157 1 = .ok (.ifCond .lt 8, 3) := by decide +kernel
theorem dJ3_checkIndex_8e157_4 : decode cJ3_checkIndex_8e157 4 = .ok (.iload_n 0, 1) := by decide +kernel
theorem dJ3_checkIndex_8e157_5 : decode cJ3_checkIndex_8e157 5 = .ok (.iload_n 1, 1) := by decide +kernel
theorem dJ3_checkIndex_8e157_6 : decode cJ3_checkIndex_8e157 6 = .ok (.if_icmp .lt 10, 3) := by decide +kernel
theorem dJ3_checkIndex_8e157_9 : decode cJ3_checkIndex_8e157 9 = .ok (.aload_n 2, 1) := by decide +kernel
theorem dJ3_checkIndex_8e157_10 : decode cJ3_checkIndex_8e157 10 = .ok (.iload_n 0, 1) := by decide +kernel
theorem dJ3_checkIndex_8e157_11 : decode cJ3_checkIndex_8e157 11 = .ok (.iload_n 1, 1) := by decide +kernel
theorem dJ3_checkIndex_8e157_12 : decode cJ3_checkIndex_8e157 12 = .ok (.invokestatic 95, 3) := by decide +kernel
theorem dJ3_checkIndex_8e157_15 : decode cJ3_checkIndex_8e157 15 = .ok (.athrow, 1) := by decide +kernel
theorem dJ3_checkIndex_8e157_16 : decode cJ3_checkIndex_8e157 16 = .ok (.iload_n 0, 1) := by decide +kernel
theorem dJ3_checkIndex_8e157_17 : decode cJ3_checkIndex_8e157 17 = .ok (.ireturn, 1) := by decide +kernel
end
section
def zT : List Cond := lw_tbl.filter goodWord
theorem zT_in {w : Cond} (i : Nat) (h : lw_tbl[i]? = some w) (hg : goodWord w = true) : w ∈ zT := List.mem_filter.mpr ⟨List.mem_of_getElem? h, hg⟩
theorem zT_tbl : ∀ w ∈ zT, w ∈ lw_tbl := fun _ h => (List.mem_filter.mp h).1
theorem zT_good {w : Cond} (hw : w ∈ zT) : GoodIn zT (w :: zT) := by
  intro u hu
  have h : u ∈ zT := by
    rcases List.mem_cons.mp hu with rfl | h
    · exact hw
    · exact h
  exact ⟨h, good_of_word (List.mem_filter.mp h).2⟩
theorem zT_sub {ws : List Cond} (h : GoodIn lw_tbl ws) (hg : ws.all goodWord = true) : ∀ w ∈ ws, w ∈ zT := fun w hw => List.mem_filter.mpr ⟨(h w hw).1, List.all_eq_true.mp hg w hw⟩
/-- what the tables say of an instance method -/
def zMe (y : MethodName) (bytes : ByteArray) (maxL : Nat) (ret : Option FieldType) (n : Nat) : Prop := Cond.instanceMethod y ∈ zT ∧ Cond.selects y.cls y y ∈ zT ∧ Cond.initialized y.cls ∈ zT ∧ Cond.code y bytes maxL ret ∈ zT ∧ (y.cls ≠ "java/lang/invoke/MethodHandle" ∧ y.cls ≠ "java/lang/invoke/VarHandle") ∧ (parseMethodDescriptor y.desc).map (fun d => d.parameters.length) = some n
/-- of a static one -/
def zMs (y : MethodName) (bytes : ByteArray) (maxL : Nat) (ret : Option FieldType) (n : Nat) : Prop := Cond.static y ∈ zT ∧ Cond.initialized y.cls ∈ zT ∧ Cond.code y bytes maxL ret ∈ zT ∧ (y.cls ≠ "java/lang/invoke/MethodHandle" ∧ y.cls ≠ "java/lang/invoke/VarHandle") ∧ (parseMethodDescriptor y.desc).map (fun d => d.parameters.length) = some n
/-- of a constructor -/
def zMi (y : MethodName) (bytes : ByteArray) (maxL : Nat) (n : Nat) : Prop := Cond.instanceMethod y ∈ zT ∧ Cond.initialized y.cls ∈ zT ∧ Cond.code y bytes maxL none ∈ zT ∧ y.name = "<init>" ∧ (y.cls ≠ "java/lang/invoke/MethodHandle" ∧ y.cls ≠ "java/lang/invoke/VarHandle") ∧ (parseMethodDescriptor y.desc).map (fun d => d.parameters.length) = some n
/-- a field's link, with its class's table -/
def zLf (own : String) (index ci fk : Nat) (C : String) (T : u_T) (N : Nat) : Prop := fk < N ∧ Cond.fieldLink own index C (T fk).2.1 (T fk).2.2.1 ∈ zT ∧ (T fk).1 = C ∧ ∀ w ∈ u_ws C T N, w ∈ zT
theorem mi_X3_init : zMi yX3_init cX3_init 1 0 := ⟨zT_in 61 (by decide +kernel) rfl, zT_in 38 (by decide +kernel) rfl, zT_in 62 (by decide +kernel) rfl, rfl, ⟨by decide +kernel, by decide +kernel⟩, by decide +kernel⟩
theorem mi_Jx4a65c_init_da8c8 : zMi yJx4a65c_init_da8c8 cJx4a65c_init_da8c8 1 0 := ⟨zT_in 69 (by decide +kernel) rfl, zT_in 41 (by decide +kernel) rfl, zT_in 70 (by decide +kernel) rfl, rfl, ⟨by decide +kernel, by decide +kernel⟩, by decide +kernel⟩
theorem mi_Jxc12de_init_da8c8 : zMi yJxc12de_init_da8c8 cJxc12de_init_da8c8 1 0 := ⟨zT_in 72 (by decide +kernel) rfl, zT_in 40 (by decide +kernel) rfl, zT_in 73 (by decide +kernel) rfl, rfl, ⟨by decide +kernel, by decide +kernel⟩, by decide +kernel⟩
theorem mi_Jxa1e45_init_da8c8 : zMi yJxa1e45_init_da8c8 cJxa1e45_init_da8c8 1 0 := ⟨zT_in 75 (by decide +kernel) rfl, zT_in 39 (by decide +kernel) rfl, zT_in 76 (by decide +kernel) rfl, rfl, ⟨by decide +kernel, by decide +kernel⟩, by decide +kernel⟩
theorem mi_X1_init : zMi yX1_init cX1_init 2 1 := ⟨zT_in 95 (by decide +kernel) rfl, zT_in 42 (by decide +kernel) rfl, zT_in 96 (by decide +kernel) rfl, rfl, ⟨by decide +kernel, by decide +kernel⟩, by decide +kernel⟩
theorem ms_J9_max_7cf53 : zMs yJ9_max_7cf53 cJ9_max_7cf53 2 (Option.some FieldType.int) 2 := ⟨zT_in 99 (by decide +kernel) rfl, zT_in 43 (by decide +kernel) rfl, zT_in 100 (by decide +kernel) rfl, ⟨by decide +kernel, by decide +kernel⟩, by decide +kernel⟩
theorem ms_J7_fill_53178 : zMs yJ7_fill_53178 cJ7_fill_53178 4 (Option.none : Option FieldType) 2 := ⟨zT_in 102 (by decide +kernel) rfl, zT_in 44 (by decide +kernel) rfl, zT_in 103 (by decide +kernel) rfl, ⟨by decide +kernel, by decide +kernel⟩, by decide +kernel⟩
theorem mi_X0_init : zMi yX0_init cX0_init 1 0 := ⟨zT_in 112 (by decide +kernel) rfl, zT_in 45 (by decide +kernel) rfl, zT_in 113 (by decide +kernel) rfl, rfl, ⟨by decide +kernel, by decide +kernel⟩, by decide +kernel⟩
theorem me_X3_find : zMe yX3_find cX3_find 2 (Option.some FieldType.int) 1 := ⟨zT_in 154 (by decide +kernel) rfl, zT_in 155 (by decide +kernel) rfl, zT_in 38 (by decide +kernel) rfl, zT_in 156 (by decide +kernel) rfl, ⟨by decide +kernel, by decide +kernel⟩, by decide +kernel⟩
theorem me_X3_makeCurrent : zMe yX3_makeCurrent cX3_makeCurrent 5 (Option.some FieldType.int) 1 := ⟨zT_in 159 (by decide +kernel) rfl, zT_in 0 (by decide +kernel) rfl, zT_in 38 (by decide +kernel) rfl, zT_in 160 (by decide +kernel) rfl, ⟨by decide +kernel, by decide +kernel⟩, by decide +kernel⟩
theorem me_X1_at : zMe yX1_at cX1_at 2 (Option.some FieldType.int) 1 := ⟨zT_in 162 (by decide +kernel) rfl, zT_in 163 (by decide +kernel) rfl, zT_in 42 (by decide +kernel) rfl, zT_in 164 (by decide +kernel) rfl, ⟨by decide +kernel, by decide +kernel⟩, by decide +kernel⟩
theorem me_X1_put : zMe yX1_put cX1_put 3 (Option.none : Option FieldType) 2 := ⟨zT_in 166 (by decide +kernel) rfl, zT_in 167 (by decide +kernel) rfl, zT_in 42 (by decide +kernel) rfl, zT_in 168 (by decide +kernel) rfl, ⟨by decide +kernel, by decide +kernel⟩, by decide +kernel⟩
theorem me_Jx4a65c_size_8abf5 : zMe yJx4a65c_size_8abf5 cJx4a65c_size_8abf5 1 (Option.some FieldType.int) 0 := ⟨zT_in 170 (by decide +kernel) rfl, zT_in 171 (by decide +kernel) rfl, zT_in 41 (by decide +kernel) rfl, zT_in 172 (by decide +kernel) rfl, ⟨by decide +kernel, by decide +kernel⟩, by decide +kernel⟩
theorem me_Jx4a65c_get_915e3 : zMe yJx4a65c_get_915e3 cJx4a65c_get_915e3 2 (Option.some (FieldType.object "java/lang/Object")) 1 := ⟨zT_in 174 (by decide +kernel) rfl, zT_in 175 (by decide +kernel) rfl, zT_in 41 (by decide +kernel) rfl, zT_in 176 (by decide +kernel) rfl, ⟨by decide +kernel, by decide +kernel⟩, by decide +kernel⟩
theorem ms_J15_checkIndex_7cf53 : zMs yJ15_checkIndex_7cf53 cJ15_checkIndex_7cf53 2 (Option.some FieldType.int) 2 := ⟨zT_in 178 (by decide +kernel) rfl, zT_in 55 (by decide +kernel) rfl, zT_in 179 (by decide +kernel) rfl, ⟨by decide +kernel, by decide +kernel⟩, by decide +kernel⟩
theorem ms_J3_checkIndex_8e157 : zMs yJ3_checkIndex_8e157 cJ3_checkIndex_8e157 3 (Option.some FieldType.int) 3 := ⟨zT_in 181 (by decide +kernel) rfl, zT_in 56 (by decide +kernel) rfl, zT_in 182 (by decide +kernel) rfl, ⟨by decide +kernel, by decide +kernel⟩, by decide +kernel⟩
theorem me_Jx4a65c_elementData_915e3 : zMe yJx4a65c_elementData_915e3 cJx4a65c_elementData_915e3 2 (Option.some (FieldType.object "java/lang/Object")) 1 := ⟨zT_in 184 (by decide +kernel) rfl, zT_in 185 (by decide +kernel) rfl, zT_in 41 (by decide +kernel) rfl, zT_in 186 (by decide +kernel) rfl, ⟨by decide +kernel, by decide +kernel⟩, by decide +kernel⟩
theorem me_X3_setTypes : zMe yX3_setTypes cX3_setTypes 1 (Option.some FieldType.int) 0 := ⟨zT_in 189 (by decide +kernel) rfl, zT_in 190 (by decide +kernel) rfl, zT_in 38 (by decide +kernel) rfl, zT_in 191 (by decide +kernel) rfl, ⟨by decide +kernel, by decide +kernel⟩, by decide +kernel⟩
theorem me_X3_records : zMe yX3_records cX3_records 1 (Option.some FieldType.int) 0 := ⟨zT_in 193 (by decide +kernel) rfl, zT_in 194 (by decide +kernel) rfl, zT_in 38 (by decide +kernel) rfl, zT_in 195 (by decide +kernel) rfl, ⟨by decide +kernel, by decide +kernel⟩, by decide +kernel⟩
theorem me_X3_current : zMe yX3_current cX3_current 1 (Option.some FieldType.int) 0 := ⟨zT_in 197 (by decide +kernel) rfl, zT_in 198 (by decide +kernel) rfl, zT_in 38 (by decide +kernel) rfl, zT_in 199 (by decide +kernel) rfl, ⟨by decide +kernel, by decide +kernel⟩, by decide +kernel⟩
theorem me_X3_declare : zMe yX3_declare cX3_declare 6 (Option.some FieldType.int) 5 := ⟨zT_in 206 (by decide +kernel) rfl, zT_in 207 (by decide +kernel) rfl, zT_in 38 (by decide +kernel) rfl, zT_in 208 (by decide +kernel) rfl, ⟨by decide +kernel, by decide +kernel⟩, by decide +kernel⟩
theorem me_X3_requireType : zMe yX3_requireType cX3_requireType 2 (Option.none : Option FieldType) 1 := ⟨zT_in 211 (by decide +kernel) rfl, zT_in 1 (by decide +kernel) rfl, zT_in 38 (by decide +kernel) rfl, zT_in 212 (by decide +kernel) rfl, ⟨by decide +kernel, by decide +kernel⟩, by decide +kernel⟩
theorem mi_X2_init : zMi yX2_init cX2_init 6 5 := ⟨zT_in 303 (by decide +kernel) rfl, zT_in 52 (by decide +kernel) rfl, zT_in 304 (by decide +kernel) rfl, rfl, ⟨by decide +kernel, by decide +kernel⟩, by decide +kernel⟩
theorem me_Jx4a65c_add_9ea2d : zMe yJx4a65c_add_9ea2d cJx4a65c_add_9ea2d 2 (Option.some FieldType.boolean) 1 := ⟨zT_in 341 (by decide +kernel) rfl, zT_in 342 (by decide +kernel) rfl, zT_in 41 (by decide +kernel) rfl, zT_in 343 (by decide +kernel) rfl, ⟨by decide +kernel, by decide +kernel⟩, by decide +kernel⟩
theorem me_Jx4a65c_add_72be8 : zMe yJx4a65c_add_72be8 cJx4a65c_add_72be8 4 (Option.none : Option FieldType) 3 := ⟨zT_in 346 (by decide +kernel) rfl, zT_in 3 (by decide +kernel) rfl, zT_in 41 (by decide +kernel) rfl, zT_in 347 (by decide +kernel) rfl, ⟨by decide +kernel, by decide +kernel⟩, by decide +kernel⟩
theorem me_Jx4a65c_grow_d5877 : zMe yJx4a65c_grow_d5877 cJx4a65c_grow_d5877 1 (Option.some (FieldType.array (FieldType.object "java/lang/Object"))) 0 := ⟨zT_in 350 (by decide +kernel) rfl, zT_in 4 (by decide +kernel) rfl, zT_in 41 (by decide +kernel) rfl, zT_in 351 (by decide +kernel) rfl, ⟨by decide +kernel, by decide +kernel⟩, by decide +kernel⟩
theorem me_Jx4a65c_grow_92f84 : zMe yJx4a65c_grow_92f84 cJx4a65c_grow_92f84 4 (Option.some (FieldType.array (FieldType.object "java/lang/Object"))) 1 := ⟨zT_in 354 (by decide +kernel) rfl, zT_in 5 (by decide +kernel) rfl, zT_in 41 (by decide +kernel) rfl, zT_in 355 (by decide +kernel) rfl, ⟨by decide +kernel, by decide +kernel⟩, by decide +kernel⟩
theorem ms_J8_newLength_cabcc : zMs yJ8_newLength_cabcc cJ8_newLength_cabcc 4 (Option.some FieldType.int) 3 := ⟨zT_in 357 (by decide +kernel) rfl, zT_in 53 (by decide +kernel) rfl, zT_in 358 (by decide +kernel) rfl, ⟨by decide +kernel, by decide +kernel⟩, by decide +kernel⟩
theorem ms_J8_hugeLength_7cf53 : zMs yJ8_hugeLength_7cf53 cJ8_hugeLength_7cf53 3 (Option.some FieldType.int) 2 := ⟨zT_in 362 (by decide +kernel) rfl, zT_in 53 (by decide +kernel) rfl, zT_in 363 (by decide +kernel) rfl, ⟨by decide +kernel, by decide +kernel⟩, by decide +kernel⟩
theorem ms_J7_copyOf_1904c : zMs yJ7_copyOf_1904c cJ7_copyOf_1904c 2 (Option.some (FieldType.array (FieldType.object "java/lang/Object"))) 2 := ⟨zT_in 365 (by decide +kernel) rfl, zT_in 44 (by decide +kernel) rfl, zT_in 366 (by decide +kernel) rfl, ⟨by decide +kernel, by decide +kernel⟩, by decide +kernel⟩
theorem ms_J7_copyOf_6403c : zMs yJ7_copyOf_6403c cJ7_copyOf_6403c 4 (Option.some (FieldType.array (FieldType.object "java/lang/Object"))) 3 := ⟨zT_in 381 (by decide +kernel) rfl, zT_in 44 (by decide +kernel) rfl, zT_in 382 (by decide +kernel) rfl, ⟨by decide +kernel, by decide +kernel⟩, by decide +kernel⟩
theorem ms_J9_min_7cf53 : zMs yJ9_min_7cf53 cJ9_min_7cf53 2 (Option.some FieldType.int) 2 := ⟨zT_in 387 (by decide +kernel) rfl, zT_in 43 (by decide +kernel) rfl, zT_in 388 (by decide +kernel) rfl, ⟨by decide +kernel, by decide +kernel⟩, by decide +kernel⟩
theorem me_X3_store : zMe yX3_store cX3_store 5 (Option.some FieldType.int) 2 := ⟨zT_in 398 (by decide +kernel) rfl, zT_in 399 (by decide +kernel) rfl, zT_in 38 (by decide +kernel) rfl, zT_in 400 (by decide +kernel) rfl, ⟨by decide +kernel, by decide +kernel⟩, by decide +kernel⟩
theorem me_X3_requireValue : zMe yX3_requireValue cX3_requireValue 2 (Option.none : Option FieldType) 1 := ⟨zT_in 403 (by decide +kernel) rfl, zT_in 6 (by decide +kernel) rfl, zT_in 38 (by decide +kernel) rfl, zT_in 404 (by decide +kernel) rfl, ⟨by decide +kernel, by decide +kernel⟩, by decide +kernel⟩
theorem me_X3_lacksSetFor : zMe yX3_lacksSetFor cX3_lacksSetFor 4 (Option.some FieldType.boolean) 1 := ⟨zT_in 409 (by decide +kernel) rfl, zT_in 7 (by decide +kernel) rfl, zT_in 38 (by decide +kernel) rfl, zT_in 410 (by decide +kernel) rfl, ⟨by decide +kernel, by decide +kernel⟩, by decide +kernel⟩
theorem me_X2_takesAtStore : zMe yX2_takesAtStore cX2_takesAtStore 2 (Option.some FieldType.boolean) 1 := ⟨zT_in 412 (by decide +kernel) rfl, zT_in 413 (by decide +kernel) rfl, zT_in 52 (by decide +kernel) rfl, zT_in 414 (by decide +kernel) rfl, ⟨by decide +kernel, by decide +kernel⟩, by decide +kernel⟩
theorem me_X2_admit : zMe yX2_admit cX2_admit 4 (Option.none : Option FieldType) 3 := ⟨zT_in 417 (by decide +kernel) rfl, zT_in 418 (by decide +kernel) rfl, zT_in 52 (by decide +kernel) rfl, zT_in 419 (by decide +kernel) rfl, ⟨by decide +kernel, by decide +kernel⟩, by decide +kernel⟩
theorem me_X2_link : zMe yX2_link cX2_link 3 (Option.none : Option FieldType) 2 := ⟨zT_in 423 (by decide +kernel) rfl, zT_in 8 (by decide +kernel) rfl, zT_in 52 (by decide +kernel) rfl, zT_in 424 (by decide +kernel) rfl, ⟨by decide +kernel, by decide +kernel⟩, by decide +kernel⟩
theorem me_X2_currentOwner : zMe yX2_currentOwner cX2_currentOwner 1 (Option.some FieldType.int) 0 := ⟨zT_in 427 (by decide +kernel) rfl, zT_in 428 (by decide +kernel) rfl, zT_in 52 (by decide +kernel) rfl, zT_in 429 (by decide +kernel) rfl, ⟨by decide +kernel, by decide +kernel⟩, by decide +kernel⟩
theorem me_X2_insert : zMe yX2_insert cX2_insert 6 (Option.none : Option FieldType) 3 := ⟨zT_in 432 (by decide +kernel) rfl, zT_in 433 (by decide +kernel) rfl, zT_in 52 (by decide +kernel) rfl, zT_in 434 (by decide +kernel) rfl, ⟨by decide +kernel, by decide +kernel⟩, by decide +kernel⟩
theorem me_X2_frontFor : zMe yX2_frontFor cX2_frontFor 5 (Option.some FieldType.int) 3 := ⟨zT_in 437 (by decide +kernel) rfl, zT_in 9 (by decide +kernel) rfl, zT_in 52 (by decide +kernel) rfl, zT_in 438 (by decide +kernel) rfl, ⟨by decide +kernel, by decide +kernel⟩, by decide +kernel⟩
theorem me_X2_frontBySorting : zMe yX2_frontBySorting cX2_frontBySorting 7 (Option.some FieldType.int) 3 := ⟨zT_in 441 (by decide +kernel) rfl, zT_in 10 (by decide +kernel) rfl, zT_in 52 (by decide +kernel) rfl, zT_in 442 (by decide +kernel) rfl, ⟨by decide +kernel, by decide +kernel⟩, by decide +kernel⟩
theorem me_X3_modify : zMe yX3_modify cX3_modify 4 (Option.some FieldType.int) 1 := ⟨zT_in 447 (by decide +kernel) rfl, zT_in 448 (by decide +kernel) rfl, zT_in 38 (by decide +kernel) rfl, zT_in 449 (by decide +kernel) rfl, ⟨by decide +kernel, by decide +kernel⟩, by decide +kernel⟩
theorem me_X3_requireRunUnit : zMe yX3_requireRunUnit cX3_requireRunUnit 1 (Option.none : Option FieldType) 0 := ⟨zT_in 452 (by decide +kernel) rfl, zT_in 11 (by decide +kernel) rfl, zT_in 38 (by decide +kernel) rfl, zT_in 453 (by decide +kernel) rfl, ⟨by decide +kernel, by decide +kernel⟩, by decide +kernel⟩
theorem me_X2_sortAnew : zMe yX2_sortAnew cX2_sortAnew 4 (Option.none : Option FieldType) 2 := ⟨zT_in 456 (by decide +kernel) rfl, zT_in 457 (by decide +kernel) rfl, zT_in 52 (by decide +kernel) rfl, zT_in 458 (by decide +kernel) rfl, ⟨by decide +kernel, by decide +kernel⟩, by decide +kernel⟩
theorem me_X2_isMember : zMe yX2_isMember cX2_isMember 3 (Option.some FieldType.boolean) 1 := ⟨zT_in 460 (by decide +kernel) rfl, zT_in 461 (by decide +kernel) rfl, zT_in 52 (by decide +kernel) rfl, zT_in 462 (by decide +kernel) rfl, ⟨by decide +kernel, by decide +kernel⟩, by decide +kernel⟩
theorem me_X2_takeOut : zMe yX2_takeOut cX2_takeOut 2 (Option.none : Option FieldType) 1 := ⟨zT_in 464 (by decide +kernel) rfl, zT_in 465 (by decide +kernel) rfl, zT_in 52 (by decide +kernel) rfl, zT_in 466 (by decide +kernel) rfl, ⟨by decide +kernel, by decide +kernel⟩, by decide +kernel⟩
theorem me_X3_erase : zMe yX3_erase cX3_erase 4 (Option.some FieldType.int) 1 := ⟨zT_in 471 (by decide +kernel) rfl, zT_in 472 (by decide +kernel) rfl, zT_in 38 (by decide +kernel) rfl, zT_in 473 (by decide +kernel) rfl, ⟨by decide +kernel, by decide +kernel⟩, by decide +kernel⟩
theorem me_X3_requireWay : zMe yX3_requireWay cX3_requireWay 2 (Option.none : Option FieldType) 1 := ⟨zT_in 476 (by decide +kernel) rfl, zT_in 12 (by decide +kernel) rfl, zT_in 38 (by decide +kernel) rfl, zT_in 477 (by decide +kernel) rfl, ⟨by decide +kernel, by decide +kernel⟩, by decide +kernel⟩
theorem me_X3_gatherDoomed : zMe yX3_gatherDoomed cX3_gatherDoomed 4 (Option.some FieldType.int) 2 := ⟨zT_in 481 (by decide +kernel) rfl, zT_in 13 (by decide +kernel) rfl, zT_in 38 (by decide +kernel) rfl, zT_in 482 (by decide +kernel) rfl, ⟨by decide +kernel, by decide +kernel⟩, by decide +kernel⟩
theorem me_X3_hasMembers : zMe yX3_hasMembers cX3_hasMembers 4 (Option.some FieldType.boolean) 1 := ⟨zT_in 485 (by decide +kernel) rfl, zT_in 14 (by decide +kernel) rfl, zT_in 38 (by decide +kernel) rfl, zT_in 486 (by decide +kernel) rfl, ⟨by decide +kernel, by decide +kernel⟩, by decide +kernel⟩
theorem me_X2_owns : zMe yX2_owns cX2_owns 2 (Option.some FieldType.boolean) 1 := ⟨zT_in 488 (by decide +kernel) rfl, zT_in 489 (by decide +kernel) rfl, zT_in 52 (by decide +kernel) rfl, zT_in 490 (by decide +kernel) rfl, ⟨by decide +kernel, by decide +kernel⟩, by decide +kernel⟩
theorem me_X2_countByRing : zMe yX2_countByRing cX2_countByRing 4 (Option.some FieldType.int) 1 := ⟨zT_in 492 (by decide +kernel) rfl, zT_in 493 (by decide +kernel) rfl, zT_in 52 (by decide +kernel) rfl, zT_in 494 (by decide +kernel) rfl, ⟨by decide +kernel, by decide +kernel⟩, by decide +kernel⟩
theorem me_X0_clear : zMe yX0_clear cX0_clear 1 (Option.none : Option FieldType) 0 := ⟨zT_in 496 (by decide +kernel) rfl, zT_in 497 (by decide +kernel) rfl, zT_in 45 (by decide +kernel) rfl, zT_in 498 (by decide +kernel) rfl, ⟨by decide +kernel, by decide +kernel⟩, by decide +kernel⟩
theorem me_X1_clear : zMe yX1_clear cX1_clear 1 (Option.none : Option FieldType) 0 := ⟨zT_in 500 (by decide +kernel) rfl, zT_in 501 (by decide +kernel) rfl, zT_in 42 (by decide +kernel) rfl, zT_in 502 (by decide +kernel) rfl, ⟨by decide +kernel, by decide +kernel⟩, by decide +kernel⟩
theorem me_X0_add : zMe yX0_add cX0_add 2 (Option.none : Option FieldType) 1 := ⟨zT_in 504 (by decide +kernel) rfl, zT_in 505 (by decide +kernel) rfl, zT_in 45 (by decide +kernel) rfl, zT_in 506 (by decide +kernel) rfl, ⟨by decide +kernel, by decide +kernel⟩, by decide +kernel⟩
theorem me_X0_at : zMe yX0_at cX0_at 2 (Option.some FieldType.int) 1 := ⟨zT_in 510 (by decide +kernel) rfl, zT_in 511 (by decide +kernel) rfl, zT_in 45 (by decide +kernel) rfl, zT_in 512 (by decide +kernel) rfl, ⟨by decide +kernel, by decide +kernel⟩, by decide +kernel⟩
theorem me_X3_gatherMembers : zMe yX3_gatherMembers cX3_gatherMembers 5 (Option.none : Option FieldType) 2 := ⟨zT_in 515 (by decide +kernel) rfl, zT_in 15 (by decide +kernel) rfl, zT_in 38 (by decide +kernel) rfl, zT_in 516 (by decide +kernel) rfl, ⟨by decide +kernel, by decide +kernel⟩, by decide +kernel⟩
theorem me_X2_erasesMembers : zMe yX2_erasesMembers cX2_erasesMembers 2 (Option.some FieldType.boolean) 1 := ⟨zT_in 518 (by decide +kernel) rfl, zT_in 519 (by decide +kernel) rfl, zT_in 52 (by decide +kernel) rfl, zT_in 520 (by decide +kernel) rfl, ⟨by decide +kernel, by decide +kernel⟩, by decide +kernel⟩
theorem me_X2_gather : zMe yX2_gather cX2_gather 5 (Option.none : Option FieldType) 2 := ⟨zT_in 522 (by decide +kernel) rfl, zT_in 523 (by decide +kernel) rfl, zT_in 52 (by decide +kernel) rfl, zT_in 524 (by decide +kernel) rfl, ⟨by decide +kernel, by decide +kernel⟩, by decide +kernel⟩
theorem me_X3_remove : zMe yX3_remove cX3_remove 3 (Option.none : Option FieldType) 1 := ⟨zT_in 529 (by decide +kernel) rfl, zT_in 16 (by decide +kernel) rfl, zT_in 38 (by decide +kernel) rfl, zT_in 530 (by decide +kernel) rfl, ⟨by decide +kernel, by decide +kernel⟩, by decide +kernel⟩
theorem me_X2_forget : zMe yX2_forget cX2_forget 2 (Option.none : Option FieldType) 1 := ⟨zT_in 532 (by decide +kernel) rfl, zT_in 533 (by decide +kernel) rfl, zT_in 52 (by decide +kernel) rfl, zT_in 534 (by decide +kernel) rfl, ⟨by decide +kernel, by decide +kernel⟩, by decide +kernel⟩
theorem me_X2_releaseMembers : zMe yX2_releaseMembers cX2_releaseMembers 3 (Option.none : Option FieldType) 1 := ⟨zT_in 538 (by decide +kernel) rfl, zT_in 17 (by decide +kernel) rfl, zT_in 52 (by decide +kernel) rfl, zT_in 539 (by decide +kernel) rfl, ⟨by decide +kernel, by decide +kernel⟩, by decide +kernel⟩
theorem me_X2_release : zMe yX2_release cX2_release 2 (Option.none : Option FieldType) 1 := ⟨zT_in 541 (by decide +kernel) rfl, zT_in 542 (by decide +kernel) rfl, zT_in 52 (by decide +kernel) rfl, zT_in 543 (by decide +kernel) rfl, ⟨by decide +kernel, by decide +kernel⟩, by decide +kernel⟩
theorem me_X3_connect : zMe yX3_connect cX3_connect 4 (Option.some FieldType.int) 1 := ⟨zT_in 549 (by decide +kernel) rfl, zT_in 550 (by decide +kernel) rfl, zT_in 38 (by decide +kernel) rfl, zT_in 551 (by decide +kernel) rfl, ⟨by decide +kernel, by decide +kernel⟩, by decide +kernel⟩
theorem me_X3_requireSet : zMe yX3_requireSet cX3_requireSet 2 (Option.some (FieldType.object "NetworkDatabase$SetType")) 1 := ⟨zT_in 554 (by decide +kernel) rfl, zT_in 18 (by decide +kernel) rfl, zT_in 38 (by decide +kernel) rfl, zT_in 555 (by decide +kernel) rfl, ⟨by decide +kernel, by decide +kernel⟩, by decide +kernel⟩
theorem me_X3_disconnect : zMe yX3_disconnect cX3_disconnect 4 (Option.some FieldType.int) 1 := ⟨zT_in 582 (by decide +kernel) rfl, zT_in 583 (by decide +kernel) rfl, zT_in 38 (by decide +kernel) rfl, zT_in 584 (by decide +kernel) rfl, ⟨by decide +kernel, by decide +kernel⟩, by decide +kernel⟩
theorem me_X3_requireMembership : zMe yX3_requireMembership cX3_requireMembership 2 (Option.none : Option FieldType) 1 := ⟨zT_in 587 (by decide +kernel) rfl, zT_in 19 (by decide +kernel) rfl, zT_in 38 (by decide +kernel) rfl, zT_in 588 (by decide +kernel) rfl, ⟨by decide +kernel, by decide +kernel⟩, by decide +kernel⟩
theorem me_X3_reconnect : zMe yX3_reconnect cX3_reconnect 4 (Option.some FieldType.int) 2 := ⟨zT_in 596 (by decide +kernel) rfl, zT_in 597 (by decide +kernel) rfl, zT_in 38 (by decide +kernel) rfl, zT_in 598 (by decide +kernel) rfl, ⟨by decide +kernel, by decide +kernel⟩, by decide +kernel⟩
theorem me_X3_findOf : zMe yX3_findOf cX3_findOf 5 (Option.some FieldType.int) 2 := ⟨zT_in 606 (by decide +kernel) rfl, zT_in 607 (by decide +kernel) rfl, zT_in 38 (by decide +kernel) rfl, zT_in 608 (by decide +kernel) rfl, ⟨by decide +kernel, by decide +kernel⟩, by decide +kernel⟩
theorem me_X3_findEnd : zMe yX3_findEnd cX3_findEnd 4 (Option.some FieldType.int) 2 := ⟨zT_in 613 (by decide +kernel) rfl, zT_in 614 (by decide +kernel) rfl, zT_in 38 (by decide +kernel) rfl, zT_in 615 (by decide +kernel) rfl, ⟨by decide +kernel, by decide +kernel⟩, by decide +kernel⟩
theorem me_X2_neighbour : zMe yX2_neighbour cX2_neighbour 4 (Option.some FieldType.int) 2 := ⟨zT_in 617 (by decide +kernel) rfl, zT_in 618 (by decide +kernel) rfl, zT_in 52 (by decide +kernel) rfl, zT_in 619 (by decide +kernel) rfl, ⟨by decide +kernel, by decide +kernel⟩, by decide +kernel⟩
theorem me_X3_findNext : zMe yX3_findNext cX3_findNext 4 (Option.some FieldType.int) 2 := ⟨zT_in 624 (by decide +kernel) rfl, zT_in 625 (by decide +kernel) rfl, zT_in 38 (by decide +kernel) rfl, zT_in 626 (by decide +kernel) rfl, ⟨by decide +kernel, by decide +kernel⟩, by decide +kernel⟩
theorem me_X3_findOwner : zMe yX3_findOwner cX3_findOwner 2 (Option.some FieldType.int) 1 := ⟨zT_in 631 (by decide +kernel) rfl, zT_in 632 (by decide +kernel) rfl, zT_in 38 (by decide +kernel) rfl, zT_in 633 (by decide +kernel) rfl, ⟨by decide +kernel, by decide +kernel⟩, by decide +kernel⟩
theorem me_X3_findValue : zMe yX3_findValue cX3_findValue 4 (Option.some FieldType.int) 2 := ⟨zT_in 638 (by decide +kernel) rfl, zT_in 639 (by decide +kernel) rfl, zT_in 38 (by decide +kernel) rfl, zT_in 640 (by decide +kernel) rfl, ⟨by decide +kernel, by decide +kernel⟩, by decide +kernel⟩
theorem me_X2_firstWithValue : zMe yX2_firstWithValue cX2_firstWithValue 6 (Option.some FieldType.int) 3 := ⟨zT_in 642 (by decide +kernel) rfl, zT_in 643 (by decide +kernel) rfl, zT_in 52 (by decide +kernel) rfl, zT_in 644 (by decide +kernel) rfl, ⟨by decide +kernel, by decide +kernel⟩, by decide +kernel⟩
theorem me_X3_currentOf : zMe yX3_currentOf cX3_currentOf 2 (Option.some FieldType.int) 1 := ⟨zT_in 649 (by decide +kernel) rfl, zT_in 650 (by decide +kernel) rfl, zT_in 38 (by decide +kernel) rfl, zT_in 651 (by decide +kernel) rfl, ⟨by decide +kernel, by decide +kernel⟩, by decide +kernel⟩
theorem me_X3_currentIn : zMe yX3_currentIn cX3_currentIn 2 (Option.some FieldType.int) 1 := ⟨zT_in 656 (by decide +kernel) rfl, zT_in 657 (by decide +kernel) rfl, zT_in 38 (by decide +kernel) rfl, zT_in 658 (by decide +kernel) rfl, ⟨by decide +kernel, by decide +kernel⟩, by decide +kernel⟩
theorem me_X3_typeOf : zMe yX3_typeOf cX3_typeOf 2 (Option.some FieldType.int) 1 := ⟨zT_in 663 (by decide +kernel) rfl, zT_in 664 (by decide +kernel) rfl, zT_in 38 (by decide +kernel) rfl, zT_in 665 (by decide +kernel) rfl, ⟨by decide +kernel, by decide +kernel⟩, by decide +kernel⟩
theorem me_X3_requireRecord : zMe yX3_requireRecord cX3_requireRecord 2 (Option.none : Option FieldType) 1 := ⟨zT_in 668 (by decide +kernel) rfl, zT_in 20 (by decide +kernel) rfl, zT_in 38 (by decide +kernel) rfl, zT_in 669 (by decide +kernel) rfl, ⟨by decide +kernel, by decide +kernel⟩, by decide +kernel⟩
theorem me_X3_valueOf : zMe yX3_valueOf cX3_valueOf 2 (Option.some FieldType.int) 1 := ⟨zT_in 675 (by decide +kernel) rfl, zT_in 676 (by decide +kernel) rfl, zT_in 38 (by decide +kernel) rfl, zT_in 677 (by decide +kernel) rfl, ⟨by decide +kernel, by decide +kernel⟩, by decide +kernel⟩
theorem me_X3_ownerOf : zMe yX3_ownerOf cX3_ownerOf 4 (Option.some FieldType.int) 2 := ⟨zT_in 682 (by decide +kernel) rfl, zT_in 683 (by decide +kernel) rfl, zT_in 38 (by decide +kernel) rfl, zT_in 684 (by decide +kernel) rfl, ⟨by decide +kernel, by decide +kernel⟩, by decide +kernel⟩
theorem me_X3_members : zMe yX3_members cX3_members 4 (Option.some FieldType.int) 2 := ⟨zT_in 689 (by decide +kernel) rfl, zT_in 690 (by decide +kernel) rfl, zT_in 38 (by decide +kernel) rfl, zT_in 691 (by decide +kernel) rfl, ⟨by decide +kernel, by decide +kernel⟩, by decide +kernel⟩
theorem me_X3_membersByTable : zMe yX3_membersByTable cX3_membersByTable 4 (Option.some FieldType.int) 2 := ⟨zT_in 696 (by decide +kernel) rfl, zT_in 697 (by decide +kernel) rfl, zT_in 38 (by decide +kernel) rfl, zT_in 698 (by decide +kernel) rfl, ⟨by decide +kernel, by decide +kernel⟩, by decide +kernel⟩
theorem me_X2_countByTable : zMe yX2_countByTable cX2_countByTable 4 (Option.some FieldType.int) 1 := ⟨zT_in 700 (by decide +kernel) rfl, zT_in 701 (by decide +kernel) rfl, zT_in 52 (by decide +kernel) rfl, zT_in 702 (by decide +kernel) rfl, ⟨by decide +kernel, by decide +kernel⟩, by decide +kernel⟩
theorem me_X3_memberAt : zMe yX3_memberAt cX3_memberAt 5 (Option.some FieldType.int) 3 := ⟨zT_in 707 (by decide +kernel) rfl, zT_in 708 (by decide +kernel) rfl, zT_in 38 (by decide +kernel) rfl, zT_in 709 (by decide +kernel) rfl, ⟨by decide +kernel, by decide +kernel⟩, by decide +kernel⟩
theorem me_X2_memberByPlace : zMe yX2_memberByPlace cX2_memberByPlace 5 (Option.some FieldType.int) 2 := ⟨zT_in 713 (by decide +kernel) rfl, zT_in 714 (by decide +kernel) rfl, zT_in 52 (by decide +kernel) rfl, zT_in 715 (by decide +kernel) rfl, ⟨by decide +kernel, by decide +kernel⟩, by decide +kernel⟩
theorem me_X3_wouldErase : zMe yX3_wouldErase cX3_wouldErase 3 (Option.some FieldType.int) 2 := ⟨zT_in 720 (by decide +kernel) rfl, zT_in 721 (by decide +kernel) rfl, zT_in 38 (by decide +kernel) rfl, zT_in 722 (by decide +kernel) rfl, ⟨by decide +kernel, by decide +kernel⟩, by decide +kernel⟩
theorem mi_X4_init : zMi yX4_init cX4_init 2 0 := ⟨zT_in 726 (by decide +kernel) rfl, zT_in 46 (by decide +kernel) rfl, zT_in 727 (by decide +kernel) rfl, rfl, ⟨by decide +kernel, by decide +kernel⟩, by decide +kernel⟩
theorem me_X4_thrown : zMe yX4_thrown cX4_thrown 1 (Option.some FieldType.int) 0 := ⟨zT_in 789 (by decide +kernel) rfl, zT_in 790 (by decide +kernel) rfl, zT_in 46 (by decide +kernel) rfl, zT_in 791 (by decide +kernel) rfl, ⟨by decide +kernel, by decide +kernel⟩, by decide +kernel⟩
theorem me_X4_declare : zMe yX4_declare cX4_declare 7 (Option.some FieldType.int) 5 := ⟨zT_in 793 (by decide +kernel) rfl, zT_in 794 (by decide +kernel) rfl, zT_in 46 (by decide +kernel) rfl, zT_in 795 (by decide +kernel) rfl, ⟨by decide +kernel, by decide +kernel⟩, by decide +kernel⟩
theorem ms_X4_isIn : zMs yX4_isIn cX4_isIn 3 (Option.some FieldType.boolean) 3 := ⟨zT_in 797 (by decide +kernel) rfl, zT_in 46 (by decide +kernel) rfl, zT_in 798 (by decide +kernel) rfl, ⟨by decide +kernel, by decide +kernel⟩, by decide +kernel⟩
theorem me_X4_can : zMe yX4_can cX4_can 2 (Option.some FieldType.boolean) 1 := ⟨zT_in 801 (by decide +kernel) rfl, zT_in 21 (by decide +kernel) rfl, zT_in 46 (by decide +kernel) rfl, zT_in 802 (by decide +kernel) rfl, ⟨by decide +kernel, by decide +kernel⟩, by decide +kernel⟩
theorem me_X4_store : zMe yX4_store cX4_store 7 (Option.some FieldType.int) 2 := ⟨zT_in 804 (by decide +kernel) rfl, zT_in 805 (by decide +kernel) rfl, zT_in 46 (by decide +kernel) rfl, zT_in 806 (by decide +kernel) rfl, ⟨by decide +kernel, by decide +kernel⟩, by decide +kernel⟩
theorem me_X4_currentOwner : zMe yX4_currentOwner cX4_currentOwner 3 (Option.some FieldType.int) 1 := ⟨zT_in 809 (by decide +kernel) rfl, zT_in 22 (by decide +kernel) rfl, zT_in 46 (by decide +kernel) rfl, zT_in 810 (by decide +kernel) rfl, ⟨by decide +kernel, by decide +kernel⟩, by decide +kernel⟩
theorem me_X4_ownerIn : zMe yX4_ownerIn cX4_ownerIn 3 (Option.some FieldType.int) 2 := ⟨zT_in 813 (by decide +kernel) rfl, zT_in 23 (by decide +kernel) rfl, zT_in 46 (by decide +kernel) rfl, zT_in 814 (by decide +kernel) rfl, ⟨by decide +kernel, by decide +kernel⟩, by decide +kernel⟩
theorem me_X4_insert : zMe yX4_insert cX4_insert 6 (Option.none : Option FieldType) 3 := ⟨zT_in 817 (by decide +kernel) rfl, zT_in 24 (by decide +kernel) rfl, zT_in 46 (by decide +kernel) rfl, zT_in 818 (by decide +kernel) rfl, ⟨by decide +kernel, by decide +kernel⟩, by decide +kernel⟩
theorem me_X4_newPlace : zMe yX4_newPlace cX4_newPlace 7 (Option.some FieldType.int) 3 := ⟨zT_in 821 (by decide +kernel) rfl, zT_in 25 (by decide +kernel) rfl, zT_in 46 (by decide +kernel) rfl, zT_in 822 (by decide +kernel) rfl, ⟨by decide +kernel, by decide +kernel⟩, by decide +kernel⟩
theorem me_X4_placeOf : zMe yX4_placeOf cX4_placeOf 4 (Option.some FieldType.int) 2 := ⟨zT_in 825 (by decide +kernel) rfl, zT_in 26 (by decide +kernel) rfl, zT_in 46 (by decide +kernel) rfl, zT_in 826 (by decide +kernel) rfl, ⟨by decide +kernel, by decide +kernel⟩, by decide +kernel⟩
theorem me_X4_becomes : zMe yX4_becomes cX4_becomes 3 (Option.some FieldType.int) 1 := ⟨zT_in 829 (by decide +kernel) rfl, zT_in 27 (by decide +kernel) rfl, zT_in 46 (by decide +kernel) rfl, zT_in 830 (by decide +kernel) rfl, ⟨by decide +kernel, by decide +kernel⟩, by decide +kernel⟩
theorem me_X4_modify : zMe yX4_modify cX4_modify 5 (Option.some FieldType.int) 1 := ⟨zT_in 832 (by decide +kernel) rfl, zT_in 833 (by decide +kernel) rfl, zT_in 46 (by decide +kernel) rfl, zT_in 834 (by decide +kernel) rfl, ⟨by decide +kernel, by decide +kernel⟩, by decide +kernel⟩
theorem me_X4_takeOut : zMe yX4_takeOut cX4_takeOut 4 (Option.none : Option FieldType) 2 := ⟨zT_in 837 (by decide +kernel) rfl, zT_in 28 (by decide +kernel) rfl, zT_in 46 (by decide +kernel) rfl, zT_in 838 (by decide +kernel) rfl, ⟨by decide +kernel, by decide +kernel⟩, by decide +kernel⟩
theorem me_X4_erase : zMe yX4_erase cX4_erase 6 (Option.some FieldType.int) 1 := ⟨zT_in 840 (by decide +kernel) rfl, zT_in 841 (by decide +kernel) rfl, zT_in 46 (by decide +kernel) rfl, zT_in 842 (by decide +kernel) rfl, ⟨by decide +kernel, by decide +kernel⟩, by decide +kernel⟩
theorem me_X4_marks : zMe yX4_marks cX4_marks 7 (Option.some FieldType.int) 2 := ⟨zT_in 845 (by decide +kernel) rfl, zT_in 29 (by decide +kernel) rfl, zT_in 46 (by decide +kernel) rfl, zT_in 846 (by decide +kernel) rfl, ⟨by decide +kernel, by decide +kernel⟩, by decide +kernel⟩
theorem me_X4_isGone : zMe yX4_isGone cX4_isGone 2 (Option.some FieldType.boolean) 1 := ⟨zT_in 849 (by decide +kernel) rfl, zT_in 30 (by decide +kernel) rfl, zT_in 46 (by decide +kernel) rfl, zT_in 850 (by decide +kernel) rfl, ⟨by decide +kernel, by decide +kernel⟩, by decide +kernel⟩
theorem me_X4_connect : zMe yX4_connect cX4_connect 4 (Option.some FieldType.int) 1 := ⟨zT_in 852 (by decide +kernel) rfl, zT_in 853 (by decide +kernel) rfl, zT_in 46 (by decide +kernel) rfl, zT_in 854 (by decide +kernel) rfl, ⟨by decide +kernel, by decide +kernel⟩, by decide +kernel⟩
theorem me_X4_isSet : zMe yX4_isSet cX4_isSet 2 (Option.some FieldType.boolean) 1 := ⟨zT_in 857 (by decide +kernel) rfl, zT_in 31 (by decide +kernel) rfl, zT_in 46 (by decide +kernel) rfl, zT_in 858 (by decide +kernel) rfl, ⟨by decide +kernel, by decide +kernel⟩, by decide +kernel⟩
theorem me_X4_membersOf : zMe yX4_membersOf cX4_membersOf 5 (Option.some FieldType.int) 2 := ⟨zT_in 861 (by decide +kernel) rfl, zT_in 32 (by decide +kernel) rfl, zT_in 46 (by decide +kernel) rfl, zT_in 862 (by decide +kernel) rfl, ⟨by decide +kernel, by decide +kernel⟩, by decide +kernel⟩
theorem me_X4_disconnect : zMe yX4_disconnect cX4_disconnect 4 (Option.some FieldType.int) 1 := ⟨zT_in 864 (by decide +kernel) rfl, zT_in 865 (by decide +kernel) rfl, zT_in 46 (by decide +kernel) rfl, zT_in 866 (by decide +kernel) rfl, ⟨by decide +kernel, by decide +kernel⟩, by decide +kernel⟩
theorem me_X4_reconnect : zMe yX4_reconnect cX4_reconnect 5 (Option.some FieldType.int) 2 := ⟨zT_in 868 (by decide +kernel) rfl, zT_in 869 (by decide +kernel) rfl, zT_in 46 (by decide +kernel) rfl, zT_in 870 (by decide +kernel) rfl, ⟨by decide +kernel, by decide +kernel⟩, by decide +kernel⟩
theorem me_X4_isRecord : zMe yX4_isRecord cX4_isRecord 2 (Option.some FieldType.boolean) 1 := ⟨zT_in 873 (by decide +kernel) rfl, zT_in 33 (by decide +kernel) rfl, zT_in 46 (by decide +kernel) rfl, zT_in 874 (by decide +kernel) rfl, ⟨by decide +kernel, by decide +kernel⟩, by decide +kernel⟩
theorem me_X4_find : zMe yX4_find cX4_find 2 (Option.some FieldType.int) 1 := ⟨zT_in 876 (by decide +kernel) rfl, zT_in 877 (by decide +kernel) rfl, zT_in 46 (by decide +kernel) rfl, zT_in 878 (by decide +kernel) rfl, ⟨by decide +kernel, by decide +kernel⟩, by decide +kernel⟩
theorem me_X4_findOf : zMe yX4_findOf cX4_findOf 5 (Option.some FieldType.int) 2 := ⟨zT_in 880 (by decide +kernel) rfl, zT_in 881 (by decide +kernel) rfl, zT_in 46 (by decide +kernel) rfl, zT_in 882 (by decide +kernel) rfl, ⟨by decide +kernel, by decide +kernel⟩, by decide +kernel⟩
theorem me_X4_findEnd : zMe yX4_findEnd cX4_findEnd 4 (Option.some FieldType.int) 2 := ⟨zT_in 884 (by decide +kernel) rfl, zT_in 885 (by decide +kernel) rfl, zT_in 46 (by decide +kernel) rfl, zT_in 886 (by decide +kernel) rfl, ⟨by decide +kernel, by decide +kernel⟩, by decide +kernel⟩
theorem me_X4_memberOf : zMe yX4_memberOf cX4_memberOf 8 (Option.some FieldType.int) 3 := ⟨zT_in 889 (by decide +kernel) rfl, zT_in 34 (by decide +kernel) rfl, zT_in 46 (by decide +kernel) rfl, zT_in 890 (by decide +kernel) rfl, ⟨by decide +kernel, by decide +kernel⟩, by decide +kernel⟩
theorem me_X4_findNext : zMe yX4_findNext cX4_findNext 7 (Option.some FieldType.int) 2 := ⟨zT_in 892 (by decide +kernel) rfl, zT_in 893 (by decide +kernel) rfl, zT_in 46 (by decide +kernel) rfl, zT_in 894 (by decide +kernel) rfl, ⟨by decide +kernel, by decide +kernel⟩, by decide +kernel⟩
theorem me_X4_findOwner : zMe yX4_findOwner cX4_findOwner 2 (Option.some FieldType.int) 1 := ⟨zT_in 896 (by decide +kernel) rfl, zT_in 897 (by decide +kernel) rfl, zT_in 46 (by decide +kernel) rfl, zT_in 898 (by decide +kernel) rfl, ⟨by decide +kernel, by decide +kernel⟩, by decide +kernel⟩
theorem me_X4_findValue : zMe yX4_findValue cX4_findValue 7 (Option.some FieldType.int) 2 := ⟨zT_in 900 (by decide +kernel) rfl, zT_in 901 (by decide +kernel) rfl, zT_in 46 (by decide +kernel) rfl, zT_in 902 (by decide +kernel) rfl, ⟨by decide +kernel, by decide +kernel⟩, by decide +kernel⟩
theorem me_X4_setTypes : zMe yX4_setTypes cX4_setTypes 1 (Option.some FieldType.int) 0 := ⟨zT_in 904 (by decide +kernel) rfl, zT_in 905 (by decide +kernel) rfl, zT_in 46 (by decide +kernel) rfl, zT_in 906 (by decide +kernel) rfl, ⟨by decide +kernel, by decide +kernel⟩, by decide +kernel⟩
theorem me_X4_records : zMe yX4_records cX4_records 1 (Option.some FieldType.int) 0 := ⟨zT_in 908 (by decide +kernel) rfl, zT_in 909 (by decide +kernel) rfl, zT_in 46 (by decide +kernel) rfl, zT_in 910 (by decide +kernel) rfl, ⟨by decide +kernel, by decide +kernel⟩, by decide +kernel⟩
theorem me_X4_current : zMe yX4_current cX4_current 1 (Option.some FieldType.int) 0 := ⟨zT_in 912 (by decide +kernel) rfl, zT_in 913 (by decide +kernel) rfl, zT_in 46 (by decide +kernel) rfl, zT_in 914 (by decide +kernel) rfl, ⟨by decide +kernel, by decide +kernel⟩, by decide +kernel⟩
theorem me_X4_currentOf : zMe yX4_currentOf cX4_currentOf 2 (Option.some FieldType.int) 1 := ⟨zT_in 916 (by decide +kernel) rfl, zT_in 917 (by decide +kernel) rfl, zT_in 46 (by decide +kernel) rfl, zT_in 918 (by decide +kernel) rfl, ⟨by decide +kernel, by decide +kernel⟩, by decide +kernel⟩
theorem me_X4_currentIn : zMe yX4_currentIn cX4_currentIn 2 (Option.some FieldType.int) 1 := ⟨zT_in 920 (by decide +kernel) rfl, zT_in 921 (by decide +kernel) rfl, zT_in 46 (by decide +kernel) rfl, zT_in 922 (by decide +kernel) rfl, ⟨by decide +kernel, by decide +kernel⟩, by decide +kernel⟩
theorem me_X4_typeOf : zMe yX4_typeOf cX4_typeOf 2 (Option.some FieldType.int) 1 := ⟨zT_in 924 (by decide +kernel) rfl, zT_in 925 (by decide +kernel) rfl, zT_in 46 (by decide +kernel) rfl, zT_in 926 (by decide +kernel) rfl, ⟨by decide +kernel, by decide +kernel⟩, by decide +kernel⟩
theorem me_X4_valueOf : zMe yX4_valueOf cX4_valueOf 2 (Option.some FieldType.int) 1 := ⟨zT_in 928 (by decide +kernel) rfl, zT_in 929 (by decide +kernel) rfl, zT_in 46 (by decide +kernel) rfl, zT_in 930 (by decide +kernel) rfl, ⟨by decide +kernel, by decide +kernel⟩, by decide +kernel⟩
theorem me_X4_ownerOf : zMe yX4_ownerOf cX4_ownerOf 3 (Option.some FieldType.int) 2 := ⟨zT_in 932 (by decide +kernel) rfl, zT_in 933 (by decide +kernel) rfl, zT_in 46 (by decide +kernel) rfl, zT_in 934 (by decide +kernel) rfl, ⟨by decide +kernel, by decide +kernel⟩, by decide +kernel⟩
theorem me_X4_areAsked : zMe yX4_areAsked cX4_areAsked 3 (Option.some FieldType.boolean) 2 := ⟨zT_in 937 (by decide +kernel) rfl, zT_in 35 (by decide +kernel) rfl, zT_in 46 (by decide +kernel) rfl, zT_in 938 (by decide +kernel) rfl, ⟨by decide +kernel, by decide +kernel⟩, by decide +kernel⟩
theorem me_X4_members : zMe yX4_members cX4_members 3 (Option.some FieldType.int) 2 := ⟨zT_in 940 (by decide +kernel) rfl, zT_in 941 (by decide +kernel) rfl, zT_in 46 (by decide +kernel) rfl, zT_in 942 (by decide +kernel) rfl, ⟨by decide +kernel, by decide +kernel⟩, by decide +kernel⟩
theorem me_X4_countOf : zMe yX4_countOf cX4_countOf 3 (Option.some FieldType.int) 2 := ⟨zT_in 945 (by decide +kernel) rfl, zT_in 36 (by decide +kernel) rfl, zT_in 46 (by decide +kernel) rfl, zT_in 946 (by decide +kernel) rfl, ⟨by decide +kernel, by decide +kernel⟩, by decide +kernel⟩
theorem me_X4_membersByTable : zMe yX4_membersByTable cX4_membersByTable 3 (Option.some FieldType.int) 2 := ⟨zT_in 948 (by decide +kernel) rfl, zT_in 949 (by decide +kernel) rfl, zT_in 46 (by decide +kernel) rfl, zT_in 950 (by decide +kernel) rfl, ⟨by decide +kernel, by decide +kernel⟩, by decide +kernel⟩
theorem me_X4_memberAt : zMe yX4_memberAt cX4_memberAt 5 (Option.some FieldType.int) 3 := ⟨zT_in 952 (by decide +kernel) rfl, zT_in 953 (by decide +kernel) rfl, zT_in 46 (by decide +kernel) rfl, zT_in 954 (by decide +kernel) rfl, ⟨by decide +kernel, by decide +kernel⟩, by decide +kernel⟩
theorem me_X4_wouldErase : zMe yX4_wouldErase cX4_wouldErase 3 (Option.some FieldType.int) 2 := ⟨zT_in 956 (by decide +kernel) rfl, zT_in 957 (by decide +kernel) rfl, zT_in 46 (by decide +kernel) rfl, zT_in 958 (by decide +kernel) rfl, ⟨by decide +kernel, by decide +kernel⟩, by decide +kernel⟩
set_option maxRecDepth 20000 in
theorem fw_Jx4a65c : ∀ w ∈ u_ws RJx4a65c TJx4a65c 3, w ∈ zT := zT_sub (goodIn_r _ [89, 85, 87] (by decide +kernel) (by decide +kernel)) (by decide +kernel)
set_option maxRecDepth 20000 in
theorem fw_X0 : ∀ w ∈ u_ws RX0 TX0 3, w ∈ zT := zT_sub (goodIn_r _ [121, 123, 125] (by decide +kernel) (by decide +kernel)) (by decide +kernel)
set_option maxRecDepth 20000 in
theorem fw_X1 : ∀ w ∈ u_ws RX1 TX1 1, w ∈ zT := zT_sub (goodIn_r _ [105] (by decide +kernel) (by decide +kernel)) (by decide +kernel)
set_option maxRecDepth 20000 in
theorem fw_X2 : ∀ w ∈ u_ws RX2 TX2 9, w ∈ zT := zT_sub (goodIn_r _ [321, 323, 325, 327, 329, 331, 333, 335, 337] (by decide +kernel) (by decide +kernel)) (by decide +kernel)
set_option maxRecDepth 20000 in
theorem fw_X3 : ∀ w ∈ u_ws RX3 TX3 8, w ∈ zT := zT_sub (goodIn_r _ [136, 138, 140, 142, 144, 146, 148, 150] (by decide +kernel) (by decide +kernel)) (by decide +kernel)
set_option maxRecDepth 20000 in
theorem fw_X4 : ∀ w ∈ u_ws RX4 TX4 19, w ∈ zT := zT_sub (goodIn_r _ [748, 750, 752, 754, 756, 758, 760, 762, 764, 766, 768, 770, 772, 774, 776, 778, 780, 782, 784] (by decide +kernel) (by decide +kernel)) (by decide +kernel)
theorem lc_L_8 : Cond.classLink RL 8 RX3 ∈ zT := zT_in 58 (by decide +kernel) rfl
theorem lk_L_83 : Cond.methodLink RL 83 yX3_init ∈ zT := zT_in 60 (by decide +kernel) rfl
theorem lc_X3_7 : Cond.classLink RX3 7 RJx4a65c ∈ zT := zT_in 66 (by decide +kernel) rfl
theorem lk_X3_9 : Cond.methodLink RX3 9 yJx4a65c_init_da8c8 ∈ zT := zT_in 68 (by decide +kernel) rfl
theorem lk_Jx4a65c_1 : Cond.methodLink RJx4a65c 1 yJxc12de_init_da8c8 ∈ zT := zT_in 71 (by decide +kernel) rfl
theorem lk_Jxc12de_1 : Cond.methodLink RJxc12de 1 yJxa1e45_init_da8c8 ∈ zT := zT_in 74 (by decide +kernel) rfl
theorem lf_Jx4a65c_9 : zLf RJx4a65c 9 0 1 RJx4a65c TJx4a65c 3 := ⟨by decide, zT_in 80 (by decide +kernel) rfl, rfl, fw_Jx4a65c⟩
theorem lf_Jx4a65c_48 : zLf RJx4a65c 48 0 2 RJx4a65c TJx4a65c 3 := ⟨by decide, zT_in 81 (by decide +kernel) rfl, rfl, fw_Jx4a65c⟩
theorem lc_X3_16 : Cond.classLink RX3 16 RX1 ∈ zT := zT_in 92 (by decide +kernel) rfl
theorem lk_X3_18 : Cond.methodLink RX3 18 yX1_init ∈ zT := zT_in 94 (by decide +kernel) rfl
theorem lk_X1_9 : Cond.methodLink RX1 9 yJ9_max_7cf53 ∈ zT := zT_in 98 (by decide +kernel) rfl
theorem lk_X1_21 : Cond.methodLink RX1 21 yJ7_fill_53178 ∈ zT := zT_in 101 (by decide +kernel) rfl
theorem lf_X1_15 : zLf RX1 15 2 0 RX1 TX1 1 := ⟨by decide, zT_in 104 (by decide +kernel) rfl, rfl, fw_X1⟩
theorem lc_X3_31 : Cond.classLink RX3 31 RX0 ∈ zT := zT_in 109 (by decide +kernel) rfl
theorem lc_X0_9 : Cond.classLink RX0 9 RX1 ∈ zT := zT_in 115 (by decide +kernel) rfl
theorem lk_X0_11 : Cond.methodLink RX0 11 yX1_init ∈ zT := zT_in 116 (by decide +kernel) rfl
theorem lf_X0_14 : zLf RX0 14 1 0 RX0 TX0 3 := ⟨by decide, zT_in 117 (by decide +kernel) rfl, rfl, fw_X0⟩
theorem lf_X0_20 : zLf RX0 20 1 1 RX0 TX0 3 := ⟨by decide, zT_in 118 (by decide +kernel) rfl, rfl, fw_X0⟩
theorem lf_X0_23 : zLf RX0 23 1 2 RX0 TX0 3 := ⟨by decide, zT_in 119 (by decide +kernel) rfl, rfl, fw_X0⟩
theorem lf_X3_10 : zLf RX3 10 4 0 RX3 TX3 8 := ⟨by decide, zT_in 128 (by decide +kernel) rfl, rfl, fw_X3⟩
theorem lf_X3_21 : zLf RX3 21 4 1 RX3 TX3 8 := ⟨by decide, zT_in 129 (by decide +kernel) rfl, rfl, fw_X3⟩
theorem lf_X3_25 : zLf RX3 25 4 2 RX3 TX3 8 := ⟨by decide, zT_in 130 (by decide +kernel) rfl, rfl, fw_X3⟩
theorem lf_X3_28 : zLf RX3 28 4 3 RX3 TX3 8 := ⟨by decide, zT_in 131 (by decide +kernel) rfl, rfl, fw_X3⟩
theorem lf_X3_34 : zLf RX3 34 4 4 RX3 TX3 8 := ⟨by decide, zT_in 132 (by decide +kernel) rfl, rfl, fw_X3⟩
theorem lf_X3_38 : zLf RX3 38 4 5 RX3 TX3 8 := ⟨by decide, zT_in 133 (by decide +kernel) rfl, rfl, fw_X3⟩
theorem lf_X3_42 : zLf RX3 42 4 6 RX3 TX3 8 := ⟨by decide, zT_in 134 (by decide +kernel) rfl, rfl, fw_X3⟩
theorem lf_X3_45 : zLf RX3 45 4 7 RX3 TX3 8 := ⟨by decide, zT_in 135 (by decide +kernel) rfl, rfl, fw_X3⟩
theorem lk_L_117 : Cond.methodLink RL 117 yX3_find ∈ zT := zT_in 153 (by decide +kernel) rfl
theorem lk_X3_105 : Cond.methodLink RX3 105 yX3_makeCurrent ∈ zT := zT_in 157 (by decide +kernel) rfl
theorem lk_X3_112 : Cond.methodLink RX3 112 yX1_at ∈ zT := zT_in 161 (by decide +kernel) rfl
theorem lk_X3_93 : Cond.methodLink RX3 93 yX1_put ∈ zT := zT_in 165 (by decide +kernel) rfl
theorem lk_X3_62 : Cond.methodLink RX3 62 yJx4a65c_size_8abf5 ∈ zT := zT_in 169 (by decide +kernel) rfl
theorem lk_X3_97 : Cond.methodLink RX3 97 yJx4a65c_get_915e3 ∈ zT := zT_in 173 (by decide +kernel) rfl
theorem lk_Jx4a65c_118 : Cond.methodLink RJx4a65c 118 yJ15_checkIndex_7cf53 ∈ zT := zT_in 177 (by decide +kernel) rfl
theorem lk_J15_105 : Cond.methodLink RJ15 105 yJ3_checkIndex_8e157 ∈ zT := zT_in 180 (by decide +kernel) rfl
theorem lk_Jx4a65c_123 : Cond.methodLink RJx4a65c 123 yJx4a65c_elementData_915e3 ∈ zT := zT_in 183 (by decide +kernel) rfl
theorem lc_X3_73 : Cond.classLink RX3 73 RX2 ∈ zT := zT_in 187 (by decide +kernel) rfl
theorem lk_L_137 : Cond.methodLink RL 137 yX3_setTypes ∈ zT := zT_in 188 (by decide +kernel) rfl
theorem lk_L_141 : Cond.methodLink RL 141 yX3_records ∈ zT := zT_in 192 (by decide +kernel) rfl
theorem lk_L_145 : Cond.methodLink RL 145 yX3_current ∈ zT := zT_in 196 (by decide +kernel) rfl
theorem lk_L_87 : Cond.methodLink RL 87 yL_declare ∈ zT := zT_in 200 (by decide +kernel) rfl
theorem lc_L_13 : Cond.classLink RL 13 "java/lang/IllegalArgumentException" ∈ zT := zT_in 203 (by decide +kernel) rfl
theorem lc_L_15 : Cond.classLink RL 15 "java/lang/IllegalStateException" ∈ zT := zT_in 204 (by decide +kernel) rfl
theorem lk_L_7 : Cond.methodLink RL 7 yX3_declare ∈ zT := zT_in 205 (by decide +kernel) rfl
theorem lk_X3_48 : Cond.methodLink RX3 48 yX3_requireType ∈ zT := zT_in 209 (by decide +kernel) rfl
theorem lc_X3_51 : Cond.classLink RX3 51 "java/lang/IllegalArgumentException" ∈ zT := zT_in 213 (by decide +kernel) rfl
theorem lc_X3_66 : Cond.classLink RX3 66 "java/lang/IllegalStateException" ∈ zT := zT_in 284 (by decide +kernel) rfl
theorem lk_X3_75 : Cond.methodLink RX3 75 yX2_init ∈ zT := zT_in 302 (by decide +kernel) rfl
theorem lc_X2_9 : Cond.classLink RX2 9 RX1 ∈ zT := zT_in 306 (by decide +kernel) rfl
theorem lk_X2_11 : Cond.methodLink RX2 11 yX1_init ∈ zT := zT_in 307 (by decide +kernel) rfl
theorem lf_X2_30 : zLf RX2 30 3 0 RX2 TX2 9 := ⟨by decide, zT_in 308 (by decide +kernel) rfl, rfl, fw_X2⟩
theorem lf_X2_33 : zLf RX2 33 3 1 RX2 TX2 9 := ⟨by decide, zT_in 309 (by decide +kernel) rfl, rfl, fw_X2⟩
theorem lf_X2_36 : zLf RX2 36 3 2 RX2 TX2 9 := ⟨by decide, zT_in 311 (by decide +kernel) rfl, rfl, fw_X2⟩
theorem lf_X2_39 : zLf RX2 39 3 3 RX2 TX2 9 := ⟨by decide, zT_in 312 (by decide +kernel) rfl, rfl, fw_X2⟩
theorem lf_X2_43 : zLf RX2 43 3 4 RX2 TX2 9 := ⟨by decide, zT_in 313 (by decide +kernel) rfl, rfl, fw_X2⟩
theorem lf_X2_14 : zLf RX2 14 3 5 RX2 TX2 9 := ⟨by decide, zT_in 315 (by decide +kernel) rfl, rfl, fw_X2⟩
theorem lf_X2_20 : zLf RX2 20 3 6 RX2 TX2 9 := ⟨by decide, zT_in 317 (by decide +kernel) rfl, rfl, fw_X2⟩
theorem lf_X2_23 : zLf RX2 23 3 7 RX2 TX2 9 := ⟨by decide, zT_in 318 (by decide +kernel) rfl, rfl, fw_X2⟩
theorem lf_X2_26 : zLf RX2 26 3 8 RX2 TX2 9 := ⟨by decide, zT_in 319 (by decide +kernel) rfl, rfl, fw_X2⟩
theorem lk_X3_78 : Cond.methodLink RX3 78 yJx4a65c_add_9ea2d ∈ zT := zT_in 340 (by decide +kernel) rfl
theorem lk_Jx4a65c_131 : Cond.methodLink RJx4a65c 131 yJx4a65c_add_72be8 ∈ zT := zT_in 344 (by decide +kernel) rfl
theorem lk_Jx4a65c_129 : Cond.methodLink RJx4a65c 129 yJx4a65c_grow_d5877 ∈ zT := zT_in 348 (by decide +kernel) rfl
theorem lk_Jx4a65c_69 : Cond.methodLink RJx4a65c 69 yJx4a65c_grow_92f84 ∈ zT := zT_in 352 (by decide +kernel) rfl
theorem lk_Jx4a65c_73 : Cond.methodLink RJx4a65c 73 yJ8_newLength_cabcc ∈ zT := zT_in 356 (by decide +kernel) rfl
theorem lk_J8_194 : Cond.methodLink RJ8 194 yJ9_max_7cf53 ∈ zT := zT_in 359 (by decide +kernel) rfl
theorem lk_J8_201 : Cond.methodLink RJ8 201 yJ8_hugeLength_7cf53 ∈ zT := zT_in 361 (by decide +kernel) rfl
theorem lk_Jx4a65c_66 : Cond.methodLink RJx4a65c 66 yJ7_copyOf_1904c ∈ zT := zT_in 364 (by decide +kernel) rfl
theorem lk_J7_300 : Cond.methodLink RJ7 300 yJ7_copyOf_6403c ∈ zT := zT_in 380 (by decide +kernel) rfl
theorem lc_J7_110 : Cond.classLink RJ7 110 "[Ljava/lang/Object;" ∈ zT := zT_in 383 (by decide +kernel) rfl
theorem lc_J7_2 : Cond.classLink RJ7 2 "java/lang/Object" ∈ zT := zT_in 385 (by decide +kernel) rfl
theorem lk_J7_304 : Cond.methodLink RJ7 304 yJ9_min_7cf53 ∈ zT := zT_in 386 (by decide +kernel) rfl
theorem lk_Jx4a65c_79 : Cond.methodLink RJx4a65c 79 yJ9_max_7cf53 ∈ zT := zT_in 392 (by decide +kernel) rfl
theorem lc_Jx4a65c_7 : Cond.classLink RJx4a65c 7 "java/lang/Object" ∈ zT := zT_in 393 (by decide +kernel) rfl
theorem lk_L_97 : Cond.methodLink RL 97 yL_store ∈ zT := zT_in 394 (by decide +kernel) rfl
theorem lk_L_17 : Cond.methodLink RL 17 yX3_store ∈ zT := zT_in 397 (by decide +kernel) rfl
theorem lk_X3_82 : Cond.methodLink RX3 82 yX3_requireValue ∈ zT := zT_in 401 (by decide +kernel) rfl
theorem lk_X3_87 : Cond.methodLink RX3 87 yX3_lacksSetFor ∈ zT := zT_in 407 (by decide +kernel) rfl
theorem lk_X3_223 : Cond.methodLink RX3 223 yX2_takesAtStore ∈ zT := zT_in 411 (by decide +kernel) rfl
theorem lk_X3_101 : Cond.methodLink RX3 101 yX2_admit ∈ zT := zT_in 416 (by decide +kernel) rfl
theorem lk_X2_50 : Cond.methodLink RX2 50 yX1_put ∈ zT := zT_in 420 (by decide +kernel) rfl
theorem lk_X2_54 : Cond.methodLink RX2 54 yX2_link ∈ zT := zT_in 421 (by decide +kernel) rfl
theorem lk_X2_57 : Cond.methodLink RX2 57 yX2_takesAtStore ∈ zT := zT_in 425 (by decide +kernel) rfl
theorem lk_X2_61 : Cond.methodLink RX2 61 yX2_currentOwner ∈ zT := zT_in 426 (by decide +kernel) rfl
theorem lk_X2_46 : Cond.methodLink RX2 46 yX1_at ∈ zT := zT_in 430 (by decide +kernel) rfl
theorem lk_X2_65 : Cond.methodLink RX2 65 yX2_insert ∈ zT := zT_in 431 (by decide +kernel) rfl
theorem lk_X2_69 : Cond.methodLink RX2 69 yX2_frontFor ∈ zT := zT_in 435 (by decide +kernel) rfl
theorem lk_X2_73 : Cond.methodLink RX2 73 yX2_frontBySorting ∈ zT := zT_in 439 (by decide +kernel) rfl
theorem lk_L_101 : Cond.methodLink RL 101 yL_modify ∈ zT := zT_in 443 (by decide +kernel) rfl
theorem lk_L_21 : Cond.methodLink RL 21 yX3_modify ∈ zT := zT_in 446 (by decide +kernel) rfl
theorem lk_X3_109 : Cond.methodLink RX3 109 yX3_requireRunUnit ∈ zT := zT_in 450 (by decide +kernel) rfl
theorem lk_X3_115 : Cond.methodLink RX3 115 yX2_sortAnew ∈ zT := zT_in 455 (by decide +kernel) rfl
theorem lk_X2_79 : Cond.methodLink RX2 79 yX2_isMember ∈ zT := zT_in 459 (by decide +kernel) rfl
theorem lk_X2_76 : Cond.methodLink RX2 76 yX2_takeOut ∈ zT := zT_in 463 (by decide +kernel) rfl
theorem lk_L_105 : Cond.methodLink RL 105 yL_erase ∈ zT := zT_in 467 (by decide +kernel) rfl
theorem lk_L_25 : Cond.methodLink RL 25 yX3_erase ∈ zT := zT_in 470 (by decide +kernel) rfl
theorem lk_X3_119 : Cond.methodLink RX3 119 yX3_requireWay ∈ zT := zT_in 474 (by decide +kernel) rfl
theorem lk_X3_122 : Cond.methodLink RX3 122 yX3_gatherDoomed ∈ zT := zT_in 479 (by decide +kernel) rfl
theorem lk_X3_226 : Cond.methodLink RX3 226 yX3_hasMembers ∈ zT := zT_in 483 (by decide +kernel) rfl
theorem lk_X3_175 : Cond.methodLink RX3 175 yX2_owns ∈ zT := zT_in 487 (by decide +kernel) rfl
theorem lk_X3_157 : Cond.methodLink RX3 157 yX2_countByRing ∈ zT := zT_in 491 (by decide +kernel) rfl
theorem lk_X3_229 : Cond.methodLink RX3 229 yX0_clear ∈ zT := zT_in 495 (by decide +kernel) rfl
theorem lk_X0_27 : Cond.methodLink RX0 27 yX1_clear ∈ zT := zT_in 499 (by decide +kernel) rfl
theorem lk_X3_232 : Cond.methodLink RX3 232 yX0_add ∈ zT := zT_in 503 (by decide +kernel) rfl
theorem lk_X0_30 : Cond.methodLink RX0 30 yX1_at ∈ zT := zT_in 507 (by decide +kernel) rfl
theorem lk_X0_34 : Cond.methodLink RX0 34 yX1_put ∈ zT := zT_in 508 (by decide +kernel) rfl
theorem lk_X3_128 : Cond.methodLink RX3 128 yX0_at ∈ zT := zT_in 509 (by decide +kernel) rfl
theorem lk_X3_236 : Cond.methodLink RX3 236 yX3_gatherMembers ∈ zT := zT_in 513 (by decide +kernel) rfl
theorem lk_X3_239 : Cond.methodLink RX3 239 yX2_erasesMembers ∈ zT := zT_in 517 (by decide +kernel) rfl
theorem lk_X3_242 : Cond.methodLink RX3 242 yX2_gather ∈ zT := zT_in 521 (by decide +kernel) rfl
theorem lk_X2_91 : Cond.methodLink RX2 91 yX0_add ∈ zT := zT_in 525 (by decide +kernel) rfl
theorem lk_X3_129 : Cond.methodLink RX3 129 yX3_remove ∈ zT := zT_in 527 (by decide +kernel) rfl
theorem lk_X3_246 : Cond.methodLink RX3 246 yX2_forget ∈ zT := zT_in 531 (by decide +kernel) rfl
theorem lk_X2_82 : Cond.methodLink RX2 82 yX2_owns ∈ zT := zT_in 535 (by decide +kernel) rfl
theorem lk_X2_85 : Cond.methodLink RX2 85 yX2_releaseMembers ∈ zT := zT_in 536 (by decide +kernel) rfl
theorem lk_X2_88 : Cond.methodLink RX2 88 yX2_release ∈ zT := zT_in 540 (by decide +kernel) rfl
theorem lk_L_108 : Cond.methodLink RL 108 yL_connect ∈ zT := zT_in 544 (by decide +kernel) rfl
theorem lc_L_31 : Cond.classLink RL 31 "java/lang/IndexOutOfBoundsException" ∈ zT := zT_in 547 (by decide +kernel) rfl
theorem lk_L_28 : Cond.methodLink RL 28 yX3_connect ∈ zT := zT_in 548 (by decide +kernel) rfl
theorem lk_X3_132 : Cond.methodLink RX3 132 yX3_requireSet ∈ zT := zT_in 552 (by decide +kernel) rfl
theorem lc_X3_178 : Cond.classLink RX3 178 "java/lang/IndexOutOfBoundsException" ∈ zT := zT_in 556 (by decide +kernel) rfl
theorem lk_X3_141 : Cond.methodLink RX3 141 yX2_isMember ∈ zT := zT_in 573 (by decide +kernel) rfl
theorem lk_X3_146 : Cond.methodLink RX3 146 yX2_currentOwner ∈ zT := zT_in 575 (by decide +kernel) rfl
theorem lk_X3_151 : Cond.methodLink RX3 151 yX2_insert ∈ zT := zT_in 577 (by decide +kernel) rfl
theorem lk_L_111 : Cond.methodLink RL 111 yL_disconnect ∈ zT := zT_in 578 (by decide +kernel) rfl
theorem lk_L_33 : Cond.methodLink RL 33 yX3_disconnect ∈ zT := zT_in 581 (by decide +kernel) rfl
theorem lk_X3_160 : Cond.methodLink RX3 160 yX3_requireMembership ∈ zT := zT_in 585 (by decide +kernel) rfl
theorem lk_X3_172 : Cond.methodLink RX3 172 yX2_release ∈ zT := zT_in 591 (by decide +kernel) rfl
theorem lk_L_114 : Cond.methodLink RL 114 yL_reconnect ∈ zT := zT_in 592 (by decide +kernel) rfl
theorem lk_L_36 : Cond.methodLink RL 36 yX3_reconnect ∈ zT := zT_in 595 (by decide +kernel) rfl
theorem lk_X3_185 : Cond.methodLink RX3 185 yX2_takeOut ∈ zT := zT_in 601 (by decide +kernel) rfl
theorem lk_L_121 : Cond.methodLink RL 121 yL_findOf ∈ zT := zT_in 602 (by decide +kernel) rfl
theorem lk_L_39 : Cond.methodLink RL 39 yX3_findOf ∈ zT := zT_in 605 (by decide +kernel) rfl
theorem lk_L_125 : Cond.methodLink RL 125 yL_findEnd ∈ zT := zT_in 609 (by decide +kernel) rfl
theorem lk_L_43 : Cond.methodLink RL 43 yX3_findEnd ∈ zT := zT_in 612 (by decide +kernel) rfl
theorem lk_X3_188 : Cond.methodLink RX3 188 yX2_neighbour ∈ zT := zT_in 616 (by decide +kernel) rfl
theorem lk_L_128 : Cond.methodLink RL 128 yL_findNext ∈ zT := zT_in 620 (by decide +kernel) rfl
theorem lk_L_46 : Cond.methodLink RL 46 yX3_findNext ∈ zT := zT_in 623 (by decide +kernel) rfl
theorem lk_L_131 : Cond.methodLink RL 131 yL_findOwner ∈ zT := zT_in 627 (by decide +kernel) rfl
theorem lk_L_49 : Cond.methodLink RL 49 yX3_findOwner ∈ zT := zT_in 630 (by decide +kernel) rfl
theorem lk_L_134 : Cond.methodLink RL 134 yL_findValue ∈ zT := zT_in 634 (by decide +kernel) rfl
theorem lk_L_52 : Cond.methodLink RL 52 yX3_findValue ∈ zT := zT_in 637 (by decide +kernel) rfl
theorem lk_X3_192 : Cond.methodLink RX3 192 yX2_firstWithValue ∈ zT := zT_in 641 (by decide +kernel) rfl
theorem lk_L_149 : Cond.methodLink RL 149 yL_currentOf ∈ zT := zT_in 645 (by decide +kernel) rfl
theorem lk_L_55 : Cond.methodLink RL 55 yX3_currentOf ∈ zT := zT_in 648 (by decide +kernel) rfl
theorem lk_L_152 : Cond.methodLink RL 152 yL_currentIn ∈ zT := zT_in 652 (by decide +kernel) rfl
theorem lk_L_58 : Cond.methodLink RL 58 yX3_currentIn ∈ zT := zT_in 655 (by decide +kernel) rfl
theorem lk_L_155 : Cond.methodLink RL 155 yL_typeOf ∈ zT := zT_in 659 (by decide +kernel) rfl
theorem lk_L_61 : Cond.methodLink RL 61 yX3_typeOf ∈ zT := zT_in 662 (by decide +kernel) rfl
theorem lk_X3_196 : Cond.methodLink RX3 196 yX3_requireRecord ∈ zT := zT_in 666 (by decide +kernel) rfl
theorem lk_L_158 : Cond.methodLink RL 158 yL_valueOf ∈ zT := zT_in 671 (by decide +kernel) rfl
theorem lk_L_64 : Cond.methodLink RL 64 yX3_valueOf ∈ zT := zT_in 674 (by decide +kernel) rfl
theorem lk_L_161 : Cond.methodLink RL 161 yL_ownerOf ∈ zT := zT_in 678 (by decide +kernel) rfl
theorem lk_L_67 : Cond.methodLink RL 67 yX3_ownerOf ∈ zT := zT_in 681 (by decide +kernel) rfl
theorem lk_L_164 : Cond.methodLink RL 164 yL_members ∈ zT := zT_in 685 (by decide +kernel) rfl
theorem lk_L_70 : Cond.methodLink RL 70 yX3_members ∈ zT := zT_in 688 (by decide +kernel) rfl
theorem lk_L_167 : Cond.methodLink RL 167 yL_membersByTable ∈ zT := zT_in 692 (by decide +kernel) rfl
theorem lk_L_73 : Cond.methodLink RL 73 yX3_membersByTable ∈ zT := zT_in 695 (by decide +kernel) rfl
theorem lk_X3_199 : Cond.methodLink RX3 199 yX2_countByTable ∈ zT := zT_in 699 (by decide +kernel) rfl
theorem lk_L_170 : Cond.methodLink RL 170 yL_memberAt ∈ zT := zT_in 703 (by decide +kernel) rfl
theorem lk_L_76 : Cond.methodLink RL 76 yX3_memberAt ∈ zT := zT_in 706 (by decide +kernel) rfl
theorem lk_X3_206 : Cond.methodLink RX3 206 yX2_memberByPlace ∈ zT := zT_in 712 (by decide +kernel) rfl
theorem lk_L_174 : Cond.methodLink RL 174 yL_wouldErase ∈ zT := zT_in 716 (by decide +kernel) rfl
theorem lk_L_80 : Cond.methodLink RL 80 yX3_wouldErase ∈ zT := zT_in 719 (by decide +kernel) rfl
theorem lc_L_84 : Cond.classLink RL 84 RX4 ∈ zT := zT_in 723 (by decide +kernel) rfl
theorem lk_L_86 : Cond.methodLink RL 86 yX4_init ∈ zT := zT_in 725 (by decide +kernel) rfl
theorem lf_X4_60 : zLf RX4 60 5 0 RX4 TX4 19 := ⟨by decide, zT_in 729 (by decide +kernel) rfl, rfl, fw_X4⟩
theorem lf_X4_7 : zLf RX4 7 5 1 RX4 TX4 19 := ⟨by decide, zT_in 730 (by decide +kernel) rfl, rfl, fw_X4⟩
theorem lf_X4_13 : zLf RX4 13 5 2 RX4 TX4 19 := ⟨by decide, zT_in 731 (by decide +kernel) rfl, rfl, fw_X4⟩
theorem lf_X4_16 : zLf RX4 16 5 3 RX4 TX4 19 := ⟨by decide, zT_in 732 (by decide +kernel) rfl, rfl, fw_X4⟩
theorem lf_X4_19 : zLf RX4 19 5 4 RX4 TX4 19 := ⟨by decide, zT_in 733 (by decide +kernel) rfl, rfl, fw_X4⟩
theorem lf_X4_23 : zLf RX4 23 5 5 RX4 TX4 19 := ⟨by decide, zT_in 734 (by decide +kernel) rfl, rfl, fw_X4⟩
theorem lf_X4_67 : zLf RX4 67 5 6 RX4 TX4 19 := ⟨by decide, zT_in 735 (by decide +kernel) rfl, rfl, fw_X4⟩
theorem lf_X4_85 : zLf RX4 85 5 7 RX4 TX4 19 := ⟨by decide, zT_in 736 (by decide +kernel) rfl, rfl, fw_X4⟩
theorem lf_X4_26 : zLf RX4 26 5 8 RX4 TX4 19 := ⟨by decide, zT_in 737 (by decide +kernel) rfl, rfl, fw_X4⟩
theorem lf_X4_29 : zLf RX4 29 5 9 RX4 TX4 19 := ⟨by decide, zT_in 738 (by decide +kernel) rfl, rfl, fw_X4⟩
theorem lf_X4_32 : zLf RX4 32 5 10 RX4 TX4 19 := ⟨by decide, zT_in 739 (by decide +kernel) rfl, rfl, fw_X4⟩
theorem lf_X4_35 : zLf RX4 35 5 11 RX4 TX4 19 := ⟨by decide, zT_in 740 (by decide +kernel) rfl, rfl, fw_X4⟩
theorem lf_X4_38 : zLf RX4 38 5 12 RX4 TX4 19 := ⟨by decide, zT_in 741 (by decide +kernel) rfl, rfl, fw_X4⟩
theorem lf_X4_41 : zLf RX4 41 5 13 RX4 TX4 19 := ⟨by decide, zT_in 742 (by decide +kernel) rfl, rfl, fw_X4⟩
theorem lf_X4_53 : zLf RX4 53 5 14 RX4 TX4 19 := ⟨by decide, zT_in 743 (by decide +kernel) rfl, rfl, fw_X4⟩
theorem lf_X4_44 : zLf RX4 44 5 15 RX4 TX4 19 := ⟨by decide, zT_in 744 (by decide +kernel) rfl, rfl, fw_X4⟩
theorem lf_X4_47 : zLf RX4 47 5 16 RX4 TX4 19 := ⟨by decide, zT_in 745 (by decide +kernel) rfl, rfl, fw_X4⟩
theorem lf_X4_50 : zLf RX4 50 5 17 RX4 TX4 19 := ⟨by decide, zT_in 746 (by decide +kernel) rfl, rfl, fw_X4⟩
theorem lf_X4_57 : zLf RX4 57 5 18 RX4 TX4 19 := ⟨by decide, zT_in 747 (by decide +kernel) rfl, rfl, fw_X4⟩
theorem lk_L_93 : Cond.methodLink RL 93 yX4_thrown ∈ zT := zT_in 788 (by decide +kernel) rfl
theorem lk_L_92 : Cond.methodLink RL 92 yX4_declare ∈ zT := zT_in 792 (by decide +kernel) rfl
theorem lk_X4_63 : Cond.methodLink RX4 63 yX4_isIn ∈ zT := zT_in 796 (by decide +kernel) rfl
theorem lk_X4_70 : Cond.methodLink RX4 70 yX4_can ∈ zT := zT_in 799 (by decide +kernel) rfl
theorem lk_L_100 : Cond.methodLink RL 100 yX4_store ∈ zT := zT_in 803 (by decide +kernel) rfl
theorem lk_X4_88 : Cond.methodLink RX4 88 yX4_currentOwner ∈ zT := zT_in 807 (by decide +kernel) rfl
theorem lk_X4_78 : Cond.methodLink RX4 78 yX4_ownerIn ∈ zT := zT_in 811 (by decide +kernel) rfl
theorem lk_X4_92 : Cond.methodLink RX4 92 yX4_insert ∈ zT := zT_in 815 (by decide +kernel) rfl
theorem lk_X4_81 : Cond.methodLink RX4 81 yX4_newPlace ∈ zT := zT_in 819 (by decide +kernel) rfl
theorem lk_X4_74 : Cond.methodLink RX4 74 yX4_placeOf ∈ zT := zT_in 823 (by decide +kernel) rfl
theorem lk_X4_96 : Cond.methodLink RX4 96 yX4_becomes ∈ zT := zT_in 827 (by decide +kernel) rfl
theorem lk_L_104 : Cond.methodLink RL 104 yX4_modify ∈ zT := zT_in 831 (by decide +kernel) rfl
theorem lk_X4_99 : Cond.methodLink RX4 99 yX4_takeOut ∈ zT := zT_in 835 (by decide +kernel) rfl
theorem lk_L_107 : Cond.methodLink RL 107 yX4_erase ∈ zT := zT_in 839 (by decide +kernel) rfl
theorem lk_X4_103 : Cond.methodLink RX4 103 yX4_marks ∈ zT := zT_in 843 (by decide +kernel) rfl
theorem lk_X4_106 : Cond.methodLink RX4 106 yX4_isGone ∈ zT := zT_in 847 (by decide +kernel) rfl
theorem lk_L_110 : Cond.methodLink RL 110 yX4_connect ∈ zT := zT_in 851 (by decide +kernel) rfl
theorem lk_X4_109 : Cond.methodLink RX4 109 yX4_isSet ∈ zT := zT_in 855 (by decide +kernel) rfl
theorem lk_X4_112 : Cond.methodLink RX4 112 yX4_membersOf ∈ zT := zT_in 859 (by decide +kernel) rfl
theorem lk_L_113 : Cond.methodLink RL 113 yX4_disconnect ∈ zT := zT_in 863 (by decide +kernel) rfl
theorem lk_L_116 : Cond.methodLink RL 116 yX4_reconnect ∈ zT := zT_in 867 (by decide +kernel) rfl
theorem lk_X4_115 : Cond.methodLink RX4 115 yX4_isRecord ∈ zT := zT_in 871 (by decide +kernel) rfl
theorem lk_L_120 : Cond.methodLink RL 120 yX4_find ∈ zT := zT_in 875 (by decide +kernel) rfl
theorem lk_L_124 : Cond.methodLink RL 124 yX4_findOf ∈ zT := zT_in 879 (by decide +kernel) rfl
theorem lk_L_127 : Cond.methodLink RL 127 yX4_findEnd ∈ zT := zT_in 883 (by decide +kernel) rfl
theorem lk_X4_118 : Cond.methodLink RX4 118 yX4_memberOf ∈ zT := zT_in 887 (by decide +kernel) rfl
theorem lk_L_130 : Cond.methodLink RL 130 yX4_findNext ∈ zT := zT_in 891 (by decide +kernel) rfl
theorem lk_L_133 : Cond.methodLink RL 133 yX4_findOwner ∈ zT := zT_in 895 (by decide +kernel) rfl
theorem lk_L_136 : Cond.methodLink RL 136 yX4_findValue ∈ zT := zT_in 899 (by decide +kernel) rfl
theorem lk_L_140 : Cond.methodLink RL 140 yX4_setTypes ∈ zT := zT_in 903 (by decide +kernel) rfl
theorem lk_L_144 : Cond.methodLink RL 144 yX4_records ∈ zT := zT_in 907 (by decide +kernel) rfl
theorem lk_L_148 : Cond.methodLink RL 148 yX4_current ∈ zT := zT_in 911 (by decide +kernel) rfl
theorem lk_L_151 : Cond.methodLink RL 151 yX4_currentOf ∈ zT := zT_in 915 (by decide +kernel) rfl
theorem lk_L_154 : Cond.methodLink RL 154 yX4_currentIn ∈ zT := zT_in 919 (by decide +kernel) rfl
theorem lk_L_157 : Cond.methodLink RL 157 yX4_typeOf ∈ zT := zT_in 923 (by decide +kernel) rfl
theorem lk_L_160 : Cond.methodLink RL 160 yX4_valueOf ∈ zT := zT_in 927 (by decide +kernel) rfl
theorem lk_L_163 : Cond.methodLink RL 163 yX4_ownerOf ∈ zT := zT_in 931 (by decide +kernel) rfl
theorem lk_X4_121 : Cond.methodLink RX4 121 yX4_areAsked ∈ zT := zT_in 935 (by decide +kernel) rfl
theorem lk_L_166 : Cond.methodLink RL 166 yX4_members ∈ zT := zT_in 939 (by decide +kernel) rfl
theorem lk_X4_125 : Cond.methodLink RX4 125 yX4_countOf ∈ zT := zT_in 943 (by decide +kernel) rfl
theorem lk_L_169 : Cond.methodLink RL 169 yX4_membersByTable ∈ zT := zT_in 947 (by decide +kernel) rfl
theorem lk_L_173 : Cond.methodLink RL 173 yX4_memberAt ∈ zT := zT_in 951 (by decide +kernel) rfl
theorem lk_L_176 : Cond.methodLink RL 176 yX4_wouldErase ∈ zT := zT_in 955 (by decide +kernel) rfl
end
section
/-! THE FRAME OF THE WALKS: a judgement Z over a list of cells w, ints by their numbers (vi x), contracts zM; made of the kit's rows (W, vx_Met, lv_.., va_..). -/
def vi (x : Int) : Value := .int (Int32.ofInt x)
theorem vi_toInt {x : Int} (h : -2147483648 ≤ x ∧ x < 2147483648) : (Int32.ofInt x).toInt = x := Int32.toInt_ofInt_of_le (by omega) (by omega)
theorem vi_eq {x y : Int} (hx : -2147483648 ≤ x ∧ x < 2147483648) (hy : -2147483648 ≤ y ∧ y < 2147483648) : Int32.ofInt x = Int32.ofInt y ↔ x = y :=
  ⟨fun h => by have h2 := congrArg Int32.toInt h; rwa [vi_toInt hx, vi_toInt hy] at h2, fun h => by rw [h]⟩
theorem vi_lt {x y : Int} (hx : -2147483648 ≤ x ∧ x < 2147483648) (hy : -2147483648 ≤ y ∧ y < 2147483648) : Int32.ofInt x < Int32.ofInt y ↔ x < y := by
  rw [Int32.lt_iff_toInt_lt, vi_toInt hx, vi_toInt hy]
theorem vi_le {x y : Int} (hx : -2147483648 ≤ x ∧ x < 2147483648) (hy : -2147483648 ≤ y ∧ y < 2147483648) : Int32.ofInt x ≤ Int32.ofInt y ↔ x ≤ y := by
  rw [Int32.le_iff_toInt_le, vi_toInt hx, vi_toInt hy]
theorem vi_0 : Int32.ofInt 0 = 0 := rfl
theorem vi_in {i : Int} {n : Nat} (h0 : 0 ≤ i) (h1 : i < (n : Int)) (hn : n < 2147483648) : vp_in (Int32.ofInt i) n := by
  rw [vp_in_iff, vi_toInt ⟨by omega, by omega⟩]; exact ⟨h0, h1⟩
theorem vi_cl {i : Int} (h0 : 0 ≤ i) (h1 : i < 2147483648) : (Int32.ofInt i).toNatClampNeg = i.toNat := by
  rw [Int32.toNatClampNeg, vi_toInt ⟨by omega, by omega⟩]
theorem vi_cat (x : Int) : (vi x).category = 1 := rfl
/-- any int is one by its number -/
theorem vi_of (x : Int32) : Value.int x = vi x.toInt := by rw [vi, Int32.ofInt_toInt]
theorem vi_rng (x : Int32) : -2147483648 ≤ x.toInt ∧ x.toInt < 2147483648 := by
  have h1 := Int32.minValue_le_toInt x
  have h2 := Int32.toInt_lt x
  exact ⟨h1, by omega⟩
def zb (P : Prop) [Decidable P] : Int := if P then 1 else 0
theorem zb_t {P : Prop} [Decidable P] (h : P) : zb P = 1 := if_pos h
theorem zb_f {P : Prop} [Decidable P] (h : ¬ P) : zb P = 0 := if_neg h
theorem zb_01 (P : Prop) [Decidable P] : zb P = 0 ∨ zb P = 1 := by unfold zb; split <;> simp
theorem zb_eq {P : Prop} [Decidable P] : zb P = 0 ↔ ¬ P := by unfold zb; split <;> simp_all
theorem zb_congr {P Q : Prop} [Decidable P] [Decidable Q] (h : P ↔ Q) : zb P = zb Q := by
  by_cases hp : P
  · rw [zb_t hp, zb_t (h.mp hp)]
  · rw [zb_f hp, zb_f (fun q => hp (h.mpr q))]
theorem zr0 : -2147483648 ≤ (0 : Int) ∧ (0 : Int) < 2147483648 := by decide
/-! locals -/
def zget : List (Nat × Value) → Nat → Option Value
  | [], _ => none
  | (j, v) :: r, i => bif Nat.beq j i then some v else zget r i
theorem zget_mem : ∀ {lv : List (Nat × Value)} {i : Nat} {v : Value}, zget lv i = some v → (i, v) ∈ lv
  | (j, u) :: r, i, v, h => by
    unfold zget at h
    cases hb : Nat.beq j i
    · rw [hb] at h; exact List.mem_cons_of_mem _ (zget_mem h)
    · rw [hb] at h
      have hj := Nat.eq_of_beq_eq_true hb
      subst hj
      cases h
      exact List.mem_cons_self
def zins : List (Nat × Value) → Nat → Value → List (Nat × Value)
  | [], i, v => [(i, v)]
  | (j, w) :: r, i, v => bif Nat.blt i j then (i, v) :: (j, w) :: r else (j, w) :: zins r i v
theorem zins_mem : ∀ {lv : List (Nat × Value)} {i : Nat} {v : Value} {q : Nat × Value}, q ∈ zins lv i v → q ∈ (i, v) :: lv
  | [], i, v, q, h => h
  | (j, w) :: r, i, v, q, h => by
    unfold zins at h
    cases hb : Nat.blt i j
    · rw [hb] at h
      rcases List.mem_cons.mp h with h | h
      · rw [h]; exact List.mem_cons_of_mem _ List.mem_cons_self
      · rcases List.mem_cons.mp (zins_mem h) with h | h
        · rw [h]; exact List.mem_cons_self
        · exact List.mem_cons_of_mem _ (List.mem_cons_of_mem _ h)
    · rw [hb] at h; exact h
def zset (lv : List (Nat × Value)) (i : Nat) (v : Value) : List (Nat × Value) := zins (lv.filter (fun q => !(q.1 == i) && !(q.1 + 1 == i && q.2.category == 2))) i v
theorem zset_has {ls : Array Slot} {nL : Nat} {lv : List (Nat × Value)} {i : Nat} {v : Value} (h : lv_has ls nL ((i, v) :: lv.filter (fun q => !(q.1 == i) && !(q.1 + 1 == i && q.2.category == 2)))) : lv_has ls nL (zset lv i v) :=
  ⟨h.1, h.2.1, fun q hq => h.2.2 q (zins_mem hq)⟩
theorem zhas_sub {ls : Array Slot} {nL : Nat} {l l' : List (Nat × Value)} (h : lv_has ls nL l) (hs : ∀ q ∈ l', q ∈ l) : lv_has ls nL l' := ⟨h.1, h.2.1, fun q hq => h.2.2 q (hs q hq)⟩
/-! the world's classes, the tables' facts -/
def zcl : List vw_C := [(RJx4a65c, TJx4a65c, 3), (RX0, TX0, 3), (RX1, TX1, 1), (RX2, TX2, 9), (RX3, TX3, 8), (RX4, TX4, 19)]
abbrev zG : Type := va_G × ClassId × ClassId × ClassId × ClassId
def zty (g : zG) : List (ClassId × FieldType) := [(g.2.1, .int), (g.2.2.1, .boolean), (g.2.2.2.1, .long), (g.2.2.2.2, .object "java/lang/Object")]
def zstr : List (Nat × String) := [(53, "owner type and member type are the same"), (58, "no such insertion"), (60, "no such retention"), (68, "there are no more set types"), (71, "a record was stored already"), (85, "no more records can be stored"), (91, "an automatic set type has no current record"), (126, "a set of the record has members"), (139, "the record does not have the member type"), (144, "the record is a member already"), (149, "the set type has no current record"), (167, "the retention is not optional"), (180, "no such record of the owner type"), (183, "the retention is fixed"), (202, "the record does not have the owner type"), (204, "the set has not so many members"), (209, "no such record type"), (211, "the value is out of range"), (213, "no such way"), (215, "no such set type"), (217, "no such record"), (219, "the run unit has no current record"), (221, "the record is no member of such a set")]
def zE (g : zG) (U : State) : Prop := va_K g.1 zcl (zty g) U ∧ ∀ q ∈ zstr, ∃ a : Nat, vk_R RX3 q.1 q.2 a U
def zQ (A : Nat → Prop) (U : State) (H : Heap) : Prop := vx_Zq Bundle.tN "UNASSIGNED_STACK" Bundle.steD A U H ∧ vx_Zq Bundle.tN "SUPPRESSED_SENTINEL" Bundle.listD A U H
theorem zE_warm {g : zG} {s U : State} (hW : s.WarmedH U.vm) (h : zE g s) : zE g U :=
  ⟨va_K.moved hW.alike h.1, fun q hq => by obtain ⟨a, ha⟩ := h.2 q hq; exact ⟨a, vk_R.warm hW ha⟩⟩
theorem zE_same {g : zG} {s U : State} (hv : U.vm = s.vm) (h : zE g s) : zE g U :=
  ⟨va_K.moved (by rw [hv]; exact Vm.Alike.refl _) h.1, fun q hq => by obtain ⟨a, ha⟩ := h.2 q hq; exact ⟨a, vk_R.same hv ha⟩⟩
theorem zQ_moved {A : Nat → Prop} {s U : State} {H : Heap} (hv : s.vm.Alike U.vm) (h : zQ A s H) : zQ A U H := ⟨vx_Zq.moved hv h.1, vx_Zq.moved hv h.2⟩
theorem zQ_kept {A : Nat → Prop} {s : State} {H H1 : Heap} (h : zQ A s H) (hq : ∀ a : Nat, a < H.size → ¬ A a → H1[a]? = H[a]?) : zQ A s H1 := ⟨vx_Zq.kept h.1 hq, vx_Zq.kept h.2 hq⟩
theorem zQ_narrow {A B : Nat → Prop} {s : State} {H : Heap} (h : zQ A s H) (hAB : ∀ q, B q → A q) : zQ B s H := ⟨vx_Zq.narrow h.1 hAB, vx_Zq.narrow h.2 hAB⟩
/-! the judgement -/
abbrev zX : Type := Program × Env × State × MethodId × Array Value × List Frame × Method × Code × (Nat → Prop) × (State → Prop)
def Z (l : Launch) (g : zG) (R : Room) (nL : Nat) : zX → Nat → Nat → va_W → Nat → List (Nat × Value) → List Value → Prop
  | (p, e, s, m, args, below, meth, c, A, Q), k, n, w, pc, lv, st => ∀ (H : Heap) (locs : List Loc) (ls : Array Slot), va_P g.1 zcl w H → va_D A w → va_S A s.heap H locs → lv_has ls nL lv → W p l e R s m args below meth c H locs k n Q (F0 m pc ls st)
/-- an exception of class E stands over the frame -/
def ZT (l : Launch) (g : zG) (R : Room) (nL : Nat) : zX → Nat → Nat → va_W → Nat → List (Nat × Value) → List Value → String → Prop
  | (p, e, s, m, args, below, meth, c, A, Q), k, n, w, pc, lv, st, E => ∀ (H : Heap) (locs : List Loc) (ls : Array Slot) (ce : Cell) (q9 : Addr), va_P g.1 zcl w H → va_D A w → va_S A s.heap H locs → lv_has ls nL lv → H[q9]? = some ce → ce.vm = .none → s.vm.findClass E = some ce.cls → vx_W p l e R s m args below meth c H locs k n Q (F0 m pc ls st) q9
def zOK (l : Launch) (g : zG) (nL : Nat) : zX → String → ByteArray → Prop
  | (p, _, s, m, args, _, meth, c, A, _), own, cc => p.tables.exec = Jvm.exec ∧ c.code = cc ∧ c.maxLocals = nL ∧ s.vm.findClass own = some m.cls ∧ (∀ w ∈ zT, w.before args s = true) ∧ zE g s ∧ zQ A s s.heap ∧ meth.locks = false ∧ l.stackTraces = false ∧ ∀ q : Nat, s.heap.size ≤ q → A q
def zNT : zX → Prop | (_, _, _, _, _, _, _, c, _, _) => ∀ x ∈ c.exceptionTable.toList, False
/-! contracts -/
def zPc (g : zG) (w0 : va_W) (sz : Nat) (av : List Value) : Array Value → State → Prop := va_Pc av (fun U => U.heap.size = sz ∧ va_P g.1 zcl w0 U.heap ∧ zE g U ∧ zQ (va_A w0 sz) U U.heap ∧ va_D (fun _ => True) w0)
def zQc (g : zG) (w0 : va_W) (sz : Nat) (Post : Option Value → va_W → Prop) : Array Value → State → Outcome → State → Prop := fun _ st oc t => (∃ (v : Option Value) (w1 : va_W), oc = .returned v ∧ Post v w1 ∧ va_P g.1 zcl w1 t.heap ∧ va_D (va_A w0 sz) w1) ∧ va_F (va_A w0 sz) st t
def zXc (g : zG) (w0 : va_W) (sz : Nat) (PX : String → va_W → Prop) : String → State → State → Prop := fun E st t => (∃ w1 : va_W, PX E w1 ∧ va_P g.1 zcl w1 t.heap ∧ va_D (va_A w0 sz) w1) ∧ va_F (va_A w0 sz) st t
/-- method y, called with the values av over the cells w0, returns (Post: answer and cells) or throws (PX: class and cells) -/
def zM (l : Launch) (g : zG) (y : MethodName) (cc : ByteArray) (nL : Nat) (ret : Option FieldType) (rm : Room) (av : List Value) (w0 : va_W) (Post : Option Value → va_W → Prop) (PX : String → va_W → Prop) (mc ms : Nat) : Prop :=
  ∀ sz : Nat, vx_Met l y (.code y cc nL ret :: zT) rm (zPc g w0 sz av) (zQc g w0 sz Post) (zXc g w0 sz PX) mc ms (va_A w0 sz)
/-- the end that a contract's walk comes to -/
def zFin (g : zG) : zX → va_W → (Option Value → va_W → Prop) → (String → va_W → Prop) → Nat → Nat → Option FieldType → Prop
  | (_, _, s, _, args, below, meth, _, A, Q), w0, Post, PX, mc, ms, ret => meth.sig.returnType = ret ∧ ∃ sz : Nat, A = va_A w0 sz ∧ Q = vx_MQ below (zQc g w0 sz Post) (zXc g w0 sz PX) args s mc ms (va_A w0 sz)
def zI (P : Int → va_W → Prop) : Option Value → va_W → Prop := fun v w => ∃ r : Int, v = some (vi r) ∧ P r w
def zV (P : va_W → Prop) : Option Value → va_W → Prop := fun v w => v = none ∧ P w
def zA (P : Nat → va_W → Prop) : Option Value → va_W → Prop := fun v w => ∃ r : Nat, v = some (.ref r) ∧ P r w
def zN : String → va_W → Prop := fun _ _ => False
theorem zPc_blind {g : zG} {w0 : va_W} {sz : Nat} {av : List Value} : FrameBlind (zPc g w0 sz av) := by
  intro a U f mk ⟨h0, h1, h2, h3, h4, h5⟩
  exact ⟨h0, h1, h2, zE_same (s := U) (U := U.calling f mk a) rfl h3, zQ_moved (s := U) (U := U.calling f mk a) (Vm.Alike.refl U.vm) h4, h5⟩
theorem zM_of {l : Launch} {g : zG} {y : MethodName} {cc : ByteArray} {nL : Nat} {ret : Option FieldType} {rm : Room} {av : List Value} {w0 : va_W} {Post : Option Value → va_W → Prop} {PX : String → va_W → Prop} {mc ms : Nat} {own : String} {lv0 : List (Nat × Value)} (hst : l.stackTraces = false) (ho : y.cls = own) (hy : plainName y.cls = true) (hlen : (lg_sl av).length ≤ nL) (hlv : lv_args 0 av = lv0)
    (body : ∀ x : zX, zOK l g nL x own cc → zFin g x w0 Post PX mc ms ret → zNT x → Z l g rm nL x 0 0 w0 0 lv0 []) : zM l g y cc nL ret rm av w0 Post PX mc ms := by
  subst ho
  subst hlv
  intro sz
  refine vx_ofW (cc := cc) (maxL := nL) (ret := ret) hy rfl ?_
  intro p e s m args below meth c s₁ B hml hnt hv
  obtain ⟨rfl, hsz, hP, hE, hQ, hD0⟩ := hv
  have hts := atoms_spec (ws := Cond.code y cc nL ret :: zT) B.pre
  subst hsz
  have hA : ∀ q : Nat, s.heap.size ≤ q → va_A w0 s.heap.size q := fun q h => Or.inr h
  have hb := body (p, e, s, m, av.toArray, below, meth, c, va_A w0 s.heap.size, vx_MQ below (zQc g w0 s.heap.size Post) (zXc g w0 s.heap.size PX) av.toArray s mc ms (va_A w0 s.heap.size))
    ⟨B.exec, B.bytes, hml, findClass_of_methodNamed B.named, fun w hw => hts w (List.mem_cons_of_mem _ hw), hE, hQ, B.notSynchronized, hst, hA⟩
    ⟨B.returns, s.heap.size, rfl, rfl⟩ hnt
  have hl := lv_entry av (n := nL) hlen
  rw [lg_entry_eq]
  exact hb s.heap [] _ hP hD0.self va_S.rf hl
/-! steps -/
section ZS
variable {l : Launch} {g : zG} {R : Room} {nL : Nat} {x : zX} {k n : Nat} {w : va_W} {pc : Nat} {lv : List (Nat × Value)} {st : List Value} {own : String} {cc : ByteArray}
theorem zz_widen {k' n' : Nat} (h1 : k ≤ k') (h2 : n ≤ n') (kk : Z l g R nL x k' n' w pc lv st) : Z l g R nL x k n w pc lv st := by
  obtain ⟨p, e, s, m, args, below, meth, c, A, Q⟩ := x
  exact fun H locs ls hP hD hS hl => W.widen h1 h2 (kk H locs ls hP hD hS hl)
theorem zz_sub {lv' : List (Nat × Value)} (hs : ∀ q ∈ lv', q ∈ lv) (kk : Z l g R nL x k n w pc lv' st) : Z l g R nL x k n w pc lv st := by
  obtain ⟨p, e, s, m, args, below, meth, c, A, Q⟩ := x
  exact fun H locs ls hP hD hS hl => kk H locs ls hP hD hS (zhas_sub hl hs)
theorem zz_eq {w' : va_W} {st' : List Value} (hw : w = w') (hst : st = st') (kk : Z l g R nL x k n w' pc lv st') : Z l g R nL x k n w pc lv st := by subst hw; subst hst; exact kk
theorem zz_iconst (hx : zOK l g nL x own cc) {a : Int} (d : decode cc pc = .ok (.iconst a, 1)) (kk : Z l g R nL x k n w (pc + 1) lv (vi a :: st)) : Z l g R nL x k n w pc lv st := by
  obtain ⟨p, e, s, m, args, below, meth, c, A, Q⟩ := x
  exact fun H locs ls hP hD hS hl => lv_iconst hx.1 hx.2.1 d rfl (kk H locs ls hP hD hS hl)
theorem zz_bipush (hx : zOK l g nL x own cc) {a : Int} (d : decode cc pc = .ok (.bipush a, 2)) (ha : (Int8.ofInt a).toInt32 = Int32.ofInt a) (kk : Z l g R nL x k n w (pc + 2) lv (vi a :: st)) : Z l g R nL x k n w pc lv st := by
  obtain ⟨p, e, s, m, args, below, meth, c, A, Q⟩ := x
  exact fun H locs ls hP hD hS hl => lv_bipush hx.1 hx.2.1 d ha (kk H locs ls hP hD hS hl)
theorem zz_sipush (hx : zOK l g nL x own cc) {a : Int} (d : decode cc pc = .ok (.sipush a, 3)) (ha : (Int16.ofInt a).toInt32 = Int32.ofInt a) (kk : Z l g R nL x k n w (pc + 3) lv (vi a :: st)) : Z l g R nL x k n w pc lv st := by
  obtain ⟨p, e, s, m, args, below, meth, c, A, Q⟩ := x
  exact fun H locs ls hP hD hS hl => lv_sipush hx.1 hx.2.1 d ha (kk H locs ls hP hD hS hl)
theorem zz_iload_n (hx : zOK l g nL x own cc) {i : Fin 4} {a : Int} (d : decode cc pc = .ok (.iload_n i, 1)) (hl : zget lv i = some (vi a)) (kk : Z l g R nL x k n w (pc + 1) lv (vi a :: st)) : Z l g R nL x k n w pc lv st := by
  obtain ⟨p, e, s, m, args, below, meth, c, A, Q⟩ := x
  exact fun H locs ls hP hD hS h => lv_iload_n hx.1 hx.2.1 d rfl (h.2.2 _ (zget_mem hl)) (kk H locs ls hP hD hS h)
theorem zz_iload (hx : zOK l g nL x own cc) {i : Nat} {a : Int} (d : decode cc pc = .ok (.iload i, 2)) (hl : zget lv i = some (vi a)) (kk : Z l g R nL x k n w (pc + 2) lv (vi a :: st)) : Z l g R nL x k n w pc lv st := by
  obtain ⟨p, e, s, m, args, below, meth, c, A, Q⟩ := x
  exact fun H locs ls hP hD hS h => lv_iload hx.1 hx.2.1 d (h.2.2 _ (zget_mem hl)) (kk H locs ls hP hD hS h)
theorem zz_aload_n (hx : zOK l g nL x own cc) {i : Fin 4} {a : Nat} (d : decode cc pc = .ok (.aload_n i, 1)) (hl : zget lv i = some (.ref a)) (kk : Z l g R nL x k n w (pc + 1) lv (.ref a :: st)) : Z l g R nL x k n w pc lv st := by
  obtain ⟨p, e, s, m, args, below, meth, c, A, Q⟩ := x
  exact fun H locs ls hP hD hS h => lv_aload_n hx.1 hx.2.1 d rfl (h.2.2 _ (zget_mem hl)) (kk H locs ls hP hD hS h)
theorem zz_aload (hx : zOK l g nL x own cc) {i : Nat} {a : Nat} (d : decode cc pc = .ok (.aload i, 2)) (hl : zget lv i = some (.ref a)) (kk : Z l g R nL x k n w (pc + 2) lv (.ref a :: st)) : Z l g R nL x k n w pc lv st := by
  obtain ⟨p, e, s, m, args, below, meth, c, A, Q⟩ := x
  exact fun H locs ls hP hD hS h => lv_aload hx.1 hx.2.1 d (h.2.2 _ (zget_mem hl)) (kk H locs ls hP hD hS h)
theorem zz_istore_n (hx : zOK l g nL x own cc) {i : Fin 4} {a : Int} {lv' : List (Nat × Value)} (d : decode cc pc = .ok (.istore_n i, 1)) (hi : (i : Nat) < nL) (hl : zset lv i (vi a) = lv') (kk : Z l g R nL x k n w (pc + 1) lv' st) : Z l g R nL x k n w pc lv (vi a :: st) := by
  obtain ⟨p, e, s, m, args, below, meth, c, A, Q⟩ := x
  exact fun H locs ls hP hD hS h => lv_istore_n hx.1 hx.2.1 d rfl h hi rfl (fun ls' h' => kk H locs ls' hP hD hS (hl ▸ zset_has h'))
theorem zz_istore (hx : zOK l g nL x own cc) {i : Nat} {a : Int} {lv' : List (Nat × Value)} (d : decode cc pc = .ok (.istore i, 2)) (hi : i < nL) (hl : zset lv i (vi a) = lv') (kk : Z l g R nL x k n w (pc + 2) lv' st) : Z l g R nL x k n w pc lv (vi a :: st) := by
  obtain ⟨p, e, s, m, args, below, meth, c, A, Q⟩ := x
  exact fun H locs ls hP hD hS h => lv_istore hx.1 hx.2.1 d h hi rfl (fun ls' h' => kk H locs ls' hP hD hS (hl ▸ zset_has h'))
theorem zz_astore_n (hx : zOK l g nL x own cc) {i : Fin 4} {a : Nat} {lv' : List (Nat × Value)} (d : decode cc pc = .ok (.astore_n i, 1)) (hi : (i : Nat) < nL) (hl : zset lv i (.ref a) = lv') (kk : Z l g R nL x k n w (pc + 1) lv' st) : Z l g R nL x k n w pc lv (.ref a :: st) := by
  obtain ⟨p, e, s, m, args, below, meth, c, A, Q⟩ := x
  exact fun H locs ls hP hD hS h => lv_astore_n hx.1 hx.2.1 d rfl h hi rfl (fun ls' h' => kk H locs ls' hP hD hS (hl ▸ zset_has h'))
theorem zz_astore (hx : zOK l g nL x own cc) {i : Nat} {a : Nat} {lv' : List (Nat × Value)} (d : decode cc pc = .ok (.astore i, 2)) (hi : i < nL) (hl : zset lv i (.ref a) = lv') (kk : Z l g R nL x k n w (pc + 2) lv' st) : Z l g R nL x k n w pc lv (.ref a :: st) := by
  obtain ⟨p, e, s, m, args, below, meth, c, A, Q⟩ := x
  exact fun H locs ls hP hD hS h => lv_astore hx.1 hx.2.1 d h hi rfl (fun ls' h' => kk H locs ls' hP hD hS (hl ▸ zset_has h'))
theorem zz_iinc (hx : zOK l g nL x own cc) {i : Nat} {b a : Int} {lv' : List (Nat × Value)} (d : decode cc pc = .ok (.iinc i b, 3)) (hi : i < nL) (hg : zget lv i = some (vi a)) (hl : zset lv i (vi (a + b)) = lv') (kk : Z l g R nL x k n w (pc + 3) lv' st) : Z l g R nL x k n w pc lv st := by
  obtain ⟨p, e, s, m, args, below, meth, c, A, Q⟩ := x
  intro H locs ls hP hD hS h
  obtain ⟨j, hj⟩ := List.getElem?_of_mem (zget_mem hg)
  exact lv_iinc hx.1 hx.2.1 d h (k := j) (x := Int32.ofInt a) (v := Int32.ofInt (a + b)) hj (by rw [Int32.ofInt_add]) hi rfl (fun ls' h' => kk H locs ls' hP hD hS (hl ▸ zset_has h'))
theorem zz_iadd (hx : zOK l g nL x own cc) {a b : Int} (d : decode cc pc = .ok (.iadd, 1)) (kk : Z l g R nL x k n w (pc + 1) lv (vi (a + b) :: st)) : Z l g R nL x k n w pc lv (vi b :: vi a :: st) := by
  obtain ⟨p, e, s, m, args, below, meth, c, A, Q⟩ := x
  rw [show vi (a + b) = .int (Int32.ofInt a + Int32.ofInt b) by rw [vi, Int32.ofInt_add]] at kk
  exact fun H locs ls hP hD hS h => lv_iadd hx.1 hx.2.1 d (kk H locs ls hP hD hS h)
theorem zz_isub (hx : zOK l g nL x own cc) {a b : Int} (d : decode cc pc = .ok (.isub, 1)) (kk : Z l g R nL x k n w (pc + 1) lv (vi (a - b) :: st)) : Z l g R nL x k n w pc lv (vi b :: vi a :: st) := by
  obtain ⟨p, e, s, m, args, below, meth, c, A, Q⟩ := x
  rw [show vi (a - b) = .int (Int32.ofInt a - Int32.ofInt b) by rw [vi, Int32.ofInt_sub]] at kk
  exact fun H locs ls hP hD hS h => lv_isub hx.1 hx.2.1 d (kk H locs ls hP hD hS h)
theorem zz_imul (hx : zOK l g nL x own cc) {a b : Int} (d : decode cc pc = .ok (.imul, 1)) (kk : Z l g R nL x k n w (pc + 1) lv (vi (a * b) :: st)) : Z l g R nL x k n w pc lv (vi b :: vi a :: st) := by
  obtain ⟨p, e, s, m, args, below, meth, c, A, Q⟩ := x
  rw [show vi (a * b) = .int (Int32.ofInt a * Int32.ofInt b) by rw [vi, Int32.ofInt_mul]] at kk
  exact fun H locs ls hP hD hS h => lv_imul hx.1 hx.2.1 d (kk H locs ls hP hD hS h)
theorem vi_nI {a : Int} (h0 : 0 ≤ a) : Int32.ofInt a = nI a.toNat := by
  obtain ⟨j, rfl⟩ := Int.eq_ofNat_of_zero_le h0
  rfl
theorem zz_idiv (hx : zOK l g nL x own cc) {a b : Int} (d : decode cc pc = .ok (.idiv, 1)) (h0 : 0 ≤ a) (h1 : a < 2147483648) (h2 : 0 < b) (h3 : b < 2147483648) (kk : Z l g R nL x k n w (pc + 1) lv (vi (a / b) :: st)) : Z l g R nL x k n w pc lv (vi b :: vi a :: st) := by
  obtain ⟨p, e, s, m, args, below, meth, c, A, Q⟩ := x
  have e1 : vi (a / b) = .int (Int32.ofInt a / Int32.ofInt b) := by
    rw [vi_nI h0, vi_nI (by omega : 0 ≤ b), pk_div (by omega) (by omega) (by omega), vi]
    congr 1
    rw [vi_nI (Int.ediv_nonneg h0 (by omega))]
    congr 1
    obtain ⟨i, rfl⟩ := Int.eq_ofNat_of_zero_le h0
    obtain ⟨j, rfl⟩ := Int.eq_ofNat_of_zero_le (show 0 ≤ b by omega)
    rfl
  rw [e1] at kk
  exact fun H locs ls hP hD hS h => lv_idiv hx.1 hx.2.1 d (fun z => by have := (vi_eq (x := b) (y := 0) ⟨by omega, by omega⟩ ⟨by omega, by omega⟩).mp z; omega) (kk H locs ls hP hD hS h)
theorem zz_irem (hx : zOK l g nL x own cc) {a b : Int} (d : decode cc pc = .ok (.irem, 1)) (h0 : 0 ≤ a) (h1 : a < 2147483648) (h2 : 0 < b) (h3 : b < 2147483648) (kk : Z l g R nL x k n w (pc + 1) lv (vi (a % b) :: st)) : Z l g R nL x k n w pc lv (vi b :: vi a :: st) := by
  obtain ⟨p, e, s, m, args, below, meth, c, A, Q⟩ := x
  have e1 : vi (a % b) = .int (Int32.ofInt a - Int32.ofInt a / Int32.ofInt b * Int32.ofInt b) := by
    rw [vi_nI h0, vi_nI (by omega : 0 ≤ b), pk_rem (by omega) (by omega) (by omega), vi]
    congr 1
    rw [vi_nI (Int.emod_nonneg a (by omega))]
    congr 1
    exact Int.toNat_emod h0 (by omega)
  rw [e1] at kk
  exact fun H locs ls hP hD hS h => lv_irem hx.1 hx.2.1 d (fun z => by have := (vi_eq (x := b) (y := 0) ⟨by omega, by omega⟩ ⟨by omega, by omega⟩).mp z; omega) (kk H locs ls hP hD hS h)
theorem zz_dup (hx : zOK l g nL x own cc) {v : Value} (d : decode cc pc = .ok (.dup, 1)) (hv : v.category = 1) (kk : Z l g R nL x k n w (pc + 1) lv (v :: v :: st)) : Z l g R nL x k n w pc lv (v :: st) := by
  obtain ⟨p, e, s, m, args, below, meth, c, A, Q⟩ := x
  exact fun H locs ls hP hD hS h => lv_dup hx.1 hx.2.1 d hv (kk H locs ls hP hD hS h)
theorem zz_dup2 (hx : zOK l g nL x own cc) {u v : Value} (d : decode cc pc = .ok (.dup2, 1)) (hu : u.category = 1) (hv : v.category = 1) (kk : Z l g R nL x k n w (pc + 1) lv (u :: v :: u :: v :: st)) : Z l g R nL x k n w pc lv (u :: v :: st) := by
  obtain ⟨p, e, s, m, args, below, meth, c, A, Q⟩ := x
  exact fun H locs ls hP hD hS h => lv_dup2_11 hx.1 hx.2.1 d hu hv (kk H locs ls hP hD hS h)
theorem zz_pop (hx : zOK l g nL x own cc) {v : Value} (d : decode cc pc = .ok (.pop, 1)) (hv : v.category = 1) (kk : Z l g R nL x k n w (pc + 1) lv st) : Z l g R nL x k n w pc lv (v :: st) := by
  obtain ⟨p, e, s, m, args, below, meth, c, A, Q⟩ := x
  exact fun H locs ls hP hD hS h => lv_pop hx.1 hx.2.1 d hv (kk H locs ls hP hD hS h)
theorem zz_goto (hx : zOK l g nL x own cc) {off : Int} (tgt : Nat) (d : decode cc pc = .ok (.goto off, 3)) (ht : (pc : Int) + off = (tgt : Int)) (kk : Z l g R nL x k n w tgt lv st) : Z l g R nL x k n w pc lv st := by
  obtain ⟨p, e, s, m, args, below, meth, c, A, Q⟩ := x
  exact fun H locs ls hP hD hS h => lv_goto hx.1 hx.2.1 d ht (kk H locs ls hP hD hS h)
theorem zz_if_eq (hx : zOK l g nL x own cc) {a : Int} {off : Int} (tgt : Nat) (d : decode cc pc = .ok (.ifCond .eq off, 3)) (ht : (pc : Int) + off = (tgt : Int)) (ha : -2147483648 ≤ a ∧ a < 2147483648) 
    (kt : a = 0 → Z l g R nL x k n w tgt lv st) (kf : ¬ (a = 0) → Z l g R nL x k n w (pc + 3) lv st) : Z l g R nL x k n w pc lv (vi a :: st) := by
  obtain ⟨p, e, s, m, args, below, meth, c, A, Q⟩ := x
  intro H locs ls hP hD hS h
  have I := vi_eq ha zr0
  exact lv_if_eq (tgt := tgt) hx.1 hx.2.1 d ht (fun z => kt (I.mp z) H locs ls hP hD hS h) (fun z => kf (fun q => z (I.mpr q)) H locs ls hP hD hS h)
theorem zz_icmp_eq (hx : zOK l g nL x own cc) {a b : Int} {off : Int} (tgt : Nat) (d : decode cc pc = .ok (.if_icmp .eq off, 3)) (ht : (pc : Int) + off = (tgt : Int)) (ha : -2147483648 ≤ a ∧ a < 2147483648) (hb : -2147483648 ≤ b ∧ b < 2147483648) 
    (kt : a = b → Z l g R nL x k n w tgt lv st) (kf : ¬ (a = b) → Z l g R nL x k n w (pc + 3) lv st) : Z l g R nL x k n w pc lv (vi b :: vi a :: st) := by
  obtain ⟨p, e, s, m, args, below, meth, c, A, Q⟩ := x
  intro H locs ls hP hD hS h
  have I := vi_eq ha hb
  exact lv_icmp_eq (tgt := tgt) hx.1 hx.2.1 d ht (fun z => kt (I.mp z) H locs ls hP hD hS h) (fun z => kf (fun q => z (I.mpr q)) H locs ls hP hD hS h)
theorem zz_if_ne (hx : zOK l g nL x own cc) {a : Int} {off : Int} (tgt : Nat) (d : decode cc pc = .ok (.ifCond .ne off, 3)) (ht : (pc : Int) + off = (tgt : Int)) (ha : -2147483648 ≤ a ∧ a < 2147483648) 
    (kt : ¬ a = 0 → Z l g R nL x k n w tgt lv st) (kf : a = 0 → Z l g R nL x k n w (pc + 3) lv st) : Z l g R nL x k n w pc lv (vi a :: st) := by
  obtain ⟨p, e, s, m, args, below, meth, c, A, Q⟩ := x
  intro H locs ls hP hD hS h
  have I := vi_eq ha zr0
  exact lv_if_ne (tgt := tgt) hx.1 hx.2.1 d ht (fun z => kt (fun q => z (I.mpr q)) H locs ls hP hD hS h) (fun z => kf (I.mp z) H locs ls hP hD hS h)
theorem zz_icmp_ne (hx : zOK l g nL x own cc) {a b : Int} {off : Int} (tgt : Nat) (d : decode cc pc = .ok (.if_icmp .ne off, 3)) (ht : (pc : Int) + off = (tgt : Int)) (ha : -2147483648 ≤ a ∧ a < 2147483648) (hb : -2147483648 ≤ b ∧ b < 2147483648) 
    (kt : ¬ a = b → Z l g R nL x k n w tgt lv st) (kf : a = b → Z l g R nL x k n w (pc + 3) lv st) : Z l g R nL x k n w pc lv (vi b :: vi a :: st) := by
  obtain ⟨p, e, s, m, args, below, meth, c, A, Q⟩ := x
  intro H locs ls hP hD hS h
  have I := vi_eq ha hb
  exact lv_icmp_ne (tgt := tgt) hx.1 hx.2.1 d ht (fun z => kt (fun q => z (I.mpr q)) H locs ls hP hD hS h) (fun z => kf (I.mp z) H locs ls hP hD hS h)
theorem zz_if_lt (hx : zOK l g nL x own cc) {a : Int} {off : Int} (tgt : Nat) (d : decode cc pc = .ok (.ifCond .lt off, 3)) (ht : (pc : Int) + off = (tgt : Int)) (ha : -2147483648 ≤ a ∧ a < 2147483648) 
    (kt : a < 0 → Z l g R nL x k n w tgt lv st) (kf : ¬ (a < 0) → Z l g R nL x k n w (pc + 3) lv st) : Z l g R nL x k n w pc lv (vi a :: st) := by
  obtain ⟨p, e, s, m, args, below, meth, c, A, Q⟩ := x
  intro H locs ls hP hD hS h
  have I := vi_lt ha zr0
  exact lv_if_lt (tgt := tgt) hx.1 hx.2.1 d ht (fun z => kt (I.mp z) H locs ls hP hD hS h) (fun z => kf (fun q => z (I.mpr q)) H locs ls hP hD hS h)
theorem zz_icmp_lt (hx : zOK l g nL x own cc) {a b : Int} {off : Int} (tgt : Nat) (d : decode cc pc = .ok (.if_icmp .lt off, 3)) (ht : (pc : Int) + off = (tgt : Int)) (ha : -2147483648 ≤ a ∧ a < 2147483648) (hb : -2147483648 ≤ b ∧ b < 2147483648) 
    (kt : a < b → Z l g R nL x k n w tgt lv st) (kf : ¬ (a < b) → Z l g R nL x k n w (pc + 3) lv st) : Z l g R nL x k n w pc lv (vi b :: vi a :: st) := by
  obtain ⟨p, e, s, m, args, below, meth, c, A, Q⟩ := x
  intro H locs ls hP hD hS h
  have I := vi_lt ha hb
  exact lv_icmp_lt (tgt := tgt) hx.1 hx.2.1 d ht (fun z => kt (I.mp z) H locs ls hP hD hS h) (fun z => kf (fun q => z (I.mpr q)) H locs ls hP hD hS h)
theorem zz_if_ge (hx : zOK l g nL x own cc) {a : Int} {off : Int} (tgt : Nat) (d : decode cc pc = .ok (.ifCond .ge off, 3)) (ht : (pc : Int) + off = (tgt : Int)) (ha : -2147483648 ≤ a ∧ a < 2147483648) 
    (kt : 0 ≤ a → Z l g R nL x k n w tgt lv st) (kf : ¬ (0 ≤ a) → Z l g R nL x k n w (pc + 3) lv st) : Z l g R nL x k n w pc lv (vi a :: st) := by
  obtain ⟨p, e, s, m, args, below, meth, c, A, Q⟩ := x
  intro H locs ls hP hD hS h
  have I := vi_le zr0 ha
  exact lv_if_ge (tgt := tgt) hx.1 hx.2.1 d ht (fun z => kt (I.mp z) H locs ls hP hD hS h) (fun z => kf (fun q => z (I.mpr q)) H locs ls hP hD hS h)
theorem zz_icmp_ge (hx : zOK l g nL x own cc) {a b : Int} {off : Int} (tgt : Nat) (d : decode cc pc = .ok (.if_icmp .ge off, 3)) (ht : (pc : Int) + off = (tgt : Int)) (ha : -2147483648 ≤ a ∧ a < 2147483648) (hb : -2147483648 ≤ b ∧ b < 2147483648) 
    (kt : b ≤ a → Z l g R nL x k n w tgt lv st) (kf : ¬ (b ≤ a) → Z l g R nL x k n w (pc + 3) lv st) : Z l g R nL x k n w pc lv (vi b :: vi a :: st) := by
  obtain ⟨p, e, s, m, args, below, meth, c, A, Q⟩ := x
  intro H locs ls hP hD hS h
  have I := vi_le hb ha
  exact lv_icmp_ge (tgt := tgt) hx.1 hx.2.1 d ht (fun z => kt (I.mp z) H locs ls hP hD hS h) (fun z => kf (fun q => z (I.mpr q)) H locs ls hP hD hS h)
theorem zz_if_gt (hx : zOK l g nL x own cc) {a : Int} {off : Int} (tgt : Nat) (d : decode cc pc = .ok (.ifCond .gt off, 3)) (ht : (pc : Int) + off = (tgt : Int)) (ha : -2147483648 ≤ a ∧ a < 2147483648) 
    (kt : 0 < a → Z l g R nL x k n w tgt lv st) (kf : ¬ (0 < a) → Z l g R nL x k n w (pc + 3) lv st) : Z l g R nL x k n w pc lv (vi a :: st) := by
  obtain ⟨p, e, s, m, args, below, meth, c, A, Q⟩ := x
  intro H locs ls hP hD hS h
  have I := vi_lt zr0 ha
  exact lv_if_gt (tgt := tgt) hx.1 hx.2.1 d ht (fun z => kt (I.mp z) H locs ls hP hD hS h) (fun z => kf (fun q => z (I.mpr q)) H locs ls hP hD hS h)
theorem zz_icmp_gt (hx : zOK l g nL x own cc) {a b : Int} {off : Int} (tgt : Nat) (d : decode cc pc = .ok (.if_icmp .gt off, 3)) (ht : (pc : Int) + off = (tgt : Int)) (ha : -2147483648 ≤ a ∧ a < 2147483648) (hb : -2147483648 ≤ b ∧ b < 2147483648) 
    (kt : b < a → Z l g R nL x k n w tgt lv st) (kf : ¬ (b < a) → Z l g R nL x k n w (pc + 3) lv st) : Z l g R nL x k n w pc lv (vi b :: vi a :: st) := by
  obtain ⟨p, e, s, m, args, below, meth, c, A, Q⟩ := x
  intro H locs ls hP hD hS h
  have I := vi_lt hb ha
  exact lv_icmp_gt (tgt := tgt) hx.1 hx.2.1 d ht (fun z => kt (I.mp z) H locs ls hP hD hS h) (fun z => kf (fun q => z (I.mpr q)) H locs ls hP hD hS h)
theorem zz_if_le (hx : zOK l g nL x own cc) {a : Int} {off : Int} (tgt : Nat) (d : decode cc pc = .ok (.ifCond .le off, 3)) (ht : (pc : Int) + off = (tgt : Int)) (ha : -2147483648 ≤ a ∧ a < 2147483648) 
    (kt : a ≤ 0 → Z l g R nL x k n w tgt lv st) (kf : ¬ (a ≤ 0) → Z l g R nL x k n w (pc + 3) lv st) : Z l g R nL x k n w pc lv (vi a :: st) := by
  obtain ⟨p, e, s, m, args, below, meth, c, A, Q⟩ := x
  intro H locs ls hP hD hS h
  have I := vi_le ha zr0
  exact lv_if_le (tgt := tgt) hx.1 hx.2.1 d ht (fun z => kt (I.mp z) H locs ls hP hD hS h) (fun z => kf (fun q => z (I.mpr q)) H locs ls hP hD hS h)
theorem zz_icmp_le (hx : zOK l g nL x own cc) {a b : Int} {off : Int} (tgt : Nat) (d : decode cc pc = .ok (.if_icmp .le off, 3)) (ht : (pc : Int) + off = (tgt : Int)) (ha : -2147483648 ≤ a ∧ a < 2147483648) (hb : -2147483648 ≤ b ∧ b < 2147483648) 
    (kt : a ≤ b → Z l g R nL x k n w tgt lv st) (kf : ¬ (a ≤ b) → Z l g R nL x k n w (pc + 3) lv st) : Z l g R nL x k n w pc lv (vi b :: vi a :: st) := by
  obtain ⟨p, e, s, m, args, below, meth, c, A, Q⟩ := x
  intro H locs ls hP hD hS h
  have I := vi_le ha hb
  exact lv_icmp_le (tgt := tgt) hx.1 hx.2.1 d ht (fun z => kt (I.mp z) H locs ls hP hD hS h) (fun z => kf (fun q => z (I.mpr q)) H locs ls hP hD hS h)
/-- a truth value, tested -/
theorem zz_ifb_eq (hx : zOK l g nL x own cc) {P : Prop} [Decidable P] {off : Int} (tgt : Nat) (d : decode cc pc = .ok (.ifCond .eq off, 3)) (ht : (pc : Int) + off = (tgt : Int))
    (kt : ¬ P → Z l g R nL x k n w tgt lv st) (kf : P → Z l g R nL x k n w (pc + 3) lv st) : Z l g R nL x k n w pc lv (vi (zb P) :: st) := by
  refine zz_if_eq hx tgt d ht (by rcases zb_01 P with h | h <;> rw [h] <;> decide) (fun z => kt (zb_eq.mp z)) (fun z => kf ?_)
  rcases Decidable.em P with h | h
  · exact h
  · exact absurd (zb_f h) z
theorem zz_ifb_ne (hx : zOK l g nL x own cc) {P : Prop} [Decidable P] {off : Int} (tgt : Nat) (d : decode cc pc = .ok (.ifCond .ne off, 3)) (ht : (pc : Int) + off = (tgt : Int))
    (kt : P → Z l g R nL x k n w tgt lv st) (kf : ¬ P → Z l g R nL x k n w (pc + 3) lv st) : Z l g R nL x k n w pc lv (vi (zb P) :: st) := by
  refine zz_if_ne hx tgt d ht (by rcases zb_01 P with h | h <;> rw [h] <;> decide) (fun z => kt ?_) (fun z => kf (zb_eq.mp z))
  rcases Decidable.em P with h | h
  · exact h
  · exact absurd (zb_f h) z
/-! fields and arrays -/
theorem zz_get (hx : zOK l g nL x own cc) {index ci fk N : Nat} {C : String} {T : u_T} (hL : zLf own index ci fk C T N) (hc : zcl[ci]? = some (C, T, N)) (q0 : Nat) {a : Nat} {fs : List Value} (he : w[q0]? = some (a, .inr (ci, fs))) {v : Value} (hv : fs[fk]? = some v) (d : decode cc pc = .ok (.getfield index, 3))
    (kk : Z l g R nL x k n w (pc + 3) lv (v :: st)) : Z l g R nL x k n w pc lv (.ref a :: st) := by
  obtain ⟨p, e, s, m, args, below, meth, c, A, Q⟩ := x
  obtain ⟨h1, h2, -, h4, h5, h6, -⟩ := hx
  obtain ⟨f1, f2, f3, f4⟩ := hL
  intro H locs ls hP hD hS h
  exact va_get (D := g.1) h1 h2 h5 f4 h4 h6.1 hP q0 he hc fk f1 (h5 _ f2) (fun z hz => by rw [← f3]; exact hz) hv d (kk H locs ls hP hD hS h)
/-- a field that is no final one, of ints -/
theorem zz_put (hx : zOK l g nL x own cc) {index ci fk N : Nat} {C : String} {T : u_T} (hL : zLf own index ci fk C T N) (hc : zcl[ci]? = some (C, T, N)) (ty0 : Nat → FieldType) (hty : ∀ k, k < N → parseFieldDescriptor (T k).2.2.1 = some (ty0 k)) (hnm : ∀ a, a < N → ∀ b, b < N → a ≠ b → (T a).2.1 ≠ (T b).2.1) (q0 : Nat) {a : Nat} {fs : List Value} (he : w[q0]? = some (a, .inr (ci, fs))) (hfin : (T fk).2.2.2 = false) (hI : ty0 fk = .int) (hl : fk < fs.length) {v : Int} (d : decode cc pc = .ok (.putfield index, 3))
    {w' : va_W} (hw : w.set q0 (a, .inr (ci, fs.set fk (vi v))) = w') (kk : Z l g R nL x k n w' (pc + 3) lv st) : Z l g R nL x k n w pc lv (vi v :: .ref a :: st) := by
  obtain ⟨p, e, s, m, args, below, meth, c, A, Q⟩ := x
  obtain ⟨h1, h2, -, h4, h5, h6, -⟩ := hx
  obtain ⟨f1, f2, f3, f4⟩ := hL
  subst hw
  intro H locs ls hP hD hS h
  exact va_put (D := g.1) (v := vi v) (ty := .int) h1 h2 h5 f4 ty0 hty hnm h4 h6.1 hP hD hS q0 he hc fk f1 (h5 _ f2) (fun z hz => by rw [← f3]; exact hz) hfin (by rw [← hI]; exact hty fk f1) rfl rfl hl d
    (fun H1 locs1 hP1 hD1 hS1 => kk H1 locs1 ls hP1 hD1 hS1 h)
/-- ints in a row, by their numbers -/
def zar (n : Nat) (f : Int → Int) : vp_A := (n, .inl (fun j : Nat => Int32.ofInt (f (j : Int))))
def zup (f : Int → Int) (i v : Int) : Int → Int := fun j => if j = i then v else f j
theorem zup_s (f : Int → Int) (i v : Int) : zup f i v i = v := if_pos rfl
theorem zup_n (f : Int → Int) {i j : Int} (v : Int) (h : j ≠ i) : zup f i v j = f j := if_neg h
theorem zar_up (n : Nat) (f : Int → Int) {i : Int} (v : Int) (h0 : 0 ≤ i) (h1 : i < 2147483648) : ((n, .inl (upd (fun j : Nat => Int32.ofInt (f (j : Int))) (Int32.ofInt i).toNatClampNeg (Int32.ofInt v))) : vp_A) = zar n (zup f i v) := by
  unfold zar
  congr 2
  funext j
  rw [vi_cl h0 h1]
  unfold upd zup
  by_cases hj : j = i.toNat
  · rw [if_pos hj, if_pos (by omega)]
  · rw [if_neg hj, if_neg (by omega)]
theorem zz_iald (hx : zOK l g nL x own cc) (q0 : Nat) {a N : Nat} {f : Int → Int} (he : w[q0]? = some (a, .inl (g.2.1, zar N f))) (hN : N < 2147483648) {i : Int} (h0 : 0 ≤ i) (h1 : i < (N : Int)) (d : decode cc pc = .ok (.iaload, 1))
    (kk : Z l g R nL x k n w (pc + 1) lv (vi (f i) :: st)) : Z l g R nL x k n w pc lv (vi i :: .ref a :: st) := by
  obtain ⟨p, e, s, m, args, below, meth, c, A, Q⟩ := x
  obtain ⟨h2, h3, -, h4, h5, h6, -⟩ := hx
  intro H locs ls hP hD hS h
  refine va_iald (D := g.1) h2 h3 h6.1 hP q0 0 he rfl (vi_in h0 h1 hN) d ?_
  rw [vi_cl h0 (by omega), Int.toNat_of_nonneg h0]
  exact kk H locs ls hP hD hS h
theorem zz_iast (hx : zOK l g nL x own cc) (q0 : Nat) {a N : Nat} {f : Int → Int} (he : w[q0]? = some (a, .inl (g.2.1, zar N f))) (hN : N < 2147483648) {i v : Int} (h0 : 0 ≤ i) (h1 : i < (N : Int)) (d : decode cc pc = .ok (.iastore, 1))
    {w' : va_W} (hw : w.set q0 (a, .inl (g.2.1, zar N (zup f i v))) = w') (kk : Z l g R nL x k n w' (pc + 1) lv st) : Z l g R nL x k n w pc lv (vi v :: vi i :: .ref a :: st) := by
  obtain ⟨p, e, s, m, args, below, meth, c, A, Q⟩ := x
  obtain ⟨h2, h3, -, h4, h5, h6, -⟩ := hx
  subst hw
  intro H locs ls hP hD hS h
  refine va_iast (D := g.1) h2 h3 h6.1 hP hD hS q0 0 he rfl (vi_in h0 h1 hN) d (fun H1 locs1 hP1 hD1 hS1 => ?_)
  rw [zar_up N f v h0 (by omega)] at hP1 hD1
  exact kk H1 locs1 ls hP1 hD1 hS1 h
theorem zz_zald (hx : zOK l g nL x own cc) (q0 : Nat) {a N : Nat} {f : Int → Int} (he : w[q0]? = some (a, .inl (g.2.2.1, zar N f))) (hN : N < 2147483648) {i : Int} (h0 : 0 ≤ i) (h1 : i < (N : Int)) (d : decode cc pc = .ok (.baload, 1))
    (kk : Z l g R nL x k n w (pc + 1) lv (vi (f i) :: st)) : Z l g R nL x k n w pc lv (vi i :: .ref a :: st) := by
  obtain ⟨p, e, s, m, args, below, meth, c, A, Q⟩ := x
  obtain ⟨h2, h3, -, h4, h5, h6, -⟩ := hx
  intro H locs ls hP hD hS h
  refine va_zald (D := g.1) h2 h3 h6.1 hP q0 1 he rfl (vi_in h0 h1 hN) d ?_
  rw [vi_cl h0 (by omega), Int.toNat_of_nonneg h0]
  exact kk H locs ls hP hD hS h
theorem vi_nar {v : Int} (hv : v = 0 ∨ v = 1) : vp_nar .boolean (Int32.ofInt v) = Int32.ofInt v := by rcases hv with rfl | rfl <;> rfl
theorem zz_zast (hx : zOK l g nL x own cc) (q0 : Nat) {a N : Nat} {f : Int → Int} (he : w[q0]? = some (a, .inl (g.2.2.1, zar N f))) (hN : N < 2147483648) {i v : Int} (h0 : 0 ≤ i) (h1 : i < (N : Int)) (hv : v = 0 ∨ v = 1) (d : decode cc pc = .ok (.bastore, 1))
    {w' : va_W} (hw : w.set q0 (a, .inl (g.2.2.1, zar N (zup f i v))) = w') (kk : Z l g R nL x k n w' (pc + 1) lv st) : Z l g R nL x k n w pc lv (vi v :: vi i :: .ref a :: st) := by
  obtain ⟨p, e, s, m, args, below, meth, c, A, Q⟩ := x
  obtain ⟨h2, h3, -, h4, h5, h6, -⟩ := hx
  subst hw
  intro H locs ls hP hD hS h
  refine va_zast (D := g.1) h2 h3 h6.1 hP hD hS q0 1 he rfl (vi_in h0 h1 hN) d (fun H1 locs1 hP1 hD1 hS1 => ?_)
  rw [vi_nar hv, zar_up N f v h0 (by omega)] at hP1 hD1
  exact kk H1 locs1 ls hP1 hD1 hS1 h
theorem zz_alen (hx : zOK l g nL x own cc) (q0 : Nat) {a N : Nat} {f : Int → Int} (he : w[q0]? = some (a, .inl (g.2.1, zar N f))) (d : decode cc pc = .ok (.arraylength, 1))
    (kk : Z l g R nL x k n w (pc + 1) lv (vi (N : Int) :: st)) : Z l g R nL x k n w pc lv (.ref a :: st) := by
  obtain ⟨p, e, s, m, args, below, meth, c, A, Q⟩ := x
  obtain ⟨h2, h3, -, h4, h5, h6, -⟩ := hx
  intro H locs ls hP hD hS h
  exact va_alen (D := g.1) h2 h3 h6.1 hP q0 0 he rfl (v := Int32.ofInt (N : Int)) rfl d (kk H locs ls hP hD hS h)
/-! ends -/
variable {w0 : va_W} {Post : Option Value → va_W → Prop} {PX : String → va_W → Prop} {mc ms : Nat}
theorem zz_iret (hx : zOK l g nL x own cc) (hf : zFin g x w0 Post PX mc ms (some .int)) (d : decode cc pc = .ok (.ireturn, 1)) {a : Int} (hp : Post (some (vi a)) w) (h1 : k ≤ mc) (h2 : n ≤ ms) : Z l g R nL x k n w pc lv [vi a] := by
  refine zz_widen h1 h2 ?_
  obtain ⟨p, e, s, m, args, below, meth, c, A, Q⟩ := x
  obtain ⟨h2, h3, -, h4, h5, h6, h7, h8, -⟩ := hx
  obtain ⟨hr, sz, rfl, rfl⟩ := hf
  intro H locs ls hP hD hS h
  exact vx_ret (W.iret h2 h3 hr (fun t ht _ => ⟨⟨_, w, rfl, hp, by rw [ht]; exact hP, hD⟩, hS.F ht⟩) hS.2.2 d h8)
theorem zz_zret (hx : zOK l g nL x own cc) (hf : zFin g x w0 Post PX mc ms (some .boolean)) (d : decode cc pc = .ok (.ireturn, 1)) {a : Int} (ha : a = 0 ∨ a = 1) (hp : Post (some (vi a)) w) (h1 : k ≤ mc) (h2 : n ≤ ms) : Z l g R nL x k n w pc lv [vi a] := by
  refine zz_widen h1 h2 ?_
  obtain ⟨p, e, s, m, args, below, meth, c, A, Q⟩ := x
  obtain ⟨h2, h3, -, h4, h5, h6, h7, h8, -⟩ := hx
  obtain ⟨hr, sz, rfl, rfl⟩ := hf
  intro H locs ls hP hD hS h
  exact vx_ret (W.zret h2 h3 hr (by rcases ha with rfl | rfl <;> rfl) (fun t ht _ => ⟨⟨_, w, rfl, hp, by rw [ht]; exact hP, hD⟩, hS.F ht⟩) hS.2.2 d h8)
theorem zz_vret (hx : zOK l g nL x own cc) (hf : zFin g x w0 Post PX mc ms none) (d : decode cc pc = .ok (.return_, 1)) (hp : Post none w) (h1 : k ≤ mc) (h2 : n ≤ ms) : Z l g R nL x k n w pc lv [] := by
  refine zz_widen h1 h2 ?_
  obtain ⟨p, e, s, m, args, below, meth, c, A, Q⟩ := x
  obtain ⟨h2, h3, -, h4, h5, h6, h7, h8, -⟩ := hx
  obtain ⟨hr, sz, rfl, rfl⟩ := hf
  intro H locs ls hP hD hS h
  exact vx_ret (W.vret h2 h3 hr (fun t ht _ => ⟨⟨_, w, rfl, hp, by rw [ht]; exact hP, hD⟩, hS.F ht⟩) hS.2.2 d h8)
theorem zz_aret (hx : zOK l g nL x own cc) {C : String} (hf : zFin g x w0 Post PX mc ms (some (.object C))) (d : decode cc pc = .ok (.areturn, 1)) {a : Nat} (hp : Post (some (.ref a)) w) (h1 : k ≤ mc) (h2 : n ≤ ms) : Z l g R nL x k n w pc lv [.ref a] := by
  refine zz_widen h1 h2 ?_
  obtain ⟨p, e, s, m, args, below, meth, c, A, Q⟩ := x
  obtain ⟨h2, h3, -, h4, h5, h6, h7, h8, -⟩ := hx
  obtain ⟨hr, sz, rfl, rfl⟩ := hf
  intro H locs ls hP hD hS h
  exact vx_ret (W.aret h2 h3 hr (Or.inl ⟨C, rfl⟩) (Or.inr ⟨a, rfl⟩) (fun t ht _ => ⟨⟨_, w, rfl, hp, by rw [ht]; exact hP, hD⟩, hS.F ht⟩) hS.2.2 d h8)
/-- an exception that no table catches leaves the method -/
theorem zz_out {ret : Option FieldType} (hx : zOK l g nL x own cc) (hf : zFin g x w0 Post PX mc ms ret) (hn : zNT x) {E : String} (hp : PX E w) (h1 : k ≤ mc) (h2 : n ≤ ms) : ZT l g R nL x k n w pc lv st E := by
  obtain ⟨p, e, s, m, args, below, meth, c, A, Q⟩ := x
  obtain ⟨-, h3, -, h4, h5, h6, h7, h8, -⟩ := hx
  obtain ⟨hr, sz, rfl, rfl⟩ := hf
  intro H locs ls ce q9 hP hD hS h hc hv hcl
  exact vx_out (fun z hz => (hn z hz).elim) h8 hc hv hcl (fun t ht _ => ⟨⟨w, hp, by rw [ht]; exact hP, hD⟩, hS.F ht⟩) hS.2.2 h1 h2
/-! calls -/
/-- what is behind a call of a contract's method -/
theorem zz_after {p : Program} {e : Env} {s : State} {m : MethodId} {args : Array Value} {below : List Frame} {meth : Method} {c : Code} {A : Nat → Prop} {Q : State → Prop} {H : Heap} {locs : List Loc} {ls : Array Slot} {st0 : List Value} {mc' ms' : Nat} {P' : Option Value → va_W → Prop} {X' : String → va_W → Prop} {aa : Array Value}
    (hr : vx_Run p l e R s m args below meth c H locs k n mc' ms' (F0 m pc ls st0) st (zQc g w H.size P' aa) (zXc g w H.size X') (va_A w H.size)) (hD : va_D A w) (hS : va_S A s.heap H locs) (hl : lv_has ls nL lv) (hA : ∀ q : Nat, s.heap.size ≤ q → A q)
    (kk : ∀ (v : Option Value) (w1 : va_W), P' v w1 → Z l g R nL (p, e, s, m, args, below, meth, c, A, Q) (k + mc') (n + ms') w1 (pc + 3) lv (v.toList ++ st))
    (kx : ∀ (E : String) (w1 : va_W), X' E w1 → ZT l g R nL (p, e, s, m, args, below, meth, c, A, Q) (k + mc') (n + ms') w1 pc lv st E) : W p l e R s m args below meth c H locs k n Q (F0 m pc ls st0) := by
  have hF : ∀ q : Nat, va_A w H.size q → A q := fun q h => by
    rcases h with ⟨j, e9, h⟩ | h
    · exact hD.2 j (q, e9) h
    · exact hA q (Nat.le_trans hS.1 h)
  intro T hT X
  rcases hr T hT X with ⟨v, st₀, t, T', L, h0, X', hL, e1, e2, ⟨⟨v', w1, hv, hp, hP1, hD1⟩, hFr⟩, stp⟩ | ⟨q, st₀, t, T', L, E, ce, h0, X', hL, e1, e2, ⟨⟨w1, hp, hP1, hD1⟩, hFr⟩, hce, hcv, hcl, stp⟩
  · cases hv
    obtain ⟨k1, k2, k3⟩ := vx_keep h0 e1 hS (fun q _ h => hF q h) hF hL hFr
    obtain ⟨t2, a1, b1⟩ := kk v w1 hp T'.heap (locs ++ L) ls (by rw [e1]; exact hP1) (hD1.weaken (fun _ _ _ h => hF _ h)) k3 hl T' rfl X'
    exact ⟨t2, stp t2 a1, b1⟩
  · obtain ⟨k1, k2, k3⟩ := vx_keep h0 e1 hS (fun q _ h => hF q h) hF hL hFr
    obtain ⟨t2, a1, b1⟩ := kx E w1 hp T'.heap (locs ++ L) ls ce q (by rw [e1]; exact hP1) (hD1.weaken (fun _ _ _ h => hF _ h)) k3 hl (by rw [e1]; exact hce) hcv hcl T' rfl X'
    exact ⟨t2, stp.trans a1, b1⟩
theorem zz_pre {s : State} {m : MethodId} {A : Nat → Prop} {H : Heap} {locs : List Loc} {av : List Value} (hP : va_P g.1 zcl w H) (hD : va_D A w) (hS : va_S A s.heap H locs) (hA : ∀ q : Nat, s.heap.size ≤ q → A q) (hE : zE g s) (hQ : zQ A s s.heap) : ∀ U : State, U.heap = H → s.WarmedH U.vm → zPc g w H.size av av.toArray U := by
  intro U hU hW
  refine ⟨rfl, by rw [hU], by rw [hU]; exact hP, zE_warm hW hE, ?_, hD.weaken (fun _ _ _ _ => trivial)⟩
  rw [hU]
  refine zQ_moved hW.alike (zQ_narrow (zQ_kept hQ hS.2.1) fun q h => ?_)
  rcases h with ⟨j, e9, h⟩ | h
  · exact hD.2 j (q, e9) h
  · exact hA q (Nat.le_trans hS.1 h)
theorem zz_callV {index : Nat} {y : MethodName} {bytes : ByteArray} {maxL na : Nat} {ret : Option FieldType} {rm : Room} {b : Nat} {As : List Value} {P' : Option Value → va_W → Prop} {X' : String → va_W → Prop} {mc' ms' ci : Nat} {T0 : u_T} {N0 : Nat} {fs : List Value} {st0 : List Value}
    (hx : zOK l g nL x own cc) (hm : zMe y bytes maxL ret na) (hk : Cond.methodLink own index y ∈ zT) (hc : zM l g y bytes maxL ret rm (.ref b :: As) w P' X' mc' ms')
    (q0 : Nat) (he : w[q0]? = some (b, .inr (ci, fs))) (hcl : zcl[ci]? = some (y.cls, T0, N0)) (hrm : rm.cells = mc' ∧ rm.slots = ms') (hR : rm.frames + 1 ≤ R.frames ∧ 8 + (maxL + 11) + rm.locals ≤ R.locals) (hcs : k + mc' ≤ R.cells ∧ n + ms' ≤ R.slots) (hn : As.length = na) (hst : st0 = As.reverse ++ .ref b :: st) (h8 : (st.map fun v => v.category).sum ≤ 8) (d : decode cc pc = .ok (.invokevirtual index, 3))
    (kx : ∀ (E : String) (w1 : va_W), X' E w1 → ZT l g R nL x (k + mc') (n + ms') w1 pc lv st E)
    (kk : ∀ (v : Option Value) (w1 : va_W), P' v w1 → Z l g R nL x (k + mc') (n + ms') w1 (pc + 3) lv (v.toList ++ st)) : Z l g R nL x k n w pc lv st0 := by
  obtain ⟨p, e, s, m, args, below, meth, c, A, Q⟩ := x
  obtain ⟨h2, h3, h3', h4, h5, h6, h7, h8', h9, hA⟩ := hx
  obtain ⟨m1, m2, m3, m4, m5, m6⟩ := hm
  intro H locs ls hP hD hS h
  have cb : CallB R s args own index y bytes maxL ret (.code y bytes maxL ret :: zT) rm mc' ms' na := callB_of na h5 (zT_good m4) rfl hrm.1 hrm.2 (h5 _ m3) (h5 _ hk) ⟨m5.1, m5.2, m6⟩ hR
  exact zz_after (vx_runV ⟨h2, h3, h3', h4, h5⟩ (hc H.size) ⟨cb, h5 _ m1, h5 _ m2⟩ ⟨zPc_blind, va_recv h6.1 hP hcl he, zz_pre (m := m) hP hD hS hA h6 h7⟩ rfl hn h.1 hst (lv_room h8) d hcs) hD hS h hA kk kx
theorem zz_callS {index na : Nat} {y : MethodName} {bytes : ByteArray} {maxL : Nat} {ret : Option FieldType} {rm : Room} {As : List Value} {P' : Option Value → va_W → Prop} {X' : String → va_W → Prop} {mc' ms' : Nat} {st0 : List Value}
    (hx : zOK l g nL x own cc) (hm : zMs y bytes maxL ret na) (hk : Cond.methodLink own index y ∈ zT) (hc : zM l g y bytes maxL ret rm As w P' X' mc' ms')
    (hrm : rm.cells = mc' ∧ rm.slots = ms') (hR : rm.frames + 1 ≤ R.frames ∧ 8 + (maxL + 11) + rm.locals ≤ R.locals) (hcs : k + mc' ≤ R.cells ∧ n + ms' ≤ R.slots) (hn : As.length = na) (hst : st0 = As.reverse ++ st) (h8 : (st.map fun v => v.category).sum ≤ 8) (d : decode cc pc = .ok (.invokestatic index, 3))
    (kx : ∀ (E : String) (w1 : va_W), X' E w1 → ZT l g R nL x (k + mc') (n + ms') w1 pc lv st E)
    (kk : ∀ (v : Option Value) (w1 : va_W), P' v w1 → Z l g R nL x (k + mc') (n + ms') w1 (pc + 3) lv (v.toList ++ st)) : Z l g R nL x k n w pc lv st0 := by
  obtain ⟨p, e, s, m, args, below, meth, c, A, Q⟩ := x
  obtain ⟨h2, h3, h3', h4, h5, h6, h7, h8', h9, hA⟩ := hx
  obtain ⟨m1, m3, m4, m5, m6⟩ := hm
  intro H locs ls hP hD hS h
  have cb : CallB R s args own index y bytes maxL ret (.code y bytes maxL ret :: zT) rm mc' ms' na := callB_of na h5 (zT_good m4) rfl hrm.1 hrm.2 (h5 _ m3) (h5 _ hk) ⟨m5.1, m5.2, m6⟩ hR
  exact zz_after (vx_runS ⟨h2, h3, h3', h4, h5⟩ (hc H.size) ⟨cb, h5 _ m1⟩ ⟨zPc_blind, zz_pre (m := m) hP hD hS hA h6 h7⟩ rfl hn h.1 hst (lv_room h8) d hcs) hD hS h hA kk kx
theorem zz_callVi {index : Nat} {y : MethodName} {bytes : ByteArray} {maxL na : Nat} {ret : Option FieldType} {rm : Room} {b : Nat} {As : List Value} {P : Int → va_W → Prop} {X' : String → va_W → Prop} {mc' ms' ci : Nat} {T0 : u_T} {N0 : Nat} {fs : List Value} {st0 : List Value}
    (hx : zOK l g nL x own cc) (hm : zMe y bytes maxL ret na) (hk : Cond.methodLink own index y ∈ zT) (hc : zM l g y bytes maxL ret rm (.ref b :: As) w (zI P) X' mc' ms')
    (q0 : Nat) (he : w[q0]? = some (b, .inr (ci, fs))) (hcl : zcl[ci]? = some (y.cls, T0, N0)) (hrm : rm.cells = mc' ∧ rm.slots = ms') (hR : rm.frames + 1 ≤ R.frames ∧ 8 + (maxL + 11) + rm.locals ≤ R.locals) (hcs : k + mc' ≤ R.cells ∧ n + ms' ≤ R.slots) (hn : As.length = na) (hst : st0 = As.reverse ++ .ref b :: st) (h8 : (st.map fun v => v.category).sum ≤ 8) (d : decode cc pc = .ok (.invokevirtual index, 3))
    (kx : ∀ (E : String) (w1 : va_W), X' E w1 → ZT l g R nL x (k + mc') (n + ms') w1 pc lv st E)
    (kk : ∀ (r : Int) (w1 : va_W), P r w1 → Z l g R nL x (k + mc') (n + ms') w1 (pc + 3) lv (vi r :: st)) : Z l g R nL x k n w pc lv st0 :=
  zz_callV hx hm hk hc q0 he hcl hrm hR hcs hn hst h8 d kx (fun v w1 hp => by obtain ⟨r, rfl, hp⟩ := hp; exact kk r w1 hp)
theorem zz_callSi {index na : Nat} {y : MethodName} {bytes : ByteArray} {maxL : Nat} {ret : Option FieldType} {rm : Room} {As : List Value} {P : Int → va_W → Prop} {X' : String → va_W → Prop} {mc' ms' : Nat} {st0 : List Value}
    (hx : zOK l g nL x own cc) (hm : zMs y bytes maxL ret na) (hk : Cond.methodLink own index y ∈ zT) (hc : zM l g y bytes maxL ret rm As w (zI P) X' mc' ms')
    (hrm : rm.cells = mc' ∧ rm.slots = ms') (hR : rm.frames + 1 ≤ R.frames ∧ 8 + (maxL + 11) + rm.locals ≤ R.locals) (hcs : k + mc' ≤ R.cells ∧ n + ms' ≤ R.slots) (hn : As.length = na) (hst : st0 = As.reverse ++ st) (h8 : (st.map fun v => v.category).sum ≤ 8) (d : decode cc pc = .ok (.invokestatic index, 3))
    (kx : ∀ (E : String) (w1 : va_W), X' E w1 → ZT l g R nL x (k + mc') (n + ms') w1 pc lv st E)
    (kk : ∀ (r : Int) (w1 : va_W), P r w1 → Z l g R nL x (k + mc') (n + ms') w1 (pc + 3) lv (vi r :: st)) : Z l g R nL x k n w pc lv st0 :=
  zz_callS hx hm hk hc hrm hR hcs hn hst h8 d kx (fun v w1 hp => by obtain ⟨r, rfl, hp⟩ := hp; exact kk r w1 hp)
theorem zz_callVv {index : Nat} {y : MethodName} {bytes : ByteArray} {maxL na : Nat} {ret : Option FieldType} {rm : Room} {b : Nat} {As : List Value} {P : va_W → Prop} {X' : String → va_W → Prop} {mc' ms' ci : Nat} {T0 : u_T} {N0 : Nat} {fs : List Value} {st0 : List Value}
    (hx : zOK l g nL x own cc) (hm : zMe y bytes maxL ret na) (hk : Cond.methodLink own index y ∈ zT) (hc : zM l g y bytes maxL ret rm (.ref b :: As) w (zV P) X' mc' ms')
    (q0 : Nat) (he : w[q0]? = some (b, .inr (ci, fs))) (hcl : zcl[ci]? = some (y.cls, T0, N0)) (hrm : rm.cells = mc' ∧ rm.slots = ms') (hR : rm.frames + 1 ≤ R.frames ∧ 8 + (maxL + 11) + rm.locals ≤ R.locals) (hcs : k + mc' ≤ R.cells ∧ n + ms' ≤ R.slots) (hn : As.length = na) (hst : st0 = As.reverse ++ .ref b :: st) (h8 : (st.map fun v => v.category).sum ≤ 8) (d : decode cc pc = .ok (.invokevirtual index, 3))
    (kx : ∀ (E : String) (w1 : va_W), X' E w1 → ZT l g R nL x (k + mc') (n + ms') w1 pc lv st E)
    (kk : ∀ w1 : va_W, P w1 → Z l g R nL x (k + mc') (n + ms') w1 (pc + 3) lv (st)) : Z l g R nL x k n w pc lv st0 :=
  zz_callV hx hm hk hc q0 he hcl hrm hR hcs hn hst h8 d kx (fun v w1 hp => by obtain ⟨rfl, hp⟩ := hp; exact kk w1 hp)
theorem zz_callSv {index na : Nat} {y : MethodName} {bytes : ByteArray} {maxL : Nat} {ret : Option FieldType} {rm : Room} {As : List Value} {P : va_W → Prop} {X' : String → va_W → Prop} {mc' ms' : Nat} {st0 : List Value}
    (hx : zOK l g nL x own cc) (hm : zMs y bytes maxL ret na) (hk : Cond.methodLink own index y ∈ zT) (hc : zM l g y bytes maxL ret rm As w (zV P) X' mc' ms')
    (hrm : rm.cells = mc' ∧ rm.slots = ms') (hR : rm.frames + 1 ≤ R.frames ∧ 8 + (maxL + 11) + rm.locals ≤ R.locals) (hcs : k + mc' ≤ R.cells ∧ n + ms' ≤ R.slots) (hn : As.length = na) (hst : st0 = As.reverse ++ st) (h8 : (st.map fun v => v.category).sum ≤ 8) (d : decode cc pc = .ok (.invokestatic index, 3))
    (kx : ∀ (E : String) (w1 : va_W), X' E w1 → ZT l g R nL x (k + mc') (n + ms') w1 pc lv st E)
    (kk : ∀ w1 : va_W, P w1 → Z l g R nL x (k + mc') (n + ms') w1 (pc + 3) lv (st)) : Z l g R nL x k n w pc lv st0 :=
  zz_callS hx hm hk hc hrm hR hcs hn hst h8 d kx (fun v w1 hp => by obtain ⟨rfl, hp⟩ := hp; exact kk w1 hp)
theorem zz_callVa {index : Nat} {y : MethodName} {bytes : ByteArray} {maxL na : Nat} {ret : Option FieldType} {rm : Room} {b : Nat} {As : List Value} {P : Nat → va_W → Prop} {X' : String → va_W → Prop} {mc' ms' ci : Nat} {T0 : u_T} {N0 : Nat} {fs : List Value} {st0 : List Value}
    (hx : zOK l g nL x own cc) (hm : zMe y bytes maxL ret na) (hk : Cond.methodLink own index y ∈ zT) (hc : zM l g y bytes maxL ret rm (.ref b :: As) w (zA P) X' mc' ms')
    (q0 : Nat) (he : w[q0]? = some (b, .inr (ci, fs))) (hcl : zcl[ci]? = some (y.cls, T0, N0)) (hrm : rm.cells = mc' ∧ rm.slots = ms') (hR : rm.frames + 1 ≤ R.frames ∧ 8 + (maxL + 11) + rm.locals ≤ R.locals) (hcs : k + mc' ≤ R.cells ∧ n + ms' ≤ R.slots) (hn : As.length = na) (hst : st0 = As.reverse ++ .ref b :: st) (h8 : (st.map fun v => v.category).sum ≤ 8) (d : decode cc pc = .ok (.invokevirtual index, 3))
    (kx : ∀ (E : String) (w1 : va_W), X' E w1 → ZT l g R nL x (k + mc') (n + ms') w1 pc lv st E)
    (kk : ∀ (r : Nat) (w1 : va_W), P r w1 → Z l g R nL x (k + mc') (n + ms') w1 (pc + 3) lv (.ref r :: st)) : Z l g R nL x k n w pc lv st0 :=
  zz_callV hx hm hk hc q0 he hcl hrm hR hcs hn hst h8 d kx (fun v w1 hp => by obtain ⟨r, rfl, hp⟩ := hp; exact kk r w1 hp)
theorem zz_callSa {index na : Nat} {y : MethodName} {bytes : ByteArray} {maxL : Nat} {ret : Option FieldType} {rm : Room} {As : List Value} {P : Nat → va_W → Prop} {X' : String → va_W → Prop} {mc' ms' : Nat} {st0 : List Value}
    (hx : zOK l g nL x own cc) (hm : zMs y bytes maxL ret na) (hk : Cond.methodLink own index y ∈ zT) (hc : zM l g y bytes maxL ret rm As w (zA P) X' mc' ms')
    (hrm : rm.cells = mc' ∧ rm.slots = ms') (hR : rm.frames + 1 ≤ R.frames ∧ 8 + (maxL + 11) + rm.locals ≤ R.locals) (hcs : k + mc' ≤ R.cells ∧ n + ms' ≤ R.slots) (hn : As.length = na) (hst : st0 = As.reverse ++ st) (h8 : (st.map fun v => v.category).sum ≤ 8) (d : decode cc pc = .ok (.invokestatic index, 3))
    (kx : ∀ (E : String) (w1 : va_W), X' E w1 → ZT l g R nL x (k + mc') (n + ms') w1 pc lv st E)
    (kk : ∀ (r : Nat) (w1 : va_W), P r w1 → Z l g R nL x (k + mc') (n + ms') w1 (pc + 3) lv (.ref r :: st)) : Z l g R nL x k n w pc lv st0 :=
  zz_callS hx hm hk hc hrm hR hcs hn hst h8 d kx (fun v w1 hp => by obtain ⟨r, rfl, hp⟩ := hp; exact kk r w1 hp)
end ZS
end
section
/-! the model (the reference): one object and its rows; F the int fields, G the rows, by the field's number: 0 sets, 1 ownerType, 2 memberType, 3 insertion, 4 isAutomatic, 5 retention, 6 stored, 7 alive, 8 isThere, 9 type, 10 value, 11 owner, 12 many, 13 row, 14 run, 15 ofType, 16 inSet, 17 isMarked, 18 thrown -/
def mW (g : zG) (a : Nat → Nat) (F : Nat → Int) (G : Nat → Int → Int) (rest : va_W) : va_W :=
  (a 0, .inr (5, [vi (F 0), .ref (a 1), .ref (a 2), .ref (a 3), .ref (a 4), .ref (a 5), vi (F 6), vi (F 7), .ref (a 8), .ref (a 9), .ref (a 10), .ref (a 11), .ref (a 12), .ref (a 13), vi (F 14), .ref (a 15), .ref (a 16), .ref (a 17), vi (F 18)])) :: (a 1, .inl (g.2.1, zar 6 (G 1))) ::
  (a 2, .inl (g.2.1, zar 6 (G 2))) ::
  (a 3, .inl (g.2.1, zar 6 (G 3))) ::
  (a 4, .inl (g.2.2.1, zar 6 (G 4))) ::
  (a 5, .inl (g.2.1, zar 6 (G 5))) ::
  (a 8, .inl (g.2.2.1, zar 60 (G 8))) ::
  (a 9, .inl (g.2.1, zar 60 (G 9))) ::
  (a 10, .inl (g.2.1, zar 60 (G 10))) ::
  (a 11, .inl (g.2.1, zar 360 (G 11))) ::
  (a 12, .inl (g.2.1, zar 6 (G 12))) ::
  (a 13, .inl (g.2.1, zar 360 (G 13))) ::
  (a 15, .inl (g.2.1, zar 4 (G 15))) ::
  (a 16, .inl (g.2.1, zar 6 (G 16))) ::
  (a 17, .inl (g.2.2.1, zar 60 (G 17))) :: rest
def Fup (F : Nat → Int) (k : Nat) (v : Int) : Nat → Int := fun j => if j = k then v else F j
def Gup (G : Nat → Int → Int) (k : Nat) (i v : Int) : Nat → Int → Int := fun j => if j = k then zup (G k) i v else G j
theorem Fup_s (F : Nat → Int) (k : Nat) (v : Int) : Fup F k v k = v := if_pos rfl
theorem Fup_n (F : Nat → Int) {k j : Nat} (v : Int) (h : j ≠ k) : Fup F k v j = F j := if_neg h
theorem Gup_s (G : Nat → Int → Int) (k : Nat) (i v : Int) : Gup G k i v k = zup (G k) i v := if_pos rfl
theorem Gup_n (G : Nat → Int → Int) {k j : Nat} (i v : Int) (h : j ≠ k) : Gup G k i v j = G j := if_neg h
section ZMO
variable {l : Launch} {g : zG} {R : Room} {nL : Nat} {x : zX} {k n : Nat} {pc : Nat} {lv : List (Nat × Value)} {st : List Value} {own : String} {cc : ByteArray} {a : Nat → Nat} {F : Nat → Int} {G : Nat → Int → Int} {rest : va_W}
theorem zm_g0 (hx : zOK l g nL x own cc) {index : Nat} (hL : zLf own index 5 0 RX4 TX4 19) (d : decode cc pc = .ok (.getfield index, 3)) (kk : Z l g R nL x k n (mW g a F G rest) (pc + 3) lv (vi (F 0) :: st)) : Z l g R nL x k n (mW g a F G rest) pc lv (.ref (a 0) :: st) := zz_get hx hL rfl 0 rfl rfl d kk
theorem zm_g1 (hx : zOK l g nL x own cc) {index : Nat} (hL : zLf own index 5 1 RX4 TX4 19) (d : decode cc pc = .ok (.getfield index, 3)) (kk : Z l g R nL x k n (mW g a F G rest) (pc + 3) lv (.ref (a 1) :: st)) : Z l g R nL x k n (mW g a F G rest) pc lv (.ref (a 0) :: st) := zz_get hx hL rfl 0 rfl rfl d kk
theorem zm_g2 (hx : zOK l g nL x own cc) {index : Nat} (hL : zLf own index 5 2 RX4 TX4 19) (d : decode cc pc = .ok (.getfield index, 3)) (kk : Z l g R nL x k n (mW g a F G rest) (pc + 3) lv (.ref (a 2) :: st)) : Z l g R nL x k n (mW g a F G rest) pc lv (.ref (a 0) :: st) := zz_get hx hL rfl 0 rfl rfl d kk
theorem zm_g3 (hx : zOK l g nL x own cc) {index : Nat} (hL : zLf own index 5 3 RX4 TX4 19) (d : decode cc pc = .ok (.getfield index, 3)) (kk : Z l g R nL x k n (mW g a F G rest) (pc + 3) lv (.ref (a 3) :: st)) : Z l g R nL x k n (mW g a F G rest) pc lv (.ref (a 0) :: st) := zz_get hx hL rfl 0 rfl rfl d kk
theorem zm_g4 (hx : zOK l g nL x own cc) {index : Nat} (hL : zLf own index 5 4 RX4 TX4 19) (d : decode cc pc = .ok (.getfield index, 3)) (kk : Z l g R nL x k n (mW g a F G rest) (pc + 3) lv (.ref (a 4) :: st)) : Z l g R nL x k n (mW g a F G rest) pc lv (.ref (a 0) :: st) := zz_get hx hL rfl 0 rfl rfl d kk
theorem zm_g5 (hx : zOK l g nL x own cc) {index : Nat} (hL : zLf own index 5 5 RX4 TX4 19) (d : decode cc pc = .ok (.getfield index, 3)) (kk : Z l g R nL x k n (mW g a F G rest) (pc + 3) lv (.ref (a 5) :: st)) : Z l g R nL x k n (mW g a F G rest) pc lv (.ref (a 0) :: st) := zz_get hx hL rfl 0 rfl rfl d kk
theorem zm_g6 (hx : zOK l g nL x own cc) {index : Nat} (hL : zLf own index 5 6 RX4 TX4 19) (d : decode cc pc = .ok (.getfield index, 3)) (kk : Z l g R nL x k n (mW g a F G rest) (pc + 3) lv (vi (F 6) :: st)) : Z l g R nL x k n (mW g a F G rest) pc lv (.ref (a 0) :: st) := zz_get hx hL rfl 0 rfl rfl d kk
theorem zm_g7 (hx : zOK l g nL x own cc) {index : Nat} (hL : zLf own index 5 7 RX4 TX4 19) (d : decode cc pc = .ok (.getfield index, 3)) (kk : Z l g R nL x k n (mW g a F G rest) (pc + 3) lv (vi (F 7) :: st)) : Z l g R nL x k n (mW g a F G rest) pc lv (.ref (a 0) :: st) := zz_get hx hL rfl 0 rfl rfl d kk
theorem zm_g8 (hx : zOK l g nL x own cc) {index : Nat} (hL : zLf own index 5 8 RX4 TX4 19) (d : decode cc pc = .ok (.getfield index, 3)) (kk : Z l g R nL x k n (mW g a F G rest) (pc + 3) lv (.ref (a 8) :: st)) : Z l g R nL x k n (mW g a F G rest) pc lv (.ref (a 0) :: st) := zz_get hx hL rfl 0 rfl rfl d kk
theorem zm_g9 (hx : zOK l g nL x own cc) {index : Nat} (hL : zLf own index 5 9 RX4 TX4 19) (d : decode cc pc = .ok (.getfield index, 3)) (kk : Z l g R nL x k n (mW g a F G rest) (pc + 3) lv (.ref (a 9) :: st)) : Z l g R nL x k n (mW g a F G rest) pc lv (.ref (a 0) :: st) := zz_get hx hL rfl 0 rfl rfl d kk
theorem zm_g10 (hx : zOK l g nL x own cc) {index : Nat} (hL : zLf own index 5 10 RX4 TX4 19) (d : decode cc pc = .ok (.getfield index, 3)) (kk : Z l g R nL x k n (mW g a F G rest) (pc + 3) lv (.ref (a 10) :: st)) : Z l g R nL x k n (mW g a F G rest) pc lv (.ref (a 0) :: st) := zz_get hx hL rfl 0 rfl rfl d kk
theorem zm_g11 (hx : zOK l g nL x own cc) {index : Nat} (hL : zLf own index 5 11 RX4 TX4 19) (d : decode cc pc = .ok (.getfield index, 3)) (kk : Z l g R nL x k n (mW g a F G rest) (pc + 3) lv (.ref (a 11) :: st)) : Z l g R nL x k n (mW g a F G rest) pc lv (.ref (a 0) :: st) := zz_get hx hL rfl 0 rfl rfl d kk
theorem zm_g12 (hx : zOK l g nL x own cc) {index : Nat} (hL : zLf own index 5 12 RX4 TX4 19) (d : decode cc pc = .ok (.getfield index, 3)) (kk : Z l g R nL x k n (mW g a F G rest) (pc + 3) lv (.ref (a 12) :: st)) : Z l g R nL x k n (mW g a F G rest) pc lv (.ref (a 0) :: st) := zz_get hx hL rfl 0 rfl rfl d kk
theorem zm_g13 (hx : zOK l g nL x own cc) {index : Nat} (hL : zLf own index 5 13 RX4 TX4 19) (d : decode cc pc = .ok (.getfield index, 3)) (kk : Z l g R nL x k n (mW g a F G rest) (pc + 3) lv (.ref (a 13) :: st)) : Z l g R nL x k n (mW g a F G rest) pc lv (.ref (a 0) :: st) := zz_get hx hL rfl 0 rfl rfl d kk
theorem zm_g14 (hx : zOK l g nL x own cc) {index : Nat} (hL : zLf own index 5 14 RX4 TX4 19) (d : decode cc pc = .ok (.getfield index, 3)) (kk : Z l g R nL x k n (mW g a F G rest) (pc + 3) lv (vi (F 14) :: st)) : Z l g R nL x k n (mW g a F G rest) pc lv (.ref (a 0) :: st) := zz_get hx hL rfl 0 rfl rfl d kk
theorem zm_g15 (hx : zOK l g nL x own cc) {index : Nat} (hL : zLf own index 5 15 RX4 TX4 19) (d : decode cc pc = .ok (.getfield index, 3)) (kk : Z l g R nL x k n (mW g a F G rest) (pc + 3) lv (.ref (a 15) :: st)) : Z l g R nL x k n (mW g a F G rest) pc lv (.ref (a 0) :: st) := zz_get hx hL rfl 0 rfl rfl d kk
theorem zm_g16 (hx : zOK l g nL x own cc) {index : Nat} (hL : zLf own index 5 16 RX4 TX4 19) (d : decode cc pc = .ok (.getfield index, 3)) (kk : Z l g R nL x k n (mW g a F G rest) (pc + 3) lv (.ref (a 16) :: st)) : Z l g R nL x k n (mW g a F G rest) pc lv (.ref (a 0) :: st) := zz_get hx hL rfl 0 rfl rfl d kk
theorem zm_g17 (hx : zOK l g nL x own cc) {index : Nat} (hL : zLf own index 5 17 RX4 TX4 19) (d : decode cc pc = .ok (.getfield index, 3)) (kk : Z l g R nL x k n (mW g a F G rest) (pc + 3) lv (.ref (a 17) :: st)) : Z l g R nL x k n (mW g a F G rest) pc lv (.ref (a 0) :: st) := zz_get hx hL rfl 0 rfl rfl d kk
theorem zm_g18 (hx : zOK l g nL x own cc) {index : Nat} (hL : zLf own index 5 18 RX4 TX4 19) (d : decode cc pc = .ok (.getfield index, 3)) (kk : Z l g R nL x k n (mW g a F G rest) (pc + 3) lv (vi (F 18) :: st)) : Z l g R nL x k n (mW g a F G rest) pc lv (.ref (a 0) :: st) := zz_get hx hL rfl 0 rfl rfl d kk
theorem zm_p0 (hx : zOK l g nL x own cc) {index : Nat} (hL : zLf own index 5 0 RX4 TX4 19) {v : Int} (d : decode cc pc = .ok (.putfield index, 3)) (kk : Z l g R nL x k n (mW g a (Fup F 0 v) G rest) (pc + 3) lv st) : Z l g R nL x k n (mW g a F G rest) pc lv (vi v :: .ref (a 0) :: st) := zz_put (fs := [vi (F 0), .ref (a 1), .ref (a 2), .ref (a 3), .ref (a 4), .ref (a 5), vi (F 6), vi (F 7), .ref (a 8), .ref (a 9), .ref (a 10), .ref (a 11), .ref (a 12), .ref (a 13), vi (F 14), .ref (a 15), .ref (a 16), .ref (a 17), vi (F 18)]) hx hL rfl tyX4 tyX4_ok nmX4 0 rfl rfl rfl (Nat.le_of_ble_eq_true rfl) d rfl kk
theorem zm_p6 (hx : zOK l g nL x own cc) {index : Nat} (hL : zLf own index 5 6 RX4 TX4 19) {v : Int} (d : decode cc pc = .ok (.putfield index, 3)) (kk : Z l g R nL x k n (mW g a (Fup F 6 v) G rest) (pc + 3) lv st) : Z l g R nL x k n (mW g a F G rest) pc lv (vi v :: .ref (a 0) :: st) := zz_put (fs := [vi (F 0), .ref (a 1), .ref (a 2), .ref (a 3), .ref (a 4), .ref (a 5), vi (F 6), vi (F 7), .ref (a 8), .ref (a 9), .ref (a 10), .ref (a 11), .ref (a 12), .ref (a 13), vi (F 14), .ref (a 15), .ref (a 16), .ref (a 17), vi (F 18)]) hx hL rfl tyX4 tyX4_ok nmX4 0 rfl rfl rfl (Nat.le_of_ble_eq_true rfl) d rfl kk
theorem zm_p7 (hx : zOK l g nL x own cc) {index : Nat} (hL : zLf own index 5 7 RX4 TX4 19) {v : Int} (d : decode cc pc = .ok (.putfield index, 3)) (kk : Z l g R nL x k n (mW g a (Fup F 7 v) G rest) (pc + 3) lv st) : Z l g R nL x k n (mW g a F G rest) pc lv (vi v :: .ref (a 0) :: st) := zz_put (fs := [vi (F 0), .ref (a 1), .ref (a 2), .ref (a 3), .ref (a 4), .ref (a 5), vi (F 6), vi (F 7), .ref (a 8), .ref (a 9), .ref (a 10), .ref (a 11), .ref (a 12), .ref (a 13), vi (F 14), .ref (a 15), .ref (a 16), .ref (a 17), vi (F 18)]) hx hL rfl tyX4 tyX4_ok nmX4 0 rfl rfl rfl (Nat.le_of_ble_eq_true rfl) d rfl kk
theorem zm_p14 (hx : zOK l g nL x own cc) {index : Nat} (hL : zLf own index 5 14 RX4 TX4 19) {v : Int} (d : decode cc pc = .ok (.putfield index, 3)) (kk : Z l g R nL x k n (mW g a (Fup F 14 v) G rest) (pc + 3) lv st) : Z l g R nL x k n (mW g a F G rest) pc lv (vi v :: .ref (a 0) :: st) := zz_put (fs := [vi (F 0), .ref (a 1), .ref (a 2), .ref (a 3), .ref (a 4), .ref (a 5), vi (F 6), vi (F 7), .ref (a 8), .ref (a 9), .ref (a 10), .ref (a 11), .ref (a 12), .ref (a 13), vi (F 14), .ref (a 15), .ref (a 16), .ref (a 17), vi (F 18)]) hx hL rfl tyX4 tyX4_ok nmX4 0 rfl rfl rfl (Nat.le_of_ble_eq_true rfl) d rfl kk
theorem zm_p18 (hx : zOK l g nL x own cc) {index : Nat} (hL : zLf own index 5 18 RX4 TX4 19) {v : Int} (d : decode cc pc = .ok (.putfield index, 3)) (kk : Z l g R nL x k n (mW g a (Fup F 18 v) G rest) (pc + 3) lv st) : Z l g R nL x k n (mW g a F G rest) pc lv (vi v :: .ref (a 0) :: st) := zz_put (fs := [vi (F 0), .ref (a 1), .ref (a 2), .ref (a 3), .ref (a 4), .ref (a 5), vi (F 6), vi (F 7), .ref (a 8), .ref (a 9), .ref (a 10), .ref (a 11), .ref (a 12), .ref (a 13), vi (F 14), .ref (a 15), .ref (a 16), .ref (a 17), vi (F 18)]) hx hL rfl tyX4 tyX4_ok nmX4 0 rfl rfl rfl (Nat.le_of_ble_eq_true rfl) d rfl kk
theorem zm_l1 (hx : zOK l g nL x own cc) {i : Int} (d : decode cc pc = .ok (.iaload, 1)) (h0 : 0 ≤ i) (h1 : i < 6) (kk : Z l g R nL x k n (mW g a F G rest) (pc + 1) lv (vi (G 1 i) :: st)) : Z l g R nL x k n (mW g a F G rest) pc lv (vi i :: .ref (a 1) :: st) := zz_iald hx 1 (N := 6) rfl (Nat.le_of_ble_eq_true rfl) h0 h1 d kk
theorem zm_s1 (hx : zOK l g nL x own cc) {i v : Int} (d : decode cc pc = .ok (.iastore, 1)) (h0 : 0 ≤ i) (h1 : i < 6) (kk : Z l g R nL x k n (mW g a F (Gup G 1 i v) rest) (pc + 1) lv st) : Z l g R nL x k n (mW g a F G rest) pc lv (vi v :: vi i :: .ref (a 1) :: st) := zz_iast hx 1 (N := 6) rfl (Nat.le_of_ble_eq_true rfl) h0 h1 d rfl kk
theorem zm_l2 (hx : zOK l g nL x own cc) {i : Int} (d : decode cc pc = .ok (.iaload, 1)) (h0 : 0 ≤ i) (h1 : i < 6) (kk : Z l g R nL x k n (mW g a F G rest) (pc + 1) lv (vi (G 2 i) :: st)) : Z l g R nL x k n (mW g a F G rest) pc lv (vi i :: .ref (a 2) :: st) := zz_iald hx 2 (N := 6) rfl (Nat.le_of_ble_eq_true rfl) h0 h1 d kk
theorem zm_s2 (hx : zOK l g nL x own cc) {i v : Int} (d : decode cc pc = .ok (.iastore, 1)) (h0 : 0 ≤ i) (h1 : i < 6) (kk : Z l g R nL x k n (mW g a F (Gup G 2 i v) rest) (pc + 1) lv st) : Z l g R nL x k n (mW g a F G rest) pc lv (vi v :: vi i :: .ref (a 2) :: st) := zz_iast hx 2 (N := 6) rfl (Nat.le_of_ble_eq_true rfl) h0 h1 d rfl kk
theorem zm_l3 (hx : zOK l g nL x own cc) {i : Int} (d : decode cc pc = .ok (.iaload, 1)) (h0 : 0 ≤ i) (h1 : i < 6) (kk : Z l g R nL x k n (mW g a F G rest) (pc + 1) lv (vi (G 3 i) :: st)) : Z l g R nL x k n (mW g a F G rest) pc lv (vi i :: .ref (a 3) :: st) := zz_iald hx 3 (N := 6) rfl (Nat.le_of_ble_eq_true rfl) h0 h1 d kk
theorem zm_s3 (hx : zOK l g nL x own cc) {i v : Int} (d : decode cc pc = .ok (.iastore, 1)) (h0 : 0 ≤ i) (h1 : i < 6) (kk : Z l g R nL x k n (mW g a F (Gup G 3 i v) rest) (pc + 1) lv st) : Z l g R nL x k n (mW g a F G rest) pc lv (vi v :: vi i :: .ref (a 3) :: st) := zz_iast hx 3 (N := 6) rfl (Nat.le_of_ble_eq_true rfl) h0 h1 d rfl kk
theorem zm_l4 (hx : zOK l g nL x own cc) {i : Int} (d : decode cc pc = .ok (.baload, 1)) (h0 : 0 ≤ i) (h1 : i < 6) (kk : Z l g R nL x k n (mW g a F G rest) (pc + 1) lv (vi (G 4 i) :: st)) : Z l g R nL x k n (mW g a F G rest) pc lv (vi i :: .ref (a 4) :: st) := zz_zald hx 4 (N := 6) rfl (Nat.le_of_ble_eq_true rfl) h0 h1 d kk
theorem zm_s4 (hx : zOK l g nL x own cc) {i v : Int} (d : decode cc pc = .ok (.bastore, 1)) (h0 : 0 ≤ i) (h1 : i < 6) (hv : v = 0 ∨ v = 1) (kk : Z l g R nL x k n (mW g a F (Gup G 4 i v) rest) (pc + 1) lv st) : Z l g R nL x k n (mW g a F G rest) pc lv (vi v :: vi i :: .ref (a 4) :: st) := zz_zast hx 4 (N := 6) rfl (Nat.le_of_ble_eq_true rfl) h0 h1 hv d rfl kk
theorem zm_l5 (hx : zOK l g nL x own cc) {i : Int} (d : decode cc pc = .ok (.iaload, 1)) (h0 : 0 ≤ i) (h1 : i < 6) (kk : Z l g R nL x k n (mW g a F G rest) (pc + 1) lv (vi (G 5 i) :: st)) : Z l g R nL x k n (mW g a F G rest) pc lv (vi i :: .ref (a 5) :: st) := zz_iald hx 5 (N := 6) rfl (Nat.le_of_ble_eq_true rfl) h0 h1 d kk
theorem zm_s5 (hx : zOK l g nL x own cc) {i v : Int} (d : decode cc pc = .ok (.iastore, 1)) (h0 : 0 ≤ i) (h1 : i < 6) (kk : Z l g R nL x k n (mW g a F (Gup G 5 i v) rest) (pc + 1) lv st) : Z l g R nL x k n (mW g a F G rest) pc lv (vi v :: vi i :: .ref (a 5) :: st) := zz_iast hx 5 (N := 6) rfl (Nat.le_of_ble_eq_true rfl) h0 h1 d rfl kk
theorem zm_l8 (hx : zOK l g nL x own cc) {i : Int} (d : decode cc pc = .ok (.baload, 1)) (h0 : 0 ≤ i) (h1 : i < 60) (kk : Z l g R nL x k n (mW g a F G rest) (pc + 1) lv (vi (G 8 i) :: st)) : Z l g R nL x k n (mW g a F G rest) pc lv (vi i :: .ref (a 8) :: st) := zz_zald hx 6 (N := 60) rfl (Nat.le_of_ble_eq_true rfl) h0 h1 d kk
theorem zm_s8 (hx : zOK l g nL x own cc) {i v : Int} (d : decode cc pc = .ok (.bastore, 1)) (h0 : 0 ≤ i) (h1 : i < 60) (hv : v = 0 ∨ v = 1) (kk : Z l g R nL x k n (mW g a F (Gup G 8 i v) rest) (pc + 1) lv st) : Z l g R nL x k n (mW g a F G rest) pc lv (vi v :: vi i :: .ref (a 8) :: st) := zz_zast hx 6 (N := 60) rfl (Nat.le_of_ble_eq_true rfl) h0 h1 hv d rfl kk
theorem zm_l9 (hx : zOK l g nL x own cc) {i : Int} (d : decode cc pc = .ok (.iaload, 1)) (h0 : 0 ≤ i) (h1 : i < 60) (kk : Z l g R nL x k n (mW g a F G rest) (pc + 1) lv (vi (G 9 i) :: st)) : Z l g R nL x k n (mW g a F G rest) pc lv (vi i :: .ref (a 9) :: st) := zz_iald hx 7 (N := 60) rfl (Nat.le_of_ble_eq_true rfl) h0 h1 d kk
theorem zm_s9 (hx : zOK l g nL x own cc) {i v : Int} (d : decode cc pc = .ok (.iastore, 1)) (h0 : 0 ≤ i) (h1 : i < 60) (kk : Z l g R nL x k n (mW g a F (Gup G 9 i v) rest) (pc + 1) lv st) : Z l g R nL x k n (mW g a F G rest) pc lv (vi v :: vi i :: .ref (a 9) :: st) := zz_iast hx 7 (N := 60) rfl (Nat.le_of_ble_eq_true rfl) h0 h1 d rfl kk
theorem zm_l10 (hx : zOK l g nL x own cc) {i : Int} (d : decode cc pc = .ok (.iaload, 1)) (h0 : 0 ≤ i) (h1 : i < 60) (kk : Z l g R nL x k n (mW g a F G rest) (pc + 1) lv (vi (G 10 i) :: st)) : Z l g R nL x k n (mW g a F G rest) pc lv (vi i :: .ref (a 10) :: st) := zz_iald hx 8 (N := 60) rfl (Nat.le_of_ble_eq_true rfl) h0 h1 d kk
theorem zm_s10 (hx : zOK l g nL x own cc) {i v : Int} (d : decode cc pc = .ok (.iastore, 1)) (h0 : 0 ≤ i) (h1 : i < 60) (kk : Z l g R nL x k n (mW g a F (Gup G 10 i v) rest) (pc + 1) lv st) : Z l g R nL x k n (mW g a F G rest) pc lv (vi v :: vi i :: .ref (a 10) :: st) := zz_iast hx 8 (N := 60) rfl (Nat.le_of_ble_eq_true rfl) h0 h1 d rfl kk
theorem zm_l11 (hx : zOK l g nL x own cc) {i : Int} (d : decode cc pc = .ok (.iaload, 1)) (h0 : 0 ≤ i) (h1 : i < 360) (kk : Z l g R nL x k n (mW g a F G rest) (pc + 1) lv (vi (G 11 i) :: st)) : Z l g R nL x k n (mW g a F G rest) pc lv (vi i :: .ref (a 11) :: st) := zz_iald hx 9 (N := 360) rfl (Nat.le_of_ble_eq_true rfl) h0 h1 d kk
theorem zm_s11 (hx : zOK l g nL x own cc) {i v : Int} (d : decode cc pc = .ok (.iastore, 1)) (h0 : 0 ≤ i) (h1 : i < 360) (kk : Z l g R nL x k n (mW g a F (Gup G 11 i v) rest) (pc + 1) lv st) : Z l g R nL x k n (mW g a F G rest) pc lv (vi v :: vi i :: .ref (a 11) :: st) := zz_iast hx 9 (N := 360) rfl (Nat.le_of_ble_eq_true rfl) h0 h1 d rfl kk
theorem zm_l12 (hx : zOK l g nL x own cc) {i : Int} (d : decode cc pc = .ok (.iaload, 1)) (h0 : 0 ≤ i) (h1 : i < 6) (kk : Z l g R nL x k n (mW g a F G rest) (pc + 1) lv (vi (G 12 i) :: st)) : Z l g R nL x k n (mW g a F G rest) pc lv (vi i :: .ref (a 12) :: st) := zz_iald hx 10 (N := 6) rfl (Nat.le_of_ble_eq_true rfl) h0 h1 d kk
theorem zm_s12 (hx : zOK l g nL x own cc) {i v : Int} (d : decode cc pc = .ok (.iastore, 1)) (h0 : 0 ≤ i) (h1 : i < 6) (kk : Z l g R nL x k n (mW g a F (Gup G 12 i v) rest) (pc + 1) lv st) : Z l g R nL x k n (mW g a F G rest) pc lv (vi v :: vi i :: .ref (a 12) :: st) := zz_iast hx 10 (N := 6) rfl (Nat.le_of_ble_eq_true rfl) h0 h1 d rfl kk
theorem zm_l13 (hx : zOK l g nL x own cc) {i : Int} (d : decode cc pc = .ok (.iaload, 1)) (h0 : 0 ≤ i) (h1 : i < 360) (kk : Z l g R nL x k n (mW g a F G rest) (pc + 1) lv (vi (G 13 i) :: st)) : Z l g R nL x k n (mW g a F G rest) pc lv (vi i :: .ref (a 13) :: st) := zz_iald hx 11 (N := 360) rfl (Nat.le_of_ble_eq_true rfl) h0 h1 d kk
theorem zm_s13 (hx : zOK l g nL x own cc) {i v : Int} (d : decode cc pc = .ok (.iastore, 1)) (h0 : 0 ≤ i) (h1 : i < 360) (kk : Z l g R nL x k n (mW g a F (Gup G 13 i v) rest) (pc + 1) lv st) : Z l g R nL x k n (mW g a F G rest) pc lv (vi v :: vi i :: .ref (a 13) :: st) := zz_iast hx 11 (N := 360) rfl (Nat.le_of_ble_eq_true rfl) h0 h1 d rfl kk
theorem zm_l15 (hx : zOK l g nL x own cc) {i : Int} (d : decode cc pc = .ok (.iaload, 1)) (h0 : 0 ≤ i) (h1 : i < 4) (kk : Z l g R nL x k n (mW g a F G rest) (pc + 1) lv (vi (G 15 i) :: st)) : Z l g R nL x k n (mW g a F G rest) pc lv (vi i :: .ref (a 15) :: st) := zz_iald hx 12 (N := 4) rfl (Nat.le_of_ble_eq_true rfl) h0 h1 d kk
theorem zm_s15 (hx : zOK l g nL x own cc) {i v : Int} (d : decode cc pc = .ok (.iastore, 1)) (h0 : 0 ≤ i) (h1 : i < 4) (kk : Z l g R nL x k n (mW g a F (Gup G 15 i v) rest) (pc + 1) lv st) : Z l g R nL x k n (mW g a F G rest) pc lv (vi v :: vi i :: .ref (a 15) :: st) := zz_iast hx 12 (N := 4) rfl (Nat.le_of_ble_eq_true rfl) h0 h1 d rfl kk
theorem zm_l16 (hx : zOK l g nL x own cc) {i : Int} (d : decode cc pc = .ok (.iaload, 1)) (h0 : 0 ≤ i) (h1 : i < 6) (kk : Z l g R nL x k n (mW g a F G rest) (pc + 1) lv (vi (G 16 i) :: st)) : Z l g R nL x k n (mW g a F G rest) pc lv (vi i :: .ref (a 16) :: st) := zz_iald hx 13 (N := 6) rfl (Nat.le_of_ble_eq_true rfl) h0 h1 d kk
theorem zm_s16 (hx : zOK l g nL x own cc) {i v : Int} (d : decode cc pc = .ok (.iastore, 1)) (h0 : 0 ≤ i) (h1 : i < 6) (kk : Z l g R nL x k n (mW g a F (Gup G 16 i v) rest) (pc + 1) lv st) : Z l g R nL x k n (mW g a F G rest) pc lv (vi v :: vi i :: .ref (a 16) :: st) := zz_iast hx 13 (N := 6) rfl (Nat.le_of_ble_eq_true rfl) h0 h1 d rfl kk
theorem zm_l17 (hx : zOK l g nL x own cc) {i : Int} (d : decode cc pc = .ok (.baload, 1)) (h0 : 0 ≤ i) (h1 : i < 60) (kk : Z l g R nL x k n (mW g a F G rest) (pc + 1) lv (vi (G 17 i) :: st)) : Z l g R nL x k n (mW g a F G rest) pc lv (vi i :: .ref (a 17) :: st) := zz_zald hx 14 (N := 60) rfl (Nat.le_of_ble_eq_true rfl) h0 h1 d kk
theorem zm_s17 (hx : zOK l g nL x own cc) {i v : Int} (d : decode cc pc = .ok (.bastore, 1)) (h0 : 0 ≤ i) (h1 : i < 60) (hv : v = 0 ∨ v = 1) (kk : Z l g R nL x k n (mW g a F (Gup G 17 i v) rest) (pc + 1) lv st) : Z l g R nL x k n (mW g a F G rest) pc lv (vi v :: vi i :: .ref (a 17) :: st) := zz_zast hx 14 (N := 60) rfl (Nat.le_of_ble_eq_true rfl) h0 h1 hv d rfl kk
end ZMO
end
section
/-! pure: rows as lists, the model's invariants -/
def Gset (G : Nat → Int → Int) (k : Nat) (f : Int → Int) : Nat → Int → Int := fun j => if j = k then f else G j
theorem Gset_s (G : Nat → Int → Int) (k : Nat) (f : Int → Int) : Gset G k f k = f := if_pos rfl
theorem Gset_n (G : Nat → Int → Int) {k j : Nat} (f : Int → Int) (h : j ≠ k) : Gset G k f j = G j := if_neg h
theorem Gup_eq (G : Nat → Int → Int) (k : Nat) (i v : Int) : Gup G k i v = Gset G k (zup (G k) i v) := rfl
theorem Gset_Gset (G : Nat → Int → Int) (k : Nat) (f f' : Int → Int) : Gset (Gset G k f) k f' = Gset G k f' := by
  funext j
  by_cases h : j = k
  · simp [Gset, h]
  · simp [Gset, h]
theorem Gset_id (G : Nat → Int → Int) (k : Nat) : Gset G k (G k) = G := by
  funext j
  by_cases h : j = k
  · simp [Gset, h]
  · simp [Gset, h]
theorem Fup_Fup (F : Nat → Int) (k : Nat) (u v : Int) : Fup (Fup F k u) k v = Fup F k v := by
  funext j
  by_cases h : j = k
  · simp [Fup, h]
  · simp [Fup, h]
theorem zup_zup (f : Int → Int) (i u v : Int) : zup (zup f i u) i v = zup f i v := by
  funext j
  by_cases h : j = i
  · simp [zup, h]
  · simp [zup, h]
theorem zup_id (f : Int → Int) (i : Int) : zup f i (f i) = f := by
  funext j
  by_cases h : j = i
  · simp [zup, h]
  · simp [zup, h]
def Lup (L : Int → List Int) (s : Int) (l : List Int) : Int → List Int := fun t => if t = s then l else L t
theorem Lup_s (L : Int → List Int) (s : Int) (l : List Int) : Lup L s l s = l := if_pos rfl
theorem Lup_n (L : Int → List Int) {s t : Int} (l : List Int) (h : t ≠ s) : Lup L s l t = L t := if_neg h
/-- the place k of a list -/
def zat (l : List Int) (k : Int) : Int := l.getD k.toNat (-1)
theorem zat_nat (l : List Int) (k : Nat) : zat l (k : Int) = l.getD k (-1) := by rw [zat, Int.toNat_natCast]
theorem zat_lt {l : List Int} {k : Int} (h0 : 0 ≤ k) (h1 : k < (l.length : Int)) : l[k.toNat]? = some (zat l k) := by
  have h : k.toNat < l.length := by omega
  rw [zat, List.getD_eq_getElem?_getD, List.getElem?_eq_getElem h]
  rfl
theorem zat_mem {l : List Int} {k : Int} (h0 : 0 ≤ k) (h1 : k < (l.length : Int)) : zat l k ∈ l := List.mem_of_getElem? (zat_lt h0 h1)
theorem zat_of_mem {l : List Int} {r : Int} (h : r ∈ l) : ∃ k : Int, 0 ≤ k ∧ k < (l.length : Int) ∧ zat l k = r := by
  obtain ⟨i, hi⟩ := List.getElem?_of_mem h
  have hl : i < l.length := (List.getElem?_eq_some_iff.mp hi).1
  exact ⟨(i : Int), by omega, by omega, by rw [zat_nat, List.getD_eq_getElem?_getD, hi]; rfl⟩
theorem zat_inj {l : List Int} (h : l.Nodup) {i j : Int} (hi : 0 ≤ i ∧ i < (l.length : Int)) (hj : 0 ≤ j ∧ j < (l.length : Int)) (e : zat l i = zat l j) : i = j := by
  have h1 := zat_lt hi.1 hi.2
  have h2 := zat_lt hj.1 hj.2
  rw [e, ← h2] at h1
  have := (List.getElem?_inj (by omega) h).mp h1
  omega
theorem zat_ext {l l' : List Int} (hl : l.length = l'.length) (h : ∀ k : Int, 0 ≤ k → k < (l.length : Int) → zat l k = zat l' k) : l = l' := by
  apply List.ext_getElem? 
  intro i
  rcases Nat.lt_or_ge i l.length with q | q
  · have h1 := zat_lt (l := l) (k := (i : Int)) (by omega) (by omega)
    have h2 := zat_lt (l := l') (k := (i : Int)) (by omega) (by omega)
    rw [Int.toNat_natCast] at h1 h2
    rw [h1, h2, h i (by omega) (by omega)]
  · rw [List.getElem?_eq_none q, List.getElem?_eq_none (by omega)]
/-- different ints under n are n at most -/
theorem nodup_len : ∀ (n : Nat) (l : List Int), l.Nodup → (∀ r ∈ l, 0 ≤ r ∧ r < (n : Int)) → l.length ≤ n
  | 0, l, _, h => by
    cases l with
    | nil => exact Nat.le_refl 0
    | cons a l => have := h a List.mem_cons_self; omega
  | n + 1, l, hn, h => by
    have h1 := nodup_len n (l.erase (n : Int)) (hn.erase _) (fun r hr => by
      have h2 := h r (List.mem_of_mem_erase hr)
      have h3 : r ≠ (n : Int) := fun e => by subst e; exact (hn.not_mem_erase) hr
      omega)
    rw [List.length_erase] at h1
    split at h1 <;> omega
/-- the list with r put at place p -/
def zinsl (l : List Int) (p : Int) (r : Int) : List Int := l.take p.toNat ++ r :: l.drop p.toNat
theorem zinsl_len {l : List Int} {p r : Int} : (zinsl l p r).length = l.length + 1 := by
  simp only [zinsl, List.length_append, List.length_take, List.length_cons, List.length_drop]
  omega
theorem zinsl_at {l : List Int} {p r k : Int} (h0 : 0 ≤ p) (h1 : p ≤ (l.length : Int)) (hk : 0 ≤ k) : zat (zinsl l p r) k = if k < p then zat l k else if k = p then r else zat l (k - 1) := by
  have hp : p.toNat ≤ l.length := by omega
  unfold zat zinsl
  rw [List.getD_eq_getElem?_getD, List.getElem?_append, List.length_take, Nat.min_eq_left hp]
  by_cases c : k < p
  · rw [if_pos (by omega), if_pos c, List.getElem?_take, if_pos (by omega), ← List.getD_eq_getElem?_getD]
  · rw [if_neg (by omega), if_neg c]
    by_cases c2 : k = p
    · subst c2
      rw [if_pos rfl, Nat.sub_self]
      rfl
    · rw [if_neg c2]
      obtain ⟨j, hj⟩ : ∃ j : Nat, k.toNat - p.toNat = j + 1 := ⟨k.toNat - p.toNat - 1, by omega⟩
      rw [hj, List.getElem?_cons_succ, List.getElem?_drop, show p.toNat + j = (k - 1).toNat by omega, ← List.getD_eq_getElem?_getD]
theorem zinsl_mem {l : List Int} {p r q : Int} : q ∈ zinsl l p r ↔ q = r ∨ q ∈ l := by
  unfold zinsl
  rw [List.mem_append, List.mem_cons]
  conv => rhs; rw [← List.take_append_drop p.toNat l, List.mem_append]
  constructor
  · rintro (h | h | h)
    · exact Or.inr (Or.inl h)
    · exact Or.inl h
    · exact Or.inr (Or.inr h)
  · rintro (h | h | h)
    · exact Or.inr (Or.inl h)
    · exact Or.inl h
    · exact Or.inr (Or.inr h)
theorem zinsl_nodup {l : List Int} {p r : Int} (h : l.Nodup) (hr : r ∉ l) : (zinsl l p r).Nodup := by
  have e : l = l.take p.toNat ++ l.drop p.toNat := (List.take_append_drop _ _).symm
  unfold zinsl
  rw [e] at h hr
  rw [List.nodup_append] at h ⊢
  rw [List.mem_append] at hr
  refine ⟨h.1, List.nodup_cons.mpr ⟨fun q => hr (Or.inr q), h.2.1⟩, fun a ha b hb => ?_⟩
  rcases List.mem_cons.mp hb with rfl | hb
  · exact fun q => hr (Or.inl (q ▸ ha))
  · exact h.2.2 a ha b hb
/-- the list without r -/
def zdel (l : List Int) (r : Int) : List Int := l.filter (fun q => decide (q ≠ r))
theorem zdel_mem {l : List Int} {r q : Int} : q ∈ zdel l r ↔ q ∈ l ∧ q ≠ r := by
  unfold zdel
  rw [List.mem_filter, decide_eq_true_eq]
theorem zdel_nodup {l : List Int} {r : Int} (h : l.Nodup) : (zdel l r).Nodup := h.filter _
theorem zdel_none {l : List Int} {r : Int} (h : r ∉ l) : zdel l r = l := by
  unfold zdel
  rw [List.filter_eq_self]
  intro a ha
  rw [decide_eq_true_eq]
  exact fun e => h (e ▸ ha)
theorem zdel_at {l : List Int} {p r : Int} (h : l.Nodup) (h0 : 0 ≤ p) (h1 : p < (l.length : Int)) (hp : zat l p = r) : (zdel l r).length + 1 = l.length ∧ ∀ k : Int, 0 ≤ k → zat (zdel l r) k = if k < p then zat l k else zat l (k + 1) := by
  have hl : p.toNat < l.length := by omega
  have hget := zat_lt h0 h1
  rw [hp] at hget
  have e : zdel l r = l.eraseIdx p.toNat := by
    have e1 : l = l.take p.toNat ++ r :: l.drop (p.toNat + 1) := by
      have h2 := (List.getElem?_eq_some_iff.mp hget).2
      conv => lhs; rw [← List.take_append_drop p.toNat l, List.drop_eq_getElem_cons hl, h2]
    rw [List.eraseIdx_eq_take_drop_succ]
    have hn := h
    rw [e1, List.nodup_append] at hn
    obtain ⟨-, n2, n3⟩ := hn
    have n4 := (List.nodup_cons.mp n2).1
    conv => lhs; rw [e1]
    unfold zdel
    rw [List.filter_append, List.filter_cons_of_neg (by simp)]
    congr 1
    · rw [List.filter_eq_self]
      intro a ha
      rw [decide_eq_true_eq]
      exact n3 a ha r List.mem_cons_self
    · rw [List.filter_eq_self]
      intro a ha
      rw [decide_eq_true_eq]
      exact fun q => n4 (q ▸ ha)
  rw [e]
  refine ⟨by rw [List.length_eraseIdx, if_pos hl]; omega, fun k hk => ?_⟩
  unfold zat
  rw [List.getD_eq_getElem?_getD, List.getElem?_eraseIdx]
  by_cases c : k < p
  · rw [if_pos (by omega), if_pos c, ← List.getD_eq_getElem?_getD]
  · rw [if_neg (by omega), if_neg c, show k.toNat + 1 = (k + 1).toNat by omega, ← List.getD_eq_getElem?_getD]
/-! the invariants: F 0 set types, F 6 stored; G 1 owner types, 2 member types, 3 insertions, 4 automatic, 5 retentions, 8 there, 9 types, 10 values, 11 owners, 12 how many in the row, 13 the row; Rw the rows as lists -/
def sDecl (F : Nat → Int) (G : Nat → Int → Int) : Prop := ∀ s : Int, 0 ≤ s → s < F 0 → (0 ≤ G 1 s ∧ G 1 s ≤ 3) ∧ (0 ≤ G 2 s ∧ G 2 s ≤ 3) ∧ G 1 s ≠ G 2 s ∧ (0 ≤ G 3 s ∧ G 3 s ≤ 4) ∧ (G 4 s = 0 ∨ G 4 s = 1) ∧ (0 ≤ G 5 s ∧ G 5 s ≤ 2)
def sRec (F : Nat → Int) (G : Nat → Int → Int) : Prop := ∀ r : Int, 0 ≤ r → r < F 6 → (0 ≤ G 9 r ∧ G 9 r ≤ 3) ∧ (-1000 ≤ G 10 r ∧ G 10 r ≤ 1000) ∧ (G 8 r = 0 ∨ G 8 r = 1)
def sOwn (F : Nat → Int) (G : Nat → Int → Int) : Prop := ∀ s r : Int, 0 ≤ s → s < 6 → 0 ≤ r → r < 60 → G 11 (60 * s + r) = -1 ∨ (0 ≤ G 11 (60 * s + r) ∧ G 11 (60 * s + r) < F 6 ∧ s < F 0 ∧ r < F 6 ∧ G 8 r = 1 ∧ G 9 r = G 2 s ∧ G 8 (G 11 (60 * s + r)) = 1 ∧ G 9 (G 11 (60 * s + r)) = G 1 s)
def sRow (G : Nat → Int → Int) (Rw : Int → List Int) : Prop := ∀ s : Int, 0 ≤ s → s < 6 → G 12 s = ((Rw s).length : Int) ∧ (∀ k : Int, 0 ≤ k → k < G 12 s → G 13 (60 * s + k) = zat (Rw s) k) ∧ (Rw s).Nodup ∧ ∀ r : Int, r ∈ Rw s ↔ 0 ≤ r ∧ r < 60 ∧ G 11 (60 * s + r) ≠ -1
def mS (F : Nat → Int) (G : Nat → Int → Int) (Rw : Int → List Int) : Prop := (0 ≤ F 0 ∧ F 0 ≤ 6) ∧ (0 ≤ F 6 ∧ F 6 ≤ 60) ∧ sDecl F G ∧ sRec F G ∧ sOwn F G ∧ sRow G Rw
theorem mS_len {F : Nat → Int} {G : Nat → Int → Int} {Rw : Int → List Int} (h : mS F G Rw) {s : Int} (h0 : 0 ≤ s) (h1 : s < 6) : 0 ≤ G 12 s ∧ G 12 s ≤ F 6 ∧ ∀ r ∈ Rw s, 0 ≤ r ∧ r < F 6 := by
  obtain ⟨-, q, -, -, ho, hr⟩ := h
  obtain ⟨e, -, hn, hm⟩ := hr s h0 h1
  have hb : ∀ r ∈ Rw s, 0 ≤ r ∧ r < F 6 := fun r hr => by
    obtain ⟨a, b, c⟩ := (hm r).mp hr
    rcases ho s r h0 h1 a b with d | d
    · exact absurd d c
    · omega
  have := nodup_len (F 6).toNat (Rw s) hn (fun r hr => by have := hb r hr; omega)
  exact ⟨by omega, by omega, hb⟩
/-- what stands at a place of a row -/
theorem mS_at {F : Nat → Int} {G : Nat → Int → Int} {Rw : Int → List Int} (h : mS F G Rw) {s : Int} (h0 : 0 ≤ s) (h1 : s < 6) {k : Int} (k0 : 0 ≤ k) (k1 : k < G 12 s) : G 13 (60 * s + k) = zat (Rw s) k ∧ zat (Rw s) k ∈ Rw s ∧ 0 ≤ zat (Rw s) k ∧ zat (Rw s) k < F 6 ∧ k < ((Rw s).length : Int) := by
  have hl := mS_len h h0 h1
  obtain ⟨-, q, -, -, ho, hr⟩ := h
  obtain ⟨e, hk, hn, hm⟩ := hr s h0 h1
  have hmem := zat_mem (l := Rw s) k0 (by omega)
  exact ⟨hk k k0 k1, hmem, (hl.2.2 _ hmem).1, (hl.2.2 _ hmem).2, by omega⟩
theorem take_step {l : List Int} {k : Int} (h0 : 0 ≤ k) (h1 : k < (l.length : Int)) (f : Int → Bool) : (l.take (k + 1).toNat).filter f = (l.take k.toNat).filter f ++ if f (zat l k) = true then [zat l k] else [] := by
  rw [show (k + 1).toNat = k.toNat + 1 by omega, List.take_add_one, zat_lt h0 h1, List.filter_append]
  congr 1
  show List.filter f [zat l k] = _
  rw [List.filter_cons]
  rfl
theorem filter_at {l : List Int} {k : Int} (h0 : 0 ≤ k) (h1 : k < (l.length : Int)) {f : Int → Bool} (hf : f (zat l k) = true) : zat (l.filter f) (((l.take k.toNat).filter f).length : Int) = zat l k := by
  have hl : k.toNat < l.length := by omega
  have hg := zat_lt h0 h1
  have e : l = l.take k.toNat ++ zat l k :: l.drop (k.toNat + 1) := by
    have h2 := (List.getElem?_eq_some_iff.mp hg).2
    conv => lhs; rw [← List.take_append_drop k.toNat l, List.drop_eq_getElem_cons hl, h2]
  have e2 : l.filter f = (l.take k.toNat).filter f ++ zat l k :: (l.drop (k.toNat + 1)).filter f := by
    conv => lhs; rw [e]
    rw [List.filter_append, List.filter_cons_of_pos hf]
  generalize zat l k = v at e2 ⊢
  rw [e2, zat_nat, List.getD_eq_getElem?_getD, List.getElem?_append_right (Nat.le_refl _), Nat.sub_self]
  rfl
theorem take_all {l : List Int} {k : Int} (h : (l.length : Int) ≤ k) : l.take k.toNat = l := List.take_of_length_le (by omega)
theorem zat_ge {l : List Int} {k : Int} (h : (l.length : Int) ≤ k) : zat l k = -1 := by
  rw [zat, List.getD_eq_getElem?_getD, List.getElem?_eq_none (by omega)]
  rfl
/-- the members of an owner, in their order -/
def zmem (G : Nat → Int → Int) (s o : Int) (l : List Int) : List Int := l.filter (fun r => decide (G 11 (60 * s + r) = o))
/-- where a record comes in the row -/
def nPl (G : Nat → Int → Int) (s r o : Int) (l : List Int) (p : Int) : Prop :=
  (G 3 s = 4 → (0 ≤ p ∧ p ≤ (l.length : Int)) ∧ (∀ j : Int, 0 ≤ j → j < p → ¬ (G 11 (60 * s + zat l j) = o ∧ G 10 r < G 10 (zat l j))) ∧ (p < (l.length : Int) → G 11 (60 * s + zat l p) = o ∧ G 10 r < G 10 (zat l p))) ∧
  (G 3 s ≠ 4 → (G 16 s ≠ -1 ∧ G 11 (60 * s + G 16 s) = o) ∧ 2 ≤ G 3 s → ∃ q : Int, 0 ≤ q ∧ q < (l.length : Int) ∧ zat l q = G 16 s ∧ p = q + (if G 3 s = 2 then 1 else 0)) ∧
  (G 3 s ≠ 4 → ¬ ((G 16 s ≠ -1 ∧ G 11 (60 * s + G 16 s) = o) ∧ 2 ≤ G 3 s) → p = if G 3 s = 0 ∨ G 3 s = 2 then 0 else (l.length : Int))
theorem nPl_rng {G : Nat → Int → Int} {s r o p : Int} {l : List Int} (h : nPl G s r o l p) : 0 ≤ p ∧ p ≤ (l.length : Int) := by
  obtain ⟨h1, h2, h3⟩ := h
  by_cases c : G 3 s = 4
  · exact (h1 c).1
  · by_cases c2 : (G 16 s ≠ -1 ∧ G 11 (60 * s + G 16 s) = o) ∧ 2 ≤ G 3 s
    · obtain ⟨q, a, b, -, e⟩ := h2 c c2
      split at e <;> omega
    · have e := h3 c c2
      split at e <;> omega
/-- out of a row -/
theorem mS_out {F : Nat → Int} {G G' : Nat → Int → Int} {Rw : Int → List Int} (h : mS F G Rw) {s r p : Int} (s0 : 0 ≤ s) (s1 : s < 6) (r0 : 0 ≤ r) (r1 : r < 60) (p0 : 0 ≤ p) (p1 : p < G 12 s) (hp : zat (Rw s) p = r)
    (e12 : G' 12 = zup (G 12) s (G 12 s - 1)) (e13 : ∀ j : Int, G' 13 j = if 60 * s + p ≤ j ∧ j < 60 * s + G 12 s - 1 then G 13 (j + 1) else G 13 j) (e11 : G' 11 = zup (G 11) (60 * s + r) (-1)) (ek : ∀ k : Nat, k ≠ 11 → k ≠ 12 → k ≠ 13 → G' k = G k) :
    mS F G' (Lup Rw s (zdel (Rw s) r)) := by
  have hlen := mS_len h s0 s1
  obtain ⟨q1, q2, hd, hr, ho, hw⟩ := h
  refine ⟨q1, q2, ?_, ?_, ?_, ?_⟩
  · intro t t0 t1
    rw [ek 1 (by decide) (by decide) (by decide), ek 2 (by decide) (by decide) (by decide), ek 3 (by decide) (by decide) (by decide), ek 4 (by decide) (by decide) (by decide), ek 5 (by decide) (by decide) (by decide)]
    exact hd t t0 t1
  · intro t t0 t1
    rw [ek 8 (by decide) (by decide) (by decide), ek 9 (by decide) (by decide) (by decide), ek 10 (by decide) (by decide) (by decide)]
    exact hr t t0 t1
  · intro t u t0 t1 u0 u1
    rw [ek 8 (by decide) (by decide) (by decide), ek 9 (by decide) (by decide) (by decide), ek 1 (by decide) (by decide) (by decide), ek 2 (by decide) (by decide) (by decide), e11]
    by_cases c : 60 * t + u = 60 * s + r
    · left; rw [c, zup_s]
    · rw [zup_n _ _ c]
      exact ho t u t0 t1 u0 u1
  · intro t t0 t1
    obtain ⟨a1, a2, a3, a4⟩ := hw t t0 t1
    by_cases c : t = s
    · subst c
      obtain ⟨b1, b2⟩ := zdel_at a3 p0 (by omega) hp
      rw [e12, zup_s, Lup_s]
      refine ⟨by omega, fun k k0 k1 => ?_, zdel_nodup a3, fun u => ?_⟩
      · rw [e13, b2 k k0]
        by_cases c2 : k < p
        · rw [if_neg (by omega), if_pos c2]
          exact a2 k k0 (by omega)
        · rw [if_pos (by omega), if_neg c2, show 60 * t + k + 1 = 60 * t + (k + 1) by omega]
          exact a2 (k + 1) (by omega) (by omega)
      · rw [zdel_mem, a4 u, e11]
        by_cases c3 : u = r
        · subst c3
          rw [zup_s]
          simp
        · rw [zup_n _ _ (by omega)]
          simp [c3]
    · rw [e12, zup_n _ _ c, Lup_n _ _ c]
      refine ⟨a1, fun k k0 k1 => ?_, a3, fun u => ?_⟩
      · have hlt := mS_len (F := F) (G := G) (Rw := Rw) ⟨q1, q2, hd, hr, ho, hw⟩ t0 t1
        rw [e13, if_neg (by omega)]
        exact a2 k k0 k1
      · rw [a4 u, e11]
        by_cases c3 : 0 ≤ u ∧ u < 60
        · rw [zup_n _ _ (by omega)]
        · constructor <;> (intro z; exact absurd ⟨z.1, z.2.1⟩ c3)
/-- into a row -/
theorem mS_ins {F : Nat → Int} {G G' : Nat → Int → Int} {Rw : Int → List Int} (h : mS F G Rw) {s r o p : Int} (s0 : 0 ≤ s) (s1 : s < F 0) (r0 : 0 ≤ r) (r1 : r < F 6) (hr0 : G 11 (60 * s + r) = -1) (g8 : G 8 r = 1) (g9 : G 9 r = G 2 s) (o0 : 0 ≤ o) (o1 : o < F 6) (o8 : G 8 o = 1) (o9 : G 9 o = G 1 s) (p0 : 0 ≤ p) (p1 : p ≤ ((Rw s).length : Int))
    (e12 : G' 12 = zup (G 12) s (G 12 s + 1)) (e13 : ∀ j : Int, G' 13 j = if j = 60 * s + p then r else if 60 * s + p < j ∧ j ≤ 60 * s + G 12 s then G 13 (j - 1) else G 13 j) (e11 : G' 11 = zup (G 11) (60 * s + r) o) (ek : ∀ k : Nat, k ≠ 11 → k ≠ 12 → k ≠ 13 → G' k = G k) :
    mS F G' (Lup Rw s (zinsl (Rw s) p r)) ∧ G 12 s < 60 := by
  obtain ⟨q1, q2, hd, hr, ho, hw⟩ := id h
  have hlen := mS_len h s0 (by omega)
  have hnm : r ∉ Rw s := fun z => by
    have := ((hw s s0 (by omega)).2.2.2 r).mp z
    exact this.2.2 hr0
  have h60 : G 12 s < 60 := by
    have := nodup_len (F 6).toNat (zinsl (Rw s) p r) (zinsl_nodup (hw s s0 (by omega)).2.2.1 hnm) (fun u hu => by
      rcases zinsl_mem.mp hu with rfl | hu
      · omega
      · have := hlen.2.2 u hu; omega)
    rw [zinsl_len] at this
    have := (hw s s0 (by omega)).1
    omega
  refine ⟨⟨q1, q2, ?_, ?_, ?_, ?_⟩, h60⟩
  · intro t t0 t1
    rw [ek 1 (by decide) (by decide) (by decide), ek 2 (by decide) (by decide) (by decide), ek 3 (by decide) (by decide) (by decide), ek 4 (by decide) (by decide) (by decide), ek 5 (by decide) (by decide) (by decide)]
    exact hd t t0 t1
  · intro t t0 t1
    rw [ek 8 (by decide) (by decide) (by decide), ek 9 (by decide) (by decide) (by decide), ek 10 (by decide) (by decide) (by decide)]
    exact hr t t0 t1
  · intro t u t0 t1 u0 u1
    rw [ek 8 (by decide) (by decide) (by decide), ek 9 (by decide) (by decide) (by decide), ek 1 (by decide) (by decide) (by decide), ek 2 (by decide) (by decide) (by decide), e11]
    by_cases c : 60 * t + u = 60 * s + r
    · have : t = s := by omega
      subst this
      have : u = r := by omega
      subst this
      right
      rw [zup_s]
      exact ⟨o0, o1, s1, r1, g8, g9, o8, o9⟩
    · rw [zup_n _ _ c]
      exact ho t u t0 t1 u0 u1
  · intro t t0 t1
    obtain ⟨a1, a2, a3, a4⟩ := hw t t0 t1
    by_cases c : t = s
    · subst c
      rw [e12, zup_s, Lup_s]
      refine ⟨by rw [zinsl_len]; omega, fun k k0 k1 => ?_, zinsl_nodup a3 hnm, fun u => ?_⟩
      · rw [e13, zinsl_at p0 p1 k0]
        by_cases c2 : k < p
        · rw [if_neg (by omega), if_neg (by omega), if_pos c2]
          exact a2 k k0 (by omega)
        · by_cases c4 : k = p
          · rw [if_pos (by omega), if_neg c2, if_pos c4]
          · rw [if_neg (by omega), if_pos (by omega), if_neg c2, if_neg c4, show 60 * t + k - 1 = 60 * t + (k - 1) by omega]
            exact a2 (k - 1) (by omega) (by omega)
      · rw [zinsl_mem, a4 u, e11]
        by_cases c3 : u = r
        · subst c3
          rw [zup_s]
          constructor
          · intro _; omega
          · intro _; exact Or.inl rfl
        · rw [zup_n _ _ (by omega)]
          constructor
          · rintro (z | z)
            · exact absurd z c3
            · exact z
          · exact Or.inr
    · rw [e12, zup_n _ _ c, Lup_n _ _ c]
      refine ⟨a1, fun k k0 k1 => ?_, a3, fun u => ?_⟩
      · have hlt := mS_len h t0 t1
        have a5 := (hw s s0 (by omega)).1
        rw [e13, if_neg (by omega), if_neg (by omega)]
        exact a2 k k0 k1
      · rw [a4 u, e11]
        by_cases c3 : 0 ≤ u ∧ u < 60
        · rw [zup_n _ _ (by omega)]
        · constructor <;> (intro z; exact absurd ⟨z.1, z.2.1⟩ c3)
/-- there is room for one more -/
theorem mS_len_ins {F : Nat → Int} {G : Nat → Int → Int} {Rw : Int → List Int} (h : mS F G Rw) {s r : Int} (s0 : 0 ≤ s) (s1 : s < F 0) (r0 : 0 ≤ r) (r1 : r < F 6) (hr0 : G 11 (60 * s + r) = -1) : G 12 s < 60 := by
  have hlen := mS_len h s0 (by have := h.1; omega)
  obtain ⟨q1, q2, hd, hr, ho, hw⟩ := id h
  have hnm : r ∉ Rw s := fun z => ((hw s s0 (by omega)).2.2.2 r).mp z |>.2.2 hr0
  have := nodup_len (F 6).toNat (zinsl (Rw s) 0 r) (zinsl_nodup (hw s s0 (by omega)).2.2.1 hnm) (fun u hu => by
    rcases zinsl_mem.mp hu with rfl | hu
    · omega
    · have := hlen.2.2 u hu; omega)
  rw [zinsl_len] at this
  have := (hw s s0 (by omega)).1
  omega
/-- what becomes current (F 14 the run unit; G 15 of types, G 16 of set types) -/
def becF (F : Nat → Int) (r : Int) : Nat → Int := if r = -1 then F else Fup F 14 r
def becG (F : Nat → Int) (G : Nat → Int → Int) (r : Int) : Nat → Int → Int := if r = -1 then G else Gset (Gup G 15 (G 9 r) r) 16 (fun s => if 0 ≤ s ∧ s < F 0 ∧ (G 9 r = G 1 s ∨ G 11 (60 * s + r) ≠ -1) then r else G 16 s)
def mC (F : Nat → Int) (G : Nat → Int → Int) : Prop := (F 14 = -1 ∨ (0 ≤ F 14 ∧ F 14 < F 6 ∧ G 8 (F 14) = 1)) ∧
  (∀ t : Int, 0 ≤ t → t < 4 → G 15 t = -1 ∨ (0 ≤ G 15 t ∧ G 15 t < F 6 ∧ G 8 (G 15 t) = 1 ∧ G 9 (G 15 t) = t)) ∧
  ∀ s : Int, 0 ≤ s → s < 6 → G 16 s = -1 ∨ (s < F 0 ∧ 0 ≤ G 16 s ∧ G 16 s < F 6 ∧ G 8 (G 16 s) = 1 ∧ (G 9 (G 16 s) = G 1 s ∨ G 11 (60 * s + G 16 s) ≠ -1))
def mI (F : Nat → Int) (G : Nat → Int → Int) (Rw : Int → List Int) : Prop := mS F G Rw ∧ mC F G
theorem mS_18 {F : Nat → Int} {G : Nat → Int → Int} {Rw : Int → List Int} {c : Int} (h : mS F G Rw) : mS (Fup F 18 c) G Rw := h
theorem mC_18 {F : Nat → Int} {G : Nat → Int → Int} {c : Int} (h : mC F G) : mC (Fup F 18 c) G := h
theorem mI_18 {F : Nat → Int} {G : Nat → Int → Int} {Rw : Int → List Int} {c : Int} (h : mI F G Rw) : mI (Fup F 18 c) G Rw := h
theorem bec_18 (F : Nat → Int) (r c : Int) : becF (Fup F 18 c) r = Fup (becF F r) 18 c := by
  unfold becF
  split
  · rfl
  · funext j
    by_cases h : j = 14
    · subst h; simp [Fup]
    · by_cases h2 : j = 18
      · subst h2; simp [Fup]
      · simp [Fup, h, h2]
theorem becG_18 (F : Nat → Int) (G : Nat → Int → Int) (r c : Int) : becG (Fup F 18 c) G r = becG F G r := rfl
theorem mI_bec {F : Nat → Int} {G : Nat → Int → Int} {Rw : Int → List Int} (h : mI F G Rw) {r : Int} (hr : r = -1 ∨ 0 ≤ r ∧ r < F 6 ∧ G 8 r = 1) : mI (becF F r) (becG F G r) Rw := by
  unfold becF becG
  by_cases c : r = -1
  · rw [if_pos c, if_pos c]; exact h
  · rw [if_neg c, if_neg c]
    have hr2 : 0 ≤ r ∧ r < F 6 ∧ G 8 r = 1 := by omega
    refine ⟨h.1, Or.inr hr2, fun t t0 t1 => ?_, fun s s0 s1 => ?_⟩
    · show zup (G 15) (G 9 r) r t = -1 ∨ (0 ≤ zup (G 15) (G 9 r) r t ∧ zup (G 15) (G 9 r) r t < F 6 ∧ G 8 (zup (G 15) (G 9 r) r t) = 1 ∧ G 9 (zup (G 15) (G 9 r) r t) = t)
      by_cases ct : t = G 9 r
      · subst ct; rw [zup_s]; omega
      · rw [zup_n _ _ ct]; exact h.2.2.1 t t0 t1
    · show (if 0 ≤ s ∧ s < F 0 ∧ (G 9 r = G 1 s ∨ G 11 (60 * s + r) ≠ -1) then r else G 16 s) = -1 ∨ (s < F 0 ∧ 0 ≤ (if 0 ≤ s ∧ s < F 0 ∧ (G 9 r = G 1 s ∨ G 11 (60 * s + r) ≠ -1) then r else G 16 s) ∧ (if 0 ≤ s ∧ s < F 0 ∧ (G 9 r = G 1 s ∨ G 11 (60 * s + r) ≠ -1) then r else G 16 s) < F 6 ∧ G 8 (if 0 ≤ s ∧ s < F 0 ∧ (G 9 r = G 1 s ∨ G 11 (60 * s + r) ≠ -1) then r else G 16 s) = 1 ∧ (G 9 (if 0 ≤ s ∧ s < F 0 ∧ (G 9 r = G 1 s ∨ G 11 (60 * s + r) ≠ -1) then r else G 16 s) = G 1 s ∨ G 11 (60 * s + (if 0 ≤ s ∧ s < F 0 ∧ (G 9 r = G 1 s ∨ G 11 (60 * s + r) ≠ -1) then r else G 16 s)) ≠ -1))
      by_cases cs : 0 ≤ s ∧ s < F 0 ∧ (G 9 r = G 1 s ∨ G 11 (60 * s + r) ≠ -1)
      · rw [if_pos cs]; exact Or.inr ⟨cs.2.1, hr2.1, hr2.2.1, hr2.2.2, cs.2.2⟩
      · rw [if_neg cs]; exact h.2.2.2 s s0 s1
/-- the owner of the current set -/
def curO (G : Nat → Int → Int) (s : Int) : Int := if G 16 s = -1 ∨ G 9 (G 16 s) = G 1 s then G 16 s else G 11 (60 * s + G 16 s)
theorem curO_ok {F : Nat → Int} {G : Nat → Int → Int} {Rw : Int → List Int} (h : mI F G Rw) {s : Int} (s0 : 0 ≤ s) (s1 : s < F 0) (hi : G 16 s ≠ -1) : 0 ≤ curO G s ∧ curO G s < F 6 ∧ G 8 (curO G s) = 1 ∧ G 9 (curO G s) = G 1 s := by
  have hF := h.1.1
  have hc := h.2.2.2 s s0 (by omega)
  unfold curO
  by_cases c : G 16 s = -1 ∨ G 9 (G 16 s) = G 1 s
  · rw [if_pos c]; omega
  · rw [if_neg c]
    have := h.1.2.2.2.2.1 s (G 16 s) s0 (by omega) (by omega) (by have := h.1.2.1; omega)
    omega
theorem zat_cases (l : List Int) (k : Int) : zat l k = -1 ∨ zat l k ∈ l := by
  unfold zat
  rw [List.getD_eq_getElem?_getD]
  cases h : l[k.toNat]? with
  | none => exact Or.inl rfl
  | some v => exact Or.inr (List.mem_of_getElem? h)
theorem zmem_in {F : Nat → Int} {G : Nat → Int → Int} {Rw : Int → List Int} (h : mS F G Rw) {s o r : Int} (s0 : 0 ≤ s) (s1 : s < 6) (hr : r ∈ zmem G s o (Rw s)) : 0 ≤ r ∧ r < F 6 ∧ G 8 r = 1 ∧ G 11 (60 * s + r) = o ∧ G 9 r = G 2 s ∧ r ∈ Rw s := by
  obtain ⟨h1, h2⟩ := List.mem_filter.mp hr
  rw [decide_eq_true_eq] at h2
  have h3 := (mS_len h s0 s1).2.2 r h1
  have h4 := ((h.2.2.2.2.2 s s0 s1).2.2.2 r).mp h1
  have h5 := h.2.2.2.2.1 s r s0 s1 h4.1 h4.2.1
  exact ⟨h3.1, h3.2, by omega, h2, by omega, h1⟩
theorem zmem_at {F : Nat → Int} {G : Nat → Int → Int} {Rw : Int → List Int} (h : mS F G Rw) {s o : Int} (s0 : 0 ≤ s) (s1 : s < 6) (d : Int) : zat (zmem G s o (Rw s)) d = -1 ∨ (0 ≤ zat (zmem G s o (Rw s)) d ∧ zat (zmem G s o (Rw s)) d < F 6 ∧ G 8 (zat (zmem G s o (Rw s)) d) = 1) := by
  rcases zat_cases (zmem G s o (Rw s)) d with q | q
  · exact Or.inl q
  · have := zmem_in h s0 s1 q
    exact Or.inr ⟨this.1, this.2.1, this.2.2.1⟩
theorem zmem_len {F : Nat → Int} {G : Nat → Int → Int} {Rw : Int → List Int} (h : mS F G Rw) {s o : Int} (s0 : 0 ≤ s) (s1 : s < 6) : ((zmem G s o (Rw s)).length : Int) ≤ F 6 := by
  have h1 := mS_len h s0 s1
  have h2 := List.length_filter_le (fun r => decide (G 11 (60 * s + r) = o)) (Rw s)
  have h3 := (h.2.2.2.2.2 s s0 s1).1
  unfold zmem
  omega
theorem zmem_nodup {F : Nat → Int} {G : Nat → Int → Int} {Rw : Int → List Int} (h : mS F G Rw) {s o : Int} (s0 : 0 ≤ s) (s1 : s < 6) : (zmem G s o (Rw s)).Nodup := (h.2.2.2.2.2 s s0 s1).2.2.1.filter _
theorem zat_val {F : Nat → Int} {G : Nat → Int → Int} {Rw : Int → List Int} (h : mS F G Rw) {s o k : Int} (s0 : 0 ≤ s) (s1 : s < 6) (k0 : 0 ≤ k) (k1 : k < ((zmem G s o (Rw s)).length : Int)) : 0 ≤ zat (zmem G s o (Rw s)) k ∧ zat (zmem G s o (Rw s)) k < F 6 ∧ G 8 (zat (zmem G s o (Rw s)) k) = 1 := by
  have := zmem_in h s0 s1 (zat_mem k0 k1)
  exact ⟨this.1, this.2.1, this.2.2.1⟩
theorem becF_none (F : Nat → Int) : becF F (-1) = F := if_pos rfl
theorem becG_none (F : Nat → Int) (G : Nat → Int → Int) : becG F G (-1) = G := if_pos rfl
/-- what goes with a record that is erased -/
def gCl (G : Nat → Int → Int) (rec way r : Int) : Prop := ∀ X : Int → Prop, X rec → (∀ s u : Int, 0 ≤ s → s < 6 → 0 ≤ u → u < 60 → G 11 (60 * s + u) ≠ -1 → X (G 11 (60 * s + u)) → (way = 2 ∨ (way ≠ 0 ∧ G 5 s ≠ 2)) → X u) → X r
theorem gCl_self {G : Nat → Int → Int} {rec way : Int} : gCl G rec way rec := fun _ h _ => h
theorem gCl_step {G : Nat → Int → Int} {rec way s u : Int} (s0 : 0 ≤ s) (s1 : s < 6) (u0 : 0 ≤ u) (u1 : u < 60) (h1 : G 11 (60 * s + u) ≠ -1) (h2 : gCl G rec way (G 11 (60 * s + u))) (h3 : way = 2 ∨ (way ≠ 0 ∧ G 5 s ≠ 2)) : gCl G rec way u :=
  fun X hx hs => hs s u s0 s1 u0 u1 h1 (h2 X hx hs) h3
def zin (r : Int) (M : List Int) : Int := if r ∈ M then 1 else 0
theorem zin_1 {r : Int} {M : List Int} : zin r M = 1 ↔ r ∈ M := by unfold zin; split <;> simp_all
theorem zin_0 {r : Int} {M : List Int} : zin r M = 0 ↔ r ∉ M := by unfold zin; split <;> simp_all
theorem zin_01 (r : Int) (M : List Int) : zin r M = 0 ∨ zin r M = 1 := by unfold zin; split <;> simp
end
section
set_option maxHeartbeats 4000000 in
set_option maxRecDepth 100000 in
theorem c_thrown {l : Launch} {g : zG} {a : Nat → Nat} {F : Nat → Int} {G : Nat → Int → Int} {rest : va_W} (hst : l.stackTraces = false)  : zM l g yX4_thrown cX4_thrown 1 (Option.some FieldType.int) ({ frames := 0, cells := 0, slots := 0, locals := 0 } : Room) [.ref (a 0)] (mW g a F G rest) (zI fun r w => r = F 18 ∧ w = mW g a F G rest) zN 0 0 := by
  refine zM_of (lv0 := [(0, _)]) hst rfl (by decide +kernel) (Nat.le_of_ble_eq_true rfl) rfl (fun x hx hf hn => ?_)
  refine zz_aload_n hx dX4_thrown_0 rfl ?_
  refine zm_g18 hx lf_X4_57 dX4_thrown_1 ?_
  exact zz_iret hx hf dX4_thrown_4 ⟨_, rfl, rfl, rfl⟩ (by decide) (by decide)

set_option maxHeartbeats 4000000 in
set_option maxRecDepth 100000 in
theorem c_can {l : Launch} {g : zG} {a : Nat → Nat} {F : Nat → Int} {G : Nat → Int → Int} {rest : va_W} (hst : l.stackTraces = false) (f : Int) (hf0 : 0 ≤ f ∧ f < 3) : zM l g yX4_can cX4_can 2 (Option.some FieldType.boolean) ({ frames := 0, cells := 0, slots := 0, locals := 0 } : Room) [.ref (a 0), vi f] (mW g a F G rest) (zI fun r w => r = zb (f = 0) ∧ w = mW g a (Fup F 18 f) G rest) zN 0 0 := by
  refine zM_of (lv0 := [(0, _), (1, _)]) hst rfl (by decide +kernel) (Nat.le_of_ble_eq_true rfl) rfl (fun x hx hf hn => ?_)
  refine zz_aload_n hx dX4_can_0 rfl ?_
  refine zz_iload_n hx dX4_can_1 rfl ?_
  refine zm_p18 hx lf_X4_57 dX4_can_2 ?_
  refine zz_iload_n hx dX4_can_5 rfl ?_
  refine zz_if_ne hx 13 dX4_can_6 rfl (by omega) (fun c6 => ?_) (fun c6 => ?_)
  · refine zz_iconst hx dX4_can_13 ?_
    exact zz_zret hx hf dX4_can_14 (by first | decide | exact zb_01 _) ⟨_, rfl, by first | exact (zb_t (by omega)).symm | exact (zb_f (by omega)).symm, rfl⟩ (by decide) (by decide)
  · refine zz_iconst hx dX4_can_9 ?_
    refine zz_goto hx 14 dX4_can_10 rfl ?_
    exact zz_zret hx hf dX4_can_14 (by first | decide | exact zb_01 _) ⟨_, rfl, by first | exact (zb_t (by omega)).symm | exact (zb_f (by omega)).symm, rfl⟩ (by decide) (by decide)

set_option maxHeartbeats 4000000 in
set_option maxRecDepth 100000 in
theorem c_isIn {l : Launch} {g : zG} {a : Nat → Nat} {F : Nat → Int} {G : Nat → Int → Int} {rest : va_W} (hst : l.stackTraces = false) (n b c : Int) (hn : -2147483648 ≤ n ∧ n < 2147483648) (hb : -2147483648 ≤ b ∧ b < 2147483648) (hc : -2147483648 ≤ c ∧ c < 2147483648) : zM l g yX4_isIn cX4_isIn 3 (Option.some FieldType.boolean) ({ frames := 0, cells := 0, slots := 0, locals := 0 } : Room) [vi n, vi b, vi c] (mW g a F G rest) (zI fun r w => r = zb (b ≤ n ∧ n ≤ c) ∧ w = mW g a F G rest) zN 0 0 := by
  refine zM_of (lv0 := [(0, _), (1, _), (2, _)]) hst rfl (by decide +kernel) (Nat.le_of_ble_eq_true rfl) rfl (fun x hx hf hn => ?_)
  refine zz_iload_n hx dX4_isIn_0 rfl ?_
  refine zz_iload_n hx dX4_isIn_1 rfl ?_
  refine zz_icmp_lt hx 14 dX4_isIn_2 rfl (by omega) (by omega) (fun c2 => ?_) (fun c2 => ?_)
  · refine zz_iconst hx dX4_isIn_14 ?_
    exact zz_zret hx hf dX4_isIn_15 (by first | decide | exact zb_01 _) ⟨_, rfl, by first | exact (zb_t (by omega)).symm | exact (zb_f (by omega)).symm, rfl⟩ (by decide) (by decide)
  · refine zz_iload_n hx dX4_isIn_5 rfl ?_
    refine zz_iload_n hx dX4_isIn_6 rfl ?_
    refine zz_icmp_gt hx 14 dX4_isIn_7 rfl (by omega) (by omega) (fun c7 => ?_) (fun c7 => ?_)
    · refine zz_iconst hx dX4_isIn_14 ?_
      exact zz_zret hx hf dX4_isIn_15 (by first | decide | exact zb_01 _) ⟨_, rfl, by first | exact (zb_t (by omega)).symm | exact (zb_f (by omega)).symm, rfl⟩ (by decide) (by decide)
    · refine zz_iconst hx dX4_isIn_10 ?_
      refine zz_goto hx 15 dX4_isIn_11 rfl ?_
      exact zz_zret hx hf dX4_isIn_15 (by first | decide | exact zb_01 _) ⟨_, rfl, by first | exact (zb_t (by omega)).symm | exact (zb_f (by omega)).symm, rfl⟩ (by decide) (by decide)

set_option maxHeartbeats 4000000 in
set_option maxRecDepth 100000 in
theorem c_isSet {l : Launch} {g : zG} {a : Nat → Nat} {F : Nat → Int} {G : Nat → Int → Int} {rest : va_W} (hst : l.stackTraces = false) (s : Int) (hs : -2147483648 ≤ s ∧ s < 2147483648) (h0 : 0 ≤ F 0 ∧ F 0 ≤ 6) : zM l g yX4_isSet cX4_isSet 2 (Option.some FieldType.boolean) ({ frames := 1, cells := 0, slots := 0, locals := 22 } : Room) [.ref (a 0), vi s] (mW g a F G rest) (zI fun r w => r = zb (0 ≤ s ∧ s < F 0) ∧ w = mW g a F G rest) zN 0 0 := by
  refine zM_of (lv0 := [(0, _), (1, _)]) hst rfl (by decide +kernel) (Nat.le_of_ble_eq_true rfl) rfl (fun x hx hf hn => ?_)
  refine zz_iload_n hx dX4_isSet_0 rfl ?_
  refine zz_iconst hx dX4_isSet_1 ?_
  refine zz_aload_n hx dX4_isSet_2 rfl ?_
  refine zm_g0 hx lf_X4_60 dX4_isSet_3 ?_
  refine zz_iconst hx dX4_isSet_6 ?_
  refine zz_isub hx dX4_isSet_7 ?_
  refine zz_callSi hx ms_X4_isIn lk_X4_63 (c_isIn (a := a) (F := F) (G := G) hst _ _ _ (by omega) (by omega) (by omega)) ⟨rfl, rfl⟩ (by decide) (by decide) rfl rfl (Nat.le_of_ble_eq_true rfl) dX4_isSet_8 (fun _ _ h => h.elim) (fun r8 w8 hp8 => ?_)
  obtain ⟨rfl, rfl⟩ := hp8
  exact zz_zret hx hf dX4_isSet_11 (by first | decide | exact zb_01 _) ⟨_, rfl, zb_congr (by omega), rfl⟩ (by decide) (by decide)

set_option maxHeartbeats 4000000 in
set_option maxRecDepth 100000 in
theorem c_isRecord {l : Launch} {g : zG} {a : Nat → Nat} {F : Nat → Int} {G : Nat → Int → Int} {rest : va_W} (hst : l.stackTraces = false) (r : Int) (hr : -2147483648 ≤ r ∧ r < 2147483648) (h6 : 0 ≤ F 6 ∧ F 6 ≤ 60) (h8 : ∀ r, 0 ≤ r → r < F 6 → G 8 r = 0 ∨ G 8 r = 1) : zM l g yX4_isRecord cX4_isRecord 2 (Option.some FieldType.boolean) ({ frames := 1, cells := 0, slots := 0, locals := 22 } : Room) [.ref (a 0), vi r] (mW g a F G rest) (zI fun r' w => r' = zb (0 ≤ r ∧ r < F 6 ∧ G 8 r = 1) ∧ w = mW g a F G rest) zN 0 0 := by
  refine zM_of (lv0 := [(0, _), (1, _)]) hst rfl (by decide +kernel) (Nat.le_of_ble_eq_true rfl) rfl (fun x hx hf hn => ?_)
  refine zz_iload_n hx dX4_isRecord_0 rfl ?_
  refine zz_iconst hx dX4_isRecord_1 ?_
  refine zz_aload_n hx dX4_isRecord_2 rfl ?_
  refine zm_g6 hx lf_X4_67 dX4_isRecord_3 ?_
  refine zz_iconst hx dX4_isRecord_6 ?_
  refine zz_isub hx dX4_isRecord_7 ?_
  refine zz_callSi hx ms_X4_isIn lk_X4_63 (c_isIn (a := a) (F := F) (G := G) hst _ _ _ (by omega) (by omega) (by omega)) ⟨rfl, rfl⟩ (by decide) (by decide) rfl rfl (Nat.le_of_ble_eq_true rfl) dX4_isRecord_8 (fun _ _ h => h.elim) (fun r8 w8 hp8 => ?_)
  obtain ⟨rfl, rfl⟩ := hp8
  refine zz_ifb_eq hx 27 dX4_isRecord_11 rfl (fun c11 => ?_) (fun c11 => ?_)
  · refine zz_iconst hx dX4_isRecord_27 ?_
    exact zz_zret hx hf dX4_isRecord_28 (by first | decide | exact zb_01 _) ⟨_, rfl, by first | exact (zb_t (by omega)).symm | exact (zb_f (by omega)).symm, rfl⟩ (by decide) (by decide)
  · refine zz_aload_n hx dX4_isRecord_14 rfl ?_
    refine zm_g8 hx lf_X4_26 dX4_isRecord_15 ?_
    refine zz_iload_n hx dX4_isRecord_18 rfl ?_
    refine zm_l8 hx dX4_isRecord_19 (by omega) (by omega) ?_
    have h8r := h8 r (by omega) (by omega)
    refine zz_if_eq hx 27 dX4_isRecord_20 rfl (by omega) (fun c20 => ?_) (fun c20 => ?_)
    · refine zz_iconst hx dX4_isRecord_27 ?_
      exact zz_zret hx hf dX4_isRecord_28 (by first | decide | exact zb_01 _) ⟨_, rfl, by first | exact (zb_t (by omega)).symm | exact (zb_f (by omega)).symm, rfl⟩ (by decide) (by decide)
    · refine zz_iconst hx dX4_isRecord_23 ?_
      refine zz_goto hx 28 dX4_isRecord_24 rfl ?_
      exact zz_zret hx hf dX4_isRecord_28 (by first | decide | exact zb_01 _) ⟨_, rfl, by first | exact (zb_t (by omega)).symm | exact (zb_f (by omega)).symm, rfl⟩ (by decide) (by decide)
end
section
set_option maxHeartbeats 4000000 in
set_option maxRecDepth 100000 in
theorem c_ownerIn {l : Launch} {g : zG} {a : Nat → Nat} {F : Nat → Int} {G : Nat → Int → Int} {rest : va_W} (hst : l.stackTraces = false) (s r : Int) (s0 : 0 ≤ s) (s1 : s < 6) (r0 : 0 ≤ r) (r1 : r < 60) : zM l g yX4_ownerIn cX4_ownerIn 3 (Option.some FieldType.int) ({ frames := 0, cells := 0, slots := 0, locals := 0 } : Room) [.ref (a 0), vi s, vi r] (mW g a F G rest) (zI fun v w => v = G 11 (60 * s + r) ∧ w = mW g a F G rest) zN 0 0 := by
  refine zM_of (lv0 := [(0, _), (1, _), (2, _)]) hst rfl (by decide +kernel) (Nat.le_of_ble_eq_true rfl) rfl (fun x hx hf hn => ?_)
  refine zz_aload_n hx dX4_ownerIn_0 rfl ?_
  refine zm_g11 hx lf_X4_35 dX4_ownerIn_1 ?_
  refine zz_bipush hx dX4_ownerIn_4 rfl ?_
  refine zz_iload_n hx dX4_ownerIn_6 rfl ?_
  refine zz_imul hx dX4_ownerIn_7 ?_
  refine zz_iload_n hx dX4_ownerIn_8 rfl ?_
  refine zz_iadd hx dX4_ownerIn_9 ?_
  refine zm_l11 hx dX4_ownerIn_10 (by omega) (by omega) ?_
  exact zz_iret hx hf dX4_ownerIn_11 ⟨_, rfl, rfl, rfl⟩ (by decide) (by decide)

set_option maxHeartbeats 4000000 in
set_option maxRecDepth 100000 in
theorem c_placeOf {l : Launch} {g : zG} {a : Nat → Nat} {F : Nat → Int} {G : Nat → Int → Int} {rest : va_W} (hst : l.stackTraces = false) (s r : Int) (s0 : 0 ≤ s) (s1 : s < 6) (hr : -2147483648 ≤ r ∧ r < 2147483648) (hn : 0 ≤ G 12 s ∧ G 12 s ≤ 60) (hb : ∀ k : Int, 0 ≤ k → k < G 12 s → -1 ≤ G 13 (60 * s + k) ∧ G 13 (60 * s + k) < 60) : zM l g yX4_placeOf cX4_placeOf 4 (Option.some FieldType.int) ({ frames := 0, cells := 0, slots := 0, locals := 0 } : Room) [.ref (a 0), vi s, vi r] (mW g a F G rest) (zI fun p w => w = mW g a F G rest ∧ 0 ≤ p ∧ p ≤ G 12 s ∧ (∀ j : Int, 0 ≤ j → j < p → G 13 (60 * s + j) ≠ r) ∧ (p < G 12 s → G 13 (60 * s + p) = r)) zN 0 0 := by
  refine zM_of (lv0 := [(0, _), (1, _), (2, _)]) hst rfl (by decide +kernel) (Nat.le_of_ble_eq_true rfl) rfl (fun x hx hf hn => ?_)
  have loop : ∀ (m : Nat) (k : Int), 0 ≤ k → k ≤ G 12 s → (∀ j : Int, 0 ≤ j → j < k → G 13 (60 * s + j) ≠ r) → (G 12 s - k).toNat < m → Z l g ({ frames := 0, cells := 0, slots := 0, locals := 0 } : Room) 4 x 0 0 (mW g a F G rest) 2 [(0, .ref (a 0)), (1, vi s), (2, vi r), (3, vi k)] [] := by
    intro m
    induction m with
    | zero => intro k h0 h1 h2 hm; omega
    | succ m ih =>
      intro k h0 h1 h2 hm
      refine zz_iload_n hx dX4_placeOf_2 rfl ?_
      refine zz_aload_n hx dX4_placeOf_3 rfl ?_
      refine zm_g12 hx lf_X4_38 dX4_placeOf_4 ?_
      refine zz_iload_n hx dX4_placeOf_7 rfl ?_
      refine zm_l12 hx dX4_placeOf_8 (by omega) (by omega) ?_
      refine zz_icmp_ge hx 33 dX4_placeOf_9 rfl (by omega) (by omega) (fun c9 => ?_) (fun c9 => ?_)
      · refine zz_iload_n hx dX4_placeOf_33 rfl ?_
        exact zz_iret hx hf dX4_placeOf_34 ⟨_, rfl, rfl, by omega, by omega, h2, fun z => by first | exact c24 | exact absurd z (by omega)⟩ (by decide) (by decide)
      · refine zz_aload_n hx dX4_placeOf_12 rfl ?_
        refine zm_g13 hx lf_X4_41 dX4_placeOf_13 ?_
        refine zz_bipush hx dX4_placeOf_16 rfl ?_
        refine zz_iload_n hx dX4_placeOf_18 rfl ?_
        refine zz_imul hx dX4_placeOf_19 ?_
        refine zz_iload_n hx dX4_placeOf_20 rfl ?_
        refine zz_iadd hx dX4_placeOf_21 ?_
        refine zm_l13 hx dX4_placeOf_22 (by omega) (by omega) ?_
        refine zz_iload_n hx dX4_placeOf_23 rfl ?_
        have hk := hb k (by omega) (by omega)
        refine zz_icmp_eq hx 33 dX4_placeOf_24 rfl (by omega) (by omega) (fun c24 => ?_) (fun c24 => ?_)
        · refine zz_iload_n hx dX4_placeOf_33 rfl ?_
          exact zz_iret hx hf dX4_placeOf_34 ⟨_, rfl, rfl, by omega, by omega, h2, fun z => by first | exact c24 | exact absurd z (by omega)⟩ (by decide) (by decide)
        · refine zz_iinc (lv' := [(0, _), (1, _), (2, _), (3, _)]) hx dX4_placeOf_27 (by decide) rfl rfl ?_
          refine zz_goto hx 2 dX4_placeOf_30 rfl ?_
          exact ih (k + 1) (by omega) (by omega) (fun j j0 j1 => by rcases Int.lt_or_eq_of_le (show j ≤ k by omega) with q | q; exact h2 j j0 q; rw [q]; exact c24) (by omega)
  refine zz_iconst hx dX4_placeOf_0 ?_
  refine zz_istore_n (lv' := [(0, _), (1, _), (2, _), (3, _)]) hx dX4_placeOf_1 (by decide) rfl ?_
  exact loop ((G 12 s).toNat + 1) 0 (by omega) (by omega) (fun j _ _ => by omega) (by omega)

set_option maxHeartbeats 4000000 in
set_option maxRecDepth 100000 in
theorem c_takeOut {l : Launch} {g : zG} {a : Nat → Nat} {F : Nat → Int} {G : Nat → Int → Int} {rest : va_W} (hst : l.stackTraces = false) {Rw : Int → List Int} (h : mS F G Rw) (s r : Int) (s0 : 0 ≤ s) (s1 : s < 6) (r0 : 0 ≤ r) (r1 : r < 60) (hr : G 11 (60 * s + r) ≠ -1) : zM l g yX4_takeOut cX4_takeOut 4 (Option.none : Option FieldType) ({ frames := 1, cells := 0, slots := 0, locals := 23 } : Room) [.ref (a 0), vi s, vi r] (mW g a F G rest) (zV fun w => ∃ G' : Nat → Int → Int, w = mW g a F G' rest ∧ mS F G' (Lup Rw s (zdel (Rw s) r)) ∧ G' 11 = zup (G 11) (60 * s + r) (-1) ∧ ∀ k : Nat, k ≠ 11 → k ≠ 12 → k ≠ 13 → G' k = G k) zN 0 0 := by
  have hlen := mS_len h s0 s1
  have hF6 := h.2.1
  have hrow := h.2.2.2.2.2 s s0 s1
  have hmem : r ∈ Rw s := (hrow.2.2.2 r).mpr ⟨r0, r1, hr⟩
  obtain ⟨p, p0, p1, hp⟩ := zat_of_mem hmem
  have hgp := mS_at h s0 s1 p0 (by omega)
  refine zM_of (lv0 := [(0, _), (1, _), (2, _)]) hst rfl (by decide +kernel) (Nat.le_of_ble_eq_true rfl) rfl (fun x hx hf hn => ?_)
  have e13p : G 13 (60 * s + p) = r := by rw [hgp.1, hp]
  have hun : ∀ j : Int, 0 ≤ j → j < G 12 s → G 13 (60 * s + j) = r → j = p := fun j j0 j1 hj => by
    have := mS_at h s0 s1 j0 j1
    exact zat_inj hrow.2.2.1 ⟨j0, by omega⟩ ⟨p0, p1⟩ (by rw [hp, ← this.1, hj])
  have loop : ∀ (m : Nat) (k : Int) (f : Int → Int), p ≤ k → k ≤ G 12 s - 1 → (∀ j : Int, f j = if 60 * s + p ≤ j ∧ j < 60 * s + k then G 13 (j + 1) else G 13 j) → (G 12 s - k).toNat < m → Z l g ({ frames := 1, cells := 0, slots := 0, locals := 23 } : Room) 4 x 0 0 (mW g a F (Gset (Gset G 12 (zup (G 12) s (G 12 s - 1))) 13 f) rest) 17 [(0, .ref (a 0)), (1, vi s), (2, vi r), (3, vi k)] [] := by
    intro m
    induction m with
    | zero => intro k f h0 h1 h2 hm; omega
    | succ m ih =>
      intro k f h0 h1 h2 hm
      refine zz_iload_n hx dX4_takeOut_17 rfl ?_
      refine zz_aload_n hx dX4_takeOut_18 rfl ?_
      refine zm_g12 hx lf_X4_38 dX4_takeOut_19 ?_
      refine zz_iload_n hx dX4_takeOut_22 rfl ?_
      refine zm_l12 hx dX4_takeOut_23 (by omega) (by omega) ?_
      simp only [Gset, reduceIte, Nat.reduceEqDiff, zup_s]
      refine zz_icmp_ge hx 57 dX4_takeOut_24 rfl (by omega) (by omega) (fun c24 => ?_) (fun c24 => ?_)
      · refine zz_aload_n hx dX4_takeOut_57 rfl ?_
        refine zm_g11 hx lf_X4_35 dX4_takeOut_58 ?_
        refine zz_bipush hx dX4_takeOut_61 rfl ?_
        refine zz_iload_n hx dX4_takeOut_63 rfl ?_
        refine zz_imul hx dX4_takeOut_64 ?_
        refine zz_iload_n hx dX4_takeOut_65 rfl ?_
        refine zz_iadd hx dX4_takeOut_66 ?_
        refine zz_iconst hx dX4_takeOut_67 ?_
        refine zm_s11 hx dX4_takeOut_68 (by omega) (by omega) ?_
        have hk9 : k = G 12 s - 1 := by omega
        have e12 : Gup (Gset (Gset G 12 (zup (G 12) s (G 12 s - 1))) 13 f) 11 (60 * s + r) (-1) 12 = zup (G 12) s (G 12 s - 1) := by simp [Gup, Gset]
        have e13 : ∀ j : Int, Gup (Gset (Gset G 12 (zup (G 12) s (G 12 s - 1))) 13 f) 11 (60 * s + r) (-1) 13 j = if 60 * s + p ≤ j ∧ j < 60 * s + G 12 s - 1 then G 13 (j + 1) else G 13 j := fun j => by
          simp only [Gup, Gset, reduceIte, Nat.reduceEqDiff]
          rw [h2]
          by_cases c2 : 60 * s + p ≤ j ∧ j < 60 * s + k
          · rw [if_pos c2, if_pos (by omega)]
          · rw [if_neg c2, if_neg (by omega)]
        have e11 : Gup (Gset (Gset G 12 (zup (G 12) s (G 12 s - 1))) 13 f) 11 (60 * s + r) (-1) 11 = zup (G 11) (60 * s + r) (-1) := by simp [Gup, Gset]
        have ek : ∀ k : Nat, k ≠ 11 → k ≠ 12 → k ≠ 13 → Gup (Gset (Gset G 12 (zup (G 12) s (G 12 s - 1))) 13 f) 11 (60 * s + r) (-1) k = G k := fun k h1 h2 h3 => by simp [Gup, Gset, h1, h2, h3]
        exact zz_vret hx hf dX4_takeOut_69 ⟨rfl, _, rfl, mS_out h s0 s1 r0 r1 p0 (by omega) hp e12 e13 e11 ek, e11, ek⟩ (by decide) (by decide)
      · refine zz_aload_n hx dX4_takeOut_27 rfl ?_
        refine zm_g13 hx lf_X4_41 dX4_takeOut_28 ?_
        refine zz_bipush hx dX4_takeOut_31 rfl ?_
        refine zz_iload_n hx dX4_takeOut_33 rfl ?_
        refine zz_imul hx dX4_takeOut_34 ?_
        refine zz_iload_n hx dX4_takeOut_35 rfl ?_
        refine zz_iadd hx dX4_takeOut_36 ?_
        refine zz_aload_n hx dX4_takeOut_37 rfl ?_
        refine zm_g13 hx lf_X4_41 dX4_takeOut_38 ?_
        refine zz_bipush hx dX4_takeOut_41 rfl ?_
        refine zz_iload_n hx dX4_takeOut_43 rfl ?_
        refine zz_imul hx dX4_takeOut_44 ?_
        refine zz_iload_n hx dX4_takeOut_45 rfl ?_
        refine zz_iadd hx dX4_takeOut_46 ?_
        refine zz_iconst hx dX4_takeOut_47 ?_
        refine zz_iadd hx dX4_takeOut_48 ?_
        refine zm_l13 hx dX4_takeOut_49 (by omega) (by omega) ?_
        simp only [Gset, reduceIte, Nat.reduceEqDiff]
        refine zm_s13 hx dX4_takeOut_50 (by omega) (by omega) ?_
        refine zz_iinc (lv' := [(0, _), (1, _), (2, _), (3, _)]) hx dX4_takeOut_51 (by decide) rfl rfl ?_
        refine zz_goto hx 17 dX4_takeOut_54 rfl ?_
        rw [Gup_eq, Gset_Gset, Gset_s]
        refine ih (k + 1) _ (by omega) (by omega) (fun j => ?_) (by omega)
        by_cases cj : j = 60 * s + k
        · subst cj
          rw [zup_s, if_pos (by omega), h2, if_neg (by omega)]
        · rw [zup_n _ _ cj, h2]
          by_cases c2 : 60 * s + p ≤ j ∧ j < 60 * s + k
          · rw [if_pos c2, if_pos (by omega)]
          · rw [if_neg c2, if_neg (by omega)]
  refine zz_aload_n hx dX4_takeOut_0 rfl ?_
  refine zm_g12 hx lf_X4_38 dX4_takeOut_1 ?_
  refine zz_iload_n hx dX4_takeOut_4 rfl ?_
  refine zz_dup2 hx dX4_takeOut_5 rfl rfl ?_
  refine zm_l12 hx dX4_takeOut_6 (by omega) (by omega) ?_
  refine zz_iconst hx dX4_takeOut_7 ?_
  refine zz_isub hx dX4_takeOut_8 ?_
  refine zm_s12 hx dX4_takeOut_9 (by omega) (by omega) ?_
  refine zz_aload_n hx dX4_takeOut_10 rfl ?_
  refine zz_iload_n hx dX4_takeOut_11 rfl ?_
  refine zz_iload_n hx dX4_takeOut_12 rfl ?_
  refine zz_callVi hx me_X4_placeOf lk_X4_74 (c_placeOf hst _ _ (by omega) (by omega) (by omega) (by simp only [Gup, reduceIte, Nat.reduceEqDiff, zup_s]; omega) (fun k k0 k1 => by
    simp only [Gup, reduceIte, Nat.reduceEqDiff, zup_s] at k1 ⊢
    have := mS_at h s0 s1 k0 (by omega)
    omega)) 0 rfl rfl ⟨rfl, rfl⟩ (by decide) (by decide) rfl rfl (Nat.le_of_ble_eq_true rfl) dX4_takeOut_13 (fun _ _ h => h.elim) (fun r13 w13 hp13 => ?_)
  obtain ⟨rfl, a1, a2, a3, a4⟩ := hp13
  simp only [Gup, reduceIte, Nat.reduceEqDiff, zup_s] at a2 a3 a4
  have hq : r13 = p := by
    rcases Int.lt_or_le r13 (G 12 s - 1) with q | q
    · exact hun r13 a1 (by omega) (a4 q)
    · rcases Int.lt_or_le p r13 with q2 | q2
      · exact absurd e13p (a3 p p0 q2)
      · omega
  subst hq
  refine zz_istore_n (lv' := [(0, _), (1, _), (2, _), (3, _)]) hx dX4_takeOut_16 (by decide) rfl ?_
  rw [show Gup G 12 s (G 12 s - 1) = Gset (Gset G 12 (zup (G 12) s (G 12 s - 1))) 13 (G 13) by funext j; by_cases h1 : j = 13 <;> by_cases h2 : j = 12 <;> simp [Gup, Gset, h1, h2]]
  exact loop ((G 12 s - r13).toNat + 1) r13 (G 13) (by omega) (by omega) (fun j => by rw [if_neg (by omega)]) (by omega)
end
section
set_option maxHeartbeats 4000000 in
set_option maxRecDepth 100000 in
theorem c_currentOwner {l : Launch} {g : zG} {a : Nat → Nat} {F : Nat → Int} {G : Nat → Int → Int} {rest : va_W} (hst : l.stackTraces = false) {Rw : Int → List Int} (h : mS F G Rw) (s : Int) (s0 : 0 ≤ s) (s1 : s < F 0) (hi : G 16 s = -1 ∨ 0 ≤ G 16 s ∧ G 16 s < F 6) : zM l g yX4_currentOwner cX4_currentOwner 3 (Option.some FieldType.int) ({ frames := 1, cells := 0, slots := 0, locals := 22 } : Room) [.ref (a 0), vi s] (mW g a F G rest) (zI fun v w => v = curO G s ∧ w = mW g a F G rest) zN 0 0 := by
  have hF0 := h.1
  have hF6 := h.2.1
  have hd := h.2.2.1 s s0 s1
  refine zM_of (lv0 := [(0, _), (1, _)]) hst rfl (by decide +kernel) (Nat.le_of_ble_eq_true rfl) rfl (fun x hx hf hn => ?_)
  refine zz_aload_n hx dX4_currentOwner_0 rfl ?_
  refine zm_g16 hx lf_X4_47 dX4_currentOwner_1 ?_
  refine zz_iload_n hx dX4_currentOwner_4 rfl ?_
  refine zm_l16 hx dX4_currentOwner_5 (by omega) (by omega) ?_
  refine zz_istore_n (lv' := [(0, _), (1, _), (2, _)]) hx dX4_currentOwner_6 (by decide) rfl ?_
  refine zz_iload_n hx dX4_currentOwner_7 rfl ?_
  refine zz_iconst hx dX4_currentOwner_8 ?_
  refine zz_icmp_eq hx 27 dX4_currentOwner_9 rfl (by omega) (by omega) (fun c9 => ?_) (fun c9 => ?_)
  · refine zz_iload_n hx dX4_currentOwner_27 rfl ?_
    refine zz_goto hx 37 dX4_currentOwner_28 rfl ?_
    exact zz_iret hx hf dX4_currentOwner_37 ⟨_, rfl, by first | rw [curO, if_pos (Or.inl c9)] | rw [curO, if_neg (by omega)] | rw [curO, if_pos (Or.inr (by omega))], rfl⟩ (by decide) (by decide)
  · have hr9 := h.2.2.2.1 (G 16 s) (by omega) (by omega)
    refine zz_aload_n hx dX4_currentOwner_12 rfl ?_
    refine zm_g9 hx lf_X4_29 dX4_currentOwner_13 ?_
    refine zz_iload_n hx dX4_currentOwner_16 rfl ?_
    refine zm_l9 hx dX4_currentOwner_17 (by omega) (by omega) ?_
    refine zz_aload_n hx dX4_currentOwner_18 rfl ?_
    refine zm_g1 hx lf_X4_7 dX4_currentOwner_19 ?_
    refine zz_iload_n hx dX4_currentOwner_22 rfl ?_
    refine zm_l1 hx dX4_currentOwner_23 (by omega) (by omega) ?_
    refine zz_icmp_ne hx 31 dX4_currentOwner_24 rfl (by omega) (by omega) (fun c24 => ?_) (fun c24 => ?_)
    · refine zz_aload_n hx dX4_currentOwner_31 rfl ?_
      refine zz_iload_n hx dX4_currentOwner_32 rfl ?_
      refine zz_iload_n hx dX4_currentOwner_33 rfl ?_
      refine zz_callVi hx me_X4_ownerIn lk_X4_78 (c_ownerIn hst _ _ (by omega) (by omega) (by omega) (by omega)) 0 rfl rfl ⟨rfl, rfl⟩ (by decide) (by decide) rfl rfl (Nat.le_of_ble_eq_true rfl) dX4_currentOwner_34 (fun _ _ h => h.elim) (fun r34 w34 hp34 => ?_)
      obtain ⟨rfl, rfl⟩ := hp34
      exact zz_iret hx hf dX4_currentOwner_37 ⟨_, rfl, by first | rw [curO, if_pos (Or.inl c9)] | rw [curO, if_neg (by omega)] | rw [curO, if_pos (Or.inr (by omega))], rfl⟩ (by decide) (by decide)
    · refine zz_iload_n hx dX4_currentOwner_27 rfl ?_
      refine zz_goto hx 37 dX4_currentOwner_28 rfl ?_
      exact zz_iret hx hf dX4_currentOwner_37 ⟨_, rfl, by first | rw [curO, if_pos (Or.inl c9)] | rw [curO, if_neg (by omega)] | rw [curO, if_pos (Or.inr (by omega))], rfl⟩ (by decide) (by decide)

set_option maxHeartbeats 4000000 in
set_option maxRecDepth 100000 in
theorem c_newPlace {l : Launch} {g : zG} {a : Nat → Nat} {F : Nat → Int} {G : Nat → Int → Int} {rest : va_W} (hst : l.stackTraces = false) {Rw : Int → List Int} (h : mS F G Rw) (s r q : Int) (s0 : 0 ≤ s) (s1 : s < F 0) (r0 : 0 ≤ r) (r1 : r < F 6) (o0 : 0 ≤ q) (o1 : q < F 6) (hi : G 16 s = -1 ∨ 0 ≤ G 16 s ∧ G 16 s < F 6) : zM l g yX4_newPlace cX4_newPlace 7 (Option.some FieldType.int) ({ frames := 1, cells := 0, slots := 0, locals := 23 } : Room) [.ref (a 0), vi s, vi r, vi q] (mW g a F G rest) (zI fun p w => nPl G s r q (Rw s) p ∧ w = mW g a F G rest) zN 0 0 := by
  have hF0 := h.1
  have hF6 := h.2.1
  have hd := h.2.2.1 s s0 s1
  have hlen := mS_len h s0 (by omega)
  have hrow := h.2.2.2.2.2 s s0 (by omega)
  have hvr := h.2.2.2.1 r r0 r1
  refine zM_of (lv0 := [(0, _), (1, _), (2, _), (3, _)]) hst rfl (by decide +kernel) (Nat.le_of_ble_eq_true rfl) rfl (fun x hx hf hn => ?_)
  have sorted : ∀ (m : Nat) (k : Int), G 3 s = 4 → 0 ≤ k → k ≤ G 12 s → (∀ j : Int, 0 ≤ j → j < k → ¬ (G 11 (60 * s + zat (Rw s) j) = q ∧ G 10 r < G 10 (zat (Rw s) j))) → (G 12 s - k).toNat < m → Z l g ({ frames := 1, cells := 0, slots := 0, locals := 23 } : Room) 7 x 0 0 (mW g a F G rest) 25 [(0, .ref (a 0)), (1, vi s), (2, vi r), (3, vi q), (4, vi (G 16 s)), (5, vi (G 3 s)), (6, vi k)] [] := by
    intro m
    induction m with
    | zero => intro k h4 h0 h1 h2 hm; omega
    | succ m ih =>
      intro k h4 h0 h1 h2 hm
      refine zz_iload hx dX4_newPlace_25 rfl ?_
      refine zz_aload_n hx dX4_newPlace_27 rfl ?_
      refine zm_g12 hx lf_X4_38 dX4_newPlace_28 ?_
      refine zz_iload_n hx dX4_newPlace_31 rfl ?_
      refine zm_l12 hx dX4_newPlace_32 (by omega) (by omega) ?_
      refine zz_icmp_ge hx 89 dX4_newPlace_33 rfl (by omega) (by omega) (fun c33 => ?_) (fun c33 => ?_)
      · refine zz_iload hx dX4_newPlace_89 rfl ?_
        exact zz_iret hx hf dX4_newPlace_91 ⟨_, rfl, ⟨fun _ => ⟨by omega, h2, fun z => by first | exact ⟨by omega, by omega⟩ | exact absurd z (by omega)⟩, fun z => absurd h4 z, fun z => absurd h4 z⟩, rfl⟩ (by decide) (by decide)
      · have hk := mS_at h s0 (by omega) h0 (show k < G 12 s by omega)
        have hvk := h.2.2.2.1 (zat (Rw s) k) (by omega) (by omega)
        have hok := h.2.2.2.2.1 s (zat (Rw s) k) (by omega) (by omega) (by omega) (by omega)
        refine zz_aload_n hx dX4_newPlace_36 rfl ?_
        refine zz_iload_n hx dX4_newPlace_37 rfl ?_
        refine zz_aload_n hx dX4_newPlace_38 rfl ?_
        refine zm_g13 hx lf_X4_41 dX4_newPlace_39 ?_
        refine zz_bipush hx dX4_newPlace_42 rfl ?_
        refine zz_iload_n hx dX4_newPlace_44 rfl ?_
        refine zz_imul hx dX4_newPlace_45 ?_
        refine zz_iload hx dX4_newPlace_46 rfl ?_
        refine zz_iadd hx dX4_newPlace_48 ?_
        refine zm_l13 hx dX4_newPlace_49 (by omega) (by omega) ?_
        rw [hk.1]
        refine zz_callVi hx me_X4_ownerIn lk_X4_78 (c_ownerIn hst _ _ (by omega) (by omega) (by omega) (by omega)) 0 rfl rfl ⟨rfl, rfl⟩ (by decide) (by decide) rfl rfl (Nat.le_of_ble_eq_true rfl) dX4_newPlace_50 (fun _ _ h => h.elim) (fun r50 w50 hp50 => ?_)
        obtain ⟨rfl, rfl⟩ := hp50
        refine zz_iload_n hx dX4_newPlace_53 rfl ?_
        refine zz_icmp_ne hx 83 dX4_newPlace_54 rfl (by omega) (by omega) (fun c54 => ?_) (fun c54 => ?_)
        · refine zz_iinc (lv' := [(0, _), (1, _), (2, _), (3, _), (4, _), (5, _), (6, _)]) hx dX4_newPlace_83 (by decide) rfl rfl ?_
          refine zz_goto hx 25 dX4_newPlace_86 rfl ?_
          refine ih (k + 1) h4 (by omega) (by omega) (fun j j0 j1 => ?_) (by omega)
          rcases Int.lt_or_eq_of_le (show j ≤ k by omega) with z | z
          · exact h2 j j0 z
          · subst z
            first | exact fun z => c54 z.1 | exact fun z => c80 z.2
        · refine zz_aload_n hx dX4_newPlace_57 rfl ?_
          refine zm_g10 hx lf_X4_32 dX4_newPlace_58 ?_
          refine zz_aload_n hx dX4_newPlace_61 rfl ?_
          refine zm_g13 hx lf_X4_41 dX4_newPlace_62 ?_
          refine zz_bipush hx dX4_newPlace_65 rfl ?_
          refine zz_iload_n hx dX4_newPlace_67 rfl ?_
          refine zz_imul hx dX4_newPlace_68 ?_
          refine zz_iload hx dX4_newPlace_69 rfl ?_
          refine zz_iadd hx dX4_newPlace_71 ?_
          refine zm_l13 hx dX4_newPlace_72 (by omega) (by omega) ?_
          rw [hk.1]
          refine zm_l10 hx dX4_newPlace_73 (by omega) (by omega) ?_
          refine zz_aload_n hx dX4_newPlace_74 rfl ?_
          refine zm_g10 hx lf_X4_32 dX4_newPlace_75 ?_
          refine zz_iload_n hx dX4_newPlace_78 rfl ?_
          refine zm_l10 hx dX4_newPlace_79 (by omega) (by omega) ?_
          refine zz_icmp_gt hx 89 dX4_newPlace_80 rfl (by omega) (by omega) (fun c80 => ?_) (fun c80 => ?_)
          · refine zz_iload hx dX4_newPlace_89 rfl ?_
            exact zz_iret hx hf dX4_newPlace_91 ⟨_, rfl, ⟨fun _ => ⟨by omega, h2, fun z => by first | exact ⟨by omega, by omega⟩ | exact absurd z (by omega)⟩, fun z => absurd h4 z, fun z => absurd h4 z⟩, rfl⟩ (by decide) (by decide)
          · refine zz_iinc (lv' := [(0, _), (1, _), (2, _), (3, _), (4, _), (5, _), (6, _)]) hx dX4_newPlace_83 (by decide) rfl rfl ?_
            refine zz_goto hx 25 dX4_newPlace_86 rfl ?_
            refine ih (k + 1) h4 (by omega) (by omega) (fun j j0 j1 => ?_) (by omega)
            rcases Int.lt_or_eq_of_le (show j ≤ k by omega) with z | z
            · exact h2 j j0 z
            · subst z
              first | exact fun z => c54 z.1 | exact fun z => c80 z.2
  have J : ∀ b : Int, (b = 0 ∨ b = 1) → (b = 1 ↔ (G 16 s ≠ -1 ∧ G 11 (60 * s + G 16 s) = q)) → G 3 s ≠ 4 → Z l g ({ frames := 1, cells := 0, slots := 0, locals := 23 } : Room) 7 x 0 0 (mW g a F G rest) 114 [(0, .ref (a 0)), (1, vi s), (2, vi r), (3, vi q), (4, vi (G 16 s)), (5, vi (G 3 s))] [vi b] := by
    intro b hb hbi h4
    refine zz_istore (lv' := [(0, _), (1, _), (2, _), (3, _), (4, _), (5, _), (6, _)]) hx dX4_newPlace_114 (by decide) rfl ?_
    refine zz_iload hx dX4_newPlace_116 rfl ?_
    refine zz_if_eq hx 147 dX4_newPlace_118 rfl (by omega) (fun c118 => ?_) (fun c118 => ?_)
    · refine zz_iload hx dX4_newPlace_147 rfl ?_
      refine zz_if_eq hx 158 dX4_newPlace_149 rfl (by omega) (fun c149 => ?_) (fun c149 => ?_)
      · refine zz_iconst hx dX4_newPlace_158 ?_
        refine zz_goto hx 168 dX4_newPlace_159 rfl ?_
        exact zz_iret hx hf dX4_newPlace_168 ⟨_, rfl, ⟨fun z => absurd z h4, fun _ z => by have := hbi.mpr z.1; omega, fun _ _ => by first | (rw [if_pos (by omega)]; done) | (rw [if_neg (by omega)]; omega)⟩, rfl⟩ (by decide) (by decide)
      · refine zz_iload hx dX4_newPlace_152 rfl ?_
        refine zz_iconst hx dX4_newPlace_154 ?_
        refine zz_icmp_ne hx 162 dX4_newPlace_155 rfl (by omega) (by omega) (fun c155 => ?_) (fun c155 => ?_)
        · refine zz_aload_n hx dX4_newPlace_162 rfl ?_
          refine zm_g12 hx lf_X4_38 dX4_newPlace_163 ?_
          refine zz_iload_n hx dX4_newPlace_166 rfl ?_
          refine zm_l12 hx dX4_newPlace_167 (by omega) (by omega) ?_
          exact zz_iret hx hf dX4_newPlace_168 ⟨_, rfl, ⟨fun z => absurd z h4, fun _ z => by have := hbi.mpr z.1; omega, fun _ _ => by first | (rw [if_pos (by omega)]; done) | (rw [if_neg (by omega)]; omega)⟩, rfl⟩ (by decide) (by decide)
        · refine zz_iconst hx dX4_newPlace_158 ?_
          refine zz_goto hx 168 dX4_newPlace_159 rfl ?_
          exact zz_iret hx hf dX4_newPlace_168 ⟨_, rfl, ⟨fun z => absurd z h4, fun _ z => by have := hbi.mpr z.1; omega, fun _ _ => by first | (rw [if_pos (by omega)]; done) | (rw [if_neg (by omega)]; omega)⟩, rfl⟩ (by decide) (by decide)
    · refine zz_iload hx dX4_newPlace_121 rfl ?_
      refine zz_iconst hx dX4_newPlace_123 ?_
      refine zz_icmp_lt hx 147 dX4_newPlace_124 rfl (by omega) (by omega) (fun c124 => ?_) (fun c124 => ?_)
      · refine zz_iload hx dX4_newPlace_147 rfl ?_
        refine zz_if_eq hx 158 dX4_newPlace_149 rfl (by omega) (fun c149 => ?_) (fun c149 => ?_)
        · refine zz_iconst hx dX4_newPlace_158 ?_
          refine zz_goto hx 168 dX4_newPlace_159 rfl ?_
          exact zz_iret hx hf dX4_newPlace_168 ⟨_, rfl, ⟨fun z => absurd z h4, fun _ z => by have := hbi.mpr z.1; omega, fun _ _ => by first | (rw [if_pos (by omega)]; done) | (rw [if_neg (by omega)]; omega)⟩, rfl⟩ (by decide) (by decide)
        · refine zz_iload hx dX4_newPlace_152 rfl ?_
          refine zz_iconst hx dX4_newPlace_154 ?_
          refine zz_icmp_ne hx 162 dX4_newPlace_155 rfl (by omega) (by omega) (fun c155 => ?_) (fun c155 => ?_)
          · refine zz_aload_n hx dX4_newPlace_162 rfl ?_
            refine zm_g12 hx lf_X4_38 dX4_newPlace_163 ?_
            refine zz_iload_n hx dX4_newPlace_166 rfl ?_
            refine zm_l12 hx dX4_newPlace_167 (by omega) (by omega) ?_
            exact zz_iret hx hf dX4_newPlace_168 ⟨_, rfl, ⟨fun z => absurd z h4, fun _ z => by have := hbi.mpr z.1; omega, fun _ _ => by first | (rw [if_pos (by omega)]; done) | (rw [if_neg (by omega)]; omega)⟩, rfl⟩ (by decide) (by decide)
          · refine zz_iconst hx dX4_newPlace_158 ?_
            refine zz_goto hx 168 dX4_newPlace_159 rfl ?_
            exact zz_iret hx hf dX4_newPlace_168 ⟨_, rfl, ⟨fun z => absurd z h4, fun _ z => by have := hbi.mpr z.1; omega, fun _ _ => by first | (rw [if_pos (by omega)]; done) | (rw [if_neg (by omega)]; omega)⟩, rfl⟩ (by decide) (by decide)
      · have hone := hbi.mp (by omega)
        have hon := h.2.2.2.2.1 s (G 16 s) (by omega) (by omega) (by omega) (by omega)
        have hnm : G 16 s ∈ Rw s := (hrow.2.2.2 _).mpr ⟨by omega, by omega, by omega⟩
        refine zz_aload_n hx dX4_newPlace_127 rfl ?_
        refine zz_iload_n hx dX4_newPlace_128 rfl ?_
        refine zz_iload hx dX4_newPlace_129 rfl ?_
        refine zz_callVi hx me_X4_placeOf lk_X4_74 (c_placeOf hst _ _ (by omega) (by omega) (by omega) (by omega) (fun k k0 k1 => by
      have := mS_at h s0 (by omega) k0 k1
      omega)) 0 rfl rfl ⟨rfl, rfl⟩ (by decide) (by decide) rfl rfl (Nat.le_of_ble_eq_true rfl) dX4_newPlace_131 (fun _ _ h => h.elim) (fun r131 w131 hp131 => ?_)
        obtain ⟨rfl, a1, a2, a3, a4⟩ := hp131
        have hlt : r131 < G 12 s := by
          rcases Int.lt_or_le r131 (G 12 s) with z | z
          · exact z
          · obtain ⟨j, j0, j1, hj⟩ := zat_of_mem hnm
            have hjk := mS_at h s0 (by omega) j0 (show j < G 12 s by omega)
            exact absurd (by rw [hjk.1, hj]) (a3 j j0 (by omega))
        have hat := mS_at h s0 (by omega) a1 hlt
        have he4 := a4 hlt
        refine zz_iload hx dX4_newPlace_134 rfl ?_
        refine zz_iconst hx dX4_newPlace_136 ?_
        refine zz_icmp_ne hx 144 dX4_newPlace_137 rfl (by omega) (by omega) (fun c137 => ?_) (fun c137 => ?_)
        · refine zz_iconst hx dX4_newPlace_144 ?_
          refine zz_iadd hx dX4_newPlace_145 ?_
          exact zz_iret hx hf dX4_newPlace_146 ⟨_, rfl, ⟨fun z => absurd z h4, fun _ _ => ⟨r131, a1, by omega, by omega, by first | rw [if_pos (by omega)] | rw [if_neg (by omega)]⟩, fun _ z => absurd ⟨hone, by omega⟩ z⟩, rfl⟩ (by decide) (by decide)
        · refine zz_iconst hx dX4_newPlace_140 ?_
          refine zz_goto hx 145 dX4_newPlace_141 rfl ?_
          refine zz_iadd hx dX4_newPlace_145 ?_
          exact zz_iret hx hf dX4_newPlace_146 ⟨_, rfl, ⟨fun z => absurd z h4, fun _ _ => ⟨r131, a1, by omega, by omega, by first | rw [if_pos (by omega)] | rw [if_neg (by omega)]⟩, fun _ z => absurd ⟨hone, by omega⟩ z⟩, rfl⟩ (by decide) (by decide)
  refine zz_aload_n hx dX4_newPlace_0 rfl ?_
  refine zm_g16 hx lf_X4_47 dX4_newPlace_1 ?_
  refine zz_iload_n hx dX4_newPlace_4 rfl ?_
  refine zm_l16 hx dX4_newPlace_5 (by omega) (by omega) ?_
  refine zz_istore (lv' := [(0, _), (1, _), (2, _), (3, _), (4, _)]) hx dX4_newPlace_6 (by decide) rfl ?_
  refine zz_aload_n hx dX4_newPlace_8 rfl ?_
  refine zm_g3 hx lf_X4_16 dX4_newPlace_9 ?_
  refine zz_iload_n hx dX4_newPlace_12 rfl ?_
  refine zm_l3 hx dX4_newPlace_13 (by omega) (by omega) ?_
  refine zz_istore (lv' := [(0, _), (1, _), (2, _), (3, _), (4, _), (5, _)]) hx dX4_newPlace_14 (by decide) rfl ?_
  refine zz_iload hx dX4_newPlace_16 rfl ?_
  refine zz_iconst hx dX4_newPlace_18 ?_
  refine zz_icmp_ne hx 92 dX4_newPlace_19 rfl (by omega) (by omega) (fun c19 => ?_) (fun c19 => ?_)
  · refine zz_iload hx dX4_newPlace_92 rfl ?_
    refine zz_iconst hx dX4_newPlace_94 ?_
    refine zz_icmp_eq hx 113 dX4_newPlace_95 rfl (by omega) (by omega) (fun c95 => ?_) (fun c95 => ?_)
    · refine zz_iconst hx dX4_newPlace_113 ?_
      exact J _ (by omega) (by omega) (by omega)
    · have hon := h.2.2.2.2.1 s (G 16 s) (by omega) (by omega) (by omega) (by omega)
      refine zz_aload_n hx dX4_newPlace_98 rfl ?_
      refine zz_iload_n hx dX4_newPlace_99 rfl ?_
      refine zz_iload hx dX4_newPlace_100 rfl ?_
      refine zz_callVi hx me_X4_ownerIn lk_X4_78 (c_ownerIn hst _ _ (by omega) (by omega) (by omega) (by omega)) 0 rfl rfl ⟨rfl, rfl⟩ (by decide) (by decide) rfl rfl (Nat.le_of_ble_eq_true rfl) dX4_newPlace_102 (fun _ _ h => h.elim) (fun r102 w102 hp102 => ?_)
      obtain ⟨rfl, rfl⟩ := hp102
      refine zz_iload_n hx dX4_newPlace_105 rfl ?_
      refine zz_icmp_ne hx 113 dX4_newPlace_106 rfl (by omega) (by omega) (fun c106 => ?_) (fun c106 => ?_)
      · refine zz_iconst hx dX4_newPlace_113 ?_
        exact J _ (by omega) (by omega) (by omega)
      · refine zz_iconst hx dX4_newPlace_109 ?_
        refine zz_goto hx 114 dX4_newPlace_110 rfl ?_
        exact J _ (by omega) (by omega) (by omega)
  · refine zz_iconst hx dX4_newPlace_22 ?_
    refine zz_istore (lv' := [(0, _), (1, _), (2, _), (3, _), (4, _), (5, _), (6, _)]) hx dX4_newPlace_23 (by decide) rfl ?_
    exact sorted ((G 12 s).toNat + 1) 0 (by omega) (by omega) (by omega) (fun j _ _ => by omega) (by omega)

set_option maxHeartbeats 4000000 in
set_option maxRecDepth 100000 in
theorem c_insert {l : Launch} {g : zG} {a : Nat → Nat} {F : Nat → Int} {G : Nat → Int → Int} {rest : va_W} (hst : l.stackTraces = false) {Rw : Int → List Int} (h : mS F G Rw) (s r q : Int) (s0 : 0 ≤ s) (s1 : s < F 0) (r0 : 0 ≤ r) (r1 : r < F 6) (hr0 : G 11 (60 * s + r) = -1) (g8 : G 8 r = 1) (g9 : G 9 r = G 2 s) (o0 : 0 ≤ q) (o1 : q < F 6) (o8 : G 8 q = 1) (o9 : G 9 q = G 1 s) (hi : G 16 s = -1 ∨ 0 ≤ G 16 s ∧ G 16 s < F 6) : zM l g yX4_insert cX4_insert 6 (Option.none : Option FieldType) ({ frames := 2, cells := 0, slots := 0, locals := 49 } : Room) [.ref (a 0), vi s, vi r, vi q] (mW g a F G rest) (zV fun w => ∃ (G' : Nat → Int → Int) (p : Int), w = mW g a F G' rest ∧ nPl G s r q (Rw s) p ∧ mS F G' (Lup Rw s (zinsl (Rw s) p r)) ∧ G' 11 = zup (G 11) (60 * s + r) q ∧ ∀ k : Nat, k ≠ 11 → k ≠ 12 → k ≠ 13 → G' k = G k) zN 0 0 := by
  have hF0 := h.1
  have hF6 := h.2.1
  have hlen := mS_len h s0 (by omega)
  have hrow := h.2.2.2.2.2 s s0 (by omega)
  refine zM_of (lv0 := [(0, _), (1, _), (2, _), (3, _)]) hst rfl (by decide +kernel) (Nat.le_of_ble_eq_true rfl) rfl (fun x hx hf hn => ?_)
  have loop : ∀ (p : Int) (hp : nPl G s r q (Rw s) p) (m : Nat) (k : Int) (f : Int → Int), p ≤ k → k ≤ G 12 s → G 12 s < 60 → (∀ j : Int, f j = if 60 * s + k < j ∧ j ≤ 60 * s + G 12 s then G 13 (j - 1) else G 13 j) → (k - p).toNat < m → Z l g ({ frames := 2, cells := 0, slots := 0, locals := 49 } : Room) 6 x 0 0 (mW g a F (Gset G 13 f) rest) 17 [(0, .ref (a 0)), (1, vi s), (2, vi r), (3, vi q), (4, vi p), (5, vi k)] [] := by
    intro p hp m
    have hpr := nPl_rng hp
    induction m with
    | zero => intro k f h0 h1 h60 h2 hm; omega
    | succ m ih =>
      intro k f h0 h1 h60 h2 hm
      refine zz_iload hx dX4_insert_17 rfl ?_
      refine zz_iload hx dX4_insert_19 rfl ?_
      refine zz_icmp_le hx 56 dX4_insert_21 rfl (by omega) (by omega) (fun c21 => ?_) (fun c21 => ?_)
      · refine zz_aload_n hx dX4_insert_56 rfl ?_
        refine zm_g13 hx lf_X4_41 dX4_insert_57 ?_
        refine zz_bipush hx dX4_insert_60 rfl ?_
        refine zz_iload_n hx dX4_insert_62 rfl ?_
        refine zz_imul hx dX4_insert_63 ?_
        refine zz_iload hx dX4_insert_64 rfl ?_
        refine zz_iadd hx dX4_insert_66 ?_
        refine zz_iload_n hx dX4_insert_67 rfl ?_
        refine zm_s13 hx dX4_insert_68 (by omega) (by omega) ?_
        refine zz_aload_n hx dX4_insert_69 rfl ?_
        refine zm_g12 hx lf_X4_38 dX4_insert_70 ?_
        refine zz_iload_n hx dX4_insert_73 rfl ?_
        refine zz_dup2 hx dX4_insert_74 rfl rfl ?_
        refine zm_l12 hx dX4_insert_75 (by omega) (by omega) ?_
        refine zz_iconst hx dX4_insert_76 ?_
        refine zz_iadd hx dX4_insert_77 ?_
        simp only [Gup, Gset, reduceIte, Nat.reduceEqDiff]
        refine zm_s12 hx dX4_insert_78 (by omega) (by omega) ?_
        refine zz_aload_n hx dX4_insert_79 rfl ?_
        refine zm_g11 hx lf_X4_35 dX4_insert_80 ?_
        refine zz_bipush hx dX4_insert_83 rfl ?_
        refine zz_iload_n hx dX4_insert_85 rfl ?_
        refine zz_imul hx dX4_insert_86 ?_
        refine zz_iload_n hx dX4_insert_87 rfl ?_
        refine zz_iadd hx dX4_insert_88 ?_
        refine zz_iload_n hx dX4_insert_89 rfl ?_
        refine zm_s11 hx dX4_insert_90 (by omega) (by omega) ?_
        have hkp : k = p := by omega
        have e12 : (Gup (Gup (Gup (Gset G 13 f) 13 (60 * s + p) r) 12 s (G 12 s + 1)) 11 (60 * s + r) q) 12 = zup (G 12) s (G 12 s + 1) := by simp [Gup, Gset]
        have e13 : ∀ j : Int, (Gup (Gup (Gup (Gset G 13 f) 13 (60 * s + p) r) 12 s (G 12 s + 1)) 11 (60 * s + r) q) 13 j = if j = 60 * s + p then r else if 60 * s + p < j ∧ j ≤ 60 * s + G 12 s then G 13 (j - 1) else G 13 j := fun j => by
          simp only [Gup, Gset, reduceIte, Nat.reduceEqDiff, zup]
          by_cases c1 : j = 60 * s + p
          · rw [if_pos c1, if_pos c1]
          · rw [if_neg c1, if_neg c1, h2]
            by_cases c2 : 60 * s + k < j ∧ j ≤ 60 * s + G 12 s
            · rw [if_pos c2, if_pos (by omega)]
            · rw [if_neg c2, if_neg (by omega)]
        have e11 : (Gup (Gup (Gup (Gset G 13 f) 13 (60 * s + p) r) 12 s (G 12 s + 1)) 11 (60 * s + r) q) 11 = zup (G 11) (60 * s + r) q := by simp [Gup, Gset]
        have ek : ∀ k : Nat, k ≠ 11 → k ≠ 12 → k ≠ 13 → (Gup (Gup (Gup (Gset G 13 f) 13 (60 * s + p) r) 12 s (G 12 s + 1)) 11 (60 * s + r) q) k = G k := fun k h1 h2 h3 => by simp [Gup, Gset, h1, h2, h3]
        exact zz_vret hx hf dX4_insert_91 ⟨rfl, _, p, rfl, hp, (mS_ins h s0 s1 r0 r1 hr0 g8 g9 o0 o1 o8 o9 hpr.1 hpr.2 e12 e13 e11 ek).1, e11, ek⟩ (by decide) (by decide)
      · refine zz_aload_n hx dX4_insert_24 rfl ?_
        refine zm_g13 hx lf_X4_41 dX4_insert_25 ?_
        refine zz_bipush hx dX4_insert_28 rfl ?_
        refine zz_iload_n hx dX4_insert_30 rfl ?_
        refine zz_imul hx dX4_insert_31 ?_
        refine zz_iload hx dX4_insert_32 rfl ?_
        refine zz_iadd hx dX4_insert_34 ?_
        refine zz_aload_n hx dX4_insert_35 rfl ?_
        refine zm_g13 hx lf_X4_41 dX4_insert_36 ?_
        refine zz_bipush hx dX4_insert_39 rfl ?_
        refine zz_iload_n hx dX4_insert_41 rfl ?_
        refine zz_imul hx dX4_insert_42 ?_
        refine zz_iload hx dX4_insert_43 rfl ?_
        refine zz_iadd hx dX4_insert_45 ?_
        refine zz_iconst hx dX4_insert_46 ?_
        refine zz_isub hx dX4_insert_47 ?_
        refine zm_l13 hx dX4_insert_48 (by omega) (by omega) ?_
        simp only [Gset, reduceIte, Nat.reduceEqDiff]
        refine zm_s13 hx dX4_insert_49 (by omega) (by omega) ?_
        refine zz_iinc (lv' := [(0, _), (1, _), (2, _), (3, _), (4, _), (5, _)]) hx dX4_insert_50 (by decide) rfl rfl ?_
        refine zz_goto hx 17 dX4_insert_53 rfl ?_
        rw [Gup_eq, Gset_Gset, Gset_s]
        refine ih (k + -1) _ (by omega) (by omega) h60 (fun j => ?_) (by omega)
        by_cases cj : j = 60 * s + k
        · subst cj
          rw [zup_s, if_pos (by omega), h2, if_neg (by omega)]
        · rw [zup_n _ _ cj, h2]
          by_cases c2 : 60 * s + k < j ∧ j ≤ 60 * s + G 12 s
          · rw [if_pos c2, if_pos (by omega)]
          · rw [if_neg c2, if_neg (by omega)]
  refine zz_aload_n hx dX4_insert_0 rfl ?_
  refine zz_iload_n hx dX4_insert_1 rfl ?_
  refine zz_iload_n hx dX4_insert_2 rfl ?_
  refine zz_iload_n hx dX4_insert_3 rfl ?_
  refine zz_callVi hx me_X4_newPlace lk_X4_81 (c_newPlace hst h _ _ _ (by omega) (by omega) (by omega) (by omega) (by omega) (by omega) (by omega)) 0 rfl rfl ⟨rfl, rfl⟩ (by decide) (by decide) rfl rfl (Nat.le_of_ble_eq_true rfl) dX4_insert_4 (fun _ _ h => h.elim) (fun r4 w4 hp4 => ?_)
  obtain ⟨hp, rfl⟩ := hp4
  have hpr := nPl_rng hp
  refine zz_istore (lv' := [(0, _), (1, _), (2, _), (3, _), (4, _)]) hx dX4_insert_7 (by decide) rfl ?_
  refine zz_aload_n hx dX4_insert_9 rfl ?_
  refine zm_g12 hx lf_X4_38 dX4_insert_10 ?_
  refine zz_iload_n hx dX4_insert_13 rfl ?_
  refine zm_l12 hx dX4_insert_14 (by omega) (by omega) ?_
  refine zz_istore (lv' := [(0, _), (1, _), (2, _), (3, _), (4, _), (5, _)]) hx dX4_insert_15 (by decide) rfl ?_
  have h60 := mS_len_ins h s0 s1 r0 r1 hr0
  rw [← Gset_id G 13]
  exact loop r4 hp ((G 12 s - r4).toNat + 1) (G 12 s) (G 13) (by omega) (by omega) h60 (fun j => by rw [if_neg (by omega)]) (by omega)
end
section
set_option maxHeartbeats 4000000 in
set_option maxRecDepth 100000 in
theorem c_membersOf {l : Launch} {g : zG} {a : Nat → Nat} {F : Nat → Int} {G : Nat → Int → Int} {rest : va_W} (hst : l.stackTraces = false) {Rw : Int → List Int} (h : mS F G Rw) (s q : Int) (s0 : 0 ≤ s) (s1 : s < F 0) (hq : -1 ≤ q ∧ q < 60) : zM l g yX4_membersOf cX4_membersOf 5 (Option.some FieldType.int) ({ frames := 1, cells := 0, slots := 0, locals := 22 } : Room) [.ref (a 0), vi s, vi q] (mW g a F G rest) (zI fun v w => v = ((zmem G s q (Rw s)).length : Int) ∧ w = mW g a F G rest) zN 0 0 := by
  have hF0 := h.1
  have hF6 := h.2.1
  have hlen := mS_len h s0 (by omega)
  have hrow := h.2.2.2.2.2 s s0 (by omega)
  refine zM_of (lv0 := [(0, _), (1, _), (2, _)]) hst rfl (by decide +kernel) (Nat.le_of_ble_eq_true rfl) rfl (fun x hx hf hn => ?_)
  have loop : ∀ (m : Nat) (k : Int), 0 ≤ k → k ≤ G 12 s → (G 12 s - k).toNat < m → Z l g ({ frames := 1, cells := 0, slots := 0, locals := 22 } : Room) 5 x 0 0 (mW g a F G rest) 5 [(0, .ref (a 0)), (1, vi s), (2, vi q), (3, vi ((((Rw s).take k.toNat).filter (fun r => decide (G 11 (60 * s + r) = q))).length : Int)), (4, vi k)] [] := by
    intro m
    induction m with
    | zero => intro k h0 h1 hm; omega
    | succ m ih =>
      intro k h0 h1 hm
      have hts := fun (z : k < G 12 s) => take_step (l := Rw s) h0 (by omega) (fun r => decide (G 11 (60 * s + r) = q))
      refine zz_iload hx dX4_membersOf_5 rfl ?_
      refine zz_aload_n hx dX4_membersOf_7 rfl ?_
      refine zm_g12 hx lf_X4_38 dX4_membersOf_8 ?_
      refine zz_iload_n hx dX4_membersOf_11 rfl ?_
      refine zm_l12 hx dX4_membersOf_12 (by omega) (by omega) ?_
      refine zz_icmp_ge hx 51 dX4_membersOf_13 rfl (by omega) (by omega) (fun c13 => ?_) (fun c13 => ?_)
      · refine zz_iload_n hx dX4_membersOf_51 rfl ?_
        exact zz_iret hx hf dX4_membersOf_52 ⟨_, rfl, by rw [take_all (by omega)]; rfl, rfl⟩ (by decide) (by decide)
      · have hk := mS_at h s0 (by omega) h0 (show k < G 12 s by omega)
        have hok := h.2.2.2.2.1 s (zat (Rw s) k) (by omega) (by omega) (by omega) (by omega)
        refine zz_iload_n hx dX4_membersOf_16 rfl ?_
        refine zz_aload_n hx dX4_membersOf_17 rfl ?_
        refine zz_iload_n hx dX4_membersOf_18 rfl ?_
        refine zz_aload_n hx dX4_membersOf_19 rfl ?_
        refine zm_g13 hx lf_X4_41 dX4_membersOf_20 ?_
        refine zz_bipush hx dX4_membersOf_23 rfl ?_
        refine zz_iload_n hx dX4_membersOf_25 rfl ?_
        refine zz_imul hx dX4_membersOf_26 ?_
        refine zz_iload hx dX4_membersOf_27 rfl ?_
        refine zz_iadd hx dX4_membersOf_29 ?_
        refine zm_l13 hx dX4_membersOf_30 (by omega) (by omega) ?_
        rw [hk.1]
        refine zz_callVi hx me_X4_ownerIn lk_X4_78 (c_ownerIn hst _ _ (by omega) (by omega) (by omega) (by omega)) 0 rfl rfl ⟨rfl, rfl⟩ (by decide) (by decide) rfl rfl (Nat.le_of_ble_eq_true rfl) dX4_membersOf_31 (fun _ _ h => h.elim) (fun r31 w31 hp31 => ?_)
        obtain ⟨rfl, rfl⟩ := hp31
        refine zz_iload_n hx dX4_membersOf_34 rfl ?_
        refine zz_icmp_ne hx 42 dX4_membersOf_35 rfl (by omega) (by omega) (fun c35 => ?_) (fun c35 => ?_)
        · refine zz_iconst hx dX4_membersOf_42 ?_
          refine zz_iadd hx dX4_membersOf_43 ?_
          refine zz_istore_n (lv' := [(0, _), (1, _), (2, _), (3, _), (4, _)]) hx dX4_membersOf_44 (by decide) rfl ?_
          refine zz_iinc (lv' := [(0, _), (1, _), (2, _), (3, _), (4, _)]) hx dX4_membersOf_45 (by decide) rfl rfl ?_
          refine zz_goto hx 5 dX4_membersOf_48 rfl ?_
          have hn := hts (by omega)
          first | rw [if_pos (by rw [decide_eq_true_eq]; omega)] at hn | rw [if_neg (by rw [decide_eq_true_eq]; omega)] at hn
          have hn2 := congrArg (fun (z : List Int) => (z.length : Int)) hn
          simp only [List.length_append, List.length_singleton, List.length_nil] at hn2
          refine zz_sub (lv' := [(0, .ref (a 0)), (1, vi s), (2, vi q), (3, _), (4, vi (k + 1))]) ?_ (ih (k + 1) (by omega) (by omega) (by omega))
          rw [hn2]
          exact fun z hz => hz
        · refine zz_iconst hx dX4_membersOf_38 ?_
          refine zz_goto hx 43 dX4_membersOf_39 rfl ?_
          refine zz_iadd hx dX4_membersOf_43 ?_
          refine zz_istore_n (lv' := [(0, _), (1, _), (2, _), (3, _), (4, _)]) hx dX4_membersOf_44 (by decide) rfl ?_
          refine zz_iinc (lv' := [(0, _), (1, _), (2, _), (3, _), (4, _)]) hx dX4_membersOf_45 (by decide) rfl rfl ?_
          refine zz_goto hx 5 dX4_membersOf_48 rfl ?_
          have hn := hts (by omega)
          first | rw [if_pos (by rw [decide_eq_true_eq]; omega)] at hn | rw [if_neg (by rw [decide_eq_true_eq]; omega)] at hn
          have hn2 := congrArg (fun (z : List Int) => (z.length : Int)) hn
          simp only [List.length_append, List.length_singleton, List.length_nil] at hn2
          refine zz_sub (lv' := [(0, .ref (a 0)), (1, vi s), (2, vi q), (3, _), (4, vi (k + 1))]) ?_ (ih (k + 1) (by omega) (by omega) (by omega))
          rw [hn2]
          exact fun z hz => hz
  refine zz_iconst hx dX4_membersOf_0 ?_
  refine zz_istore_n (lv' := [(0, _), (1, _), (2, _), (3, _)]) hx dX4_membersOf_1 (by decide) rfl ?_
  refine zz_iconst hx dX4_membersOf_2 ?_
  refine zz_istore (lv' := [(0, _), (1, _), (2, _), (3, _), (4, _)]) hx dX4_membersOf_3 (by decide) rfl ?_
  exact loop ((G 12 s).toNat + 1) 0 (by omega) (by omega) (by omega)

set_option maxHeartbeats 4000000 in
set_option maxRecDepth 100000 in
theorem c_memberOf {l : Launch} {g : zG} {a : Nat → Nat} {F : Nat → Int} {G : Nat → Int → Int} {rest : va_W} (hst : l.stackTraces = false) {Rw : Int → List Int} (h : mS F G Rw) (s q d : Int) (s0 : 0 ≤ s) (s1 : s < F 0) (hq : -1 ≤ q ∧ q < 60) (hd0 : -1000 ≤ d ∧ d ≤ 1000) : zM l g yX4_memberOf cX4_memberOf 8 (Option.some FieldType.int) ({ frames := 1, cells := 0, slots := 0, locals := 22 } : Room) [.ref (a 0), vi s, vi q, vi d] (mW g a F G rest) (zI fun v w => v = (if 0 ≤ d then zat (zmem G s q (Rw s)) d else -1) ∧ w = mW g a F G rest) zN 0 0 := by
  have hF0 := h.1
  have hF6 := h.2.1
  have hlen := mS_len h s0 (by omega)
  have hrow := h.2.2.2.2.2 s s0 (by omega)
  refine zM_of (lv0 := [(0, _), (1, _), (2, _), (3, _)]) hst rfl (by decide +kernel) (Nat.le_of_ble_eq_true rfl) rfl (fun x hx hf hn => ?_)
  have hfin : ∀ k : Int, 0 ≤ k → k < G 12 s → G 11 (60 * s + zat (Rw s) k) = q → zat (zmem G s q (Rw s)) ((((Rw s).take k.toNat).filter (fun r => decide (G 11 (60 * s + r) = q))).length : Int) = zat (Rw s) k := fun k k0 k1 e => filter_at k0 (by omega) (by rw [decide_eq_true_eq]; exact e)
  have fin : ∀ u v k : Int, 0 ≤ k → k ≤ G 12 s → 0 ≤ v ∧ v < 60 → v = (if 0 ≤ d then zat (zmem G s q (Rw s)) d else -1) → Z l g ({ frames := 1, cells := 0, slots := 0, locals := 22 } : Room) 8 x 0 0 (mW g a F G rest) 9 [(0, .ref (a 0)), (1, vi s), (2, vi q), (3, vi d), (4, vi u), (5, vi v), (6, vi k)] [] := by
    intro u v k h0 h1 h2 hv
    refine zz_iload hx dX4_memberOf_9 rfl ?_
    refine zz_aload_n hx dX4_memberOf_11 rfl ?_
    refine zm_g12 hx lf_X4_38 dX4_memberOf_12 ?_
    refine zz_iload_n hx dX4_memberOf_15 rfl ?_
    refine zm_l12 hx dX4_memberOf_16 (by omega) (by omega) ?_
    refine zz_icmp_ge hx 91 dX4_memberOf_17 rfl (by omega) (by omega) (fun c17 => ?_) (fun c17 => ?_)
    · refine zz_iload hx dX4_memberOf_91 rfl ?_
      exact zz_iret hx hf dX4_memberOf_93 ⟨_, rfl, hv, rfl⟩ (by decide) (by decide)
    · refine zz_iload hx dX4_memberOf_20 rfl ?_
      refine zz_iconst hx dX4_memberOf_22 ?_
      refine zz_icmp_ne hx 91 dX4_memberOf_23 rfl (by omega) (by omega) (fun c23 => ?_) (fun c23 => ?_)
      · refine zz_iload hx dX4_memberOf_91 rfl ?_
        exact zz_iret hx hf dX4_memberOf_93 ⟨_, rfl, hv, rfl⟩ (by decide) (by decide)
      · exfalso; omega
  have loop : ∀ (m : Nat) (k : Int), 0 ≤ k → k ≤ G 12 s → (0 ≤ d → ((((Rw s).take k.toNat).filter (fun r => decide (G 11 (60 * s + r) = q))).length : Int) ≤ d) → (G 12 s - k).toNat < m → Z l g ({ frames := 1, cells := 0, slots := 0, locals := 22 } : Room) 8 x 0 0 (mW g a F G rest) 9 [(0, .ref (a 0)), (1, vi s), (2, vi q), (3, vi d), (4, vi (d - ((((Rw s).take k.toNat).filter (fun r => decide (G 11 (60 * s + r) = q))).length : Int))), (5, vi (-1)), (6, vi k)] [] := by
    intro m
    induction m with
    | zero => intro k h0 h1 h2 hm; omega
    | succ m ih =>
      intro k h0 h1 h2 hm
      have hts := fun (z : k < G 12 s) => take_step (l := Rw s) h0 (by omega) (fun r => decide (G 11 (60 * s + r) = q))
      have hle : ((((Rw s).take k.toNat).filter (fun r => decide (G 11 (60 * s + r) = q))).length : Int) ≤ 60 := by
        have b1 := List.length_filter_le (fun r => decide (G 11 (60 * s + r) = q)) ((Rw s).take k.toNat)
        have b2 := List.length_take_le k.toNat (Rw s)
        omega
      refine zz_iload hx dX4_memberOf_9 rfl ?_
      refine zz_aload_n hx dX4_memberOf_11 rfl ?_
      refine zm_g12 hx lf_X4_38 dX4_memberOf_12 ?_
      refine zz_iload_n hx dX4_memberOf_15 rfl ?_
      refine zm_l12 hx dX4_memberOf_16 (by omega) (by omega) ?_
      refine zz_icmp_ge hx 91 dX4_memberOf_17 rfl (by omega) (by omega) (fun c17 => ?_) (fun c17 => ?_)
      · refine zz_iload hx dX4_memberOf_91 rfl ?_
        exact zz_iret hx hf dX4_memberOf_93 ⟨_, rfl, by rw [take_all (by omega)] at h2; rcases Int.lt_or_le d 0 with z | z; (rw [if_neg (by omega)]); (rw [if_pos z]; exact (zat_ge (h2 z)).symm), rfl⟩ (by decide) (by decide)
      · refine zz_iload hx dX4_memberOf_20 rfl ?_
        refine zz_iconst hx dX4_memberOf_22 ?_
        refine zz_icmp_ne hx 91 dX4_memberOf_23 rfl (by omega) (by omega) (fun c23 => ?_) (fun c23 => ?_)
        · exfalso; omega
        · have hk := mS_at h s0 (by omega) h0 (show k < G 12 s by omega)
          have hok := h.2.2.2.2.1 s (zat (Rw s) k) (by omega) (by omega) (by omega) (by omega)
          refine zz_aload_n hx dX4_memberOf_26 rfl ?_
          refine zm_g13 hx lf_X4_41 dX4_memberOf_27 ?_
          refine zz_bipush hx dX4_memberOf_30 rfl ?_
          refine zz_iload_n hx dX4_memberOf_32 rfl ?_
          refine zz_imul hx dX4_memberOf_33 ?_
          refine zz_iload hx dX4_memberOf_34 rfl ?_
          refine zz_iadd hx dX4_memberOf_36 ?_
          refine zm_l13 hx dX4_memberOf_37 (by omega) (by omega) ?_
          rw [hk.1]
          refine zz_istore (lv' := [(0, _), (1, _), (2, _), (3, _), (4, _), (5, _), (6, _), (7, _)]) hx dX4_memberOf_38 (by decide) rfl ?_
          refine zz_aload_n hx dX4_memberOf_40 rfl ?_
          refine zz_iload_n hx dX4_memberOf_41 rfl ?_
          refine zz_iload hx dX4_memberOf_42 rfl ?_
          refine zz_callVi hx me_X4_ownerIn lk_X4_78 (c_ownerIn hst _ _ (by omega) (by omega) (by omega) (by omega)) 0 rfl rfl ⟨rfl, rfl⟩ (by decide) (by decide) rfl rfl (Nat.le_of_ble_eq_true rfl) dX4_memberOf_44 (fun _ _ h => h.elim) (fun r44 w44 hp44 => ?_)
          obtain ⟨rfl, rfl⟩ := hp44
          refine zz_iload_n hx dX4_memberOf_47 rfl ?_
          refine zz_icmp_ne hx 61 dX4_memberOf_48 rfl (by omega) (by omega) (fun c48 => ?_) (fun c48 => ?_)
          · refine zz_iconst hx dX4_memberOf_61 ?_
            refine zz_istore (lv' := [(0, _), (1, _), (2, _), (3, _), (4, _), (5, _), (6, _), (7, _)]) hx dX4_memberOf_62 (by decide) rfl ?_
            refine zz_iload hx dX4_memberOf_64 rfl ?_
            refine zz_aload_n hx dX4_memberOf_66 rfl ?_
            refine zz_iload_n hx dX4_memberOf_67 rfl ?_
            refine zz_iload hx dX4_memberOf_68 rfl ?_
            refine zz_callVi hx me_X4_ownerIn lk_X4_78 (c_ownerIn hst _ _ (by omega) (by omega) (by omega) (by omega)) 0 rfl rfl ⟨rfl, rfl⟩ (by decide) (by decide) rfl rfl (Nat.le_of_ble_eq_true rfl) dX4_memberOf_70 (fun _ _ h => h.elim) (fun r70 w70 hp70 => ?_)
            obtain ⟨rfl, rfl⟩ := hp70
            refine zz_iload_n hx dX4_memberOf_73 rfl ?_
            refine zz_icmp_ne hx 81 dX4_memberOf_74 rfl (by omega) (by omega) (fun c74 => ?_) (fun c74 => ?_)
            · refine zz_iconst hx dX4_memberOf_81 ?_
              refine zz_isub hx dX4_memberOf_82 ?_
              refine zz_istore (lv' := [(0, _), (1, _), (2, _), (3, _), (4, _), (5, _), (6, _), (7, _)]) hx dX4_memberOf_83 (by decide) rfl ?_
              refine zz_iinc (lv' := [(0, _), (1, _), (2, _), (3, _), (4, _), (5, _), (6, _), (7, _)]) hx dX4_memberOf_85 (by decide) rfl rfl ?_
              refine zz_goto hx 9 dX4_memberOf_88 rfl ?_
              first
                | (exfalso; omega)
                | exact zz_sub (lv' := [(0, _), (1, _), (2, _), (3, _), (4, _), (5, _), (6, _)]) (fun z hz => List.mem_append_left [(7, _)] hz) (fin _ _ _ (by omega) (by omega) (by omega) (by rw [if_pos (by omega), show d = ((((Rw s).take k.toNat).filter (fun r => decide (G 11 (60 * s + r) = q))).length : Int) by omega]; exact (hfin k h0 (by omega) (by omega)).symm))
                | (have hn := hts (by omega)
                   first | rw [if_pos (by rw [decide_eq_true_eq]; omega)] at hn | rw [if_neg (by rw [decide_eq_true_eq]; omega)] at hn
                   have hn2 := congrArg (fun (z : List Int) => (z.length : Int)) hn
                   simp only [List.length_append, List.length_singleton, List.length_nil] at hn2
                   refine zz_sub (lv' := [(0, .ref (a 0)), (1, vi s), (2, vi q), (3, vi d), (4, vi (d - ((((Rw s).take (k + 1).toNat).filter (fun r => decide (G 11 (60 * s + r) = q))).length : Int))), (5, vi (-1)), (6, vi (k + 1))]) ?_ (ih (k + 1) (by omega) (by omega) (by omega) (by omega))
                   first | rw [show d - ((((Rw s).take (k + 1).toNat).filter (fun r => decide (G 11 (60 * s + r) = q))).length : Int) = d - ((((Rw s).take k.toNat).filter (fun r => decide (G 11 (60 * s + r) = q))).length : Int) - 1 by omega] | rw [show d - ((((Rw s).take (k + 1).toNat).filter (fun r => decide (G 11 (60 * s + r) = q))).length : Int) = d - ((((Rw s).take k.toNat).filter (fun r => decide (G 11 (60 * s + r) = q))).length : Int) - 0 by omega]
                   exact fun z hz => List.mem_append_left [(7, _)] hz)
            · refine zz_iconst hx dX4_memberOf_77 ?_
              refine zz_goto hx 82 dX4_memberOf_78 rfl ?_
              refine zz_isub hx dX4_memberOf_82 ?_
              refine zz_istore (lv' := [(0, _), (1, _), (2, _), (3, _), (4, _), (5, _), (6, _), (7, _)]) hx dX4_memberOf_83 (by decide) rfl ?_
              refine zz_iinc (lv' := [(0, _), (1, _), (2, _), (3, _), (4, _), (5, _), (6, _), (7, _)]) hx dX4_memberOf_85 (by decide) rfl rfl ?_
              refine zz_goto hx 9 dX4_memberOf_88 rfl ?_
              first
                | (exfalso; omega)
                | exact zz_sub (lv' := [(0, _), (1, _), (2, _), (3, _), (4, _), (5, _), (6, _)]) (fun z hz => List.mem_append_left [(7, _)] hz) (fin _ _ _ (by omega) (by omega) (by omega) (by rw [if_pos (by omega), show d = ((((Rw s).take k.toNat).filter (fun r => decide (G 11 (60 * s + r) = q))).length : Int) by omega]; exact (hfin k h0 (by omega) (by omega)).symm))
                | (have hn := hts (by omega)
                   first | rw [if_pos (by rw [decide_eq_true_eq]; omega)] at hn | rw [if_neg (by rw [decide_eq_true_eq]; omega)] at hn
                   have hn2 := congrArg (fun (z : List Int) => (z.length : Int)) hn
                   simp only [List.length_append, List.length_singleton, List.length_nil] at hn2
                   refine zz_sub (lv' := [(0, .ref (a 0)), (1, vi s), (2, vi q), (3, vi d), (4, vi (d - ((((Rw s).take (k + 1).toNat).filter (fun r => decide (G 11 (60 * s + r) = q))).length : Int))), (5, vi (-1)), (6, vi (k + 1))]) ?_ (ih (k + 1) (by omega) (by omega) (by omega) (by omega))
                   first | rw [show d - ((((Rw s).take (k + 1).toNat).filter (fun r => decide (G 11 (60 * s + r) = q))).length : Int) = d - ((((Rw s).take k.toNat).filter (fun r => decide (G 11 (60 * s + r) = q))).length : Int) - 1 by omega] | rw [show d - ((((Rw s).take (k + 1).toNat).filter (fun r => decide (G 11 (60 * s + r) = q))).length : Int) = d - ((((Rw s).take k.toNat).filter (fun r => decide (G 11 (60 * s + r) = q))).length : Int) - 0 by omega]
                   exact fun z hz => List.mem_append_left [(7, _)] hz)
          · refine zz_iload hx dX4_memberOf_51 rfl ?_
            refine zz_if_ne hx 61 dX4_memberOf_53 rfl (by omega) (fun c53 => ?_) (fun c53 => ?_)
            · refine zz_iconst hx dX4_memberOf_61 ?_
              refine zz_istore (lv' := [(0, _), (1, _), (2, _), (3, _), (4, _), (5, _), (6, _), (7, _)]) hx dX4_memberOf_62 (by decide) rfl ?_
              refine zz_iload hx dX4_memberOf_64 rfl ?_
              refine zz_aload_n hx dX4_memberOf_66 rfl ?_
              refine zz_iload_n hx dX4_memberOf_67 rfl ?_
              refine zz_iload hx dX4_memberOf_68 rfl ?_
              refine zz_callVi hx me_X4_ownerIn lk_X4_78 (c_ownerIn hst _ _ (by omega) (by omega) (by omega) (by omega)) 0 rfl rfl ⟨rfl, rfl⟩ (by decide) (by decide) rfl rfl (Nat.le_of_ble_eq_true rfl) dX4_memberOf_70 (fun _ _ h => h.elim) (fun r70 w70 hp70 => ?_)
              obtain ⟨rfl, rfl⟩ := hp70
              refine zz_iload_n hx dX4_memberOf_73 rfl ?_
              refine zz_icmp_ne hx 81 dX4_memberOf_74 rfl (by omega) (by omega) (fun c74 => ?_) (fun c74 => ?_)
              · refine zz_iconst hx dX4_memberOf_81 ?_
                refine zz_isub hx dX4_memberOf_82 ?_
                refine zz_istore (lv' := [(0, _), (1, _), (2, _), (3, _), (4, _), (5, _), (6, _), (7, _)]) hx dX4_memberOf_83 (by decide) rfl ?_
                refine zz_iinc (lv' := [(0, _), (1, _), (2, _), (3, _), (4, _), (5, _), (6, _), (7, _)]) hx dX4_memberOf_85 (by decide) rfl rfl ?_
                refine zz_goto hx 9 dX4_memberOf_88 rfl ?_
                first
                  | (exfalso; omega)
                  | exact zz_sub (lv' := [(0, _), (1, _), (2, _), (3, _), (4, _), (5, _), (6, _)]) (fun z hz => List.mem_append_left [(7, _)] hz) (fin _ _ _ (by omega) (by omega) (by omega) (by rw [if_pos (by omega), show d = ((((Rw s).take k.toNat).filter (fun r => decide (G 11 (60 * s + r) = q))).length : Int) by omega]; exact (hfin k h0 (by omega) (by omega)).symm))
                  | (have hn := hts (by omega)
                     first | rw [if_pos (by rw [decide_eq_true_eq]; omega)] at hn | rw [if_neg (by rw [decide_eq_true_eq]; omega)] at hn
                     have hn2 := congrArg (fun (z : List Int) => (z.length : Int)) hn
                     simp only [List.length_append, List.length_singleton, List.length_nil] at hn2
                     refine zz_sub (lv' := [(0, .ref (a 0)), (1, vi s), (2, vi q), (3, vi d), (4, vi (d - ((((Rw s).take (k + 1).toNat).filter (fun r => decide (G 11 (60 * s + r) = q))).length : Int))), (5, vi (-1)), (6, vi (k + 1))]) ?_ (ih (k + 1) (by omega) (by omega) (by omega) (by omega))
                     first | rw [show d - ((((Rw s).take (k + 1).toNat).filter (fun r => decide (G 11 (60 * s + r) = q))).length : Int) = d - ((((Rw s).take k.toNat).filter (fun r => decide (G 11 (60 * s + r) = q))).length : Int) - 1 by omega] | rw [show d - ((((Rw s).take (k + 1).toNat).filter (fun r => decide (G 11 (60 * s + r) = q))).length : Int) = d - ((((Rw s).take k.toNat).filter (fun r => decide (G 11 (60 * s + r) = q))).length : Int) - 0 by omega]
                     exact fun z hz => List.mem_append_left [(7, _)] hz)
              · refine zz_iconst hx dX4_memberOf_77 ?_
                refine zz_goto hx 82 dX4_memberOf_78 rfl ?_
                refine zz_isub hx dX4_memberOf_82 ?_
                refine zz_istore (lv' := [(0, _), (1, _), (2, _), (3, _), (4, _), (5, _), (6, _), (7, _)]) hx dX4_memberOf_83 (by decide) rfl ?_
                refine zz_iinc (lv' := [(0, _), (1, _), (2, _), (3, _), (4, _), (5, _), (6, _), (7, _)]) hx dX4_memberOf_85 (by decide) rfl rfl ?_
                refine zz_goto hx 9 dX4_memberOf_88 rfl ?_
                first
                  | (exfalso; omega)
                  | exact zz_sub (lv' := [(0, _), (1, _), (2, _), (3, _), (4, _), (5, _), (6, _)]) (fun z hz => List.mem_append_left [(7, _)] hz) (fin _ _ _ (by omega) (by omega) (by omega) (by rw [if_pos (by omega), show d = ((((Rw s).take k.toNat).filter (fun r => decide (G 11 (60 * s + r) = q))).length : Int) by omega]; exact (hfin k h0 (by omega) (by omega)).symm))
                  | (have hn := hts (by omega)
                     first | rw [if_pos (by rw [decide_eq_true_eq]; omega)] at hn | rw [if_neg (by rw [decide_eq_true_eq]; omega)] at hn
                     have hn2 := congrArg (fun (z : List Int) => (z.length : Int)) hn
                     simp only [List.length_append, List.length_singleton, List.length_nil] at hn2
                     refine zz_sub (lv' := [(0, .ref (a 0)), (1, vi s), (2, vi q), (3, vi d), (4, vi (d - ((((Rw s).take (k + 1).toNat).filter (fun r => decide (G 11 (60 * s + r) = q))).length : Int))), (5, vi (-1)), (6, vi (k + 1))]) ?_ (ih (k + 1) (by omega) (by omega) (by omega) (by omega))
                     first | rw [show d - ((((Rw s).take (k + 1).toNat).filter (fun r => decide (G 11 (60 * s + r) = q))).length : Int) = d - ((((Rw s).take k.toNat).filter (fun r => decide (G 11 (60 * s + r) = q))).length : Int) - 1 by omega] | rw [show d - ((((Rw s).take (k + 1).toNat).filter (fun r => decide (G 11 (60 * s + r) = q))).length : Int) = d - ((((Rw s).take k.toNat).filter (fun r => decide (G 11 (60 * s + r) = q))).length : Int) - 0 by omega]
                     exact fun z hz => List.mem_append_left [(7, _)] hz)
            · refine zz_iload hx dX4_memberOf_56 rfl ?_
              refine zz_goto hx 62 dX4_memberOf_58 rfl ?_
              refine zz_istore (lv' := [(0, _), (1, _), (2, _), (3, _), (4, _), (5, _), (6, _), (7, _)]) hx dX4_memberOf_62 (by decide) rfl ?_
              refine zz_iload hx dX4_memberOf_64 rfl ?_
              refine zz_aload_n hx dX4_memberOf_66 rfl ?_
              refine zz_iload_n hx dX4_memberOf_67 rfl ?_
              refine zz_iload hx dX4_memberOf_68 rfl ?_
              refine zz_callVi hx me_X4_ownerIn lk_X4_78 (c_ownerIn hst _ _ (by omega) (by omega) (by omega) (by omega)) 0 rfl rfl ⟨rfl, rfl⟩ (by decide) (by decide) rfl rfl (Nat.le_of_ble_eq_true rfl) dX4_memberOf_70 (fun _ _ h => h.elim) (fun r70 w70 hp70 => ?_)
              obtain ⟨rfl, rfl⟩ := hp70
              refine zz_iload_n hx dX4_memberOf_73 rfl ?_
              refine zz_icmp_ne hx 81 dX4_memberOf_74 rfl (by omega) (by omega) (fun c74 => ?_) (fun c74 => ?_)
              · refine zz_iconst hx dX4_memberOf_81 ?_
                refine zz_isub hx dX4_memberOf_82 ?_
                refine zz_istore (lv' := [(0, _), (1, _), (2, _), (3, _), (4, _), (5, _), (6, _), (7, _)]) hx dX4_memberOf_83 (by decide) rfl ?_
                refine zz_iinc (lv' := [(0, _), (1, _), (2, _), (3, _), (4, _), (5, _), (6, _), (7, _)]) hx dX4_memberOf_85 (by decide) rfl rfl ?_
                refine zz_goto hx 9 dX4_memberOf_88 rfl ?_
                first
                  | (exfalso; omega)
                  | exact zz_sub (lv' := [(0, _), (1, _), (2, _), (3, _), (4, _), (5, _), (6, _)]) (fun z hz => List.mem_append_left [(7, _)] hz) (fin _ _ _ (by omega) (by omega) (by omega) (by rw [if_pos (by omega), show d = ((((Rw s).take k.toNat).filter (fun r => decide (G 11 (60 * s + r) = q))).length : Int) by omega]; exact (hfin k h0 (by omega) (by omega)).symm))
                  | (have hn := hts (by omega)
                     first | rw [if_pos (by rw [decide_eq_true_eq]; omega)] at hn | rw [if_neg (by rw [decide_eq_true_eq]; omega)] at hn
                     have hn2 := congrArg (fun (z : List Int) => (z.length : Int)) hn
                     simp only [List.length_append, List.length_singleton, List.length_nil] at hn2
                     refine zz_sub (lv' := [(0, .ref (a 0)), (1, vi s), (2, vi q), (3, vi d), (4, vi (d - ((((Rw s).take (k + 1).toNat).filter (fun r => decide (G 11 (60 * s + r) = q))).length : Int))), (5, vi (-1)), (6, vi (k + 1))]) ?_ (ih (k + 1) (by omega) (by omega) (by omega) (by omega))
                     first | rw [show d - ((((Rw s).take (k + 1).toNat).filter (fun r => decide (G 11 (60 * s + r) = q))).length : Int) = d - ((((Rw s).take k.toNat).filter (fun r => decide (G 11 (60 * s + r) = q))).length : Int) - 1 by omega] | rw [show d - ((((Rw s).take (k + 1).toNat).filter (fun r => decide (G 11 (60 * s + r) = q))).length : Int) = d - ((((Rw s).take k.toNat).filter (fun r => decide (G 11 (60 * s + r) = q))).length : Int) - 0 by omega]
                     exact fun z hz => List.mem_append_left [(7, _)] hz)
              · refine zz_iconst hx dX4_memberOf_77 ?_
                refine zz_goto hx 82 dX4_memberOf_78 rfl ?_
                refine zz_isub hx dX4_memberOf_82 ?_
                refine zz_istore (lv' := [(0, _), (1, _), (2, _), (3, _), (4, _), (5, _), (6, _), (7, _)]) hx dX4_memberOf_83 (by decide) rfl ?_
                refine zz_iinc (lv' := [(0, _), (1, _), (2, _), (3, _), (4, _), (5, _), (6, _), (7, _)]) hx dX4_memberOf_85 (by decide) rfl rfl ?_
                refine zz_goto hx 9 dX4_memberOf_88 rfl ?_
                first
                  | (exfalso; omega)
                  | exact zz_sub (lv' := [(0, _), (1, _), (2, _), (3, _), (4, _), (5, _), (6, _)]) (fun z hz => List.mem_append_left [(7, _)] hz) (fin _ _ _ (by omega) (by omega) (by omega) (by rw [if_pos (by omega), show d = ((((Rw s).take k.toNat).filter (fun r => decide (G 11 (60 * s + r) = q))).length : Int) by omega]; exact (hfin k h0 (by omega) (by omega)).symm))
                  | (have hn := hts (by omega)
                     first | rw [if_pos (by rw [decide_eq_true_eq]; omega)] at hn | rw [if_neg (by rw [decide_eq_true_eq]; omega)] at hn
                     have hn2 := congrArg (fun (z : List Int) => (z.length : Int)) hn
                     simp only [List.length_append, List.length_singleton, List.length_nil] at hn2
                     refine zz_sub (lv' := [(0, .ref (a 0)), (1, vi s), (2, vi q), (3, vi d), (4, vi (d - ((((Rw s).take (k + 1).toNat).filter (fun r => decide (G 11 (60 * s + r) = q))).length : Int))), (5, vi (-1)), (6, vi (k + 1))]) ?_ (ih (k + 1) (by omega) (by omega) (by omega) (by omega))
                     first | rw [show d - ((((Rw s).take (k + 1).toNat).filter (fun r => decide (G 11 (60 * s + r) = q))).length : Int) = d - ((((Rw s).take k.toNat).filter (fun r => decide (G 11 (60 * s + r) = q))).length : Int) - 1 by omega] | rw [show d - ((((Rw s).take (k + 1).toNat).filter (fun r => decide (G 11 (60 * s + r) = q))).length : Int) = d - ((((Rw s).take k.toNat).filter (fun r => decide (G 11 (60 * s + r) = q))).length : Int) - 0 by omega]
                     exact fun z hz => List.mem_append_left [(7, _)] hz)
  refine zz_iload_n hx dX4_memberOf_0 rfl ?_
  refine zz_istore (lv' := [(0, _), (1, _), (2, _), (3, _), (4, _)]) hx dX4_memberOf_1 (by decide) rfl ?_
  refine zz_iconst hx dX4_memberOf_3 ?_
  refine zz_istore (lv' := [(0, _), (1, _), (2, _), (3, _), (4, _), (5, _)]) hx dX4_memberOf_4 (by decide) rfl ?_
  refine zz_iconst hx dX4_memberOf_6 ?_
  refine zz_istore (lv' := [(0, _), (1, _), (2, _), (3, _), (4, _), (5, _), (6, _)]) hx dX4_memberOf_7 (by decide) rfl ?_
  refine zz_sub (lv' := [(0, .ref (a 0)), (1, vi s), (2, vi q), (3, vi d), (4, vi (d - ((((Rw s).take (0 : Int).toNat).filter (fun r => decide (G 11 (60 * s + r) = q))).length : Int))), (5, vi (-1)), (6, vi 0)]) ?_ (loop ((G 12 s).toNat + 1) 0 (by omega) (by omega) (fun z => by simpa using z) (by omega))
  rw [show d - ((((Rw s).take (0 : Int).toNat).filter (fun r => decide (G 11 (60 * s + r) = q))).length : Int) = d by simp]
  exact fun z hz => hz

set_option maxHeartbeats 4000000 in
set_option maxRecDepth 100000 in
theorem c_becomes {l : Launch} {g : zG} {a : Nat → Nat} {F : Nat → Int} {G : Nat → Int → Int} {rest : va_W} (hst : l.stackTraces = false) {Rw : Int → List Int} (h : mS F G Rw) (r : Int) (hr : r = -1 ∨ 0 ≤ r ∧ r < F 6) : zM l g yX4_becomes cX4_becomes 3 (Option.some FieldType.int) ({ frames := 1, cells := 0, slots := 0, locals := 22 } : Room) [.ref (a 0), vi r] (mW g a F G rest) (zI fun v w => v = r ∧ w = mW g a (becF F r) (becG F G r) rest) zN 0 0 := by
  have hF0 := h.1
  have hF6 := h.2.1
  refine zM_of (lv0 := [(0, _), (1, _)]) hst rfl (by decide +kernel) (Nat.le_of_ble_eq_true rfl) rfl (fun x hx hf hn => ?_)
  have loop : ∀ (m : Nat) (k : Int) (f : Int → Int), 0 ≤ r → r < F 6 → 0 ≤ k → k ≤ F 0 → (∀ s : Int, f s = if 0 ≤ s ∧ s < k ∧ (G 9 r = G 1 s ∨ G 11 (60 * s + r) ≠ -1) then r else G 16 s) → (F 0 - k).toNat < m → Z l g ({ frames := 1, cells := 0, slots := 0, locals := 22 } : Room) 3 x 0 0 (mW g a (Fup F 14 r) (Gset (Gup G 15 (G 9 r) r) 16 f) rest) 24 [(0, .ref (a 0)), (1, vi r), (2, vi k)] [] := by
    intro m
    induction m with
    | zero => intro k f r0 r1 h0 h1 h2 hm; omega
    | succ m ih =>
      intro k f r0 r1 h0 h1 h2 hm
      have hvr := h.2.2.2.1 r r0 r1
      have hG9 : Gset (Gup G 15 (G 9 r) r) 16 f 9 = G 9 := by simp [Gset, Gup]
      have hG1 : Gset (Gup G 15 (G 9 r) r) 16 f 1 = G 1 := by simp [Gset, Gup]
      have hG11 : Gset (Gup G 15 (G 9 r) r) 16 f 11 = G 11 := by simp [Gset, Gup]
      have hF : Fup F 14 r 0 = F 0 := by simp [Fup]
      refine zz_iload_n hx dX4_becomes_24 rfl ?_
      refine zz_aload_n hx dX4_becomes_25 rfl ?_
      refine zm_g0 hx lf_X4_60 dX4_becomes_26 ?_
      rw [hF]
      refine zz_icmp_ge hx 79 dX4_becomes_29 rfl (by omega) (by omega) (fun c29 => ?_) (fun c29 => ?_)
      · refine zz_iload_n hx dX4_becomes_79 rfl ?_
        exact zz_iret hx hf dX4_becomes_80 ⟨_, rfl, rfl, by rw [becF, becG, if_neg (by omega), if_neg (by omega), show f = fun s => if 0 ≤ s ∧ s < F 0 ∧ (G 9 r = G 1 s ∨ G 11 (60 * s + r) ≠ -1) then r else G 16 s from funext fun s => by rw [h2 s, show k = F 0 by omega]]⟩ (by decide) (by decide)
      · refine zz_aload_n hx dX4_becomes_32 rfl ?_
        refine zm_g16 hx lf_X4_47 dX4_becomes_33 ?_
        refine zz_iload_n hx dX4_becomes_36 rfl ?_
        refine zz_aload_n hx dX4_becomes_37 rfl ?_
        refine zm_g9 hx lf_X4_29 dX4_becomes_38 ?_
        refine zz_iload_n hx dX4_becomes_41 rfl ?_
        refine zm_l9 hx dX4_becomes_42 (by omega) (by omega) ?_
        refine zz_aload_n hx dX4_becomes_43 rfl ?_
        refine zm_g1 hx lf_X4_7 dX4_becomes_44 ?_
        refine zz_iload_n hx dX4_becomes_47 rfl ?_
        refine zm_l1 hx dX4_becomes_48 (by omega) (by omega) ?_
        have hdk := h.2.2.1 k h0 (by omega)
        have hok := h.2.2.2.2.1 k r h0 (by omega) (by omega) (by omega)
        rw [hG9, hG1]
        refine zz_icmp_eq hx 62 dX4_becomes_49 rfl (by omega) (by omega) (fun c49 => ?_) (fun c49 => ?_)
        · refine zz_iload_n hx dX4_becomes_62 rfl ?_
          refine zz_goto hx 72 dX4_becomes_63 rfl ?_
          try rw [Gset_s]
          refine zm_s16 hx dX4_becomes_72 (by omega) (by omega) ?_
          refine zz_iinc (lv' := [(0, _), (1, _), (2, _)]) hx dX4_becomes_73 (by decide) rfl rfl ?_
          refine zz_goto hx 24 dX4_becomes_76 rfl ?_
          rw [Gup_eq, Gset_Gset, Gset_s]
          refine ih (k + 1) _ r0 r1 (by omega) (by omega) (fun j => ?_) (by omega)
          by_cases cj : j = k
          · subst cj
            rw [zup_s]
            first
              | (rw [if_pos ⟨h0, by omega, by omega⟩]; done)
              | (rw [if_neg (by omega), h2, if_neg (by omega)]; done)
          · rw [zup_n _ _ cj, h2]
            by_cases c2 : 0 ≤ j ∧ j < k ∧ (G 9 r = G 1 j ∨ G 11 (60 * j + r) ≠ -1)
            · rw [if_pos c2, if_pos (by omega)]
            · rw [if_neg c2, if_neg (by omega)]
        · refine zz_aload_n hx dX4_becomes_52 rfl ?_
          refine zz_iload_n hx dX4_becomes_53 rfl ?_
          refine zz_iload_n hx dX4_becomes_54 rfl ?_
          refine zz_callVi hx me_X4_ownerIn lk_X4_78 (c_ownerIn hst _ _ (by omega) (by omega) (by omega) (by omega)) 0 rfl rfl ⟨rfl, rfl⟩ (by decide) (by decide) rfl rfl (Nat.le_of_ble_eq_true rfl) dX4_becomes_55 (fun _ _ h => h.elim) (fun r55 w55 hp55 => ?_)
          obtain ⟨rfl, rfl⟩ := hp55
          refine zz_iconst hx dX4_becomes_58 ?_
          rw [hG11]
          refine zz_icmp_eq hx 66 dX4_becomes_59 rfl (by omega) (by omega) (fun c59 => ?_) (fun c59 => ?_)
          · refine zz_aload_n hx dX4_becomes_66 rfl ?_
            refine zm_g16 hx lf_X4_47 dX4_becomes_67 ?_
            refine zz_iload_n hx dX4_becomes_70 rfl ?_
            refine zm_l16 hx dX4_becomes_71 (by omega) (by omega) ?_
            try rw [Gset_s]
            refine zm_s16 hx dX4_becomes_72 (by omega) (by omega) ?_
            refine zz_iinc (lv' := [(0, _), (1, _), (2, _)]) hx dX4_becomes_73 (by decide) rfl rfl ?_
            refine zz_goto hx 24 dX4_becomes_76 rfl ?_
            rw [Gup_eq, Gset_Gset, Gset_s]
            refine ih (k + 1) _ r0 r1 (by omega) (by omega) (fun j => ?_) (by omega)
            by_cases cj : j = k
            · subst cj
              rw [zup_s]
              first
                | (rw [if_pos ⟨h0, by omega, by omega⟩]; done)
                | (rw [if_neg (by omega), h2, if_neg (by omega)]; done)
            · rw [zup_n _ _ cj, h2]
              by_cases c2 : 0 ≤ j ∧ j < k ∧ (G 9 r = G 1 j ∨ G 11 (60 * j + r) ≠ -1)
              · rw [if_pos c2, if_pos (by omega)]
              · rw [if_neg c2, if_neg (by omega)]
          · refine zz_iload_n hx dX4_becomes_62 rfl ?_
            refine zz_goto hx 72 dX4_becomes_63 rfl ?_
            try rw [Gset_s]
            refine zm_s16 hx dX4_becomes_72 (by omega) (by omega) ?_
            refine zz_iinc (lv' := [(0, _), (1, _), (2, _)]) hx dX4_becomes_73 (by decide) rfl rfl ?_
            refine zz_goto hx 24 dX4_becomes_76 rfl ?_
            rw [Gup_eq, Gset_Gset, Gset_s]
            refine ih (k + 1) _ r0 r1 (by omega) (by omega) (fun j => ?_) (by omega)
            by_cases cj : j = k
            · subst cj
              rw [zup_s]
              first
                | (rw [if_pos ⟨h0, by omega, by omega⟩]; done)
                | (rw [if_neg (by omega), h2, if_neg (by omega)]; done)
            · rw [zup_n _ _ cj, h2]
              by_cases c2 : 0 ≤ j ∧ j < k ∧ (G 9 r = G 1 j ∨ G 11 (60 * j + r) ≠ -1)
              · rw [if_pos c2, if_pos (by omega)]
              · rw [if_neg c2, if_neg (by omega)]
  refine zz_iload_n hx dX4_becomes_0 rfl ?_
  refine zz_iconst hx dX4_becomes_1 ?_
  refine zz_icmp_eq hx 79 dX4_becomes_2 rfl (by omega) (by omega) (fun c2 => ?_) (fun c2 => ?_)
  · refine zz_iload_n hx dX4_becomes_79 rfl ?_
    exact zz_iret hx hf dX4_becomes_80 ⟨_, rfl, rfl, by rw [becF, becG, if_pos c2, if_pos c2]⟩ (by decide) (by decide)
  · refine zz_aload_n hx dX4_becomes_5 rfl ?_
    refine zz_iload_n hx dX4_becomes_6 rfl ?_
    refine zm_p14 hx lf_X4_53 dX4_becomes_7 ?_
    refine zz_aload_n hx dX4_becomes_10 rfl ?_
    refine zm_g15 hx lf_X4_44 dX4_becomes_11 ?_
    refine zz_aload_n hx dX4_becomes_14 rfl ?_
    refine zm_g9 hx lf_X4_29 dX4_becomes_15 ?_
    refine zz_iload_n hx dX4_becomes_18 rfl ?_
    refine zm_l9 hx dX4_becomes_19 (by omega) (by omega) ?_
    refine zz_iload_n hx dX4_becomes_20 rfl ?_
    have hvr := h.2.2.2.1 r (by omega) (by omega)
    refine zm_s15 hx dX4_becomes_21 (by omega) (by omega) ?_
    refine zz_iconst hx dX4_becomes_22 ?_
    refine zz_istore_n (lv' := [(0, _), (1, _), (2, _)]) hx dX4_becomes_23 (by decide) rfl ?_
    rw [← Gset_id (Gup G 15 (G 9 r) r) 16]
    exact loop ((F 0).toNat + 1) 0 _ (by omega) (by omega) (by omega) (by omega) (fun s => by rw [if_neg (by omega)]; simp [Gup]) (by omega)
end
section
set_option maxHeartbeats 4000000 in
set_option maxRecDepth 100000 in
theorem c_setTypes {l : Launch} {g : zG} {a : Nat → Nat} {F : Nat → Int} {G : Nat → Int → Int} {rest : va_W} (hst : l.stackTraces = false)  : zM l g yX4_setTypes cX4_setTypes 1 (Option.some FieldType.int) ({ frames := 0, cells := 0, slots := 0, locals := 0 } : Room) [.ref (a 0)] (mW g a F G rest) (zI fun v w => v = F 0 ∧ w = mW g a (Fup F 18 0) G rest) zN 0 0 := by
  refine zM_of (lv0 := [(0, _)]) hst rfl (by decide +kernel) (Nat.le_of_ble_eq_true rfl) rfl (fun x hx hf hn => ?_)
  refine zz_aload_n hx dX4_setTypes_0 rfl ?_
  refine zz_iconst hx dX4_setTypes_1 ?_
  refine zm_p18 hx lf_X4_57 dX4_setTypes_2 ?_
  refine zz_aload_n hx dX4_setTypes_5 rfl ?_
  refine zm_g0 hx lf_X4_60 dX4_setTypes_6 ?_
  exact zz_iret hx hf dX4_setTypes_9 ⟨_, rfl, rfl, rfl⟩ (by decide) (by decide)

set_option maxHeartbeats 4000000 in
set_option maxRecDepth 100000 in
theorem c_records {l : Launch} {g : zG} {a : Nat → Nat} {F : Nat → Int} {G : Nat → Int → Int} {rest : va_W} (hst : l.stackTraces = false)  : zM l g yX4_records cX4_records 1 (Option.some FieldType.int) ({ frames := 0, cells := 0, slots := 0, locals := 0 } : Room) [.ref (a 0)] (mW g a F G rest) (zI fun v w => v = F 7 ∧ w = mW g a (Fup F 18 0) G rest) zN 0 0 := by
  refine zM_of (lv0 := [(0, _)]) hst rfl (by decide +kernel) (Nat.le_of_ble_eq_true rfl) rfl (fun x hx hf hn => ?_)
  refine zz_aload_n hx dX4_records_0 rfl ?_
  refine zz_iconst hx dX4_records_1 ?_
  refine zm_p18 hx lf_X4_57 dX4_records_2 ?_
  refine zz_aload_n hx dX4_records_5 rfl ?_
  refine zm_g7 hx lf_X4_85 dX4_records_6 ?_
  exact zz_iret hx hf dX4_records_9 ⟨_, rfl, rfl, rfl⟩ (by decide) (by decide)

set_option maxHeartbeats 4000000 in
set_option maxRecDepth 100000 in
theorem c_current {l : Launch} {g : zG} {a : Nat → Nat} {F : Nat → Int} {G : Nat → Int → Int} {rest : va_W} (hst : l.stackTraces = false)  : zM l g yX4_current cX4_current 1 (Option.some FieldType.int) ({ frames := 0, cells := 0, slots := 0, locals := 0 } : Room) [.ref (a 0)] (mW g a F G rest) (zI fun v w => v = F 14 ∧ w = mW g a (Fup F 18 0) G rest) zN 0 0 := by
  refine zM_of (lv0 := [(0, _)]) hst rfl (by decide +kernel) (Nat.le_of_ble_eq_true rfl) rfl (fun x hx hf hn => ?_)
  refine zz_aload_n hx dX4_current_0 rfl ?_
  refine zz_iconst hx dX4_current_1 ?_
  refine zm_p18 hx lf_X4_57 dX4_current_2 ?_
  refine zz_aload_n hx dX4_current_5 rfl ?_
  refine zm_g14 hx lf_X4_53 dX4_current_6 ?_
  exact zz_iret hx hf dX4_current_9 ⟨_, rfl, rfl, rfl⟩ (by decide) (by decide)

set_option maxHeartbeats 4000000 in
set_option maxRecDepth 100000 in
theorem c_currentOf {l : Launch} {g : zG} {a : Nat → Nat} {F : Nat → Int} {G : Nat → Int → Int} {rest : va_W} (hst : l.stackTraces = false) {Rw : Int → List Int} (h : mI F G Rw) (t : Int) (ht : -2147483648 ≤ t ∧ t < 2147483648) : zM l g yX4_currentOf cX4_currentOf 2 (Option.some FieldType.int) ({ frames := 1, cells := 0, slots := 0, locals := 22 } : Room) [.ref (a 0), vi t] (mW g a F G rest) (zI fun v w => ∃ c : Int, ((c = 0 ∧ (0 ≤ t ∧ t ≤ 3) ∧ v = G 15 t) ∨ (c = 1 ∧ ¬ (0 ≤ t ∧ t ≤ 3))) ∧ w = mW g a (Fup F 18 c) G rest) zN 0 0 := by
  have hF0 := h.1.1
  have hF6 := h.1.2.1
  refine zM_of (lv0 := [(0, _), (1, _)]) hst rfl (by decide +kernel) (Nat.le_of_ble_eq_true rfl) rfl (fun x hx hf hn => ?_)
  refine zz_aload_n hx dX4_currentOf_0 rfl ?_
  refine zz_iload_n hx dX4_currentOf_1 rfl ?_
  refine zz_iconst hx dX4_currentOf_2 ?_
  refine zz_iconst hx dX4_currentOf_3 ?_
  refine zz_callSi hx ms_X4_isIn lk_X4_63 (c_isIn (a := a) (F := F) (G := G) hst _ _ _ (by omega) (by omega) (by omega)) ⟨rfl, rfl⟩ (by decide) (by decide) rfl rfl (Nat.le_of_ble_eq_true rfl) dX4_currentOf_4 (fun _ _ h => h.elim) (fun r4 w4 hp4 => ?_)
  obtain ⟨rfl, rfl⟩ := hp4
  refine zz_ifb_eq hx 14 dX4_currentOf_7 rfl (fun c7 => ?_) (fun c7 => ?_)
  · refine zz_iconst hx dX4_currentOf_14 ?_
    refine zz_callVi hx me_X4_can lk_X4_70 (c_can hst _ (by omega)) 0 rfl rfl ⟨rfl, rfl⟩ (by decide) (by decide) rfl rfl (Nat.le_of_ble_eq_true rfl) dX4_currentOf_15 (fun _ _ h => h.elim) (fun r15 w15 hp15 => ?_)
    obtain ⟨rfl, rfl⟩ := hp15
    refine zz_ifb_eq hx 30 dX4_currentOf_18 rfl (fun _ => ?_) (fun z => absurd z (by decide))
    refine zz_iconst hx dX4_currentOf_30 ?_
    exact zz_iret hx hf dX4_currentOf_31 ⟨_, rfl, by first | exact ⟨0, Or.inl ⟨rfl, by omega, rfl⟩, rfl⟩ | exact ⟨1, Or.inr ⟨rfl, by omega⟩, rfl⟩⟩ (by decide) (by decide)
  · refine zz_iconst hx dX4_currentOf_10 ?_
    refine zz_goto hx 15 dX4_currentOf_11 rfl ?_
    refine zz_callVi hx me_X4_can lk_X4_70 (c_can hst _ (by omega)) 0 rfl rfl ⟨rfl, rfl⟩ (by decide) (by decide) rfl rfl (Nat.le_of_ble_eq_true rfl) dX4_currentOf_15 (fun _ _ h => h.elim) (fun r15 w15 hp15 => ?_)
    obtain ⟨rfl, rfl⟩ := hp15
    refine zz_ifb_eq hx 30 dX4_currentOf_18 rfl (fun z => absurd rfl z) (fun _ => ?_)
    refine zz_aload_n hx dX4_currentOf_21 rfl ?_
    refine zm_g15 hx lf_X4_44 dX4_currentOf_22 ?_
    refine zz_iload_n hx dX4_currentOf_25 rfl ?_
    refine zm_l15 hx dX4_currentOf_26 (by omega) (by omega) ?_
    refine zz_goto hx 31 dX4_currentOf_27 rfl ?_
    exact zz_iret hx hf dX4_currentOf_31 ⟨_, rfl, by first | exact ⟨0, Or.inl ⟨rfl, by omega, rfl⟩, rfl⟩ | exact ⟨1, Or.inr ⟨rfl, by omega⟩, rfl⟩⟩ (by decide) (by decide)

set_option maxHeartbeats 4000000 in
set_option maxRecDepth 100000 in
theorem c_currentIn {l : Launch} {g : zG} {a : Nat → Nat} {F : Nat → Int} {G : Nat → Int → Int} {rest : va_W} (hst : l.stackTraces = false) {Rw : Int → List Int} (h : mI F G Rw) (s : Int) (hs : -2147483648 ≤ s ∧ s < 2147483648) : zM l g yX4_currentIn cX4_currentIn 2 (Option.some FieldType.int) ({ frames := 2, cells := 0, slots := 0, locals := 43 } : Room) [.ref (a 0), vi s] (mW g a F G rest) (zI fun v w => ∃ c : Int, ((c = 0 ∧ (0 ≤ s ∧ s < F 0) ∧ v = G 16 s) ∨ (c = 1 ∧ ¬ (0 ≤ s ∧ s < F 0))) ∧ w = mW g a (Fup F 18 c) G rest) zN 0 0 := by
  have hF0 := h.1.1
  have hF6 := h.1.2.1
  refine zM_of (lv0 := [(0, _), (1, _)]) hst rfl (by decide +kernel) (Nat.le_of_ble_eq_true rfl) rfl (fun x hx hf hn => ?_)
  refine zz_aload_n hx dX4_currentIn_0 rfl ?_
  refine zz_aload_n hx dX4_currentIn_1 rfl ?_
  refine zz_iload_n hx dX4_currentIn_2 rfl ?_
  refine zz_callVi hx me_X4_isSet lk_X4_109 (c_isSet hst _ (by omega) hF0) 0 rfl rfl ⟨rfl, rfl⟩ (by decide) (by decide) rfl rfl (Nat.le_of_ble_eq_true rfl) dX4_currentIn_3 (fun _ _ h => h.elim) (fun r3 w3 hp3 => ?_)
  obtain ⟨rfl, rfl⟩ := hp3
  refine zz_ifb_eq hx 13 dX4_currentIn_6 rfl (fun c6 => ?_) (fun c6 => ?_)
  · refine zz_iconst hx dX4_currentIn_13 ?_
    refine zz_callVi hx me_X4_can lk_X4_70 (c_can hst _ (by omega)) 0 rfl rfl ⟨rfl, rfl⟩ (by decide) (by decide) rfl rfl (Nat.le_of_ble_eq_true rfl) dX4_currentIn_14 (fun _ _ h => h.elim) (fun r14 w14 hp14 => ?_)
    obtain ⟨rfl, rfl⟩ := hp14
    refine zz_ifb_eq hx 29 dX4_currentIn_17 rfl (fun _ => ?_) (fun z => absurd z (by decide))
    refine zz_iconst hx dX4_currentIn_29 ?_
    exact zz_iret hx hf dX4_currentIn_30 ⟨_, rfl, by first | exact ⟨0, Or.inl ⟨rfl, by omega, rfl⟩, rfl⟩ | exact ⟨1, Or.inr ⟨rfl, by omega⟩, rfl⟩⟩ (by decide) (by decide)
  · refine zz_iconst hx dX4_currentIn_9 ?_
    refine zz_goto hx 14 dX4_currentIn_10 rfl ?_
    refine zz_callVi hx me_X4_can lk_X4_70 (c_can hst _ (by omega)) 0 rfl rfl ⟨rfl, rfl⟩ (by decide) (by decide) rfl rfl (Nat.le_of_ble_eq_true rfl) dX4_currentIn_14 (fun _ _ h => h.elim) (fun r14 w14 hp14 => ?_)
    obtain ⟨rfl, rfl⟩ := hp14
    refine zz_ifb_eq hx 29 dX4_currentIn_17 rfl (fun z => absurd rfl z) (fun _ => ?_)
    refine zz_aload_n hx dX4_currentIn_20 rfl ?_
    refine zm_g16 hx lf_X4_47 dX4_currentIn_21 ?_
    refine zz_iload_n hx dX4_currentIn_24 rfl ?_
    refine zm_l16 hx dX4_currentIn_25 (by omega) (by omega) ?_
    refine zz_goto hx 30 dX4_currentIn_26 rfl ?_
    exact zz_iret hx hf dX4_currentIn_30 ⟨_, rfl, by first | exact ⟨0, Or.inl ⟨rfl, by omega, rfl⟩, rfl⟩ | exact ⟨1, Or.inr ⟨rfl, by omega⟩, rfl⟩⟩ (by decide) (by decide)

set_option maxHeartbeats 4000000 in
set_option maxRecDepth 100000 in
theorem c_typeOf {l : Launch} {g : zG} {a : Nat → Nat} {F : Nat → Int} {G : Nat → Int → Int} {rest : va_W} (hst : l.stackTraces = false) {Rw : Int → List Int} (h : mI F G Rw) (r : Int) (hr : -2147483648 ≤ r ∧ r < 2147483648) : zM l g yX4_typeOf cX4_typeOf 2 (Option.some FieldType.int) ({ frames := 2, cells := 0, slots := 0, locals := 43 } : Room) [.ref (a 0), vi r] (mW g a F G rest) (zI fun v w => ∃ c : Int, ((c = 0 ∧ (0 ≤ r ∧ r < F 6 ∧ G 8 r = 1) ∧ v = G 9 r) ∨ (c = 1 ∧ ¬ (0 ≤ r ∧ r < F 6 ∧ G 8 r = 1))) ∧ w = mW g a (Fup F 18 c) G rest) zN 0 0 := by
  have hF0 := h.1.1
  have hF6 := h.1.2.1
  refine zM_of (lv0 := [(0, _), (1, _)]) hst rfl (by decide +kernel) (Nat.le_of_ble_eq_true rfl) rfl (fun x hx hf hn => ?_)
  refine zz_aload_n hx dX4_typeOf_0 rfl ?_
  refine zz_aload_n hx dX4_typeOf_1 rfl ?_
  refine zz_iload_n hx dX4_typeOf_2 rfl ?_
  refine zz_callVi hx me_X4_isRecord lk_X4_115 (c_isRecord hst _ (by omega) hF6 (fun r h1 h2 => (h.1.2.2.2.1 r h1 h2).2.2)) 0 rfl rfl ⟨rfl, rfl⟩ (by decide) (by decide) rfl rfl (Nat.le_of_ble_eq_true rfl) dX4_typeOf_3 (fun _ _ h => h.elim) (fun r3 w3 hp3 => ?_)
  obtain ⟨rfl, rfl⟩ := hp3
  refine zz_ifb_eq hx 13 dX4_typeOf_6 rfl (fun c6 => ?_) (fun c6 => ?_)
  · refine zz_iconst hx dX4_typeOf_13 ?_
    refine zz_callVi hx me_X4_can lk_X4_70 (c_can hst _ (by omega)) 0 rfl rfl ⟨rfl, rfl⟩ (by decide) (by decide) rfl rfl (Nat.le_of_ble_eq_true rfl) dX4_typeOf_14 (fun _ _ h => h.elim) (fun r14 w14 hp14 => ?_)
    obtain ⟨rfl, rfl⟩ := hp14
    refine zz_ifb_eq hx 29 dX4_typeOf_17 rfl (fun _ => ?_) (fun z => absurd z (by decide))
    refine zz_iconst hx dX4_typeOf_29 ?_
    exact zz_iret hx hf dX4_typeOf_30 ⟨_, rfl, by first | exact ⟨0, Or.inl ⟨rfl, by omega, rfl⟩, rfl⟩ | exact ⟨1, Or.inr ⟨rfl, by omega⟩, rfl⟩⟩ (by decide) (by decide)
  · refine zz_iconst hx dX4_typeOf_9 ?_
    refine zz_goto hx 14 dX4_typeOf_10 rfl ?_
    refine zz_callVi hx me_X4_can lk_X4_70 (c_can hst _ (by omega)) 0 rfl rfl ⟨rfl, rfl⟩ (by decide) (by decide) rfl rfl (Nat.le_of_ble_eq_true rfl) dX4_typeOf_14 (fun _ _ h => h.elim) (fun r14 w14 hp14 => ?_)
    obtain ⟨rfl, rfl⟩ := hp14
    refine zz_ifb_eq hx 29 dX4_typeOf_17 rfl (fun z => absurd rfl z) (fun _ => ?_)
    refine zz_aload_n hx dX4_typeOf_20 rfl ?_
    refine zm_g9 hx lf_X4_29 dX4_typeOf_21 ?_
    refine zz_iload_n hx dX4_typeOf_24 rfl ?_
    refine zm_l9 hx dX4_typeOf_25 (by omega) (by omega) ?_
    refine zz_goto hx 30 dX4_typeOf_26 rfl ?_
    exact zz_iret hx hf dX4_typeOf_30 ⟨_, rfl, by first | exact ⟨0, Or.inl ⟨rfl, by omega, rfl⟩, rfl⟩ | exact ⟨1, Or.inr ⟨rfl, by omega⟩, rfl⟩⟩ (by decide) (by decide)

set_option maxHeartbeats 4000000 in
set_option maxRecDepth 100000 in
theorem c_valueOf {l : Launch} {g : zG} {a : Nat → Nat} {F : Nat → Int} {G : Nat → Int → Int} {rest : va_W} (hst : l.stackTraces = false) {Rw : Int → List Int} (h : mI F G Rw) (r : Int) (hr : -2147483648 ≤ r ∧ r < 2147483648) : zM l g yX4_valueOf cX4_valueOf 2 (Option.some FieldType.int) ({ frames := 2, cells := 0, slots := 0, locals := 43 } : Room) [.ref (a 0), vi r] (mW g a F G rest) (zI fun v w => ∃ c : Int, ((c = 0 ∧ (0 ≤ r ∧ r < F 6 ∧ G 8 r = 1) ∧ v = G 10 r) ∨ (c = 1 ∧ ¬ (0 ≤ r ∧ r < F 6 ∧ G 8 r = 1))) ∧ w = mW g a (Fup F 18 c) G rest) zN 0 0 := by
  have hF0 := h.1.1
  have hF6 := h.1.2.1
  refine zM_of (lv0 := [(0, _), (1, _)]) hst rfl (by decide +kernel) (Nat.le_of_ble_eq_true rfl) rfl (fun x hx hf hn => ?_)
  refine zz_aload_n hx dX4_valueOf_0 rfl ?_
  refine zz_aload_n hx dX4_valueOf_1 rfl ?_
  refine zz_iload_n hx dX4_valueOf_2 rfl ?_
  refine zz_callVi hx me_X4_isRecord lk_X4_115 (c_isRecord hst _ (by omega) hF6 (fun r h1 h2 => (h.1.2.2.2.1 r h1 h2).2.2)) 0 rfl rfl ⟨rfl, rfl⟩ (by decide) (by decide) rfl rfl (Nat.le_of_ble_eq_true rfl) dX4_valueOf_3 (fun _ _ h => h.elim) (fun r3 w3 hp3 => ?_)
  obtain ⟨rfl, rfl⟩ := hp3
  refine zz_ifb_eq hx 13 dX4_valueOf_6 rfl (fun c6 => ?_) (fun c6 => ?_)
  · refine zz_iconst hx dX4_valueOf_13 ?_
    refine zz_callVi hx me_X4_can lk_X4_70 (c_can hst _ (by omega)) 0 rfl rfl ⟨rfl, rfl⟩ (by decide) (by decide) rfl rfl (Nat.le_of_ble_eq_true rfl) dX4_valueOf_14 (fun _ _ h => h.elim) (fun r14 w14 hp14 => ?_)
    obtain ⟨rfl, rfl⟩ := hp14
    refine zz_ifb_eq hx 29 dX4_valueOf_17 rfl (fun _ => ?_) (fun z => absurd z (by decide))
    refine zz_iconst hx dX4_valueOf_29 ?_
    exact zz_iret hx hf dX4_valueOf_30 ⟨_, rfl, by first | exact ⟨0, Or.inl ⟨rfl, by omega, rfl⟩, rfl⟩ | exact ⟨1, Or.inr ⟨rfl, by omega⟩, rfl⟩⟩ (by decide) (by decide)
  · refine zz_iconst hx dX4_valueOf_9 ?_
    refine zz_goto hx 14 dX4_valueOf_10 rfl ?_
    refine zz_callVi hx me_X4_can lk_X4_70 (c_can hst _ (by omega)) 0 rfl rfl ⟨rfl, rfl⟩ (by decide) (by decide) rfl rfl (Nat.le_of_ble_eq_true rfl) dX4_valueOf_14 (fun _ _ h => h.elim) (fun r14 w14 hp14 => ?_)
    obtain ⟨rfl, rfl⟩ := hp14
    refine zz_ifb_eq hx 29 dX4_valueOf_17 rfl (fun z => absurd rfl z) (fun _ => ?_)
    refine zz_aload_n hx dX4_valueOf_20 rfl ?_
    refine zm_g10 hx lf_X4_32 dX4_valueOf_21 ?_
    refine zz_iload_n hx dX4_valueOf_24 rfl ?_
    refine zm_l10 hx dX4_valueOf_25 (by omega) (by omega) ?_
    refine zz_goto hx 30 dX4_valueOf_26 rfl ?_
    exact zz_iret hx hf dX4_valueOf_30 ⟨_, rfl, by first | exact ⟨0, Or.inl ⟨rfl, by omega, rfl⟩, rfl⟩ | exact ⟨1, Or.inr ⟨rfl, by omega⟩, rfl⟩⟩ (by decide) (by decide)

set_option maxHeartbeats 4000000 in
set_option maxRecDepth 100000 in
theorem c_areAsked {l : Launch} {g : zG} {a : Nat → Nat} {F : Nat → Int} {G : Nat → Int → Int} {rest : va_W} (hst : l.stackTraces = false) {Rw : Int → List Int} (h : mI F G Rw) (r : Int) (hr : -2147483648 ≤ r ∧ r < 2147483648) (s : Int) (hs : -2147483648 ≤ s ∧ s < 2147483648) : zM l g yX4_areAsked cX4_areAsked 3 (Option.some FieldType.boolean) ({ frames := 2, cells := 0, slots := 0, locals := 43 } : Room) [.ref (a 0), vi r, vi s] (mW g a F G rest) (zI fun v w => v = zb ((0 ≤ r ∧ r < F 6 ∧ G 8 r = 1) ∧ 0 ≤ s ∧ s < F 0) ∧ w = mW g a (Fup F 18 (if ((0 ≤ r ∧ r < F 6 ∧ G 8 r = 1) ∧ 0 ≤ s ∧ s < F 0) then 0 else 1)) G rest) zN 0 0 := by
  have hF0 := h.1.1
  have hF6 := h.1.2.1
  refine zM_of (lv0 := [(0, _), (1, _), (2, _)]) hst rfl (by decide +kernel) (Nat.le_of_ble_eq_true rfl) rfl (fun x hx hf hn => ?_)
  refine zz_aload_n hx dX4_areAsked_0 rfl ?_
  refine zz_aload_n hx dX4_areAsked_1 rfl ?_
  refine zz_iload_n hx dX4_areAsked_2 rfl ?_
  refine zz_callVi hx me_X4_isRecord lk_X4_115 (c_isRecord hst _ (by omega) hF6 (fun r h1 h2 => (h.1.2.2.2.1 r h1 h2).2.2)) 0 rfl rfl ⟨rfl, rfl⟩ (by decide) (by decide) rfl rfl (Nat.le_of_ble_eq_true rfl) dX4_areAsked_3 (fun _ _ h => h.elim) (fun r3 w3 hp3 => ?_)
  obtain ⟨rfl, rfl⟩ := hp3
  refine zz_ifb_eq hx 21 dX4_areAsked_6 rfl (fun c6 => ?_) (fun c6 => ?_)
  · refine zz_iconst hx dX4_areAsked_21 ?_
    refine zz_callVi hx me_X4_can lk_X4_70 (c_can hst _ (by omega)) 0 rfl rfl ⟨rfl, rfl⟩ (by decide) (by decide) rfl rfl (Nat.le_of_ble_eq_true rfl) dX4_areAsked_22 (fun _ _ h => h.elim) (fun r22 w22 hp22 => ?_)
    obtain ⟨rfl, rfl⟩ := hp22
    exact zz_zret hx hf dX4_areAsked_25 (by first | decide | exact zb_01 _) ⟨_, rfl, by first | (rw [if_pos (by omega : ((0 ≤ r ∧ r < F 6 ∧ G 8 r = 1) ∧ 0 ≤ s ∧ s < F 0))]; exact ⟨zb_congr (by omega), rfl⟩) | (rw [if_neg (by omega : ¬ ((0 ≤ r ∧ r < F 6 ∧ G 8 r = 1) ∧ 0 ≤ s ∧ s < F 0))]; exact ⟨zb_congr (by omega), rfl⟩)⟩ (by decide) (by decide)
  · refine zz_aload_n hx dX4_areAsked_9 rfl ?_
    refine zz_iload_n hx dX4_areAsked_10 rfl ?_
    refine zz_callVi hx me_X4_isSet lk_X4_109 (c_isSet hst _ (by omega) hF0) 0 rfl rfl ⟨rfl, rfl⟩ (by decide) (by decide) rfl rfl (Nat.le_of_ble_eq_true rfl) dX4_areAsked_11 (fun _ _ h => h.elim) (fun r11 w11 hp11 => ?_)
    obtain ⟨rfl, rfl⟩ := hp11
    refine zz_ifb_eq hx 21 dX4_areAsked_14 rfl (fun c14 => ?_) (fun c14 => ?_)
    · refine zz_iconst hx dX4_areAsked_21 ?_
      refine zz_callVi hx me_X4_can lk_X4_70 (c_can hst _ (by omega)) 0 rfl rfl ⟨rfl, rfl⟩ (by decide) (by decide) rfl rfl (Nat.le_of_ble_eq_true rfl) dX4_areAsked_22 (fun _ _ h => h.elim) (fun r22 w22 hp22 => ?_)
      obtain ⟨rfl, rfl⟩ := hp22
      exact zz_zret hx hf dX4_areAsked_25 (by first | decide | exact zb_01 _) ⟨_, rfl, by first | (rw [if_pos (by omega : ((0 ≤ r ∧ r < F 6 ∧ G 8 r = 1) ∧ 0 ≤ s ∧ s < F 0))]; exact ⟨zb_congr (by omega), rfl⟩) | (rw [if_neg (by omega : ¬ ((0 ≤ r ∧ r < F 6 ∧ G 8 r = 1) ∧ 0 ≤ s ∧ s < F 0))]; exact ⟨zb_congr (by omega), rfl⟩)⟩ (by decide) (by decide)
    · refine zz_iconst hx dX4_areAsked_17 ?_
      refine zz_goto hx 22 dX4_areAsked_18 rfl ?_
      refine zz_callVi hx me_X4_can lk_X4_70 (c_can hst _ (by omega)) 0 rfl rfl ⟨rfl, rfl⟩ (by decide) (by decide) rfl rfl (Nat.le_of_ble_eq_true rfl) dX4_areAsked_22 (fun _ _ h => h.elim) (fun r22 w22 hp22 => ?_)
      obtain ⟨rfl, rfl⟩ := hp22
      exact zz_zret hx hf dX4_areAsked_25 (by first | decide | exact zb_01 _) ⟨_, rfl, by first | (rw [if_pos (by omega : ((0 ≤ r ∧ r < F 6 ∧ G 8 r = 1) ∧ 0 ≤ s ∧ s < F 0))]; exact ⟨zb_congr (by omega), rfl⟩) | (rw [if_neg (by omega : ¬ ((0 ≤ r ∧ r < F 6 ∧ G 8 r = 1) ∧ 0 ≤ s ∧ s < F 0))]; exact ⟨zb_congr (by omega), rfl⟩)⟩ (by decide) (by decide)

set_option maxHeartbeats 4000000 in
set_option maxRecDepth 100000 in
theorem c_ownerOf {l : Launch} {g : zG} {a : Nat → Nat} {F : Nat → Int} {G : Nat → Int → Int} {rest : va_W} (hst : l.stackTraces = false) {Rw : Int → List Int} (h : mI F G Rw) (r : Int) (hr : -2147483648 ≤ r ∧ r < 2147483648) (s : Int) (hs : -2147483648 ≤ s ∧ s < 2147483648) : zM l g yX4_ownerOf cX4_ownerOf 3 (Option.some FieldType.int) ({ frames := 3, cells := 0, slots := 0, locals := 65 } : Room) [.ref (a 0), vi r, vi s] (mW g a F G rest) (zI fun v w => ∃ c : Int, ((c = 0 ∧ ((0 ≤ r ∧ r < F 6 ∧ G 8 r = 1) ∧ 0 ≤ s ∧ s < F 0) ∧ v = G 11 (60 * s + r)) ∨ (c = 1 ∧ ¬ ((0 ≤ r ∧ r < F 6 ∧ G 8 r = 1) ∧ 0 ≤ s ∧ s < F 0))) ∧ w = mW g a (Fup F 18 c) G rest) zN 0 0 := by
  have hF0 := h.1.1
  have hF6 := h.1.2.1
  refine zM_of (lv0 := [(0, _), (1, _), (2, _)]) hst rfl (by decide +kernel) (Nat.le_of_ble_eq_true rfl) rfl (fun x hx hf hn => ?_)
  refine zz_aload_n hx dX4_ownerOf_0 rfl ?_
  refine zz_iload_n hx dX4_ownerOf_1 rfl ?_
  refine zz_iload_n hx dX4_ownerOf_2 rfl ?_
  refine zz_callVi hx me_X4_areAsked lk_X4_121 (c_areAsked hst h _ (by omega) _ (by omega)) 0 rfl rfl ⟨rfl, rfl⟩ (by decide) (by decide) rfl rfl (Nat.le_of_ble_eq_true rfl) dX4_ownerOf_3 (fun _ _ h => h.elim) (fun r3 w3 hp3 => ?_)
  obtain ⟨rfl, rfl⟩ := hp3
  refine zz_ifb_eq hx 18 dX4_ownerOf_6 rfl (fun c6 => ?_) (fun c6 => ?_)
  · refine zz_iconst hx dX4_ownerOf_18 ?_
    exact zz_iret hx hf dX4_ownerOf_19 ⟨_, rfl, by first | (rw [if_pos (by omega : ((0 ≤ r ∧ r < F 6 ∧ G 8 r = 1) ∧ 0 ≤ s ∧ s < F 0))]; exact ⟨0, Or.inl ⟨rfl, by omega, rfl⟩, rfl⟩) | (rw [if_neg (by omega : ¬ ((0 ≤ r ∧ r < F 6 ∧ G 8 r = 1) ∧ 0 ≤ s ∧ s < F 0))]; exact ⟨1, Or.inr ⟨rfl, by omega⟩, rfl⟩)⟩ (by decide) (by decide)
  · refine zz_aload_n hx dX4_ownerOf_9 rfl ?_
    refine zz_iload_n hx dX4_ownerOf_10 rfl ?_
    refine zz_iload_n hx dX4_ownerOf_11 rfl ?_
    refine zz_callVi hx me_X4_ownerIn lk_X4_78 (c_ownerIn hst _ _ (by omega) (by omega) (by omega) (by omega)) 0 rfl rfl ⟨rfl, rfl⟩ (by decide) (by decide) rfl rfl (Nat.le_of_ble_eq_true rfl) dX4_ownerOf_12 (fun _ _ h => h.elim) (fun r12 w12 hp12 => ?_)
    obtain ⟨rfl, rfl⟩ := hp12
    refine zz_goto hx 19 dX4_ownerOf_15 rfl ?_
    exact zz_iret hx hf dX4_ownerOf_19 ⟨_, rfl, by first | (rw [if_pos (by omega : ((0 ≤ r ∧ r < F 6 ∧ G 8 r = 1) ∧ 0 ≤ s ∧ s < F 0))]; exact ⟨0, Or.inl ⟨rfl, by omega, rfl⟩, rfl⟩) | (rw [if_neg (by omega : ¬ ((0 ≤ r ∧ r < F 6 ∧ G 8 r = 1) ∧ 0 ≤ s ∧ s < F 0))]; exact ⟨1, Or.inr ⟨rfl, by omega⟩, rfl⟩)⟩ (by decide) (by decide)

set_option maxHeartbeats 4000000 in
set_option maxRecDepth 100000 in
theorem c_countOf {l : Launch} {g : zG} {a : Nat → Nat} {F : Nat → Int} {G : Nat → Int → Int} {rest : va_W} (hst : l.stackTraces = false) {Rw : Int → List Int} (h : mS F G Rw) (r s : Int) (r0 : 0 ≤ r) (r1 : r < F 6) (s0 : 0 ≤ s) (s1 : s < F 0) : zM l g yX4_countOf cX4_countOf 3 (Option.some FieldType.int) ({ frames := 2, cells := 0, slots := 0, locals := 46 } : Room) [.ref (a 0), vi r, vi s] (mW g a F G rest) (zI fun v w => v = (if G 9 r = G 1 s then ((zmem G s r (Rw s)).length : Int) else -1) ∧ w = mW g a F G rest) zN 0 0 := by
  have hF0 := h.1
  have hF6 := h.2.1
  have hd := h.2.2.1 s s0 s1
  have hvr := h.2.2.2.1 r r0 r1
  refine zM_of (lv0 := [(0, _), (1, _), (2, _)]) hst rfl (by decide +kernel) (Nat.le_of_ble_eq_true rfl) rfl (fun x hx hf hn => ?_)
  refine zz_aload_n hx dX4_countOf_0 rfl ?_
  refine zm_g9 hx lf_X4_29 dX4_countOf_1 ?_
  refine zz_iload_n hx dX4_countOf_4 rfl ?_
  refine zm_l9 hx dX4_countOf_5 (by omega) (by omega) ?_
  refine zz_aload_n hx dX4_countOf_6 rfl ?_
  refine zm_g1 hx lf_X4_7 dX4_countOf_7 ?_
  refine zz_iload_n hx dX4_countOf_10 rfl ?_
  refine zm_l1 hx dX4_countOf_11 (by omega) (by omega) ?_
  refine zz_icmp_ne hx 24 dX4_countOf_12 rfl (by omega) (by omega) (fun c12 => ?_) (fun c12 => ?_)
  · refine zz_iconst hx dX4_countOf_24 ?_
    exact zz_iret hx hf dX4_countOf_25 ⟨_, rfl, by first | rw [if_pos c12] | rw [if_neg c12], rfl⟩ (by decide) (by decide)
  · refine zz_aload_n hx dX4_countOf_15 rfl ?_
    refine zz_iload_n hx dX4_countOf_16 rfl ?_
    refine zz_iload_n hx dX4_countOf_17 rfl ?_
    refine zz_callVi hx me_X4_membersOf lk_X4_112 (c_membersOf hst h _ _ (by omega) (by omega) (by omega)) 0 rfl rfl ⟨rfl, rfl⟩ (by decide) (by decide) rfl rfl (Nat.le_of_ble_eq_true rfl) dX4_countOf_18 (fun _ _ h => h.elim) (fun r18 w18 hp18 => ?_)
    obtain ⟨rfl, rfl⟩ := hp18
    refine zz_goto hx 25 dX4_countOf_21 rfl ?_
    exact zz_iret hx hf dX4_countOf_25 ⟨_, rfl, by first | rw [if_pos c12] | rw [if_neg c12], rfl⟩ (by decide) (by decide)

set_option maxHeartbeats 4000000 in
set_option maxRecDepth 100000 in
theorem c_members {l : Launch} {g : zG} {a : Nat → Nat} {F : Nat → Int} {G : Nat → Int → Int} {rest : va_W} (hst : l.stackTraces = false) {Rw : Int → List Int} (h : mI F G Rw) (r : Int) (hr : -2147483648 ≤ r ∧ r < 2147483648) (s : Int) (hs : -2147483648 ≤ s ∧ s < 2147483648) : zM l g yX4_members cX4_members 3 (Option.some FieldType.int) ({ frames := 3, cells := 0, slots := 0, locals := 68 } : Room) [.ref (a 0), vi r, vi s] (mW g a F G rest) (zI fun v w => ∃ c : Int, ((c = 0 ∧ ((0 ≤ r ∧ r < F 6 ∧ G 8 r = 1) ∧ 0 ≤ s ∧ s < F 0) ∧ v = (if G 9 r = G 1 s then ((zmem G s r (Rw s)).length : Int) else -1)) ∨ (c = 1 ∧ ¬ ((0 ≤ r ∧ r < F 6 ∧ G 8 r = 1) ∧ 0 ≤ s ∧ s < F 0))) ∧ w = mW g a (Fup F 18 c) G rest) zN 0 0 := by
  have hF0 := h.1.1
  have hF6 := h.1.2.1
  refine zM_of (lv0 := [(0, _), (1, _), (2, _)]) hst rfl (by decide +kernel) (Nat.le_of_ble_eq_true rfl) rfl (fun x hx hf hn => ?_)
  refine zz_aload_n hx dX4_members_0 rfl ?_
  refine zz_iload_n hx dX4_members_1 rfl ?_
  refine zz_iload_n hx dX4_members_2 rfl ?_
  refine zz_callVi hx me_X4_areAsked lk_X4_121 (c_areAsked hst h _ (by omega) _ (by omega)) 0 rfl rfl ⟨rfl, rfl⟩ (by decide) (by decide) rfl rfl (Nat.le_of_ble_eq_true rfl) dX4_members_3 (fun _ _ h => h.elim) (fun r3 w3 hp3 => ?_)
  obtain ⟨rfl, rfl⟩ := hp3
  refine zz_ifb_eq hx 18 dX4_members_6 rfl (fun c6 => ?_) (fun c6 => ?_)
  · refine zz_iconst hx dX4_members_18 ?_
    exact zz_iret hx hf dX4_members_19 ⟨_, rfl, by first | (rw [if_pos (by omega : ((0 ≤ r ∧ r < F 6 ∧ G 8 r = 1) ∧ 0 ≤ s ∧ s < F 0))]; exact ⟨0, Or.inl ⟨rfl, by omega, rfl⟩, rfl⟩) | (rw [if_neg (by omega : ¬ ((0 ≤ r ∧ r < F 6 ∧ G 8 r = 1) ∧ 0 ≤ s ∧ s < F 0))]; exact ⟨1, Or.inr ⟨rfl, by omega⟩, rfl⟩)⟩ (by decide) (by decide)
  · refine zz_aload_n hx dX4_members_9 rfl ?_
    refine zz_iload_n hx dX4_members_10 rfl ?_
    refine zz_iload_n hx dX4_members_11 rfl ?_
    refine zz_callVi hx me_X4_countOf lk_X4_125 (c_countOf (F := Fup F 18 _) hst (mS_18 h.1) _ _ (by omega) (show _ < F 6 by omega) (by omega) (show _ < F 0 by omega)) 0 rfl rfl ⟨rfl, rfl⟩ (by decide) (by decide) rfl rfl (Nat.le_of_ble_eq_true rfl) dX4_members_12 (fun _ _ h => h.elim) (fun r12 w12 hp12 => ?_)
    obtain ⟨rfl, rfl⟩ := hp12
    refine zz_goto hx 19 dX4_members_15 rfl ?_
    exact zz_iret hx hf dX4_members_19 ⟨_, rfl, by first | (rw [if_pos (by omega : ((0 ≤ r ∧ r < F 6 ∧ G 8 r = 1) ∧ 0 ≤ s ∧ s < F 0))]; exact ⟨0, Or.inl ⟨rfl, by omega, rfl⟩, rfl⟩) | (rw [if_neg (by omega : ¬ ((0 ≤ r ∧ r < F 6 ∧ G 8 r = 1) ∧ 0 ≤ s ∧ s < F 0))]; exact ⟨1, Or.inr ⟨rfl, by omega⟩, rfl⟩)⟩ (by decide) (by decide)

set_option maxHeartbeats 4000000 in
set_option maxRecDepth 100000 in
theorem c_membersByTable {l : Launch} {g : zG} {a : Nat → Nat} {F : Nat → Int} {G : Nat → Int → Int} {rest : va_W} (hst : l.stackTraces = false) {Rw : Int → List Int} (h : mI F G Rw) (r : Int) (hr : -2147483648 ≤ r ∧ r < 2147483648) (s : Int) (hs : -2147483648 ≤ s ∧ s < 2147483648) : zM l g yX4_membersByTable cX4_membersByTable 3 (Option.some FieldType.int) ({ frames := 3, cells := 0, slots := 0, locals := 68 } : Room) [.ref (a 0), vi r, vi s] (mW g a F G rest) (zI fun v w => ∃ c : Int, ((c = 0 ∧ ((0 ≤ r ∧ r < F 6 ∧ G 8 r = 1) ∧ 0 ≤ s ∧ s < F 0) ∧ v = (if G 9 r = G 1 s then ((zmem G s r (Rw s)).length : Int) else -1)) ∨ (c = 1 ∧ ¬ ((0 ≤ r ∧ r < F 6 ∧ G 8 r = 1) ∧ 0 ≤ s ∧ s < F 0))) ∧ w = mW g a (Fup F 18 c) G rest) zN 0 0 := by
  have hF0 := h.1.1
  have hF6 := h.1.2.1
  refine zM_of (lv0 := [(0, _), (1, _), (2, _)]) hst rfl (by decide +kernel) (Nat.le_of_ble_eq_true rfl) rfl (fun x hx hf hn => ?_)
  refine zz_aload_n hx dX4_membersByTable_0 rfl ?_
  refine zz_iload_n hx dX4_membersByTable_1 rfl ?_
  refine zz_iload_n hx dX4_membersByTable_2 rfl ?_
  refine zz_callVi hx me_X4_areAsked lk_X4_121 (c_areAsked hst h _ (by omega) _ (by omega)) 0 rfl rfl ⟨rfl, rfl⟩ (by decide) (by decide) rfl rfl (Nat.le_of_ble_eq_true rfl) dX4_membersByTable_3 (fun _ _ h => h.elim) (fun r3 w3 hp3 => ?_)
  obtain ⟨rfl, rfl⟩ := hp3
  refine zz_ifb_eq hx 18 dX4_membersByTable_6 rfl (fun c6 => ?_) (fun c6 => ?_)
  · refine zz_iconst hx dX4_membersByTable_18 ?_
    exact zz_iret hx hf dX4_membersByTable_19 ⟨_, rfl, by first | (rw [if_pos (by omega : ((0 ≤ r ∧ r < F 6 ∧ G 8 r = 1) ∧ 0 ≤ s ∧ s < F 0))]; exact ⟨0, Or.inl ⟨rfl, by omega, rfl⟩, rfl⟩) | (rw [if_neg (by omega : ¬ ((0 ≤ r ∧ r < F 6 ∧ G 8 r = 1) ∧ 0 ≤ s ∧ s < F 0))]; exact ⟨1, Or.inr ⟨rfl, by omega⟩, rfl⟩)⟩ (by decide) (by decide)
  · refine zz_aload_n hx dX4_membersByTable_9 rfl ?_
    refine zz_iload_n hx dX4_membersByTable_10 rfl ?_
    refine zz_iload_n hx dX4_membersByTable_11 rfl ?_
    refine zz_callVi hx me_X4_countOf lk_X4_125 (c_countOf (F := Fup F 18 _) hst (mS_18 h.1) _ _ (by omega) (show _ < F 6 by omega) (by omega) (show _ < F 0 by omega)) 0 rfl rfl ⟨rfl, rfl⟩ (by decide) (by decide) rfl rfl (Nat.le_of_ble_eq_true rfl) dX4_membersByTable_12 (fun _ _ h => h.elim) (fun r12 w12 hp12 => ?_)
    obtain ⟨rfl, rfl⟩ := hp12
    refine zz_goto hx 19 dX4_membersByTable_15 rfl ?_
    exact zz_iret hx hf dX4_membersByTable_19 ⟨_, rfl, by first | (rw [if_pos (by omega : ((0 ≤ r ∧ r < F 6 ∧ G 8 r = 1) ∧ 0 ≤ s ∧ s < F 0))]; exact ⟨0, Or.inl ⟨rfl, by omega, rfl⟩, rfl⟩) | (rw [if_neg (by omega : ¬ ((0 ≤ r ∧ r < F 6 ∧ G 8 r = 1) ∧ 0 ≤ s ∧ s < F 0))]; exact ⟨1, Or.inr ⟨rfl, by omega⟩, rfl⟩)⟩ (by decide) (by decide)
end
section
set_option maxHeartbeats 4000000 in
set_option maxRecDepth 100000 in
theorem c_find {l : Launch} {g : zG} {a : Nat → Nat} {F : Nat → Int} {G : Nat → Int → Int} {rest : va_W} (hst : l.stackTraces = false) {Rw : Int → List Int} (h : mI F G Rw) (r : Int) (hr : -2147483648 ≤ r ∧ r < 2147483648) : zM l g yX4_find cX4_find 2 (Option.some FieldType.int) ({ frames := 2, cells := 0, slots := 0, locals := 44 } : Room) [.ref (a 0), vi r] (mW g a F G rest) (zI fun v w => ∃ f : Int, v = f ∧ f = (if 0 ≤ r ∧ r < F 6 ∧ G 8 r = 1 then r else -1) ∧ (f = -1 ∨ 0 ≤ f ∧ f < F 6 ∧ G 8 f = 1) ∧ w = mW g a (Fup (becF F f) 18 0) (becG F G f) rest) zN 0 0 := by
  have hF0 := h.1.1
  have hF6 := h.1.2.1
  refine zM_of (lv0 := [(0, _), (1, _)]) hst rfl (by decide +kernel) (Nat.le_of_ble_eq_true rfl) rfl (fun x hx hf hn => ?_)
  refine zz_aload_n hx dX4_find_0 rfl ?_
  refine zz_iconst hx dX4_find_1 ?_
  refine zm_p18 hx lf_X4_57 dX4_find_2 ?_
  refine zz_aload_n hx dX4_find_5 rfl ?_
  refine zz_aload_n hx dX4_find_6 rfl ?_
  refine zz_iload_n hx dX4_find_7 rfl ?_
  refine zz_callVi hx me_X4_isRecord lk_X4_115 (c_isRecord (F := Fup F 18 0) hst _ (by omega) hF6 (fun r h1 h2 => (h.1.2.2.2.1 r h1 h2).2.2)) 0 rfl rfl ⟨rfl, rfl⟩ (by decide) (by decide) rfl rfl (Nat.le_of_ble_eq_true rfl) dX4_find_8 (fun _ _ h => h.elim) (fun r8 w8 hp8 => ?_)
  obtain ⟨rfl, rfl⟩ := hp8
  refine zz_ifb_eq hx 18 dX4_find_11 rfl (fun c11 => ?_) (fun c11 => ?_)
  · have c11 : ¬ (0 ≤ r ∧ r < F 6 ∧ G 8 r = 1) := c11
    refine zz_iconst hx dX4_find_18 ?_
    refine zz_callVi hx me_X4_becomes lk_X4_96 (c_becomes (F := Fup F 18 0) hst (mS_18 h.1) _ (show _ = -1 ∨ 0 ≤ _ ∧ _ < F 6 by omega)) 0 rfl rfl ⟨rfl, rfl⟩ (by decide) (by decide) rfl rfl (Nat.le_of_ble_eq_true rfl) dX4_find_19 (fun _ _ h => h.elim) (fun r19 w19 hp19 => ?_)
    obtain ⟨rfl, rfl⟩ := hp19
    exact zz_iret hx hf dX4_find_22 ⟨_, rfl, _, rfl, by first | rw [if_pos (by omega)] | rw [if_neg (by omega)], by omega, by rw [bec_18, becG_18]⟩ (by decide) (by decide)
  · have c11 : 0 ≤ r ∧ r < F 6 ∧ G 8 r = 1 := c11
    refine zz_iload_n hx dX4_find_14 rfl ?_
    refine zz_goto hx 19 dX4_find_15 rfl ?_
    refine zz_callVi hx me_X4_becomes lk_X4_96 (c_becomes (F := Fup F 18 0) hst (mS_18 h.1) _ (show _ = -1 ∨ 0 ≤ _ ∧ _ < F 6 by omega)) 0 rfl rfl ⟨rfl, rfl⟩ (by decide) (by decide) rfl rfl (Nat.le_of_ble_eq_true rfl) dX4_find_19 (fun _ _ h => h.elim) (fun r19 w19 hp19 => ?_)
    obtain ⟨rfl, rfl⟩ := hp19
    exact zz_iret hx hf dX4_find_22 ⟨_, rfl, _, rfl, by first | rw [if_pos (by omega)] | rw [if_neg (by omega)], by omega, by rw [bec_18, becG_18]⟩ (by decide) (by decide)

set_option maxHeartbeats 4000000 in
set_option maxRecDepth 100000 in
theorem c_findOwner {l : Launch} {g : zG} {a : Nat → Nat} {F : Nat → Int} {G : Nat → Int → Int} {rest : va_W} (hst : l.stackTraces = false) {Rw : Int → List Int} (h : mI F G Rw) (s : Int) (hs : -2147483648 ≤ s ∧ s < 2147483648) : zM l g yX4_findOwner cX4_findOwner 2 (Option.some FieldType.int) ({ frames := 2, cells := 0, slots := 0, locals := 44 } : Room) [.ref (a 0), vi s] (mW g a F G rest) (zI fun v w => ∃ c f : Int, ((c = 0 ∧ (0 ≤ s ∧ s < F 0) ∧ (f = (if G 16 s = -1 then -1 else curO G s)) ∧ v = f) ∨ (c = 1 ∧ ¬ (0 ≤ s ∧ s < F 0) ∧ f = -1)) ∧ (f = -1 ∨ 0 ≤ f ∧ f < F 6 ∧ G 8 f = 1) ∧ w = mW g a (Fup (becF F f) 18 c) (becG F G f) rest) zN 0 0 := by
  have hF0 := h.1.1
  have hF6 := h.1.2.1
  have hin := fun (z : 0 ≤ s ∧ s < F 0) => h.2.2.2 s z.1 (by omega)
  have hcu := fun (z : 0 ≤ s ∧ s < F 0) (q : G 16 s ≠ -1) => curO_ok h z.1 z.2 q
  refine zM_of (lv0 := [(0, _), (1, _)]) hst rfl (by decide +kernel) (Nat.le_of_ble_eq_true rfl) rfl (fun x hx hf hn => ?_)
  refine zz_aload_n hx dX4_findOwner_0 rfl ?_
  refine zz_aload_n hx dX4_findOwner_1 rfl ?_
  refine zz_iload_n hx dX4_findOwner_2 rfl ?_
  refine zz_callVi hx me_X4_isSet lk_X4_109 (c_isSet hst _ (by omega) hF0) 0 rfl rfl ⟨rfl, rfl⟩ (by decide) (by decide) rfl rfl (Nat.le_of_ble_eq_true rfl) dX4_findOwner_3 (fun _ _ h => h.elim) (fun r3 w3 hp3 => ?_)
  obtain ⟨rfl, rfl⟩ := hp3
  refine zz_ifb_eq hx 13 dX4_findOwner_6 rfl (fun c6 => ?_) (fun c6 => ?_)
  · refine zz_iconst hx dX4_findOwner_13 ?_
    refine zz_callVi hx me_X4_can lk_X4_70 (c_can hst _ (by omega)) 0 rfl rfl ⟨rfl, rfl⟩ (by decide) (by decide) rfl rfl (Nat.le_of_ble_eq_true rfl) dX4_findOwner_14 (fun _ _ h => h.elim) (fun r14 w14 hp14 => ?_)
    obtain ⟨rfl, rfl⟩ := hp14
    refine zz_ifb_eq hx 30 dX4_findOwner_17 rfl (fun _ => ?_) (fun z => absurd z (by decide))
    refine zz_aload_n hx dX4_findOwner_30 rfl ?_
    refine zm_g18 hx lf_X4_57 dX4_findOwner_31 ?_
    rw [Fup_s]
    refine zz_if_ne hx 41 dX4_findOwner_34 rfl (by decide) (fun _ => ?_) (fun z => absurd z (by decide))
    refine zz_iconst hx dX4_findOwner_41 ?_
    exact zz_iret hx hf dX4_findOwner_42 (by first | exact ⟨_, rfl, 0, -1, Or.inl ⟨rfl, by omega, by rw [if_pos (by omega)], rfl⟩, Or.inl rfl, by rw [becF_none, becG_none]⟩ | exact ⟨_, rfl, 1, -1, Or.inr ⟨rfl, by omega, rfl⟩, Or.inl rfl, by rw [becF_none, becG_none]⟩) (by decide) (by decide)
  · refine zz_iconst hx dX4_findOwner_9 ?_
    refine zz_goto hx 14 dX4_findOwner_10 rfl ?_
    refine zz_callVi hx me_X4_can lk_X4_70 (c_can hst _ (by omega)) 0 rfl rfl ⟨rfl, rfl⟩ (by decide) (by decide) rfl rfl (Nat.le_of_ble_eq_true rfl) dX4_findOwner_14 (fun _ _ h => h.elim) (fun r14 w14 hp14 => ?_)
    obtain ⟨rfl, rfl⟩ := hp14
    refine zz_ifb_eq hx 30 dX4_findOwner_17 rfl (fun z => absurd rfl z) (fun _ => ?_)
    refine zz_aload_n hx dX4_findOwner_20 rfl ?_
    refine zm_g16 hx lf_X4_47 dX4_findOwner_21 ?_
    refine zz_iload_n hx dX4_findOwner_24 rfl ?_
    refine zm_l16 hx dX4_findOwner_25 (by omega) (by omega) ?_
    refine zz_iconst hx dX4_findOwner_26 ?_
    have hi16 := hin (by omega)
    refine zz_icmp_ne hx 43 dX4_findOwner_27 rfl (by omega) (by omega) (fun c27 => ?_) (fun c27 => ?_)
    · have hi16 := hin (by omega)
      have hcu2 := hcu (by omega) (by omega)
      refine zz_aload_n hx dX4_findOwner_43 rfl ?_
      refine zz_aload_n hx dX4_findOwner_44 rfl ?_
      refine zz_iload_n hx dX4_findOwner_45 rfl ?_
      refine zz_callVi hx me_X4_currentOwner lk_X4_88 (c_currentOwner (F := Fup F 18 0) hst (mS_18 h.1) _ (by omega) (show _ < F 0 by omega) (show G 16 _ = -1 ∨ 0 ≤ G 16 _ ∧ G 16 _ < F 6 by omega)) 0 rfl rfl ⟨rfl, rfl⟩ (by decide) (by decide) rfl rfl (Nat.le_of_ble_eq_true rfl) dX4_findOwner_46 (fun _ _ h => h.elim) (fun r46 w46 hp46 => ?_)
      obtain ⟨rfl, rfl⟩ := hp46
      refine zz_callVi hx me_X4_becomes lk_X4_96 (c_becomes (F := Fup F 18 0) hst (mS_18 h.1) _ (show _ = -1 ∨ 0 ≤ _ ∧ _ < F 6 by omega)) 0 rfl rfl ⟨rfl, rfl⟩ (by decide) (by decide) rfl rfl (Nat.le_of_ble_eq_true rfl) dX4_findOwner_49 (fun _ _ h => h.elim) (fun r49 w49 hp49 => ?_)
      obtain ⟨rfl, rfl⟩ := hp49
      exact zz_iret hx hf dX4_findOwner_52 ⟨_, rfl, 0, _, Or.inl ⟨rfl, by omega, by rw [if_neg (by omega)], rfl⟩, by omega, by rw [bec_18, becG_18]⟩ (by decide) (by decide)
    · refine zz_aload_n hx dX4_findOwner_30 rfl ?_
      refine zm_g18 hx lf_X4_57 dX4_findOwner_31 ?_
      rw [Fup_s]
      refine zz_if_ne hx 41 dX4_findOwner_34 rfl (by decide) (fun z => absurd rfl z) (fun _ => ?_)
      refine zz_iconst hx dX4_findOwner_37 ?_
      refine zz_goto hx 42 dX4_findOwner_38 rfl ?_
      exact zz_iret hx hf dX4_findOwner_42 (by first | exact ⟨_, rfl, 0, -1, Or.inl ⟨rfl, by omega, by rw [if_pos (by omega)], rfl⟩, Or.inl rfl, by rw [becF_none, becG_none]⟩ | exact ⟨_, rfl, 1, -1, Or.inr ⟨rfl, by omega, rfl⟩, Or.inl rfl, by rw [becF_none, becG_none]⟩) (by decide) (by decide)

set_option maxHeartbeats 4000000 in
set_option maxRecDepth 100000 in
theorem c_findEnd {l : Launch} {g : zG} {a : Nat → Nat} {F : Nat → Int} {G : Nat → Int → Int} {rest : va_W} (hst : l.stackTraces = false) {Rw : Int → List Int} (h : mI F G Rw) (s : Int) (hs : -2147483648 ≤ s ∧ s < 2147483648) (z : Int) (hz : z = 0 ∨ z = 1) : zM l g yX4_findEnd cX4_findEnd 4 (Option.some FieldType.int) ({ frames := 2, cells := 0, slots := 0, locals := 49 } : Room) [.ref (a 0), vi s, vi z] (mW g a F G rest) (zI fun v w => ∃ c f : Int, ((c = 0 ∧ (0 ≤ s ∧ s < F 0) ∧ (f = (if G 16 s = -1 then -1 else if z = 0 then zat (zmem G s (curO G s) (Rw s)) 0 else if 0 ≤ ((zmem G s (curO G s) (Rw s)).length : Int) - 1 then zat (zmem G s (curO G s) (Rw s)) (((zmem G s (curO G s) (Rw s)).length : Int) - 1) else -1)) ∧ v = f) ∨ (c = 1 ∧ ¬ (0 ≤ s ∧ s < F 0) ∧ f = -1)) ∧ (f = -1 ∨ 0 ≤ f ∧ f < F 6 ∧ G 8 f = 1) ∧ w = mW g a (Fup (becF F f) 18 c) (becG F G f) rest) zN 0 0 := by
  have hF0 := h.1.1
  have hF6 := h.1.2.1
  have hin := fun (z : 0 ≤ s ∧ s < F 0) => h.2.2.2 s z.1 (by omega)
  have hcu := fun (z : 0 ≤ s ∧ s < F 0) (q : G 16 s ≠ -1) => curO_ok h z.1 z.2 q
  refine zM_of (lv0 := [(0, _), (1, _), (2, _)]) hst rfl (by decide +kernel) (Nat.le_of_ble_eq_true rfl) rfl (fun x hx hf hn => ?_)
  refine zz_aload_n hx dX4_findEnd_0 rfl ?_
  refine zz_aload_n hx dX4_findEnd_1 rfl ?_
  refine zz_iload_n hx dX4_findEnd_2 rfl ?_
  refine zz_callVi hx me_X4_isSet lk_X4_109 (c_isSet hst _ (by omega) hF0) 0 rfl rfl ⟨rfl, rfl⟩ (by decide) (by decide) rfl rfl (Nat.le_of_ble_eq_true rfl) dX4_findEnd_3 (fun _ _ h => h.elim) (fun r3 w3 hp3 => ?_)
  obtain ⟨rfl, rfl⟩ := hp3
  refine zz_ifb_eq hx 13 dX4_findEnd_6 rfl (fun c6 => ?_) (fun c6 => ?_)
  · refine zz_iconst hx dX4_findEnd_13 ?_
    refine zz_callVi hx me_X4_can lk_X4_70 (c_can hst _ (by omega)) 0 rfl rfl ⟨rfl, rfl⟩ (by decide) (by decide) rfl rfl (Nat.le_of_ble_eq_true rfl) dX4_findEnd_14 (fun _ _ h => h.elim) (fun r14 w14 hp14 => ?_)
    obtain ⟨rfl, rfl⟩ := hp14
    refine zz_ifb_eq hx 30 dX4_findEnd_17 rfl (fun _ => ?_) (fun z => absurd z (by decide))
    refine zz_aload_n hx dX4_findEnd_30 rfl ?_
    refine zm_g18 hx lf_X4_57 dX4_findEnd_31 ?_
    rw [Fup_s]
    refine zz_if_ne hx 41 dX4_findEnd_34 rfl (by decide) (fun _ => ?_) (fun z => absurd z (by decide))
    refine zz_iconst hx dX4_findEnd_41 ?_
    exact zz_iret hx hf dX4_findEnd_42 (by first | exact ⟨_, rfl, 0, -1, Or.inl ⟨rfl, by omega, by rw [if_pos (by omega)], rfl⟩, Or.inl rfl, by rw [becF_none, becG_none]⟩ | exact ⟨_, rfl, 1, -1, Or.inr ⟨rfl, by omega, rfl⟩, Or.inl rfl, by rw [becF_none, becG_none]⟩) (by decide) (by decide)
  · refine zz_iconst hx dX4_findEnd_9 ?_
    refine zz_goto hx 14 dX4_findEnd_10 rfl ?_
    refine zz_callVi hx me_X4_can lk_X4_70 (c_can hst _ (by omega)) 0 rfl rfl ⟨rfl, rfl⟩ (by decide) (by decide) rfl rfl (Nat.le_of_ble_eq_true rfl) dX4_findEnd_14 (fun _ _ h => h.elim) (fun r14 w14 hp14 => ?_)
    obtain ⟨rfl, rfl⟩ := hp14
    refine zz_ifb_eq hx 30 dX4_findEnd_17 rfl (fun z => absurd rfl z) (fun _ => ?_)
    refine zz_aload_n hx dX4_findEnd_20 rfl ?_
    refine zm_g16 hx lf_X4_47 dX4_findEnd_21 ?_
    refine zz_iload_n hx dX4_findEnd_24 rfl ?_
    refine zm_l16 hx dX4_findEnd_25 (by omega) (by omega) ?_
    refine zz_iconst hx dX4_findEnd_26 ?_
    have hi16 := hin (by omega)
    refine zz_icmp_ne hx 43 dX4_findEnd_27 rfl (by omega) (by omega) (fun c27 => ?_) (fun c27 => ?_)
    · have hi16 := hin (by omega)
      have hcu2 := hcu (by omega) (by omega)
      have hz0 := zmem_at h.1 (s := s) (o := curO G s) (by omega) (by omega) 0
      have hz1 := zmem_at h.1 (s := s) (o := curO G s) (by omega) (by omega) (((zmem G s (curO G s) (Rw s)).length : Int) - 1)
      have hzl := zmem_len h.1 (s := s) (o := curO G s) (by omega) (by omega)
      refine zz_aload_n hx dX4_findEnd_43 rfl ?_
      refine zz_iload_n hx dX4_findEnd_44 rfl ?_
      refine zz_callVi hx me_X4_currentOwner lk_X4_88 (c_currentOwner (F := Fup F 18 0) hst (mS_18 h.1) _ (by omega) (show _ < F 0 by omega) (show G 16 _ = -1 ∨ 0 ≤ G 16 _ ∧ G 16 _ < F 6 by omega)) 0 rfl rfl ⟨rfl, rfl⟩ (by decide) (by decide) rfl rfl (Nat.le_of_ble_eq_true rfl) dX4_findEnd_45 (fun _ _ h => h.elim) (fun r45 w45 hp45 => ?_)
      obtain ⟨rfl, rfl⟩ := hp45
      refine zz_istore_n (lv' := [(0, _), (1, _), (2, _), (3, _)]) hx dX4_findEnd_48 (by decide) rfl ?_
      refine zz_aload_n hx dX4_findEnd_49 rfl ?_
      refine zz_aload_n hx dX4_findEnd_50 rfl ?_
      refine zz_iload_n hx dX4_findEnd_51 rfl ?_
      refine zz_iload_n hx dX4_findEnd_52 rfl ?_
      refine zz_iload_n hx dX4_findEnd_53 rfl ?_
      refine zz_if_eq hx 68 dX4_findEnd_54 rfl (by omega) (fun c54 => ?_) (fun c54 => ?_)
      · refine zz_iconst hx dX4_findEnd_68 ?_
        refine zz_callVi hx me_X4_memberOf lk_X4_118 (c_memberOf (F := Fup F 18 0) hst (mS_18 h.1) _ _ _ (by omega) (show _ < F 0 by omega) (by omega) (by omega)) 0 rfl rfl ⟨rfl, rfl⟩ (by decide) (by decide) rfl rfl (Nat.le_of_ble_eq_true rfl) dX4_findEnd_69 (fun _ _ h => h.elim) (fun r69 w69 hp69 => ?_)
        obtain ⟨rfl, rfl⟩ := hp69
        first | rw [if_pos (by omega)] | skip
        refine zz_callVi hx me_X4_becomes lk_X4_96 (c_becomes (F := Fup F 18 0) hst (mS_18 h.1) _ (by first | (show _ = -1 ∨ 0 ≤ _ ∧ _ < F 6; omega) | (split <;> (show _ = -1 ∨ 0 ≤ _ ∧ _ < F 6; omega)))) 0 rfl rfl ⟨rfl, rfl⟩ (by decide) (by decide) rfl rfl (Nat.le_of_ble_eq_true rfl) dX4_findEnd_72 (fun _ _ h => h.elim) (fun r72 w72 hp72 => ?_)
        obtain ⟨rfl, rfl⟩ := hp72
        exact zz_iret hx hf dX4_findEnd_75 ⟨_, rfl, 0, _, Or.inl ⟨rfl, by omega, by first | rw [if_neg (show ¬ G 16 s = -1 by omega), if_pos (show z = 0 by omega)] | rw [if_neg (show ¬ G 16 s = -1 by omega), if_neg (show ¬ z = 0 by omega)], rfl⟩, by first | omega | (split <;> omega), by rw [bec_18, becG_18]⟩ (by decide) (by decide)
      · refine zz_aload_n hx dX4_findEnd_57 rfl ?_
        refine zz_iload_n hx dX4_findEnd_58 rfl ?_
        refine zz_iload_n hx dX4_findEnd_59 rfl ?_
        refine zz_callVi hx me_X4_membersOf lk_X4_112 (c_membersOf (F := Fup F 18 0) hst (mS_18 h.1) _ _ (by omega) (show _ < F 0 by omega) (by omega)) 0 rfl rfl ⟨rfl, rfl⟩ (by decide) (by decide) rfl rfl (Nat.le_of_ble_eq_true rfl) dX4_findEnd_60 (fun _ _ h => h.elim) (fun r60 w60 hp60 => ?_)
        obtain ⟨rfl, rfl⟩ := hp60
        refine zz_iconst hx dX4_findEnd_63 ?_
        refine zz_isub hx dX4_findEnd_64 ?_
        refine zz_goto hx 69 dX4_findEnd_65 rfl ?_
        refine zz_callVi hx me_X4_memberOf lk_X4_118 (c_memberOf (F := Fup F 18 0) hst (mS_18 h.1) _ _ _ (by omega) (show _ < F 0 by omega) (by omega) (by omega)) 0 rfl rfl ⟨rfl, rfl⟩ (by decide) (by decide) rfl rfl (Nat.le_of_ble_eq_true rfl) dX4_findEnd_69 (fun _ _ h => h.elim) (fun r69 w69 hp69 => ?_)
        obtain ⟨rfl, rfl⟩ := hp69
        first | rw [if_pos (by omega)] | skip
        refine zz_callVi hx me_X4_becomes lk_X4_96 (c_becomes (F := Fup F 18 0) hst (mS_18 h.1) _ (by first | (show _ = -1 ∨ 0 ≤ _ ∧ _ < F 6; omega) | (split <;> (show _ = -1 ∨ 0 ≤ _ ∧ _ < F 6; omega)))) 0 rfl rfl ⟨rfl, rfl⟩ (by decide) (by decide) rfl rfl (Nat.le_of_ble_eq_true rfl) dX4_findEnd_72 (fun _ _ h => h.elim) (fun r72 w72 hp72 => ?_)
        obtain ⟨rfl, rfl⟩ := hp72
        exact zz_iret hx hf dX4_findEnd_75 ⟨_, rfl, 0, _, Or.inl ⟨rfl, by omega, by first | rw [if_neg (show ¬ G 16 s = -1 by omega), if_pos (show z = 0 by omega)] | rw [if_neg (show ¬ G 16 s = -1 by omega), if_neg (show ¬ z = 0 by omega)], rfl⟩, by first | omega | (split <;> omega), by rw [bec_18, becG_18]⟩ (by decide) (by decide)
    · refine zz_aload_n hx dX4_findEnd_30 rfl ?_
      refine zm_g18 hx lf_X4_57 dX4_findEnd_31 ?_
      rw [Fup_s]
      refine zz_if_ne hx 41 dX4_findEnd_34 rfl (by decide) (fun z => absurd rfl z) (fun _ => ?_)
      refine zz_iconst hx dX4_findEnd_37 ?_
      refine zz_goto hx 42 dX4_findEnd_38 rfl ?_
      exact zz_iret hx hf dX4_findEnd_42 (by first | exact ⟨_, rfl, 0, -1, Or.inl ⟨rfl, by omega, by rw [if_pos (by omega)], rfl⟩, Or.inl rfl, by rw [becF_none, becG_none]⟩ | exact ⟨_, rfl, 1, -1, Or.inr ⟨rfl, by omega, rfl⟩, Or.inl rfl, by rw [becF_none, becG_none]⟩) (by decide) (by decide)

set_option maxHeartbeats 4000000 in
set_option maxRecDepth 100000 in
theorem c_findNext {l : Launch} {g : zG} {a : Nat → Nat} {F : Nat → Int} {G : Nat → Int → Int} {rest : va_W} (hst : l.stackTraces = false) {Rw : Int → List Int} (h : mI F G Rw) (s : Int) (hs : -2147483648 ≤ s ∧ s < 2147483648) (z : Int) (hz : z = 0 ∨ z = 1) : zM l g yX4_findNext cX4_findNext 7 (Option.some FieldType.int) ({ frames := 2, cells := 0, slots := 0, locals := 49 } : Room) [.ref (a 0), vi s, vi z] (mW g a F G rest) (zI fun v w => ∃ c f : Int, ((c = 0 ∧ (0 ≤ s ∧ s < F 0) ∧ ((G 16 s = -1 → f = -1) ∧ (G 16 s ≠ -1 → ∃ pl : Int, ((0 ≤ pl ∧ pl < ((zmem G s (curO G s) (Rw s)).length : Int) ∧ zat (zmem G s (curO G s) (Rw s)) pl = G 16 s) ∨ ((∀ k : Int, 0 ≤ k → k < ((zmem G s (curO G s) (Rw s)).length : Int) → zat (zmem G s (curO G s) (Rw s)) k ≠ G 16 s) ∧ pl = if z = 0 then -1 else ((zmem G s (curO G s) (Rw s)).length : Int))) ∧ f = if 0 ≤ (if z = 0 then pl + 1 else pl - 1) then zat (zmem G s (curO G s) (Rw s)) (if z = 0 then pl + 1 else pl - 1) else -1)) ∧ v = f) ∨ (c = 1 ∧ ¬ (0 ≤ s ∧ s < F 0) ∧ f = -1)) ∧ (f = -1 ∨ 0 ≤ f ∧ f < F 6 ∧ G 8 f = 1) ∧ w = mW g a (Fup (becF F f) 18 c) (becG F G f) rest) zN 0 0 := by
  have hF0 := h.1.1
  have hF6 := h.1.2.1
  have hin := fun (z : 0 ≤ s ∧ s < F 0) => h.2.2.2 s z.1 (by omega)
  have hcu := fun (z : 0 ≤ s ∧ s < F 0) (q : G 16 s ≠ -1) => curO_ok h z.1 z.2 q
  refine zM_of (lv0 := [(0, _), (1, _), (2, _)]) hst rfl (by decide +kernel) (Nat.le_of_ble_eq_true rfl) rfl (fun x hx hf hn => ?_)
  have loop : ∀ (m : Nat) (j pl : Int), 0 ≤ s ∧ s < F 0 → G 16 s ≠ -1 → 0 ≤ j → j ≤ ((zmem G s (curO G s) (Rw s)).length : Int) → ((0 ≤ pl ∧ pl < ((zmem G s (curO G s) (Rw s)).length : Int) ∧ zat (zmem G s (curO G s) (Rw s)) pl = G 16 s) ∨ ((∀ k : Int, 0 ≤ k → k < j → zat (zmem G s (curO G s) (Rw s)) k ≠ G 16 s) ∧ pl = if z = 0 then -1 else ((zmem G s (curO G s) (Rw s)).length : Int))) → (((zmem G s (curO G s) (Rw s)).length : Int) - j).toNat < m → Z l g ({ frames := 2, cells := 0, slots := 0, locals := 49 } : Room) 7 x 0 0 (mW g a (Fup F 18 0) G rest) 72 [(0, .ref (a 0)), (1, vi s), (2, vi z), (3, vi (curO G s)), (4, vi ((zmem G s (curO G s) (Rw s)).length : Int)), (5, vi pl), (6, vi j)] [] := by
    intro m
    induction m with
    | zero => intro j pl hs0 hi h0 h1 hp hm; omega
    | succ m ih =>
      intro j pl hs0 hi h0 h1 hp hm
      have hi16 := hin hs0
      have hcu2 := hcu hs0 hi
      have hzl := zmem_len h.1 (s := s) (o := curO G s) (by omega) (by omega)
      have hza := fun d => zmem_at h.1 (s := s) (o := curO G s) (by omega) (by omega) d
      have hpl : -1 ≤ pl ∧ pl ≤ ((zmem G s (curO G s) (Rw s)).length : Int) := by
        rcases hp with q | ⟨-, q⟩
        · omega
        · split at q <;> omega
      refine zz_iload hx dX4_findNext_72 rfl ?_
      refine zz_iload hx dX4_findNext_74 rfl ?_
      refine zz_icmp_ge hx 111 dX4_findNext_76 rfl (by omega) (by omega) (fun c76 => ?_) (fun c76 => ?_)
      · refine zz_aload_n hx dX4_findNext_111 rfl ?_
        refine zz_aload_n hx dX4_findNext_112 rfl ?_
        refine zz_iload_n hx dX4_findNext_113 rfl ?_
        refine zz_iload_n hx dX4_findNext_114 rfl ?_
        refine zz_iload_n hx dX4_findNext_115 rfl ?_
        refine zz_if_eq hx 126 dX4_findNext_116 rfl (by omega) (fun c116 => ?_) (fun c116 => ?_)
        · refine zz_iload hx dX4_findNext_126 rfl ?_
          refine zz_iconst hx dX4_findNext_128 ?_
          refine zz_iadd hx dX4_findNext_129 ?_
          first | rw [show pl - 1 = (if z = 0 then pl + 1 else pl - 1) by rw [if_neg c116]] | rw [show pl + 1 = (if z = 0 then pl + 1 else pl - 1) by rw [if_pos c116]]
          have hdr : -1000 ≤ (if z = 0 then pl + 1 else pl - 1) ∧ (if z = 0 then pl + 1 else pl - 1) ≤ 1000 := by split <;> omega
          generalize hdd : (if z = 0 then pl + 1 else pl - 1) = dd at hdr ⊢
          refine zz_callVi hx me_X4_memberOf lk_X4_118 (c_memberOf (F := Fup F 18 0) hst (mS_18 h.1) _ _ dd (by omega) (show _ < F 0 by omega) (by omega) hdr) 0 rfl rfl ⟨rfl, rfl⟩ (by decide) (by decide) rfl rfl (Nat.le_of_ble_eq_true rfl) dX4_findNext_130 (fun _ _ h => h.elim) (fun r130 w130 hp130 => ?_)
          obtain ⟨rfl, rfl⟩ := hp130
          refine zz_callVi hx me_X4_becomes lk_X4_96 (c_becomes (F := Fup F 18 0) hst (mS_18 h.1) _ (by have q1 := hza dd; split <;> (show _ = -1 ∨ 0 ≤ _ ∧ _ < F 6; omega))) 0 rfl rfl ⟨rfl, rfl⟩ (by decide) (by decide) rfl rfl (Nat.le_of_ble_eq_true rfl) dX4_findNext_133 (fun _ _ h => h.elim) (fun r133 w133 hp133 => ?_)
          obtain ⟨rfl, rfl⟩ := hp133
          exact zz_iret hx hf dX4_findNext_136 ⟨_, rfl, 0, _, Or.inl ⟨rfl, by omega, ⟨fun q => absurd q hi, fun _ => ⟨pl, by rw [show j = ((zmem G s (curO G s) (Rw s)).length : Int) by omega] at hp; exact hp, by rw [hdd]⟩⟩, rfl⟩, by have q1 := hza dd; split <;> omega, by rw [bec_18, becG_18]⟩ (by decide) (by decide)
        · refine zz_iload hx dX4_findNext_119 rfl ?_
          refine zz_iconst hx dX4_findNext_121 ?_
          refine zz_isub hx dX4_findNext_122 ?_
          refine zz_goto hx 130 dX4_findNext_123 rfl ?_
          first | rw [show pl - 1 = (if z = 0 then pl + 1 else pl - 1) by rw [if_neg c116]] | rw [show pl + 1 = (if z = 0 then pl + 1 else pl - 1) by rw [if_pos c116]]
          have hdr : -1000 ≤ (if z = 0 then pl + 1 else pl - 1) ∧ (if z = 0 then pl + 1 else pl - 1) ≤ 1000 := by split <;> omega
          generalize hdd : (if z = 0 then pl + 1 else pl - 1) = dd at hdr ⊢
          refine zz_callVi hx me_X4_memberOf lk_X4_118 (c_memberOf (F := Fup F 18 0) hst (mS_18 h.1) _ _ dd (by omega) (show _ < F 0 by omega) (by omega) hdr) 0 rfl rfl ⟨rfl, rfl⟩ (by decide) (by decide) rfl rfl (Nat.le_of_ble_eq_true rfl) dX4_findNext_130 (fun _ _ h => h.elim) (fun r130 w130 hp130 => ?_)
          obtain ⟨rfl, rfl⟩ := hp130
          refine zz_callVi hx me_X4_becomes lk_X4_96 (c_becomes (F := Fup F 18 0) hst (mS_18 h.1) _ (by have q1 := hza dd; split <;> (show _ = -1 ∨ 0 ≤ _ ∧ _ < F 6; omega))) 0 rfl rfl ⟨rfl, rfl⟩ (by decide) (by decide) rfl rfl (Nat.le_of_ble_eq_true rfl) dX4_findNext_133 (fun _ _ h => h.elim) (fun r133 w133 hp133 => ?_)
          obtain ⟨rfl, rfl⟩ := hp133
          exact zz_iret hx hf dX4_findNext_136 ⟨_, rfl, 0, _, Or.inl ⟨rfl, by omega, ⟨fun q => absurd q hi, fun _ => ⟨pl, by rw [show j = ((zmem G s (curO G s) (Rw s)).length : Int) by omega] at hp; exact hp, by rw [hdd]⟩⟩, rfl⟩, by have q1 := hza dd; split <;> omega, by rw [bec_18, becG_18]⟩ (by decide) (by decide)
      · refine zz_aload_n hx dX4_findNext_79 rfl ?_
        refine zz_iload_n hx dX4_findNext_80 rfl ?_
        refine zz_iload_n hx dX4_findNext_81 rfl ?_
        refine zz_iload hx dX4_findNext_82 rfl ?_
        refine zz_callVi hx me_X4_memberOf lk_X4_118 (c_memberOf (F := Fup F 18 0) hst (mS_18 h.1) _ _ _ (by omega) (show _ < F 0 by omega) (by omega) (by omega)) 0 rfl rfl ⟨rfl, rfl⟩ (by decide) (by decide) rfl rfl (Nat.le_of_ble_eq_true rfl) dX4_findNext_84 (fun _ _ h => h.elim) (fun r84 w84 hp84 => ?_)
        obtain ⟨rfl, rfl⟩ := hp84
        refine zz_aload_n hx dX4_findNext_87 rfl ?_
        refine zm_g16 hx lf_X4_47 dX4_findNext_88 ?_
        refine zz_iload_n hx dX4_findNext_91 rfl ?_
        refine zm_l16 hx dX4_findNext_92 (by omega) (by omega) ?_
        have hj := hza j
        rw [if_pos h0]
        refine zz_icmp_ne hx 101 dX4_findNext_93 rfl (by omega) (by omega) (fun c93 => ?_) (fun c93 => ?_)
        · refine zz_iload hx dX4_findNext_101 rfl ?_
          refine zz_istore (lv' := [(0, _), (1, _), (2, _), (3, _), (4, _), (5, _), (6, _)]) hx dX4_findNext_103 (by decide) rfl ?_
          refine zz_iinc (lv' := [(0, _), (1, _), (2, _), (3, _), (4, _), (5, _), (6, _)]) hx dX4_findNext_105 (by decide) rfl rfl ?_
          refine zz_goto hx 72 dX4_findNext_108 rfl ?_
          first
            | exact ih (j + 1) j hs0 hi (by omega) (by omega) (Or.inl ⟨h0, by omega, c93⟩) (by omega)
            | (refine ih (j + 1) pl hs0 hi (by omega) (by omega) ?_ (by omega)
               rcases hp with q | ⟨q1, q2⟩
               · exact Or.inl q
               · refine Or.inr ⟨fun k k0 k1 => ?_, q2⟩
                 rcases Int.lt_or_eq_of_le (show k ≤ j by omega) with y | y
                 · exact q1 k k0 y
                 · rw [y]; exact c93)
        · refine zz_iload hx dX4_findNext_96 rfl ?_
          refine zz_goto hx 103 dX4_findNext_98 rfl ?_
          refine zz_istore (lv' := [(0, _), (1, _), (2, _), (3, _), (4, _), (5, _), (6, _)]) hx dX4_findNext_103 (by decide) rfl ?_
          refine zz_iinc (lv' := [(0, _), (1, _), (2, _), (3, _), (4, _), (5, _), (6, _)]) hx dX4_findNext_105 (by decide) rfl rfl ?_
          refine zz_goto hx 72 dX4_findNext_108 rfl ?_
          first
            | exact ih (j + 1) j hs0 hi (by omega) (by omega) (Or.inl ⟨h0, by omega, c93⟩) (by omega)
            | (refine ih (j + 1) pl hs0 hi (by omega) (by omega) ?_ (by omega)
               rcases hp with q | ⟨q1, q2⟩
               · exact Or.inl q
               · refine Or.inr ⟨fun k k0 k1 => ?_, q2⟩
                 rcases Int.lt_or_eq_of_le (show k ≤ j by omega) with y | y
                 · exact q1 k k0 y
                 · rw [y]; exact c93)
  refine zz_aload_n hx dX4_findNext_0 rfl ?_
  refine zz_aload_n hx dX4_findNext_1 rfl ?_
  refine zz_iload_n hx dX4_findNext_2 rfl ?_
  refine zz_callVi hx me_X4_isSet lk_X4_109 (c_isSet hst _ (by omega) hF0) 0 rfl rfl ⟨rfl, rfl⟩ (by decide) (by decide) rfl rfl (Nat.le_of_ble_eq_true rfl) dX4_findNext_3 (fun _ _ h => h.elim) (fun r3 w3 hp3 => ?_)
  obtain ⟨rfl, rfl⟩ := hp3
  refine zz_ifb_eq hx 13 dX4_findNext_6 rfl (fun c6 => ?_) (fun c6 => ?_)
  · refine zz_iconst hx dX4_findNext_13 ?_
    refine zz_callVi hx me_X4_can lk_X4_70 (c_can hst _ (by omega)) 0 rfl rfl ⟨rfl, rfl⟩ (by decide) (by decide) rfl rfl (Nat.le_of_ble_eq_true rfl) dX4_findNext_14 (fun _ _ h => h.elim) (fun r14 w14 hp14 => ?_)
    obtain ⟨rfl, rfl⟩ := hp14
    refine zz_ifb_eq hx 30 dX4_findNext_17 rfl (fun _ => ?_) (fun z => absurd z (by decide))
    refine zz_aload_n hx dX4_findNext_30 rfl ?_
    refine zm_g18 hx lf_X4_57 dX4_findNext_31 ?_
    rw [Fup_s]
    refine zz_if_ne hx 41 dX4_findNext_34 rfl (by decide) (fun _ => ?_) (fun z => absurd z (by decide))
    refine zz_iconst hx dX4_findNext_41 ?_
    exact zz_iret hx hf dX4_findNext_42 (by first | exact ⟨_, rfl, 0, -1, Or.inl ⟨rfl, by omega, ⟨fun _ => rfl, fun q => absurd (show G 16 s = -1 by omega) q⟩, rfl⟩, Or.inl rfl, by rw [becF_none, becG_none]⟩ | exact ⟨_, rfl, 1, -1, Or.inr ⟨rfl, by omega, rfl⟩, Or.inl rfl, by rw [becF_none, becG_none]⟩) (by decide) (by decide)
  · refine zz_iconst hx dX4_findNext_9 ?_
    refine zz_goto hx 14 dX4_findNext_10 rfl ?_
    refine zz_callVi hx me_X4_can lk_X4_70 (c_can hst _ (by omega)) 0 rfl rfl ⟨rfl, rfl⟩ (by decide) (by decide) rfl rfl (Nat.le_of_ble_eq_true rfl) dX4_findNext_14 (fun _ _ h => h.elim) (fun r14 w14 hp14 => ?_)
    obtain ⟨rfl, rfl⟩ := hp14
    refine zz_ifb_eq hx 30 dX4_findNext_17 rfl (fun z => absurd rfl z) (fun _ => ?_)
    refine zz_aload_n hx dX4_findNext_20 rfl ?_
    refine zm_g16 hx lf_X4_47 dX4_findNext_21 ?_
    refine zz_iload_n hx dX4_findNext_24 rfl ?_
    refine zm_l16 hx dX4_findNext_25 (by omega) (by omega) ?_
    refine zz_iconst hx dX4_findNext_26 ?_
    have hi16 := hin (by omega)
    refine zz_icmp_ne hx 43 dX4_findNext_27 rfl (by omega) (by omega) (fun c27 => ?_) (fun c27 => ?_)
    · have hi16 := hin (by omega)
      have hcu2 := hcu (by omega) (by omega)
      have hzl := zmem_len h.1 (s := s) (o := curO G s) (by omega) (by omega)
      have hza := fun d => zmem_at h.1 (s := s) (o := curO G s) (by omega) (by omega) d
      refine zz_aload_n hx dX4_findNext_43 rfl ?_
      refine zz_iload_n hx dX4_findNext_44 rfl ?_
      refine zz_callVi hx me_X4_currentOwner lk_X4_88 (c_currentOwner (F := Fup F 18 0) hst (mS_18 h.1) _ (by omega) (show _ < F 0 by omega) (show G 16 _ = -1 ∨ 0 ≤ G 16 _ ∧ G 16 _ < F 6 by omega)) 0 rfl rfl ⟨rfl, rfl⟩ (by decide) (by decide) rfl rfl (Nat.le_of_ble_eq_true rfl) dX4_findNext_45 (fun _ _ h => h.elim) (fun r45 w45 hp45 => ?_)
      obtain ⟨rfl, rfl⟩ := hp45
      refine zz_istore_n (lv' := [(0, _), (1, _), (2, _), (3, _)]) hx dX4_findNext_48 (by decide) rfl ?_
      refine zz_aload_n hx dX4_findNext_49 rfl ?_
      refine zz_iload_n hx dX4_findNext_50 rfl ?_
      refine zz_iload_n hx dX4_findNext_51 rfl ?_
      refine zz_callVi hx me_X4_membersOf lk_X4_112 (c_membersOf (F := Fup F 18 0) hst (mS_18 h.1) _ _ (by omega) (show _ < F 0 by omega) (by omega)) 0 rfl rfl ⟨rfl, rfl⟩ (by decide) (by decide) rfl rfl (Nat.le_of_ble_eq_true rfl) dX4_findNext_52 (fun _ _ h => h.elim) (fun r52 w52 hp52 => ?_)
      obtain ⟨rfl, rfl⟩ := hp52
      refine zz_istore (lv' := [(0, _), (1, _), (2, _), (3, _), (4, _)]) hx dX4_findNext_55 (by decide) rfl ?_
      refine zz_iload_n hx dX4_findNext_57 rfl ?_
      refine zz_if_eq hx 66 dX4_findNext_58 rfl (by omega) (fun c58 => ?_) (fun c58 => ?_)
      · refine zz_iconst hx dX4_findNext_66 ?_
        refine zz_istore (lv' := [(0, _), (1, _), (2, _), (3, _), (4, _), (5, _)]) hx dX4_findNext_67 (by decide) rfl ?_
        refine zz_iconst hx dX4_findNext_69 ?_
        refine zz_istore (lv' := [(0, _), (1, _), (2, _), (3, _), (4, _), (5, _), (6, _)]) hx dX4_findNext_70 (by decide) rfl ?_
        first
          | exact loop (((zmem G s (curO G s) (Rw s)).length : Int).toNat + 1) 0 (-1) (by omega) (by omega) (by omega) (by omega) (Or.inr ⟨fun k _ _ => by omega, by rw [if_pos c58]⟩) (by omega)
          | exact loop (((zmem G s (curO G s) (Rw s)).length : Int).toNat + 1) 0 ((zmem G s (curO G s) (Rw s)).length : Int) (by omega) (by omega) (by omega) (by omega) (Or.inr ⟨fun k _ _ => by omega, by rw [if_neg c58]⟩) (by omega)
      · refine zz_iload hx dX4_findNext_61 rfl ?_
        refine zz_goto hx 67 dX4_findNext_63 rfl ?_
        refine zz_istore (lv' := [(0, _), (1, _), (2, _), (3, _), (4, _), (5, _)]) hx dX4_findNext_67 (by decide) rfl ?_
        refine zz_iconst hx dX4_findNext_69 ?_
        refine zz_istore (lv' := [(0, _), (1, _), (2, _), (3, _), (4, _), (5, _), (6, _)]) hx dX4_findNext_70 (by decide) rfl ?_
        first
          | exact loop (((zmem G s (curO G s) (Rw s)).length : Int).toNat + 1) 0 (-1) (by omega) (by omega) (by omega) (by omega) (Or.inr ⟨fun k _ _ => by omega, by rw [if_pos c58]⟩) (by omega)
          | exact loop (((zmem G s (curO G s) (Rw s)).length : Int).toNat + 1) 0 ((zmem G s (curO G s) (Rw s)).length : Int) (by omega) (by omega) (by omega) (by omega) (Or.inr ⟨fun k _ _ => by omega, by rw [if_neg c58]⟩) (by omega)
    · refine zz_aload_n hx dX4_findNext_30 rfl ?_
      refine zm_g18 hx lf_X4_57 dX4_findNext_31 ?_
      rw [Fup_s]
      refine zz_if_ne hx 41 dX4_findNext_34 rfl (by decide) (fun z => absurd rfl z) (fun _ => ?_)
      refine zz_iconst hx dX4_findNext_37 ?_
      refine zz_goto hx 42 dX4_findNext_38 rfl ?_
      exact zz_iret hx hf dX4_findNext_42 (by first | exact ⟨_, rfl, 0, -1, Or.inl ⟨rfl, by omega, ⟨fun _ => rfl, fun q => absurd (show G 16 s = -1 by omega) q⟩, rfl⟩, Or.inl rfl, by rw [becF_none, becG_none]⟩ | exact ⟨_, rfl, 1, -1, Or.inr ⟨rfl, by omega, rfl⟩, Or.inl rfl, by rw [becF_none, becG_none]⟩) (by decide) (by decide)

set_option maxHeartbeats 4000000 in
set_option maxRecDepth 100000 in
theorem c_findValue {l : Launch} {g : zG} {a : Nat → Nat} {F : Nat → Int} {G : Nat → Int → Int} {rest : va_W} (hst : l.stackTraces = false) {Rw : Int → List Int} (h : mI F G Rw) (s : Int) (hs : -2147483648 ≤ s ∧ s < 2147483648) (z : Int) (hz : -2147483648 ≤ z ∧ z < 2147483648) : zM l g yX4_findValue cX4_findValue 7 (Option.some FieldType.int) ({ frames := 2, cells := 0, slots := 0, locals := 49 } : Room) [.ref (a 0), vi s, vi z] (mW g a F G rest) (zI fun v w => ∃ c f : Int, ((c = 0 ∧ (0 ≤ s ∧ s < F 0) ∧ ((G 16 s = -1 → f = -1) ∧ (G 16 s ≠ -1 → (f = -1 ∧ ∀ k : Int, 0 ≤ k → k < ((zmem G s (curO G s) (Rw s)).length : Int) → G 10 (zat (zmem G s (curO G s) (Rw s)) k) ≠ z) ∨ ∃ k : Int, 0 ≤ k ∧ k < ((zmem G s (curO G s) (Rw s)).length : Int) ∧ f = zat (zmem G s (curO G s) (Rw s)) k ∧ G 10 f = z ∧ ∀ j : Int, 0 ≤ j → j < k → G 10 (zat (zmem G s (curO G s) (Rw s)) j) ≠ z)) ∧ v = f) ∨ (c = 1 ∧ ¬ (0 ≤ s ∧ s < F 0) ∧ f = -1)) ∧ (f = -1 ∨ 0 ≤ f ∧ f < F 6 ∧ G 8 f = 1) ∧ w = mW g a (Fup (becF F f) 18 c) (becG F G f) rest) zN 0 0 := by
  have hF0 := h.1.1
  have hF6 := h.1.2.1
  have hin := fun (z : 0 ≤ s ∧ s < F 0) => h.2.2.2 s z.1 (by omega)
  have hcu := fun (z : 0 ≤ s ∧ s < F 0) (q : G 16 s ≠ -1) => curO_ok h z.1 z.2 q
  refine zM_of (lv0 := [(0, _), (1, _), (2, _)]) hst rfl (by decide +kernel) (Nat.le_of_ble_eq_true rfl) rfl (fun x hx hf hn => ?_)
  have loop : ∀ (m : Nat) (j f : Int) (v6 : List (Nat × Value)), 0 ≤ s ∧ s < F 0 → G 16 s ≠ -1 → -1 ≤ j → j < ((zmem G s (curO G s) (Rw s)).length : Int) → (f = -1 ∨ 0 ≤ f ∧ f < F 6 ∧ G 8 f = 1) → ((f = -1 ∧ ∀ k : Int, j < k → k < ((zmem G s (curO G s) (Rw s)).length : Int) → G 10 (zat (zmem G s (curO G s) (Rw s)) k) ≠ z) ∨ ∃ k : Int, j < k ∧ k < ((zmem G s (curO G s) (Rw s)).length : Int) ∧ f = zat (zmem G s (curO G s) (Rw s)) k ∧ G 10 f = z ∧ ∀ i : Int, j < i → i < k → G 10 (zat (zmem G s (curO G s) (Rw s)) i) ≠ z) → (j + 1).toNat < m → Z l g ({ frames := 2, cells := 0, slots := 0, locals := 49 } : Room) 7 x 0 0 (mW g a (Fup F 18 0) G rest) 62 ([(0, .ref (a 0)), (1, vi s), (2, vi z), (3, vi (curO G s)), (4, vi f), (5, vi j)] ++ v6) [] := by
    intro m
    induction m with
    | zero => intro j f v6 hs0 hi h0 h1 hf0 hp hm; omega
    | succ m ih =>
      intro j f v6 hs0 hi h0 h1 hf0 hp hm
      have hi16 := hin hs0
      have hcu2 := hcu hs0 hi
      have hzl := zmem_len h.1 (s := s) (o := curO G s) (by omega) (by omega)
      refine zz_sub (lv' := [(0, .ref (a 0)), (1, vi s), (2, vi z), (3, vi (curO G s)), (4, vi f), (5, vi j)]) (fun q hq => List.mem_append_left _ hq) ?_
      refine zz_iload hx dX4_findValue_62 rfl ?_
      refine zz_if_lt hx 103 dX4_findValue_64 rfl (by omega) (fun c64 => ?_) (fun c64 => ?_)
      · have hj1 : j = -1 := by omega
        subst hj1
        have hp2 : (f = -1 ∧ ∀ k : Int, 0 ≤ k → k < ((zmem G s (curO G s) (Rw s)).length : Int) → G 10 (zat (zmem G s (curO G s) (Rw s)) k) ≠ z) ∨ ∃ k : Int, 0 ≤ k ∧ k < ((zmem G s (curO G s) (Rw s)).length : Int) ∧ f = zat (zmem G s (curO G s) (Rw s)) k ∧ G 10 f = z ∧ ∀ j : Int, 0 ≤ j → j < k → G 10 (zat (zmem G s (curO G s) (Rw s)) j) ≠ z := by
          rcases hp with ⟨q1, q2⟩ | ⟨k, q1, q2, q3, q4, q5⟩
          · exact Or.inl ⟨q1, fun k k0 k1 => q2 k (by omega) k1⟩
          · exact Or.inr ⟨k, by omega, q2, q3, q4, fun i i0 i1 => q5 i (by omega) i1⟩
        refine zz_aload_n hx dX4_findValue_103 rfl ?_
        refine zz_iload hx dX4_findValue_104 rfl ?_
        refine zz_callVi hx me_X4_becomes lk_X4_96 (c_becomes (F := Fup F 18 0) hst (mS_18 h.1) _ (by clear hp hp2; show _ = -1 ∨ 0 ≤ _ ∧ _ < F 6; omega)) 0 rfl rfl ⟨rfl, rfl⟩ (by decide) (by decide) rfl rfl (Nat.le_of_ble_eq_true rfl) dX4_findValue_106 (fun _ _ h => h.elim) (fun r106 w106 hp106 => ?_)
        obtain ⟨rfl, rfl⟩ := hp106
        exact zz_iret hx hf dX4_findValue_109 ⟨_, rfl, 0, _, Or.inl ⟨rfl, by omega, ⟨fun q => absurd q hi, fun _ => hp2⟩, rfl⟩, hf0, by rw [bec_18, becG_18]⟩ (by decide) (by decide)
      · have hj := zat_val h.1 (s := s) (o := curO G s) (k := j) (by omega) (by omega) (by omega) h1
        have hvj := h.1.2.2.2.1 (zat (zmem G s (curO G s) (Rw s)) j) (by omega) (by omega)
        refine zz_aload_n hx dX4_findValue_67 rfl ?_
        refine zz_iload_n hx dX4_findValue_68 rfl ?_
        refine zz_iload_n hx dX4_findValue_69 rfl ?_
        refine zz_iload hx dX4_findValue_70 rfl ?_
        refine zz_callVi hx me_X4_memberOf lk_X4_118 (c_memberOf (F := Fup F 18 0) hst (mS_18 h.1) _ _ _ (by omega) (show _ < F 0 by omega) (by omega) (by omega)) 0 rfl rfl ⟨rfl, rfl⟩ (by decide) (by decide) rfl rfl (Nat.le_of_ble_eq_true rfl) dX4_findValue_72 (fun _ _ h => h.elim) (fun r72 w72 hp72 => ?_)
        obtain ⟨rfl, rfl⟩ := hp72
        rw [if_pos (show 0 ≤ j by omega)]
        refine zz_istore (lv' := [(0, _), (1, _), (2, _), (3, _), (4, _), (5, _), (6, _)]) hx dX4_findValue_75 (by decide) rfl ?_
        refine zz_aload_n hx dX4_findValue_77 rfl ?_
        refine zm_g10 hx lf_X4_32 dX4_findValue_78 ?_
        refine zz_iload hx dX4_findValue_81 rfl ?_
        refine zm_l10 hx dX4_findValue_83 (by omega) (by omega) ?_
        refine zz_iload_n hx dX4_findValue_84 rfl ?_
        refine zz_icmp_ne hx 93 dX4_findValue_85 rfl (by omega) (by omega) (fun c85 => ?_) (fun c85 => ?_)
        · refine zz_iload hx dX4_findValue_93 rfl ?_
          refine zz_istore (lv' := [(0, _), (1, _), (2, _), (3, _), (4, _), (5, _), (6, _)]) hx dX4_findValue_95 (by decide) rfl ?_
          refine zz_iinc (lv' := [(0, _), (1, _), (2, _), (3, _), (4, _), (5, _), (6, _)]) hx dX4_findValue_97 (by decide) rfl rfl ?_
          refine zz_goto hx 62 dX4_findValue_100 rfl ?_
          first
            | exact ih (j + -1) (zat (zmem G s (curO G s) (Rw s)) j) [(6, vi (zat (zmem G s (curO G s) (Rw s)) j))] hs0 hi (by omega) (by omega) (by omega) (Or.inr ⟨j, by omega, h1, rfl, c85, fun i i0 i1 => by omega⟩) (by omega)
            | (refine ih (j + -1) f [(6, vi (zat (zmem G s (curO G s) (Rw s)) j))] hs0 hi (by omega) (by omega) hf0 ?_ (by omega)
               rcases hp with ⟨q1, q2⟩ | ⟨k, q1, q2, q3, q4, q5⟩
               · refine Or.inl ⟨q1, fun k k0 k1 => ?_⟩
                 rcases Int.lt_or_eq_of_le (show j ≤ k by omega) with y | y
                 · exact q2 k y k1
                 · rw [← y]; exact c85
               · refine Or.inr ⟨k, by omega, q2, q3, q4, fun i i0 i1 => ?_⟩
                 rcases Int.lt_or_eq_of_le (show j ≤ i by omega) with y | y
                 · exact q5 i y i1
                 · rw [← y]; exact c85)
        · refine zz_iload hx dX4_findValue_88 rfl ?_
          refine zz_goto hx 95 dX4_findValue_90 rfl ?_
          refine zz_istore (lv' := [(0, _), (1, _), (2, _), (3, _), (4, _), (5, _), (6, _)]) hx dX4_findValue_95 (by decide) rfl ?_
          refine zz_iinc (lv' := [(0, _), (1, _), (2, _), (3, _), (4, _), (5, _), (6, _)]) hx dX4_findValue_97 (by decide) rfl rfl ?_
          refine zz_goto hx 62 dX4_findValue_100 rfl ?_
          first
            | exact ih (j + -1) (zat (zmem G s (curO G s) (Rw s)) j) [(6, vi (zat (zmem G s (curO G s) (Rw s)) j))] hs0 hi (by omega) (by omega) (by omega) (Or.inr ⟨j, by omega, h1, rfl, c85, fun i i0 i1 => by omega⟩) (by omega)
            | (refine ih (j + -1) f [(6, vi (zat (zmem G s (curO G s) (Rw s)) j))] hs0 hi (by omega) (by omega) hf0 ?_ (by omega)
               rcases hp with ⟨q1, q2⟩ | ⟨k, q1, q2, q3, q4, q5⟩
               · refine Or.inl ⟨q1, fun k k0 k1 => ?_⟩
                 rcases Int.lt_or_eq_of_le (show j ≤ k by omega) with y | y
                 · exact q2 k y k1
                 · rw [← y]; exact c85
               · refine Or.inr ⟨k, by omega, q2, q3, q4, fun i i0 i1 => ?_⟩
                 rcases Int.lt_or_eq_of_le (show j ≤ i by omega) with y | y
                 · exact q5 i y i1
                 · rw [← y]; exact c85)
  refine zz_aload_n hx dX4_findValue_0 rfl ?_
  refine zz_aload_n hx dX4_findValue_1 rfl ?_
  refine zz_iload_n hx dX4_findValue_2 rfl ?_
  refine zz_callVi hx me_X4_isSet lk_X4_109 (c_isSet hst _ (by omega) hF0) 0 rfl rfl ⟨rfl, rfl⟩ (by decide) (by decide) rfl rfl (Nat.le_of_ble_eq_true rfl) dX4_findValue_3 (fun _ _ h => h.elim) (fun r3 w3 hp3 => ?_)
  obtain ⟨rfl, rfl⟩ := hp3
  refine zz_ifb_eq hx 13 dX4_findValue_6 rfl (fun c6 => ?_) (fun c6 => ?_)
  · refine zz_iconst hx dX4_findValue_13 ?_
    refine zz_callVi hx me_X4_can lk_X4_70 (c_can hst _ (by omega)) 0 rfl rfl ⟨rfl, rfl⟩ (by decide) (by decide) rfl rfl (Nat.le_of_ble_eq_true rfl) dX4_findValue_14 (fun _ _ h => h.elim) (fun r14 w14 hp14 => ?_)
    obtain ⟨rfl, rfl⟩ := hp14
    refine zz_ifb_eq hx 30 dX4_findValue_17 rfl (fun _ => ?_) (fun z => absurd z (by decide))
    refine zz_aload_n hx dX4_findValue_30 rfl ?_
    refine zm_g18 hx lf_X4_57 dX4_findValue_31 ?_
    rw [Fup_s]
    refine zz_if_ne hx 41 dX4_findValue_34 rfl (by decide) (fun _ => ?_) (fun z => absurd z (by decide))
    refine zz_iconst hx dX4_findValue_41 ?_
    exact zz_iret hx hf dX4_findValue_42 (by first | exact ⟨_, rfl, 0, -1, Or.inl ⟨rfl, by omega, ⟨fun _ => rfl, fun q => absurd (show G 16 s = -1 by omega) q⟩, rfl⟩, Or.inl rfl, by rw [becF_none, becG_none]⟩ | exact ⟨_, rfl, 1, -1, Or.inr ⟨rfl, by omega, rfl⟩, Or.inl rfl, by rw [becF_none, becG_none]⟩) (by decide) (by decide)
  · refine zz_iconst hx dX4_findValue_9 ?_
    refine zz_goto hx 14 dX4_findValue_10 rfl ?_
    refine zz_callVi hx me_X4_can lk_X4_70 (c_can hst _ (by omega)) 0 rfl rfl ⟨rfl, rfl⟩ (by decide) (by decide) rfl rfl (Nat.le_of_ble_eq_true rfl) dX4_findValue_14 (fun _ _ h => h.elim) (fun r14 w14 hp14 => ?_)
    obtain ⟨rfl, rfl⟩ := hp14
    refine zz_ifb_eq hx 30 dX4_findValue_17 rfl (fun z => absurd rfl z) (fun _ => ?_)
    refine zz_aload_n hx dX4_findValue_20 rfl ?_
    refine zm_g16 hx lf_X4_47 dX4_findValue_21 ?_
    refine zz_iload_n hx dX4_findValue_24 rfl ?_
    refine zm_l16 hx dX4_findValue_25 (by omega) (by omega) ?_
    refine zz_iconst hx dX4_findValue_26 ?_
    have hi16 := hin (by omega)
    refine zz_icmp_ne hx 43 dX4_findValue_27 rfl (by omega) (by omega) (fun c27 => ?_) (fun c27 => ?_)
    · have hi16 := hin (by omega)
      have hcu2 := hcu (by omega) (by omega)
      have hzl := zmem_len h.1 (s := s) (o := curO G s) (by omega) (by omega)
      have hza := fun d => zmem_at h.1 (s := s) (o := curO G s) (by omega) (by omega) d
      refine zz_aload_n hx dX4_findValue_43 rfl ?_
      refine zz_iload_n hx dX4_findValue_44 rfl ?_
      refine zz_callVi hx me_X4_currentOwner lk_X4_88 (c_currentOwner (F := Fup F 18 0) hst (mS_18 h.1) _ (by omega) (show _ < F 0 by omega) (show G 16 _ = -1 ∨ 0 ≤ G 16 _ ∧ G 16 _ < F 6 by omega)) 0 rfl rfl ⟨rfl, rfl⟩ (by decide) (by decide) rfl rfl (Nat.le_of_ble_eq_true rfl) dX4_findValue_45 (fun _ _ h => h.elim) (fun r45 w45 hp45 => ?_)
      obtain ⟨rfl, rfl⟩ := hp45
      refine zz_istore_n (lv' := [(0, _), (1, _), (2, _), (3, _)]) hx dX4_findValue_48 (by decide) rfl ?_
      refine zz_iconst hx dX4_findValue_49 ?_
      refine zz_istore (lv' := [(0, _), (1, _), (2, _), (3, _), (4, _)]) hx dX4_findValue_50 (by decide) rfl ?_
      refine zz_aload_n hx dX4_findValue_52 rfl ?_
      refine zz_iload_n hx dX4_findValue_53 rfl ?_
      refine zz_iload_n hx dX4_findValue_54 rfl ?_
      refine zz_callVi hx me_X4_membersOf lk_X4_112 (c_membersOf (F := Fup F 18 0) hst (mS_18 h.1) _ _ (by omega) (show _ < F 0 by omega) (by omega)) 0 rfl rfl ⟨rfl, rfl⟩ (by decide) (by decide) rfl rfl (Nat.le_of_ble_eq_true rfl) dX4_findValue_55 (fun _ _ h => h.elim) (fun r55 w55 hp55 => ?_)
      obtain ⟨rfl, rfl⟩ := hp55
      refine zz_iconst hx dX4_findValue_58 ?_
      refine zz_isub hx dX4_findValue_59 ?_
      refine zz_istore (lv' := [(0, _), (1, _), (2, _), (3, _), (4, _), (5, _)]) hx dX4_findValue_60 (by decide) rfl ?_
      exact loop (((zmem G s (curO G s) (Rw s)).length : Int).toNat + 1) (((zmem G s (curO G s) (Rw s)).length : Int) - 1) (-1) [] (by omega) (by omega) (by omega) (by omega) (Or.inl rfl) (Or.inl ⟨rfl, fun k _ _ => by omega⟩) (by omega)
    · refine zz_aload_n hx dX4_findValue_30 rfl ?_
      refine zm_g18 hx lf_X4_57 dX4_findValue_31 ?_
      rw [Fup_s]
      refine zz_if_ne hx 41 dX4_findValue_34 rfl (by decide) (fun z => absurd rfl z) (fun _ => ?_)
      refine zz_iconst hx dX4_findValue_37 ?_
      refine zz_goto hx 42 dX4_findValue_38 rfl ?_
      exact zz_iret hx hf dX4_findValue_42 (by first | exact ⟨_, rfl, 0, -1, Or.inl ⟨rfl, by omega, ⟨fun _ => rfl, fun q => absurd (show G 16 s = -1 by omega) q⟩, rfl⟩, Or.inl rfl, by rw [becF_none, becG_none]⟩ | exact ⟨_, rfl, 1, -1, Or.inr ⟨rfl, by omega, rfl⟩, Or.inl rfl, by rw [becF_none, becG_none]⟩) (by decide) (by decide)
end
section
set_option maxHeartbeats 4000000 in
set_option maxRecDepth 100000 in
theorem c_findOf {l : Launch} {g : zG} {a : Nat → Nat} {F : Nat → Int} {G : Nat → Int → Int} {rest : va_W} (hst : l.stackTraces = false) {Rw : Int → List Int} (h : mI F G Rw) (t : Int) (ht : -2147483648 ≤ t ∧ t < 2147483648) (z : Int) (hz : z = 0 ∨ z = 1) : zM l g yX4_findOf cX4_findOf 5 (Option.some FieldType.int) ({ frames := 2, cells := 0, slots := 0, locals := 44 } : Room) [.ref (a 0), vi t, vi z] (mW g a F G rest) (zI fun v w => ∃ c f : Int, ((c = 0 ∧ (0 ≤ t ∧ t ≤ 3) ∧ ((f = -1 ∧ ∀ j : Int, 0 ≤ j → j < F 6 → ¬ (G 8 j = 1 ∧ G 9 j = t ∧ (z ≠ 0 ∨ G 15 t < j))) ∨ ((0 ≤ f ∧ f < F 6) ∧ (G 8 f = 1 ∧ G 9 f = t ∧ (z ≠ 0 ∨ G 15 t < f)) ∧ ∀ j : Int, 0 ≤ j → j < f → ¬ (G 8 j = 1 ∧ G 9 j = t ∧ (z ≠ 0 ∨ G 15 t < j)))) ∧ v = f) ∨ (c = 1 ∧ ¬ (0 ≤ t ∧ t ≤ 3) ∧ f = -1)) ∧ (f = -1 ∨ 0 ≤ f ∧ f < F 6 ∧ G 8 f = 1) ∧ w = mW g a (Fup (becF F f) 18 c) (becG F G f) rest) zN 0 0 := by
  have hF0 := h.1.1
  have hF6 := h.1.2.1
  refine zM_of (lv0 := [(0, _), (1, _), (2, _)]) hst rfl (by decide +kernel) (Nat.le_of_ble_eq_true rfl) rfl (fun x hx hf hn => ?_)
  have loop : ∀ (m : Nat) (k f : Int), 0 ≤ t ∧ t ≤ 3 → -1 ≤ k → k < F 6 → ((f = -1 ∧ ∀ j : Int, k < j → j < F 6 → ¬ (G 8 j = 1 ∧ G 9 j = t ∧ (z ≠ 0 ∨ G 15 t < j))) ∨ ((k < f ∧ f < F 6) ∧ (G 8 f = 1 ∧ G 9 f = t ∧ (z ≠ 0 ∨ G 15 t < f)) ∧ ∀ j : Int, k < j → j < f → ¬ (G 8 j = 1 ∧ G 9 j = t ∧ (z ≠ 0 ∨ G 15 t < j)))) → (k + 1).toNat < m → Z l g ({ frames := 2, cells := 0, slots := 0, locals := 44 } : Room) 5 x 0 0 (mW g a (Fup F 18 0) G rest) 33 [(0, .ref (a 0)), (1, vi t), (2, vi z), (3, vi f), (4, vi k)] [] := by
    intro m
    induction m with
    | zero => intro k f ht2 h0 h1 hp hm; omega
    | succ m ih =>
      intro k f ht2 h0 h1 hp hm
      have h15 := h.2.2.1 t (by omega) (by omega)
      have fin : (∀ j : Int, 0 ≤ j → j ≤ k → ¬ (G 8 j = 1 ∧ G 9 j = t ∧ (z ≠ 0 ∨ G 15 t < j))) → ((f = -1 ∧ ∀ j : Int, 0 ≤ j → j < F 6 → ¬ (G 8 j = 1 ∧ G 9 j = t ∧ (z ≠ 0 ∨ G 15 t < j))) ∨ ((0 ≤ f ∧ f < F 6) ∧ (G 8 f = 1 ∧ G 9 f = t ∧ (z ≠ 0 ∨ G 15 t < f)) ∧ ∀ j : Int, 0 ≤ j → j < f → ¬ (G 8 j = 1 ∧ G 9 j = t ∧ (z ≠ 0 ∨ G 15 t < j)))) ∧ (f = -1 ∨ 0 ≤ f ∧ f < F 6 ∧ G 8 f = 1) := by
        intro hall
        rcases hp with ⟨q1, q2⟩ | ⟨q1, q2, q3⟩
        · refine ⟨Or.inl ⟨q1, fun j j0 j1 => ?_⟩, Or.inl q1⟩
          rcases Int.lt_or_le k j with y | y
          · exact q2 j y j1
          · exact hall j j0 y
        · refine ⟨Or.inr ⟨by omega, q2, fun j j0 j1 => ?_⟩, Or.inr ⟨by omega, q1.2, q2.1⟩⟩
          rcases Int.lt_or_le k j with y | y
          · exact q3 j y j1
          · exact hall j j0 y
      have step : ∀ v : Int, (v = k ∧ (G 8 k = 1 ∧ G 9 k = t ∧ (z ≠ 0 ∨ G 15 t < k))) ∨ (v = f ∧ ¬ (G 8 k = 1 ∧ G 9 k = t ∧ (z ≠ 0 ∨ G 15 t < k))) → ((v = -1 ∧ ∀ j : Int, k + -1 < j → j < F 6 → ¬ (G 8 j = 1 ∧ G 9 j = t ∧ (z ≠ 0 ∨ G 15 t < j))) ∨ ((k + -1 < v ∧ v < F 6) ∧ (G 8 v = 1 ∧ G 9 v = t ∧ (z ≠ 0 ∨ G 15 t < v)) ∧ ∀ j : Int, k + -1 < j → j < v → ¬ (G 8 j = 1 ∧ G 9 j = t ∧ (z ≠ 0 ∨ G 15 t < j)))) := by
        intro v hv
        rcases hv with ⟨rfl, hc⟩ | ⟨rfl, hc⟩
        · exact Or.inr ⟨by omega, hc, fun j j0 j1 => by omega⟩
        · rcases hp with ⟨q1, q2⟩ | ⟨q1, q2, q3⟩
          · refine Or.inl ⟨q1, fun j j0 j1 => ?_⟩
            rcases Int.lt_or_eq_of_le (show k ≤ j by omega) with y | y
            · exact q2 j y j1
            · rw [← y]; exact hc
          · refine Or.inr ⟨by omega, q2, fun j j0 j1 => ?_⟩
            rcases Int.lt_or_eq_of_le (show k ≤ j by omega) with y | y
            · exact q3 j y j1
            · rw [← y]; exact hc
      refine zz_iload hx dX4_findOf_33 rfl ?_
      refine zz_if_lt hx 87 dX4_findOf_35 rfl (by omega) (fun c35 => ?_) (fun c35 => ?_)
      · obtain ⟨fs, ft⟩ := fin (fun j j0 j1 => by omega)
        refine zz_aload_n hx dX4_findOf_87 rfl ?_
        refine zz_iload_n hx dX4_findOf_88 rfl ?_
        refine zz_callVi hx me_X4_becomes lk_X4_96 (c_becomes (F := Fup F 18 0) hst (mS_18 h.1) _ (by rcases ft with q | q; exact Or.inl q; exact Or.inr ⟨q.1, q.2.1⟩)) 0 rfl rfl ⟨rfl, rfl⟩ (by decide) (by decide) rfl rfl (Nat.le_of_ble_eq_true rfl) dX4_findOf_89 (fun _ _ h => h.elim) (fun r89 w89 hp89 => ?_)
        obtain ⟨rfl, rfl⟩ := hp89
        exact zz_iret hx hf dX4_findOf_92 ⟨_, rfl, 0, _, Or.inl ⟨rfl, ht2, fs, rfl⟩, ft, by rw [bec_18, becG_18]⟩ (by decide) (by decide)
      · refine zz_iload_n hx dX4_findOf_38 rfl ?_
        refine zz_if_ne hx 53 dX4_findOf_39 rfl (by omega) (fun c39 => ?_) (fun c39 => ?_)
        · refine zz_aload_n hx dX4_findOf_53 rfl ?_
          refine zm_g8 hx lf_X4_26 dX4_findOf_54 ?_
          refine zz_iload hx dX4_findOf_57 rfl ?_
          refine zm_l8 hx dX4_findOf_59 (by omega) (by omega) ?_
          have hvk := h.1.2.2.2.1 k (by omega) (by omega)
          refine zz_if_eq hx 79 dX4_findOf_60 rfl (by omega) (fun c60 => ?_) (fun c60 => ?_)
          · refine zz_iload_n hx dX4_findOf_79 rfl ?_
            refine zz_istore_n (lv' := [(0, _), (1, _), (2, _), (3, _), (4, _)]) hx dX4_findOf_80 (by decide) rfl ?_
            refine zz_iinc (lv' := [(0, _), (1, _), (2, _), (3, _), (4, _)]) hx dX4_findOf_81 (by decide) rfl rfl ?_
            refine zz_goto hx 33 dX4_findOf_84 rfl ?_
            first
              | exact ih (k + -1) k ht2 (by omega) (by omega) (step k (Or.inl ⟨rfl, by omega⟩)) (by omega)
              | exact ih (k + -1) f ht2 (by omega) (by omega) (step f (Or.inr ⟨rfl, by omega⟩)) (by omega)
          · refine zz_aload_n hx dX4_findOf_63 rfl ?_
            refine zm_g9 hx lf_X4_29 dX4_findOf_64 ?_
            refine zz_iload hx dX4_findOf_67 rfl ?_
            refine zm_l9 hx dX4_findOf_69 (by omega) (by omega) ?_
            refine zz_iload_n hx dX4_findOf_70 rfl ?_
            refine zz_icmp_ne hx 79 dX4_findOf_71 rfl (by omega) (by omega) (fun c71 => ?_) (fun c71 => ?_)
            · refine zz_iload_n hx dX4_findOf_79 rfl ?_
              refine zz_istore_n (lv' := [(0, _), (1, _), (2, _), (3, _), (4, _)]) hx dX4_findOf_80 (by decide) rfl ?_
              refine zz_iinc (lv' := [(0, _), (1, _), (2, _), (3, _), (4, _)]) hx dX4_findOf_81 (by decide) rfl rfl ?_
              refine zz_goto hx 33 dX4_findOf_84 rfl ?_
              first
                | exact ih (k + -1) k ht2 (by omega) (by omega) (step k (Or.inl ⟨rfl, by omega⟩)) (by omega)
                | exact ih (k + -1) f ht2 (by omega) (by omega) (step f (Or.inr ⟨rfl, by omega⟩)) (by omega)
            · refine zz_iload hx dX4_findOf_74 rfl ?_
              refine zz_goto hx 80 dX4_findOf_76 rfl ?_
              refine zz_istore_n (lv' := [(0, _), (1, _), (2, _), (3, _), (4, _)]) hx dX4_findOf_80 (by decide) rfl ?_
              refine zz_iinc (lv' := [(0, _), (1, _), (2, _), (3, _), (4, _)]) hx dX4_findOf_81 (by decide) rfl rfl ?_
              refine zz_goto hx 33 dX4_findOf_84 rfl ?_
              first
                | exact ih (k + -1) k ht2 (by omega) (by omega) (step k (Or.inl ⟨rfl, by omega⟩)) (by omega)
                | exact ih (k + -1) f ht2 (by omega) (by omega) (step f (Or.inr ⟨rfl, by omega⟩)) (by omega)
        · refine zz_iload hx dX4_findOf_42 rfl ?_
          refine zz_aload_n hx dX4_findOf_44 rfl ?_
          refine zm_g15 hx lf_X4_44 dX4_findOf_45 ?_
          refine zz_iload_n hx dX4_findOf_48 rfl ?_
          refine zm_l15 hx dX4_findOf_49 (by omega) (by omega) ?_
          refine zz_icmp_le hx 87 dX4_findOf_50 rfl (by omega) (by omega) (fun c50 => ?_) (fun c50 => ?_)
          · obtain ⟨fs, ft⟩ := fin (fun j j0 j1 hc => by omega)
            refine zz_aload_n hx dX4_findOf_87 rfl ?_
            refine zz_iload_n hx dX4_findOf_88 rfl ?_
            refine zz_callVi hx me_X4_becomes lk_X4_96 (c_becomes (F := Fup F 18 0) hst (mS_18 h.1) _ (by rcases ft with q | q; exact Or.inl q; exact Or.inr ⟨q.1, q.2.1⟩)) 0 rfl rfl ⟨rfl, rfl⟩ (by decide) (by decide) rfl rfl (Nat.le_of_ble_eq_true rfl) dX4_findOf_89 (fun _ _ h => h.elim) (fun r89 w89 hp89 => ?_)
            obtain ⟨rfl, rfl⟩ := hp89
            exact zz_iret hx hf dX4_findOf_92 ⟨_, rfl, 0, _, Or.inl ⟨rfl, ht2, fs, rfl⟩, ft, by rw [bec_18, becG_18]⟩ (by decide) (by decide)
          · refine zz_aload_n hx dX4_findOf_53 rfl ?_
            refine zm_g8 hx lf_X4_26 dX4_findOf_54 ?_
            refine zz_iload hx dX4_findOf_57 rfl ?_
            refine zm_l8 hx dX4_findOf_59 (by omega) (by omega) ?_
            have hvk := h.1.2.2.2.1 k (by omega) (by omega)
            refine zz_if_eq hx 79 dX4_findOf_60 rfl (by omega) (fun c60 => ?_) (fun c60 => ?_)
            · refine zz_iload_n hx dX4_findOf_79 rfl ?_
              refine zz_istore_n (lv' := [(0, _), (1, _), (2, _), (3, _), (4, _)]) hx dX4_findOf_80 (by decide) rfl ?_
              refine zz_iinc (lv' := [(0, _), (1, _), (2, _), (3, _), (4, _)]) hx dX4_findOf_81 (by decide) rfl rfl ?_
              refine zz_goto hx 33 dX4_findOf_84 rfl ?_
              first
                | exact ih (k + -1) k ht2 (by omega) (by omega) (step k (Or.inl ⟨rfl, by omega⟩)) (by omega)
                | exact ih (k + -1) f ht2 (by omega) (by omega) (step f (Or.inr ⟨rfl, by omega⟩)) (by omega)
            · refine zz_aload_n hx dX4_findOf_63 rfl ?_
              refine zm_g9 hx lf_X4_29 dX4_findOf_64 ?_
              refine zz_iload hx dX4_findOf_67 rfl ?_
              refine zm_l9 hx dX4_findOf_69 (by omega) (by omega) ?_
              refine zz_iload_n hx dX4_findOf_70 rfl ?_
              refine zz_icmp_ne hx 79 dX4_findOf_71 rfl (by omega) (by omega) (fun c71 => ?_) (fun c71 => ?_)
              · refine zz_iload_n hx dX4_findOf_79 rfl ?_
                refine zz_istore_n (lv' := [(0, _), (1, _), (2, _), (3, _), (4, _)]) hx dX4_findOf_80 (by decide) rfl ?_
                refine zz_iinc (lv' := [(0, _), (1, _), (2, _), (3, _), (4, _)]) hx dX4_findOf_81 (by decide) rfl rfl ?_
                refine zz_goto hx 33 dX4_findOf_84 rfl ?_
                first
                  | exact ih (k + -1) k ht2 (by omega) (by omega) (step k (Or.inl ⟨rfl, by omega⟩)) (by omega)
                  | exact ih (k + -1) f ht2 (by omega) (by omega) (step f (Or.inr ⟨rfl, by omega⟩)) (by omega)
              · refine zz_iload hx dX4_findOf_74 rfl ?_
                refine zz_goto hx 80 dX4_findOf_76 rfl ?_
                refine zz_istore_n (lv' := [(0, _), (1, _), (2, _), (3, _), (4, _)]) hx dX4_findOf_80 (by decide) rfl ?_
                refine zz_iinc (lv' := [(0, _), (1, _), (2, _), (3, _), (4, _)]) hx dX4_findOf_81 (by decide) rfl rfl ?_
                refine zz_goto hx 33 dX4_findOf_84 rfl ?_
                first
                  | exact ih (k + -1) k ht2 (by omega) (by omega) (step k (Or.inl ⟨rfl, by omega⟩)) (by omega)
                  | exact ih (k + -1) f ht2 (by omega) (by omega) (step f (Or.inr ⟨rfl, by omega⟩)) (by omega)
  refine zz_aload_n hx dX4_findOf_0 rfl ?_
  refine zz_iload_n hx dX4_findOf_1 rfl ?_
  refine zz_iconst hx dX4_findOf_2 ?_
  refine zz_iconst hx dX4_findOf_3 ?_
  refine zz_callSi hx ms_X4_isIn lk_X4_63 (c_isIn (a := a) hst _ _ _ (by omega) (by omega) (by omega)) ⟨rfl, rfl⟩ (by decide) (by decide) rfl rfl (Nat.le_of_ble_eq_true rfl) dX4_findOf_4 (fun _ _ h => h.elim) (fun r4 w4 hp4 => ?_)
  obtain ⟨rfl, rfl⟩ := hp4
  refine zz_ifb_eq hx 14 dX4_findOf_7 rfl (fun c7 => ?_) (fun c7 => ?_)
  · refine zz_iconst hx dX4_findOf_14 ?_
    refine zz_callVi hx me_X4_can lk_X4_70 (c_can hst _ (by omega)) 0 rfl rfl ⟨rfl, rfl⟩ (by decide) (by decide) rfl rfl (Nat.le_of_ble_eq_true rfl) dX4_findOf_15 (fun _ _ h => h.elim) (fun r15 w15 hp15 => ?_)
    obtain ⟨rfl, rfl⟩ := hp15
    refine zz_ifb_ne hx 23 dX4_findOf_18 rfl (fun z => absurd z (by decide)) (fun _ => ?_)
    refine zz_iconst hx dX4_findOf_21 ?_
    exact zz_iret hx hf dX4_findOf_22 ⟨_, rfl, 1, -1, Or.inr ⟨rfl, by omega, rfl⟩, Or.inl rfl, by rw [becF_none, becG_none]⟩ (by decide) (by decide)
  · refine zz_iconst hx dX4_findOf_10 ?_
    refine zz_goto hx 15 dX4_findOf_11 rfl ?_
    refine zz_callVi hx me_X4_can lk_X4_70 (c_can hst _ (by omega)) 0 rfl rfl ⟨rfl, rfl⟩ (by decide) (by decide) rfl rfl (Nat.le_of_ble_eq_true rfl) dX4_findOf_15 (fun _ _ h => h.elim) (fun r15 w15 hp15 => ?_)
    obtain ⟨rfl, rfl⟩ := hp15
    refine zz_ifb_ne hx 23 dX4_findOf_18 rfl (fun _ => ?_) (fun z => absurd rfl z)
    refine zz_iconst hx dX4_findOf_23 ?_
    refine zz_istore_n (lv' := [(0, _), (1, _), (2, _), (3, _)]) hx dX4_findOf_24 (by decide) rfl ?_
    refine zz_aload_n hx dX4_findOf_25 rfl ?_
    refine zm_g6 hx lf_X4_67 dX4_findOf_26 ?_
    refine zz_iconst hx dX4_findOf_29 ?_
    refine zz_isub hx dX4_findOf_30 ?_
    refine zz_istore (lv' := [(0, _), (1, _), (2, _), (3, _), (4, _)]) hx dX4_findOf_31 (by decide) rfl ?_
    exact loop ((F 6).toNat + 1) (F 6 - 1) (-1) (by omega) (by omega) (by omega) (Or.inl ⟨rfl, fun j _ _ => by omega⟩) (by omega)

set_option maxHeartbeats 4000000 in
set_option maxRecDepth 100000 in
theorem c_memberAt {l : Launch} {g : zG} {a : Nat → Nat} {F : Nat → Int} {G : Nat → Int → Int} {rest : va_W} (hst : l.stackTraces = false) {Rw : Int → List Int} (h : mI F G Rw) (r : Int) (hr : -2147483648 ≤ r ∧ r < 2147483648) (s : Int) (hs : -2147483648 ≤ s ∧ s < 2147483648) (d : Int) (hd : -2147483648 ≤ d ∧ d < 2147483648) : zM l g yX4_memberAt cX4_memberAt 5 (Option.some FieldType.int) ({ frames := 2, cells := 0, slots := 0, locals := 49 } : Room) [.ref (a 0), vi r, vi s, vi d] (mW g a F G rest) (zI fun v w => ∃ c : Int, ((c = 0 ∧ (((0 ≤ r ∧ r < F 6 ∧ G 8 r = 1) ∧ 0 ≤ s ∧ s < F 0) ∧ G 9 r = G 1 s ∧ 0 ≤ d ∧ d < ((zmem G s r (Rw s)).length : Int)) ∧ v = zat (zmem G s r (Rw s)) d) ∨ (c = 1 ∧ ¬ (((0 ≤ r ∧ r < F 6 ∧ G 8 r = 1) ∧ 0 ≤ s ∧ s < F 0) ∧ G 9 r = G 1 s ∧ 0 ≤ d ∧ d < ((zmem G s r (Rw s)).length : Int)))) ∧ w = mW g a (Fup F 18 c) G rest) zN 0 0 := by
  have hF0 := h.1.1
  have hF6 := h.1.2.1
  refine zM_of (lv0 := [(0, _), (1, _), (2, _), (3, _)]) hst rfl (by decide +kernel) (Nat.le_of_ble_eq_true rfl) rfl (fun x hx hf hn => ?_)
  have J : ∀ f : Int, (((((0 ≤ r ∧ r < F 6 ∧ G 8 r = 1) ∧ 0 ≤ s ∧ s < F 0) ∧ G 9 r = G 1 s ∧ 0 ≤ d ∧ d < ((zmem G s r (Rw s)).length : Int)) ∧ f = zat (zmem G s r (Rw s)) d ∧ 0 ≤ f ∧ f < 60) ∨ (¬ (((0 ≤ r ∧ r < F 6 ∧ G 8 r = 1) ∧ 0 ≤ s ∧ s < F 0) ∧ G 9 r = G 1 s ∧ 0 ≤ d ∧ d < ((zmem G s r (Rw s)).length : Int)) ∧ f = -1)) → Z l g ({ frames := 2, cells := 0, slots := 0, locals := 49 } : Room) 5 x 0 0 (mW g a F G rest) 52 [(0, .ref (a 0)), (1, vi r), (2, vi s), (3, vi d)] [vi f] := by
    intro f hf0
    refine zz_istore (lv' := [(0, _), (1, _), (2, _), (3, _), (4, _)]) hx dX4_memberAt_52 (by decide) rfl ?_
    refine zz_aload_n hx dX4_memberAt_54 rfl ?_
    refine zz_iload hx dX4_memberAt_55 rfl ?_
    refine zz_iconst hx dX4_memberAt_57 ?_
    refine zz_icmp_ne hx 65 dX4_memberAt_58 rfl (by omega) (by omega) (fun c58 => ?_) (fun c58 => ?_)
    · refine zz_iconst hx dX4_memberAt_65 ?_
      refine zz_callVi hx me_X4_can lk_X4_70 (c_can hst _ (by omega)) 0 rfl rfl ⟨rfl, rfl⟩ (by decide) (by decide) rfl rfl (Nat.le_of_ble_eq_true rfl) dX4_memberAt_66 (fun _ _ h => h.elim) (fun r66 w66 hp66 => ?_)
      obtain ⟨rfl, rfl⟩ := hp66
      refine zz_ifb_eq hx 77 dX4_memberAt_69 rfl (fun z => absurd rfl z) (fun _ => ?_)
      refine zz_iload hx dX4_memberAt_72 rfl ?_
      refine zz_goto hx 78 dX4_memberAt_74 rfl ?_
      exact zz_iret hx hf dX4_memberAt_78 ⟨_, rfl, by first | exact ⟨1, Or.inr ⟨rfl, by omega⟩, rfl⟩ | exact ⟨0, Or.inl ⟨rfl, by omega, by omega⟩, rfl⟩⟩ (by decide) (by decide)
    · refine zz_iconst hx dX4_memberAt_61 ?_
      refine zz_goto hx 66 dX4_memberAt_62 rfl ?_
      refine zz_callVi hx me_X4_can lk_X4_70 (c_can hst _ (by omega)) 0 rfl rfl ⟨rfl, rfl⟩ (by decide) (by decide) rfl rfl (Nat.le_of_ble_eq_true rfl) dX4_memberAt_66 (fun _ _ h => h.elim) (fun r66 w66 hp66 => ?_)
      obtain ⟨rfl, rfl⟩ := hp66
      refine zz_ifb_eq hx 77 dX4_memberAt_69 rfl (fun _ => ?_) (fun z => absurd z (by decide))
      refine zz_iconst hx dX4_memberAt_77 ?_
      exact zz_iret hx hf dX4_memberAt_78 ⟨_, rfl, by first | exact ⟨1, Or.inr ⟨rfl, by omega⟩, rfl⟩ | exact ⟨0, Or.inl ⟨rfl, by omega, by omega⟩, rfl⟩⟩ (by decide) (by decide)
  refine zz_aload_n hx dX4_memberAt_0 rfl ?_
  refine zz_iload_n hx dX4_memberAt_1 rfl ?_
  refine zz_callVi hx me_X4_isRecord lk_X4_115 (c_isRecord hst _ (by omega) hF6 (fun r h1 h2 => (h.1.2.2.2.1 r h1 h2).2.2)) 0 rfl rfl ⟨rfl, rfl⟩ (by decide) (by decide) rfl rfl (Nat.le_of_ble_eq_true rfl) dX4_memberAt_2 (fun _ _ h => h.elim) (fun r2 w2 hp2 => ?_)
  obtain ⟨rfl, rfl⟩ := hp2
  refine zz_ifb_eq hx 51 dX4_memberAt_5 rfl (fun c5 => ?_) (fun c5 => ?_)
  · refine zz_iconst hx dX4_memberAt_51 ?_
    refine J _ ?_
    first
      | exact Or.inr ⟨by omega, rfl⟩
      | (rcases Int.lt_or_le d ((zmem G s r (Rw s)).length : Int) with q | q
         · have := hz2 q
           exact Or.inl ⟨by omega, rfl, by omega, by omega⟩
         · exact Or.inr ⟨by omega, hz3 q⟩)
  · refine zz_aload_n hx dX4_memberAt_8 rfl ?_
    refine zz_iload_n hx dX4_memberAt_9 rfl ?_
    refine zz_callVi hx me_X4_isSet lk_X4_109 (c_isSet hst _ (by omega) hF0) 0 rfl rfl ⟨rfl, rfl⟩ (by decide) (by decide) rfl rfl (Nat.le_of_ble_eq_true rfl) dX4_memberAt_10 (fun _ _ h => h.elim) (fun r10 w10 hp10 => ?_)
    obtain ⟨rfl, rfl⟩ := hp10
    refine zz_ifb_eq hx 51 dX4_memberAt_13 rfl (fun c13 => ?_) (fun c13 => ?_)
    · refine zz_iconst hx dX4_memberAt_51 ?_
      refine J _ ?_
      first
        | exact Or.inr ⟨by omega, rfl⟩
        | (rcases Int.lt_or_le d ((zmem G s r (Rw s)).length : Int) with q | q
           · have := hz2 q
             exact Or.inl ⟨by omega, rfl, by omega, by omega⟩
           · exact Or.inr ⟨by omega, hz3 q⟩)
    · refine zz_aload_n hx dX4_memberAt_16 rfl ?_
      refine zm_g9 hx lf_X4_29 dX4_memberAt_17 ?_
      refine zz_iload_n hx dX4_memberAt_20 rfl ?_
      refine zm_l9 hx dX4_memberAt_21 (by omega) (by omega) ?_
      refine zz_aload_n hx dX4_memberAt_22 rfl ?_
      refine zm_g1 hx lf_X4_7 dX4_memberAt_23 ?_
      refine zz_iload_n hx dX4_memberAt_26 rfl ?_
      refine zm_l1 hx dX4_memberAt_27 (by omega) (by omega) ?_
      have hvr := h.1.2.2.2.1 r (by omega) (by omega)
      have hds := h.1.2.2.1 s (by omega) (by omega)
      refine zz_icmp_ne hx 51 dX4_memberAt_28 rfl (by omega) (by omega) (fun c28 => ?_) (fun c28 => ?_)
      · refine zz_iconst hx dX4_memberAt_51 ?_
        refine J _ ?_
        first
          | exact Or.inr ⟨by omega, rfl⟩
          | (rcases Int.lt_or_le d ((zmem G s r (Rw s)).length : Int) with q | q
             · have := hz2 q
               exact Or.inl ⟨by omega, rfl, by omega, by omega⟩
             · exact Or.inr ⟨by omega, hz3 q⟩)
      · refine zz_iload_n hx dX4_memberAt_31 rfl ?_
        refine zz_if_lt hx 51 dX4_memberAt_32 rfl (by omega) (fun c32 => ?_) (fun c32 => ?_)
        · refine zz_iconst hx dX4_memberAt_51 ?_
          refine J _ ?_
          first
            | exact Or.inr ⟨by omega, rfl⟩
            | (rcases Int.lt_or_le d ((zmem G s r (Rw s)).length : Int) with q | q
               · have := hz2 q
                 exact Or.inl ⟨by omega, rfl, by omega, by omega⟩
               · exact Or.inr ⟨by omega, hz3 q⟩)
        · refine zz_iload_n hx dX4_memberAt_35 rfl ?_
          refine zz_bipush hx dX4_memberAt_36 rfl ?_
          have hzl := zmem_len h.1 (s := s) (o := r) (by omega) (by omega)
          refine zz_icmp_ge hx 51 dX4_memberAt_38 rfl (by omega) (by omega) (fun c38 => ?_) (fun c38 => ?_)
          · refine zz_iconst hx dX4_memberAt_51 ?_
            refine J _ ?_
            first
              | exact Or.inr ⟨by omega, rfl⟩
              | (rcases Int.lt_or_le d ((zmem G s r (Rw s)).length : Int) with q | q
                 · have := hz2 q
                   exact Or.inl ⟨by omega, rfl, by omega, by omega⟩
                 · exact Or.inr ⟨by omega, hz3 q⟩)
          · refine zz_aload_n hx dX4_memberAt_41 rfl ?_
            refine zz_iload_n hx dX4_memberAt_42 rfl ?_
            refine zz_iload_n hx dX4_memberAt_43 rfl ?_
            refine zz_iload_n hx dX4_memberAt_44 rfl ?_
            refine zz_callVi hx me_X4_memberOf lk_X4_118 (c_memberOf hst h.1 _ _ _ (by omega) (by omega) (by omega) (by omega)) 0 rfl rfl ⟨rfl, rfl⟩ (by decide) (by decide) rfl rfl (Nat.le_of_ble_eq_true rfl) dX4_memberAt_45 (fun _ _ h => h.elim) (fun r45 w45 hp45 => ?_)
            obtain ⟨rfl, rfl⟩ := hp45
            have hz1 := zmem_at h.1 (s := s) (o := r) (by omega) (by omega) d
            have hz2 := fun q => zat_val h.1 (s := s) (o := r) (k := d) (by omega) (by omega) (by omega) q
            have hz3 := fun (q : ((zmem G s r (Rw s)).length : Int) ≤ d) => zat_ge q
            rw [if_pos (show 0 ≤ d by omega)]
            refine zz_goto hx 52 dX4_memberAt_48 rfl ?_
            refine J _ ?_
            first
              | exact Or.inr ⟨by omega, rfl⟩
              | (rcases Int.lt_or_le d ((zmem G s r (Rw s)).length : Int) with q | q
                 · have := hz2 q
                   exact Or.inl ⟨by omega, rfl, by omega, by omega⟩
                 · exact Or.inr ⟨by omega, hz3 q⟩)
end
section
set_option maxHeartbeats 4000000 in
set_option maxRecDepth 100000 in
theorem c_isGone {l : Launch} {g : zG} {a : Nat → Nat} {F : Nat → Int} {G : Nat → Int → Int} {rest : va_W} (hst : l.stackTraces = false) (r : Int) (hr : r = -1 ∨ 0 ≤ r ∧ r < 60) (M : List Int) (hM : ∀ q : Int, 0 ≤ q → q < 60 → G 17 q = zin q M) (hM2 : ∀ q ∈ M, 0 ≤ q ∧ q < 60) : zM l g yX4_isGone cX4_isGone 2 (Option.some FieldType.boolean) ({ frames := 0, cells := 0, slots := 0, locals := 0 } : Room) [.ref (a 0), vi r] (mW g a F G rest) (zI fun v w => v = zb (r ∈ M) ∧ w = mW g a F G rest) zN 0 0 := by
  have hm1 : r = -1 → r ∉ M := fun e q => by have := hM2 r q; omega
  refine zM_of (lv0 := [(0, _), (1, _)]) hst rfl (by decide +kernel) (Nat.le_of_ble_eq_true rfl) rfl (fun x hx hf hn => ?_)
  refine zz_iload_n hx dX4_isGone_0 rfl ?_
  refine zz_iconst hx dX4_isGone_1 ?_
  refine zz_icmp_eq hx 18 dX4_isGone_2 rfl (by omega) (by omega) (fun c2 => ?_) (fun c2 => ?_)
  · refine zz_iconst hx dX4_isGone_18 ?_
    exact zz_zret hx hf dX4_isGone_19 (by first | decide | exact zb_01 _) ⟨_, rfl, by first | exact (zb_t (by first | exact zin_1.mp (by have := zin_01 r M; omega))).symm | exact (zb_f (by first | exact hm1 c2 | exact zin_0.mp (by omega))).symm, rfl⟩ (by decide) (by decide)
  · refine zz_aload_n hx dX4_isGone_5 rfl ?_
    refine zm_g17 hx lf_X4_50 dX4_isGone_6 ?_
    refine zz_iload_n hx dX4_isGone_9 rfl ?_
    refine zm_l17 hx dX4_isGone_10 (by omega) (by omega) ?_
    rw [hM r (by omega) (by omega)]
    refine zz_if_eq hx 18 dX4_isGone_11 rfl (by have := zin_01 r M; omega) (fun c11 => ?_) (fun c11 => ?_)
    · refine zz_iconst hx dX4_isGone_18 ?_
      exact zz_zret hx hf dX4_isGone_19 (by first | decide | exact zb_01 _) ⟨_, rfl, by first | exact (zb_t (by first | exact zin_1.mp (by have := zin_01 r M; omega))).symm | exact (zb_f (by first | exact hm1 c2 | exact zin_0.mp (by omega))).symm, rfl⟩ (by decide) (by decide)
    · refine zz_iconst hx dX4_isGone_14 ?_
      refine zz_goto hx 19 dX4_isGone_15 rfl ?_
      exact zz_zret hx hf dX4_isGone_19 (by first | decide | exact zb_01 _) ⟨_, rfl, by first | exact (zb_t (by first | exact zin_1.mp (by have := zin_01 r M; omega))).symm | exact (zb_f (by first | exact hm1 c2 | exact zin_0.mp (by omega))).symm, rfl⟩ (by decide) (by decide)

set_option maxHeartbeats 4000000 in
set_option maxRecDepth 100000 in
theorem c_marks {l : Launch} {g : zG} {a : Nat → Nat} {F : Nat → Int} {G : Nat → Int → Int} {rest : va_W} (hst : l.stackTraces = false) {Rw : Int → List Int} (h : mS F G Rw) (rc way : Int) (r0 : 0 ≤ rc) (r1 : rc < F 6) (hw : 0 ≤ way ∧ way ≤ 2) : zM l g yX4_marks cX4_marks 7 (Option.some FieldType.int) ({ frames := 0, cells := 0, slots := 0, locals := 0 } : Room) [.ref (a 0), vi rc, vi way] (mW g a F G rest) (zI fun v w => ∃ f : Int → Int, w = mW g a F (Gset G 17 f) rest ∧ ((v = -1 ∧ way = 0 ∧ ∃ s u : Int, 0 ≤ s ∧ s < 6 ∧ 0 ≤ u ∧ u < 60 ∧ G 11 (60 * s + u) = rc) ∨ ((∃ M : List Int, M.Nodup ∧ v = (M.length : Int) ∧ (∀ q ∈ M, 0 ≤ q ∧ q < 60) ∧ (∀ q : Int, 0 ≤ q → q < 60 → f q = zin q M) ∧ ∀ q : Int, q ∈ M ↔ gCl G rc way q) ∧ (way = 0 → ∀ s u : Int, 0 ≤ s → s < 6 → 0 ≤ u → u < 60 → G 11 (60 * s + u) ≠ rc)))) zN 0 0 := by
  have hF0 := h.1
  have hF6 := h.2.1
  refine zM_of (lv0 := [(0, _), (1, _), (2, _)]) hst rfl (by decide +kernel) (Nat.le_of_ble_eq_true rfl) rfl (fun x hx hf hn => ?_)
  have hlen60 : ∀ M : List Int, M.Nodup → (∀ q ∈ M, 0 ≤ q ∧ q < 60) → M.length ≤ 60 := fun M h1 h2 => nodup_len 60 M h1 (fun q hq => h2 q hq)
  have hself : ∀ s : Int, 0 ≤ s → s < 6 → G 11 (60 * s + rc) ≠ rc := fun s s0 s1 e => by
    have ho := h.2.2.2.2.1 s rc s0 s1 (by omega) (by omega)
    have hd := h.2.2.1 s s0 (by omega)
    rw [e] at ho
    omega
  have done : ∀ (f : Int → Int) (M : List Int) (b : Int) (v5 : List (Nat × Value)), M.Nodup ∧ (∀ q ∈ M, 0 ≤ q ∧ q < 60) ∧ (∀ q : Int, 0 ≤ q → q < 60 → f q = zin q M) ∧ rc ∈ M ∧ (∀ q ∈ M, gCl G rc way q) ∧ (way = 0 → M = [rc]) → (∀ s u : Int, 0 ≤ s → s < 6 → 0 ≤ u → u < 60 → 60 * s + u < 360 → G 11 (60 * s + u) ≠ -1 → G 11 (60 * s + u) ∈ M → u ∈ M ∨ ¬ (way = 2 ∨ G 5 s ≠ 2)) ∧ (way = 0 → ∀ s u : Int, 0 ≤ s → s < 6 → 0 ≤ u → u < 60 → 60 * s + u < 360 → G 11 (60 * s + u) ≠ rc) → Z l g ({ frames := 0, cells := 0, slots := 0, locals := 0 } : Room) 7 x 0 0 (mW g a F (Gset G 17 f) rest) 163 ([(0, .ref (a 0)), (1, vi rc), (2, vi way), (3, vi (M.length : Int)), (4, vi b)] ++ v5) [] := by
    intro f M b v5 hst2 hcl
    obtain ⟨m1, m2, m3, m4, m5, m6⟩ := hst2
    obtain ⟨k1, k2⟩ := hcl
    refine zz_sub (lv' := [(0, .ref (a 0)), (1, vi rc), (2, vi way), (3, vi (M.length : Int)), (4, vi b)]) (fun q hq => List.mem_append_left _ hq) ?_
    have hall : ∀ q : Int, q ∈ M ↔ gCl G rc way q := fun q => ⟨m5 q, fun hq => hq (fun z => z ∈ M) m4 (fun s u s0 s1 u0 u1 h1 h2 h3 => by
      rcases k1 s u s0 s1 u0 u1 (by omega) h1 h2 with y | y
      · exact y
      · exact absurd (by omega) y)⟩
    refine zz_iload_n hx dX4_marks_163 rfl ?_
    exact zz_iret hx hf dX4_marks_164 ⟨_, rfl, f, rfl, Or.inr ⟨⟨M, m1, rfl, m2, m3, hall⟩, fun e s u s0 s1 u0 u1 => k2 e s u s0 s1 u0 u1 (by omega)⟩⟩ (by decide) (by decide)
  have inner : ∀ (b : Int), (∀ (f : Int → Int) (M : List Int) (v5 : List (Nat × Value)), M.Nodup ∧ (∀ q ∈ M, 0 ≤ q ∧ q < 60) ∧ (∀ q : Int, 0 ≤ q → q < 60 → f q = zin q M) ∧ rc ∈ M ∧ (∀ q ∈ M, gCl G rc way q) ∧ (way = 0 → M = [rc]) → (M.length : Int) ≤ 60 → b ≤ (M.length : Int) → (b = (M.length : Int) → (∀ s u : Int, 0 ≤ s → s < 6 → 0 ≤ u → u < 60 → 60 * s + u < 360 → G 11 (60 * s + u) ≠ -1 → G 11 (60 * s + u) ∈ M → u ∈ M ∨ ¬ (way = 2 ∨ G 5 s ≠ 2)) ∧ (way = 0 → ∀ s u : Int, 0 ≤ s → s < 6 → 0 ≤ u → u < 60 → 60 * s + u < 360 → G 11 (60 * s + u) ≠ rc)) → Z l g ({ frames := 0, cells := 0, slots := 0, locals := 0 } : Room) 7 x 0 0 (mW g a F (Gset G 17 f) rest) 39 ([(0, .ref (a 0)), (1, vi rc), (2, vi way), (3, vi (M.length : Int)), (4, vi b)] ++ v5) []) →
      ∀ (m : Nat) (k : Int) (f : Int → Int) (M : List Int) (v6 : List (Nat × Value)), 0 ≤ k → k ≤ 360 → M.Nodup ∧ (∀ q ∈ M, 0 ≤ q ∧ q < 60) ∧ (∀ q : Int, 0 ≤ q → q < 60 → f q = zin q M) ∧ rc ∈ M ∧ (∀ q ∈ M, gCl G rc way q) ∧ (way = 0 → M = [rc]) → (M.length : Int) ≤ 60 → b ≤ (M.length : Int) → 0 ≤ b → (b = (M.length : Int) → (∀ s u : Int, 0 ≤ s → s < 6 → 0 ≤ u → u < 60 → 60 * s + u < k → G 11 (60 * s + u) ≠ -1 → G 11 (60 * s + u) ∈ M → u ∈ M ∨ ¬ (way = 2 ∨ G 5 s ≠ 2)) ∧ (way = 0 → ∀ s u : Int, 0 ≤ s → s < 6 → 0 ≤ u → u < 60 → 60 * s + u < k → G 11 (60 * s + u) ≠ rc)) → (360 - k).toNat < m → Z l g ({ frames := 0, cells := 0, slots := 0, locals := 0 } : Room) 7 x 0 0 (mW g a F (Gset G 17 f) rest) 51 ([(0, .ref (a 0)), (1, vi rc), (2, vi way), (3, vi (M.length : Int)), (4, vi b), (5, vi k)] ++ v6) [] := by
    intro b outer m
    induction m with
    | zero => intro k f M v6 h0 h1 hst2 hl hb hb0 hcl hm; omega
    | succ m ih =>
      intro k f M v6 h0 h1 hst2 hl hb hb0 hcl hm
      refine zz_sub (lv' := [(0, .ref (a 0)), (1, vi rc), (2, vi way), (3, vi (M.length : Int)), (4, vi b), (5, vi k)]) (fun q hq => List.mem_append_left _ hq) ?_
      obtain ⟨m1, m2, m3, m4, m5, m6⟩ := id hst2
      have hsu : ∀ z : k < 360, ∃ s u : Int, 0 ≤ s ∧ s < 6 ∧ 0 ≤ u ∧ u < 60 ∧ 60 * s + u = k ∧ k % 60 = u ∧ k / 60 = s := fun z => ⟨k / 60, k % 60, by omega, by omega, by omega, by omega, by omega, rfl, rfl⟩
      have JG : k < 360 → ∀ gg : Int, (gg = 0 ∨ gg = 1) → (gg = 1 ↔ (G 11 k ≠ -1 ∧ G 11 k ∈ M ∧ k % 60 ∉ M)) → Z l g ({ frames := 0, cells := 0, slots := 0, locals := 0 } : Room) 7 x 0 0 (mW g a F (Gset G 17 f) rest) 103 [(0, .ref (a 0)), (1, vi rc), (2, vi way), (3, vi (M.length : Int)), (4, vi b), (5, vi k)] [vi gg] := by
        intro hk gg hg1 hg2
        obtain ⟨s, u, s0, s1, u0, u1, e1, e2, e3⟩ := hsu hk
        have ho := h.2.2.2.2.1 s u s0 s1 u0 u1
        rw [e1] at ho
        rw [e2] at hg2
        clear hsu
        refine zz_istore (lv' := [(0, _), (1, _), (2, _), (3, _), (4, _), (5, _), (6, _)]) hx dX4_marks_103 (by decide) rfl ?_
        refine zz_iload hx dX4_marks_105 rfl ?_
        refine zz_if_eq hx 116 dX4_marks_107 rfl (by omega) (fun c107 => ?_) (fun c107 => ?_)
        · refine zz_iload hx dX4_marks_116 rfl ?_
          refine zz_if_eq hx 154 dX4_marks_118 rfl (by omega) (fun c118 => ?_) (fun c118 => ?_)
          · refine zz_iinc (lv' := [(0, _), (1, _), (2, _), (3, _), (4, _), (5, _), (6, _)]) hx dX4_marks_154 (by decide) rfl rfl ?_
            refine zz_goto hx 51 dX4_marks_157 rfl ?_
            first
              | (exfalso; omega)
              | (refine ih (k + 1) f M [(6, vi gg)] (by omega) (by omega) hst2 hl hb hb0 (fun e => ?_) (by omega)
                 obtain ⟨k1, k2⟩ := hcl e
                 refine ⟨fun s9 u9 a0 a1 a2 a3 a4 a5 a6 => ?_, fun a7 s9 u9 a0 a1 a2 a3 a4 a5 => ?_⟩
                 · rcases Int.lt_or_eq_of_le (show 60 * s9 + u9 ≤ k by omega) with y | y
                   · exact k1 s9 u9 a0 a1 a2 a3 y a5 a6
                   · have hs9 : s9 = s := by omega
                     have hu9 : u9 = u := by omega
                     subst hs9; subst hu9
                     rw [y] at a5 a6
                     first
                       | (exact Or.inr (by omega))
                       | (refine Or.inl (Decidable.byContradiction fun z9 => ?_); have := hg2.mpr ⟨a5, a6, z9⟩; omega)
                 · rcases Int.lt_or_eq_of_le (show 60 * s9 + u9 ≤ k by omega) with y | y
                   · exact k2 a7 s9 u9 a0 a1 a2 a3 y a5
                   · have hs9 : s9 = s := by omega
                     have hu9 : u9 = u := by omega
                     subst hs9; subst hu9
                     rw [y] at a5
                     first
                       | (exfalso; omega)
                       | (have hgz := hg2.mpr ⟨by omega, by rw [a5]; exact m4, fun z9 => by rw [m6 a7, List.mem_singleton] at z9; subst z9; exact hself s9 s0 s1 (by rw [e1]; exact a5)⟩; omega))
              | (have hgo := hg2.mp (by omega)
                 have hst3 : (M ++ [u]).Nodup := by
                   rw [List.nodup_append]
                   refine ⟨m1, by simp, fun q hq z hz => ?_⟩
                   rw [List.mem_singleton] at hz
                   subst hz
                   exact fun e => hgo.2.2 (e ▸ hq)
                 have hm2 : ∀ q ∈ M ++ [u], 0 ≤ q ∧ q < 60 := fun q hq => by
                   rcases List.mem_append.mp hq with z | z
                   · exact m2 q z
                   · rw [List.mem_singleton] at z; omega
                 have hl2 := hlen60 _ hst3 hm2
                 rw [Gup_eq, Gset_Gset, Gset_s]
                 have hll : ((M ++ [u]).length : Int) = (M.length : Int) + 1 := by rw [List.length_append, List.length_singleton]; omega
                 rw [← hll]
                 refine ih (k + 1) _ (M ++ [u]) [(6, vi gg)] (by omega) (by omega) ⟨hst3, hm2, fun q q0 q1 => ?_, List.mem_append_left _ m4, fun q hq => ?_, fun e => ?_⟩ (by omega) (by omega) hb0 (fun e => by omega) (by omega)
                 · by_cases cq : q = u
                   · subst cq
                     rw [e2, zup_s]
                     exact (zin_1.mpr (List.mem_append_right _ List.mem_cons_self)).symm
                   · rw [e2, zup_n _ _ cq, m3 q q0 q1]
                     unfold zin
                     simp [cq]
                 · rcases List.mem_append.mp hq with z | z
                   · exact m5 q z
                   · rw [List.mem_singleton] at z
                     subst z
                     exact gCl_step s0 s1 u0 u1 (by rw [e1]; exact hgo.1) (by rw [e1]; exact m5 _ hgo.2.1) (by first | omega | (rw [e3] at *; omega))
                 · exfalso; omega)
          · refine zz_iload_n hx dX4_marks_121 rfl ?_
            refine zz_iconst hx dX4_marks_122 ?_
            refine zz_icmp_eq hx 140 dX4_marks_123 rfl (by omega) (by omega) (fun c123 => ?_) (fun c123 => ?_)
            · refine zz_aload_n hx dX4_marks_140 rfl ?_
              refine zm_g17 hx lf_X4_50 dX4_marks_141 ?_
              refine zz_iload hx dX4_marks_144 rfl ?_
              refine zz_bipush hx dX4_marks_146 rfl ?_
              refine zz_irem hx dX4_marks_148 (by omega) (by omega) (by omega) (by omega) ?_
              refine zz_iconst hx dX4_marks_149 ?_
              refine zm_s17 hx dX4_marks_150 (by omega) (by omega) (by omega) ?_
              refine zz_iinc (lv' := [(0, _), (1, _), (2, _), (3, _), (4, _), (5, _), (6, _)]) hx dX4_marks_151 (by decide) rfl rfl ?_
              refine zz_iinc (lv' := [(0, _), (1, _), (2, _), (3, _), (4, _), (5, _), (6, _)]) hx dX4_marks_154 (by decide) rfl rfl ?_
              refine zz_goto hx 51 dX4_marks_157 rfl ?_
              first
                | (exfalso; omega)
                | (refine ih (k + 1) f M [(6, vi gg)] (by omega) (by omega) hst2 hl hb hb0 (fun e => ?_) (by omega)
                   obtain ⟨k1, k2⟩ := hcl e
                   refine ⟨fun s9 u9 a0 a1 a2 a3 a4 a5 a6 => ?_, fun a7 s9 u9 a0 a1 a2 a3 a4 a5 => ?_⟩
                   · rcases Int.lt_or_eq_of_le (show 60 * s9 + u9 ≤ k by omega) with y | y
                     · exact k1 s9 u9 a0 a1 a2 a3 y a5 a6
                     · have hs9 : s9 = s := by omega
                       have hu9 : u9 = u := by omega
                       subst hs9; subst hu9
                       rw [y] at a5 a6
                       first
                         | (exact Or.inr (by omega))
                         | (refine Or.inl (Decidable.byContradiction fun z9 => ?_); have := hg2.mpr ⟨a5, a6, z9⟩; omega)
                   · rcases Int.lt_or_eq_of_le (show 60 * s9 + u9 ≤ k by omega) with y | y
                     · exact k2 a7 s9 u9 a0 a1 a2 a3 y a5
                     · have hs9 : s9 = s := by omega
                       have hu9 : u9 = u := by omega
                       subst hs9; subst hu9
                       rw [y] at a5
                       first
                         | (exfalso; omega)
                         | (have hgz := hg2.mpr ⟨by omega, by rw [a5]; exact m4, fun z9 => by rw [m6 a7, List.mem_singleton] at z9; subst z9; exact hself s9 s0 s1 (by rw [e1]; exact a5)⟩; omega))
                | (have hgo := hg2.mp (by omega)
                   have hst3 : (M ++ [u]).Nodup := by
                     rw [List.nodup_append]
                     refine ⟨m1, by simp, fun q hq z hz => ?_⟩
                     rw [List.mem_singleton] at hz
                     subst hz
                     exact fun e => hgo.2.2 (e ▸ hq)
                   have hm2 : ∀ q ∈ M ++ [u], 0 ≤ q ∧ q < 60 := fun q hq => by
                     rcases List.mem_append.mp hq with z | z
                     · exact m2 q z
                     · rw [List.mem_singleton] at z; omega
                   have hl2 := hlen60 _ hst3 hm2
                   rw [Gup_eq, Gset_Gset, Gset_s]
                   have hll : ((M ++ [u]).length : Int) = (M.length : Int) + 1 := by rw [List.length_append, List.length_singleton]; omega
                   rw [← hll]
                   refine ih (k + 1) _ (M ++ [u]) [(6, vi gg)] (by omega) (by omega) ⟨hst3, hm2, fun q q0 q1 => ?_, List.mem_append_left _ m4, fun q hq => ?_, fun e => ?_⟩ (by omega) (by omega) hb0 (fun e => by omega) (by omega)
                   · by_cases cq : q = u
                     · subst cq
                       rw [e2, zup_s]
                       exact (zin_1.mpr (List.mem_append_right _ List.mem_cons_self)).symm
                     · rw [e2, zup_n _ _ cq, m3 q q0 q1]
                       unfold zin
                       simp [cq]
                   · rcases List.mem_append.mp hq with z | z
                     · exact m5 q z
                     · rw [List.mem_singleton] at z
                       subst z
                       exact gCl_step s0 s1 u0 u1 (by rw [e1]; exact hgo.1) (by rw [e1]; exact m5 _ hgo.2.1) (by first | omega | (rw [e3] at *; omega))
                   · exfalso; omega)
            · refine zz_aload_n hx dX4_marks_126 rfl ?_
              refine zm_g5 hx lf_X4_23 dX4_marks_127 ?_
              refine zz_iload hx dX4_marks_130 rfl ?_
              refine zz_bipush hx dX4_marks_132 rfl ?_
              refine zz_idiv hx dX4_marks_134 (by omega) (by omega) (by omega) (by omega) ?_
              refine zm_l5 hx dX4_marks_135 (by omega) (by omega) ?_
              refine zz_iconst hx dX4_marks_136 ?_
              simp only [Gset, reduceIte, Nat.reduceEqDiff]
              rw [e3]
              refine zz_icmp_eq hx 154 dX4_marks_137 rfl (by have := h.2.2.1 s s0 (by omega); omega) (by omega) (fun c137 => ?_) (fun c137 => ?_)
              · refine zz_iinc (lv' := [(0, _), (1, _), (2, _), (3, _), (4, _), (5, _), (6, _)]) hx dX4_marks_154 (by decide) rfl rfl ?_
                refine zz_goto hx 51 dX4_marks_157 rfl ?_
                first
                  | (exfalso; omega)
                  | (refine ih (k + 1) f M [(6, vi gg)] (by omega) (by omega) hst2 hl hb hb0 (fun e => ?_) (by omega)
                     obtain ⟨k1, k2⟩ := hcl e
                     refine ⟨fun s9 u9 a0 a1 a2 a3 a4 a5 a6 => ?_, fun a7 s9 u9 a0 a1 a2 a3 a4 a5 => ?_⟩
                     · rcases Int.lt_or_eq_of_le (show 60 * s9 + u9 ≤ k by omega) with y | y
                       · exact k1 s9 u9 a0 a1 a2 a3 y a5 a6
                       · have hs9 : s9 = s := by omega
                         have hu9 : u9 = u := by omega
                         subst hs9; subst hu9
                         rw [y] at a5 a6
                         first
                           | (exact Or.inr (by omega))
                           | (refine Or.inl (Decidable.byContradiction fun z9 => ?_); have := hg2.mpr ⟨a5, a6, z9⟩; omega)
                     · rcases Int.lt_or_eq_of_le (show 60 * s9 + u9 ≤ k by omega) with y | y
                       · exact k2 a7 s9 u9 a0 a1 a2 a3 y a5
                       · have hs9 : s9 = s := by omega
                         have hu9 : u9 = u := by omega
                         subst hs9; subst hu9
                         rw [y] at a5
                         first
                           | (exfalso; omega)
                           | (have hgz := hg2.mpr ⟨by omega, by rw [a5]; exact m4, fun z9 => by rw [m6 a7, List.mem_singleton] at z9; subst z9; exact hself s9 s0 s1 (by rw [e1]; exact a5)⟩; omega))
                  | (have hgo := hg2.mp (by omega)
                     have hst3 : (M ++ [u]).Nodup := by
                       rw [List.nodup_append]
                       refine ⟨m1, by simp, fun q hq z hz => ?_⟩
                       rw [List.mem_singleton] at hz
                       subst hz
                       exact fun e => hgo.2.2 (e ▸ hq)
                     have hm2 : ∀ q ∈ M ++ [u], 0 ≤ q ∧ q < 60 := fun q hq => by
                       rcases List.mem_append.mp hq with z | z
                       · exact m2 q z
                       · rw [List.mem_singleton] at z; omega
                     have hl2 := hlen60 _ hst3 hm2
                     rw [Gup_eq, Gset_Gset, Gset_s]
                     have hll : ((M ++ [u]).length : Int) = (M.length : Int) + 1 := by rw [List.length_append, List.length_singleton]; omega
                     rw [← hll]
                     refine ih (k + 1) _ (M ++ [u]) [(6, vi gg)] (by omega) (by omega) ⟨hst3, hm2, fun q q0 q1 => ?_, List.mem_append_left _ m4, fun q hq => ?_, fun e => ?_⟩ (by omega) (by omega) hb0 (fun e => by omega) (by omega)
                     · by_cases cq : q = u
                       · subst cq
                         rw [e2, zup_s]
                         exact (zin_1.mpr (List.mem_append_right _ List.mem_cons_self)).symm
                       · rw [e2, zup_n _ _ cq, m3 q q0 q1]
                         unfold zin
                         simp [cq]
                     · rcases List.mem_append.mp hq with z | z
                       · exact m5 q z
                       · rw [List.mem_singleton] at z
                         subst z
                         exact gCl_step s0 s1 u0 u1 (by rw [e1]; exact hgo.1) (by rw [e1]; exact m5 _ hgo.2.1) (by first | omega | (rw [e3] at *; omega))
                     · exfalso; omega)
              · refine zz_aload_n hx dX4_marks_140 rfl ?_
                refine zm_g17 hx lf_X4_50 dX4_marks_141 ?_
                refine zz_iload hx dX4_marks_144 rfl ?_
                refine zz_bipush hx dX4_marks_146 rfl ?_
                refine zz_irem hx dX4_marks_148 (by omega) (by omega) (by omega) (by omega) ?_
                refine zz_iconst hx dX4_marks_149 ?_
                refine zm_s17 hx dX4_marks_150 (by omega) (by omega) (by omega) ?_
                refine zz_iinc (lv' := [(0, _), (1, _), (2, _), (3, _), (4, _), (5, _), (6, _)]) hx dX4_marks_151 (by decide) rfl rfl ?_
                refine zz_iinc (lv' := [(0, _), (1, _), (2, _), (3, _), (4, _), (5, _), (6, _)]) hx dX4_marks_154 (by decide) rfl rfl ?_
                refine zz_goto hx 51 dX4_marks_157 rfl ?_
                first
                  | (exfalso; omega)
                  | (refine ih (k + 1) f M [(6, vi gg)] (by omega) (by omega) hst2 hl hb hb0 (fun e => ?_) (by omega)
                     obtain ⟨k1, k2⟩ := hcl e
                     refine ⟨fun s9 u9 a0 a1 a2 a3 a4 a5 a6 => ?_, fun a7 s9 u9 a0 a1 a2 a3 a4 a5 => ?_⟩
                     · rcases Int.lt_or_eq_of_le (show 60 * s9 + u9 ≤ k by omega) with y | y
                       · exact k1 s9 u9 a0 a1 a2 a3 y a5 a6
                       · have hs9 : s9 = s := by omega
                         have hu9 : u9 = u := by omega
                         subst hs9; subst hu9
                         rw [y] at a5 a6
                         first
                           | (exact Or.inr (by omega))
                           | (refine Or.inl (Decidable.byContradiction fun z9 => ?_); have := hg2.mpr ⟨a5, a6, z9⟩; omega)
                     · rcases Int.lt_or_eq_of_le (show 60 * s9 + u9 ≤ k by omega) with y | y
                       · exact k2 a7 s9 u9 a0 a1 a2 a3 y a5
                       · have hs9 : s9 = s := by omega
                         have hu9 : u9 = u := by omega
                         subst hs9; subst hu9
                         rw [y] at a5
                         first
                           | (exfalso; omega)
                           | (have hgz := hg2.mpr ⟨by omega, by rw [a5]; exact m4, fun z9 => by rw [m6 a7, List.mem_singleton] at z9; subst z9; exact hself s9 s0 s1 (by rw [e1]; exact a5)⟩; omega))
                  | (have hgo := hg2.mp (by omega)
                     have hst3 : (M ++ [u]).Nodup := by
                       rw [List.nodup_append]
                       refine ⟨m1, by simp, fun q hq z hz => ?_⟩
                       rw [List.mem_singleton] at hz
                       subst hz
                       exact fun e => hgo.2.2 (e ▸ hq)
                     have hm2 : ∀ q ∈ M ++ [u], 0 ≤ q ∧ q < 60 := fun q hq => by
                       rcases List.mem_append.mp hq with z | z
                       · exact m2 q z
                       · rw [List.mem_singleton] at z; omega
                     have hl2 := hlen60 _ hst3 hm2
                     rw [Gup_eq, Gset_Gset, Gset_s]
                     have hll : ((M ++ [u]).length : Int) = (M.length : Int) + 1 := by rw [List.length_append, List.length_singleton]; omega
                     rw [← hll]
                     refine ih (k + 1) _ (M ++ [u]) [(6, vi gg)] (by omega) (by omega) ⟨hst3, hm2, fun q q0 q1 => ?_, List.mem_append_left _ m4, fun q hq => ?_, fun e => ?_⟩ (by omega) (by omega) hb0 (fun e => by omega) (by omega)
                     · by_cases cq : q = u
                       · subst cq
                         rw [e2, zup_s]
                         exact (zin_1.mpr (List.mem_append_right _ List.mem_cons_self)).symm
                       · rw [e2, zup_n _ _ cq, m3 q q0 q1]
                         unfold zin
                         simp [cq]
                     · rcases List.mem_append.mp hq with z | z
                       · exact m5 q z
                       · rw [List.mem_singleton] at z
                         subst z
                         exact gCl_step s0 s1 u0 u1 (by rw [e1]; exact hgo.1) (by rw [e1]; exact m5 _ hgo.2.1) (by first | omega | (rw [e3] at *; omega))
                     · exfalso; omega)
        · refine zz_iload_n hx dX4_marks_110 rfl ?_
          refine zz_if_ne hx 116 dX4_marks_111 rfl (by omega) (fun c111 => ?_) (fun c111 => ?_)
          · refine zz_iload hx dX4_marks_116 rfl ?_
            refine zz_if_eq hx 154 dX4_marks_118 rfl (by omega) (fun c118 => ?_) (fun c118 => ?_)
            · refine zz_iinc (lv' := [(0, _), (1, _), (2, _), (3, _), (4, _), (5, _), (6, _)]) hx dX4_marks_154 (by decide) rfl rfl ?_
              refine zz_goto hx 51 dX4_marks_157 rfl ?_
              first
                | (exfalso; omega)
                | (refine ih (k + 1) f M [(6, vi gg)] (by omega) (by omega) hst2 hl hb hb0 (fun e => ?_) (by omega)
                   obtain ⟨k1, k2⟩ := hcl e
                   refine ⟨fun s9 u9 a0 a1 a2 a3 a4 a5 a6 => ?_, fun a7 s9 u9 a0 a1 a2 a3 a4 a5 => ?_⟩
                   · rcases Int.lt_or_eq_of_le (show 60 * s9 + u9 ≤ k by omega) with y | y
                     · exact k1 s9 u9 a0 a1 a2 a3 y a5 a6
                     · have hs9 : s9 = s := by omega
                       have hu9 : u9 = u := by omega
                       subst hs9; subst hu9
                       rw [y] at a5 a6
                       first
                         | (exact Or.inr (by omega))
                         | (refine Or.inl (Decidable.byContradiction fun z9 => ?_); have := hg2.mpr ⟨a5, a6, z9⟩; omega)
                   · rcases Int.lt_or_eq_of_le (show 60 * s9 + u9 ≤ k by omega) with y | y
                     · exact k2 a7 s9 u9 a0 a1 a2 a3 y a5
                     · have hs9 : s9 = s := by omega
                       have hu9 : u9 = u := by omega
                       subst hs9; subst hu9
                       rw [y] at a5
                       first
                         | (exfalso; omega)
                         | (have hgz := hg2.mpr ⟨by omega, by rw [a5]; exact m4, fun z9 => by rw [m6 a7, List.mem_singleton] at z9; subst z9; exact hself s9 s0 s1 (by rw [e1]; exact a5)⟩; omega))
                | (have hgo := hg2.mp (by omega)
                   have hst3 : (M ++ [u]).Nodup := by
                     rw [List.nodup_append]
                     refine ⟨m1, by simp, fun q hq z hz => ?_⟩
                     rw [List.mem_singleton] at hz
                     subst hz
                     exact fun e => hgo.2.2 (e ▸ hq)
                   have hm2 : ∀ q ∈ M ++ [u], 0 ≤ q ∧ q < 60 := fun q hq => by
                     rcases List.mem_append.mp hq with z | z
                     · exact m2 q z
                     · rw [List.mem_singleton] at z; omega
                   have hl2 := hlen60 _ hst3 hm2
                   rw [Gup_eq, Gset_Gset, Gset_s]
                   have hll : ((M ++ [u]).length : Int) = (M.length : Int) + 1 := by rw [List.length_append, List.length_singleton]; omega
                   rw [← hll]
                   refine ih (k + 1) _ (M ++ [u]) [(6, vi gg)] (by omega) (by omega) ⟨hst3, hm2, fun q q0 q1 => ?_, List.mem_append_left _ m4, fun q hq => ?_, fun e => ?_⟩ (by omega) (by omega) hb0 (fun e => by omega) (by omega)
                   · by_cases cq : q = u
                     · subst cq
                       rw [e2, zup_s]
                       exact (zin_1.mpr (List.mem_append_right _ List.mem_cons_self)).symm
                     · rw [e2, zup_n _ _ cq, m3 q q0 q1]
                       unfold zin
                       simp [cq]
                   · rcases List.mem_append.mp hq with z | z
                     · exact m5 q z
                     · rw [List.mem_singleton] at z
                       subst z
                       exact gCl_step s0 s1 u0 u1 (by rw [e1]; exact hgo.1) (by rw [e1]; exact m5 _ hgo.2.1) (by first | omega | (rw [e3] at *; omega))
                   · exfalso; omega)
            · refine zz_iload_n hx dX4_marks_121 rfl ?_
              refine zz_iconst hx dX4_marks_122 ?_
              refine zz_icmp_eq hx 140 dX4_marks_123 rfl (by omega) (by omega) (fun c123 => ?_) (fun c123 => ?_)
              · refine zz_aload_n hx dX4_marks_140 rfl ?_
                refine zm_g17 hx lf_X4_50 dX4_marks_141 ?_
                refine zz_iload hx dX4_marks_144 rfl ?_
                refine zz_bipush hx dX4_marks_146 rfl ?_
                refine zz_irem hx dX4_marks_148 (by omega) (by omega) (by omega) (by omega) ?_
                refine zz_iconst hx dX4_marks_149 ?_
                refine zm_s17 hx dX4_marks_150 (by omega) (by omega) (by omega) ?_
                refine zz_iinc (lv' := [(0, _), (1, _), (2, _), (3, _), (4, _), (5, _), (6, _)]) hx dX4_marks_151 (by decide) rfl rfl ?_
                refine zz_iinc (lv' := [(0, _), (1, _), (2, _), (3, _), (4, _), (5, _), (6, _)]) hx dX4_marks_154 (by decide) rfl rfl ?_
                refine zz_goto hx 51 dX4_marks_157 rfl ?_
                first
                  | (exfalso; omega)
                  | (refine ih (k + 1) f M [(6, vi gg)] (by omega) (by omega) hst2 hl hb hb0 (fun e => ?_) (by omega)
                     obtain ⟨k1, k2⟩ := hcl e
                     refine ⟨fun s9 u9 a0 a1 a2 a3 a4 a5 a6 => ?_, fun a7 s9 u9 a0 a1 a2 a3 a4 a5 => ?_⟩
                     · rcases Int.lt_or_eq_of_le (show 60 * s9 + u9 ≤ k by omega) with y | y
                       · exact k1 s9 u9 a0 a1 a2 a3 y a5 a6
                       · have hs9 : s9 = s := by omega
                         have hu9 : u9 = u := by omega
                         subst hs9; subst hu9
                         rw [y] at a5 a6
                         first
                           | (exact Or.inr (by omega))
                           | (refine Or.inl (Decidable.byContradiction fun z9 => ?_); have := hg2.mpr ⟨a5, a6, z9⟩; omega)
                     · rcases Int.lt_or_eq_of_le (show 60 * s9 + u9 ≤ k by omega) with y | y
                       · exact k2 a7 s9 u9 a0 a1 a2 a3 y a5
                       · have hs9 : s9 = s := by omega
                         have hu9 : u9 = u := by omega
                         subst hs9; subst hu9
                         rw [y] at a5
                         first
                           | (exfalso; omega)
                           | (have hgz := hg2.mpr ⟨by omega, by rw [a5]; exact m4, fun z9 => by rw [m6 a7, List.mem_singleton] at z9; subst z9; exact hself s9 s0 s1 (by rw [e1]; exact a5)⟩; omega))
                  | (have hgo := hg2.mp (by omega)
                     have hst3 : (M ++ [u]).Nodup := by
                       rw [List.nodup_append]
                       refine ⟨m1, by simp, fun q hq z hz => ?_⟩
                       rw [List.mem_singleton] at hz
                       subst hz
                       exact fun e => hgo.2.2 (e ▸ hq)
                     have hm2 : ∀ q ∈ M ++ [u], 0 ≤ q ∧ q < 60 := fun q hq => by
                       rcases List.mem_append.mp hq with z | z
                       · exact m2 q z
                       · rw [List.mem_singleton] at z; omega
                     have hl2 := hlen60 _ hst3 hm2
                     rw [Gup_eq, Gset_Gset, Gset_s]
                     have hll : ((M ++ [u]).length : Int) = (M.length : Int) + 1 := by rw [List.length_append, List.length_singleton]; omega
                     rw [← hll]
                     refine ih (k + 1) _ (M ++ [u]) [(6, vi gg)] (by omega) (by omega) ⟨hst3, hm2, fun q q0 q1 => ?_, List.mem_append_left _ m4, fun q hq => ?_, fun e => ?_⟩ (by omega) (by omega) hb0 (fun e => by omega) (by omega)
                     · by_cases cq : q = u
                       · subst cq
                         rw [e2, zup_s]
                         exact (zin_1.mpr (List.mem_append_right _ List.mem_cons_self)).symm
                       · rw [e2, zup_n _ _ cq, m3 q q0 q1]
                         unfold zin
                         simp [cq]
                     · rcases List.mem_append.mp hq with z | z
                       · exact m5 q z
                       · rw [List.mem_singleton] at z
                         subst z
                         exact gCl_step s0 s1 u0 u1 (by rw [e1]; exact hgo.1) (by rw [e1]; exact m5 _ hgo.2.1) (by first | omega | (rw [e3] at *; omega))
                     · exfalso; omega)
              · refine zz_aload_n hx dX4_marks_126 rfl ?_
                refine zm_g5 hx lf_X4_23 dX4_marks_127 ?_
                refine zz_iload hx dX4_marks_130 rfl ?_
                refine zz_bipush hx dX4_marks_132 rfl ?_
                refine zz_idiv hx dX4_marks_134 (by omega) (by omega) (by omega) (by omega) ?_
                refine zm_l5 hx dX4_marks_135 (by omega) (by omega) ?_
                refine zz_iconst hx dX4_marks_136 ?_
                simp only [Gset, reduceIte, Nat.reduceEqDiff]
                rw [e3]
                refine zz_icmp_eq hx 154 dX4_marks_137 rfl (by have := h.2.2.1 s s0 (by omega); omega) (by omega) (fun c137 => ?_) (fun c137 => ?_)
                · refine zz_iinc (lv' := [(0, _), (1, _), (2, _), (3, _), (4, _), (5, _), (6, _)]) hx dX4_marks_154 (by decide) rfl rfl ?_
                  refine zz_goto hx 51 dX4_marks_157 rfl ?_
                  first
                    | (exfalso; omega)
                    | (refine ih (k + 1) f M [(6, vi gg)] (by omega) (by omega) hst2 hl hb hb0 (fun e => ?_) (by omega)
                       obtain ⟨k1, k2⟩ := hcl e
                       refine ⟨fun s9 u9 a0 a1 a2 a3 a4 a5 a6 => ?_, fun a7 s9 u9 a0 a1 a2 a3 a4 a5 => ?_⟩
                       · rcases Int.lt_or_eq_of_le (show 60 * s9 + u9 ≤ k by omega) with y | y
                         · exact k1 s9 u9 a0 a1 a2 a3 y a5 a6
                         · have hs9 : s9 = s := by omega
                           have hu9 : u9 = u := by omega
                           subst hs9; subst hu9
                           rw [y] at a5 a6
                           first
                             | (exact Or.inr (by omega))
                             | (refine Or.inl (Decidable.byContradiction fun z9 => ?_); have := hg2.mpr ⟨a5, a6, z9⟩; omega)
                       · rcases Int.lt_or_eq_of_le (show 60 * s9 + u9 ≤ k by omega) with y | y
                         · exact k2 a7 s9 u9 a0 a1 a2 a3 y a5
                         · have hs9 : s9 = s := by omega
                           have hu9 : u9 = u := by omega
                           subst hs9; subst hu9
                           rw [y] at a5
                           first
                             | (exfalso; omega)
                             | (have hgz := hg2.mpr ⟨by omega, by rw [a5]; exact m4, fun z9 => by rw [m6 a7, List.mem_singleton] at z9; subst z9; exact hself s9 s0 s1 (by rw [e1]; exact a5)⟩; omega))
                    | (have hgo := hg2.mp (by omega)
                       have hst3 : (M ++ [u]).Nodup := by
                         rw [List.nodup_append]
                         refine ⟨m1, by simp, fun q hq z hz => ?_⟩
                         rw [List.mem_singleton] at hz
                         subst hz
                         exact fun e => hgo.2.2 (e ▸ hq)
                       have hm2 : ∀ q ∈ M ++ [u], 0 ≤ q ∧ q < 60 := fun q hq => by
                         rcases List.mem_append.mp hq with z | z
                         · exact m2 q z
                         · rw [List.mem_singleton] at z; omega
                       have hl2 := hlen60 _ hst3 hm2
                       rw [Gup_eq, Gset_Gset, Gset_s]
                       have hll : ((M ++ [u]).length : Int) = (M.length : Int) + 1 := by rw [List.length_append, List.length_singleton]; omega
                       rw [← hll]
                       refine ih (k + 1) _ (M ++ [u]) [(6, vi gg)] (by omega) (by omega) ⟨hst3, hm2, fun q q0 q1 => ?_, List.mem_append_left _ m4, fun q hq => ?_, fun e => ?_⟩ (by omega) (by omega) hb0 (fun e => by omega) (by omega)
                       · by_cases cq : q = u
                         · subst cq
                           rw [e2, zup_s]
                           exact (zin_1.mpr (List.mem_append_right _ List.mem_cons_self)).symm
                         · rw [e2, zup_n _ _ cq, m3 q q0 q1]
                           unfold zin
                           simp [cq]
                       · rcases List.mem_append.mp hq with z | z
                         · exact m5 q z
                         · rw [List.mem_singleton] at z
                           subst z
                           exact gCl_step s0 s1 u0 u1 (by rw [e1]; exact hgo.1) (by rw [e1]; exact m5 _ hgo.2.1) (by first | omega | (rw [e3] at *; omega))
                       · exfalso; omega)
                · refine zz_aload_n hx dX4_marks_140 rfl ?_
                  refine zm_g17 hx lf_X4_50 dX4_marks_141 ?_
                  refine zz_iload hx dX4_marks_144 rfl ?_
                  refine zz_bipush hx dX4_marks_146 rfl ?_
                  refine zz_irem hx dX4_marks_148 (by omega) (by omega) (by omega) (by omega) ?_
                  refine zz_iconst hx dX4_marks_149 ?_
                  refine zm_s17 hx dX4_marks_150 (by omega) (by omega) (by omega) ?_
                  refine zz_iinc (lv' := [(0, _), (1, _), (2, _), (3, _), (4, _), (5, _), (6, _)]) hx dX4_marks_151 (by decide) rfl rfl ?_
                  refine zz_iinc (lv' := [(0, _), (1, _), (2, _), (3, _), (4, _), (5, _), (6, _)]) hx dX4_marks_154 (by decide) rfl rfl ?_
                  refine zz_goto hx 51 dX4_marks_157 rfl ?_
                  first
                    | (exfalso; omega)
                    | (refine ih (k + 1) f M [(6, vi gg)] (by omega) (by omega) hst2 hl hb hb0 (fun e => ?_) (by omega)
                       obtain ⟨k1, k2⟩ := hcl e
                       refine ⟨fun s9 u9 a0 a1 a2 a3 a4 a5 a6 => ?_, fun a7 s9 u9 a0 a1 a2 a3 a4 a5 => ?_⟩
                       · rcases Int.lt_or_eq_of_le (show 60 * s9 + u9 ≤ k by omega) with y | y
                         · exact k1 s9 u9 a0 a1 a2 a3 y a5 a6
                         · have hs9 : s9 = s := by omega
                           have hu9 : u9 = u := by omega
                           subst hs9; subst hu9
                           rw [y] at a5 a6
                           first
                             | (exact Or.inr (by omega))
                             | (refine Or.inl (Decidable.byContradiction fun z9 => ?_); have := hg2.mpr ⟨a5, a6, z9⟩; omega)
                       · rcases Int.lt_or_eq_of_le (show 60 * s9 + u9 ≤ k by omega) with y | y
                         · exact k2 a7 s9 u9 a0 a1 a2 a3 y a5
                         · have hs9 : s9 = s := by omega
                           have hu9 : u9 = u := by omega
                           subst hs9; subst hu9
                           rw [y] at a5
                           first
                             | (exfalso; omega)
                             | (have hgz := hg2.mpr ⟨by omega, by rw [a5]; exact m4, fun z9 => by rw [m6 a7, List.mem_singleton] at z9; subst z9; exact hself s9 s0 s1 (by rw [e1]; exact a5)⟩; omega))
                    | (have hgo := hg2.mp (by omega)
                       have hst3 : (M ++ [u]).Nodup := by
                         rw [List.nodup_append]
                         refine ⟨m1, by simp, fun q hq z hz => ?_⟩
                         rw [List.mem_singleton] at hz
                         subst hz
                         exact fun e => hgo.2.2 (e ▸ hq)
                       have hm2 : ∀ q ∈ M ++ [u], 0 ≤ q ∧ q < 60 := fun q hq => by
                         rcases List.mem_append.mp hq with z | z
                         · exact m2 q z
                         · rw [List.mem_singleton] at z; omega
                       have hl2 := hlen60 _ hst3 hm2
                       rw [Gup_eq, Gset_Gset, Gset_s]
                       have hll : ((M ++ [u]).length : Int) = (M.length : Int) + 1 := by rw [List.length_append, List.length_singleton]; omega
                       rw [← hll]
                       refine ih (k + 1) _ (M ++ [u]) [(6, vi gg)] (by omega) (by omega) ⟨hst3, hm2, fun q q0 q1 => ?_, List.mem_append_left _ m4, fun q hq => ?_, fun e => ?_⟩ (by omega) (by omega) hb0 (fun e => by omega) (by omega)
                       · by_cases cq : q = u
                         · subst cq
                           rw [e2, zup_s]
                           exact (zin_1.mpr (List.mem_append_right _ List.mem_cons_self)).symm
                         · rw [e2, zup_n _ _ cq, m3 q q0 q1]
                           unfold zin
                           simp [cq]
                       · rcases List.mem_append.mp hq with z | z
                         · exact m5 q z
                         · rw [List.mem_singleton] at z
                           subst z
                           exact gCl_step s0 s1 u0 u1 (by rw [e1]; exact hgo.1) (by rw [e1]; exact m5 _ hgo.2.1) (by first | omega | (rw [e3] at *; omega))
                       · exfalso; omega)
          · refine zz_iconst hx dX4_marks_114 ?_
            have hgo := hg2.mp (by omega)
            exact zz_iret hx hf dX4_marks_115 ⟨_, rfl, f, rfl, Or.inl ⟨rfl, by omega, s, u, s0, s1, u0, u1, by rw [e1]; have := hgo.2.1; rw [m6 (by omega), List.mem_singleton] at this; exact this⟩⟩ (by decide) (by decide)
      have hr17 : ∀ q : Int, Gset G 17 f 17 q = f q := fun q => by rw [Gset_s]
      have hr11 : Gset G 17 f 11 = G 11 := Gset_n _ _ (by decide)
      refine zz_iload hx dX4_marks_51 rfl ?_
      refine zz_sipush hx dX4_marks_53 rfl ?_
      refine zz_icmp_ge hx 160 dX4_marks_56 rfl (by omega) (by omega) (fun c56 => ?_) (fun c56 => ?_)
      · refine zz_goto hx 39 dX4_marks_160 rfl ?_
        exact outer f M [(5, vi k)] hst2 hl hb (fun e => by have := hcl e; rw [show k = 360 by omega] at this; exact this)
      · refine zz_aload_n hx dX4_marks_59 rfl ?_
        refine zm_g11 hx lf_X4_35 dX4_marks_60 ?_
        refine zz_iload hx dX4_marks_63 rfl ?_
        refine zm_l11 hx dX4_marks_65 (by omega) (by omega) ?_
        refine zz_iconst hx dX4_marks_66 ?_
        obtain ⟨s, u, s0, s1, u0, u1, e1, e2, e3⟩ := hsu (by omega)
        have ho := h.2.2.2.2.1 s u s0 s1 u0 u1
        rw [e1] at ho
        rw [hr11]
        refine zz_icmp_eq hx 102 dX4_marks_67 rfl (by omega) (by omega) (fun c67 => ?_) (fun c67 => ?_)
        · refine zz_iconst hx dX4_marks_102 ?_
          refine JG (by omega) _ (by omega) ?_
          first
            | exact ⟨fun z => absurd z (by decide), fun z => absurd z.1 (by omega)⟩
            | exact ⟨fun z => absurd z (by decide), fun z => absurd z.2.1 (zin_0.mp (by omega))⟩
            | exact ⟨fun z => absurd z (by decide), fun z => absurd (zin_1.mp (by have := zin_01 (k % 60) M; omega)) z.2.2⟩
            | exact ⟨fun _ => ⟨by omega, zin_1.mp (by have := zin_01 (G 11 k) M; omega), zin_0.mp (by omega)⟩, fun _ => rfl⟩
        · refine zz_aload_n hx dX4_marks_70 rfl ?_
          refine zm_g17 hx lf_X4_50 dX4_marks_71 ?_
          refine zz_aload_n hx dX4_marks_74 rfl ?_
          refine zm_g11 hx lf_X4_35 dX4_marks_75 ?_
          refine zz_iload hx dX4_marks_78 rfl ?_
          refine zm_l11 hx dX4_marks_80 (by omega) (by omega) ?_
          rw [hr11]
          refine zm_l17 hx dX4_marks_81 (by omega) (by omega) ?_
          rw [hr17, m3 _ (by omega) (by omega)]
          refine zz_if_eq hx 102 dX4_marks_82 rfl (by have := zin_01 (G 11 k) M; omega) (fun c82 => ?_) (fun c82 => ?_)
          · refine zz_iconst hx dX4_marks_102 ?_
            refine JG (by omega) _ (by omega) ?_
            first
              | exact ⟨fun z => absurd z (by decide), fun z => absurd z.1 (by omega)⟩
              | exact ⟨fun z => absurd z (by decide), fun z => absurd z.2.1 (zin_0.mp (by omega))⟩
              | exact ⟨fun z => absurd z (by decide), fun z => absurd (zin_1.mp (by have := zin_01 (k % 60) M; omega)) z.2.2⟩
              | exact ⟨fun _ => ⟨by omega, zin_1.mp (by have := zin_01 (G 11 k) M; omega), zin_0.mp (by omega)⟩, fun _ => rfl⟩
          · refine zz_aload_n hx dX4_marks_85 rfl ?_
            refine zm_g17 hx lf_X4_50 dX4_marks_86 ?_
            refine zz_iload hx dX4_marks_89 rfl ?_
            refine zz_bipush hx dX4_marks_91 rfl ?_
            refine zz_irem hx dX4_marks_93 (by omega) (by omega) (by omega) (by omega) ?_
            refine zm_l17 hx dX4_marks_94 (by omega) (by omega) ?_
            rw [hr17, m3 _ (by omega) (by omega)]
            refine zz_if_ne hx 102 dX4_marks_95 rfl (by have := zin_01 (k % 60) M; omega) (fun c95 => ?_) (fun c95 => ?_)
            · refine zz_iconst hx dX4_marks_102 ?_
              refine JG (by omega) _ (by omega) ?_
              first
                | exact ⟨fun z => absurd z (by decide), fun z => absurd z.1 (by omega)⟩
                | exact ⟨fun z => absurd z (by decide), fun z => absurd z.2.1 (zin_0.mp (by omega))⟩
                | exact ⟨fun z => absurd z (by decide), fun z => absurd (zin_1.mp (by have := zin_01 (k % 60) M; omega)) z.2.2⟩
                | exact ⟨fun _ => ⟨by omega, zin_1.mp (by have := zin_01 (G 11 k) M; omega), zin_0.mp (by omega)⟩, fun _ => rfl⟩
            · refine zz_iconst hx dX4_marks_98 ?_
              refine zz_goto hx 103 dX4_marks_99 rfl ?_
              refine JG (by omega) _ (by omega) ?_
              first
                | exact ⟨fun z => absurd z (by decide), fun z => absurd z.1 (by omega)⟩
                | exact ⟨fun z => absurd z (by decide), fun z => absurd z.2.1 (zin_0.mp (by omega))⟩
                | exact ⟨fun z => absurd z (by decide), fun z => absurd (zin_1.mp (by have := zin_01 (k % 60) M; omega)) z.2.2⟩
                | exact ⟨fun _ => ⟨by omega, zin_1.mp (by have := zin_01 (G 11 k) M; omega), zin_0.mp (by omega)⟩, fun _ => rfl⟩
  have outer : ∀ (m : Nat) (b : Int) (f : Int → Int) (M : List Int) (v5 : List (Nat × Value)), M.Nodup ∧ (∀ q ∈ M, 0 ≤ q ∧ q < 60) ∧ (∀ q : Int, 0 ≤ q → q < 60 → f q = zin q M) ∧ rc ∈ M ∧ (∀ q ∈ M, gCl G rc way q) ∧ (way = 0 → M = [rc]) → (M.length : Int) ≤ 60 → 0 ≤ b → b ≤ (M.length : Int) → (b = (M.length : Int) → (∀ s u : Int, 0 ≤ s → s < 6 → 0 ≤ u → u < 60 → 60 * s + u < 360 → G 11 (60 * s + u) ≠ -1 → G 11 (60 * s + u) ∈ M → u ∈ M ∨ ¬ (way = 2 ∨ G 5 s ≠ 2)) ∧ (way = 0 → ∀ s u : Int, 0 ≤ s → s < 6 → 0 ≤ u → u < 60 → 60 * s + u < 360 → G 11 (60 * s + u) ≠ rc)) → (60 - b).toNat < m → Z l g ({ frames := 0, cells := 0, slots := 0, locals := 0 } : Room) 7 x 0 0 (mW g a F (Gset G 17 f) rest) 39 ([(0, .ref (a 0)), (1, vi rc), (2, vi way), (3, vi (M.length : Int)), (4, vi b)] ++ v5) [] := by
    intro m
    induction m with
    | zero => intro b f M v5 hst2 hl h0 hb hcl hm; omega
    | succ m ih =>
      intro b f M v5 hst2 hl h0 hb hcl hm
      refine zz_sub (lv' := [(0, .ref (a 0)), (1, vi rc), (2, vi way), (3, vi (M.length : Int)), (4, vi b)]) (fun q hq => List.mem_append_left _ hq) ?_
      refine zz_iload hx dX4_marks_39 rfl ?_
      refine zz_iload_n hx dX4_marks_41 rfl ?_
      refine zz_icmp_ge hx 163 dX4_marks_42 rfl (by omega) (by omega) (fun c42 => ?_) (fun c42 => ?_)
      · exact done f M b [] hst2 (hcl (by omega))
      · refine zz_iload_n hx dX4_marks_45 rfl ?_
        refine zz_istore (lv' := [(0, _), (1, _), (2, _), (3, _), (4, _)]) hx dX4_marks_46 (by decide) rfl ?_
        refine zz_iconst hx dX4_marks_48 ?_
        refine zz_istore (lv' := [(0, _), (1, _), (2, _), (3, _), (4, _), (5, _)]) hx dX4_marks_49 (by decide) rfl ?_
        refine inner (M.length : Int) (fun f2 M2 v5 a1 a2 a3 a4 => ih (M.length : Int) f2 M2 v5 a1 a2 (by omega) a3 a4 (by omega)) 361 0 f M [] (by omega) (by omega) hst2 hl (by omega) (by omega) (fun _ => ⟨fun s u _ _ _ _ q => by omega, fun _ s u _ _ _ _ q => by omega⟩) (by omega)
  have init : ∀ (m : Nat) (k : Int) (f : Int → Int), 0 ≤ k → k ≤ 60 → (∀ q : Int, 0 ≤ q → q < k → f q = zin q [rc]) → (60 - k).toNat < m → Z l g ({ frames := 0, cells := 0, slots := 0, locals := 0 } : Room) 7 x 0 0 (mW g a F (Gset G 17 f) rest) 5 [(0, .ref (a 0)), (1, vi rc), (2, vi way), (3, vi 1), (4, vi k)] [] := by
    intro m
    induction m with
    | zero => intro k f h0 h1 hf0 hm; omega
    | succ m ih =>
      intro k f h0 h1 hf0 hm
      refine zz_iload hx dX4_marks_5 rfl ?_
      refine zz_bipush hx dX4_marks_7 rfl ?_
      refine zz_icmp_ge hx 36 dX4_marks_9 rfl (by omega) (by omega) (fun c9 => ?_) (fun c9 => ?_)
      · refine zz_iconst hx dX4_marks_36 ?_
        refine zz_istore (lv' := [(0, _), (1, _), (2, _), (3, _), (4, _)]) hx dX4_marks_37 (by decide) rfl ?_
        refine outer 61 0 f [rc] [] ⟨by simp, fun q hq => by rw [List.mem_singleton] at hq; omega, fun q q0 q1 => hf0 q q0 (by omega), List.mem_cons_self, fun q hq => by rw [List.mem_singleton] at hq; rw [hq]; exact gCl_self, fun _ => rfl⟩ (by simp) (by omega) (by simp) (fun e => by simp at e) (by omega)
      · refine zz_aload_n hx dX4_marks_12 rfl ?_
        refine zm_g17 hx lf_X4_50 dX4_marks_13 ?_
        refine zz_iload hx dX4_marks_16 rfl ?_
        refine zz_iload hx dX4_marks_18 rfl ?_
        refine zz_iload_n hx dX4_marks_20 rfl ?_
        refine zz_icmp_ne hx 28 dX4_marks_21 rfl (by omega) (by omega) (fun c21 => ?_) (fun c21 => ?_)
        · refine zz_iconst hx dX4_marks_28 ?_
          refine zm_s17 hx dX4_marks_29 (by omega) (by omega) (by omega) ?_
          refine zz_iinc (lv' := [(0, _), (1, _), (2, _), (3, _), (4, _)]) hx dX4_marks_30 (by decide) rfl rfl ?_
          refine zz_goto hx 5 dX4_marks_33 rfl ?_
          rw [Gup_eq, Gset_Gset, Gset_s]
          refine ih (k + 1) _ (by omega) (by omega) (fun q q0 q1 => ?_) (by omega)
          by_cases cq : q = k
          · subst cq
            rw [zup_s]
            first
              | exact (zin_1.mpr (by rw [List.mem_singleton]; omega)).symm
              | exact (zin_0.mpr (by rw [List.mem_singleton]; omega)).symm
          · rw [zup_n _ _ cq]
            exact hf0 q q0 (by omega)
        · refine zz_iconst hx dX4_marks_24 ?_
          refine zz_goto hx 29 dX4_marks_25 rfl ?_
          refine zm_s17 hx dX4_marks_29 (by omega) (by omega) (by omega) ?_
          refine zz_iinc (lv' := [(0, _), (1, _), (2, _), (3, _), (4, _)]) hx dX4_marks_30 (by decide) rfl rfl ?_
          refine zz_goto hx 5 dX4_marks_33 rfl ?_
          rw [Gup_eq, Gset_Gset, Gset_s]
          refine ih (k + 1) _ (by omega) (by omega) (fun q q0 q1 => ?_) (by omega)
          by_cases cq : q = k
          · subst cq
            rw [zup_s]
            first
              | exact (zin_1.mpr (by rw [List.mem_singleton]; omega)).symm
              | exact (zin_0.mpr (by rw [List.mem_singleton]; omega)).symm
          · rw [zup_n _ _ cq]
            exact hf0 q q0 (by omega)
  refine zz_iconst hx dX4_marks_0 ?_
  refine zz_istore_n (lv' := [(0, _), (1, _), (2, _), (3, _)]) hx dX4_marks_1 (by decide) rfl ?_
  refine zz_iconst hx dX4_marks_2 ?_
  refine zz_istore (lv' := [(0, _), (1, _), (2, _), (3, _), (4, _)]) hx dX4_marks_3 (by decide) rfl ?_
  rw [← Gset_id G 17]
  exact init 61 0 _ (by omega) (by omega) (fun q _ _ => by omega) (by omega)
end
