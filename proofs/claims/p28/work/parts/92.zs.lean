/-! what the Statement gives of the start, as the frame wants it -/
def zfl : List Cond := [.arrayOf (.static "java/util/ArrayList" "DEFAULTCAPACITY_EMPTY_ELEMENTDATA" "[Ljava/lang/Object;") (.object "java/lang/Object"), .eq (.length (.static "java/util/ArrayList" "DEFAULTCAPACITY_EMPTY_ELEMENTDATA" "[Ljava/lang/Object;")) (.int 0), .isRef (.static Bundle.tN "UNASSIGNED_STACK" Bundle.steD), .isRef (.static Bundle.tN "SUPPRESSED_SENTINEL" Bundle.listD), .not (.castable xS xI)]
set_option maxHeartbeats 4000000 in
set_option maxRecDepth 100000 in
theorem zfl_in : zfl.all (fun w => decide (w ∈ flatC (Jvm.Cond.and given_1 narrow_1))) = true := by decide +kernel
set_option maxHeartbeats 4000000 in
set_option maxRecDepth 100000 in
theorem zstr_in : zstr.all (fun q => decide (Cond.stringRef RX3 q.1 q.2 ∈ lw_tbl) && decide (Cond.exactly (.string RX3 q.1) "java/lang/String" ∈ flatC (Jvm.Cond.and given_1 narrow_1))) = true := by decide +kernel
set_option maxHeartbeats 4000000 in
set_option maxRecDepth 100000 in
theorem zN4_in : zN4.all (fun w => decide (w ∈ lw_tbl) && w.onTables) = true := by decide +kernel
def zqw : List Cond := [.laysStatic "java/util/ArrayList" "DEFAULTCAPACITY_EMPTY_ELEMENTDATA" "[Ljava/lang/Object;", .initialized "java/util/ArrayList", .laysStatic Bundle.tN "UNASSIGNED_STACK" Bundle.steD, .laysStatic Bundle.tN "SUPPRESSED_SENTINEL" Bundle.listD, .initialized Bundle.tN, .arrayOver (.object "java/lang/Object"), .arrayClass .int]
set_option maxHeartbeats 4000000 in
set_option maxRecDepth 100000 in
theorem zqw_in : zqw.all (fun w => decide (w ∈ lw_tbl)) = true := by decide +kernel

set_option maxHeartbeats 4000000 in
set_option maxRecDepth 100000 in
theorem zstart {s : State} {args : Array Value} (hts : ∀ w ∈ lw_tbl, w.before args s = true) (hgv : (Jvm.Cond.and given_1 narrow_1).before args s = true) : ∃ g : zG, zE g s ∧ zQ g (fun q => s.heap.size ≤ q) s s.heap ∧ zNcs s := by
  have hfl : ∀ w ∈ zfl, w.before args s = true := fun w hw => flat_of_before _ hgv w (of_decide_eq_true (List.all_eq_true.mp zfl_in w hw))
  have hqw : ∀ w ∈ zqw, w.before args s = true := fun w hw => hts w (of_decide_eq_true (List.all_eq_true.mp zqw_in w hw))
  have hz : ∀ w ∈ zT, w.before args s = true := fun w hw => hts w (zT_tbl w hw)
  have hA : ∀ a : Nat, a < s.heap.size → ¬ (fun q : Nat => s.heap.size ≤ q) a := fun a h => Nat.not_le.mpr h
  obtain ⟨c0, i0, k0⟩ := u_known (C := RJx4a65c) (T := TJx4a65c) (N := 3) (n := 3) hz fw_Jx4a65c (hz (.instantiable RJx4a65c 3) (zT_dec (by decide +kernel)))
  obtain ⟨c1, i1, k1⟩ := u_known (C := RX0) (T := TX0) (N := 3) (n := 3) hz fw_X0 (hz (.instantiable RX0 3) (zT_dec (by decide +kernel)))
  obtain ⟨c2, i2, k2⟩ := u_known (C := RX1) (T := TX1) (N := 1) (n := 1) hz fw_X1 (hz (.instantiable RX1 1) (zT_dec (by decide +kernel)))
  obtain ⟨c3, i3, k3⟩ := u_known (C := RX2) (T := TX2) (N := 9) (n := 9) hz fw_X2 (hz (.instantiable RX2 9) (zT_dec (by decide +kernel)))
  obtain ⟨c4, i4, k4⟩ := u_known (C := RX3) (T := TX3) (N := 8) (n := 8) hz fw_X3 (hz (.instantiable RX3 8) (zT_dec (by decide +kernel)))
  obtain ⟨a0, ka0, b0, x0, y0, z0⟩ := Cond.arrayClass_spec (hqw (.arrayClass .int) (List.mem_of_getElem? (i := 6) rfl))
  have hao := hqw (.arrayOver (.object "java/lang/Object")) (List.mem_of_getElem? (i := 5) rfl)
  obtain ⟨b3, a3, ka3, u3, v3, x3, y3, z3⟩ := Cond.arrayOver_spec hao
  obtain ⟨ea, et, eT⟩ := va_Tof (tm := .static "java/util/ArrayList" "DEFAULTCAPACITY_EMPTY_ELEMENTDATA" "[Ljava/lang/Object;") (ty := .object "java/lang/Object") (N := 0) (f := fun _ => .null) (A := fun q => s.heap.size ≤ q) (by decide) (hfl _ (List.mem_of_getElem? (i := 0) rfl)) (va_eqt (hfl _ (List.mem_of_getElem? (i := 1) rfl))) (fun j hj => absurd hj (Nat.not_lt_zero _)) hA
  refine ⟨((fun k => [c0, c1, c2, c3, c4].getD k c0, fun k => [i0, i1, i2, i3, i4].getD k i0), a0, a0, a0, a3, ea), ⟨⟨?_, ?_⟩, ?_, ?_, va_AO.of hao⟩, ⟨⟨?_, ?_⟩, ?_, eT⟩, ?_⟩
  · intro k q hq
    match k, hq with
    | 0, hq => cases hq; exact k0
    | 1, hq => cases hq; exact k1
    | 2, hq => cases hq; exact k2
    | 3, hq => cases hq; exact k3
    | 4, hq => cases hq; exact k4
    | k + 5, hq => simp [zcl] at hq
  · intro k q hq
    match k, hq with
    | 0, hq => cases hq; exact ⟨fun n z => ⟨fun k h => (by cases h), ka0, y0, b0, z0⟩, x0⟩
    | 1, hq => cases hq; exact ⟨fun n z => ⟨fun k h => (by cases h), ka0, y0, b0, z0⟩, x0⟩
    | 2, hq => cases hq; exact ⟨fun n z => ⟨fun k h => (by cases h), ka0, y0, b0, z0⟩, x0⟩
    | 3, hq => cases hq; exact ⟨fun n z => ⟨fun k h => (by cases h), ka3, x3, b3, y3⟩, ka3, b3, x3, y3, u3, z3⟩
    | k + 4, hq => simp [zty] at hq
  · intro q hq
    have h1 := List.all_eq_true.mp zstr_in q hq
    simp only [Bool.and_eq_true, decide_eq_true_eq] at h1
    obtain ⟨a, c, cA, kA, q1, -⟩ := Cond.exactly_spec (flat_of_before _ hgv _ h1.2)
    exact ⟨a, vk_R.of (hts _ h1.1) q1⟩
  · intro w hw
    have h1 := List.all_eq_true.mp zN4_in w hw
    simp only [Bool.and_eq_true, decide_eq_true_eq] at h1
    exact va_Nw.of h1.2 (hts w h1.1)
  · exact vx_Zqof (hqw _ (List.mem_of_getElem? (i := 2) rfl)) (hqw _ (List.mem_of_getElem? (i := 4) rfl)) (hfl _ (List.mem_of_getElem? (i := 2) rfl)) hA
  · exact vx_Zqof (hqw _ (List.mem_of_getElem? (i := 3) rfl)) (hqw _ (List.mem_of_getElem? (i := 4) rfl)) (hfl _ (List.mem_of_getElem? (i := 3) rfl)) hA
  · exact va_Zof (hqw _ (List.mem_of_getElem? (i := 0) rfl)) (hqw _ (List.mem_of_getElem? (i := 1) rfl)) et hA
  · exact va_Nc.of (hfl _ (List.mem_of_getElem? (i := 4) rfl))

set_option maxHeartbeats 4000000 in
set_option maxRecDepth 100000 in
/-- the law from its entry -/
theorem law_begin {l : Launch} {g : zG} {x : zX} {b0 L : Nat} {xs : Nat → Int32} (hst : l.stackTraces = false) (hx : zOK l g 1 x RL code) (hN : zNc x) (hs : zSc b0 L xs x) (hL : L ≤ 260) (hE : ∀ (k n : Nat) (w : va_W) (lv : List (Nat × Value)), k ≤ 609306 → n ≤ 7273781 → Z l g room_1 1 x k n w 33 lv [vi 1]) : Z l g room_1 1 x 0 0 [] 0 [(0, .ref b0)] [] := by
  have hL2 : L ≤ 3072 := by omega
  refine zz_aload_n hx dL_law_0 rfl ?_
  refine zz_iconst hx dL_law_1 ?_
  refine zz_callP hx hN hs ms_L_base lk_L_162 (l_base hst hL2 0 (by decide)) ⟨rfl, rfl⟩ (by decide) (by decide) rfl rfl (Nat.le_of_ble_eq_true rfl) dL_law_2 (fun r2 w2 hp2 => ?_)
  obtain rfl := hp2
  refine zz_less (List.nil_sublist _) ?_
  refine zz_if_eq hx 32 dL_law_5 rfl (by decide) (fun z => absurd z (by decide)) (fun _ => ?_)
  refine zz_aload_n hx dL_law_8 rfl ?_
  refine zz_sipush hx dL_law_9 rfl ?_
  refine zz_callP hx hN hs ms_L_base lk_L_162 (l_base hst hL2 150 (by decide)) ⟨rfl, rfl⟩ (by decide) (by decide) rfl rfl (Nat.le_of_ble_eq_true rfl) dL_law_12 (fun r12 w12 hp12 => ?_)
  obtain rfl := hp12
  refine zz_less (List.nil_sublist _) ?_
  refine zz_if_eq hx 32 dL_law_15 rfl (by decide) (fun z => absurd z (by decide)) (fun _ => ?_)
  refine zz_aload_n hx dL_law_18 rfl ?_
  refine zz_sipush hx dL_law_19 rfl ?_
  refine zz_callP hx hN hs ms_L_base lk_L_162 (l_base hst hL2 300 (by decide)) ⟨rfl, rfl⟩ (by decide) (by decide) rfl rfl (Nat.le_of_ble_eq_true rfl) dL_law_22 (fun r22 w22 hp22 => ?_)
  obtain rfl := hp22
  refine zz_less (List.nil_sublist _) ?_
  refine zz_if_eq hx 32 dL_law_25 rfl (by decide) (fun z => absurd z (by decide)) (fun _ => ?_)
  refine zz_iconst hx dL_law_28 ?_
  refine zz_goto hx 33 dL_law_29 rfl ?_
  exact hE _ _ _ _ (by decide) (by decide)

