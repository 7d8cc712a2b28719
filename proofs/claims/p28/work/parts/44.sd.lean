theorem ins_p {ow : Int → Int} {o j : Int} {L : List Int} (h0 : 0 ≤ j) (h1 : j ≤ ((mOf ow o L).length : Int)) : ∃ p : Int, j = ((mOf ow o (L.take p.toNat)).length : Int) := by
  by_cases c : j < ((mOf ow o L).length : Int)
  · obtain ⟨k, -, -, -, hk, -⟩ := cnt_of h0 c
    exact ⟨k, hk.symm⟩
  · refine ⟨(L.length : Int), ?_⟩
    rw [take_all (by omega)]
    omega
/-- who owns in which set type is told by the row of types -/
def aR (Q : Nat → Int → Int) (P : Int → Nat → Int) (N : Nat) (isO : Int → Int → Prop) (L : Int → List Int) : Prop := ∀ s : Int, 0 ≤ s → s < (N : Int) → (∀ q : Int, isO s q ↔ 0 ≤ q ∧ q < 60 ∧ Q 0 q = P s 0) ∧ ∀ u : Int, u ∈ L s → Q 0 u = P s 1
/-- the current record of a set type stands in one of its rings -/
def aC (P : Int → Nat → Int) (T : Int → Nat → Int → Int) (N : Nat) : Prop := ∀ s : Int, 0 ≤ s → s < (N : Int) → P s 8 ≠ -1 → rAt 60 (T s 5) (P s 8) ≠ -1

set_option maxHeartbeats 4000000 in
set_option maxRecDepth 100000 in
theorem k_X3_connect {l : Launch} {g : zG} {b : Nat → Nat} {c : Int → Nat → Nat} {I : Nat → Int} {Q : Nat → Int → Int} {P : Int → Nat → Int} {T : Int → Nat → Int → Int} {N : Nat} {rest : va_W} (hst : l.stackTraces = false) (hI : aI I Q N) {ow : Int → Int → Int} {isO : Int → Int → Prop} {L : Int → List Int} (hS : aS P T N ow isO L) (hRl : aR Q P N isO L) (s : Int) (hs : -2147483648 ≤ s ∧ s < 2147483648) : zM l g yX3_connect cX3_connect 4 (Option.some FieldType.int) ({ frames := 7, cells := 3, slots := 18, locals := 103 } : Room) [.ref (b 0), vi s] (wD g b c I Q P T N rest) (zI fun v w => (0 ≤ s ∧ s < (N : Int)) ∧ (I 2 ≠ -1 ∧ Q 0 (I 2) = P s 1 ∧ ¬ (T s 5 (I 2) ≠ -1 ∧ T s 5 (I 2) ≠ I 2) ∧ (rAt 60 (T s 5) (P s 8)) ≠ -1) ∧ ∃ (T1 : Nat → Int → Int) (j p : Int), w = wD g b c I Q (upI P s (Fup (P s) 8 (I 2))) (upI T s T1) N rest ∧ j = ((mOf (ow s) (rAt 60 (T s 5) (P s 8)) ((L s).take p.toNat)).length : Int) ∧ fPl (P s 8) (P s 2) (Q 1) (ow s) (I 2) (rAt 60 (T s 5) (P s 8)) (L s) j ∧ insT (T s) T1 (ow s) (L s) (I 2) (rAt 60 (T s 5) (P s 8)) j ∧ v = ((mOf (zup (ow s) (I 2) (rAt 60 (T s 5) (P s 8))) (rAt 60 (T s 5) (P s 8)) (zinsl (L s) p (I 2))).length : Int)) (fun E w1 => w1 = (wD g b c I Q P T N rest) ∧ ((E = xI ∧ ¬ (0 ≤ s ∧ s < (N : Int))) ∨ (E = xS ∧ (0 ≤ s ∧ s < (N : Int)) ∧ ¬ (I 2 ≠ -1 ∧ Q 0 (I 2) = P s 1 ∧ ¬ (T s 5 (I 2) ≠ -1 ∧ T s 5 (I 2) ≠ I 2) ∧ (rAt 60 (T s 5) (P s 8)) ≠ -1)))) 3 18 := by
  have hi2 := hI.2.2.1
  refine zM_of (lv0 := [(0, _), (1, _)]) hst rfl (by decide +kernel) (Nat.le_of_ble_eq_true rfl) rfl (fun x hx hf hn => ?_)
  refine zz_aload_n hx dX3_connect_0 rfl ?_
  refine zz_iload_n hx dX3_connect_1 rfl ?_
  refine zz_callVa hx me_X3_requireSet lk_X3_132 (k_X3_requireSet hst hI.1 hI.2.1 _ (by omega)) 0 rfl rfl ⟨rfl, rfl⟩ (by decide) (by decide) rfl rfl (Nat.le_of_ble_eq_true rfl) dX3_connect_2 (fun E9 w9 hX => by obtain ⟨rfl, rfl, hX⟩ := hX; exact zz_out hx hf hn ⟨rfl, Or.inl ⟨rfl, hX⟩⟩ (by decide) (by decide)) (fun r2 w2 hp2 => ?_)
  obtain ⟨rfl, rfl, hg2⟩ := hp2
  refine zz_astore_n (lv' := [(0, _), (1, _), (2, _)]) hx dX3_connect_5 (by decide) rfl ?_
  refine zz_aload_n hx dX3_connect_6 rfl ?_
  refine zz_callVv hx me_X3_requireRunUnit lk_X3_109 (k_X3_requireRunUnit hst hi2) 0 rfl rfl ⟨rfl, rfl⟩ (by decide) (by decide) rfl rfl (Nat.le_of_ble_eq_true rfl) dX3_connect_7 (fun E9 w9 hX => by obtain ⟨rfl, rfl, hX⟩ := hX; exact zz_out hx hf hn ⟨rfl, Or.inr ⟨rfl, hg2, fun z9 => hX z9.1⟩⟩ (by decide) (by decide)) (fun w7 hp7 => ?_)
  obtain ⟨rfl, hu9⟩ := hp7
  refine zz_eq (wD_at (s := s) (by omega) (by omega)) rfl ?_
  have hs9 := hS s hg2.1 hg2.2
  have hq0 := hI.2.2.2.1 (I 2) (by omega) (by omega)
  have hrl := hRl s hg2.1 hg2.2
  refine zz_aload_n hx dX3_connect_10 rfl ?_
  refine zd_g1 hx lf_X3_21 dX3_connect_11 ?_
  refine zz_aload_n hx dX3_connect_14 rfl ?_
  refine zd_g7 hx lf_X3_45 dX3_connect_15 ?_
  refine zd_at0 hx hst lk_X3_112 (by decide) (by decide) (by omega) (Nat.le_of_ble_eq_true rfl) dX3_connect_18 ?_
  rw [rAt_in (by omega) (by omega)]
  refine zz_aload_n hx dX3_connect_21 rfl ?_
  refine zs_n1 hx dX3_connect_22 ?_
  refine zz_icmp_eq hx 38 dX3_connect_25 rfl (by omega) (by omega) (fun c25 => ?_) (fun c25 => ?_)
  · refine zz_aload_n hx dX3_connect_38 rfl ?_
    refine zz_aload_n hx dX3_connect_39 rfl ?_
    refine zd_g7 hx lf_X3_45 dX3_connect_40 ?_
    refine zz_callVi hx me_X2_isMember lk_X3_141 (k_X2_isMember hst hs9.1 _ (by omega)) _ (sW_at 0) rfl ⟨rfl, rfl⟩ (by decide) (by decide) rfl rfl (Nat.le_of_ble_eq_true rfl) dX3_connect_43 (fun _ _ h => h.elim) (fun r43 w43 hp43 => ?_)
    obtain ⟨rfl, rfl⟩ := hp43
    rw [rAt_in (by omega) (by omega)]
    refine zz_ifb_eq hx 59 dX3_connect_46 rfl (fun c46 => ?_) (fun c46 => ?_)
    · have hol := (ring_ow hs9.2.1 (r := I 2) (by omega) (by omega)).2 c46
      have hnL : I 2 ∉ L s := fun z9 => ((hs9.2.1.1.2.2.1 _).mp z9).2.2 hol
      have hro : ¬ isO s (I 2) := fun z9 => by
        have := ((hrl.1 _).mp z9).2.2
        have := hs9.2.2.2.2.1
        omega
      refine zz_aload_n hx dX3_connect_59 rfl ?_
      refine zz_callVi hx me_X2_currentOwner lk_X3_146 (k_X2_currentOwner hst hs9.2.2.2.2.2.2.2.2) _ (sW_at 0) rfl ⟨rfl, rfl⟩ (by decide) (by decide) rfl rfl (Nat.le_of_ble_eq_true rfl) dX3_connect_60 (fun _ _ h => h.elim) (fun r60 w60 hp60 => ?_)
      obtain ⟨rfl, rfl⟩ := hp60
      have hq9 := rAt_rng hs9.1 5 (P s 8)
      refine zz_istore_n (lv' := [(0, _), (1, _), (2, _), (3, _)]) hx dX3_connect_63 (by decide) rfl ?_
      refine zz_iload_n hx dX3_connect_64 rfl ?_
      refine zz_iconst hx dX3_connect_65 ?_
      refine zz_icmp_ne hx 79 dX3_connect_66 rfl (by omega) (by omega) (fun c66 => ?_) (fun c66 => ?_)
      · have hio := (cur_isO hs9.2.1 (P s 8)).resolve_left c66
        refine zz_aload_n hx dX3_connect_79 rfl ?_
        refine zz_aload_n hx dX3_connect_80 rfl ?_
        refine zd_g7 hx lf_X3_45 dX3_connect_81 ?_
        refine zz_iload_n hx dX3_connect_84 rfl ?_
        refine zz_aload_n hx dX3_connect_85 rfl ?_
        refine zd_g2 hx lf_X3_25 dX3_connect_86 ?_
        refine zz_callVv hx me_X2_insert lk_X3_151 (k_X2_insert hst hs9.1 hs9.2.1 (fun u hu => by rcases hu with z9 | z9; exact hI.2.2.2.2.1 u ((hs9.2.1.1.2.2.1 u).mp z9).1 ((hs9.2.1.1.2.2.1 u).mp z9).2.1; exact hI.2.2.2.2.1 u (by omega) (by omega)) hio hnL (by omega) (by omega) hro hs9.2.2.2.2.2.1 hs9.2.2.2.2.2.2.2.2) _ (sW_at 0) rfl ⟨rfl, rfl⟩ (by decide) (by decide) rfl rfl (Nat.le_of_ble_eq_true rfl) dX3_connect_89 (fun _ _ h => h.elim) (fun w89 hp89 => ?_)
        obtain ⟨T1, j, rfl, hj, hfp, hins⟩ := hp89
        obtain ⟨p, hp⟩ := ins_p hj.1 hj.2
        have hk1 := rOK_ins hs9.2.1 hp hnL (by omega) (by omega) hro hio hins.1 hins.2.1 hins.2.2.1
        refine zz_aload_n hx dX3_connect_92 rfl ?_
        refine zz_aload_n hx dX3_connect_93 rfl ?_
        refine zd_g7 hx lf_X3_45 dX3_connect_94 ?_
        refine zs_np8 hx dX3_connect_97 ?_
        refine zz_aload_n hx dX3_connect_100 rfl ?_
        refine zz_iload_n hx dX3_connect_101 rfl ?_
        refine zz_callVi hx me_X2_countByRing lk_X3_157 (k_X2_countByRing hst hins.2.2.2 hk1 _ hio) _ (sW_at 0) rfl ⟨rfl, rfl⟩ (by decide) (by decide) rfl rfl (Nat.le_of_ble_eq_true rfl) dX3_connect_102 (fun _ _ h => h.elim) (fun r102 w102 hp102 => ?_)
        obtain ⟨rfl, rfl⟩ := hp102
        exact zz_iret hx hf dX3_connect_105 ⟨_, rfl, hg2, ⟨hu9, c25, c46, c66⟩, T1, j, p, wD_put (by omega) (by omega) _ _, hp, hfp, hins, rfl⟩ (by decide) (by decide)
      · have hnot : (I 2 ≠ -1 ∧ Q 0 (I 2) = P s 1 ∧ ¬ (T s 5 (I 2) ≠ -1 ∧ T s 5 (I 2) ≠ I 2) ∧ (rAt 60 (T s 5) (P s 8)) ≠ -1) → False := fun z9 => z9.2.2.2 c66
        exact zz_throw hx hf hn zth_S (List.mem_of_getElem? (i := 10) rfl) dX3_connect_69 dX3_connect_72 dX3_connect_73 dX3_connect_75 dX3_connect_78 (by decide) (by decide) ⟨(wD_at (by omega) (by omega)).symm, Or.inr ⟨rfl, hg2, fun z9 => hnot z9⟩⟩
    · have hnot : (I 2 ≠ -1 ∧ Q 0 (I 2) = P s 1 ∧ ¬ (T s 5 (I 2) ≠ -1 ∧ T s 5 (I 2) ≠ I 2) ∧ (rAt 60 (T s 5) (P s 8)) ≠ -1) → False := fun z9 => z9.2.2.1 c46
      exact zz_throw hx hf hn zth_S (List.mem_of_getElem? (i := 9) rfl) dX3_connect_49 dX3_connect_52 dX3_connect_53 dX3_connect_55 dX3_connect_58 (by decide) (by decide) ⟨(wD_at (by omega) (by omega)).symm, Or.inr ⟨rfl, hg2, fun z9 => hnot z9⟩⟩
  · have hnot : (I 2 ≠ -1 ∧ Q 0 (I 2) = P s 1 ∧ ¬ (T s 5 (I 2) ≠ -1 ∧ T s 5 (I 2) ≠ I 2) ∧ (rAt 60 (T s 5) (P s 8)) ≠ -1) → False := fun z9 => c25 z9.2.1
    exact zz_throw hx hf hn zth_S (List.mem_of_getElem? (i := 8) rfl) dX3_connect_28 dX3_connect_31 dX3_connect_32 dX3_connect_34 dX3_connect_37 (by decide) (by decide) ⟨(wD_at (by omega) (by omega)).symm, Or.inr ⟨rfl, hg2, fun z9 => hnot z9⟩⟩

set_option maxHeartbeats 4000000 in
set_option maxRecDepth 100000 in
theorem k_X3_disconnect {l : Launch} {g : zG} {b : Nat → Nat} {c : Int → Nat → Nat} {I : Nat → Int} {Q : Nat → Int → Int} {P : Int → Nat → Int} {T : Int → Nat → Int → Int} {N : Nat} {rest : va_W} (hst : l.stackTraces = false) (hI : aI I Q N) {ow : Int → Int → Int} {isO : Int → Int → Prop} {L : Int → List Int} (hS : aS P T N ow isO L) (s : Int) (hs : -2147483648 ≤ s ∧ s < 2147483648) : zM l g yX3_disconnect cX3_disconnect 4 (Option.some FieldType.int) ({ frames := 8, cells := 4, slots := 24, locals := 123 } : Room) [.ref (b 0), vi s] (wD g b c I Q P T N rest) (zI fun v w => (0 ≤ s ∧ s < (N : Int)) ∧ ((I 2 ≠ -1 ∧ (rAt 60 (T s 5) (I 2) ≠ -1 ∧ rAt 60 (T s 5) (I 2) ≠ I 2)) ∧ P s 4 = 2) ∧ ∃ (T1 : Nat → Int → Int), w = wD g b c I Q (upI P s (if P s 8 = I 2 then Fup (P s) 8 (-1) else P s)) (upI T s T1) N rest ∧ outT (T s) T1 (I 2) ∧ v = ((mOf (zup (ow s) (I 2) (-1)) (ow s (I 2)) (zdel (L s) (I 2))).length : Int)) (fun E w1 => w1 = (wD g b c I Q P T N rest) ∧ ((E = xI ∧ ¬ (0 ≤ s ∧ s < (N : Int))) ∨ (E = xS ∧ (0 ≤ s ∧ s < (N : Int)) ∧ ¬ ((I 2 ≠ -1 ∧ (rAt 60 (T s 5) (I 2) ≠ -1 ∧ rAt 60 (T s 5) (I 2) ≠ I 2)) ∧ P s 4 = 2)))) 4 24 := by
  have hi2 := hI.2.2.1
  refine zM_of (lv0 := [(0, _), (1, _)]) hst rfl (by decide +kernel) (Nat.le_of_ble_eq_true rfl) rfl (fun x hx hf hn => ?_)
  refine zz_aload_n hx dX3_disconnect_0 rfl ?_
  refine zz_iload_n hx dX3_disconnect_1 rfl ?_
  refine zz_callVa hx me_X3_requireSet lk_X3_132 (k_X3_requireSet hst hI.1 hI.2.1 _ (by omega)) 0 rfl rfl ⟨rfl, rfl⟩ (by decide) (by decide) rfl rfl (Nat.le_of_ble_eq_true rfl) dX3_disconnect_2 (fun E9 w9 hX => by obtain ⟨rfl, rfl, hX⟩ := hX; exact zz_out hx hf hn ⟨rfl, Or.inl ⟨rfl, hX⟩⟩ (by decide) (by decide)) (fun r2 w2 hp2 => ?_)
  obtain ⟨rfl, rfl, hg2⟩ := hp2
  refine zz_eq (wD_at (s := s) (by omega) (by omega)) rfl ?_
  have hs9 := hS s hg2.1 hg2.2
  refine zz_astore_n (lv' := [(0, _), (1, _), (2, _)]) hx dX3_disconnect_5 (by decide) rfl ?_
  refine zz_aload_n hx dX3_disconnect_6 rfl ?_
  refine zz_aload_n hx dX3_disconnect_7 rfl ?_
  refine zz_callVv hx me_X3_requireMembership lk_X3_160 (k_X3_requireMembership hst hs9.1 hi2) 0 rfl rfl ⟨rfl, rfl⟩ (by decide) (by decide) rfl rfl (Nat.le_of_ble_eq_true rfl) dX3_disconnect_8 (fun E9 w9 hX => by obtain ⟨rfl, rfl, hX⟩ := hX; exact zz_out hx hf hn ⟨(wD_at (by omega) (by omega)).symm, Or.inr ⟨rfl, hg2, fun z9 => hX ⟨z9.1.1, z9.1.2⟩⟩⟩ (by decide) (by decide)) (fun w8 hp8 => ?_)
  obtain ⟨rfl, hm9⟩ := hp8
  have hqo : rAt 60 (T s 5) (I 2) = ow s (I 2) := by
    have hz := (ring_ow hs9.2.1 (r := I 2) (by omega) (by omega)).1
    rw [rAt_in (by omega) (by omega)] at hm9 ⊢
    exact hz hm9.2
  have hmL : I 2 ∈ L s := (hs9.2.1.1.2.2.1 _).mpr ⟨by omega, by omega, by rw [← hqo]; exact hm9.2.1⟩
  have hio := hs9.2.1.1.2.2.2 _ hmL
  refine zz_aload_n hx dX3_disconnect_11 rfl ?_
  refine zs_n4 hx dX3_disconnect_12 ?_
  refine zz_iconst hx dX3_disconnect_15 ?_
  refine zz_icmp_eq hx 29 dX3_disconnect_16 rfl (by omega) (by omega) (fun c16 => ?_) (fun c16 => ?_)
  · refine zz_aload_n hx dX3_disconnect_29 rfl ?_
    refine zs_n5 hx dX3_disconnect_30 ?_
    refine zz_aload_n hx dX3_disconnect_33 rfl ?_
    refine zd_g7 hx lf_X3_45 dX3_disconnect_34 ?_
    refine zs_at5 hx hst lk_X3_112 (by decide) (by decide) (by omega) (Nat.le_of_ble_eq_true rfl) dX3_disconnect_37 ?_
    rw [hqo]
    refine zz_istore_n (lv' := [(0, _), (1, _), (2, _), (3, _)]) hx dX3_disconnect_40 (by decide) rfl ?_
    refine zz_aload_n hx dX3_disconnect_41 rfl ?_
    refine zz_aload_n hx dX3_disconnect_42 rfl ?_
    refine zd_g7 hx lf_X3_45 dX3_disconnect_43 ?_
    refine zz_callVv hx me_X2_release lk_X3_172 (k_X2_release hst hs9.1 hs9.2.1 (I 2) hmL hs9.2.2.2.2.2.2.2.2) _ (sW_at 0) rfl ⟨rfl, rfl⟩ (by decide) (by decide) rfl rfl (Nat.le_of_ble_eq_true rfl) dX3_disconnect_46 (fun _ _ h => h.elim) (fun w46 hp46 => ?_)
    obtain ⟨T1, rfl, hout⟩ := hp46
    have hk1 := rOK_out hs9.2.1 hmL hout.1 hout.2.1 hout.2.2.1
    refine zz_aload_n hx dX3_disconnect_49 rfl ?_
    refine zz_iload_n hx dX3_disconnect_50 rfl ?_
    refine zz_callVi hx me_X2_countByRing lk_X3_157 (k_X2_countByRing hst hout.2.2.2 hk1 _ hio) _ (sW_at 0) rfl ⟨rfl, rfl⟩ (by decide) (by decide) rfl rfl (Nat.le_of_ble_eq_true rfl) dX3_disconnect_51 (fun _ _ h => h.elim) (fun r51 w51 hp51 => ?_)
    obtain ⟨rfl, rfl⟩ := hp51
    exact zz_iret hx hf dX3_disconnect_54 ⟨_, rfl, hg2, ⟨⟨hm9.1, hm9.2⟩, c16⟩, T1, wD_put (by omega) (by omega) _ _, hout, rfl⟩ (by decide) (by decide)
  · have hnot : ((I 2 ≠ -1 ∧ (rAt 60 (T s 5) (I 2) ≠ -1 ∧ rAt 60 (T s 5) (I 2) ≠ I 2)) ∧ P s 4 = 2) → False := fun z9 => c16 z9.2
    exact zz_throw hx hf hn zth_S (List.mem_of_getElem? (i := 11) rfl) dX3_disconnect_19 dX3_disconnect_22 dX3_disconnect_23 dX3_disconnect_25 dX3_disconnect_28 (by decide) (by decide) ⟨(wD_at (by omega) (by omega)).symm, Or.inr ⟨rfl, hg2, fun z9 => hnot z9⟩⟩

set_option maxHeartbeats 4000000 in
set_option maxRecDepth 100000 in
theorem k_X3_reconnect {l : Launch} {g : zG} {b : Nat → Nat} {c : Int → Nat → Nat} {I : Nat → Int} {Q : Nat → Int → Int} {P : Int → Nat → Int} {T : Int → Nat → Int → Int} {N : Nat} {rest : va_W} (hst : l.stackTraces = false) (hI : aI I Q N) {ow : Int → Int → Int} {isO : Int → Int → Prop} {L : Int → List Int} (hS : aS P T N ow isO L) (s : Int) (hs : -2147483648 ≤ s ∧ s < 2147483648) (q : Int) (hq : -2147483648 ≤ q ∧ q < 2147483648) : zM l g yX3_reconnect cX3_reconnect 4 (Option.some FieldType.int) ({ frames := 8, cells := 4, slots := 24, locals := 123 } : Room) [.ref (b 0), vi s, vi q] (wD g b c I Q P T N rest) (zI fun v w => ((0 ≤ s ∧ s < (N : Int)) ∧ isO s q) ∧ ((I 2 ≠ -1 ∧ (rAt 60 (T s 5) (I 2) ≠ -1 ∧ rAt 60 (T s 5) (I 2) ≠ I 2)) ∧ P s 4 ≠ 0) ∧ ∃ (T1 T2 : Nat → Int → Int) (j p : Int), w = wD g b c I Q (upI P s (Fup (P s) 8 (I 2))) (upI T s T2) N rest ∧ outT (T s) T1 (I 2) ∧ j = ((mOf (zup (ow s) (I 2) (-1)) q ((zdel (L s) (I 2)).take p.toNat)).length : Int) ∧ fPl (P s 8) (P s 2) (Q 1) (zup (ow s) (I 2) (-1)) (I 2) q (zdel (L s) (I 2)) j ∧ insT T1 T2 (zup (ow s) (I 2) (-1)) (zdel (L s) (I 2)) (I 2) q j ∧ v = ((mOf (zup (zup (ow s) (I 2) (-1)) (I 2) q) q (zinsl (zdel (L s) (I 2)) p (I 2))).length : Int)) (fun E w1 => w1 = (wD g b c I Q P T N rest) ∧ ((E = xI ∧ ¬ ((0 ≤ s ∧ s < (N : Int)) ∧ isO s q)) ∨ (E = xS ∧ ((0 ≤ s ∧ s < (N : Int)) ∧ isO s q) ∧ ¬ ((I 2 ≠ -1 ∧ (rAt 60 (T s 5) (I 2) ≠ -1 ∧ rAt 60 (T s 5) (I 2) ≠ I 2)) ∧ P s 4 ≠ 0)))) 4 24 := by
  have hi2 := hI.2.2.1
  refine zM_of (lv0 := [(0, _), (1, _), (2, _)]) hst rfl (by decide +kernel) (Nat.le_of_ble_eq_true rfl) rfl (fun x hx hf hn => ?_)
  refine zz_aload_n hx dX3_reconnect_0 rfl ?_
  refine zz_iload_n hx dX3_reconnect_1 rfl ?_
  refine zz_callVa hx me_X3_requireSet lk_X3_132 (k_X3_requireSet hst hI.1 hI.2.1 _ (by omega)) 0 rfl rfl ⟨rfl, rfl⟩ (by decide) (by decide) rfl rfl (Nat.le_of_ble_eq_true rfl) dX3_reconnect_2 (fun E9 w9 hX => by obtain ⟨rfl, rfl, hX⟩ := hX; exact zz_out hx hf hn ⟨rfl, Or.inl ⟨rfl, fun z9 => hX z9.1⟩⟩ (by decide) (by decide)) (fun r2 w2 hp2 => ?_)
  obtain ⟨rfl, rfl, hg2⟩ := hp2
  refine zz_eq (wD_at (s := s) (by omega) (by omega)) rfl ?_
  have hs9 := hS s hg2.1 hg2.2
  refine zz_astore_n (lv' := [(0, _), (1, _), (2, _), (3, _)]) hx dX3_reconnect_5 (by decide) rfl ?_
  refine zz_aload_n hx dX3_reconnect_6 rfl ?_
  refine zz_iload_n hx dX3_reconnect_7 rfl ?_
  refine zz_callVi hx me_X2_owns lk_X3_175 (k_X2_owns hst hs9.1 q (by omega)) _ (sW_at 0) rfl ⟨rfl, rfl⟩ (by decide) (by decide) rfl rfl (Nat.le_of_ble_eq_true rfl) dX3_reconnect_8 (fun _ _ h => h.elim) (fun r8 w8 hp8 => ?_)
  obtain ⟨rfl, rfl⟩ := hp8
  refine zz_ifb_ne hx 24 dX3_reconnect_11 rfl (fun c11 => ?_) (fun c11 => ?_)
  · have hqr := rAt_ne (f := T s 5) (p := q) (by rw [c11.2]; exact c11.1)
    have hioq := (aS_own hS hg2.1 hg2.2 hqr.1 hqr.2).mp c11
    refine zz_aload_n hx dX3_reconnect_24 rfl ?_
    refine zz_aload_n hx dX3_reconnect_25 rfl ?_
    refine zz_callVv hx me_X3_requireMembership lk_X3_160 (k_X3_requireMembership hst hs9.1 hi2) 0 rfl rfl ⟨rfl, rfl⟩ (by decide) (by decide) rfl rfl (Nat.le_of_ble_eq_true rfl) dX3_reconnect_26 (fun E9 w9 hX => by obtain ⟨rfl, rfl, hX⟩ := hX; exact zz_out hx hf hn ⟨(wD_at (by omega) (by omega)).symm, Or.inr ⟨rfl, ⟨hg2, hioq⟩, fun z9 => hX ⟨z9.1.1, z9.1.2⟩⟩⟩ (by decide) (by decide)) (fun w26 hp26 => ?_)
    obtain ⟨rfl, hm9⟩ := hp26
    have hqo : rAt 60 (T s 5) (I 2) = ow s (I 2) := by
      have hz := (ring_ow hs9.2.1 (r := I 2) (by omega) (by omega)).1
      rw [rAt_in (by omega) (by omega)] at hm9 ⊢
      exact hz hm9.2
    have hmL : I 2 ∈ L s := (hs9.2.1.1.2.2.1 _).mpr ⟨by omega, by omega, by rw [← hqo]; exact hm9.2.1⟩
    have hio := hs9.2.1.1.2.2.2 _ hmL
    refine zz_aload_n hx dX3_reconnect_29 rfl ?_
    refine zs_n4 hx dX3_reconnect_30 ?_
    refine zz_if_ne hx 46 dX3_reconnect_33 rfl (by omega) (fun c33 => ?_) (fun c33 => ?_)
    · refine zz_aload_n hx dX3_reconnect_46 rfl ?_
      refine zz_aload_n hx dX3_reconnect_47 rfl ?_
      refine zd_g7 hx lf_X3_45 dX3_reconnect_48 ?_
      refine zz_callVv hx me_X2_takeOut lk_X3_185 (k_X2_takeOut hst hs9.1 hs9.2.1 (I 2) hmL) _ (sW_at 0) rfl ⟨rfl, rfl⟩ (by decide) (by decide) rfl rfl (Nat.le_of_ble_eq_true rfl) dX3_reconnect_51 (fun _ _ h => h.elim) (fun w51 hp51 => ?_)
      obtain ⟨T1, rfl, hout⟩ := hp51
      have hk1 := rOK_out hs9.2.1 hmL hout.1 hout.2.1 hout.2.2.1
      have hnL : I 2 ∉ (zdel (L s) (I 2)) := fun z9 => (zdel_mem.mp z9).2 rfl
      refine zz_aload_n hx dX3_reconnect_54 rfl ?_
      refine zz_aload_n hx dX3_reconnect_55 rfl ?_
      refine zd_g7 hx lf_X3_45 dX3_reconnect_56 ?_
      refine zz_iload_n hx dX3_reconnect_59 rfl ?_
      refine zz_aload_n hx dX3_reconnect_60 rfl ?_
      refine zd_g2 hx lf_X3_25 dX3_reconnect_61 ?_
      refine zz_callVv hx me_X2_insert lk_X3_151 (k_X2_insert hst hout.2.2.2 hk1 (fun u hu => by rcases hu with z9 | z9; exact hI.2.2.2.2.1 u ((hk1.1.2.2.1 u).mp z9).1 ((hk1.1.2.2.1 u).mp z9).2.1; exact hI.2.2.2.2.1 u (by omega) (by omega)) hioq hnL (by omega) (by omega) (rC_no hs9.2.1.1 hmL).1 hs9.2.2.2.2.2.1 hs9.2.2.2.2.2.2.2.2) _ (sW_at 0) rfl ⟨rfl, rfl⟩ (by decide) (by decide) rfl rfl (Nat.le_of_ble_eq_true rfl) dX3_reconnect_64 (fun _ _ h => h.elim) (fun w64 hp64 => ?_)
      obtain ⟨T2, j, rfl, hj, hfp, hins⟩ := hp64
      obtain ⟨p, hp⟩ := ins_p hj.1 hj.2
      have hk2 := rOK_ins hk1 hp hnL (by omega) (by omega) (rC_no hs9.2.1.1 hmL).1 hioq hins.1 hins.2.1 hins.2.2.1
      refine zz_aload_n hx dX3_reconnect_67 rfl ?_
      refine zz_aload_n hx dX3_reconnect_68 rfl ?_
      refine zd_g7 hx lf_X3_45 dX3_reconnect_69 ?_
      refine zs_np8 hx dX3_reconnect_72 ?_
      refine zz_aload_n hx dX3_reconnect_75 rfl ?_
      refine zz_iload_n hx dX3_reconnect_76 rfl ?_
      refine zz_callVi hx me_X2_countByRing lk_X3_157 (k_X2_countByRing hst hins.2.2.2 hk2 _ hioq) _ (sW_at 0) rfl ⟨rfl, rfl⟩ (by decide) (by decide) rfl rfl (Nat.le_of_ble_eq_true rfl) dX3_reconnect_77 (fun _ _ h => h.elim) (fun r77 w77 hp77 => ?_)
      obtain ⟨rfl, rfl⟩ := hp77
      exact zz_iret hx hf dX3_reconnect_80 ⟨_, rfl, ⟨hg2, hioq⟩, ⟨⟨hm9.1, hm9.2⟩, c33⟩, T1, T2, j, p, wD_put (by omega) (by omega) _ _, hout, hp, hfp, hins, rfl⟩ (by decide) (by decide)
    · exact zz_throw hx hf hn zth_S (List.mem_of_getElem? (i := 13) rfl) dX3_reconnect_36 dX3_reconnect_39 dX3_reconnect_40 dX3_reconnect_42 dX3_reconnect_45 (by decide) (by decide) ⟨(wD_at (by omega) (by omega)).symm, Or.inr ⟨rfl, ⟨hg2, hioq⟩, fun z9 => z9.2 c33⟩⟩
  · have hno : ¬ isO s q := fun z9 => by
      have hq9 := hs9.2.1.1.1 q z9
      exact c11 ((aS_own hS hg2.1 hg2.2 hq9.1 hq9.2.1).mpr z9)
    exact zz_throw hx hf hn zth_I (List.mem_of_getElem? (i := 12) rfl) dX3_reconnect_14 dX3_reconnect_17 dX3_reconnect_18 dX3_reconnect_20 dX3_reconnect_23 (by decide) (by decide) ⟨(wD_at (by omega) (by omega)).symm, Or.inl ⟨rfl, fun z9 => hno z9.2⟩⟩
