set_option maxHeartbeats 4000000 in
set_option maxRecDepth 100000 in
/-- the law's loop -/
theorem law_loop {l : Launch} {g : zG} {x : zX} {b0 L : Nat} {xs : Nat → Int32} (hst : l.stackTraces = false) (hx : zOK l g 7 x RL code) (hN : zNc x) (hs : zSc b0 L xs x) (hL : L ≤ 3072) (hE : ∀ (k n : Nat) (w : va_W) (lv : List (Nat × Value)), k ≤ 601024 → n ≤ 7293034 → Z l g room_1 7 x k n w 1659 lv [vi 1]) {a : Nat → Nat} : ∀ (m : Nat) (i : Int) (k n : Nat) (F : Nat → Int) (G : Nat → Int → Int) (Rw : Int → List Int) (S : zS) (f : Nat → Int64) (o9 b1 : Nat), 0 ≤ i → i ≤ (L : Int) → (L : Int) + 1 ≤ i + 6 * (m : Int) → k + 10 * m ≤ 601024 → n + 214 * m ≤ 7293034 → mI F G Rw → RS g F G Rw S → S.1 0 = b1 → Z l g room_1 7 x k n (wS g S (oC g o9 f :: mW g a F G [])) 23 [(0, .ref b0), (1, .ref b1), (2, .ref (a 0)), (3, .ref o9), (4, vi i)] [] := by
  intro m
  induction m with
  | zero =>
    intro i k n F G Rw S f o9 b1 i0 iL im
    exact absurd im (by omega)
  | succ m ih =>
    intro i k n F G Rw S f9 o9 b1 i0 iL im hkm hnm h rs eb
    subst eb
    obtain ⟨b, c, I, Q, P, T, N⟩ := S
    have r : RD F G Rw I Q P T N := rs.1
    have hb : N = 0 → b 13 = g.2.2.2.2.2 := rs.2
    show Z l g room_1 7 x k n (wS g (b, c, I, Q, P, T, N) (oC g o9 f9 :: mW g a F G [])) 23 [(0, .ref b0), (1, .ref (b 0)), (2, .ref (a 0)), (3, .ref o9), (4, vi i)] []
    refine zz_iload hx dL_law_23 rfl ?_
    refine zz_aload_n hx dL_law_25 rfl ?_
    refine zz_slen hx hs dL_law_26 ?_
    refine zz_bipush hx dL_law_27 rfl ?_
    refine zz_isub hx dL_law_29 ?_
    refine zz_icmp_gt hx 1658 dL_law_30 rfl (by omega) (by omega) (fun c30 => ?_) (fun c30 => ?_)
    · refine zz_iconst hx dL_law_1658 ?_
      exact hE k n _ _ (by omega) (by omega)
    · have i1 : i + 6 ≤ (L : Int) := by omega
      have hk : k + 10 ≤ 601024 ∧ n + 214 ≤ 7293034 := by omega
      have J : zJ l g x a b0 o9 (b 0) i (k + 10) (n + 214) := by
        intro F2 G2 Rw2 S2 f2 h2 r2 e2
        refine zz_iinc (lv' := [(0, _), (1, _), (2, _), (3, _), (4, _)]) hx dL_law_1652 (by decide) rfl rfl ?_
        refine zz_goto hx 23 dL_law_1655 rfl ?_
        exact ih (i + 6) (k + 10) (n + 214) F2 G2 Rw2 S2 f2 o9 (b 0) (by omega) i1 (by omega) (by omega) (by omega) h2 r2 e2
      refine zz_aload_n hx dL_law_33 rfl ?_
      refine zz_iload hx dL_law_34 rfl ?_
      refine zz_sld hx hs hL i0 (by omega) dL_law_36 ?_
      refine zz_bipush hx dL_law_37 rfl ?_
      refine zz_iand hx dL_law_39 (fun t ht => ?_)
      have hc : (t < 0 ∨ 24 < t) ∨ t = 0 ∨ t = 1 ∨ t = 2 ∨ t = 3 ∨ t = 4 ∨ t = 5 ∨ t = 6 ∨ t = 7 ∨ t = 8 ∨ t = 9 ∨ t = 10 ∨ t = 11 ∨ t = 12 ∨ t = 13 ∨ t = 14 ∨ t = 15 ∨ t = 16 ∨ t = 17 ∨ t = 18 ∨ t = 19 ∨ t = 20 ∨ t = 21 ∨ t = 22 ∨ t = 23 ∨ t = 24 := by omega
      rcases hc with hc | rfl | rfl | rfl | rfl | rfl | rfl | rfl | rfl | rfl | rfl | rfl | rfl | rfl | rfl | rfl | rfl | rfl | rfl | rfl | rfl | rfl | rfl | rfl | rfl | rfl
      · exact zz_tabOut hx 1652 dL_law_40 ht hc rfl (zJ_to J (by omega) (by omega) h rs rfl [])
      · exact zz_tabIn hx 156 dL_law_40 (by decide) (by decide) rfl rfl (lc_declare hst hx hN hs hL h r hb i0 i1 hk J)
      · exact zz_tabIn hx 276 dL_law_40 (by decide) (by decide) rfl rfl (lc_store hst hx hN hs hL h r hb i0 i1 hk J)
      · exact zz_tabIn hx 344 dL_law_40 (by decide) (by decide) rfl rfl (lc_modify hst hx hN hs hL h r hb i0 i1 hk J)
      · exact zz_tabIn hx 400 dL_law_40 (by decide) (by decide) rfl rfl (lc_erase hst hx hN hs hL h r hb i0 i1 hk J)
      · exact zz_tabIn hx 456 dL_law_40 (by decide) (by decide) rfl rfl (lc_connect hst hx hN hs hL h r hb i0 i1 hk J)
      · exact zz_tabIn hx 512 dL_law_40 (by decide) (by decide) rfl rfl (lc_disconnect hst hx hN hs hL h r hb i0 i1 hk J)
      · exact zz_tabIn hx 568 dL_law_40 (by decide) (by decide) rfl rfl (lc_reconnect hst hx hN hs hL h r hb i0 i1 hk J)
      · exact zz_tabIn hx 636 dL_law_40 (by decide) (by decide) rfl rfl (lc_find hst hx hN hs hL h r hb i0 i1 hk J)
      · exact zz_tabIn hx 661 dL_law_40 (by decide) (by decide) rfl rfl (lc_findOf hst hx hN hs hL h r hb i0 i1 hk J)
      · exact zz_tabIn hx 745 dL_law_40 (by decide) (by decide) rfl rfl (lc_findEnd hst hx hN hs hL h r hb i0 i1 hk J)
      · exact zz_tabIn hx 829 dL_law_40 (by decide) (by decide) rfl rfl (lc_findNext hst hx hN hs hL h r hb i0 i1 hk J)
      · exact zz_tabIn hx 913 dL_law_40 (by decide) (by decide) rfl rfl (lc_findOwner hst hx hN hs hL h r hb i0 i1 hk J)
      · exact zz_tabIn hx 969 dL_law_40 (by decide) (by decide) rfl rfl (lc_findValue hst hx hN hs hL h r hb i0 i1 hk J)
      · exact zz_tabIn hx 1037 dL_law_40 (by decide) (by decide) rfl rfl (lc_setTypes hst hx hN hs hL h r hb i0 i1 hk J)
      · exact zz_tabIn hx 1050 dL_law_40 (by decide) (by decide) rfl rfl (lc_records hst hx hN hs hL h r hb i0 i1 hk J)
      · exact zz_tabIn hx 1063 dL_law_40 (by decide) (by decide) rfl rfl (lc_current hst hx hN hs hL h r hb i0 i1 hk J)
      · exact zz_tabIn hx 1076 dL_law_40 (by decide) (by decide) rfl rfl (lc_currentOf hst hx hN hs hL h r hb i0 i1 hk J)
      · exact zz_tabIn hx 1132 dL_law_40 (by decide) (by decide) rfl rfl (lc_currentIn hst hx hN hs hL h r hb i0 i1 hk J)
      · exact zz_tabIn hx 1188 dL_law_40 (by decide) (by decide) rfl rfl (lc_typeOf hst hx hN hs hL h r hb i0 i1 hk J)
      · exact zz_tabIn hx 1244 dL_law_40 (by decide) (by decide) rfl rfl (lc_valueOf hst hx hN hs hL h r hb i0 i1 hk J)
      · exact zz_tabIn hx 1300 dL_law_40 (by decide) (by decide) rfl rfl (lc_ownerOf hst hx hN hs hL h r hb i0 i1 hk J)
      · exact zz_tabIn hx 1368 dL_law_40 (by decide) (by decide) rfl rfl (lc_members hst hx hN hs hL h r hb i0 i1 hk J)
      · exact zz_tabIn hx 1436 dL_law_40 (by decide) (by decide) rfl rfl (lc_membersByTable hst hx hN hs hL h r hb i0 i1 hk J)
      · exact zz_tabIn hx 1504 dL_law_40 (by decide) (by decide) rfl rfl (lc_memberAt hst hx hN hs hL h r hb i0 i1 hk J)
      · exact zz_tabIn hx 1584 dL_law_40 (by decide) (by decide) rfl rfl (lc_wouldErase hst hx hN hs hL h r hb i0 i1 hk J)

/-- a new class and a new reference hold the same -/
theorem RD_0 {G : Nat → Int → Int} {P : Int → Nat → Int} {T : Int → Nat → Int → Int} (g15 : ∀ u : Int, 0 ≤ u → u < 4 → G 15 u = -1) (g16 : ∀ u : Int, 0 ≤ u → u < 6 → G 16 u = -1) (g11 : ∀ u : Int, 0 ≤ u → u < 360 → G 11 u = -1) (gk : ∀ k : Nat, k ≠ 11 → k ≠ 15 → k ≠ 16 → G k = fun _ => 0) :
    RD (fun k => if k = 14 then -1 else 0) G (fun _ => []) (fun k => if k = 2 then -1 else 0) (fun k => rowF (if k = 2 then 4 else 60)) P T 0 ∧ mI (fun k => if k = 14 then -1 else 0) G (fun _ => []) := by
  refine ⟨⟨⟨rfl, rfl, rfl, rfl, rfl⟩, Int.le_refl 0, fun u u0 u1 => ?_, fun u u0 u1 => ?_, fun u u0 u1 => ?_, fun t t0 t1 => ?_, fun s s0 s1 => ?_⟩, ⟨⟨Int.le_refl 0, by decide⟩, ⟨Int.le_refl 0, by decide⟩, fun s s0 s1 => ?_, fun u u0 u1 => ?_, fun s u s0 s1 u0 u1 => ?_, fun s s0 s1 => ?_⟩, Or.inl rfl, fun t t0 t1 => Or.inl (g15 t t0 t1), fun s s0 s1 => Or.inl (g16 s s0 s1)⟩
  · show rowF 60 u = if u < 0 ∧ G 8 u = 1 then G 9 u else -1
    rw [if_neg (fun z => by have := z.1; omega)]
    exact rowF_in u0 u1
  · show -1000 ≤ rowF 60 u ∧ rowF 60 u ≤ 1000
    rw [rowF_in u0 u1]; omega
  · have u1 : u < 0 := u1
    omega
  · show rowF 4 t = G 15 t
    rw [g15 t t0 t1]
    exact rowF_in t0 t1
  · have s1 : s < 0 := s1
    omega
  · have s1 : s < 0 := s1
    omega
  · have u1 : u < 0 := u1
    omega
  · exact Or.inl (g11 _ (by omega) (by omega))
  · refine ⟨by rw [gk 12 (by decide) (by decide) (by decide)]; rfl, fun k k0 k1 => ?_, List.nodup_nil, fun r => ⟨fun z => absurd z List.not_mem_nil, fun z => absurd (g11 _ (by omega) (by omega)) z.2.2⟩⟩
    rw [gk 12 (by decide) (by decide) (by decide)] at k1
    have k1 : k < 0 := k1
    omega

set_option maxHeartbeats 4000000 in
set_option maxRecDepth 100000 in
/-- the law from its entry -/
theorem law_begin {l : Launch} {g : zG} {x : zX} {b0 L : Nat} {xs : Nat → Int32} (hst : l.stackTraces = false) (hx : zOK l g 7 x RL code) (hN : zNc x) (hs : zSc b0 L xs x) (hL : L ≤ 3072) (hE : ∀ (k n : Nat) (w : va_W) (lv : List (Nat × Value)), k ≤ 601024 → n ≤ 7293034 → Z l g room_1 7 x k n w 1659 lv [vi 1]) : Z l g room_1 7 x 0 0 [] 0 [(0, .ref b0)] [] := by
  refine zz_new (ci := 4) (fs := [.null, .null, .null, .null, .null, vi 0, vi 0, vi 0]) hx lc_L_8 (zT_dec (by decide +kernel)) (zT_dec (by decide +kernel)) fw_X3 rfl tyX3 tyX3_ok (by decide) (by decide) dL_law_0 (fun q1 => ?_)
  refine zz_dup hx dL_law_3 rfl ?_
  refine zz_callI hx mi_X3_init lk_L_83 (c_Database_init (w := []) hst) ⟨rfl, rfl⟩ (by decide) (by decide) rfl rfl (Nat.le_of_ble_eq_true rfl) dL_law_4 (fun _ _ h => h.elim) (fun w4 hp4 => ?_)
  obtain ⟨b, I, Q, rfl, rfl, e13, rfl, rfl⟩ := hp4
  refine zz_astore_n (lv' := [(0, _), (1, _)]) hx dL_law_7 (by decide) rfl ?_
  refine zz_new (ci := 5) (fs := [vi 0, .null, .null, .null, .null, .null, vi 0, vi 0, .null, .null, .null, .null, .null, .null, vi 0, .null, .null, .null, vi 0]) hx lc_L_84 (zT_dec (by decide +kernel)) (zT_dec (by decide +kernel)) fw_X4 rfl tyX4 tyX4_ok (by decide) (by decide) dL_law_8 (fun q2 => ?_)
  refine zz_dup hx dL_law_11 rfl ?_
  refine zz_callI hx mi_X4_init lk_L_86 (c_Model_init hst) ⟨rfl, rfl⟩ (by decide) (by decide) rfl rfl (Nat.le_of_ble_eq_true rfl) dL_law_12 (fun _ _ h => h.elim) (fun w12 hp12 => ?_)
  obtain ⟨a, G, rfl, rfl, g15, g16, g11, gk⟩ := hp12
  refine zz_astore_n (lv' := [(0, _), (1, _), (2, _)]) hx dL_law_15 (by decide) rfl ?_
  refine zz_iconst hx dL_law_16 ?_
  refine zz_newl (N := 1) hx (by decide) (by decide) dL_law_17 (fun q3 => ?_)
  refine zz_astore_n (lv' := [(0, _), (1, _), (2, _), (3, _)]) hx dL_law_19 (by decide) rfl ?_
  refine zz_iconst hx dL_law_20 ?_
  refine zz_istore (lv' := [(0, _), (1, _), (2, _), (3, _), (4, _)]) hx dL_law_21 (by decide) rfl ?_
  obtain ⟨e1, e2⟩ := RD_0 (P := fun _ _ => 0) (T := fun _ _ _ => 0) g15 g16 g11 gk
  refine zz_eq (w' := mW g a (fun k => if k = 14 then -1 else 0) G (wS g (b, (fun _ _ => 0), (fun k => if k = 2 then -1 else 0), (fun k => rowF (if k = 2 then 4 else 60)), (fun _ _ => 0), (fun _ _ _ => 0), 0) [oC g q3 (fun _ => 0)])) rfl rfl ?_
  refine zz_perm (pM g _ _ a _ G).symm ?_
  exact law_loop hst hx hN hs hL hE 513 0 _ _ _ G (fun _ => []) _ _ q3 (b 0) (Int.le_refl 0) (by omega) (by omega) (by decide) (by decide) e2 ⟨e1, fun _ => e13⟩ rfl

