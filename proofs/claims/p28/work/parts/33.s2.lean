set_option maxHeartbeats 4000000 in
set_option maxRecDepth 100000 in
theorem k_X2_countByRing {l : Launch} {g : zG} {b c : Nat → Nat} {I P : Nat → Int} {Q T : Nat → Int → Int} {pre post : va_W} (hst : l.stackTraces = false) {ow : Int → Int} {isO : Int → Prop} {L : List Int} (hrr : rR T) (hk : rOK T ow isO L) (q : Int) (hqo : isO q) : zM l g yX2_countByRing cX2_countByRing 4 (Option.some FieldType.int) ({ frames := 1, cells := 0, slots := 0, locals := 21 } : Room) [.ref (c 0), vi q] (sW g b I Q pre c P T post) (zI fun v w => v = ((mOf ow q L).length : Int) ∧ w = sW g b I Q pre c P T post) zN 0 0 := by
  have hq := hk.1.1 q hqo
  have hmf := mOf_facts hk.1 hqo
  have hln := hk.2.2 q hqo
  have hsr := sq_rng hk.1 hqo
  refine zM_of (lv0 := [(0, _), (1, _)]) hst rfl (by decide +kernel) (Nat.le_of_ble_eq_true rfl) rfl (fun x hx hf hn => ?_)
  have loop : ∀ (n : Nat) (k : Int), 0 ≤ k → k ≤ ((mOf ow q L).length : Int) → (((mOf ow q L).length : Int) - k).toNat < n → Z l g ({ frames := 1, cells := 0, slots := 0, locals := 21 } : Room) 4 x 0 0 (sW g b I Q pre c P T post) 11 [(0, .ref (c 0)), (1, vi q), (2, vi k), (3, vi (sq q (mOf ow q L) (k)))] [] := by
    intro n
    induction n with
    | zero => intro k h0 h1 hm; omega
    | succ n ih =>
      intro k h0 h1 hm
      have hs := hsr k
      refine zz_iload_n hx dX2_countByRing_11 rfl ?_
      refine zz_iload_n hx dX2_countByRing_12 rfl ?_
      refine zz_icmp_eq hx 37 dX2_countByRing_13 rfl (by omega) (by omega) (fun c13 => ?_) (fun c13 => ?_)
      · have hke : k = ((mOf ow q L).length : Int) := by
          rcases Int.lt_or_le k ((mOf ow q L).length : Int) with y | y
          · exact absurd (show q ∈ (mOf ow q L) by have hz9 := sq_mem (o := q) h0 y; rw [c13] at hz9; exact hz9) hmf.2.1
          · omega
        refine zz_iload_n hx dX2_countByRing_37 rfl ?_
        exact zz_iret hx hf dX2_countByRing_38 ⟨_, rfl, by omega, rfl⟩ (by decide) (by decide)
      · have hkl : k < ((mOf ow q L).length : Int) := by
          rcases Int.lt_or_le k ((mOf ow q L).length : Int) with y | y
          · exact y
          · exact absurd (sq_e y) c13
        refine zz_iload_n hx dX2_countByRing_16 rfl ?_
        refine zz_bipush hx dX2_countByRing_17 rfl ?_
        refine zz_icmp_ge hx 37 dX2_countByRing_19 rfl (by omega) (by omega) (fun c19 => ?_) (fun c19 => ?_)
        · refine zz_iload_n hx dX2_countByRing_37 rfl ?_
          exact zz_iret hx hf dX2_countByRing_38 ⟨_, rfl, by omega, rfl⟩ (by decide) (by decide)
        · refine zz_iinc (lv' := [(0, _), (1, _), (2, _), (3, _)]) hx dX2_countByRing_22 (by decide) rfl rfl ?_
          refine zz_aload_n hx dX2_countByRing_25 rfl ?_
          refine zs_g6 hx lf_X2_20 dX2_countByRing_26 ?_
          refine zz_iload_n hx dX2_countByRing_29 rfl ?_
          refine zs_at6 hx hst lk_X2_46 (by decide) (by decide) (by omega) (Nat.le_of_ble_eq_true rfl) dX2_countByRing_30 ?_
          rw [rAt_in (by omega) (by omega)]
          rw [(hln k (by omega) hkl).1]
          refine zz_istore_n (lv' := [(0, _), (1, _), (2, _), (3, _)]) hx dX2_countByRing_33 (by decide) rfl ?_
          refine zz_goto hx 11 dX2_countByRing_34 rfl ?_
          exact ih (k + 1) (by omega) (by omega) (by omega)
  refine zz_iconst hx dX2_countByRing_0 ?_
  refine zz_istore_n (lv' := [(0, _), (1, _), (2, _)]) hx dX2_countByRing_1 (by decide) rfl ?_
  refine zz_aload_n hx dX2_countByRing_2 rfl ?_
  refine zs_g6 hx lf_X2_20 dX2_countByRing_3 ?_
  refine zz_iload_n hx dX2_countByRing_6 rfl ?_
  refine zs_at6 hx hst lk_X2_46 (by decide) (by decide) (by omega) (Nat.le_of_ble_eq_true rfl) dX2_countByRing_7 ?_
  rw [rAt_in (by omega) (by omega)]
  rw [lnk_first hln]
  refine zz_istore_n (lv' := [(0, _), (1, _), (2, _), (3, _)]) hx dX2_countByRing_10 (by decide) rfl ?_
  exact loop (((mOf ow q L).length : Int).toNat + 1) 0 (by omega) (by omega) (by omega)

set_option maxHeartbeats 4000000 in
set_option maxRecDepth 100000 in
theorem k_X2_memberByPlace {l : Launch} {g : zG} {b c : Nat → Nat} {I P : Nat → Int} {Q T : Nat → Int → Int} {pre post : va_W} (hst : l.stackTraces = false) {ow : Int → Int} {isO : Int → Prop} {L : List Int} (hrr : rR T) (hk : rOK T ow isO L) (q d : Int) (hqo : isO q) (d0 : 0 ≤ d) (d1 : d < ((mOf ow q L).length : Int)) : zM l g yX2_memberByPlace cX2_memberByPlace 5 (Option.some FieldType.int) ({ frames := 1, cells := 0, slots := 0, locals := 21 } : Room) [.ref (c 0), vi q, vi d] (sW g b I Q pre c P T post) (zI fun v w => v = zat (mOf ow q L) d ∧ w = sW g b I Q pre c P T post) zN 0 0 := by
  have hq := hk.1.1 q hqo
  have hmf := mOf_facts hk.1 hqo
  have hln := hk.2.2 q hqo
  have hsr := sq_rng hk.1 hqo
  refine zM_of (lv0 := [(0, _), (1, _), (2, _)]) hst rfl (by decide +kernel) (Nat.le_of_ble_eq_true rfl) rfl (fun x hx hf hn => ?_)
  have loop : ∀ (n : Nat) (k : Int), 0 ≤ k → k ≤ d → (d - k).toNat < n → Z l g ({ frames := 1, cells := 0, slots := 0, locals := 21 } : Room) 5 x 0 0 (sW g b I Q pre c P T post) 12 [(0, .ref (c 0)), (1, vi q), (2, vi d), (3, vi (sq q (mOf ow q L) (k))), (4, vi k)] [] := by
    intro n
    induction n with
    | zero => intro k h0 h1 hm; omega
    | succ n ih =>
      intro k h0 h1 hm
      have hs := hsr k
      refine zz_iload hx dX2_memberByPlace_12 rfl ?_
      refine zz_iload_n hx dX2_memberByPlace_14 rfl ?_
      refine zz_icmp_ge hx 40 dX2_memberByPlace_15 rfl (by omega) (by omega) (fun c15 => ?_) (fun c15 => ?_)
      · refine zz_iload_n hx dX2_memberByPlace_40 rfl ?_
        exact zz_iret hx hf dX2_memberByPlace_41 ⟨_, rfl, by rw [show k = d by omega, sq_in d0 d1], rfl⟩ (by decide) (by decide)
      · refine zz_iload hx dX2_memberByPlace_18 rfl ?_
        refine zz_bipush hx dX2_memberByPlace_20 rfl ?_
        refine zz_icmp_ge hx 40 dX2_memberByPlace_22 rfl (by omega) (by omega) (fun c22 => ?_) (fun c22 => ?_)
        · exfalso; omega
        · refine zz_aload_n hx dX2_memberByPlace_25 rfl ?_
          refine zs_g6 hx lf_X2_20 dX2_memberByPlace_26 ?_
          refine zz_iload_n hx dX2_memberByPlace_29 rfl ?_
          refine zs_at6 hx hst lk_X2_46 (by decide) (by decide) (by omega) (Nat.le_of_ble_eq_true rfl) dX2_memberByPlace_30 ?_
          rw [rAt_in (by omega) (by omega)]
          rw [(hln k (by omega) (by omega)).1]
          refine zz_istore_n (lv' := [(0, _), (1, _), (2, _), (3, _), (4, _)]) hx dX2_memberByPlace_33 (by decide) rfl ?_
          refine zz_iinc (lv' := [(0, _), (1, _), (2, _), (3, _), (4, _)]) hx dX2_memberByPlace_34 (by decide) rfl rfl ?_
          refine zz_goto hx 12 dX2_memberByPlace_37 rfl ?_
          exact ih (k + 1) (by omega) (by omega) (by omega)
  refine zz_aload_n hx dX2_memberByPlace_0 rfl ?_
  refine zs_g6 hx lf_X2_20 dX2_memberByPlace_1 ?_
  refine zz_iload_n hx dX2_memberByPlace_4 rfl ?_
  refine zs_at6 hx hst lk_X2_46 (by decide) (by decide) (by omega) (Nat.le_of_ble_eq_true rfl) dX2_memberByPlace_5 ?_
  rw [rAt_in (by omega) (by omega)]
  rw [lnk_first hln]
  refine zz_istore_n (lv' := [(0, _), (1, _), (2, _), (3, _)]) hx dX2_memberByPlace_8 (by decide) rfl ?_
  refine zz_iconst hx dX2_memberByPlace_9 ?_
  refine zz_istore (lv' := [(0, _), (1, _), (2, _), (3, _), (4, _)]) hx dX2_memberByPlace_10 (by decide) rfl ?_
  exact loop (d.toNat + 1) 0 (by omega) (by omega) (by omega)

set_option maxHeartbeats 4000000 in
set_option maxRecDepth 100000 in
theorem k_X2_firstWithValue {l : Launch} {g : zG} {b c : Nat → Nat} {I P : Nat → Int} {Q T : Nat → Int → Int} {pre post : va_W} (hst : l.stackTraces = false) {ow : Int → Int} {isO : Int → Prop} {L : List Int} (hrr : rR T) (hk : rOK T ow isO L) (hv1 : ∀ u : Int, u ∈ L → -1000 ≤ Q 1 u ∧ Q 1 u ≤ 1000) (q : Int) (hqo : q = -1 ∨ isO q) (z : Int) (hz : -2147483648 ≤ z ∧ z < 2147483648) : zM l g yX2_firstWithValue cX2_firstWithValue 6 (Option.some FieldType.int) ({ frames := 1, cells := 0, slots := 0, locals := 21 } : Room) [.ref (c 0), vi q, vi z, .ref (b 4)] (sW g b I Q pre c P T post) (zI fun v w => w = sW g b I Q pre c P T post ∧ (q = -1 → v = -1) ∧ (q ≠ -1 → (v = -1 ∧ ∀ k : Int, 0 ≤ k → k < ((mOf ow q L).length : Int) → Q 1 (zat (mOf ow q L) k) ≠ z) ∨ ∃ k : Int, 0 ≤ k ∧ k < ((mOf ow q L).length : Int) ∧ v = zat (mOf ow q L) k ∧ Q 1 v = z ∧ ∀ j : Int, 0 ≤ j → j < k → Q 1 (zat (mOf ow q L) j) ≠ z)) zN 0 0 := by
  have hrg := rAt_rng hrr
  have hq1 : -1 ≤ q ∧ q < 60 := by rcases hqo with z9 | z9; omega; (have := hk.1.1 q z9; omega)
  refine zM_of (lv0 := [(0, _), (1, _), (2, _), (3, _)]) hst rfl (by decide +kernel) (Nat.le_of_ble_eq_true rfl) rfl (fun x hx hf hn => ?_)
  have loop : isO q → ∀ (n : Nat) (k : Int), 0 ≤ k → k ≤ ((mOf ow q L).length : Int) → (∀ j : Int, 0 ≤ j → j < k → Q 1 (zat (mOf ow q L) j) ≠ z) → (((mOf ow q L).length : Int) - k).toNat < n → Z l g ({ frames := 1, cells := 0, slots := 0, locals := 21 } : Room) 6 x 0 0 (sW g b I Q pre c P T post) 13 [(0, .ref (c 0)), (1, vi q), (2, vi z), (3, .ref (b 4)), (4, vi (sq q (mOf ow q L) (k))), (5, vi k)] [] := by
    intro hqo n
    have hq := hk.1.1 q hqo
    have hmf := mOf_facts hk.1 hqo
    have hln := hk.2.2 q hqo
    have hsr := sq_rng hk.1 hqo
    induction n with
    | zero => intro k h0 h1 h2 hm; omega
    | succ n ih =>
      intro k h0 h1 h2 hm
      have hs := hsr k
      refine zz_iload hx dX2_firstWithValue_13 rfl ?_
      refine zz_bipush hx dX2_firstWithValue_15 rfl ?_
      refine zz_icmp_ge hx 56 dX2_firstWithValue_17 rfl (by omega) (by omega) (fun c17 => ?_) (fun c17 => ?_)
      · refine zz_iconst hx dX2_firstWithValue_56 ?_
        exact zz_iret hx hf dX2_firstWithValue_57 ⟨_, rfl, rfl, fun z9 => by omega, fun _ => Or.inl ⟨rfl, fun j j0 j1 => h2 j j0 (by omega)⟩⟩ (by decide) (by decide)
      · refine zz_iload hx dX2_firstWithValue_20 rfl ?_
        refine zz_iload_n hx dX2_firstWithValue_22 rfl ?_
        refine zz_icmp_eq hx 56 dX2_firstWithValue_23 rfl (by omega) (by omega) (fun c23 => ?_) (fun c23 => ?_)
        · have hke : k = ((mOf ow q L).length : Int) := by
            rcases Int.lt_or_le k ((mOf ow q L).length : Int) with y | y
            · exact absurd (show q ∈ (mOf ow q L) by have hz9 := sq_mem (o := q) h0 y; rw [c23] at hz9; exact hz9) hmf.2.1
            · omega
          refine zz_iconst hx dX2_firstWithValue_56 ?_
          exact zz_iret hx hf dX2_firstWithValue_57 ⟨_, rfl, rfl, fun z9 => by omega, fun _ => Or.inl ⟨rfl, fun j j0 j1 => h2 j j0 (by omega)⟩⟩ (by decide) (by decide)
        · have hkl : k < ((mOf ow q L).length : Int) := by
            rcases Int.lt_or_le k ((mOf ow q L).length : Int) with y | y
            · exact y
            · exact absurd (sq_e y) c23
          refine zz_aload_n hx dX2_firstWithValue_26 rfl ?_
          refine zz_iload hx dX2_firstWithValue_27 rfl ?_
          refine zv_at1 hx hst lk_X2_46 (by decide) (by decide) (by omega) (Nat.le_of_ble_eq_true rfl) dX2_firstWithValue_29 ?_
          rw [rAt_in (by omega) (by omega)]
          have hvk := hv1 _ ((hmf.2.2.2 _ (sq_mem (o := q) h0 hkl)).2.2.2.2)
          refine zz_iload_n hx dX2_firstWithValue_32 rfl ?_
          refine zz_icmp_ne hx 39 dX2_firstWithValue_33 rfl (by omega) (by omega) (fun c33 => ?_) (fun c33 => ?_)
          · rw [sq_in h0 hkl] at c33
            refine zz_aload_n hx dX2_firstWithValue_39 rfl ?_
            refine zs_g6 hx lf_X2_20 dX2_firstWithValue_40 ?_
            refine zz_iload hx dX2_firstWithValue_43 rfl ?_
            refine zs_at6 hx hst lk_X2_46 (by decide) (by decide) (by omega) (Nat.le_of_ble_eq_true rfl) dX2_firstWithValue_45 ?_
            rw [rAt_in (by omega) (by omega)]
            rw [(hln k (by omega) hkl).1]
            refine zz_istore (lv' := [(0, _), (1, _), (2, _), (3, _), (4, _), (5, _)]) hx dX2_firstWithValue_48 (by decide) rfl ?_
            refine zz_iinc (lv' := [(0, _), (1, _), (2, _), (3, _), (4, _), (5, _)]) hx dX2_firstWithValue_50 (by decide) rfl rfl ?_
            refine zz_goto hx 13 dX2_firstWithValue_53 rfl ?_
            refine ih (k + 1) (by omega) (by omega) (fun j j0 j1 => ?_) (by omega)
            rcases Int.lt_or_eq_of_le (show j ≤ k by omega) with y | y
            · exact h2 j j0 y
            · rw [y]; exact c33
          · rw [sq_in h0 hkl] at c33
            refine zz_iload hx dX2_firstWithValue_36 rfl ?_
            exact zz_iret hx hf dX2_firstWithValue_38 ⟨_, rfl, rfl, fun z9 => by omega, fun _ => Or.inr ⟨k, h0, hkl, by rw [sq_in h0 hkl], by rw [sq_in h0 hkl]; exact c33, h2⟩⟩ (by decide) (by decide)
  rcases hqo with hqm | hqo
  · subst hqm
    refine zz_aload_n hx dX2_firstWithValue_0 rfl ?_
    refine zs_g6 hx lf_X2_20 dX2_firstWithValue_1 ?_
    refine zz_iload_n hx dX2_firstWithValue_4 rfl ?_
    refine zs_at6 hx hst lk_X2_46 (by decide) (by decide) (by omega) (Nat.le_of_ble_eq_true rfl) dX2_firstWithValue_5 ?_
    rw [rAt_no (by decide)]
    refine zz_istore (lv' := [(0, _), (1, _), (2, _), (3, _), (4, _)]) hx dX2_firstWithValue_8 (by decide) rfl ?_
    refine zz_iconst hx dX2_firstWithValue_10 ?_
    refine zz_istore (lv' := [(0, _), (1, _), (2, _), (3, _), (4, _), (5, _)]) hx dX2_firstWithValue_11 (by decide) rfl ?_
    refine zz_iload hx dX2_firstWithValue_13 rfl ?_
    refine zz_bipush hx dX2_firstWithValue_15 rfl ?_
    refine zz_icmp_ge hx 56 dX2_firstWithValue_17 rfl (by omega) (by omega) (fun c17 => ?_) (fun c17 => ?_)
    · exfalso; omega
    · refine zz_iload hx dX2_firstWithValue_20 rfl ?_
      refine zz_iload_n hx dX2_firstWithValue_22 rfl ?_
      refine zz_icmp_eq hx 56 dX2_firstWithValue_23 rfl (by omega) (by omega) (fun c23 => ?_) (fun c23 => ?_)
      · refine zz_iconst hx dX2_firstWithValue_56 ?_
        exact zz_iret hx hf dX2_firstWithValue_57 ⟨_, rfl, rfl, fun _ => rfl, fun z9 => absurd rfl z9⟩ (by decide) (by decide)
      · exact absurd rfl c23
  · have hq := hk.1.1 q hqo
    have hln := hk.2.2 q hqo
    refine zz_aload_n hx dX2_firstWithValue_0 rfl ?_
    refine zs_g6 hx lf_X2_20 dX2_firstWithValue_1 ?_
    refine zz_iload_n hx dX2_firstWithValue_4 rfl ?_
    refine zs_at6 hx hst lk_X2_46 (by decide) (by decide) (by omega) (Nat.le_of_ble_eq_true rfl) dX2_firstWithValue_5 ?_
    rw [rAt_in (by omega) (by omega)]
    rw [lnk_first hln]
    refine zz_istore (lv' := [(0, _), (1, _), (2, _), (3, _), (4, _)]) hx dX2_firstWithValue_8 (by decide) rfl ?_
    refine zz_iconst hx dX2_firstWithValue_10 ?_
    refine zz_istore (lv' := [(0, _), (1, _), (2, _), (3, _), (4, _), (5, _)]) hx dX2_firstWithValue_11 (by decide) rfl ?_
    exact loop hqo (((mOf ow q L).length : Int).toNat + 1) 0 (by omega) (by omega) (fun j _ _ => by omega) (by omega)

set_option maxHeartbeats 4000000 in
set_option maxRecDepth 100000 in
theorem k_X2_neighbour {l : Launch} {g : zG} {b c : Nat → Nat} {I P : Nat → Int} {Q T : Nat → Int → Int} {pre post : va_W} (hst : l.stackTraces = false) {ow : Int → Int} {isO : Int → Prop} {L : List Int} (hrr : rR T) (hk : rOK T ow isO L) (r z : Int) (hr : -1 ≤ r ∧ r < 60) (hz : z = 0 ∨ z = 1) : zM l g yX2_neighbour cX2_neighbour 4 (Option.some FieldType.int) ({ frames := 1, cells := 0, slots := 0, locals := 21 } : Room) [.ref (c 0), vi r, vi z] (sW g b I Q pre c P T post) (zI fun v w => v = (if rAt 60 (T (if z = 0 then 6 else 7)) r = rAt 60 (T 5) r then -1 else rAt 60 (T (if z = 0 then 6 else 7)) r) ∧ w = sW g b I Q pre c P T post) zN 0 0 := by
  have h5 := rAt_rng hrr 5 r
  have h6 := rAt_rng hrr 6 r
  have h7 := rAt_rng hrr 7 r
  refine zM_of (lv0 := [(0, _), (1, _), (2, _)]) hst rfl (by decide +kernel) (Nat.le_of_ble_eq_true rfl) rfl (fun x hx hf hn => ?_)
  refine zz_iload_n hx dX2_neighbour_0 rfl ?_
  refine zz_if_eq hx 15 dX2_neighbour_1 rfl (by omega) (fun c1 => ?_) (fun c1 => ?_)
  · refine zz_aload_n hx dX2_neighbour_15 rfl ?_
    refine zs_g6 hx lf_X2_20 dX2_neighbour_16 ?_
    refine zz_iload_n hx dX2_neighbour_19 rfl ?_
    refine zs_at6 hx hst lk_X2_46 (by decide) (by decide) (by omega) (Nat.le_of_ble_eq_true rfl) dX2_neighbour_20 ?_
    refine zz_istore_n (lv' := [(0, _), (1, _), (2, _), (3, _)]) hx dX2_neighbour_23 (by decide) rfl ?_
    refine zz_iload_n hx dX2_neighbour_24 rfl ?_
    refine zz_aload_n hx dX2_neighbour_25 rfl ?_
    refine zs_g5 hx lf_X2_14 dX2_neighbour_26 ?_
    refine zz_iload_n hx dX2_neighbour_29 rfl ?_
    refine zs_at5 hx hst lk_X2_46 (by decide) (by decide) (by omega) (Nat.le_of_ble_eq_true rfl) dX2_neighbour_30 ?_
    refine zz_icmp_ne hx 40 dX2_neighbour_33 rfl (by omega) (by omega) (fun c33 => ?_) (fun c33 => ?_)
    · refine zz_iload_n hx dX2_neighbour_40 rfl ?_
      exact zz_iret hx hf dX2_neighbour_41 ⟨_, rfl, by (first | rw [show (if z = 0 then 6 else 7 : Nat) = 6 from if_pos c1] | rw [show (if z = 0 then 6 else 7 : Nat) = 7 from if_neg c1]); (first | rw [if_pos c33] | rw [if_neg c33]), rfl⟩ (by decide) (by decide)
    · refine zz_iconst hx dX2_neighbour_36 ?_
      refine zz_goto hx 41 dX2_neighbour_37 rfl ?_
      exact zz_iret hx hf dX2_neighbour_41 ⟨_, rfl, by (first | rw [show (if z = 0 then 6 else 7 : Nat) = 6 from if_pos c1] | rw [show (if z = 0 then 6 else 7 : Nat) = 7 from if_neg c1]); (first | rw [if_pos c33] | rw [if_neg c33]), rfl⟩ (by decide) (by decide)
  · refine zz_aload_n hx dX2_neighbour_4 rfl ?_
    refine zs_g7 hx lf_X2_23 dX2_neighbour_5 ?_
    refine zz_iload_n hx dX2_neighbour_8 rfl ?_
    refine zs_at7 hx hst lk_X2_46 (by decide) (by decide) (by omega) (Nat.le_of_ble_eq_true rfl) dX2_neighbour_9 ?_
    refine zz_goto hx 23 dX2_neighbour_12 rfl ?_
    refine zz_istore_n (lv' := [(0, _), (1, _), (2, _), (3, _)]) hx dX2_neighbour_23 (by decide) rfl ?_
    refine zz_iload_n hx dX2_neighbour_24 rfl ?_
    refine zz_aload_n hx dX2_neighbour_25 rfl ?_
    refine zs_g5 hx lf_X2_14 dX2_neighbour_26 ?_
    refine zz_iload_n hx dX2_neighbour_29 rfl ?_
    refine zs_at5 hx hst lk_X2_46 (by decide) (by decide) (by omega) (Nat.le_of_ble_eq_true rfl) dX2_neighbour_30 ?_
    refine zz_icmp_ne hx 40 dX2_neighbour_33 rfl (by omega) (by omega) (fun c33 => ?_) (fun c33 => ?_)
    · refine zz_iload_n hx dX2_neighbour_40 rfl ?_
      exact zz_iret hx hf dX2_neighbour_41 ⟨_, rfl, by (first | rw [show (if z = 0 then 6 else 7 : Nat) = 6 from if_pos c1] | rw [show (if z = 0 then 6 else 7 : Nat) = 7 from if_neg c1]); (first | rw [if_pos c33] | rw [if_neg c33]), rfl⟩ (by decide) (by decide)
    · refine zz_iconst hx dX2_neighbour_36 ?_
      refine zz_goto hx 41 dX2_neighbour_37 rfl ?_
      exact zz_iret hx hf dX2_neighbour_41 ⟨_, rfl, by (first | rw [show (if z = 0 then 6 else 7 : Nat) = 6 from if_pos c1] | rw [show (if z = 0 then 6 else 7 : Nat) = 7 from if_neg c1]); (first | rw [if_pos c33] | rw [if_neg c33]), rfl⟩ (by decide) (by decide)

set_option maxHeartbeats 4000000 in
set_option maxRecDepth 100000 in
theorem k_X2_countByTable {l : Launch} {g : zG} {b c : Nat → Nat} {I P : Nat → Int} {Q T : Nat → Int → Int} {pre post : va_W} (hst : l.stackTraces = false) {ow : Int → Int} {isO : Int → Prop} {L : List Int} (hrr : rR T) (hk : rOK T ow isO L) (q : Int) (hqo : isO q) : zM l g yX2_countByTable cX2_countByTable 4 (Option.some FieldType.int) ({ frames := 1, cells := 0, slots := 0, locals := 21 } : Room) [.ref (c 0), vi q] (sW g b I Q pre c P T post) (zI fun v w => v = ((mOf ow q L).length : Int) ∧ w = sW g b I Q pre c P T post) zN 0 0 := by
  have hq := hk.1.1 q hqo
  have hmf := mOf_facts hk.1 hqo
  have hln := hk.2.2 q hqo
  have hsr := sq_rng hk.1 hqo
  have hrg := rAt_rng hrr
  refine zM_of (lv0 := [(0, _), (1, _)]) hst rfl (by decide +kernel) (Nat.le_of_ble_eq_true rfl) rfl (fun x hx hf hn => ?_)
  have loop : ∀ (n : Nat) (k : Int), 0 ≤ k → k ≤ 60 → (60 - k).toNat < n → Z l g ({ frames := 1, cells := 0, slots := 0, locals := 21 } : Room) 4 x 0 0 (sW g b I Q pre c P T post) 4 [(0, .ref (c 0)), (1, vi q), (2, vi (tcnt ow q k.toNat)), (3, vi k)] [] := by
    intro n
    induction n with
    | zero => intro k h0 h1 hm; omega
    | succ n ih =>
      intro k h0 h1 hm
      have hct : tcnt ow q (k + 1).toNat = tcnt ow q k.toNat + if ow k = q then 1 else 0 := by
        rw [show (k + 1).toNat = k.toNat + 1 by omega, tcnt, show ((k.toNat : Nat) : Int) = k by omega]
      have hrk := fun z : k < 60 => (rOK_ring hk (r := k) h0 z).2.1 q (by omega)
      have htr := tcnt_rng ow q k.toNat
      refine zz_iload_n hx dX2_countByTable_4 rfl ?_
      refine zz_bipush hx dX2_countByTable_5 rfl ?_
      refine zz_icmp_ge hx 36 dX2_countByTable_7 rfl (by omega) (by omega) (fun c7 => ?_) (fun c7 => ?_)
      · refine zz_iload_n hx dX2_countByTable_36 rfl ?_
        exact zz_iret hx hf dX2_countByTable_37 ⟨_, rfl, by rw [show k.toNat = 60 by omega]; exact tcnt_mem hk.1 hqo, rfl⟩ (by decide) (by decide)
      · refine zz_iload_n hx dX2_countByTable_10 rfl ?_
        refine zz_iload_n hx dX2_countByTable_11 rfl ?_
        refine zz_icmp_eq hx 30 dX2_countByTable_12 rfl (by omega) (by omega) (fun c12 => ?_) (fun c12 => ?_)
        · refine zz_iinc (lv' := [(0, _), (1, _), (2, _), (3, _)]) hx dX2_countByTable_30 (by decide) rfl rfl ?_
          refine zz_goto hx 4 dX2_countByTable_33 rfl ?_
          first
            | (have hrk2 := hrk (by omega)
               refine zz_sub (lv' := [(0, .ref (c 0)), (1, vi q), (2, vi (tcnt ow q (k + 1).toNat)), (3, vi (k + 1))]) ?_ (ih (k + 1) (by omega) (by omega) (by omega))
               rw [hct, if_pos (hrk2.mp ⟨c24, c12⟩)]
               exact fun y hy => hy)
            | (have hrk2 := hrk (by omega)
               refine zz_sub (lv' := [(0, .ref (c 0)), (1, vi q), (2, vi (tcnt ow q (k + 1).toNat)), (3, vi (k + 1))]) ?_ (ih (k + 1) (by omega) (by omega) (by omega))
               rw [hct, if_neg (fun y => by have := hrk2.mpr y; omega), show tcnt ow q k.toNat + 0 = tcnt ow q k.toNat by omega]
               exact fun y hy => hy)
        · refine zz_aload_n hx dX2_countByTable_15 rfl ?_
          refine zs_g5 hx lf_X2_14 dX2_countByTable_16 ?_
          refine zz_iload_n hx dX2_countByTable_19 rfl ?_
          refine zs_at5 hx hst lk_X2_46 (by decide) (by decide) (by omega) (Nat.le_of_ble_eq_true rfl) dX2_countByTable_20 ?_
          rw [rAt_in (by omega) (by omega)]
          have h5k := hrg 5 k
          rw [rAt_in (by omega) (by omega)] at h5k
          refine zz_iload_n hx dX2_countByTable_23 rfl ?_
          refine zz_icmp_ne hx 30 dX2_countByTable_24 rfl (by omega) (by omega) (fun c24 => ?_) (fun c24 => ?_)
          · refine zz_iinc (lv' := [(0, _), (1, _), (2, _), (3, _)]) hx dX2_countByTable_30 (by decide) rfl rfl ?_
            refine zz_goto hx 4 dX2_countByTable_33 rfl ?_
            first
              | (have hrk2 := hrk (by omega)
                 refine zz_sub (lv' := [(0, .ref (c 0)), (1, vi q), (2, vi (tcnt ow q (k + 1).toNat)), (3, vi (k + 1))]) ?_ (ih (k + 1) (by omega) (by omega) (by omega))
                 rw [hct, if_pos (hrk2.mp ⟨c24, c12⟩)]
                 exact fun y hy => hy)
              | (have hrk2 := hrk (by omega)
                 refine zz_sub (lv' := [(0, .ref (c 0)), (1, vi q), (2, vi (tcnt ow q (k + 1).toNat)), (3, vi (k + 1))]) ?_ (ih (k + 1) (by omega) (by omega) (by omega))
                 rw [hct, if_neg (fun y => by have := hrk2.mpr y; omega), show tcnt ow q k.toNat + 0 = tcnt ow q k.toNat by omega]
                 exact fun y hy => hy)
          · refine zz_iinc (lv' := [(0, _), (1, _), (2, _), (3, _)]) hx dX2_countByTable_27 (by decide) rfl rfl ?_
            refine zz_iinc (lv' := [(0, _), (1, _), (2, _), (3, _)]) hx dX2_countByTable_30 (by decide) rfl rfl ?_
            refine zz_goto hx 4 dX2_countByTable_33 rfl ?_
            first
              | (have hrk2 := hrk (by omega)
                 refine zz_sub (lv' := [(0, .ref (c 0)), (1, vi q), (2, vi (tcnt ow q (k + 1).toNat)), (3, vi (k + 1))]) ?_ (ih (k + 1) (by omega) (by omega) (by omega))
                 rw [hct, if_pos (hrk2.mp ⟨c24, c12⟩)]
                 exact fun y hy => hy)
              | (have hrk2 := hrk (by omega)
                 refine zz_sub (lv' := [(0, .ref (c 0)), (1, vi q), (2, vi (tcnt ow q (k + 1).toNat)), (3, vi (k + 1))]) ?_ (ih (k + 1) (by omega) (by omega) (by omega))
                 rw [hct, if_neg (fun y => by have := hrk2.mpr y; omega), show tcnt ow q k.toNat + 0 = tcnt ow q k.toNat by omega]
                 exact fun y hy => hy)
  refine zz_iconst hx dX2_countByTable_0 ?_
  refine zz_istore_n (lv' := [(0, _), (1, _), (2, _)]) hx dX2_countByTable_1 (by decide) rfl ?_
  refine zz_iconst hx dX2_countByTable_2 ?_
  refine zz_istore_n (lv' := [(0, _), (1, _), (2, _), (3, _)]) hx dX2_countByTable_3 (by decide) rfl ?_
  exact loop 61 0 (by omega) (by omega) (by omega)
