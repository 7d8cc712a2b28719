set_option maxHeartbeats 4000000 in
set_option maxRecDepth 100000 in
theorem k_X2_owns {l : Launch} {g : zG} {b c : Nat → Nat} {I P : Nat → Int} {Q T : Nat → Int → Int} {pre post : va_W} (hst : l.stackTraces = false) (hrr : rR T) (r : Int) (hr : -2147483648 ≤ r ∧ r < 2147483648) : zM l g yX2_owns cX2_owns 2 (Option.some FieldType.boolean) ({ frames := 1, cells := 0, slots := 0, locals := 21 } : Room) [.ref (c 0), vi r] (sW g b I Q pre c P T post) (zI fun v w => v = zb (r ≠ -1 ∧ rAt 60 (T 5) r = r) ∧ w = sW g b I Q pre c P T post) zN 0 0 := by
  have hrg := rAt_rng hrr
  have h5 := hrg 5 r
  refine zM_of (lv0 := [(0, _), (1, _)]) hst rfl (by decide +kernel) (Nat.le_of_ble_eq_true rfl) rfl (fun x hx hf hn => ?_)
  refine zz_iload_n hx dX2_owns_0 rfl ?_
  refine zz_iconst hx dX2_owns_1 ?_
  refine zz_icmp_eq hx 21 dX2_owns_2 rfl (by omega) (by omega) (fun c2 => ?_) (fun c2 => ?_)
  · refine zz_iconst hx dX2_owns_21 ?_
    exact zz_zret hx hf dX2_owns_22 (by first | decide | exact zb_01 _) ⟨_, rfl, by first | exact (zb_t (by omega)).symm | exact (zb_f (by omega)).symm, rfl⟩ (by decide) (by decide)
  · refine zz_aload_n hx dX2_owns_5 rfl ?_
    refine zs_g5 hx lf_X2_14 dX2_owns_6 ?_
    refine zz_iload_n hx dX2_owns_9 rfl ?_
    refine zs_at5 hx hst lk_X2_46 (by decide) (by decide) (by omega) (Nat.le_of_ble_eq_true rfl) dX2_owns_10 ?_
    refine zz_iload_n hx dX2_owns_13 rfl ?_
    refine zz_icmp_ne hx 21 dX2_owns_14 rfl (by omega) (by omega) (fun c14 => ?_) (fun c14 => ?_)
    · refine zz_iconst hx dX2_owns_21 ?_
      exact zz_zret hx hf dX2_owns_22 (by first | decide | exact zb_01 _) ⟨_, rfl, by first | exact (zb_t (by omega)).symm | exact (zb_f (by omega)).symm, rfl⟩ (by decide) (by decide)
    · refine zz_iconst hx dX2_owns_17 ?_
      refine zz_goto hx 22 dX2_owns_18 rfl ?_
      exact zz_zret hx hf dX2_owns_22 (by first | decide | exact zb_01 _) ⟨_, rfl, by first | exact (zb_t (by omega)).symm | exact (zb_f (by omega)).symm, rfl⟩ (by decide) (by decide)

set_option maxHeartbeats 4000000 in
set_option maxRecDepth 100000 in
theorem k_X2_isMember {l : Launch} {g : zG} {b c : Nat → Nat} {I P : Nat → Int} {Q T : Nat → Int → Int} {pre post : va_W} (hst : l.stackTraces = false) (hrr : rR T) (r : Int) (hr : -2147483648 ≤ r ∧ r < 2147483648) : zM l g yX2_isMember cX2_isMember 3 (Option.some FieldType.boolean) ({ frames := 1, cells := 0, slots := 0, locals := 21 } : Room) [.ref (c 0), vi r] (sW g b I Q pre c P T post) (zI fun v w => v = zb (rAt 60 (T 5) r ≠ -1 ∧ rAt 60 (T 5) r ≠ r) ∧ w = sW g b I Q pre c P T post) zN 0 0 := by
  have hrg := rAt_rng hrr
  have h5 := hrg 5 r
  refine zM_of (lv0 := [(0, _), (1, _)]) hst rfl (by decide +kernel) (Nat.le_of_ble_eq_true rfl) rfl (fun x hx hf hn => ?_)
  refine zz_aload_n hx dX2_isMember_0 rfl ?_
  refine zs_g5 hx lf_X2_14 dX2_isMember_1 ?_
  refine zz_iload_n hx dX2_isMember_4 rfl ?_
  refine zs_at5 hx hst lk_X2_46 (by decide) (by decide) (by omega) (Nat.le_of_ble_eq_true rfl) dX2_isMember_5 ?_
  refine zz_istore_n (lv' := [(0, _), (1, _), (2, _)]) hx dX2_isMember_8 (by decide) rfl ?_
  refine zz_iload_n hx dX2_isMember_9 rfl ?_
  refine zz_iconst hx dX2_isMember_10 ?_
  refine zz_icmp_eq hx 23 dX2_isMember_11 rfl (by omega) (by omega) (fun c11 => ?_) (fun c11 => ?_)
  · refine zz_iconst hx dX2_isMember_23 ?_
    exact zz_zret hx hf dX2_isMember_24 (by first | decide | exact zb_01 _) ⟨_, rfl, by first | exact (zb_t (by omega)).symm | exact (zb_f (by omega)).symm, rfl⟩ (by decide) (by decide)
  · refine zz_iload_n hx dX2_isMember_14 rfl ?_
    refine zz_iload_n hx dX2_isMember_15 rfl ?_
    refine zz_icmp_eq hx 23 dX2_isMember_16 rfl (by omega) (by omega) (fun c16 => ?_) (fun c16 => ?_)
    · refine zz_iconst hx dX2_isMember_23 ?_
      exact zz_zret hx hf dX2_isMember_24 (by first | decide | exact zb_01 _) ⟨_, rfl, by first | exact (zb_t (by omega)).symm | exact (zb_f (by omega)).symm, rfl⟩ (by decide) (by decide)
    · refine zz_iconst hx dX2_isMember_19 ?_
      refine zz_goto hx 24 dX2_isMember_20 rfl ?_
      exact zz_zret hx hf dX2_isMember_24 (by first | decide | exact zb_01 _) ⟨_, rfl, by first | exact (zb_t (by omega)).symm | exact (zb_f (by omega)).symm, rfl⟩ (by decide) (by decide)

set_option maxHeartbeats 4000000 in
set_option maxRecDepth 100000 in
theorem k_X2_takesAtStore {l : Launch} {g : zG} {b c : Nat → Nat} {I P : Nat → Int} {Q T : Nat → Int → Int} {pre post : va_W} (hst : l.stackTraces = false) (h3 : P 3 = 0 ∨ P 3 = 1) (h1 : 0 ≤ P 1 ∧ P 1 ≤ 3) (t : Int) (ht : 0 ≤ t ∧ t ≤ 3) : zM l g yX2_takesAtStore cX2_takesAtStore 2 (Option.some FieldType.boolean) ({ frames := 0, cells := 0, slots := 0, locals := 0 } : Room) [.ref (c 0), vi t] (sW g b I Q pre c P T post) (zI fun v w => v = zb (P 3 = 1 ∧ P 1 = t) ∧ w = sW g b I Q pre c P T post) zN 0 0 := by
  refine zM_of (lv0 := [(0, _), (1, _)]) hst rfl (by decide +kernel) (Nat.le_of_ble_eq_true rfl) rfl (fun x hx hf hn => ?_)
  refine zz_aload_n hx dX2_takesAtStore_0 rfl ?_
  refine zs_g3 hx lf_X2_39 dX2_takesAtStore_1 ?_
  refine zz_if_eq hx 19 dX2_takesAtStore_4 rfl (by omega) (fun c4 => ?_) (fun c4 => ?_)
  · refine zz_iconst hx dX2_takesAtStore_19 ?_
    exact zz_zret hx hf dX2_takesAtStore_20 (by first | decide | exact zb_01 _) ⟨_, rfl, by first | exact (zb_t (by omega)).symm | exact (zb_f (by omega)).symm, rfl⟩ (by decide) (by decide)
  · refine zz_aload_n hx dX2_takesAtStore_7 rfl ?_
    refine zs_g1 hx lf_X2_33 dX2_takesAtStore_8 ?_
    refine zz_iload_n hx dX2_takesAtStore_11 rfl ?_
    refine zz_icmp_ne hx 19 dX2_takesAtStore_12 rfl (by omega) (by omega) (fun c12 => ?_) (fun c12 => ?_)
    · refine zz_iconst hx dX2_takesAtStore_19 ?_
      exact zz_zret hx hf dX2_takesAtStore_20 (by first | decide | exact zb_01 _) ⟨_, rfl, by first | exact (zb_t (by omega)).symm | exact (zb_f (by omega)).symm, rfl⟩ (by decide) (by decide)
    · refine zz_iconst hx dX2_takesAtStore_15 ?_
      refine zz_goto hx 20 dX2_takesAtStore_16 rfl ?_
      exact zz_zret hx hf dX2_takesAtStore_20 (by first | decide | exact zb_01 _) ⟨_, rfl, by first | exact (zb_t (by omega)).symm | exact (zb_f (by omega)).symm, rfl⟩ (by decide) (by decide)

set_option maxHeartbeats 4000000 in
set_option maxRecDepth 100000 in
theorem k_X2_erasesMembers {l : Launch} {g : zG} {b c : Nat → Nat} {I P : Nat → Int} {Q T : Nat → Int → Int} {pre post : va_W} (hst : l.stackTraces = false) (h4 : 0 ≤ P 4 ∧ P 4 ≤ 2) (y : Int) (hy : 0 ≤ y ∧ y ≤ 2) : zM l g yX2_erasesMembers cX2_erasesMembers 2 (Option.some FieldType.boolean) ({ frames := 0, cells := 0, slots := 0, locals := 0 } : Room) [.ref (c 0), vi y] (sW g b I Q pre c P T post) (zI fun v w => v = zb (y = 2 ∨ (y ≠ 0 ∧ P 4 ≠ 2)) ∧ w = sW g b I Q pre c P T post) zN 0 0 := by
  refine zM_of (lv0 := [(0, _), (1, _)]) hst rfl (by decide +kernel) (Nat.le_of_ble_eq_true rfl) rfl (fun x hx hf hn => ?_)
  refine zz_iload_n hx dX2_erasesMembers_0 rfl ?_
  refine zz_iconst hx dX2_erasesMembers_1 ?_
  refine zz_icmp_eq hx 17 dX2_erasesMembers_2 rfl (by omega) (by omega) (fun c2 => ?_) (fun c2 => ?_)
  · refine zz_iconst hx dX2_erasesMembers_17 ?_
    refine zz_goto hx 22 dX2_erasesMembers_18 rfl ?_
    exact zz_zret hx hf dX2_erasesMembers_22 (by first | decide | exact zb_01 _) ⟨_, rfl, by first | exact (zb_t (by omega)).symm | exact (zb_f (by omega)).symm, rfl⟩ (by decide) (by decide)
  · refine zz_iload_n hx dX2_erasesMembers_5 rfl ?_
    refine zz_if_eq hx 21 dX2_erasesMembers_6 rfl (by omega) (fun c6 => ?_) (fun c6 => ?_)
    · refine zz_iconst hx dX2_erasesMembers_21 ?_
      exact zz_zret hx hf dX2_erasesMembers_22 (by first | decide | exact zb_01 _) ⟨_, rfl, by first | exact (zb_t (by omega)).symm | exact (zb_f (by omega)).symm, rfl⟩ (by decide) (by decide)
    · refine zz_aload_n hx dX2_erasesMembers_9 rfl ?_
      refine zs_g4 hx lf_X2_43 dX2_erasesMembers_10 ?_
      refine zz_iconst hx dX2_erasesMembers_13 ?_
      refine zz_icmp_eq hx 21 dX2_erasesMembers_14 rfl (by omega) (by omega) (fun c14 => ?_) (fun c14 => ?_)
      · refine zz_iconst hx dX2_erasesMembers_21 ?_
        exact zz_zret hx hf dX2_erasesMembers_22 (by first | decide | exact zb_01 _) ⟨_, rfl, by first | exact (zb_t (by omega)).symm | exact (zb_f (by omega)).symm, rfl⟩ (by decide) (by decide)
      · refine zz_iconst hx dX2_erasesMembers_17 ?_
        refine zz_goto hx 22 dX2_erasesMembers_18 rfl ?_
        exact zz_zret hx hf dX2_erasesMembers_22 (by first | decide | exact zb_01 _) ⟨_, rfl, by first | exact (zb_t (by omega)).symm | exact (zb_f (by omega)).symm, rfl⟩ (by decide) (by decide)

set_option maxHeartbeats 4000000 in
set_option maxRecDepth 100000 in
theorem k_X2_currentOwner {l : Launch} {g : zG} {b c : Nat → Nat} {I P : Nat → Int} {Q T : Nat → Int → Int} {pre post : va_W} (hst : l.stackTraces = false) (h8 : -1 ≤ P 8 ∧ P 8 < 60) : zM l g yX2_currentOwner cX2_currentOwner 1 (Option.some FieldType.int) ({ frames := 1, cells := 0, slots := 0, locals := 21 } : Room) [.ref (c 0)] (sW g b I Q pre c P T post) (zI fun v w => v = rAt 60 (T 5) (P 8) ∧ w = sW g b I Q pre c P T post) zN 0 0 := by
  refine zM_of (lv0 := [(0, _)]) hst rfl (by decide +kernel) (Nat.le_of_ble_eq_true rfl) rfl (fun x hx hf hn => ?_)
  refine zz_aload_n hx dX2_currentOwner_0 rfl ?_
  refine zs_g5 hx lf_X2_14 dX2_currentOwner_1 ?_
  refine zz_aload_n hx dX2_currentOwner_4 rfl ?_
  refine zs_g8 hx lf_X2_26 dX2_currentOwner_5 ?_
  refine zs_at5 hx hst lk_X2_46 (by decide) (by decide) (by omega) (Nat.le_of_ble_eq_true rfl) dX2_currentOwner_8 ?_
  exact zz_iret hx hf dX2_currentOwner_11 ⟨_, rfl, rfl, rfl⟩ (by decide) (by decide)

set_option maxHeartbeats 4000000 in
set_option maxRecDepth 100000 in
theorem k_X2_link {l : Launch} {g : zG} {b c : Nat → Nat} {I P : Nat → Int} {Q T : Nat → Int → Int} {pre post : va_W} (hst : l.stackTraces = false) (f k : Int) (hf0 : 0 ≤ f ∧ f < 60) (hk0 : 0 ≤ k ∧ k < 60) : zM l g yX2_link cX2_link 3 (Option.none : Option FieldType) ({ frames := 1, cells := 0, slots := 0, locals := 22 } : Room) [.ref (c 0), vi f, vi k] (sW g b I Q pre c P T post) (zV fun w => w = sW g b I Q pre c P (Gset (Gset T 6 (zup (T 6) f k)) 7 (zup (T 7) k f)) post) zN 0 0 := by
  refine zM_of (lv0 := [(0, _), (1, _), (2, _)]) hst rfl (by decide +kernel) (Nat.le_of_ble_eq_true rfl) rfl (fun x hx hf hn => ?_)
  refine zz_aload_n hx dX2_link_0 rfl ?_
  refine zs_g6 hx lf_X2_20 dX2_link_1 ?_
  refine zz_iload_n hx dX2_link_4 rfl ?_
  refine zz_iload_n hx dX2_link_5 rfl ?_
  refine zs_put6 hx hst lk_X2_50 (by decide) (by decide) (by omega) (Nat.le_of_ble_eq_true rfl) dX2_link_6 ?_
  rw [rUp_in (by omega) (by omega)]
  refine zz_aload_n hx dX2_link_9 rfl ?_
  refine zs_g7 hx lf_X2_23 dX2_link_10 ?_
  refine zz_iload_n hx dX2_link_13 rfl ?_
  refine zz_iload_n hx dX2_link_14 rfl ?_
  refine zs_put7 hx hst lk_X2_50 (by decide) (by decide) (by omega) (Nat.le_of_ble_eq_true rfl) dX2_link_15 ?_
  rw [rUp_in (by omega) (by omega)]
  exact zz_vret hx hf dX2_link_18 ⟨rfl, by simp [Gset]⟩ (by decide) (by decide)
