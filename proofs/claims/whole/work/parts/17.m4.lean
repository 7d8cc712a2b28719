set_option maxHeartbeats 4000000 in
set_option maxRecDepth 100000 in
theorem c_membersOf {l : Launch} {g : zG} {a : Nat → Nat} {F : Nat → Int} {G : Nat → Int → Int} {rest : va_W} (hst : l.stackTraces = false) {Rw : Int → List Int} (h : mS F G Rw) (s q : Int) (s0 : 0 ≤ s) (s1 : s < F 0) (hq : -1 ≤ q ∧ q < 60) : zM l g yX4_membersOf cX4_membersOf 5 (Option.some FieldType.int) ({ frames := 1, cells := 0, slots := 0, locals := 22 } : Room) [.ref (a 0), vi s, vi q] (mW g a F G rest) (zI fun v w => v = ((zmem G s q (Rw s)).length : Int) ∧ w = mW g a F G rest) zN 0 0 := by
  have hF0 := h.1
  have hF6 := h.2.1
  have hlen := mS_len h s0 (by omega)
  have hrow := h.2.2.2.2.2 s s0 (by omega)
  refine zM_of (lv0 := [(0, _), (1, _), (2, _)]) hst rfl (by decide +kernel) (Nat.le_of_ble_eq_true rfl) rfl (fun x hx hf hn => ?_)
  have loop : ∀ (m : Nat) (k : Int), 0 ≤ k → k ≤ G 12 s → (G 12 s - k).toNat < m → Z l g ({ frames := 1, cells := 0, slots := 0, locals := 22 } : Room) 5 x 0 0 (mW g a F G rest) 5 [(0, .ref (a 0)), (1, vi s), (2, vi q), (3, vi ((((Rw s).take k.toNat).filter (fun r => decide (G 11 (60 * s + r) = q))).length : Int)), (4, vi k)] [] := by
    intro m
    induction m with
    | zero => intro k h0 h1 hm; omega
    | succ m ih =>
      intro k h0 h1 hm
      have hts := fun (z : k < G 12 s) => take_step (l := Rw s) h0 (by omega) (fun r => decide (G 11 (60 * s + r) = q))
      refine zz_iload hx dX4_membersOf_5 rfl ?_
      refine zz_aload_n hx dX4_membersOf_7 rfl ?_
      refine zm_g12 hx lf_X4_38 dX4_membersOf_8 ?_
      refine zz_iload_n hx dX4_membersOf_11 rfl ?_
      refine zm_l12 hx dX4_membersOf_12 (by omega) (by omega) ?_
      refine zz_icmp_ge hx 51 dX4_membersOf_13 rfl (by omega) (by omega) (fun c13 => ?_) (fun c13 => ?_)
      · refine zz_iload_n hx dX4_membersOf_51 rfl ?_
        exact zz_iret hx hf dX4_membersOf_52 ⟨_, rfl, by rw [take_all (by omega)]; rfl, rfl⟩ (by decide) (by decide)
      · have hk := mS_at h s0 (by omega) h0 (show k < G 12 s by omega)
        have hok := h.2.2.2.2.1 s (zat (Rw s) k) (by omega) (by omega) (by omega) (by omega)
        refine zz_iload_n hx dX4_membersOf_16 rfl ?_
        refine zz_aload_n hx dX4_membersOf_17 rfl ?_
        refine zz_iload_n hx dX4_membersOf_18 rfl ?_
        refine zz_aload_n hx dX4_membersOf_19 rfl ?_
        refine zm_g13 hx lf_X4_41 dX4_membersOf_20 ?_
        refine zz_bipush hx dX4_membersOf_23 rfl ?_
        refine zz_iload_n hx dX4_membersOf_25 rfl ?_
        refine zz_imul hx dX4_membersOf_26 ?_
        refine zz_iload hx dX4_membersOf_27 rfl ?_
        refine zz_iadd hx dX4_membersOf_29 ?_
        refine zm_l13 hx dX4_membersOf_30 (by omega) (by omega) ?_
        rw [hk.1]
        refine zz_callVi hx me_X4_ownerIn lk_X4_78 (c_ownerIn hst _ _ (by omega) (by omega) (by omega) (by omega)) 0 rfl rfl ⟨rfl, rfl⟩ (by decide) (by decide) rfl rfl (Nat.le_of_ble_eq_true rfl) dX4_membersOf_31 (fun _ _ h => h.elim) (fun r31 w31 hp31 => ?_)
        obtain ⟨rfl, rfl⟩ := hp31
        refine zz_iload_n hx dX4_membersOf_34 rfl ?_
        refine zz_icmp_ne hx 42 dX4_membersOf_35 rfl (by omega) (by omega) (fun c35 => ?_) (fun c35 => ?_)
        · refine zz_iconst hx dX4_membersOf_42 ?_
          refine zz_iadd hx dX4_membersOf_43 ?_
          refine zz_istore_n (lv' := [(0, _), (1, _), (2, _), (3, _), (4, _)]) hx dX4_membersOf_44 (by decide) rfl ?_
          refine zz_iinc (lv' := [(0, _), (1, _), (2, _), (3, _), (4, _)]) hx dX4_membersOf_45 (by decide) rfl rfl ?_
          refine zz_goto hx 5 dX4_membersOf_48 rfl ?_
          have hn := hts (by omega)
          first | rw [if_pos (by rw [decide_eq_true_eq]; omega)] at hn | rw [if_neg (by rw [decide_eq_true_eq]; omega)] at hn
          have hn2 := congrArg (fun (z : List Int) => (z.length : Int)) hn
          simp only [List.length_append, List.length_singleton, List.length_nil] at hn2
          refine zz_sub (lv' := [(0, .ref (a 0)), (1, vi s), (2, vi q), (3, _), (4, vi (k + 1))]) ?_ (ih (k + 1) (by omega) (by omega) (by omega))
          rw [hn2]
          exact fun z hz => hz
        · refine zz_iconst hx dX4_membersOf_38 ?_
          refine zz_goto hx 43 dX4_membersOf_39 rfl ?_
          refine zz_iadd hx dX4_membersOf_43 ?_
          refine zz_istore_n (lv' := [(0, _), (1, _), (2, _), (3, _), (4, _)]) hx dX4_membersOf_44 (by decide) rfl ?_
          refine zz_iinc (lv' := [(0, _), (1, _), (2, _), (3, _), (4, _)]) hx dX4_membersOf_45 (by decide) rfl rfl ?_
          refine zz_goto hx 5 dX4_membersOf_48 rfl ?_
          have hn := hts (by omega)
          first | rw [if_pos (by rw [decide_eq_true_eq]; omega)] at hn | rw [if_neg (by rw [decide_eq_true_eq]; omega)] at hn
          have hn2 := congrArg (fun (z : List Int) => (z.length : Int)) hn
          simp only [List.length_append, List.length_singleton, List.length_nil] at hn2
          refine zz_sub (lv' := [(0, .ref (a 0)), (1, vi s), (2, vi q), (3, _), (4, vi (k + 1))]) ?_ (ih (k + 1) (by omega) (by omega) (by omega))
          rw [hn2]
          exact fun z hz => hz
  refine zz_iconst hx dX4_membersOf_0 ?_
  refine zz_istore_n (lv' := [(0, _), (1, _), (2, _), (3, _)]) hx dX4_membersOf_1 (by decide) rfl ?_
  refine zz_iconst hx dX4_membersOf_2 ?_
  refine zz_istore (lv' := [(0, _), (1, _), (2, _), (3, _), (4, _)]) hx dX4_membersOf_3 (by decide) rfl ?_
  exact loop ((G 12 s).toNat + 1) 0 (by omega) (by omega) (by omega)

set_option maxHeartbeats 4000000 in
set_option maxRecDepth 100000 in
theorem c_memberOf {l : Launch} {g : zG} {a : Nat → Nat} {F : Nat → Int} {G : Nat → Int → Int} {rest : va_W} (hst : l.stackTraces = false) {Rw : Int → List Int} (h : mS F G Rw) (s q d : Int) (s0 : 0 ≤ s) (s1 : s < F 0) (hq : -1 ≤ q ∧ q < 60) (hd0 : -1000 ≤ d ∧ d ≤ 1000) : zM l g yX4_memberOf cX4_memberOf 8 (Option.some FieldType.int) ({ frames := 1, cells := 0, slots := 0, locals := 22 } : Room) [.ref (a 0), vi s, vi q, vi d] (mW g a F G rest) (zI fun v w => v = (if 0 ≤ d then zat (zmem G s q (Rw s)) d else -1) ∧ w = mW g a F G rest) zN 0 0 := by
  have hF0 := h.1
  have hF6 := h.2.1
  have hlen := mS_len h s0 (by omega)
  have hrow := h.2.2.2.2.2 s s0 (by omega)
  refine zM_of (lv0 := [(0, _), (1, _), (2, _), (3, _)]) hst rfl (by decide +kernel) (Nat.le_of_ble_eq_true rfl) rfl (fun x hx hf hn => ?_)
  have hfin : ∀ k : Int, 0 ≤ k → k < G 12 s → G 11 (60 * s + zat (Rw s) k) = q → zat (zmem G s q (Rw s)) ((((Rw s).take k.toNat).filter (fun r => decide (G 11 (60 * s + r) = q))).length : Int) = zat (Rw s) k := fun k k0 k1 e => filter_at k0 (by omega) (by rw [decide_eq_true_eq]; exact e)
  have fin : ∀ u v k : Int, 0 ≤ k → k ≤ G 12 s → 0 ≤ v ∧ v < 60 → v = (if 0 ≤ d then zat (zmem G s q (Rw s)) d else -1) → Z l g ({ frames := 1, cells := 0, slots := 0, locals := 22 } : Room) 8 x 0 0 (mW g a F G rest) 9 [(0, .ref (a 0)), (1, vi s), (2, vi q), (3, vi d), (4, vi u), (5, vi v), (6, vi k)] [] := by
    intro u v k h0 h1 h2 hv
    refine zz_iload hx dX4_memberOf_9 rfl ?_
    refine zz_aload_n hx dX4_memberOf_11 rfl ?_
    refine zm_g12 hx lf_X4_38 dX4_memberOf_12 ?_
    refine zz_iload_n hx dX4_memberOf_15 rfl ?_
    refine zm_l12 hx dX4_memberOf_16 (by omega) (by omega) ?_
    refine zz_icmp_ge hx 91 dX4_memberOf_17 rfl (by omega) (by omega) (fun c17 => ?_) (fun c17 => ?_)
    · refine zz_iload hx dX4_memberOf_91 rfl ?_
      exact zz_iret hx hf dX4_memberOf_93 ⟨_, rfl, hv, rfl⟩ (by decide) (by decide)
    · refine zz_iload hx dX4_memberOf_20 rfl ?_
      refine zz_iconst hx dX4_memberOf_22 ?_
      refine zz_icmp_ne hx 91 dX4_memberOf_23 rfl (by omega) (by omega) (fun c23 => ?_) (fun c23 => ?_)
      · refine zz_iload hx dX4_memberOf_91 rfl ?_
        exact zz_iret hx hf dX4_memberOf_93 ⟨_, rfl, hv, rfl⟩ (by decide) (by decide)
      · exfalso; omega
  have loop : ∀ (m : Nat) (k : Int), 0 ≤ k → k ≤ G 12 s → (0 ≤ d → ((((Rw s).take k.toNat).filter (fun r => decide (G 11 (60 * s + r) = q))).length : Int) ≤ d) → (G 12 s - k).toNat < m → Z l g ({ frames := 1, cells := 0, slots := 0, locals := 22 } : Room) 8 x 0 0 (mW g a F G rest) 9 [(0, .ref (a 0)), (1, vi s), (2, vi q), (3, vi d), (4, vi (d - ((((Rw s).take k.toNat).filter (fun r => decide (G 11 (60 * s + r) = q))).length : Int))), (5, vi (-1)), (6, vi k)] [] := by
    intro m
    induction m with
    | zero => intro k h0 h1 h2 hm; omega
    | succ m ih =>
      intro k h0 h1 h2 hm
      have hts := fun (z : k < G 12 s) => take_step (l := Rw s) h0 (by omega) (fun r => decide (G 11 (60 * s + r) = q))
      have hle : ((((Rw s).take k.toNat).filter (fun r => decide (G 11 (60 * s + r) = q))).length : Int) ≤ 60 := by
        have b1 := List.length_filter_le (fun r => decide (G 11 (60 * s + r) = q)) ((Rw s).take k.toNat)
        have b2 := List.length_take_le k.toNat (Rw s)
        omega
      refine zz_iload hx dX4_memberOf_9 rfl ?_
      refine zz_aload_n hx dX4_memberOf_11 rfl ?_
      refine zm_g12 hx lf_X4_38 dX4_memberOf_12 ?_
      refine zz_iload_n hx dX4_memberOf_15 rfl ?_
      refine zm_l12 hx dX4_memberOf_16 (by omega) (by omega) ?_
      refine zz_icmp_ge hx 91 dX4_memberOf_17 rfl (by omega) (by omega) (fun c17 => ?_) (fun c17 => ?_)
      · refine zz_iload hx dX4_memberOf_91 rfl ?_
        exact zz_iret hx hf dX4_memberOf_93 ⟨_, rfl, by rw [take_all (by omega)] at h2; rcases Int.lt_or_le d 0 with z | z; (rw [if_neg (by omega)]); (rw [if_pos z]; exact (zat_ge (h2 z)).symm), rfl⟩ (by decide) (by decide)
      · refine zz_iload hx dX4_memberOf_20 rfl ?_
        refine zz_iconst hx dX4_memberOf_22 ?_
        refine zz_icmp_ne hx 91 dX4_memberOf_23 rfl (by omega) (by omega) (fun c23 => ?_) (fun c23 => ?_)
        · exfalso; omega
        · have hk := mS_at h s0 (by omega) h0 (show k < G 12 s by omega)
          have hok := h.2.2.2.2.1 s (zat (Rw s) k) (by omega) (by omega) (by omega) (by omega)
          refine zz_aload_n hx dX4_memberOf_26 rfl ?_
          refine zm_g13 hx lf_X4_41 dX4_memberOf_27 ?_
          refine zz_bipush hx dX4_memberOf_30 rfl ?_
          refine zz_iload_n hx dX4_memberOf_32 rfl ?_
          refine zz_imul hx dX4_memberOf_33 ?_
          refine zz_iload hx dX4_memberOf_34 rfl ?_
          refine zz_iadd hx dX4_memberOf_36 ?_
          refine zm_l13 hx dX4_memberOf_37 (by omega) (by omega) ?_
          rw [hk.1]
          refine zz_istore (lv' := [(0, _), (1, _), (2, _), (3, _), (4, _), (5, _), (6, _), (7, _)]) hx dX4_memberOf_38 (by decide) rfl ?_
          refine zz_aload_n hx dX4_memberOf_40 rfl ?_
          refine zz_iload_n hx dX4_memberOf_41 rfl ?_
          refine zz_iload hx dX4_memberOf_42 rfl ?_
          refine zz_callVi hx me_X4_ownerIn lk_X4_78 (c_ownerIn hst _ _ (by omega) (by omega) (by omega) (by omega)) 0 rfl rfl ⟨rfl, rfl⟩ (by decide) (by decide) rfl rfl (Nat.le_of_ble_eq_true rfl) dX4_memberOf_44 (fun _ _ h => h.elim) (fun r44 w44 hp44 => ?_)
          obtain ⟨rfl, rfl⟩ := hp44
          refine zz_iload_n hx dX4_memberOf_47 rfl ?_
          refine zz_icmp_ne hx 61 dX4_memberOf_48 rfl (by omega) (by omega) (fun c48 => ?_) (fun c48 => ?_)
          · refine zz_iconst hx dX4_memberOf_61 ?_
            refine zz_istore (lv' := [(0, _), (1, _), (2, _), (3, _), (4, _), (5, _), (6, _), (7, _)]) hx dX4_memberOf_62 (by decide) rfl ?_
            refine zz_iload hx dX4_memberOf_64 rfl ?_
            refine zz_aload_n hx dX4_memberOf_66 rfl ?_
            refine zz_iload_n hx dX4_memberOf_67 rfl ?_
            refine zz_iload hx dX4_memberOf_68 rfl ?_
            refine zz_callVi hx me_X4_ownerIn lk_X4_78 (c_ownerIn hst _ _ (by omega) (by omega) (by omega) (by omega)) 0 rfl rfl ⟨rfl, rfl⟩ (by decide) (by decide) rfl rfl (Nat.le_of_ble_eq_true rfl) dX4_memberOf_70 (fun _ _ h => h.elim) (fun r70 w70 hp70 => ?_)
            obtain ⟨rfl, rfl⟩ := hp70
            refine zz_iload_n hx dX4_memberOf_73 rfl ?_
            refine zz_icmp_ne hx 81 dX4_memberOf_74 rfl (by omega) (by omega) (fun c74 => ?_) (fun c74 => ?_)
            · refine zz_iconst hx dX4_memberOf_81 ?_
              refine zz_isub hx dX4_memberOf_82 ?_
              refine zz_istore (lv' := [(0, _), (1, _), (2, _), (3, _), (4, _), (5, _), (6, _), (7, _)]) hx dX4_memberOf_83 (by decide) rfl ?_
              refine zz_iinc (lv' := [(0, _), (1, _), (2, _), (3, _), (4, _), (5, _), (6, _), (7, _)]) hx dX4_memberOf_85 (by decide) rfl rfl ?_
              refine zz_goto hx 9 dX4_memberOf_88 rfl ?_
              first
                | (exfalso; omega)
                | exact zz_sub (lv' := [(0, _), (1, _), (2, _), (3, _), (4, _), (5, _), (6, _)]) (fun z hz => List.mem_append_left [(7, _)] hz) (fin _ _ _ (by omega) (by omega) (by omega) (by rw [if_pos (by omega), show d = ((((Rw s).take k.toNat).filter (fun r => decide (G 11 (60 * s + r) = q))).length : Int) by omega]; exact (hfin k h0 (by omega) (by omega)).symm))
                | (have hn := hts (by omega)
                   first | rw [if_pos (by rw [decide_eq_true_eq]; omega)] at hn | rw [if_neg (by rw [decide_eq_true_eq]; omega)] at hn
                   have hn2 := congrArg (fun (z : List Int) => (z.length : Int)) hn
                   simp only [List.length_append, List.length_singleton, List.length_nil] at hn2
                   refine zz_sub (lv' := [(0, .ref (a 0)), (1, vi s), (2, vi q), (3, vi d), (4, vi (d - ((((Rw s).take (k + 1).toNat).filter (fun r => decide (G 11 (60 * s + r) = q))).length : Int))), (5, vi (-1)), (6, vi (k + 1))]) ?_ (ih (k + 1) (by omega) (by omega) (by omega) (by omega))
                   first | rw [show d - ((((Rw s).take (k + 1).toNat).filter (fun r => decide (G 11 (60 * s + r) = q))).length : Int) = d - ((((Rw s).take k.toNat).filter (fun r => decide (G 11 (60 * s + r) = q))).length : Int) - 1 by omega] | rw [show d - ((((Rw s).take (k + 1).toNat).filter (fun r => decide (G 11 (60 * s + r) = q))).length : Int) = d - ((((Rw s).take k.toNat).filter (fun r => decide (G 11 (60 * s + r) = q))).length : Int) - 0 by omega]
                   exact fun z hz => List.mem_append_left [(7, _)] hz)
            · refine zz_iconst hx dX4_memberOf_77 ?_
              refine zz_goto hx 82 dX4_memberOf_78 rfl ?_
              refine zz_isub hx dX4_memberOf_82 ?_
              refine zz_istore (lv' := [(0, _), (1, _), (2, _), (3, _), (4, _), (5, _), (6, _), (7, _)]) hx dX4_memberOf_83 (by decide) rfl ?_
              refine zz_iinc (lv' := [(0, _), (1, _), (2, _), (3, _), (4, _), (5, _), (6, _), (7, _)]) hx dX4_memberOf_85 (by decide) rfl rfl ?_
              refine zz_goto hx 9 dX4_memberOf_88 rfl ?_
              first
                | (exfalso; omega)
                | exact zz_sub (lv' := [(0, _), (1, _), (2, _), (3, _), (4, _), (5, _), (6, _)]) (fun z hz => List.mem_append_left [(7, _)] hz) (fin _ _ _ (by omega) (by omega) (by omega) (by rw [if_pos (by omega), show d = ((((Rw s).take k.toNat).filter (fun r => decide (G 11 (60 * s + r) = q))).length : Int) by omega]; exact (hfin k h0 (by omega) (by omega)).symm))
                | (have hn := hts (by omega)
                   first | rw [if_pos (by rw [decide_eq_true_eq]; omega)] at hn | rw [if_neg (by rw [decide_eq_true_eq]; omega)] at hn
                   have hn2 := congrArg (fun (z : List Int) => (z.length : Int)) hn
                   simp only [List.length_append, List.length_singleton, List.length_nil] at hn2
                   refine zz_sub (lv' := [(0, .ref (a 0)), (1, vi s), (2, vi q), (3, vi d), (4, vi (d - ((((Rw s).take (k + 1).toNat).filter (fun r => decide (G 11 (60 * s + r) = q))).length : Int))), (5, vi (-1)), (6, vi (k + 1))]) ?_ (ih (k + 1) (by omega) (by omega) (by omega) (by omega))
                   first | rw [show d - ((((Rw s).take (k + 1).toNat).filter (fun r => decide (G 11 (60 * s + r) = q))).length : Int) = d - ((((Rw s).take k.toNat).filter (fun r => decide (G 11 (60 * s + r) = q))).length : Int) - 1 by omega] | rw [show d - ((((Rw s).take (k + 1).toNat).filter (fun r => decide (G 11 (60 * s + r) = q))).length : Int) = d - ((((Rw s).take k.toNat).filter (fun r => decide (G 11 (60 * s + r) = q))).length : Int) - 0 by omega]
                   exact fun z hz => List.mem_append_left [(7, _)] hz)
          · refine zz_iload hx dX4_memberOf_51 rfl ?_
            refine zz_if_ne hx 61 dX4_memberOf_53 rfl (by omega) (fun c53 => ?_) (fun c53 => ?_)
            · refine zz_iconst hx dX4_memberOf_61 ?_
              refine zz_istore (lv' := [(0, _), (1, _), (2, _), (3, _), (4, _), (5, _), (6, _), (7, _)]) hx dX4_memberOf_62 (by decide) rfl ?_
              refine zz_iload hx dX4_memberOf_64 rfl ?_
              refine zz_aload_n hx dX4_memberOf_66 rfl ?_
              refine zz_iload_n hx dX4_memberOf_67 rfl ?_
              refine zz_iload hx dX4_memberOf_68 rfl ?_
              refine zz_callVi hx me_X4_ownerIn lk_X4_78 (c_ownerIn hst _ _ (by omega) (by omega) (by omega) (by omega)) 0 rfl rfl ⟨rfl, rfl⟩ (by decide) (by decide) rfl rfl (Nat.le_of_ble_eq_true rfl) dX4_memberOf_70 (fun _ _ h => h.elim) (fun r70 w70 hp70 => ?_)
              obtain ⟨rfl, rfl⟩ := hp70
              refine zz_iload_n hx dX4_memberOf_73 rfl ?_
              refine zz_icmp_ne hx 81 dX4_memberOf_74 rfl (by omega) (by omega) (fun c74 => ?_) (fun c74 => ?_)
              · refine zz_iconst hx dX4_memberOf_81 ?_
                refine zz_isub hx dX4_memberOf_82 ?_
                refine zz_istore (lv' := [(0, _), (1, _), (2, _), (3, _), (4, _), (5, _), (6, _), (7, _)]) hx dX4_memberOf_83 (by decide) rfl ?_
                refine zz_iinc (lv' := [(0, _), (1, _), (2, _), (3, _), (4, _), (5, _), (6, _), (7, _)]) hx dX4_memberOf_85 (by decide) rfl rfl ?_
                refine zz_goto hx 9 dX4_memberOf_88 rfl ?_
                first
                  | (exfalso; omega)
                  | exact zz_sub (lv' := [(0, _), (1, _), (2, _), (3, _), (4, _), (5, _), (6, _)]) (fun z hz => List.mem_append_left [(7, _)] hz) (fin _ _ _ (by omega) (by omega) (by omega) (by rw [if_pos (by omega), show d = ((((Rw s).take k.toNat).filter (fun r => decide (G 11 (60 * s + r) = q))).length : Int) by omega]; exact (hfin k h0 (by omega) (by omega)).symm))
                  | (have hn := hts (by omega)
                     first | rw [if_pos (by rw [decide_eq_true_eq]; omega)] at hn | rw [if_neg (by rw [decide_eq_true_eq]; omega)] at hn
                     have hn2 := congrArg (fun (z : List Int) => (z.length : Int)) hn
                     simp only [List.length_append, List.length_singleton, List.length_nil] at hn2
                     refine zz_sub (lv' := [(0, .ref (a 0)), (1, vi s), (2, vi q), (3, vi d), (4, vi (d - ((((Rw s).take (k + 1).toNat).filter (fun r => decide (G 11 (60 * s + r) = q))).length : Int))), (5, vi (-1)), (6, vi (k + 1))]) ?_ (ih (k + 1) (by omega) (by omega) (by omega) (by omega))
                     first | rw [show d - ((((Rw s).take (k + 1).toNat).filter (fun r => decide (G 11 (60 * s + r) = q))).length : Int) = d - ((((Rw s).take k.toNat).filter (fun r => decide (G 11 (60 * s + r) = q))).length : Int) - 1 by omega] | rw [show d - ((((Rw s).take (k + 1).toNat).filter (fun r => decide (G 11 (60 * s + r) = q))).length : Int) = d - ((((Rw s).take k.toNat).filter (fun r => decide (G 11 (60 * s + r) = q))).length : Int) - 0 by omega]
                     exact fun z hz => List.mem_append_left [(7, _)] hz)
              · refine zz_iconst hx dX4_memberOf_77 ?_
                refine zz_goto hx 82 dX4_memberOf_78 rfl ?_
                refine zz_isub hx dX4_memberOf_82 ?_
                refine zz_istore (lv' := [(0, _), (1, _), (2, _), (3, _), (4, _), (5, _), (6, _), (7, _)]) hx dX4_memberOf_83 (by decide) rfl ?_
                refine zz_iinc (lv' := [(0, _), (1, _), (2, _), (3, _), (4, _), (5, _), (6, _), (7, _)]) hx dX4_memberOf_85 (by decide) rfl rfl ?_
                refine zz_goto hx 9 dX4_memberOf_88 rfl ?_
                first
                  | (exfalso; omega)
                  | exact zz_sub (lv' := [(0, _), (1, _), (2, _), (3, _), (4, _), (5, _), (6, _)]) (fun z hz => List.mem_append_left [(7, _)] hz) (fin _ _ _ (by omega) (by omega) (by omega) (by rw [if_pos (by omega), show d = ((((Rw s).take k.toNat).filter (fun r => decide (G 11 (60 * s + r) = q))).length : Int) by omega]; exact (hfin k h0 (by omega) (by omega)).symm))
                  | (have hn := hts (by omega)
                     first | rw [if_pos (by rw [decide_eq_true_eq]; omega)] at hn | rw [if_neg (by rw [decide_eq_true_eq]; omega)] at hn
                     have hn2 := congrArg (fun (z : List Int) => (z.length : Int)) hn
                     simp only [List.length_append, List.length_singleton, List.length_nil] at hn2
                     refine zz_sub (lv' := [(0, .ref (a 0)), (1, vi s), (2, vi q), (3, vi d), (4, vi (d - ((((Rw s).take (k + 1).toNat).filter (fun r => decide (G 11 (60 * s + r) = q))).length : Int))), (5, vi (-1)), (6, vi (k + 1))]) ?_ (ih (k + 1) (by omega) (by omega) (by omega) (by omega))
                     first | rw [show d - ((((Rw s).take (k + 1).toNat).filter (fun r => decide (G 11 (60 * s + r) = q))).length : Int) = d - ((((Rw s).take k.toNat).filter (fun r => decide (G 11 (60 * s + r) = q))).length : Int) - 1 by omega] | rw [show d - ((((Rw s).take (k + 1).toNat).filter (fun r => decide (G 11 (60 * s + r) = q))).length : Int) = d - ((((Rw s).take k.toNat).filter (fun r => decide (G 11 (60 * s + r) = q))).length : Int) - 0 by omega]
                     exact fun z hz => List.mem_append_left [(7, _)] hz)
            · refine zz_iload hx dX4_memberOf_56 rfl ?_
              refine zz_goto hx 62 dX4_memberOf_58 rfl ?_
              refine zz_istore (lv' := [(0, _), (1, _), (2, _), (3, _), (4, _), (5, _), (6, _), (7, _)]) hx dX4_memberOf_62 (by decide) rfl ?_
              refine zz_iload hx dX4_memberOf_64 rfl ?_
              refine zz_aload_n hx dX4_memberOf_66 rfl ?_
              refine zz_iload_n hx dX4_memberOf_67 rfl ?_
              refine zz_iload hx dX4_memberOf_68 rfl ?_
              refine zz_callVi hx me_X4_ownerIn lk_X4_78 (c_ownerIn hst _ _ (by omega) (by omega) (by omega) (by omega)) 0 rfl rfl ⟨rfl, rfl⟩ (by decide) (by decide) rfl rfl (Nat.le_of_ble_eq_true rfl) dX4_memberOf_70 (fun _ _ h => h.elim) (fun r70 w70 hp70 => ?_)
              obtain ⟨rfl, rfl⟩ := hp70
              refine zz_iload_n hx dX4_memberOf_73 rfl ?_
              refine zz_icmp_ne hx 81 dX4_memberOf_74 rfl (by omega) (by omega) (fun c74 => ?_) (fun c74 => ?_)
              · refine zz_iconst hx dX4_memberOf_81 ?_
                refine zz_isub hx dX4_memberOf_82 ?_
                refine zz_istore (lv' := [(0, _), (1, _), (2, _), (3, _), (4, _), (5, _), (6, _), (7, _)]) hx dX4_memberOf_83 (by decide) rfl ?_
                refine zz_iinc (lv' := [(0, _), (1, _), (2, _), (3, _), (4, _), (5, _), (6, _), (7, _)]) hx dX4_memberOf_85 (by decide) rfl rfl ?_
                refine zz_goto hx 9 dX4_memberOf_88 rfl ?_
                first
                  | (exfalso; omega)
                  | exact zz_sub (lv' := [(0, _), (1, _), (2, _), (3, _), (4, _), (5, _), (6, _)]) (fun z hz => List.mem_append_left [(7, _)] hz) (fin _ _ _ (by omega) (by omega) (by omega) (by rw [if_pos (by omega), show d = ((((Rw s).take k.toNat).filter (fun r => decide (G 11 (60 * s + r) = q))).length : Int) by omega]; exact (hfin k h0 (by omega) (by omega)).symm))
                  | (have hn := hts (by omega)
                     first | rw [if_pos (by rw [decide_eq_true_eq]; omega)] at hn | rw [if_neg (by rw [decide_eq_true_eq]; omega)] at hn
                     have hn2 := congrArg (fun (z : List Int) => (z.length : Int)) hn
                     simp only [List.length_append, List.length_singleton, List.length_nil] at hn2
                     refine zz_sub (lv' := [(0, .ref (a 0)), (1, vi s), (2, vi q), (3, vi d), (4, vi (d - ((((Rw s).take (k + 1).toNat).filter (fun r => decide (G 11 (60 * s + r) = q))).length : Int))), (5, vi (-1)), (6, vi (k + 1))]) ?_ (ih (k + 1) (by omega) (by omega) (by omega) (by omega))
                     first | rw [show d - ((((Rw s).take (k + 1).toNat).filter (fun r => decide (G 11 (60 * s + r) = q))).length : Int) = d - ((((Rw s).take k.toNat).filter (fun r => decide (G 11 (60 * s + r) = q))).length : Int) - 1 by omega] | rw [show d - ((((Rw s).take (k + 1).toNat).filter (fun r => decide (G 11 (60 * s + r) = q))).length : Int) = d - ((((Rw s).take k.toNat).filter (fun r => decide (G 11 (60 * s + r) = q))).length : Int) - 0 by omega]
                     exact fun z hz => List.mem_append_left [(7, _)] hz)
              · refine zz_iconst hx dX4_memberOf_77 ?_
                refine zz_goto hx 82 dX4_memberOf_78 rfl ?_
                refine zz_isub hx dX4_memberOf_82 ?_
                refine zz_istore (lv' := [(0, _), (1, _), (2, _), (3, _), (4, _), (5, _), (6, _), (7, _)]) hx dX4_memberOf_83 (by decide) rfl ?_
                refine zz_iinc (lv' := [(0, _), (1, _), (2, _), (3, _), (4, _), (5, _), (6, _), (7, _)]) hx dX4_memberOf_85 (by decide) rfl rfl ?_
                refine zz_goto hx 9 dX4_memberOf_88 rfl ?_
                first
                  | (exfalso; omega)
                  | exact zz_sub (lv' := [(0, _), (1, _), (2, _), (3, _), (4, _), (5, _), (6, _)]) (fun z hz => List.mem_append_left [(7, _)] hz) (fin _ _ _ (by omega) (by omega) (by omega) (by rw [if_pos (by omega), show d = ((((Rw s).take k.toNat).filter (fun r => decide (G 11 (60 * s + r) = q))).length : Int) by omega]; exact (hfin k h0 (by omega) (by omega)).symm))
                  | (have hn := hts (by omega)
                     first | rw [if_pos (by rw [decide_eq_true_eq]; omega)] at hn | rw [if_neg (by rw [decide_eq_true_eq]; omega)] at hn
                     have hn2 := congrArg (fun (z : List Int) => (z.length : Int)) hn
                     simp only [List.length_append, List.length_singleton, List.length_nil] at hn2
                     refine zz_sub (lv' := [(0, .ref (a 0)), (1, vi s), (2, vi q), (3, vi d), (4, vi (d - ((((Rw s).take (k + 1).toNat).filter (fun r => decide (G 11 (60 * s + r) = q))).length : Int))), (5, vi (-1)), (6, vi (k + 1))]) ?_ (ih (k + 1) (by omega) (by omega) (by omega) (by omega))
                     first | rw [show d - ((((Rw s).take (k + 1).toNat).filter (fun r => decide (G 11 (60 * s + r) = q))).length : Int) = d - ((((Rw s).take k.toNat).filter (fun r => decide (G 11 (60 * s + r) = q))).length : Int) - 1 by omega] | rw [show d - ((((Rw s).take (k + 1).toNat).filter (fun r => decide (G 11 (60 * s + r) = q))).length : Int) = d - ((((Rw s).take k.toNat).filter (fun r => decide (G 11 (60 * s + r) = q))).length : Int) - 0 by omega]
                     exact fun z hz => List.mem_append_left [(7, _)] hz)
  refine zz_iload_n hx dX4_memberOf_0 rfl ?_
  refine zz_istore (lv' := [(0, _), (1, _), (2, _), (3, _), (4, _)]) hx dX4_memberOf_1 (by decide) rfl ?_
  refine zz_iconst hx dX4_memberOf_3 ?_
  refine zz_istore (lv' := [(0, _), (1, _), (2, _), (3, _), (4, _), (5, _)]) hx dX4_memberOf_4 (by decide) rfl ?_
  refine zz_iconst hx dX4_memberOf_6 ?_
  refine zz_istore (lv' := [(0, _), (1, _), (2, _), (3, _), (4, _), (5, _), (6, _)]) hx dX4_memberOf_7 (by decide) rfl ?_
  refine zz_sub (lv' := [(0, .ref (a 0)), (1, vi s), (2, vi q), (3, vi d), (4, vi (d - ((((Rw s).take (0 : Int).toNat).filter (fun r => decide (G 11 (60 * s + r) = q))).length : Int))), (5, vi (-1)), (6, vi 0)]) ?_ (loop ((G 12 s).toNat + 1) 0 (by omega) (by omega) (fun z => by simpa using z) (by omega))
  rw [show d - ((((Rw s).take (0 : Int).toNat).filter (fun r => decide (G 11 (60 * s + r) = q))).length : Int) = d by simp]
  exact fun z hz => hz

set_option maxHeartbeats 4000000 in
set_option maxRecDepth 100000 in
theorem c_becomes {l : Launch} {g : zG} {a : Nat → Nat} {F : Nat → Int} {G : Nat → Int → Int} {rest : va_W} (hst : l.stackTraces = false) {Rw : Int → List Int} (h : mS F G Rw) (r : Int) (hr : r = -1 ∨ 0 ≤ r ∧ r < F 6) : zM l g yX4_becomes cX4_becomes 3 (Option.some FieldType.int) ({ frames := 1, cells := 0, slots := 0, locals := 22 } : Room) [.ref (a 0), vi r] (mW g a F G rest) (zI fun v w => v = r ∧ w = mW g a (becF F r) (becG F G r) rest) zN 0 0 := by
  have hF0 := h.1
  have hF6 := h.2.1
  refine zM_of (lv0 := [(0, _), (1, _)]) hst rfl (by decide +kernel) (Nat.le_of_ble_eq_true rfl) rfl (fun x hx hf hn => ?_)
  have loop : ∀ (m : Nat) (k : Int) (f : Int → Int), 0 ≤ r → r < F 6 → 0 ≤ k → k ≤ F 0 → (∀ s : Int, f s = if 0 ≤ s ∧ s < k ∧ (G 9 r = G 1 s ∨ G 11 (60 * s + r) ≠ -1) then r else G 16 s) → (F 0 - k).toNat < m → Z l g ({ frames := 1, cells := 0, slots := 0, locals := 22 } : Room) 3 x 0 0 (mW g a (Fup F 14 r) (Gset (Gup G 15 (G 9 r) r) 16 f) rest) 24 [(0, .ref (a 0)), (1, vi r), (2, vi k)] [] := by
    intro m
    induction m with
    | zero => intro k f r0 r1 h0 h1 h2 hm; omega
    | succ m ih =>
      intro k f r0 r1 h0 h1 h2 hm
      have hvr := h.2.2.2.1 r r0 r1
      have hG9 : Gset (Gup G 15 (G 9 r) r) 16 f 9 = G 9 := by simp [Gset, Gup]
      have hG1 : Gset (Gup G 15 (G 9 r) r) 16 f 1 = G 1 := by simp [Gset, Gup]
      have hG11 : Gset (Gup G 15 (G 9 r) r) 16 f 11 = G 11 := by simp [Gset, Gup]
      have hF : Fup F 14 r 0 = F 0 := by simp [Fup]
      refine zz_iload_n hx dX4_becomes_24 rfl ?_
      refine zz_aload_n hx dX4_becomes_25 rfl ?_
      refine zm_g0 hx lf_X4_60 dX4_becomes_26 ?_
      rw [hF]
      refine zz_icmp_ge hx 79 dX4_becomes_29 rfl (by omega) (by omega) (fun c29 => ?_) (fun c29 => ?_)
      · refine zz_iload_n hx dX4_becomes_79 rfl ?_
        exact zz_iret hx hf dX4_becomes_80 ⟨_, rfl, rfl, by rw [becF, becG, if_neg (by omega), if_neg (by omega), show f = fun s => if 0 ≤ s ∧ s < F 0 ∧ (G 9 r = G 1 s ∨ G 11 (60 * s + r) ≠ -1) then r else G 16 s from funext fun s => by rw [h2 s, show k = F 0 by omega]]⟩ (by decide) (by decide)
      · refine zz_aload_n hx dX4_becomes_32 rfl ?_
        refine zm_g16 hx lf_X4_47 dX4_becomes_33 ?_
        refine zz_iload_n hx dX4_becomes_36 rfl ?_
        refine zz_aload_n hx dX4_becomes_37 rfl ?_
        refine zm_g9 hx lf_X4_29 dX4_becomes_38 ?_
        refine zz_iload_n hx dX4_becomes_41 rfl ?_
        refine zm_l9 hx dX4_becomes_42 (by omega) (by omega) ?_
        refine zz_aload_n hx dX4_becomes_43 rfl ?_
        refine zm_g1 hx lf_X4_7 dX4_becomes_44 ?_
        refine zz_iload_n hx dX4_becomes_47 rfl ?_
        refine zm_l1 hx dX4_becomes_48 (by omega) (by omega) ?_
        have hdk := h.2.2.1 k h0 (by omega)
        have hok := h.2.2.2.2.1 k r h0 (by omega) (by omega) (by omega)
        rw [hG9, hG1]
        refine zz_icmp_eq hx 62 dX4_becomes_49 rfl (by omega) (by omega) (fun c49 => ?_) (fun c49 => ?_)
        · refine zz_iload_n hx dX4_becomes_62 rfl ?_
          refine zz_goto hx 72 dX4_becomes_63 rfl ?_
          try rw [Gset_s]
          refine zm_s16 hx dX4_becomes_72 (by omega) (by omega) ?_
          refine zz_iinc (lv' := [(0, _), (1, _), (2, _)]) hx dX4_becomes_73 (by decide) rfl rfl ?_
          refine zz_goto hx 24 dX4_becomes_76 rfl ?_
          rw [Gup_eq, Gset_Gset, Gset_s]
          refine ih (k + 1) _ r0 r1 (by omega) (by omega) (fun j => ?_) (by omega)
          by_cases cj : j = k
          · subst cj
            rw [zup_s]
            first
              | (rw [if_pos ⟨h0, by omega, by omega⟩]; done)
              | (rw [if_neg (by omega), h2, if_neg (by omega)]; done)
          · rw [zup_n _ _ cj, h2]
            by_cases c2 : 0 ≤ j ∧ j < k ∧ (G 9 r = G 1 j ∨ G 11 (60 * j + r) ≠ -1)
            · rw [if_pos c2, if_pos (by omega)]
            · rw [if_neg c2, if_neg (by omega)]
        · refine zz_aload_n hx dX4_becomes_52 rfl ?_
          refine zz_iload_n hx dX4_becomes_53 rfl ?_
          refine zz_iload_n hx dX4_becomes_54 rfl ?_
          refine zz_callVi hx me_X4_ownerIn lk_X4_78 (c_ownerIn hst _ _ (by omega) (by omega) (by omega) (by omega)) 0 rfl rfl ⟨rfl, rfl⟩ (by decide) (by decide) rfl rfl (Nat.le_of_ble_eq_true rfl) dX4_becomes_55 (fun _ _ h => h.elim) (fun r55 w55 hp55 => ?_)
          obtain ⟨rfl, rfl⟩ := hp55
          refine zz_iconst hx dX4_becomes_58 ?_
          rw [hG11]
          refine zz_icmp_eq hx 66 dX4_becomes_59 rfl (by omega) (by omega) (fun c59 => ?_) (fun c59 => ?_)
          · refine zz_aload_n hx dX4_becomes_66 rfl ?_
            refine zm_g16 hx lf_X4_47 dX4_becomes_67 ?_
            refine zz_iload_n hx dX4_becomes_70 rfl ?_
            refine zm_l16 hx dX4_becomes_71 (by omega) (by omega) ?_
            try rw [Gset_s]
            refine zm_s16 hx dX4_becomes_72 (by omega) (by omega) ?_
            refine zz_iinc (lv' := [(0, _), (1, _), (2, _)]) hx dX4_becomes_73 (by decide) rfl rfl ?_
            refine zz_goto hx 24 dX4_becomes_76 rfl ?_
            rw [Gup_eq, Gset_Gset, Gset_s]
            refine ih (k + 1) _ r0 r1 (by omega) (by omega) (fun j => ?_) (by omega)
            by_cases cj : j = k
            · subst cj
              rw [zup_s]
              first
                | (rw [if_pos ⟨h0, by omega, by omega⟩]; done)
                | (rw [if_neg (by omega), h2, if_neg (by omega)]; done)
            · rw [zup_n _ _ cj, h2]
              by_cases c2 : 0 ≤ j ∧ j < k ∧ (G 9 r = G 1 j ∨ G 11 (60 * j + r) ≠ -1)
              · rw [if_pos c2, if_pos (by omega)]
              · rw [if_neg c2, if_neg (by omega)]
          · refine zz_iload_n hx dX4_becomes_62 rfl ?_
            refine zz_goto hx 72 dX4_becomes_63 rfl ?_
            try rw [Gset_s]
            refine zm_s16 hx dX4_becomes_72 (by omega) (by omega) ?_
            refine zz_iinc (lv' := [(0, _), (1, _), (2, _)]) hx dX4_becomes_73 (by decide) rfl rfl ?_
            refine zz_goto hx 24 dX4_becomes_76 rfl ?_
            rw [Gup_eq, Gset_Gset, Gset_s]
            refine ih (k + 1) _ r0 r1 (by omega) (by omega) (fun j => ?_) (by omega)
            by_cases cj : j = k
            · subst cj
              rw [zup_s]
              first
                | (rw [if_pos ⟨h0, by omega, by omega⟩]; done)
                | (rw [if_neg (by omega), h2, if_neg (by omega)]; done)
            · rw [zup_n _ _ cj, h2]
              by_cases c2 : 0 ≤ j ∧ j < k ∧ (G 9 r = G 1 j ∨ G 11 (60 * j + r) ≠ -1)
              · rw [if_pos c2, if_pos (by omega)]
              · rw [if_neg c2, if_neg (by omega)]
  refine zz_iload_n hx dX4_becomes_0 rfl ?_
  refine zz_iconst hx dX4_becomes_1 ?_
  refine zz_icmp_eq hx 79 dX4_becomes_2 rfl (by omega) (by omega) (fun c2 => ?_) (fun c2 => ?_)
  · refine zz_iload_n hx dX4_becomes_79 rfl ?_
    exact zz_iret hx hf dX4_becomes_80 ⟨_, rfl, rfl, by rw [becF, becG, if_pos c2, if_pos c2]⟩ (by decide) (by decide)
  · refine zz_aload_n hx dX4_becomes_5 rfl ?_
    refine zz_iload_n hx dX4_becomes_6 rfl ?_
    refine zm_p14 hx lf_X4_53 dX4_becomes_7 ?_
    refine zz_aload_n hx dX4_becomes_10 rfl ?_
    refine zm_g15 hx lf_X4_44 dX4_becomes_11 ?_
    refine zz_aload_n hx dX4_becomes_14 rfl ?_
    refine zm_g9 hx lf_X4_29 dX4_becomes_15 ?_
    refine zz_iload_n hx dX4_becomes_18 rfl ?_
    refine zm_l9 hx dX4_becomes_19 (by omega) (by omega) ?_
    refine zz_iload_n hx dX4_becomes_20 rfl ?_
    have hvr := h.2.2.2.1 r (by omega) (by omega)
    refine zm_s15 hx dX4_becomes_21 (by omega) (by omega) ?_
    refine zz_iconst hx dX4_becomes_22 ?_
    refine zz_istore_n (lv' := [(0, _), (1, _), (2, _)]) hx dX4_becomes_23 (by decide) rfl ?_
    rw [← Gset_id (Gup G 15 (G 9 r) r) 16]
    exact loop ((F 0).toNat + 1) 0 _ (by omega) (by omega) (by omega) (by omega) (fun s => by rw [if_neg (by omega)]; simp [Gup]) (by omega)
