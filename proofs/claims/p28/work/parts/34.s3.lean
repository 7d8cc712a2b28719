set_option maxHeartbeats 4000000 in
set_option maxRecDepth 100000 in
theorem k_X2_frontBySorting {l : Launch} {g : zG} {b c : Nat → Nat} {I P : Nat → Int} {Q T : Nat → Int → Int} {pre post : va_W} (hst : l.stackTraces = false) {ow : Int → Int} {isO : Int → Prop} {L : List Int} (hrr : rR T) (hk : rOK T ow isO L) (hv1 : ∀ u : Int, u ∈ L → -1000 ≤ Q 1 u ∧ Q 1 u ≤ 1000) (q z : Int) (hqo : isO q) (hz : -1000 ≤ z ∧ z ≤ 1000) : zM l g yX2_frontBySorting cX2_frontBySorting 7 (Option.some FieldType.int) ({ frames := 1, cells := 0, slots := 0, locals := 21 } : Room) [.ref (c 0), vi q, vi z, .ref (b 4)] (sW g b I Q pre c P T post) (zI fun v w => w = sW g b I Q pre c P T post ∧ ∃ j : Int, (0 ≤ j ∧ j ≤ ((mOf ow q L).length : Int)) ∧ (∀ i : Int, 0 ≤ i → i < j → ¬ z < Q 1 (zat (mOf ow q L) i)) ∧ (j < ((mOf ow q L).length : Int) → z < Q 1 (zat (mOf ow q L) j)) ∧ v = (sq q (mOf ow q L) (j - 1))) zN 0 0 := by
  have hq := hk.1.1 q hqo
  have hmf := mOf_facts hk.1 hqo
  have hln := hk.2.2 q hqo
  have hsr := sq_rng hk.1 hqo
  refine zM_of (lv0 := [(0, _), (1, _), (2, _), (3, _)]) hst rfl (by decide +kernel) (Nat.le_of_ble_eq_true rfl) rfl (fun x hx hf hn => ?_)
  have loop : ∀ (n : Nat) (k : Int) (l6 : List (Nat × Value)), 0 ≤ k → k ≤ ((mOf ow q L).length : Int) → (∀ i : Int, 0 ≤ i → i < k → ¬ z < Q 1 (zat (mOf ow q L) i)) → (((mOf ow q L).length : Int) - k).toNat < n → Z l g ({ frames := 1, cells := 0, slots := 0, locals := 21 } : Room) 7 x 0 0 (sW g b I Q pre c P T post) 6 ([(0, .ref (c 0)), (1, vi q), (2, vi z), (3, .ref (b 4)), (4, vi (sq q (mOf ow q L) (k - 1))), (5, vi k)] ++ l6) [] := by
    intro n
    induction n with
    | zero => intro k l6 h0 h1 h2 hm; omega
    | succ n ih =>
      intro k l6 h0 h1 h2 hm
      refine zz_sub (lv' := [(0, .ref (c 0)), (1, vi q), (2, vi z), (3, .ref (b 4)), (4, vi (sq q (mOf ow q L) (k - 1))), (5, vi k)]) (fun y hy => List.mem_append_left _ hy) ?_
      have hs := hsr k
      have hs2 := hsr (k - 1)
      refine zz_iload hx dX2_frontBySorting_6 rfl ?_
      refine zz_bipush hx dX2_frontBySorting_8 rfl ?_
      refine zz_icmp_ge hx 53 dX2_frontBySorting_10 rfl (by omega) (by omega) (fun c10 => ?_) (fun c10 => ?_)
      · refine zz_iload hx dX2_frontBySorting_53 rfl ?_
        exact zz_iret hx hf dX2_frontBySorting_55 ⟨_, rfl, rfl, k, ⟨h0, h1⟩, h2, fun z9 => by omega, rfl⟩ (by decide) (by decide)
      · refine zz_aload_n hx dX2_frontBySorting_13 rfl ?_
        refine zs_g6 hx lf_X2_20 dX2_frontBySorting_14 ?_
        refine zz_iload hx dX2_frontBySorting_17 rfl ?_
        refine zs_at6 hx hst lk_X2_46 (by decide) (by decide) (by omega) (Nat.le_of_ble_eq_true rfl) dX2_frontBySorting_19 ?_
        rw [rAt_in (by omega) (by omega)]
        have hl1 := (hln (k - 1) (by omega) (by omega)).1
        rw [show k - 1 + 1 = k by omega] at hl1
        rw [hl1]
        refine zz_istore (lv' := [(0, _), (1, _), (2, _), (3, _), (4, _), (5, _), (6, _)]) hx dX2_frontBySorting_22 (by decide) rfl ?_
        refine zz_iload hx dX2_frontBySorting_24 rfl ?_
        refine zz_iload_n hx dX2_frontBySorting_26 rfl ?_
        refine zz_icmp_eq hx 40 dX2_frontBySorting_27 rfl (by omega) (by omega) (fun c27 => ?_) (fun c27 => ?_)
        · have hke : k = ((mOf ow q L).length : Int) := by
            rcases Int.lt_or_le k ((mOf ow q L).length : Int) with y | y
            · exact absurd (show q ∈ (mOf ow q L) by have hz9 := sq_mem (o := q) h0 y; rw [c27] at hz9; exact hz9) hmf.2.1
            · omega
          refine zz_iload hx dX2_frontBySorting_40 rfl ?_
          exact zz_iret hx hf dX2_frontBySorting_42 (by first | exact ⟨_, rfl, rfl, k, ⟨h0, h1⟩, h2, fun _ => by omega, rfl⟩ | exact ⟨_, rfl, rfl, k, ⟨h0, h1⟩, h2, fun z9 => by omega, rfl⟩) (by decide) (by decide)
        · have hkl : k < ((mOf ow q L).length : Int) := by
            rcases Int.lt_or_le k ((mOf ow q L).length : Int) with y | y
            · exact y
            · exact absurd (sq_e y) c27
          refine zz_aload_n hx dX2_frontBySorting_30 rfl ?_
          refine zz_iload hx dX2_frontBySorting_31 rfl ?_
          refine zv_at1 hx hst lk_X2_46 (by decide) (by decide) (by omega) (Nat.le_of_ble_eq_true rfl) dX2_frontBySorting_33 ?_
          rw [rAt_in (by omega) (by omega)]
          have hvk := hv1 _ ((hmf.2.2.2 _ (sq_mem (o := q) h0 hkl)).2.2.2.2)
          rw [sq_in h0 hkl] at hvk
          rw [sq_in h0 hkl]
          refine zz_iload_n hx dX2_frontBySorting_36 rfl ?_
          refine zz_icmp_le hx 43 dX2_frontBySorting_37 rfl (by omega) (by omega) (fun c37 => ?_) (fun c37 => ?_)
          · refine zz_iload hx dX2_frontBySorting_43 rfl ?_
            refine zz_istore (lv' := [(0, _), (1, _), (2, _), (3, _), (4, _), (5, _), (6, _)]) hx dX2_frontBySorting_45 (by decide) rfl ?_
            refine zz_iinc (lv' := [(0, _), (1, _), (2, _), (3, _), (4, _), (5, _), (6, _)]) hx dX2_frontBySorting_47 (by decide) rfl rfl ?_
            refine zz_goto hx 6 dX2_frontBySorting_50 rfl ?_
            refine zz_sub (lv' := [(0, .ref (c 0)), (1, vi q), (2, vi z), (3, .ref (b 4)), (4, vi (sq q (mOf ow q L) (k + 1 - 1))), (5, vi (k + 1))] ++ [(6, vi (zat (mOf ow q L) k))]) ?_ (ih (k + 1) [(6, vi (zat (mOf ow q L) k))] (by omega) (by omega) (fun i i0 i1 => ?_) (by omega))
            · rw [show k + 1 - 1 = k by omega, sq_in h0 hkl]; exact fun y hy => hy
            · rcases Int.lt_or_eq_of_le (show i ≤ k by omega) with y | y
              · exact h2 i i0 y
              · rw [y]; omega
          · refine zz_iload hx dX2_frontBySorting_40 rfl ?_
            exact zz_iret hx hf dX2_frontBySorting_42 (by first | exact ⟨_, rfl, rfl, k, ⟨h0, h1⟩, h2, fun _ => by omega, rfl⟩ | exact ⟨_, rfl, rfl, k, ⟨h0, h1⟩, h2, fun z9 => by omega, rfl⟩) (by decide) (by decide)
  refine zz_iload_n hx dX2_frontBySorting_0 rfl ?_
  refine zz_istore (lv' := [(0, _), (1, _), (2, _), (3, _), (4, _)]) hx dX2_frontBySorting_1 (by decide) rfl ?_
  refine zz_iconst hx dX2_frontBySorting_3 ?_
  refine zz_istore (lv' := [(0, _), (1, _), (2, _), (3, _), (4, _), (5, _)]) hx dX2_frontBySorting_4 (by decide) rfl ?_
  refine zz_sub (lv' := [(0, .ref (c 0)), (1, vi q), (2, vi z), (3, .ref (b 4)), (4, vi (sq q (mOf ow q L) (0 - 1))), (5, vi 0)]) ?_ (loop (((mOf ow q L).length : Int).toNat + 1) 0 [] (by omega) (by omega) (fun i _ _ => by omega) (by omega))
  rw [show (0 : Int) - 1 = -1 by decide, sq_m]; exact fun y hy => hy

set_option maxHeartbeats 4000000 in
set_option maxRecDepth 100000 in
theorem k_X2_frontFor {l : Launch} {g : zG} {b c : Nat → Nat} {I P : Nat → Int} {Q T : Nat → Int → Int} {pre post : va_W} (hst : l.stackTraces = false) {ow : Int → Int} {isO : Int → Prop} {L : List Int} (hrr : rR T) (hk : rOK T ow isO L) (hv1 : ∀ u : Int, u ∈ L → -1000 ≤ Q 1 u ∧ Q 1 u ≤ 1000) (q z r : Int) (hqo : isO q) (hzr : z = Q 1 r) (hz : -1000 ≤ z ∧ z ≤ 1000) (h2 : 0 ≤ P 2 ∧ P 2 ≤ 4) (h8 : -1 ≤ P 8 ∧ P 8 < 60) : zM l g yX2_frontFor cX2_frontFor 5 (Option.some FieldType.int) ({ frames := 2, cells := 0, slots := 0, locals := 47 } : Room) [.ref (c 0), vi q, vi z, .ref (b 4)] (sW g b I Q pre c P T post) (zI fun v w => w = sW g b I Q pre c P T post ∧ ∃ j : Int, (0 ≤ j ∧ j ≤ ((mOf ow q L).length : Int)) ∧ fPl (P 8) (P 2) (Q 1) ow r q L j ∧ v = (sq q (mOf ow q L) (j - 1))) zN 0 0 := by
  have hq := hk.1.1 q hqo
  have hmf := mOf_facts hk.1 hqo
  have hln := hk.2.2 q hqo
  have hsr := sq_rng hk.1 hqo
  have hrg := rAt_rng hrr 5 (P 8)
  have hp8 : rAt 60 (T 5) (P 8) ≠ -1 → 0 ≤ P 8 := fun z9 => by unfold rAt at z9; split at z9 <;> omega
  refine zM_of (lv0 := [(0, _), (1, _), (2, _), (3, _)]) hst rfl (by decide +kernel) (Nat.le_of_ble_eq_true rfl) rfl (fun x hx hf hn => ?_)
  have hcq : ow (P 8) = q ∧ P 8 ≠ -1 → ∃ i : Int, 0 ≤ i ∧ i < ((mOf ow q L).length : Int) ∧ zat (mOf ow q L) i = P 8 := fun z9 => by
    refine zat_of_mem (mOf_mem.mpr ⟨(hk.1.2.2.1 _).mpr ⟨by omega, h8.2, by omega⟩, z9.1⟩)
  have J : ∀ mk : Int, ((ow (P 8) = q ∧ P 8 ≠ -1) → mk = P 8) → (¬ (ow (P 8) = q ∧ P 8 ≠ -1) → mk = q) → 0 ≤ mk → mk < 60 → Z l g ({ frames := 2, cells := 0, slots := 0, locals := 47 } : Room) 5 x 0 0 (sW g b I Q pre c P T post) 23 [(0, .ref (c 0)), (1, vi q), (2, vi z), (3, .ref (b 4))] [vi mk] := by
    intro mk hm1 hm2 m0 m60
    refine zz_istore (lv' := [(0, _), (1, _), (2, _), (3, _), (4, _)]) hx dX2_frontFor_23 (by decide) rfl ?_
    refine zz_aload_n hx dX2_frontFor_25 rfl ?_
    refine zs_g2 hx lf_X2_36 dX2_frontFor_26 ?_
    have sw := zz_fswitch (l := l) (g := g) (R := ({ frames := 2, cells := 0, slots := 0, locals := 47 } : Room)) (x := x) (k := 0) (n := 0) hx (w := (sW g b I Q pre c P T post)) (lv := [(0, .ref (c 0)), (1, vi q), (2, vi z), (3, .ref (b 4)), (4, vi mk)]) (st := []) h2
    refine sw (fun e => ?_) (fun e => ?_) (fun e => ?_) (fun e => ?_) (fun e => ?_)
    · refine zz_iload_n hx dX2_frontFor_90 rfl ?_
      exact zz_iret hx hf dX2_frontFor_91 ⟨_, rfl, rfl, 0, by omega, ⟨fun _ => rfl, fun z9 => by omega, fun z9 => by omega, fun z9 => by omega⟩, by rw [show (0 : Int) - 1 = -1 by decide, sq_m]⟩ (by decide) (by decide)
    · refine zz_aload_n hx dX2_frontFor_60 rfl ?_
      refine zs_g7 hx lf_X2_23 dX2_frontFor_61 ?_
      refine zz_iload_n hx dX2_frontFor_64 rfl ?_
      refine zs_at7 hx hst lk_X2_46 (by decide) (by decide) (by omega) (Nat.le_of_ble_eq_true rfl) dX2_frontFor_65 ?_
      rw [rAt_in (by omega) (by omega)]
      exact zz_iret hx hf dX2_frontFor_68 ⟨_, rfl, rfl, ((mOf ow q L).length : Int), by omega, ⟨fun z9 => by omega, fun _ => rfl, fun z9 => by omega, fun z9 => by omega⟩, by rw [lnk_last hln]⟩ (by decide) (by decide)
    · refine zz_iload hx dX2_frontFor_69 rfl ?_
      have hret2 : (zI fun v w => w = sW g b I Q pre c P T post ∧ ∃ j : Int, (0 ≤ j ∧ j ≤ ((mOf ow q L).length : Int)) ∧ fPl (P 8) (P 2) (Q 1) ow r q L j ∧ v = (sq q (mOf ow q L) (j - 1))) (some (vi mk)) (sW g b I Q pre c P T post) := by
        rcases Decidable.em (ow (P 8) = q ∧ P 8 ≠ -1) with z9 | z9
        · obtain ⟨i, i0, i1, i2⟩ := hcq z9
          refine ⟨mk, rfl, rfl, i + 1, by omega, ⟨fun z8 => by omega, fun z8 => by omega, fun _ => ⟨fun _ => ⟨i, i0, i1, i2, by rw [if_pos e]⟩, fun z8 => absurd z9 z8⟩, fun z8 => by omega⟩, ?_⟩
          rw [hm1 z9, show i + 1 - 1 = i by omega, sq_in i0 i1, i2]
        · refine ⟨mk, rfl, rfl, 0, by omega, ⟨fun z8 => by omega, fun z8 => by omega, fun _ => ⟨fun z8 => absurd z8 z9, fun _ => by rw [if_pos e]⟩, fun z8 => by omega⟩, ?_⟩
          rw [hm2 z9, show (0 : Int) - 1 = -1 by decide, sq_m]
      exact zz_iret hx hf dX2_frontFor_71 hret2 (by decide) (by decide)
    · refine zz_aload_n hx dX2_frontFor_72 rfl ?_
      refine zs_g7 hx lf_X2_23 dX2_frontFor_73 ?_
      refine zz_iload hx dX2_frontFor_76 rfl ?_
      refine zs_at7 hx hst lk_X2_46 (by decide) (by decide) (by omega) (Nat.le_of_ble_eq_true rfl) dX2_frontFor_78 ?_
      rw [rAt_in (by omega) (by omega)]
      have hret3 : (zI fun v w => w = sW g b I Q pre c P T post ∧ ∃ j : Int, (0 ≤ j ∧ j ≤ ((mOf ow q L).length : Int)) ∧ fPl (P 8) (P 2) (Q 1) ow r q L j ∧ v = (sq q (mOf ow q L) (j - 1))) (some (vi (T 7 mk))) (sW g b I Q pre c P T post) := by
        rcases Decidable.em (ow (P 8) = q ∧ P 8 ≠ -1) with z9 | z9
        · obtain ⟨i, i0, i1, i2⟩ := hcq z9
          refine ⟨_, rfl, rfl, i, by omega, ⟨fun z8 => by omega, fun z8 => by omega, fun _ => ⟨fun _ => ⟨i, i0, i1, i2, by rw [if_neg (by omega)]⟩, fun z8 => absurd z9 z8⟩, fun z8 => by omega⟩, ?_⟩
          have hl1 := (hln (i - 1) (by omega) (by omega)).2
          rw [show i - 1 + 1 = i by omega, sq_in i0 i1, i2] at hl1
          rw [hm1 z9, hl1]
        · refine ⟨_, rfl, rfl, ((mOf ow q L).length : Int), by omega, ⟨fun z8 => by omega, fun z8 => by omega, fun _ => ⟨fun z8 => absurd z8 z9, fun _ => by rw [if_neg (by omega)]⟩, fun z8 => by omega⟩, ?_⟩
          rw [hm2 z9, lnk_last hln]
      exact zz_iret hx hf dX2_frontFor_81 hret3 (by decide) (by decide)
    · refine zz_aload_n hx dX2_frontFor_82 rfl ?_
      refine zz_iload_n hx dX2_frontFor_83 rfl ?_
      refine zz_iload_n hx dX2_frontFor_84 rfl ?_
      refine zz_aload_n hx dX2_frontFor_85 rfl ?_
      refine zz_callVi hx me_X2_frontBySorting lk_X2_73 (k_X2_frontBySorting hst hrr hk hv1 q z hqo hz) (pre.length + 0 + 13) (sW_at 0) rfl ⟨rfl, rfl⟩ (by decide) (by decide) rfl rfl (Nat.le_of_ble_eq_true rfl) dX2_frontFor_86 (fun _ _ h => h.elim) (fun r86 w86 hp86 => ?_)
      obtain ⟨rfl, j, j1, j2, j3, rfl⟩ := hp86
      exact zz_iret hx hf dX2_frontFor_89 ⟨_, rfl, rfl, j, j1, ⟨fun z9 => by omega, fun z9 => by omega, fun z9 => by omega, fun _ => ⟨j1, by rw [← hzr]; exact j2, by rw [← hzr]; exact j3⟩⟩, rfl⟩ (by decide) (by decide)
  refine zz_aload_n hx dX2_frontFor_0 rfl ?_
  refine zs_g5 hx lf_X2_14 dX2_frontFor_1 ?_
  refine zz_aload_n hx dX2_frontFor_4 rfl ?_
  refine zs_g8 hx lf_X2_26 dX2_frontFor_5 ?_
  refine zs_at5 hx hst lk_X2_46 (by decide) (by decide) (by omega) (Nat.le_of_ble_eq_true rfl) dX2_frontFor_8 ?_
  refine zz_iload_n hx dX2_frontFor_11 rfl ?_
  refine zz_icmp_ne hx 22 dX2_frontFor_12 rfl (by omega) (by omega) (fun c12 => ?_) (fun c12 => ?_)
  · refine zz_iload_n hx dX2_frontFor_22 rfl ?_
    have J2 := J
    clear J hcq
    first
      | (refine J2 _ ?_ ?_ (by omega) (by omega)
         · intro z9
           rfl
         · intro z9
           have hz8 := rOK_ring hk (r := P 8) (by omega) (by omega)
           rw [rAt_in (by omega) (by omega)] at c12
           rcases Decidable.em (P 8 = q) with z7 | z7
           · exact z7
           · exact absurd ⟨(hz8.2.1 q (by omega)).mp ⟨c12, z7⟩, by omega⟩ z9)
      | (refine J2 _ ?_ ?_ (by omega) (by omega)
         · intro z9
           have hz8 := rOK_ring hk (r := P 8) (by omega) (by omega)
           have hz7 := (hz8.2.1 q (by omega)).mpr z9.1
           rw [rAt_in (by omega) (by omega)] at c12
           exact absurd hz7.1 c12
         · intro z9
           rfl)
  · have hp80 : 0 ≤ P 8 := hp8 (by rw [c12]; clear hcq; omega)
    refine zz_aload_n hx dX2_frontFor_15 rfl ?_
    refine zs_g8 hx lf_X2_26 dX2_frontFor_16 ?_
    refine zz_goto hx 23 dX2_frontFor_19 rfl ?_
    have J2 := J
    clear J hcq
    first
      | (refine J2 _ ?_ ?_ (by omega) (by omega)
         · intro z9
           rfl
         · intro z9
           have hz8 := rOK_ring hk (r := P 8) (by omega) (by omega)
           rw [rAt_in (by omega) (by omega)] at c12
           rcases Decidable.em (P 8 = q) with z7 | z7
           · exact z7
           · exact absurd ⟨(hz8.2.1 q (by omega)).mp ⟨c12, z7⟩, by omega⟩ z9)
      | (refine J2 _ ?_ ?_ (by omega) (by omega)
         · intro z9
           have hz8 := rOK_ring hk (r := P 8) (by omega) (by omega)
           have hz7 := (hz8.2.1 q (by omega)).mpr z9.1
           rw [rAt_in (by omega) (by omega)] at c12
           exact absurd hz7.1 c12
         · intro z9
           rfl)
