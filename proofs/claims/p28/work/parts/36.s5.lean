set_option maxHeartbeats 4000000 in
set_option maxRecDepth 100000 in
theorem k_X2_releaseMembers {l : Launch} {g : zG} {b c : Nat → Nat} {I P : Nat → Int} {Q T : Nat → Int → Int} {pre post : va_W} (hst : l.stackTraces = false) {ow : Int → Int} {isO : Int → Prop} {L : List Int} (hrr : rR T) (hk : rOK T ow isO L) (q : Int) (hqo : isO q) (h8 : -1 ≤ P 8 ∧ P 8 < 60) : zM l g yX2_releaseMembers cX2_releaseMembers 3 (Option.none : Option FieldType) ({ frames := 4, cells := 0, slots := 0, locals := 86 } : Room) [.ref (c 0), vi q] (sW g b I Q pre c P T post) (zV fun w => ∃ (T1 : Nat → Int → Int), w = sW g b I Q pre c (Fup P 8 (if P 8 ∈ (mOf ow q L) then -1 else P 8)) T1 post ∧ rR T1 ∧ rOK T1 (relOw ow q) isO (relL ow q L)) zN 0 0 := by
  have hq := hk.1.1 q hqo
  have hmf := mOf_facts hk.1 hqo
  refine zM_of (lv0 := [(0, _), (1, _)]) hst rfl (by decide +kernel) (Nat.le_of_ble_eq_true rfl) rfl (fun x hx hf hn => ?_)
  have loop : ∀ (n : Nat) (k : Int) (T9 : Nat → Int → Int) (ow9 : Int → Int) (L9 : List Int) (P9 : Nat → Int), rR T9 → rOK T9 ow9 isO L9 → (-1 ≤ P9 8 ∧ P9 8 < 60) → 0 ≤ k → k + ((mOf ow9 q L9).length : Int) ≤ 60 → relOw ow9 q = relOw ow q → relL ow9 q L9 = relL ow q L → Fup P9 8 (if P9 8 ∈ mOf ow9 q L9 then -1 else P9 8) = Fup P 8 (if P 8 ∈ (mOf ow q L) then -1 else P 8) → (mOf ow9 q L9).length < n → Z l g ({ frames := 4, cells := 0, slots := 0, locals := 86 } : Room) 3 x 0 0 (sW g b I Q pre c P9 T9 post) 2 [(0, .ref (c 0)), (1, vi q), (2, vi k)] [] := by
    intro n
    induction n with
    | zero => intro k T9 ow9 L9 P9 hr9 hk9 h89 h0 h1 e1 e2 e3 hm; omega
    | succ n ih =>
      intro k T9 ow9 L9 P9 hr9 hk9 h89 h0 h1 e1 e2 e3 hm
      have hln := hk9.2.2 q hqo
      have hmf9 := mOf_facts hk9.1 hqo
      have hsr := sq_rng hk9.1 hqo 0
      have hfin : mOf ow9 q L9 = [] → (zV fun w => ∃ (T1 : Nat → Int → Int), w = sW g b I Q pre c (Fup P 8 (if P 8 ∈ (mOf ow q L) then -1 else P 8)) T1 post ∧ rR T1 ∧ rOK T1 (relOw ow q) isO (relL ow q L)) none (sW g b I Q pre c P9 T9 post) := fun hnil => by
        refine ⟨rfl, T9, ?_, hr9, by rw [← e1, ← e2]; exact rel_done hk9 hqo hnil⟩
        rw [← e3, hnil, if_neg (fun z9 => by cases z9), Fup_id]
      refine zz_iload_n hx dX2_releaseMembers_2 rfl ?_
      refine zz_bipush hx dX2_releaseMembers_3 rfl ?_
      refine zz_icmp_ge hx 38 dX2_releaseMembers_5 rfl (by omega) (by omega) (fun c5 => ?_) (fun c5 => ?_)
      · have hnil : mOf ow9 q L9 = [] := List.eq_nil_of_length_eq_zero (by omega)
        exact zz_vret hx hf dX2_releaseMembers_38 (hfin hnil) (by decide) (by decide)
      · refine zz_aload_n hx dX2_releaseMembers_8 rfl ?_
        refine zs_g6 hx lf_X2_20 dX2_releaseMembers_9 ?_
        refine zz_iload_n hx dX2_releaseMembers_12 rfl ?_
        refine zs_at6 hx hst lk_X2_46 (by decide) (by decide) (by omega) (Nat.le_of_ble_eq_true rfl) dX2_releaseMembers_13 ?_
        rw [rAt_in (by omega) (by omega)]
        rw [lnk_first hln]
        refine zz_iload_n hx dX2_releaseMembers_16 rfl ?_
        refine zz_icmp_eq hx 38 dX2_releaseMembers_17 rfl (by omega) (by omega) (fun c17 => ?_) (fun c17 => ?_)
        · have hnil : mOf ow9 q L9 = [] := by
            rcases Int.lt_or_le 0 ((mOf ow9 q L9).length : Int) with y | y
            · exact absurd (show q ∈ mOf ow9 q L9 by have hz9 := sq_mem (o := q) (Int.le_refl 0) y; rw [c17] at hz9; exact hz9) hmf9.2.1
            · exact List.eq_nil_of_length_eq_zero (by omega)
          exact zz_vret hx hf dX2_releaseMembers_38 (hfin hnil) (by decide) (by decide)
        · have hlen0 : 0 < ((mOf ow9 q L9).length : Int) := by
            rcases Int.lt_or_le 0 ((mOf ow9 q L9).length : Int) with y | y
            · exact y
            · exact absurd (sq_e y) c17
          have hrm := mOf_mem.mp (sq_mem (o := q) (Int.le_refl 0) hlen0)
          generalize hrq : sq q (mOf ow9 q L9) 0 = r at hrm hsr c17
          refine zz_aload_n hx dX2_releaseMembers_20 rfl ?_
          refine zz_aload_n hx dX2_releaseMembers_21 rfl ?_
          refine zs_g6 hx lf_X2_20 dX2_releaseMembers_22 ?_
          refine zz_iload_n hx dX2_releaseMembers_25 rfl ?_
          refine zs_at6 hx hst lk_X2_46 (by decide) (by decide) (by omega) (Nat.le_of_ble_eq_true rfl) dX2_releaseMembers_26 ?_
          rw [rAt_in (by omega) (by omega)]
          rw [lnk_first hln, hrq]
          refine zz_callVv hx me_X2_release lk_X2_88 (k_X2_release hst hr9 hk9 r hrm.1 h89) (pre.length + 0 + 13) (sW_at 0) rfl ⟨rfl, rfl⟩ (by decide) (by decide) rfl rfl (Nat.le_of_ble_eq_true rfl) dX2_releaseMembers_29 (fun _ _ h => h.elim) (fun w29 hp29 => ?_)
          obtain ⟨T1, rfl, ho1⟩ := hp29
          have hk1 := rOK_out hk9 hrm.1 ho1.1 ho1.2.1 ho1.2.2.1
          obtain ⟨f1, f2⟩ := rel_step (L := L9) hrm.2 (show q ≠ -1 by omega)
          have hmd := mOf_del (L := L9) hrm.2
          have hll := len_del hmf9.1 (mOf_mem.mpr hrm)
          refine zz_iinc (lv' := [(0, _), (1, _), (2, _)]) hx dX2_releaseMembers_32 (by decide) rfl rfl ?_
          refine zz_goto hx 2 dX2_releaseMembers_35 rfl ?_
          refine ih (k + 1) T1 (zup ow9 r (-1)) (zdel L9 r) _ ho1.2.2.2 hk1 ?_ (by omega) (by rw [hmd]; omega) (by rw [f1, e1]) (by rw [f2, e2]) ?_ (by rw [hmd]; omega)
          · by_cases c9 : P9 8 = r
            · rw [if_pos c9, Fup_s]; omega
            · rw [if_neg c9]; exact h89
          · rw [← e3, hmd]
            by_cases c9 : P9 8 = r
            · rw [if_pos c9, Fup_s, if_neg (fun z9 => by have := (hmf9.2.2.2 _ (zdel_mem.mp z9).1); omega), if_pos (by rw [c9]; exact mOf_mem.mpr hrm), Fup_Fup]
            · rw [if_neg c9]
              by_cases c8 : P9 8 ∈ mOf ow9 q L9
              · rw [if_pos (zdel_mem.mpr ⟨c8, c9⟩), if_pos c8]
              · rw [if_neg (fun z9 => c8 (zdel_mem.mp z9).1), if_neg c8]
  refine zz_iconst hx dX2_releaseMembers_0 ?_
  refine zz_istore_n (lv' := [(0, _), (1, _), (2, _)]) hx dX2_releaseMembers_1 (by decide) rfl ?_
  exact loop ((mOf ow q L).length + 1) 0 T ow L P hrr hk h8 (by omega) (by omega) rfl rfl rfl (by omega)

set_option maxHeartbeats 4000000 in
set_option maxRecDepth 100000 in
theorem k_X2_forget {l : Launch} {g : zG} {b c : Nat → Nat} {I P : Nat → Int} {Q T : Nat → Int → Int} {pre post : va_W} (hst : l.stackTraces = false) {ow : Int → Int} {isO : Int → Prop} {L : List Int} (hrr : rR T) (hk : rOK T ow isO L) (d : Int) (d0 : 0 ≤ d) (d1 : d < 60) (h8 : -1 ≤ P 8 ∧ P 8 < 60) : zM l g yX2_forget cX2_forget 2 (Option.none : Option FieldType) ({ frames := 5, cells := 0, slots := 0, locals := 108 } : Room) [.ref (c 0), vi d] (sW g b I Q pre c P T post) (zV fun w => ∃ (T1 : Nat → Int → Int), w = sW g b I Q pre c (Fup P 8 (fC ow d (P 8))) T1 post ∧ rR T1 ∧ rOK T1 (fOw ow d) (fO isO d) (fL ow d L)) zN 0 0 := by
  have h5 := rOK_ring hk (r := d) d0 d1
  have hown : (d ≠ -1 ∧ rAt 60 (T 5) d = d) ↔ isO d := by
    rw [rAt_in d0 (by omega)]
    exact ⟨fun z9 => h5.1.mp z9.2, fun z9 => ⟨by omega, h5.1.mpr z9⟩⟩
  have hmm : (rAt 60 (T 5) d ≠ -1 ∧ rAt 60 (T 5) d ≠ d) ↔ d ∈ L := by
    rw [rAt_in d0 (by omega), hk.1.2.2.1 d]
    constructor
    · intro z9
      have := (h5.2.1 (T 5 d) z9.1).mp ⟨rfl, fun e => z9.2 e.symm⟩
      exact ⟨d0, d1, by omega⟩
    · intro z9
      have := (h5.2.1 (ow d) z9.2.2).mpr rfl
      omega
  have hnow : ¬ isO d → ∀ u : Int, 0 ≤ u → u < 60 → ow u ≠ d := fun z9 u u0 u1 e => by
    have hu := (hk.1.2.2.1 u).mpr ⟨u0, u1, by omega⟩
    have := hk.1.2.2.2 u hu
    rw [e] at this
    exact z9 this
  refine zM_of (lv0 := [(0, _), (1, _)]) hst rfl (by decide +kernel) (Nat.le_of_ble_eq_true rfl) rfl (fun x hx hf hn => ?_)
  have J : ∀ (T1 : Nat → Int → Int) (P1 : Nat → Int), rR T1 → rOK T1 (fOw ow d) (fO isO d) (fL ow d L) → (-1 ≤ P1 8 ∧ P1 8 < 60) → (Fup P1 8 (if P1 8 = d then -1 else P1 8) = Fup P 8 (fC ow d (P 8))) → Z l g ({ frames := 5, cells := 0, slots := 0, locals := 108 } : Room) 2 x 0 0 (sW g b I Q pre c P1 T1 post) 38 [(0, .ref (c 0)), (1, vi d)] [] := by
    intro T1 P1 hr1 hk1 h81 he1
    refine zz_aload_n hx dX2_forget_38 rfl ?_
    refine zs_g8 hx lf_X2_26 dX2_forget_39 ?_
    refine zz_iload_n hx dX2_forget_42 rfl ?_
    refine zz_icmp_ne hx 51 dX2_forget_43 rfl (by omega) (by omega) (fun c43 => ?_) (fun c43 => ?_)
    · exact zz_vret hx hf dX2_forget_51 ⟨rfl, T1, by first | (rw [← he1, if_pos (by omega)]; done) | (rw [← he1, if_neg (by omega), Fup_id]; done), hr1, hk1⟩ (by decide) (by decide)
    · refine zz_aload_n hx dX2_forget_46 rfl ?_
      refine zz_iconst hx dX2_forget_47 ?_
      refine zs_p8 hx lf_X2_26 dX2_forget_48 ?_
      exact zz_vret hx hf dX2_forget_51 ⟨rfl, T1, by first | (rw [← he1, if_pos (by omega)]; done) | (rw [← he1, if_neg (by omega), Fup_id]; done), hr1, hk1⟩ (by decide) (by decide)
  refine zz_aload_n hx dX2_forget_0 rfl ?_
  refine zz_iload_n hx dX2_forget_1 rfl ?_
  refine zz_callVi hx me_X2_owns lk_X2_82 (k_X2_owns hst hrr d (by omega)) (pre.length + 0 + 13) (sW_at 0) rfl ⟨rfl, rfl⟩ (by decide) (by decide) rfl rfl (Nat.le_of_ble_eq_true rfl) dX2_forget_2 (fun _ _ h => h.elim) (fun r2 w2 hp2 => ?_)
  obtain ⟨rfl, rfl⟩ := hp2
  refine zz_ifb_eq hx 25 dX2_forget_5 rfl (fun c5 => ?_) (fun c5 => ?_)
  · have hqn : ¬ isO d := fun z9 => c5 (hown.mpr z9)
    refine zz_aload_n hx dX2_forget_25 rfl ?_
    refine zz_iload_n hx dX2_forget_26 rfl ?_
    refine zz_callVi hx me_X2_isMember lk_X2_79 (k_X2_isMember hst hrr d (by omega)) (pre.length + 0 + 13) (sW_at 0) rfl ⟨rfl, rfl⟩ (by decide) (by decide) rfl rfl (Nat.le_of_ble_eq_true rfl) dX2_forget_27 (fun _ _ h => h.elim) (fun r27 w27 hp27 => ?_)
    obtain ⟨rfl, rfl⟩ := hp27
    refine zz_ifb_eq hx 38 dX2_forget_30 rfl (fun c30 => ?_) (fun c30 => ?_)
    · have hrn : d ∉ L := fun z9 => c30 (hmm.mpr z9)
      first
        | (refine J _ _ hr2 (rOK_congr hk2 ?_ (fun u => Iff.rfl) (fun u u0 u1 => ?_)) ?_ ?_
           · unfold relL fL
             apply List.filter_congr
             intro u hu
             rw [decide_eq_decide]
             have hud : u ≠ d := fun e => (rC_no hk.1 hu).1 (by rw [e]; exact hqo)
             constructor
             · intro z9 z8; rcases z8 with z7 | z7; exact hud z7; exact z9 z7
             · intro z9 z8; exact z9 (Or.inr z8)
           · unfold relOw fOw
             by_cases cu : ow u = d
             · rw [if_pos cu, if_pos (Or.inr cu)]
             · by_cases cd : u = d
               · rw [if_neg cu, if_pos (Or.inl cd), cd]; exact hod.2.2
               · rw [if_neg cu, if_neg (fun z9 => by rcases z9 with z8 | z8; exact cd z8; exact cu z8)]
           · rw [Fup_s]; split <;> omega
           · rw [Fup_s, Fup_Fup]
             congr 1
             unfold fC
             have hmi : P 8 ∈ mOf ow d L ↔ (P 8 ≠ -1 ∧ ow (P 8) = d) := by
               rw [mOf_mem, hk.1.2.2.1]
               constructor
               · intro z9; omega
               · intro z9; exact ⟨⟨by omega, h8.2, by omega⟩, z9.2⟩
             by_cases cm : P 8 ∈ mOf ow d L
             · rw [if_pos cm, if_neg (show ¬ (-1 : Int) = d by omega), if_pos (Or.inr (hmi.mp cm))]
             · rw [if_neg cm]
               by_cases cd : P 8 = d
               · rw [if_pos cd, if_pos (Or.inl cd)]
               · rw [if_neg cd, if_neg (fun z9 => by rcases z9 with z8 | z8; exact cd z8; exact cm (hmi.mpr z8))])
        | (refine J T1 P ho1.2.2.2 (rOK_congr hk1 ?_ (fun u => ?_) (fun u u0 u1 => ?_)) h8 ?_
           · unfold zdel fL
             apply List.filter_congr
             intro u hu
             rw [decide_eq_decide]
             have hu2 := (hk.1.2.2.1 u).mp hu
             have hud := hnow hqn u hu2.1 hu2.2.1
             constructor
             · intro z9 z8; rcases z8 with z7 | z7; exact z9 z7; exact hud z7
             · intro z9 z8; exact z9 (Or.inl z8)
           · exact ⟨fun z9 => ⟨z9, fun e => hqn (by rw [← e]; exact z9)⟩, fun z9 => z9.1⟩
           · unfold fOw
             have hud := hnow hqn u u0 u1
             by_cases cd : u = d
             · rw [cd, zup_s, if_pos (Or.inl rfl)]
             · rw [zup_n _ _ cd, if_neg (fun z9 => by rcases z9 with z8 | z8; exact cd z8; exact hud z8)]
           · congr 1
             unfold fC
             by_cases cd : P 8 = d
             · rw [if_pos cd, if_pos (Or.inl cd)]
             · rw [if_neg cd, if_neg (fun z9 => by rcases z9 with z8 | z8; exact cd z8; exact hnow hqn (P 8) (by omega) h8.2 z8.2)])
        | (refine J T P hrr (rOK_congr hk ?_ (fun u => ?_) (fun u u0 u1 => ?_)) h8 ?_
           · unfold fL
             symm
             rw [List.filter_eq_self]
             intro u hu
             rw [decide_eq_true_eq]
             have hu2 := (hk.1.2.2.1 u).mp hu
             intro z8
             rcases z8 with z7 | z7
             · exact hrn (by rw [← z7]; exact hu)
             · exact hnow hqn u hu2.1 hu2.2.1 z7
           · exact ⟨fun z9 => ⟨z9, fun e => hqn (by rw [← e]; exact z9)⟩, fun z9 => z9.1⟩
           · unfold fOw
             have hud := hnow hqn u u0 u1
             by_cases cd : u = d
             · rw [if_pos (Or.inl cd), cd]
               by_cases cw : ow d = -1
               · exact cw
               · exact absurd ((hk.1.2.2.1 d).mpr ⟨d0, d1, cw⟩) hrn
             · rw [if_neg (fun z9 => by rcases z9 with z8 | z8; exact cd z8; exact hud z8)]
           · congr 1
             unfold fC
             by_cases cd : P 8 = d
             · rw [if_pos cd, if_pos (Or.inl cd)]
             · rw [if_neg cd, if_neg (fun z9 => by rcases z9 with z8 | z8; exact cd z8; exact hnow hqn (P 8) (by omega) h8.2 z8.2)])
    · have hr := hmm.mp c30
      refine zz_aload_n hx dX2_forget_33 rfl ?_
      refine zz_iload_n hx dX2_forget_34 rfl ?_
      refine zz_callVv hx me_X2_takeOut lk_X2_76 (k_X2_takeOut hst hrr hk d hr) (pre.length + 0 + 13) (sW_at 0) rfl ⟨rfl, rfl⟩ (by decide) (by decide) rfl rfl (Nat.le_of_ble_eq_true rfl) dX2_forget_35 (fun _ _ h => h.elim) (fun w35 hp35 => ?_)
      obtain ⟨T1, rfl, ho1⟩ := hp35
      have hk1 := rOK_out hk hr ho1.1 ho1.2.1 ho1.2.2.1
      first
        | (refine J _ _ hr2 (rOK_congr hk2 ?_ (fun u => Iff.rfl) (fun u u0 u1 => ?_)) ?_ ?_
           · unfold relL fL
             apply List.filter_congr
             intro u hu
             rw [decide_eq_decide]
             have hud : u ≠ d := fun e => (rC_no hk.1 hu).1 (by rw [e]; exact hqo)
             constructor
             · intro z9 z8; rcases z8 with z7 | z7; exact hud z7; exact z9 z7
             · intro z9 z8; exact z9 (Or.inr z8)
           · unfold relOw fOw
             by_cases cu : ow u = d
             · rw [if_pos cu, if_pos (Or.inr cu)]
             · by_cases cd : u = d
               · rw [if_neg cu, if_pos (Or.inl cd), cd]; exact hod.2.2
               · rw [if_neg cu, if_neg (fun z9 => by rcases z9 with z8 | z8; exact cd z8; exact cu z8)]
           · rw [Fup_s]; split <;> omega
           · rw [Fup_s, Fup_Fup]
             congr 1
             unfold fC
             have hmi : P 8 ∈ mOf ow d L ↔ (P 8 ≠ -1 ∧ ow (P 8) = d) := by
               rw [mOf_mem, hk.1.2.2.1]
               constructor
               · intro z9; omega
               · intro z9; exact ⟨⟨by omega, h8.2, by omega⟩, z9.2⟩
             by_cases cm : P 8 ∈ mOf ow d L
             · rw [if_pos cm, if_neg (show ¬ (-1 : Int) = d by omega), if_pos (Or.inr (hmi.mp cm))]
             · rw [if_neg cm]
               by_cases cd : P 8 = d
               · rw [if_pos cd, if_pos (Or.inl cd)]
               · rw [if_neg cd, if_neg (fun z9 => by rcases z9 with z8 | z8; exact cd z8; exact cm (hmi.mpr z8))])
        | (refine J T1 P ho1.2.2.2 (rOK_congr hk1 ?_ (fun u => ?_) (fun u u0 u1 => ?_)) h8 ?_
           · unfold zdel fL
             apply List.filter_congr
             intro u hu
             rw [decide_eq_decide]
             have hu2 := (hk.1.2.2.1 u).mp hu
             have hud := hnow hqn u hu2.1 hu2.2.1
             constructor
             · intro z9 z8; rcases z8 with z7 | z7; exact z9 z7; exact hud z7
             · intro z9 z8; exact z9 (Or.inl z8)
           · exact ⟨fun z9 => ⟨z9, fun e => hqn (by rw [← e]; exact z9)⟩, fun z9 => z9.1⟩
           · unfold fOw
             have hud := hnow hqn u u0 u1
             by_cases cd : u = d
             · rw [cd, zup_s, if_pos (Or.inl rfl)]
             · rw [zup_n _ _ cd, if_neg (fun z9 => by rcases z9 with z8 | z8; exact cd z8; exact hud z8)]
           · congr 1
             unfold fC
             by_cases cd : P 8 = d
             · rw [if_pos cd, if_pos (Or.inl cd)]
             · rw [if_neg cd, if_neg (fun z9 => by rcases z9 with z8 | z8; exact cd z8; exact hnow hqn (P 8) (by omega) h8.2 z8.2)])
        | (refine J T P hrr (rOK_congr hk ?_ (fun u => ?_) (fun u u0 u1 => ?_)) h8 ?_
           · unfold fL
             symm
             rw [List.filter_eq_self]
             intro u hu
             rw [decide_eq_true_eq]
             have hu2 := (hk.1.2.2.1 u).mp hu
             intro z8
             rcases z8 with z7 | z7
             · exact hrn (by rw [← z7]; exact hu)
             · exact hnow hqn u hu2.1 hu2.2.1 z7
           · exact ⟨fun z9 => ⟨z9, fun e => hqn (by rw [← e]; exact z9)⟩, fun z9 => z9.1⟩
           · unfold fOw
             have hud := hnow hqn u u0 u1
             by_cases cd : u = d
             · rw [if_pos (Or.inl cd), cd]
               by_cases cw : ow d = -1
               · exact cw
               · exact absurd ((hk.1.2.2.1 d).mpr ⟨d0, d1, cw⟩) hrn
             · rw [if_neg (fun z9 => by rcases z9 with z8 | z8; exact cd z8; exact hud z8)]
           · congr 1
             unfold fC
             by_cases cd : P 8 = d
             · rw [if_pos cd, if_pos (Or.inl cd)]
             · rw [if_neg cd, if_neg (fun z9 => by rcases z9 with z8 | z8; exact cd z8; exact hnow hqn (P 8) (by omega) h8.2 z8.2)])
  · have hqo := hown.mp c5
    refine zz_aload_n hx dX2_forget_8 rfl ?_
    refine zz_iload_n hx dX2_forget_9 rfl ?_
    refine zz_callVv hx me_X2_releaseMembers lk_X2_85 (k_X2_releaseMembers hst hrr hk d hqo h8) (pre.length + 0 + 13) (sW_at 0) rfl ⟨rfl, rfl⟩ (by decide) (by decide) rfl rfl (Nat.le_of_ble_eq_true rfl) dX2_forget_10 (fun _ _ h => h.elim) (fun w10 hp10 => ?_)
    obtain ⟨T1, rfl, hr1, hk1⟩ := hp10
    refine zz_aload_n hx dX2_forget_13 rfl ?_
    refine zs_g5 hx lf_X2_14 dX2_forget_14 ?_
    refine zz_iload_n hx dX2_forget_17 rfl ?_
    refine zz_iconst hx dX2_forget_18 ?_
    refine zs_put5 hx hst lk_X2_50 (by decide) (by decide) (by omega) (Nat.le_of_ble_eq_true rfl) dX2_forget_19 ?_
    rw [rUp_in (by omega) (by omega)]
    have hr2 := rR_up hr1 (k := 5) (i := d) (v := -1) (by omega)
    have hod := hk.1.1 d hqo
    have hdl : d ∉ relL ow d L := fun z9 => by
      have := (List.mem_filter.mp z9).1
      exact (rC_no hk.1 this).1 hqo
    have hk2 := rOK_gone (T' := Gset T1 5 (zup (T1 5) d (-1))) hk1 hdl (rel_fin (by omega)) hqo (by simp [Gset]) (by simp [Gset]) (by simp [Gset])
    refine zz_goto hx 38 dX2_forget_22 rfl ?_
    first
      | (refine J _ _ hr2 (rOK_congr hk2 ?_ (fun u => Iff.rfl) (fun u u0 u1 => ?_)) ?_ ?_
         · unfold relL fL
           apply List.filter_congr
           intro u hu
           rw [decide_eq_decide]
           have hud : u ≠ d := fun e => (rC_no hk.1 hu).1 (by rw [e]; exact hqo)
           constructor
           · intro z9 z8; rcases z8 with z7 | z7; exact hud z7; exact z9 z7
           · intro z9 z8; exact z9 (Or.inr z8)
         · unfold relOw fOw
           by_cases cu : ow u = d
           · rw [if_pos cu, if_pos (Or.inr cu)]
           · by_cases cd : u = d
             · rw [if_neg cu, if_pos (Or.inl cd), cd]; exact hod.2.2
             · rw [if_neg cu, if_neg (fun z9 => by rcases z9 with z8 | z8; exact cd z8; exact cu z8)]
         · rw [Fup_s]; split <;> omega
         · rw [Fup_s, Fup_Fup]
           congr 1
           unfold fC
           have hmi : P 8 ∈ mOf ow d L ↔ (P 8 ≠ -1 ∧ ow (P 8) = d) := by
             rw [mOf_mem, hk.1.2.2.1]
             constructor
             · intro z9; omega
             · intro z9; exact ⟨⟨by omega, h8.2, by omega⟩, z9.2⟩
           by_cases cm : P 8 ∈ mOf ow d L
           · rw [if_pos cm, if_neg (show ¬ (-1 : Int) = d by omega), if_pos (Or.inr (hmi.mp cm))]
           · rw [if_neg cm]
             by_cases cd : P 8 = d
             · rw [if_pos cd, if_pos (Or.inl cd)]
             · rw [if_neg cd, if_neg (fun z9 => by rcases z9 with z8 | z8; exact cd z8; exact cm (hmi.mpr z8))])
      | (refine J T1 P ho1.2.2.2 (rOK_congr hk1 ?_ (fun u => ?_) (fun u u0 u1 => ?_)) h8 ?_
         · unfold zdel fL
           apply List.filter_congr
           intro u hu
           rw [decide_eq_decide]
           have hu2 := (hk.1.2.2.1 u).mp hu
           have hud := hnow hqn u hu2.1 hu2.2.1
           constructor
           · intro z9 z8; rcases z8 with z7 | z7; exact z9 z7; exact hud z7
           · intro z9 z8; exact z9 (Or.inl z8)
         · exact ⟨fun z9 => ⟨z9, fun e => hqn (by rw [← e]; exact z9)⟩, fun z9 => z9.1⟩
         · unfold fOw
           have hud := hnow hqn u u0 u1
           by_cases cd : u = d
           · rw [cd, zup_s, if_pos (Or.inl rfl)]
           · rw [zup_n _ _ cd, if_neg (fun z9 => by rcases z9 with z8 | z8; exact cd z8; exact hud z8)]
         · congr 1
           unfold fC
           by_cases cd : P 8 = d
           · rw [if_pos cd, if_pos (Or.inl cd)]
           · rw [if_neg cd, if_neg (fun z9 => by rcases z9 with z8 | z8; exact cd z8; exact hnow hqn (P 8) (by omega) h8.2 z8.2)])
      | (refine J T P hrr (rOK_congr hk ?_ (fun u => ?_) (fun u u0 u1 => ?_)) h8 ?_
         · unfold fL
           symm
           rw [List.filter_eq_self]
           intro u hu
           rw [decide_eq_true_eq]
           have hu2 := (hk.1.2.2.1 u).mp hu
           intro z8
           rcases z8 with z7 | z7
           · exact hrn (by rw [← z7]; exact hu)
           · exact hnow hqn u hu2.1 hu2.2.1 z7
         · exact ⟨fun z9 => ⟨z9, fun e => hqn (by rw [← e]; exact z9)⟩, fun z9 => z9.1⟩
         · unfold fOw
           have hud := hnow hqn u u0 u1
           by_cases cd : u = d
           · rw [if_pos (Or.inl cd), cd]
             by_cases cw : ow d = -1
             · exact cw
             · exact absurd ((hk.1.2.2.1 d).mpr ⟨d0, d1, cw⟩) hrn
           · rw [if_neg (fun z9 => by rcases z9 with z8 | z8; exact cd z8; exact hud z8)]
         · congr 1
           unfold fC
           by_cases cd : P 8 = d
           · rw [if_pos cd, if_pos (Or.inl cd)]
           · rw [if_neg cd, if_neg (fun z9 => by rcases z9 with z8 | z8; exact cd z8; exact hnow hqn (P 8) (by omega) h8.2 z8.2)])
