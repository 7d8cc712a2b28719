/-! the law: changing a value, erasing -/
theorem gDm_len {P : Int → Nat → Int} {ow : Int → Int → Int} {isO : Int → Int → Prop} {L : Int → List Int} {N : Nat} {y r : Int} {D D2 : List Int} (h1 : D.Nodup) (h2 : D2.Nodup) (h : ∀ u : Int, u ∈ D ↔ u ∈ D2) : D.length = D2.length := ((List.perm_ext_iff_of_nodup h1 h2).mpr h).length_eq
theorem gDm_same {P : Int → Nat → Int} {ow : Int → Int → Int} {isO : Int → Int → Prop} {L : Int → List Int} {N : Nat} {y r : Int} {D D2 : List Int} (h1 : gDm P ow isO L N y r D) (h2 : gDm P ow isO L N y r D2) : ∀ u : Int, u ∈ D ↔ u ∈ D2 := fun u =>
  ⟨h1.2.2 (fun v => v ∈ D2) h2.1 (fun q v s hq s0 s1 hg => h2.2.1 q hq s v s0 s1 hg) u, h2.2.2 (fun v => v ∈ D) h1.1 (fun q v s hq s0 s1 hg => h1.2.1 q hq s v s0 s1 hg) u⟩
theorem gDm_cl {P : Int → Nat → Int} {ow : Int → Int → Int} {isO : Int → Int → Prop} {L : Int → List Int} {N : Nat} {way r : Int} {D : List Int} {y : Int64} (hr : ∀ u ∈ D, 0 ≤ u ∧ u < 60) (h : gDm P ow isO L N way r D) (h1 : lb y r) (h2 : ∀ u : Int, 0 ≤ u → u < 64 → lb y u → clG P ow isO L N way r u) (h3 : ∀ q v s : Int, 0 ≤ q → q < 64 → lb y q → 0 ≤ s → s < (N : Int) → gRl P ow isO L way q v s → lb y v) : ∀ u : Int, 0 ≤ u → u < 64 → (lb y u ↔ u ∈ D) := fun u u0 u1 => by
  constructor
  · intro hb
    exact h2 u u0 u1 hb (fun v => v ∈ D) h.1 (fun q v s hq s0 s1 hg => h.2.1 q hq s v s0 s1 hg)
  · intro hu
    have := h.2.2 (fun v => lb y v ∧ v ∈ D) ⟨h1, h.1⟩ (fun q v s hq s0 s1 hg => ⟨h3 q v s (hr q hq.2).1 (by have := (hr q hq.2).2; omega) hq.1 s0 s1 hg, h.2.1 q hq.2 s v s0 s1 hg⟩) u hu
    exact this.1
theorem kU_mod {I : Nat → Int} {Q : Nat → Int → Int} {U : Int → Int} {N : Nat} {r v : Int} (hU : kU Q U) (hI : aI I Q N) (r0 : 0 ≤ r) (r1 : r < 60) (hr : Q 0 r ≠ -1) : kU (Gset Q 1 (zup (Q 1) r v)) (zup U r (U r % 8 + 8 * (v + 1000))) := fun k k0 k1 => by
  show (zup U r (U r % 8 + 8 * (v + 1000)) k = 0 ∧ Q 0 k = -1) ∨ (zup U r (U r % 8 + 8 * (v + 1000)) k = Q 0 k + 1 + 8 * (zup (Q 1) r v k + 1000) ∧ 0 ≤ Q 0 k)
  by_cases e : k = r
  · subst e
    rw [zup_s, zup_s]
    have := kU_at hU hI k0 k1
    omega
  · rw [zup_n _ _ e, zup_n _ _ e]
    exact hU k k0 k1

set_option maxHeartbeats 4000000 in
set_option maxRecDepth 100000 in
theorem l_modifies {l : Launch} {g : zG} {b : Nat → Nat} {c : Int → Nat → Nat} {I : Nat → Int} {Q : Nat → Int → Int} {P : Int → Nat → Int} {T : Int → Nat → Int → Int} {N : Nat} {ow : Int → Int → Int} {isO : Int → Int → Prop} {L : Int → List Int} {rest : va_W} (hst : l.stackTraces = false) {gA tA cA : Nat} {Gr U C : Int → Int} (hJ : J I Q P T N ow isO L) (hC : kC I N C) (hU : kU Q U) (hG : kG P N Gr) (hN0 : 0 < N) (v : Int) (hv : -2 ≤ v ∧ v ≤ 6) : zMn l g yL_modifies cL_modifies 12 (Option.some FieldType.boolean) ({ frames := 10, cells := 3, slots := 23, locals := 198 } : Room) [.ref (b 0), vi v, .ref gA, .ref tA, .ref cA] (wD g b c I Q P T N (rA g gA 30 Gr :: rA g tA 60 U :: rA g cA 3 C :: rest)) (zI fun v9 w => v9 = 1 ∧ (jW g b c N gA tA cA Gr rest w)) 3 23 := by
  have hI := hJ.1
  have hS := hJ.2.1
  have hi0 := hI.2.2.2.2.2.2.1
  have hN6 := hI.2.1
  obtain ⟨hc0, hc1, hc2⟩ := id hC
  have hi2 := hI.2.2.1
  refine zMn_of (lv0 := [(0, _), (1, _), (2, _), (3, _), (4, _)]) hst rfl (by decide +kernel) (Nat.le_of_ble_eq_true rfl) rfl (fun x hx hf hnc => ?_)
  refine zz_aload_n hx dL_modifies_0 rfl ?_
  refine zz_callVi hx me_X3_current lk_L_74 (k_X3_current hst) 0 rfl rfl ⟨rfl, rfl⟩ (by decide) (by decide) rfl rfl (Nat.le_of_ble_eq_true rfl) dL_modifies_1 (fun _ _ h => h.elim) (fun r1 w1 hp1 => ?_)
  obtain ⟨rfl, rfl⟩ := hp1
  refine zz_istore (lv' := [(0, _), (1, _), (2, _), (3, _), (4, _), (5, _)]) hx dL_modifies_4 (by decide) rfl ?_
  refine zz_bipush hx dL_modifies_6 rfl ?_
  refine zz_newi (N := 11) hx (by decide) (by decide) dL_modifies_8 (fun q8 => ?_)
  refine zz_perm (pN3 _) ?_
  refine zz_astore (lv' := [(0, _), (1, _), (2, _), (3, _), (4, _), (5, _), (6, _)]) hx dL_modifies_10 (by decide) rfl ?_
  refine zz_aload_n hx dL_modifies_12 rfl ?_
  refine zz_aload hx dL_modifies_13 rfl ?_
  refine zz_aload hx dL_modifies_15 rfl ?_
  refine zz_callSv hx ms_L_notes lk_L_77 (l_notes hst hJ hC) ⟨rfl, rfl⟩ (by decide) (by decide) rfl rfl (Nat.le_of_ble_eq_true rfl) dL_modifies_17 (fun _ _ h => h.elim) (fun w17 hp17 => ?_)
  obtain ⟨W1, hW1, rfl⟩ := hp17
  refine zz_aload_n hx dL_modifies_20 rfl ?_
  refine zz_iconst hx dL_modifies_21 ?_
  refine zz_iload_n hx dL_modifies_22 rfl ?_
  refine zz_iconst hx dL_modifies_23 ?_
  refine zz_callW hx hnc mw_L_acts lk_L_112 (l_acts1 hst hJ v 0 (by omega)) ⟨rfl, rfl⟩ (by decide) (by decide) rfl rfl (Nat.le_of_ble_eq_true rfl) dL_modifies_24 (fun r24 w24 hp24 => ?_)
  rcases hp24 with ⟨e24, rfl, hn24⟩ | ⟨hn24, e24, T1, rfl, hso⟩
  · have hn25 : I 2 = -1 := by omega
    refine zz_istore (lv' := [(0, _), (1, _), (2, _), (3, _), (4, _), (5, _), (6, _), (7, _)]) hx dL_modifies_27 (by decide) rfl ?_
    refine zz_iload hx dL_modifies_29 rfl ?_
    refine zz_if_ge hx 48 dL_modifies_31 rfl (by omega) (fun c31 => ?_) (fun c31 => ?_)
    · omega
    · refine zz_iload hx dL_modifies_34 rfl ?_
      refine zz_sipush hx dL_modifies_36 rfl ?_
      refine zz_icmp_ne hx 46 dL_modifies_39 rfl (by omega) (by omega) (fun c39 => ?_) (fun c39 => ?_)
      · omega
      · refine zz_iconst hx dL_modifies_42 ?_
        refine zz_goto hx 47 dL_modifies_43 rfl ?_
        refine zz_less pL1 ?_
        exact zz_zret hx hf dL_modifies_47 (Or.inr rfl) ⟨_, rfl, rfl, I, Q, P, T, ow, isO, L, U, C, rfl, hJ, hC, hU, hG⟩ (by decide) (by decide)
  · have hi20 := J_i2 hJ hn24
    have hq1r := hI.2.2.2.2.1 (I 2) hi20.1 hi20.2.2.1
    obtain ⟨L1, hJ1, hpl⟩ := J_mod hJ (by omega) hn24 hso
    have hU1 := kU_mod (v := v) hU hI hi20.1 hi20.2.2.1 hi20.2.2.2
    have hW2 : nW I (Gset Q 1 (zup (Q 1) (I 2) v)) P N W1 := hW1
    have loop : ∀ (n : Nat) (k : Int), 0 ≤ k → k ≤ (N : Int) → ((N : Int) - k).toNat < n → Z l g ({ frames := 10, cells := 3, slots := 23, locals := 198 } : Room) 12 x 3 23 (wD g b c I (Gset Q 1 (zup (Q 1) (I 2) v)) P T1 N (rA g gA 30 Gr :: rA g tA 60 (zup U (I 2) (U (I 2) % 8 + 8 * (v + 1000))) :: rA g cA 3 C :: rA g q8 11 W1 :: rest)) 110 [(0, .ref (b 0)), (1, vi v), (2, .ref gA), (3, .ref tA), (4, .ref cA), (5, vi (I 2)), (6, .ref q8), (7, vi r24), (8, vi (U (I 2) / 8 - 1000)), (9, vi 1), (10, vi k)] [] := by
      intro n
      induction n with
      | zero => intro k h0 h1 hm; omega
      | succ n ih =>
        intro k h0 h1 hm
        refine zz_iload hx dL_modifies_110 rfl ?_
        refine zz_aload hx dL_modifies_112 rfl ?_
        refine zz_iconst hx dL_modifies_114 ?_
        refine zr_ld hx 2 rfl (by decide) (by omega) (by omega) dL_modifies_115 ?_
        refine zz_icmp_ge hx 189 dL_modifies_116 rfl (by omega) (by omega) (fun c116 => ?_) (fun c116 => ?_)
        · refine zz_iload hx dL_modifies_189 rfl ?_
          refine zz_less pL1 ?_; exact zz_zret hx hf dL_modifies_191 (Or.inr rfl) ⟨_, rfl, rfl, I, Gset Q 1 (zup (Q 1) (I 2) v), P, T1, ow, isO, L1, _, C, rfl, hJ1, hC, hU1, hG⟩ (by decide) (by decide)
        · have hk9 : 0 ≤ k ∧ k < (N : Int) := ⟨h0, by omega⟩
          have hg9 := kG_at hG hS hk9
          have hob : -1 ≤ ow k (I 2) ∧ ow k (I 2) < 60 := by
            rcases J_ow hJ h0 hk9.2 hi20.1 hi20.2.2.1 with ⟨z, -⟩ | z
            · omega
            · exact ⟨by omega, by omega⟩
          refine zz_iload hx dL_modifies_119 rfl ?_
          refine zz_if_eq hx 189 dL_modifies_121 rfl (by decide) (fun z => absurd z (by decide)) (fun _ => ?_)
          refine zz_aload_n hx dL_modifies_124 rfl ?_
          refine zz_iload hx dL_modifies_125 rfl ?_
          refine zz_iload hx dL_modifies_127 rfl ?_
          refine zz_callVi hx me_X3_ownerOf lk_L_36 (q_X3_ownerOf hst hJ1.1 hJ1.2.1 (I 2) ⟨hi20.1, hi20.2.2.1⟩ hi20.2.2.2 k hk9) 0 rfl rfl ⟨rfl, rfl⟩ (by decide) (by decide) rfl rfl (Nat.le_of_ble_eq_true rfl) dL_modifies_129 (fun _ _ h => h.elim) (fun r129 w129 hp129 => ?_)
          obtain ⟨rfl, rfl⟩ := hp129
          refine zz_istore (lv' := [(0, _), (1, _), (2, _), (3, _), (4, _), (5, _), (6, _), (7, _), (8, _), (9, _), (10, _), (11, _)]) hx dL_modifies_132 (by decide) rfl ?_
          refine zz_iload hx dL_modifies_134 rfl ?_
          refine zz_if_lt hx 176 dL_modifies_136 rfl (by omega) (fun c136 => ?_) (fun c136 => ?_)
          · refine zz_iconst hx dL_modifies_176 ?_
            refine zz_goto hx 181 dL_modifies_177 rfl ?_
            refine zz_istore (lv' := [(0, _), (1, _), (2, _), (3, _), (4, _), (5, _), (6, _), (7, _), (8, _), (9, _), (10, _), (11, _)]) hx dL_modifies_181 (by decide) rfl ?_
            refine zz_iinc (lv' := [(0, _), (1, _), (2, _), (3, _), (4, _), (5, _), (6, _), (7, _), (8, _), (9, _), (10, _), (11, _)]) hx dL_modifies_183 (by decide) rfl rfl ?_
            refine zz_goto hx 110 dL_modifies_186 rfl ?_
            refine zz_sub (lv' := [(0, _), (1, _), (2, _), (3, _), (4, _), (5, _), (6, _), (7, _), (8, _), (9, _), (10, _)]) (by first | exact fun q9 hq9 => hq9 | exact fun q9 hq9 => List.mem_append_left [_] hq9 | exact fun q9 hq9 => List.mem_append_left [_, _] hq9 | exact fun q9 hq9 => List.mem_append_left [_, _, _] hq9 | exact fun q9 hq9 => List.mem_append_left [_, _, _, _] hq9 | exact fun q9 hq9 => List.mem_append_left [_, _, _, _, _] hq9 | exact fun q9 hq9 => List.mem_append_left [_, _, _, _, _, _] hq9 | exact fun q9 hq9 => List.mem_append_left [_, _, _, _, _, _, _] hq9 | exact fun q9 hq9 => List.mem_append_left [_, _, _, _, _, _, _, _] hq9) ?_
            exact ih (k + 1) (by omega) (by omega) (by omega)
          · refine zz_aload_n hx dL_modifies_139 rfl ?_
            refine zz_iconst hx dL_modifies_140 ?_
            refine zz_iload hx dL_modifies_141 rfl ?_
            refine zz_imul hx dL_modifies_143 ?_
            refine zz_iconst hx dL_modifies_144 ?_
            refine zz_iadd hx dL_modifies_145 ?_
            refine zr_ld hx 0 rfl (by decide) (by omega) (by omega) dL_modifies_146 ?_
            refine zz_iconst hx dL_modifies_147 ?_
            refine zz_icmp_ne hx 176 dL_modifies_148 rfl (by omega) (by omega) (fun c148 => ?_) (fun c148 => ?_)
            · refine zz_iconst hx dL_modifies_176 ?_
              refine zz_goto hx 181 dL_modifies_177 rfl ?_
              refine zz_istore (lv' := [(0, _), (1, _), (2, _), (3, _), (4, _), (5, _), (6, _), (7, _), (8, _), (9, _), (10, _), (11, _)]) hx dL_modifies_181 (by decide) rfl ?_
              refine zz_iinc (lv' := [(0, _), (1, _), (2, _), (3, _), (4, _), (5, _), (6, _), (7, _), (8, _), (9, _), (10, _), (11, _)]) hx dL_modifies_183 (by decide) rfl rfl ?_
              refine zz_goto hx 110 dL_modifies_186 rfl ?_
              refine zz_sub (lv' := [(0, _), (1, _), (2, _), (3, _), (4, _), (5, _), (6, _), (7, _), (8, _), (9, _), (10, _)]) (by first | exact fun q9 hq9 => hq9 | exact fun q9 hq9 => List.mem_append_left [_] hq9 | exact fun q9 hq9 => List.mem_append_left [_, _] hq9 | exact fun q9 hq9 => List.mem_append_left [_, _, _] hq9 | exact fun q9 hq9 => List.mem_append_left [_, _, _, _] hq9 | exact fun q9 hq9 => List.mem_append_left [_, _, _, _, _] hq9 | exact fun q9 hq9 => List.mem_append_left [_, _, _, _, _, _] hq9 | exact fun q9 hq9 => List.mem_append_left [_, _, _, _, _, _, _] hq9 | exact fun q9 hq9 => List.mem_append_left [_, _, _, _, _, _, _, _] hq9) ?_
              exact ih (k + 1) (by omega) (by omega) (by omega)
            · obtain ⟨hio, j9, hj9⟩ := hpl k h0 hk9.2 (by omega) (by omega)
              have hqn : (Gset Q 1 (zup (Q 1) (I 2) v)) 0 (ow k (I 2)) ≠ -1 := by
                have := (J_own hJ h0 hk9.2 hio).2.1
                show Q 0 (ow k (I 2)) ≠ -1
                omega
              have hp2 : plO ((Gset Q 1 (zup (Q 1) (I 2) v)) 1) (P k 2) (((mOf (ow k) (ow k (I 2)) (L1 k)).length : Int) - 1) (-1) (mOf (ow k) (ow k (I 2)) (L1 k)) (I 2) j9 := by rw [show P k 2 = 4 by omega]; exact hj9
              refine zz_aload_n hx dL_modifies_151 rfl ?_
              refine zz_aload_n hx dL_modifies_152 rfl ?_
              refine zz_iload hx dL_modifies_153 rfl ?_
              refine zz_iload hx dL_modifies_155 rfl ?_
              refine zz_iload hx dL_modifies_157 rfl ?_
              refine zz_aload_n hx dL_modifies_159 rfl ?_
              refine zz_iload hx dL_modifies_160 rfl ?_
              refine zz_iload hx dL_modifies_162 rfl ?_
              refine zz_callVi hx me_X3_members lk_L_39 (q_X3_members hst hJ1.1 hJ1.2.1 (ow k (I 2)) (by omega) hqn k hk9) 0 rfl rfl ⟨rfl, rfl⟩ (by decide) (by decide) rfl rfl (Nat.le_of_ble_eq_true rfl) dL_modifies_164 (fun _ _ h => h.elim) (fun r164 w164 hp164 => ?_)
              obtain ⟨hm9, rfl⟩ := hp164
              obtain rfl : r164 = ((mOf (ow k) (ow k (I 2)) (L1 k)).length : Int) := by
                rcases hm9 with z9 | z9
                · exact z9.2
                · exact absurd hio z9.1
              refine zz_iconst hx dL_modifies_167 ?_
              refine zz_isub hx dL_modifies_168 ?_
              refine zz_iconst hx dL_modifies_169 ?_
              refine zz_callSi hx ms_L_isPlaced lk_L_115 (l_isPlaced hst hJ1 hC hU1 hG k hk9 (ow k (I 2)) hio (I 2) (((mOf (ow k) (ow k (I 2)) (L1 k)).length : Int) - 1) (-1) j9 (by omega) hp2) ⟨rfl, rfl⟩ (by decide) (by decide) rfl rfl (Nat.le_of_ble_eq_true rfl) dL_modifies_170 (fun _ _ h => h.elim) (fun r170 w170 hp170 => ?_)
              obtain ⟨rfl, rfl⟩ := hp170
              refine zz_if_eq hx 180 dL_modifies_173 rfl (by decide) (fun z => absurd z (by decide)) (fun _ => ?_)
              refine zz_iconst hx dL_modifies_176 ?_
              refine zz_goto hx 181 dL_modifies_177 rfl ?_
              refine zz_istore (lv' := [(0, _), (1, _), (2, _), (3, _), (4, _), (5, _), (6, _), (7, _), (8, _), (9, _), (10, _), (11, _)]) hx dL_modifies_181 (by decide) rfl ?_
              refine zz_iinc (lv' := [(0, _), (1, _), (2, _), (3, _), (4, _), (5, _), (6, _), (7, _), (8, _), (9, _), (10, _), (11, _)]) hx dL_modifies_183 (by decide) rfl rfl ?_
              refine zz_goto hx 110 dL_modifies_186 rfl ?_
              refine zz_sub (lv' := [(0, _), (1, _), (2, _), (3, _), (4, _), (5, _), (6, _), (7, _), (8, _), (9, _), (10, _)]) (by first | exact fun q9 hq9 => hq9 | exact fun q9 hq9 => List.mem_append_left [_] hq9 | exact fun q9 hq9 => List.mem_append_left [_, _] hq9 | exact fun q9 hq9 => List.mem_append_left [_, _, _] hq9 | exact fun q9 hq9 => List.mem_append_left [_, _, _, _] hq9 | exact fun q9 hq9 => List.mem_append_left [_, _, _, _, _] hq9 | exact fun q9 hq9 => List.mem_append_left [_, _, _, _, _, _] hq9 | exact fun q9 hq9 => List.mem_append_left [_, _, _, _, _, _, _] hq9 | exact fun q9 hq9 => List.mem_append_left [_, _, _, _, _, _, _, _] hq9) ?_
              exact ih (k + 1) (by omega) (by omega) (by omega)
    refine zz_istore (lv' := [(0, _), (1, _), (2, _), (3, _), (4, _), (5, _), (6, _), (7, _)]) hx dL_modifies_27 (by decide) rfl ?_
    refine zz_iload hx dL_modifies_29 rfl ?_
    refine zz_if_ge hx 48 dL_modifies_31 rfl (by omega) (fun c31 => ?_) (fun c31 => ?_)
    · refine zz_aload_n hx dL_modifies_48 rfl ?_
      refine zz_iload hx dL_modifies_49 rfl ?_
      have hu9 := kU_at hU hI hi20.1 hi20.2.2.1
      refine zr_ld hx 1 rfl (by decide) (by omega) (by omega) dL_modifies_51 ?_
      refine zz_iconst hx dL_modifies_52 ?_
      refine zz_shr3 hx dL_modifies_53 (by omega) (by omega) ?_
      refine zz_sipush hx dL_modifies_54 rfl ?_
      refine zz_isub hx dL_modifies_57 ?_
      refine zz_istore (lv' := [(0, _), (1, _), (2, _), (3, _), (4, _), (5, _), (6, _), (7, _), (8, _)]) hx dL_modifies_58 (by decide) rfl ?_
      refine zz_aload_n hx dL_modifies_60 rfl ?_
      refine zz_iload hx dL_modifies_61 rfl ?_
      refine zz_aload_n hx dL_modifies_63 rfl ?_
      refine zz_iload hx dL_modifies_64 rfl ?_
      refine zr_ld hx 1 rfl (by decide) (by omega) (by omega) dL_modifies_66 ?_
      refine zz_bipush hx dL_modifies_67 rfl ?_
      refine zz_and7 hx dL_modifies_69 (by omega) (by omega) ?_
      refine zz_iload_n hx dL_modifies_70 rfl ?_
      refine zz_sipush hx dL_modifies_71 rfl ?_
      refine zz_iadd hx dL_modifies_74 ?_
      refine zz_iconst hx dL_modifies_75 ?_
      refine zz_shl3 hx dL_modifies_76 (by omega) (by omega) ?_
      refine zz_or8 hx dL_modifies_77 (by omega) (by omega) (by omega) (by omega) ?_
      refine zr_st1 hx (by decide) (by omega) (by omega) dL_modifies_78 ?_
      refine zz_iload hx dL_modifies_79 rfl ?_
      refine zz_iload hx dL_modifies_81 rfl ?_
      refine zz_icmp_ne hx 104 dL_modifies_83 rfl (by omega) (by omega) (fun c83 => ?_) (fun c83 => ?_)
      · omega
      · refine zz_aload_n hx dL_modifies_86 rfl ?_
        refine zz_aload_n hx dL_modifies_87 rfl ?_
        refine zz_aload_n hx dL_modifies_88 rfl ?_
        refine zz_aload hx dL_modifies_89 rfl ?_
        refine zz_iconst hx dL_modifies_91 ?_
        refine zz_aload hx dL_modifies_92 rfl ?_
        refine zz_callSi hx ms_L_isCurrent lk_L_108 (l_isCurrent hst hJ1 hC hU1 hG (-1) (Or.inl rfl) (isC_no hW2) (nW_rng hJ hW1)) ⟨rfl, rfl⟩ (by decide) (by decide) rfl rfl (Nat.le_of_ble_eq_true rfl) dL_modifies_94 (fun _ _ h => h.elim) (fun r94 w94 hp94 => ?_)
        obtain ⟨rfl, rfl⟩ := hp94
        refine zz_if_eq hx 104 dL_modifies_97 rfl (by decide) (fun z => absurd z (by decide)) (fun _ => ?_)
        refine zz_iconst hx dL_modifies_100 ?_
        refine zz_goto hx 105 dL_modifies_101 rfl ?_
        refine zz_istore (lv' := [(0, _), (1, _), (2, _), (3, _), (4, _), (5, _), (6, _), (7, _), (8, _), (9, _)]) hx dL_modifies_105 (by decide) rfl ?_
        refine zz_iconst hx dL_modifies_107 ?_
        refine zz_istore (lv' := [(0, _), (1, _), (2, _), (3, _), (4, _), (5, _), (6, _), (7, _), (8, _), (9, _), (10, _)]) hx dL_modifies_108 (by decide) rfl ?_
        exact loop (N + 1) 0 (by omega) (by omega) (by omega)
    · omega
