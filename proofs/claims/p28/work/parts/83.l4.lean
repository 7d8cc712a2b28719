/-! the law: the whole base; who goes with a record; a draw -/

set_option maxHeartbeats 4000000 in
set_option maxRecDepth 100000 in
theorem l_isBase {l : Launch} {g : zG} {b : Nat → Nat} {c : Int → Nat → Nat} {I : Nat → Int} {Q : Nat → Int → Int} {P : Int → Nat → Int} {T : Int → Nat → Int → Int} {N : Nat} {ow : Int → Int → Int} {isO : Int → Int → Prop} {L : Int → List Int} {rest : va_W} (hst : l.stackTraces = false) {gA tA cA : Nat} {Gr U C : Int → Int} (hJ : J I Q P T N ow isO L) (hC : kC I N C) (hU : kU Q U) (hG : kG P N Gr) : zM l g yL_isBase cL_isBase 8 (Option.some FieldType.boolean) ({ frames := 6, cells := 0, slots := 0, locals := 143 } : Room) [.ref (b 0), .ref gA, .ref tA, .ref cA] (wD g b c I Q P T N (rA g gA 30 Gr :: rA g tA 60 U :: rA g cA 3 C :: rest)) (zI fun v w => v = 1 ∧ w = (wD g b c I Q P T N (rA g gA 30 Gr :: rA g tA 60 U :: rA g cA 3 C :: rest))) zN 0 0 := by
  have hI := hJ.1
  have hS := hJ.2.1
  have hi0 := hI.2.2.2.2.2.2.1
  have hN6 := hI.2.1
  obtain ⟨hc0, hc1, hc2⟩ := id hC
  have hi1 := J_I1 hJ
  have hi2 := hI.2.2.1
  have hU2 := hJ.2.2.2.2.2.2.1
  have hI5 := hI.1
  refine zM_of (lv0 := [(0, _), (1, _), (2, _), (3, _)]) hst rfl (by decide +kernel) (Nat.le_of_ble_eq_true rfl) rfl (fun x hx hf hn => ?_)
  have hcn : pc (Q 0) (I 0).toNat = I 1 := hJ.2.2.2.2.2.2.2.2.symm
  have loopC : ∀ (n : Nat) (k : Int), 0 ≤ k → k ≤ (N : Int) → ((N : Int) - k).toNat < n → Z l g ({ frames := 6, cells := 0, slots := 0, locals := 143 } : Room) 8 x 0 0 (wD g b c I Q P T N (rA g gA 30 Gr :: rA g tA 60 U :: rA g cA 3 C :: rest)) 186 [(0, .ref (b 0)), (1, .ref gA), (2, .ref tA), (3, .ref cA), (4, vi (pc (Q 0) (I 0).toNat)), (5, vi 1), (6, vi k)] [] := by
    intro n
    induction n with
    | zero => intro k h0 h1 hm; omega
    | succ n ih =>
      intro k h0 h1 hm
      refine zz_iload hx dL_isBase_186 rfl ?_
      refine zz_aload_n hx dL_isBase_188 rfl ?_
      refine zz_iconst hx dL_isBase_189 ?_
      refine zr_ld hx 2 rfl (by decide) (by omega) (by omega) dL_isBase_190 ?_
      refine zz_icmp_ge hx 216 dL_isBase_191 rfl (by omega) (by omega) (fun c191 => ?_) (fun c191 => ?_)
      · refine zz_iload hx dL_isBase_216 rfl ?_
        refine zz_if_eq hx 250 dL_isBase_218 rfl (by decide) (fun z => absurd z (by decide)) (fun _ => ?_)
        refine zz_iload hx dL_isBase_221 rfl ?_
        refine zz_aload_n hx dL_isBase_223 rfl ?_
        refine zz_iconst hx dL_isBase_224 ?_
        refine zr_ld hx 2 rfl (by decide) (by omega) (by omega) dL_isBase_225 ?_
        refine zz_icmp_ne hx 250 dL_isBase_226 rfl (by omega) (by omega) (fun c226 => ?_) (fun c226 => ?_)
        · omega
        · refine zz_aload_n hx dL_isBase_229 rfl ?_
          refine zz_callVi hx me_X3_current lk_L_74 (k_X3_current hst) 0 rfl rfl ⟨rfl, rfl⟩ (by decide) (by decide) rfl rfl (Nat.le_of_ble_eq_true rfl) dL_isBase_230 (fun _ _ h => h.elim) (fun r230 w230 hp230 => ?_)
          obtain ⟨rfl, rfl⟩ := hp230
          refine zz_iconst hx dL_isBase_233 ?_
          refine zz_icmp_eq hx 246 dL_isBase_234 rfl (by omega) (by omega) (fun c234 => ?_) (fun c234 => ?_)
          · refine zz_iconst hx dL_isBase_246 ?_
            refine zz_goto hx 251 dL_isBase_247 rfl ?_
            exact zz_zret hx hf dL_isBase_251 (Or.inr rfl) ⟨_, rfl, rfl, rfl⟩ (by decide) (by decide)
          · have hq9 := hU2 (by omega)
            have hu9 := kU_at hU hI (k := I 2) (by omega) (by omega)
            refine zz_aload_n hx dL_isBase_237 rfl ?_
            refine zz_aload_n hx dL_isBase_238 rfl ?_
            refine zz_callVi hx me_X3_current lk_L_74 (k_X3_current hst) 0 rfl rfl ⟨rfl, rfl⟩ (by decide) (by decide) rfl rfl (Nat.le_of_ble_eq_true rfl) dL_isBase_239 (fun _ _ h => h.elim) (fun r239 w239 hp239 => ?_)
            obtain ⟨rfl, rfl⟩ := hp239
            refine zr_ld hx 1 rfl (by decide) (by omega) (by omega) dL_isBase_242 ?_
            refine zz_if_eq hx 250 dL_isBase_243 rfl (by omega) (fun c243 => ?_) (fun c243 => ?_)
            · omega
            · refine zz_iconst hx dL_isBase_246 ?_
              refine zz_goto hx 251 dL_isBase_247 rfl ?_
              exact zz_zret hx hf dL_isBase_251 (Or.inr rfl) ⟨_, rfl, rfl, rfl⟩ (by decide) (by decide)
      · refine zz_iload hx dL_isBase_194 rfl ?_
        refine zz_if_eq hx 216 dL_isBase_196 rfl (by decide) (fun z => absurd z (by decide)) (fun _ => ?_)
        refine zz_aload_n hx dL_isBase_199 rfl ?_
        refine zz_aload_n hx dL_isBase_200 rfl ?_
        refine zz_aload_n hx dL_isBase_201 rfl ?_
        refine zz_aload_n hx dL_isBase_202 rfl ?_
        refine zz_iload hx dL_isBase_203 rfl ?_
        refine zz_callSi hx ms_L_isSet lk_L_68 (l_isSet hst hJ hC hU hG k ⟨h0, by omega⟩) ⟨rfl, rfl⟩ (by decide) (by decide) rfl rfl (Nat.le_of_ble_eq_true rfl) dL_isBase_205 (fun _ _ h => h.elim) (fun r205 w205 hp205 => ?_)
        obtain ⟨rfl, rfl⟩ := hp205
        refine zz_istore (lv' := [(0, _), (1, _), (2, _), (3, _), (4, _), (5, _), (6, _)]) hx dL_isBase_208 (by decide) rfl ?_
        refine zz_iinc (lv' := [(0, _), (1, _), (2, _), (3, _), (4, _), (5, _), (6, _)]) hx dL_isBase_210 (by decide) rfl rfl ?_
        refine zz_goto hx 186 dL_isBase_213 rfl ?_
        exact ih (k + 1) (by omega) (by omega) (by omega)
  have loopB : ∀ (n : Nat) (k : Int), 0 ≤ k → k ≤ 4 → ((4 : Int) - k).toNat < n → Z l g ({ frames := 6, cells := 0, slots := 0, locals := 143 } : Room) 8 x 0 0 (wD g b c I Q P T N (rA g gA 30 Gr :: rA g tA 60 U :: rA g cA 3 C :: rest)) 123 [(0, .ref (b 0)), (1, .ref gA), (2, .ref tA), (3, .ref cA), (4, vi (pc (Q 0) (I 0).toNat)), (5, vi 1), (6, vi k)] [] := by
    intro n
    induction n with
    | zero => intro k h0 h1 hm; omega
    | succ n ih =>
      intro k h0 h1 hm
      refine zz_iload hx dL_isBase_123 rfl ?_
      refine zz_iconst hx dL_isBase_125 ?_
      refine zz_icmp_ge hx 183 dL_isBase_126 rfl (by omega) (by omega) (fun c126 => ?_) (fun c126 => ?_)
      · refine zz_iconst hx dL_isBase_183 ?_
        refine zz_istore (lv' := [(0, _), (1, _), (2, _), (3, _), (4, _), (5, _), (6, _)]) hx dL_isBase_184 (by decide) rfl ?_
        refine zz_sub (lv' := [(0, _), (1, _), (2, _), (3, _), (4, _), (5, _), (6, _)]) (by first | exact fun q9 hq9 => hq9 | exact fun q9 hq9 => List.mem_append_left [_] hq9 | exact fun q9 hq9 => List.mem_append_left [_, _] hq9 | exact fun q9 hq9 => List.mem_append_left [_, _, _] hq9 | exact fun q9 hq9 => List.mem_append_left [_, _, _, _] hq9 | exact fun q9 hq9 => List.mem_append_left [_, _, _, _, _] hq9 | exact fun q9 hq9 => List.mem_append_left [_, _, _, _, _, _] hq9 | exact fun q9 hq9 => List.mem_append_left [_, _, _, _, _, _, _] hq9 | exact fun q9 hq9 => List.mem_append_left [_, _, _, _, _, _, _, _] hq9) ?_
        exact loopC (N + 1) 0 (by omega) (by omega) (by omega)
      · have hq2 := hI.2.2.2.2.2.1 k h0 (by omega)
        have hqt := hJ.2.2.2.2.2.1 k h0 (by omega)
        refine zz_aload_n hx dL_isBase_129 rfl ?_
        refine zz_iload hx dL_isBase_130 rfl ?_
        refine zz_callVi hx me_X3_currentOf lk_L_65 (q_X3_currentOf hst hI k (by omega)) 0 rfl rfl ⟨rfl, rfl⟩ (by decide) (by decide) rfl rfl (Nat.le_of_ble_eq_true rfl) dL_isBase_132 (fun _ _ h => h.elim) (fun r132 w132 hp132 => ?_)
        obtain ⟨rfl, rfl⟩ := hp132
        refine zz_istore (lv' := [(0, _), (1, _), (2, _), (3, _), (4, _), (5, _), (6, _), (7, _)]) hx dL_isBase_135 (by decide) rfl ?_
        refine zz_iload hx dL_isBase_137 rfl ?_
        refine zz_if_eq hx 174 dL_isBase_139 rfl (by decide) (fun z => absurd z (by decide)) (fun _ => ?_)
        refine zz_iload hx dL_isBase_142 rfl ?_
        refine zz_iconst hx dL_isBase_144 ?_
        refine zz_icmp_eq hx 170 dL_isBase_145 rfl (by omega) (by omega) (fun c145 => ?_) (fun c145 => ?_)
        · refine zz_iconst hx dL_isBase_170 ?_
          refine zz_goto hx 175 dL_isBase_171 rfl ?_
          refine zz_istore (lv' := [(0, _), (1, _), (2, _), (3, _), (4, _), (5, _), (6, _), (7, _)]) hx dL_isBase_175 (by decide) rfl ?_
          refine zz_iinc (lv' := [(0, _), (1, _), (2, _), (3, _), (4, _), (5, _), (6, _), (7, _)]) hx dL_isBase_177 (by decide) rfl rfl ?_
          refine zz_goto hx 123 dL_isBase_180 rfl ?_
          refine zz_sub (lv' := [(0, _), (1, _), (2, _), (3, _), (4, _), (5, _), (6, _)]) (by first | exact fun q9 hq9 => hq9 | exact fun q9 hq9 => List.mem_append_left [_] hq9 | exact fun q9 hq9 => List.mem_append_left [_, _] hq9 | exact fun q9 hq9 => List.mem_append_left [_, _, _] hq9 | exact fun q9 hq9 => List.mem_append_left [_, _, _, _] hq9 | exact fun q9 hq9 => List.mem_append_left [_, _, _, _, _] hq9 | exact fun q9 hq9 => List.mem_append_left [_, _, _, _, _, _] hq9 | exact fun q9 hq9 => List.mem_append_left [_, _, _, _, _, _, _] hq9 | exact fun q9 hq9 => List.mem_append_left [_, _, _, _, _, _, _, _] hq9) ?_
          exact ih (k + 1) (by omega) (by omega) (by omega)
        · have hqt9 := hqt (by omega)
          have hn9 := J_new hJ (u := Q 2 k) (by omega) (by omega) (by omega)
          have hu9 := kU_at hU hI (k := Q 2 k) (by omega) (by omega)
          refine zz_iload hx dL_isBase_148 rfl ?_
          refine zz_aload_n hx dL_isBase_150 rfl ?_
          refine zz_iconst hx dL_isBase_151 ?_
          refine zr_ld hx 2 rfl (by decide) (by omega) (by omega) dL_isBase_152 ?_
          refine zz_icmp_ge hx 174 dL_isBase_153 rfl (by omega) (by omega) (fun c153 => ?_) (fun c153 => ?_)
          · omega
          · refine zz_aload_n hx dL_isBase_156 rfl ?_
            refine zz_iload hx dL_isBase_157 rfl ?_
            refine zr_ld hx 1 rfl (by decide) (by omega) (by omega) dL_isBase_159 ?_
            refine zz_bipush hx dL_isBase_160 rfl ?_
            refine zz_and7 hx dL_isBase_162 (by omega) (by omega) ?_
            refine zz_iconst hx dL_isBase_163 ?_
            refine zz_isub hx dL_isBase_164 ?_
            refine zz_iload hx dL_isBase_165 rfl ?_
            refine zz_icmp_ne hx 174 dL_isBase_167 rfl (by omega) (by omega) (fun c167 => ?_) (fun c167 => ?_)
            · omega
            · refine zz_iconst hx dL_isBase_170 ?_
              refine zz_goto hx 175 dL_isBase_171 rfl ?_
              refine zz_istore (lv' := [(0, _), (1, _), (2, _), (3, _), (4, _), (5, _), (6, _), (7, _)]) hx dL_isBase_175 (by decide) rfl ?_
              refine zz_iinc (lv' := [(0, _), (1, _), (2, _), (3, _), (4, _), (5, _), (6, _), (7, _)]) hx dL_isBase_177 (by decide) rfl rfl ?_
              refine zz_goto hx 123 dL_isBase_180 rfl ?_
              refine zz_sub (lv' := [(0, _), (1, _), (2, _), (3, _), (4, _), (5, _), (6, _)]) (by first | exact fun q9 hq9 => hq9 | exact fun q9 hq9 => List.mem_append_left [_] hq9 | exact fun q9 hq9 => List.mem_append_left [_, _] hq9 | exact fun q9 hq9 => List.mem_append_left [_, _, _] hq9 | exact fun q9 hq9 => List.mem_append_left [_, _, _, _] hq9 | exact fun q9 hq9 => List.mem_append_left [_, _, _, _, _] hq9 | exact fun q9 hq9 => List.mem_append_left [_, _, _, _, _, _] hq9 | exact fun q9 hq9 => List.mem_append_left [_, _, _, _, _, _, _] hq9 | exact fun q9 hq9 => List.mem_append_left [_, _, _, _, _, _, _, _] hq9) ?_
              exact ih (k + 1) (by omega) (by omega) (by omega)
  have loopA : ∀ (n : Nat) (k : Int), 0 ≤ k → k ≤ I 0 → (I 0 - k).toNat < n → Z l g ({ frames := 6, cells := 0, slots := 0, locals := 143 } : Room) 8 x 0 0 (wD g b c I Q P T N (rA g gA 30 Gr :: rA g tA 60 U :: rA g cA 3 C :: rest)) 33 [(0, .ref (b 0)), (1, .ref gA), (2, .ref tA), (3, .ref cA), (4, vi (pc (Q 0) k.toNat)), (5, vi 1), (6, vi k)] [] := by
    intro n
    induction n with
    | zero => intro k h0 h1 hm; omega
    | succ n ih =>
      intro k h0 h1 hm
      have j60 : k < I 0 → ∀ i : Int, ((i = 0 ∧ Q 0 k = -1) ∨ (i = 1 ∧ ¬ Q 0 k = -1)) → Z l g ({ frames := 6, cells := 0, slots := 0, locals := 143 } : Room) 8 x 0 0 (wD g b c I Q P T N (rA g gA 30 Gr :: rA g tA 60 U :: rA g cA 3 C :: rest)) 60 [(0, .ref (b 0)), (1, .ref gA), (2, .ref tA), (3, .ref cA), (4, vi (pc (Q 0) k.toNat)), (5, vi 1), (6, vi k)] [vi i, vi (pc (Q 0) k.toNat)] := by
        intro hk9 i hi9
        have hu9 := kU_at hU hI (k := k) (by omega) (by omega)
        have e9 : pc (Q 0) k.toNat + i = pc (Q 0) (k + 1).toNat := by
          rw [show (k + 1).toNat = k.toNat + 1 by omega]
          show _ = pc (Q 0) k.toNat + (if Q 0 (k.toNat : Int) = -1 then 0 else 1)
          rw [show (k.toNat : Int) = k by omega]
          rcases hi9 with ⟨z1, z2⟩ | ⟨z1, z2⟩
          · rw [if_pos z2]; omega
          · rw [if_neg z2]; omega
        refine zz_iadd hx dL_isBase_60 ?_
        refine zz_istore (lv' := [(0, _), (1, _), (2, _), (3, _), (4, _), (5, _), (6, _)]) hx dL_isBase_61 (by decide) rfl ?_
        refine zz_aload_n hx dL_isBase_63 rfl ?_
        refine zz_iload hx dL_isBase_64 rfl ?_
        refine zr_ld hx 1 rfl (by decide) (by omega) (by omega) dL_isBase_66 ?_
        refine zz_if_eq hx 107 dL_isBase_67 rfl (by omega) (fun c67 => ?_) (fun c67 => ?_)
        · refine zz_iconst hx dL_isBase_107 ?_
          refine zz_goto hx 112 dL_isBase_108 rfl ?_
          refine zz_istore (lv' := [(0, _), (1, _), (2, _), (3, _), (4, _), (5, _), (6, _)]) hx dL_isBase_112 (by decide) rfl ?_
          refine zz_iinc (lv' := [(0, _), (1, _), (2, _), (3, _), (4, _), (5, _), (6, _)]) hx dL_isBase_114 (by decide) rfl rfl ?_
          refine zz_goto hx 33 dL_isBase_117 rfl ?_
          rw [e9]
          exact ih (k + 1) (by omega) (by omega) (by omega)
        · have hqn : Q 0 k ≠ -1 := by omega
          refine zz_aload_n hx dL_isBase_70 rfl ?_
          refine zz_iload hx dL_isBase_71 rfl ?_
          refine zz_callVi hx me_X3_typeOf lk_L_62 (q_X3_typeOf hst hI k (by omega) hqn) 0 rfl rfl ⟨rfl, rfl⟩ (by decide) (by decide) rfl rfl (Nat.le_of_ble_eq_true rfl) dL_isBase_73 (fun _ _ h => h.elim) (fun r73 w73 hp73 => ?_)
          obtain ⟨rfl, rfl⟩ := hp73
          refine zz_aload_n hx dL_isBase_76 rfl ?_
          refine zz_iload hx dL_isBase_77 rfl ?_
          refine zr_ld hx 1 rfl (by decide) (by omega) (by omega) dL_isBase_79 ?_
          refine zz_bipush hx dL_isBase_80 rfl ?_
          refine zz_and7 hx dL_isBase_82 (by omega) (by omega) ?_
          refine zz_iconst hx dL_isBase_83 ?_
          refine zz_isub hx dL_isBase_84 ?_
          refine zz_icmp_ne hx 111 dL_isBase_85 rfl (by omega) (by omega) (fun c85 => ?_) (fun c85 => ?_)
          · omega
          · refine zz_aload_n hx dL_isBase_88 rfl ?_
            refine zz_iload hx dL_isBase_89 rfl ?_
            refine zz_callVi hx me_X3_valueOf lk_L_49 (q_X3_valueOf hst hI k (by omega) hqn) 0 rfl rfl ⟨rfl, rfl⟩ (by decide) (by decide) rfl rfl (Nat.le_of_ble_eq_true rfl) dL_isBase_91 (fun _ _ h => h.elim) (fun r91 w91 hp91 => ?_)
            obtain ⟨rfl, rfl⟩ := hp91
            refine zz_aload_n hx dL_isBase_94 rfl ?_
            refine zz_iload hx dL_isBase_95 rfl ?_
            refine zr_ld hx 1 rfl (by decide) (by omega) (by omega) dL_isBase_97 ?_
            refine zz_iconst hx dL_isBase_98 ?_
            refine zz_shr3 hx dL_isBase_99 (by omega) (by omega) ?_
            refine zz_sipush hx dL_isBase_100 rfl ?_
            refine zz_isub hx dL_isBase_103 ?_
            refine zz_icmp_ne hx 111 dL_isBase_104 rfl (by omega) (by omega) (fun c104 => ?_) (fun c104 => ?_)
            · omega
            · refine zz_iconst hx dL_isBase_107 ?_
              refine zz_goto hx 112 dL_isBase_108 rfl ?_
              refine zz_istore (lv' := [(0, _), (1, _), (2, _), (3, _), (4, _), (5, _), (6, _)]) hx dL_isBase_112 (by decide) rfl ?_
              refine zz_iinc (lv' := [(0, _), (1, _), (2, _), (3, _), (4, _), (5, _), (6, _)]) hx dL_isBase_114 (by decide) rfl rfl ?_
              refine zz_goto hx 33 dL_isBase_117 rfl ?_
              rw [e9]
              exact ih (k + 1) (by omega) (by omega) (by omega)
      refine zz_iload hx dL_isBase_33 rfl ?_
      refine zz_aload_n hx dL_isBase_35 rfl ?_
      refine zz_iconst hx dL_isBase_36 ?_
      refine zr_ld hx 2 rfl (by decide) (by omega) (by omega) dL_isBase_37 ?_
      refine zz_icmp_ge hx 120 dL_isBase_38 rfl (by omega) (by omega) (fun c38 => ?_) (fun c38 => ?_)
      · refine zz_iconst hx dL_isBase_120 ?_
        refine zz_istore (lv' := [(0, _), (1, _), (2, _), (3, _), (4, _), (5, _), (6, _)]) hx dL_isBase_121 (by decide) rfl ?_
        rw [show k = I 0 by omega]
        exact loopB 5 0 (by omega) (by omega) (by omega)
      · have hu9 := kU_at hU hI (k := k) (by omega) (by omega)
        refine zz_iload hx dL_isBase_41 rfl ?_
        refine zz_if_eq hx 120 dL_isBase_43 rfl (by decide) (fun z => absurd z (by decide)) (fun _ => ?_)
        refine zz_iload hx dL_isBase_46 rfl ?_
        refine zz_aload_n hx dL_isBase_48 rfl ?_
        refine zz_iload hx dL_isBase_49 rfl ?_
        refine zr_ld hx 1 rfl (by decide) (by omega) (by omega) dL_isBase_51 ?_
        refine zz_if_ne hx 59 dL_isBase_52 rfl (by omega) (fun c52 => ?_) (fun c52 => ?_)
        · refine zz_iconst hx dL_isBase_59 ?_
          exact j60 (by omega) _ (by omega)
        · refine zz_iconst hx dL_isBase_55 ?_
          refine zz_goto hx 60 dL_isBase_56 rfl ?_
          exact j60 (by omega) _ (by omega)
  refine zz_iconst hx dL_isBase_0 ?_
  refine zz_istore (lv' := [(0, _), (1, _), (2, _), (3, _), (4, _)]) hx dL_isBase_1 (by decide) rfl ?_
  refine zz_aload_n hx dL_isBase_3 rfl ?_
  refine zz_callVi hx me_X3_setTypes lk_L_55 (k_X3_setTypes hst) 0 rfl rfl ⟨rfl, rfl⟩ (by decide) (by decide) rfl rfl (Nat.le_of_ble_eq_true rfl) dL_isBase_4 (fun _ _ h => h.elim) (fun r4 w4 hp4 => ?_)
  obtain ⟨rfl, rfl⟩ := hp4
  refine zz_aload_n hx dL_isBase_7 rfl ?_
  refine zz_iconst hx dL_isBase_8 ?_
  refine zr_ld hx 2 rfl (by decide) (by omega) (by omega) dL_isBase_9 ?_
  refine zz_icmp_ne hx 27 dL_isBase_10 rfl (by omega) (by omega) (fun c10 => ?_) (fun c10 => ?_)
  · omega
  · refine zz_aload_n hx dL_isBase_13 rfl ?_
    refine zz_callVi hx me_X3_records lk_L_59 (k_X3_records hst) 0 rfl rfl ⟨rfl, rfl⟩ (by decide) (by decide) rfl rfl (Nat.le_of_ble_eq_true rfl) dL_isBase_14 (fun _ _ h => h.elim) (fun r14 w14 hp14 => ?_)
    obtain ⟨rfl, rfl⟩ := hp14
    refine zz_aload_n hx dL_isBase_17 rfl ?_
    refine zz_iconst hx dL_isBase_18 ?_
    refine zr_ld hx 2 rfl (by decide) (by omega) (by omega) dL_isBase_19 ?_
    refine zz_icmp_ne hx 27 dL_isBase_20 rfl (by omega) (by omega) (fun c20 => ?_) (fun c20 => ?_)
    · omega
    · refine zz_iconst hx dL_isBase_23 ?_
      refine zz_goto hx 28 dL_isBase_24 rfl ?_
      refine zz_istore (lv' := [(0, _), (1, _), (2, _), (3, _), (4, _), (5, _)]) hx dL_isBase_28 (by decide) rfl ?_
      refine zz_iconst hx dL_isBase_30 ?_
      refine zz_istore (lv' := [(0, _), (1, _), (2, _), (3, _), (4, _), (5, _), (6, _)]) hx dL_isBase_31 (by decide) rfl ?_
      exact loopA ((I 0).toNat + 1) 0 (by omega) (by omega) (by omega)

/-- who goes with r -/
def clG (P : Int → Nat → Int) (ow : Int → Int → Int) (isO : Int → Int → Prop) (L : Int → List Int) (N : Nat) (way r u : Int) : Prop := ∀ X : Int → Prop, X r → (∀ q v s : Int, X q → 0 ≤ s → s < (N : Int) → gRl P ow isO L way q v s → X v) → X u

set_option maxHeartbeats 4000000 in
set_option maxRecDepth 100000 in
theorem l_goes {l : Launch} {g : zG} {b : Nat → Nat} {c : Int → Nat → Nat} {I : Nat → Int} {Q : Nat → Int → Int} {P : Int → Nat → Int} {T : Int → Nat → Int → Int} {N : Nat} {ow : Int → Int → Int} {isO : Int → Int → Prop} {L : Int → List Int} {rest : va_W} (hst : l.stackTraces = false) {gA tA cA : Nat} {Gr U C : Int → Int} (hJ : J I Q P T N ow isO L) (hC : kC I N C) (hU : kU Q U) (hG : kG P N Gr) (hN0 : 0 < N) (r way : Int) (hr : (0 ≤ r ∧ r < 60) ∧ Q 0 r ≠ -1) (hway : 0 ≤ way ∧ way ≤ 2) : zM l g yL_goes cL_goes 14 (Option.some FieldType.long) ({ frames := 5, cells := 0, slots := 0, locals := 108 } : Room) [.ref (b 0), .ref gA, .ref tA, .ref cA, vi r, vi way] (wD g b c I Q P T N (rA g gA 30 Gr :: rA g tA 60 U :: rA g cA 3 C :: rest)) (zJ fun y w => w = (wD g b c I Q P T N (rA g gA 30 Gr :: rA g tA 60 U :: rA g cA 3 C :: rest)) ∧ lb y r ∧ (∀ u : Int, 0 ≤ u → u < 64 → lb y u → clG P ow isO L N way r u) ∧ ∀ q v s : Int, 0 ≤ q → q < 64 → lb y q → 0 ≤ s → s < (N : Int) → gRl P ow isO L way q v s → lb y v) zN 0 0 := by
  have hI := hJ.1
  have hS := hJ.2.1
  have hi0 := hI.2.2.2.2.2.2.1
  have hN6 := hI.2.1
  obtain ⟨hc0, hc1, hc2⟩ := id hC
  have hrn := J_new hJ hr.1.1 hr.1.2 hr.2
  have hclr : ∀ u : Int, clG P ow isO L N way r u → 0 ≤ u ∧ u < I 0 := fun u hu => hu (fun u => 0 ≤ u ∧ u < I 0) ⟨hr.1.1, hrn⟩ (fun q v s _ s0 s1 hg => ((J_mm hJ s0 s1 hg.1).2.2 v hg.2.2).1)
  have htot0 : 0 ≤ (N : Int) * I 0 := Int.mul_nonneg (by omega) (by omega)
  have htot1 : (N : Int) * I 0 ≤ 6 * 60 := Int.mul_le_mul (by omega) (by omega) (by omega) (by omega)
  refine zM_of (lv0 := [(0, _), (1, _), (2, _), (3, _), (4, _), (5, _)]) hst rfl (by decide +kernel) (Nat.le_of_ble_eq_true rfl) rfl (fun x hx hf hn => ?_)
  have outer : ∀ (n : Nat) (y w : Int64), (lb y r ∧ ∀ u : Int, 0 ≤ u → u < 64 → lb y u → clG P ow isO L N way r u) → (∀ j : Int, 0 ≤ j → j < ((N : Int) * I 0) → 0 ≤ ow (j % (N : Int)) (j / (N : Int)) → (way = 2 ∨ (way ≠ 0 ∧ P (j % (N : Int)) 4 ≠ 2)) → lb w (ow (j % (N : Int)) (j / (N : Int))) → lb y (j / (N : Int))) → 2 * lbM y + (if y = w then 0 else 1) < n → Z l g ({ frames := 5, cells := 0, slots := 0, locals := 108 } : Room) 14 x 0 0 (wD g b c I Q P T N (rA g gA 30 Gr :: rA g tA 60 U :: rA g cA 3 C :: rest)) 9 [(0, .ref (b 0)), (1, .ref gA), (2, .ref tA), (3, .ref cA), (4, vi r), (5, vi way), (6, .long y), (8, .long w)] [] := by
    intro n
    induction n with
    | zero => intro y w h1 h2 hm; omega
    | succ n ih =>
      intro y0 w h1 h2 hm
      have inner : ∀ (n1 : Nat) (k : Int) (y : Int64), ¬ y0 = w → 0 ≤ k → k ≤ ((N : Int) * I 0) → (lb y r ∧ ∀ u : Int, 0 ≤ u → u < 64 → lb y u → clG P ow isO L N way r u) → (∀ j : Int, 0 ≤ j → j < k → 0 ≤ ow (j % (N : Int)) (j / (N : Int)) → (way = 2 ∨ (way ≠ 0 ∧ P (j % (N : Int)) 4 ≠ 2)) → lb y0 (ow (j % (N : Int)) (j / (N : Int))) → lb y (j / (N : Int))) → (∃ z : Int64, y = y0 ||| z) → (((N : Int) * I 0) - k).toNat < n1 → Z l g ({ frames := 5, cells := 0, slots := 0, locals := 108 } : Room) 14 x 0 0 (wD g b c I Q P T N (rA g gA 30 Gr :: rA g tA 60 U :: rA g cA 3 C :: rest)) 24 [(0, .ref (b 0)), (1, .ref gA), (2, .ref tA), (3, .ref cA), (4, vi r), (5, vi way), (6, .long y), (8, .long y0), (10, vi k)] [] := by
        intro n1
        induction n1 with
        | zero => intro k y hne h0 h3 h4 h5 h6 hm1; omega
        | succ n1 ihB =>
          intro k y hne h0 h3 h4 h5 h6 hm1
          by_cases hk9 : k < ((N : Int) * I 0)
          · have s0 : 0 ≤ k % (N : Int) := Int.emod_nonneg k (by omega)
            have s1 : k % (N : Int) < (N : Int) := Int.emod_lt_of_pos k (by omega)
            have i0 : 0 ≤ k / (N : Int) := Int.ediv_nonneg h0 (by omega)
            have i1 : k / (N : Int) < I 0 := Int.ediv_lt_of_lt_mul (by omega) (by rw [Int.mul_comm]; exact hk9)
            have hg9 := kG_at hG hS (s := k % (N : Int)) ⟨s0, s1⟩
            have hu9 := kU_at hU hI (k := k / (N : Int)) i0 (by omega)
            have how := J_ow hJ s0 s1 i0 (show k / (N : Int) < 60 by omega)
            generalize hse : k % (N : Int) = s at *
            generalize hie : k / (N : Int) = its at *
            have hob : -1 ≤ ow s its ∧ ow s its < 60 := by
              rcases how with ⟨z, -⟩ | z
              · omega
              · exact ⟨by omega, by omega⟩
            have hoq : Q 0 its = -1 → ow s its = -1 := fun z9 => by
              rcases how with ⟨z, -⟩ | z
              · exact z
              · have := z.2.2.2.2.2.1; omega
            have j136 : ∀ z : Int64, (((0 ≤ ow s its ∧ (way = 2 ∨ (way ≠ 0 ∧ P s 4 ≠ 2)) ∧ lb y (ow s its)) ∧ z = 1 <<< ((Int32.ofInt its).toInt64 &&& 63)) ∨ (¬ (0 ≤ ow s its ∧ (way = 2 ∨ (way ≠ 0 ∧ P s 4 ≠ 2)) ∧ lb y (ow s its)) ∧ z = 0)) → ∀ hd : Int, Z l g ({ frames := 5, cells := 0, slots := 0, locals := 108 } : Room) 14 x 0 0 (wD g b c I Q P T N (rA g gA 30 Gr :: rA g tA 60 U :: rA g cA 3 C :: rest)) 136 [(0, .ref (b 0)), (1, .ref gA), (2, .ref tA), (3, .ref cA), (4, vi r), (5, vi way), (6, .long y), (8, .long y0), (10, vi k), (11, vi its), (12, vi (ow s its)), (13, vi hd)] [.long z, .long y] := by
              intro z hz9 hd
              refine zz_lor hx dL_goes_136 ?_
              refine zz_lstore (lv' := [(0, _), (1, _), (2, _), (3, _), (4, _), (5, _), (6, _), (8, _), (10, _), (11, _), (12, _), (13, _)]) hx dL_goes_137 (by decide) rfl ?_
              refine zz_iinc (lv' := [(0, _), (1, _), (2, _), (3, _), (4, _), (5, _), (6, _), (8, _), (10, _), (11, _), (12, _), (13, _)]) hx dL_goes_139 (by decide) rfl rfl ?_
              refine zz_goto hx 24 dL_goes_142 rfl ?_
              refine zz_sub (lv' := [(0, _), (1, _), (2, _), (3, _), (4, _), (5, _), (6, _), (8, _), (10, _)]) (by first | exact fun q9 hq9 => hq9 | exact fun q9 hq9 => List.mem_append_left [_] hq9 | exact fun q9 hq9 => List.mem_append_left [_, _] hq9 | exact fun q9 hq9 => List.mem_append_left [_, _, _] hq9 | exact fun q9 hq9 => List.mem_append_left [_, _, _, _] hq9 | exact fun q9 hq9 => List.mem_append_left [_, _, _, _, _] hq9 | exact fun q9 hq9 => List.mem_append_left [_, _, _, _, _, _] hq9 | exact fun q9 hq9 => List.mem_append_left [_, _, _, _, _, _, _] hq9 | exact fun q9 hq9 => List.mem_append_left [_, _, _, _, _, _, _, _] hq9) ?_
              refine ihB (k + 1) (y ||| z) hne (by omega) (by omega) ⟨lb_or.mpr (Or.inl h4.1), fun u u0 u1 hb => ?_⟩ (fun j j0 j1 jo jh jb => ?_) ?_ (by omega)
              · rcases lb_or.mp hb with y9 | y9
                · exact h4.2 u u0 u1 y9
                · rcases hz9 with ⟨⟨z1, z2, z3⟩, z4⟩ | ⟨z1, z4⟩
                  · rw [z4] at y9
                    have e9 := (lb_one i0 (by omega) u0 u1).mp y9
                    rw [e9]
                    have hc9 := h4.2 _ z1 (by omega) z3
                    rcases how with ⟨x9, -⟩ | x9
                    · omega
                    · exact fun X hX hcl => hcl _ its s (hc9 X hX hcl) s0 s1 ⟨x9.2.2.2.2.1, z2, mOf_mem.mpr ⟨x9.2.2.2.1, rfl⟩⟩
                  · rw [z4] at y9; exact absurd y9 lb_0
              · by_cases e9 : j = k
                · rw [e9, hse, hie] at jo jb
                  rw [e9, hse] at jh
                  rw [e9, hie]
                  obtain ⟨z0, hz0⟩ := h6
                  have hb2 : lb y (ow s its) := by rw [hz0]; exact lb_or.mpr (Or.inl jb)
                  rcases hz9 with ⟨⟨z1, z2, z3⟩, z4⟩ | ⟨z1, z4⟩
                  · rw [z4]; exact lb_or.mpr (Or.inr ((lb_one i0 (by omega) i0 (by omega)).mpr rfl))
                  · exact absurd ⟨jo, jh, hb2⟩ z1
                · exact lb_or.mpr (Or.inl (h5 j j0 (by omega) jo jh jb))
              · obtain ⟨z0, hz0⟩ := h6
                exact ⟨z0 ||| z, by rw [hz0, Int64.or_assoc]⟩
            have j102 : ∀ i : Int, ((i = 1 ∧ (way = 2 ∨ (way ≠ 0 ∧ P s 4 ≠ 2))) ∨ (i = 0 ∧ ¬ (way = 2 ∨ (way ≠ 0 ∧ P s 4 ≠ 2)))) → Z l g ({ frames := 5, cells := 0, slots := 0, locals := 108 } : Room) 14 x 0 0 (wD g b c I Q P T N (rA g gA 30 Gr :: rA g tA 60 U :: rA g cA 3 C :: rest)) 102 [(0, .ref (b 0)), (1, .ref gA), (2, .ref tA), (3, .ref cA), (4, vi r), (5, vi way), (6, .long y), (8, .long y0), (10, vi k), (11, vi its), (12, vi (ow s its))] [vi i] := by
              intro i hi9
              refine zz_istore (lv' := [(0, _), (1, _), (2, _), (3, _), (4, _), (5, _), (6, _), (8, _), (10, _), (11, _), (12, _), (13, _)]) hx dL_goes_102 (by decide) rfl ?_
              refine zz_lload hx dL_goes_104 rfl ?_
              refine zz_iload hx dL_goes_106 rfl ?_
              refine zz_if_lt hx 135 dL_goes_108 rfl (by omega) (fun c108 => ?_) (fun c108 => ?_)
              · refine zz_lconst (v := 0) hx dL_goes_135 rfl ?_
                first
                  | exact j136 _ (Or.inl ⟨⟨by omega, by omega, hlb⟩, rfl⟩) _
                  | exact j136 _ (Or.inr ⟨fun z9 => hnb z9.2.2, rfl⟩) _
                  | exact j136 _ (Or.inr ⟨fun z9 => by have := z9.1; omega, rfl⟩) _
                  | exact j136 _ (Or.inr ⟨fun z9 => by have := z9.2.1; omega, rfl⟩) _
              · have hb9 := lb_and1 (y := y) (a := ow s its) (by omega) (by omega)
                refine zz_iload hx dL_goes_111 rfl ?_
                refine zz_if_eq hx 135 dL_goes_113 rfl (by omega) (fun c113 => ?_) (fun c113 => ?_)
                · refine zz_lconst (v := 0) hx dL_goes_135 rfl ?_
                  first
                    | exact j136 _ (Or.inl ⟨⟨by omega, by omega, hlb⟩, rfl⟩) _
                    | exact j136 _ (Or.inr ⟨fun z9 => hnb z9.2.2, rfl⟩) _
                    | exact j136 _ (Or.inr ⟨fun z9 => by have := z9.1; omega, rfl⟩) _
                    | exact j136 _ (Or.inr ⟨fun z9 => by have := z9.2.1; omega, rfl⟩) _
                · refine zz_lload hx dL_goes_116 rfl ?_
                  refine zz_iload hx dL_goes_118 rfl ?_
                  refine zz_lshr hx dL_goes_120 ?_
                  refine zz_lconst (v := 1) hx dL_goes_121 rfl ?_
                  refine zz_land hx dL_goes_122 ?_
                  refine zz_lconst (v := 1) hx dL_goes_123 rfl ?_
                  refine zz_lcmp hx dL_goes_124 (fun t124 ht124 he124 => ?_)
                  refine zz_if_ne hx 135 dL_goes_125 rfl (by omega) (fun c125 => ?_) (fun c125 => ?_)
                  · have hnb : ¬ lb y (ow s its) := fun z9 => c125 (he124.mpr (hb9.1 z9))
                    refine zz_lconst (v := 0) hx dL_goes_135 rfl ?_
                    first
                      | exact j136 _ (Or.inl ⟨⟨by omega, by omega, hlb⟩, rfl⟩) _
                      | exact j136 _ (Or.inr ⟨fun z9 => hnb z9.2.2, rfl⟩) _
                      | exact j136 _ (Or.inr ⟨fun z9 => by have := z9.1; omega, rfl⟩) _
                      | exact j136 _ (Or.inr ⟨fun z9 => by have := z9.2.1; omega, rfl⟩) _
                  · have hlb : lb y (ow s its) := Classical.byContradiction fun z9 => by
                      have h7 := hb9.2 z9
                      have h8 := he124.mp (by omega)
                      rw [h7] at h8
                      exact absurd h8 (by decide)
                    refine zz_lconst (v := 1) hx dL_goes_128 rfl ?_
                    refine zz_iload hx dL_goes_129 rfl ?_
                    refine zz_lshl hx dL_goes_131 ?_
                    refine zz_goto hx 136 dL_goes_132 rfl ?_
                    first
                      | exact j136 _ (Or.inl ⟨⟨by omega, by omega, hlb⟩, rfl⟩) _
                      | exact j136 _ (Or.inr ⟨fun z9 => hnb z9.2.2, rfl⟩) _
                      | exact j136 _ (Or.inr ⟨fun z9 => by have := z9.1; omega, rfl⟩) _
                      | exact j136 _ (Or.inr ⟨fun z9 => by have := z9.2.1; omega, rfl⟩) _
            have j67 : Z l g ({ frames := 5, cells := 0, slots := 0, locals := 108 } : Room) 14 x 0 0 (wD g b c I Q P T N (rA g gA 30 Gr :: rA g tA 60 U :: rA g cA 3 C :: rest)) 67 [(0, .ref (b 0)), (1, .ref gA), (2, .ref tA), (3, .ref cA), (4, vi r), (5, vi way), (6, .long y), (8, .long y0), (10, vi k), (11, vi its)] [vi (ow s its)] := by
              refine zz_istore (lv' := [(0, _), (1, _), (2, _), (3, _), (4, _), (5, _), (6, _), (8, _), (10, _), (11, _), (12, _)]) hx dL_goes_67 (by decide) rfl ?_
              refine zz_iload hx dL_goes_69 rfl ?_
              refine zz_iconst hx dL_goes_71 ?_
              refine zz_icmp_eq hx 97 dL_goes_72 rfl (by omega) (by omega) (fun c72 => ?_) (fun c72 => ?_)
              · refine zz_iconst hx dL_goes_97 ?_
                refine zz_goto hx 102 dL_goes_98 rfl ?_
                exact j102 _ (by omega)
              · refine zz_iload hx dL_goes_75 rfl ?_
                refine zz_iconst hx dL_goes_77 ?_
                refine zz_icmp_ne hx 101 dL_goes_78 rfl (by omega) (by omega) (fun c78 => ?_) (fun c78 => ?_)
                · refine zz_iconst hx dL_goes_101 ?_
                  exact j102 _ (by omega)
                · refine zz_aload_n hx dL_goes_81 rfl ?_
                  refine zz_iconst hx dL_goes_82 ?_
                  refine zz_iload hx dL_goes_83 rfl ?_
                  refine zz_aload_n hx dL_goes_85 rfl ?_
                  refine zz_iconst hx dL_goes_86 ?_
                  refine zr_ld hx 2 rfl (by decide) (by omega) (by omega) dL_goes_87 ?_
                  rw [hc0]
                  refine zz_irem hx dL_goes_88 (by omega) (by omega) (by omega) (by omega) ?_
                  rw [hse]
                  refine zz_imul hx dL_goes_89 ?_
                  refine zz_iconst hx dL_goes_90 ?_
                  refine zz_iadd hx dL_goes_91 ?_
                  refine zr_ld hx 0 rfl (by decide) (by omega) (by omega) dL_goes_92 ?_
                  refine zz_iconst hx dL_goes_93 ?_
                  refine zz_icmp_ge hx 101 dL_goes_94 rfl (by omega) (by omega) (fun c94 => ?_) (fun c94 => ?_)
                  · refine zz_iconst hx dL_goes_101 ?_
                    exact j102 _ (by omega)
                  · refine zz_iconst hx dL_goes_97 ?_
                    refine zz_goto hx 102 dL_goes_98 rfl ?_
                    exact j102 _ (by omega)
            refine zz_iload hx dL_goes_24 rfl ?_
            refine zz_aload_n hx dL_goes_26 rfl ?_
            refine zz_iconst hx dL_goes_27 ?_
            refine zr_ld hx 2 rfl (by decide) (by omega) (by omega) dL_goes_28 ?_
            rw [hc0]
            refine zz_aload_n hx dL_goes_29 rfl ?_
            refine zz_iconst hx dL_goes_30 ?_
            refine zr_ld hx 2 rfl (by decide) (by omega) (by omega) dL_goes_31 ?_
            rw [hc1]
            refine zz_imul hx dL_goes_32 ?_
            refine zz_icmp_ge hx 145 dL_goes_33 rfl (by omega) (by omega) (fun c33 => ?_) (fun c33 => ?_)
            · omega
            · refine zz_iload hx dL_goes_36 rfl ?_
              refine zz_aload_n hx dL_goes_38 rfl ?_
              refine zz_iconst hx dL_goes_39 ?_
              refine zr_ld hx 2 rfl (by decide) (by omega) (by omega) dL_goes_40 ?_
              rw [hc0]
              refine zz_idiv hx dL_goes_41 (by omega) (by omega) (by omega) (by omega) ?_
              rw [hie]
              refine zz_istore (lv' := [(0, _), (1, _), (2, _), (3, _), (4, _), (5, _), (6, _), (8, _), (10, _), (11, _)]) hx dL_goes_42 (by decide) rfl ?_
              refine zz_aload_n hx dL_goes_44 rfl ?_
              refine zz_iload hx dL_goes_45 rfl ?_
              refine zr_ld hx 1 rfl (by decide) (by omega) (by omega) dL_goes_47 ?_
              refine zz_if_ne hx 55 dL_goes_48 rfl (by omega) (fun c48 => ?_) (fun c48 => ?_)
              · have hqn : Q 0 its ≠ -1 := by omega
                refine zz_aload_n hx dL_goes_55 rfl ?_
                refine zz_iload hx dL_goes_56 rfl ?_
                refine zz_iload hx dL_goes_58 rfl ?_
                refine zz_aload_n hx dL_goes_60 rfl ?_
                refine zz_iconst hx dL_goes_61 ?_
                refine zr_ld hx 2 rfl (by decide) (by omega) (by omega) dL_goes_62 ?_
                rw [hc0]
                refine zz_irem hx dL_goes_63 (by omega) (by omega) (by omega) (by omega) ?_
                rw [hse]
                refine zz_callVi hx me_X3_ownerOf lk_L_36 (q_X3_ownerOf hst hI hS its ⟨i0, by omega⟩ hqn s ⟨s0, s1⟩) 0 rfl rfl ⟨rfl, rfl⟩ (by decide) (by decide) rfl rfl (Nat.le_of_ble_eq_true rfl) dL_goes_64 (fun _ _ h => h.elim) (fun r64 w64 hp64 => ?_)
                obtain ⟨rfl, rfl⟩ := hp64
                first
                  | exact j67
                  | exact zz_eq rfl (show [vi (-1)] = [vi (ow s its)] by rw [hw1]) j67
              · have hw1 := hoq (by omega)
                refine zz_iconst hx dL_goes_51 ?_
                refine zz_goto hx 67 dL_goes_52 rfl ?_
                first
                  | exact j67
                  | exact zz_eq rfl (show [vi (-1)] = [vi (ow s its)] by rw [hw1]) j67
          · refine zz_iload hx dL_goes_24 rfl ?_
            refine zz_aload_n hx dL_goes_26 rfl ?_
            refine zz_iconst hx dL_goes_27 ?_
            refine zr_ld hx 2 rfl (by decide) (by omega) (by omega) dL_goes_28 ?_
            rw [hc0]
            refine zz_aload_n hx dL_goes_29 rfl ?_
            refine zz_iconst hx dL_goes_30 ?_
            refine zr_ld hx 2 rfl (by decide) (by omega) (by omega) dL_goes_31 ?_
            rw [hc1]
            refine zz_imul hx dL_goes_32 ?_
            refine zz_icmp_ge hx 145 dL_goes_33 rfl (by omega) (by omega) (fun c33 => ?_) (fun c33 => ?_)
            · refine zz_goto hx 9 dL_goes_145 rfl ?_
              refine zz_sub (lv' := [(0, _), (1, _), (2, _), (3, _), (4, _), (5, _), (6, _), (8, _)]) (by first | exact fun q9 hq9 => hq9 | exact fun q9 hq9 => List.mem_append_left [_] hq9 | exact fun q9 hq9 => List.mem_append_left [_, _] hq9 | exact fun q9 hq9 => List.mem_append_left [_, _, _] hq9 | exact fun q9 hq9 => List.mem_append_left [_, _, _, _] hq9 | exact fun q9 hq9 => List.mem_append_left [_, _, _, _, _] hq9 | exact fun q9 hq9 => List.mem_append_left [_, _, _, _, _, _] hq9 | exact fun q9 hq9 => List.mem_append_left [_, _, _, _, _, _, _] hq9 | exact fun q9 hq9 => List.mem_append_left [_, _, _, _, _, _, _, _] hq9) ?_
              obtain ⟨z0, hz0⟩ := h6
              refine ih y y0 h4 (fun j j0 j1 => h5 j j0 (by omega)) ?_
              rw [if_neg hne] at hm
              by_cases e9 : y = y0
              · rw [if_pos e9, e9]; omega
              · rw [if_neg e9, hz0]
                have := lbM_or (x := y0) (y := z0) (by rw [← hz0]; exact e9)
                omega
            · omega
      refine zz_lload hx dL_goes_9 rfl ?_
      refine zz_lload hx dL_goes_11 rfl ?_
      refine zz_lcmp hx dL_goes_13 (fun t13 ht13 he13 => ?_)
      refine zz_if_eq hx 148 dL_goes_14 rfl (by omega) (fun c14 => ?_) (fun c14 => ?_)
      · have hyw := he13.mp (by omega)
        refine zz_lload hx dL_goes_148 rfl ?_
        exact zz_lret hx hf dL_goes_150 ⟨_, rfl, rfl, h1.1, h1.2, fun q v s q0 q1 hb s0 s1 hg => by
          have hmm := (J_mm hJ s0 s1 hg.1).2.2 v hg.2.2
          have hoN := J_own hJ s0 s1 hg.1
          have hv1 : v < I 0 := hmm.1.2
          have e1 : (v * (N : Int) + s) % (N : Int) = s := by
            rw [Int.add_comm, Int.add_mul_emod_self_right]; exact Int.emod_eq_of_lt s0 s1
          have e2 : (v * (N : Int) + s) / (N : Int) = v := by
            rw [Int.add_comm, Int.add_mul_ediv_right _ _ (by omega), Int.ediv_eq_zero_of_lt s0 s1]; omega
          have hj0 : 0 ≤ v * (N : Int) := Int.mul_nonneg hmm.1.1 (by omega)
          have hj1 : (v + 1) * (N : Int) ≤ I 0 * (N : Int) := Int.mul_le_mul_of_nonneg_right (by omega) (by omega)
          have hj2 : (v + 1) * (N : Int) = v * (N : Int) + (N : Int) := by rw [Int.add_mul, Int.one_mul]
          have hj3 : I 0 * (N : Int) = (N : Int) * I 0 := Int.mul_comm _ _
          have := h2 (v * (N : Int) + s) (by omega) (by omega)
          rw [e1, e2, hmm.2.2.1, ← hyw] at this
          exact this hoN.1.1 hg.2.1 hb⟩ (by decide) (by decide)
      · have hyw : ¬ y0 = w := fun z9 => c14 (he13.mpr z9)
        refine zz_lload hx dL_goes_17 rfl ?_
        refine zz_lstore (lv' := [(0, _), (1, _), (2, _), (3, _), (4, _), (5, _), (6, _), (8, _)]) hx dL_goes_19 (by decide) rfl ?_
        refine zz_iconst hx dL_goes_21 ?_
        refine zz_istore (lv' := [(0, _), (1, _), (2, _), (3, _), (4, _), (5, _), (6, _), (8, _), (10, _)]) hx dL_goes_22 (by decide) rfl ?_
        exact inner ((((N : Int) * I 0)).toNat + 1) 0 y0 hyw (by omega) htot0 h1 (fun j j0 j1 => by omega) ⟨0, by apply Int64.toBitVec_inj.mp; rw [Int64.toBitVec_or]; show _ = _ ||| 0#64; simp⟩ (by omega)
  refine zz_lconst (v := 1) hx dL_goes_0 rfl ?_
  refine zz_iload hx dL_goes_1 rfl ?_
  refine zz_lshl hx dL_goes_3 ?_
  refine zz_lstore (lv' := [(0, _), (1, _), (2, _), (3, _), (4, _), (5, _), (6, _)]) hx dL_goes_4 (by decide) rfl ?_
  refine zz_lconst (v := 0) hx dL_goes_6 rfl ?_
  refine zz_lstore (lv' := [(0, _), (1, _), (2, _), (3, _), (4, _), (5, _), (6, _), (8, _)]) hx dL_goes_7 (by decide) rfl ?_
  have hone := fun u u0 u1 => lb_one (a := r) (u := u) hr.1.1 (by omega) u0 u1
  exact outer (2 * lbM (1 <<< ((Int32.ofInt r).toInt64 &&& 63)) + 2) _ _ ⟨(hone r hr.1.1 (by omega)).mpr rfl, fun u u0 u1 hb => by
    rw [(hone u u0 u1).mp hb]
    exact fun X hX _ => hX⟩ (fun j j0 j1 jo jh jb => absurd jb lb_0) (by split <;> omega)

set_option maxHeartbeats 4000000 in
set_option maxRecDepth 100000 in
theorem l_draw {l : Launch} {g : zG} {w : va_W} (hst : l.stackTraces = false) {bS Ls : Nat} {xs : Nat → Int32} (hL : Ls ≤ 3072) (kk most : Int) (hk : 0 ≤ kk ∧ kk < 100000) (hm : 0 < most ∧ most < 2147483648) : zMs_ l g bS Ls xs yL_draw cL_draw 4 (Option.some FieldType.int) ({ frames := 0, cells := 0, slots := 0, locals := 0 } : Room) [.ref bS, vi kk, vi most] w (zI fun v w1 => (0 ≤ v ∧ v < most) ∧ w1 = w) 0 0 := by
  refine zMs_of (lv0 := [(0, _), (1, _), (2, _)]) hst rfl (by decide +kernel) (Nat.le_of_ble_eq_true rfl) rfl (fun x hx hf hnc hsc => ?_)
  have j22 : ∀ v : Int, Z l g ({ frames := 0, cells := 0, slots := 0, locals := 0 } : Room) 4 x 0 0 w 22 [(0, .ref bS), (1, vi kk), (2, vi most)] [vi v] := by
    intro v
    refine zz_istore_n (lv' := [(0, _), (1, _), (2, _), (3, _)]) hx dL_draw_22 (by decide) rfl ?_
    refine zz_iload_n hx dL_draw_23 rfl ?_
    refine zz_ldc (v := 2147483647) hx 2147483647 (zT_in 145 (by decide +kernel) rfl) (by decide +kernel) dL_draw_24 ?_
    refine zz_andm hx dL_draw_26 (fun t26 ht26 => ?_)
    refine zz_iload_n hx dL_draw_27 rfl ?_
    have hm0 := Int.emod_nonneg t26 (show most ≠ 0 by omega)
    have hm1 := Int.emod_lt_of_pos t26 hm.1
    refine zz_irem hx dL_draw_28 (by omega) (by omega) (by omega) (by omega) ?_
    exact zz_iret hx hf dL_draw_29 ⟨_, rfl, ⟨hm0, hm1⟩, rfl⟩ (by decide) (by decide)
  refine zz_iload_n hx dL_draw_0 rfl ?_
  refine zz_aload_n hx dL_draw_1 rfl ?_
  refine zz_slen hx hsc dL_draw_2 ?_
  refine zz_icmp_ge hx 12 dL_draw_3 rfl (by omega) (by omega) (fun c3 => ?_) (fun c3 => ?_)
  · refine zz_ldc (v := 936088037) hx 936088037 (zT_in 143 (by decide +kernel) rfl) (by decide +kernel) dL_draw_12 ?_
    refine zz_iload_n hx dL_draw_14 rfl ?_
    refine zz_bipush hx dL_draw_15 rfl ?_
    refine zz_iadd hx dL_draw_17 ?_
    refine zz_imul hx dL_draw_18 ?_
    refine zz_ldc (v := 350606265) hx 350606265 (zT_in 144 (by decide +kernel) rfl) (by decide +kernel) dL_draw_19 ?_
    refine zz_iadd hx dL_draw_21 ?_
    exact j22 _
  · refine zz_aload_n hx dL_draw_6 rfl ?_
    refine zz_iload_n hx dL_draw_7 rfl ?_
    refine zz_sld hx hsc hL (by omega) (by omega) dL_draw_8 ?_
    refine zz_goto hx 22 dL_draw_9 rfl ?_
    exact j22 _
