/-! the law: erasing -/

set_option maxHeartbeats 4000000 in
set_option maxRecDepth 100000 in
theorem l_erases {l : Launch} {g : zG} {b : Nat → Nat} {c : Int → Nat → Nat} {I : Nat → Int} {Q : Nat → Int → Int} {P : Int → Nat → Int} {T : Int → Nat → Int → Int} {N : Nat} {ow : Int → Int → Int} {isO : Int → Int → Prop} {L : Int → List Int} {rest : va_W} (hst : l.stackTraces = false) {gA tA cA : Nat} {Gr U C : Int → Int} (hJ : J I Q P T N ow isO L) (hC : kC I N C) (hU : kU Q U) (hG : kG P N Gr) (hN0 : 0 < N) (way : Int) (hway : 0 ≤ way ∧ way ≤ 2) : zMn l g yL_erases cL_erases 14 (Option.some FieldType.boolean) ({ frames := 10, cells := 63, slots := 378, locals := 198 } : Room) [.ref (b 0), vi way, .ref gA, .ref tA, .ref cA] (wD g b c I Q P T N (rA g gA 30 Gr :: rA g tA 60 U :: rA g cA 3 C :: rest)) (zI fun v w => v = 1 ∧ (jW g b c N gA tA cA Gr rest w)) 63 378 := by
  have hI := hJ.1
  have hS := hJ.2.1
  have hi0 := hI.2.2.2.2.2.2.1
  have hN6 := hI.2.1
  obtain ⟨hc0, hc1, hc2⟩ := id hC
  have hi2 := hI.2.2.1
  refine zMn_of (lv0 := [(0, _), (1, _), (2, _), (3, _), (4, _)]) hst rfl (by decide +kernel) (Nat.le_of_ble_eq_true rfl) rfl (fun x hx hf hnc => ?_)
  have j22 : ∀ (I : Nat → Int) (Q : Nat → Int → Int) (D : List Int) (r19 : Int), J I Q P T N ow isO L → kC I N C → kU Q U → I 2 ≠ -1 → r19 = (D.length : Int) → D.Nodup → (way = 0 → ∀ s : Int, 0 ≤ s → s < (N : Int) → ¬ (isO s (I 2) ∧ 0 < ((mOf (ow s) (I 2) (L s)).length : Int))) → gDm P ow isO L N way (I 2) D → Z l g ({ frames := 10, cells := 63, slots := 378, locals := 198 } : Room) 14 x 0 0 (wD g b c I Q P T N (rA g gA 30 Gr :: rA g tA 60 U :: rA g cA 3 C :: rest)) 22 [(0, .ref (b 0)), (1, vi way), (2, .ref gA), (3, .ref tA), (4, .ref cA), (5, vi (I 2))] [vi r19] := by
    clear hC hU hI hi0 hi2 hc0 hc1 hc2 hJ
    intro I Q D r19 hJ hC hU hm e19 hDn hno hD
    have hI := hJ.1
    have hS := hJ.2.1
    have hi0 := hI.2.2.2.2.2.2.1
    obtain ⟨hc0, hc1, hc2⟩ := id hC
    have hi20 := J_i2 hJ hm
    refine zz_istore (lv' := [(0, _), (1, _), (2, _), (3, _), (4, _), (5, _), (6, _)]) hx dL_erases_22 (by decide) rfl ?_
    refine zz_iload hx dL_erases_24 rfl ?_
    refine zz_if_ge hx 33 dL_erases_26 rfl (by omega) (fun c26 => ?_) (fun c26 => ?_)
    · refine zz_aload_n hx dL_erases_33 rfl ?_
      refine zz_aload_n hx dL_erases_34 rfl ?_
      refine zz_aload_n hx dL_erases_35 rfl ?_
      refine zz_aload hx dL_erases_36 rfl ?_
      refine zz_iload hx dL_erases_38 rfl ?_
      refine zz_iload_n hx dL_erases_40 rfl ?_
      refine zz_callSl hx ms_L_goes lk_L_122 (l_goes hst hJ hC hU hG hN0 (I 2) way ⟨⟨hi20.1, hi20.2.2.1⟩, hi20.2.2.2⟩ hway) ⟨rfl, rfl⟩ (by decide) (by decide) rfl rfl (Nat.le_of_ble_eq_true rfl) dL_erases_41 (fun _ _ h => h.elim) (fun r41 w41 hp41 => ?_)
      obtain ⟨rfl, hb1, hb2, hb3⟩ := hp41
      refine zz_lstore (lv' := [(0, _), (1, _), (2, _), (3, _), (4, _), (5, _), (6, _), (7, _)]) hx dL_erases_44 (by decide) rfl ?_
      refine zz_aload_n hx dL_erases_46 rfl ?_
      refine zz_iconst hx dL_erases_47 ?_
      refine zz_iload_n hx dL_erases_48 rfl ?_
      refine zz_iconst hx dL_erases_49 ?_
      refine zz_callW hx hnc mw_L_acts lk_L_112 (l_acts2 hst hJ way 0 hway) ⟨rfl, rfl⟩ (by decide) (by decide) rfl rfl (Nat.le_of_ble_eq_true rfl) dL_erases_50 (fun r50 w50 hp50 => ?_)
      rcases hp50 with ⟨e50, rfl, hn50⟩ | ⟨hB, I2, Q2, T2, D2, rfl, e50, hD1, hDr, hD2, heL⟩
      · exact absurd ⟨hm, hno⟩ hn50
      · obtain ⟨hJ2, h22, h20, h21, hq2, hq21, hDq, hP2⟩ := J_era hJ hm hD1 hD2 heL
        have hlen : D.length = D2.length := gDm_len (P := P) (ow := ow) (isO := isO) (L := L) (N := N) (y := way) (r := I 2) hDn hD1 (gDm_same hD hD2)
        have hcl := gDm_cl hDr hD2 hb1 hb2 hb3
        have hd60 : (D2.length : Int) ≤ 60 := by
          have := nodup_len 60 D2 hD1 hDr
          omega
        have loop : ∀ (n : Nat) (k : Int) (V : Int → Int), 0 ≤ k → k ≤ I 0 → (∀ j : Int, 0 ≤ j → j < 60 → (j < k → V j = if Q2 0 j = -1 then 0 else U j) ∧ (k ≤ j → V j = U j)) → (I 0 - k).toNat < n → Z l g ({ frames := 10, cells := 63, slots := 378, locals := 198 } : Room) 14 x (3 + k.toNat) (18 + 6 * k.toNat) (wD g b c I2 Q2 (PD P ow D2 N) T2 N (rA g gA 30 Gr :: rA g tA 60 V :: rA g cA 3 C :: rest)) 92 [(0, .ref (b 0)), (1, vi way), (2, .ref gA), (3, .ref tA), (4, .ref cA), (5, vi (I 2)), (6, vi r19), (7, .long r41), (9, vi r50), (10, vi (pc (Q 0) k.toNat - pc (Q2 0) k.toNat)), (11, vi 1), (12, vi k)] [] := by
          intro n
          induction n with
          | zero => intro k V h0 h1 hV hm9; omega
          | succ n ih =>
            intro k V h0 h1 hV hm9
            by_cases hk9 : k < I 0
            · have hVk := (hV k h0 (by omega)).2 (by omega)
              have hu9 := kU_at hU hI (k := k) h0 (by omega)
              have hq9 := hq2 k
              have hs9 : ∀ f : Int → Int, pc f (k + 1).toNat = pc f k.toNat + (if f k = -1 then 0 else 1) := fun f => by
                rw [show (k + 1).toNat = k.toNat + 1 by omega]
                show pc f k.toNat + (if f (k.toNat : Int) = -1 then 0 else 1) = _
                rw [show (k.toNat : Int) = k by omega]
              have hs1 := hs9 (Q 0)
              have hs2 := hs9 (Q2 0)
              by_cases hkD : k ∈ D2
              · rw [if_pos hkD] at hq9
                have hqk := (hDq k hkD).2
                rw [if_neg hqk] at hs1
                rw [if_pos hq9] at hs2
                have hb9 := (lb_and1 (y := r41) (a := k) h0 (by omega)).1 ((hcl k h0 (by omega)).mpr hkD)
                refine zz_iload hx dL_erases_92 rfl ?_
                refine zz_aload hx dL_erases_94 rfl ?_
                refine zz_iconst hx dL_erases_96 ?_
                refine zr_ld hx 2 rfl (by decide) (by omega) (by omega) dL_erases_97 ?_
                refine zz_icmp_ge hx 195 dL_erases_98 rfl (by omega) (by omega) (fun c98 => ?_) (fun c98 => ?_)
                · omega
                · refine zz_aload_n hx dL_erases_101 rfl ?_
                  refine zz_iload hx dL_erases_102 rfl ?_
                  refine zz_callW hx hnc mw_L_isThere lk_L_126 (l_isThere (ow := ow) (isO := isO) (L := L) hst hJ2.1 k (by omega)) ⟨rfl, rfl⟩ (by decide) ⟨show 3 + k.toNat + 1 ≤ 63 by omega, show 18 + 6 * k.toNat + 6 ≤ 378 by omega⟩ rfl rfl (Nat.le_of_ble_eq_true rfl) dL_erases_104 (fun r104 w104 hp104 => ?_)
                  obtain ⟨hr13, rfl⟩ := hp104
                  rw [rAt_in h0 (show k < ((60 : Nat) : Int) by omega)] at hr13
                  refine zz_istore (lv' := [(0, _), (1, _), (2, _), (3, _), (4, _), (5, _), (6, _), (7, _), (9, _), (10, _), (11, _), (12, _), (13, _)]) hx dL_erases_107 (by decide) rfl ?_
                  refine zz_iload hx dL_erases_109 rfl ?_
                  refine zz_if_eq hx 147 dL_erases_111 rfl (by decide) (fun z => absurd z (by decide)) (fun _ => ?_)
                  refine zz_iload hx dL_erases_114 rfl ?_
                  refine zz_aload_n hx dL_erases_116 rfl ?_
                  refine zz_iload hx dL_erases_117 rfl ?_
                  refine zr_ld hx 1 rfl (by decide) (by omega) (by omega) dL_erases_119 ?_
                  refine zz_if_eq hx 139 dL_erases_120 rfl (by omega) (fun c120 => ?_) (fun c120 => ?_)
                  · omega
                  · refine zz_lload hx dL_erases_123 rfl ?_
                    refine zz_iload hx dL_erases_125 rfl ?_
                    refine zz_lshr hx dL_erases_127 ?_
                    refine zz_lconst (v := 1) hx dL_erases_128 rfl ?_
                    refine zz_land hx dL_erases_129 ?_
                    refine zz_lconst (v := 0) hx dL_erases_130 rfl ?_
                    refine zz_lcmp hx dL_erases_131 (fun t131 ht131 he131 => ?_)
                    have ht131 : t131 ≠ 0 := fun z9 => by
                      have z8 := he131.mp z9
                      rw [hb9] at z8
                      exact absurd z8 (by decide)
                    refine zz_if_ne hx 139 dL_erases_132 rfl (by omega) (fun c132 => ?_) (fun c132 => ?_)
                    · refine zz_iconst hx dL_erases_139 ?_
                      refine zz_icmp_ne hx 147 dL_erases_140 rfl (by omega) (by omega) (fun c140 => ?_) (fun c140 => ?_)
                      · omega
                      · refine zz_iconst hx dL_erases_143 ?_
                        refine zz_goto hx 148 dL_erases_144 rfl ?_
                        refine zz_istore (lv' := [(0, _), (1, _), (2, _), (3, _), (4, _), (5, _), (6, _), (7, _), (9, _), (10, _), (11, _), (12, _), (13, _)]) hx dL_erases_148 (by decide) rfl ?_
                        refine zz_iload hx dL_erases_150 rfl ?_
                        refine zz_aload_n hx dL_erases_152 rfl ?_
                        refine zz_iload hx dL_erases_153 rfl ?_
                        refine zr_ld hx 1 rfl (by decide) (by omega) (by omega) dL_erases_155 ?_
                        refine zz_if_eq hx 168 dL_erases_156 rfl (by omega) (fun c156 => ?_) (fun c156 => ?_)
                        · omega
                        · refine zz_iload hx dL_erases_159 rfl ?_
                          refine zz_if_ne hx 168 dL_erases_161 rfl (by omega) (fun c161 => ?_) (fun c161 => ?_)
                          · omega
                          · refine zz_iconst hx dL_erases_164 ?_
                            refine zz_goto hx 169 dL_erases_165 rfl ?_
                            refine zz_iadd hx dL_erases_169 ?_
                            refine zz_istore (lv' := [(0, _), (1, _), (2, _), (3, _), (4, _), (5, _), (6, _), (7, _), (9, _), (10, _), (11, _), (12, _), (13, _)]) hx dL_erases_170 (by decide) rfl ?_
                            refine zz_aload_n hx dL_erases_172 rfl ?_
                            refine zz_iload hx dL_erases_173 rfl ?_
                            refine zz_iload hx dL_erases_175 rfl ?_
                            refine zz_if_eq hx 187 dL_erases_177 rfl (by omega) (fun c177 => ?_) (fun c177 => ?_)
                            · refine zz_iconst hx dL_erases_187 ?_
                              refine zr_st1 hx (by decide) (by omega) (by omega) dL_erases_188 ?_
                              refine zz_iinc (lv' := [(0, _), (1, _), (2, _), (3, _), (4, _), (5, _), (6, _), (7, _), (9, _), (10, _), (11, _), (12, _), (13, _)]) hx dL_erases_189 (by decide) rfl rfl ?_
                              refine zz_goto hx 92 dL_erases_192 rfl ?_
                              have e9 : pc (Q 0) k.toNat - pc (Q2 0) k.toNat + 1 = pc (Q 0) (k + 1).toNat - pc (Q2 0) (k + 1).toNat := by
                                rw [hs1, hs2]
                                omega
                              rw [e9]
                              refine zz_widen (k' := 3 + (k + 1).toNat) (n' := 18 + 6 * (k + 1).toNat) (show 3 + k.toNat + 1 ≤ 3 + (k + 1).toNat by omega) (show 18 + 6 * k.toNat + 6 ≤ 18 + 6 * (k + 1).toNat by omega) ?_
                              refine zz_sub (lv' := [(0, _), (1, _), (2, _), (3, _), (4, _), (5, _), (6, _), (7, _), (9, _), (10, _), (11, _), (12, _)]) (by first | exact fun q9 hq9 => hq9 | exact fun q9 hq9 => List.mem_append_left [_] hq9 | exact fun q9 hq9 => List.mem_append_left [_, _] hq9 | exact fun q9 hq9 => List.mem_append_left [_, _, _] hq9 | exact fun q9 hq9 => List.mem_append_left [_, _, _, _] hq9 | exact fun q9 hq9 => List.mem_append_left [_, _, _, _, _] hq9 | exact fun q9 hq9 => List.mem_append_left [_, _, _, _, _, _] hq9 | exact fun q9 hq9 => List.mem_append_left [_, _, _, _, _, _, _] hq9 | exact fun q9 hq9 => List.mem_append_left [_, _, _, _, _, _, _, _] hq9) ?_
                              refine ih (k + 1) _ (by omega) (by omega) (fun j j0 j1 => ?_) (by omega)
                              have hVj := hV j j0 j1
                              by_cases e8 : j = k
                              · rw [e8, zup_s]
                                exact ⟨fun _ => by first | rw [if_pos (by omega)] | rw [if_neg (by omega)]; omega, fun z9 => absurd z9 (by omega)⟩
                              · rw [zup_n _ _ e8]
                                exact ⟨fun z9 => hVj.1 (by omega), fun z9 => hVj.2 (by omega)⟩
                            · omega
                    · omega
              · rw [if_neg hkD] at hq9
                have hb9 := (lb_and1 (y := r41) (a := k) h0 (by omega)).2 (fun z9 => hkD ((hcl k h0 (by omega)).mp z9))
                by_cases hqk : Q 0 k = -1
                · rw [if_pos hqk] at hs1
                  rw [if_pos (by omega)] at hs2
                  refine zz_iload hx dL_erases_92 rfl ?_
                  refine zz_aload hx dL_erases_94 rfl ?_
                  refine zz_iconst hx dL_erases_96 ?_
                  refine zr_ld hx 2 rfl (by decide) (by omega) (by omega) dL_erases_97 ?_
                  refine zz_icmp_ge hx 195 dL_erases_98 rfl (by omega) (by omega) (fun c98 => ?_) (fun c98 => ?_)
                  · omega
                  · refine zz_aload_n hx dL_erases_101 rfl ?_
                    refine zz_iload hx dL_erases_102 rfl ?_
                    refine zz_callW hx hnc mw_L_isThere lk_L_126 (l_isThere (ow := ow) (isO := isO) (L := L) hst hJ2.1 k (by omega)) ⟨rfl, rfl⟩ (by decide) ⟨show 3 + k.toNat + 1 ≤ 63 by omega, show 18 + 6 * k.toNat + 6 ≤ 378 by omega⟩ rfl rfl (Nat.le_of_ble_eq_true rfl) dL_erases_104 (fun r104 w104 hp104 => ?_)
                    obtain ⟨hr13, rfl⟩ := hp104
                    rw [rAt_in h0 (show k < ((60 : Nat) : Int) by omega)] at hr13
                    refine zz_istore (lv' := [(0, _), (1, _), (2, _), (3, _), (4, _), (5, _), (6, _), (7, _), (9, _), (10, _), (11, _), (12, _), (13, _)]) hx dL_erases_107 (by decide) rfl ?_
                    refine zz_iload hx dL_erases_109 rfl ?_
                    refine zz_if_eq hx 147 dL_erases_111 rfl (by decide) (fun z => absurd z (by decide)) (fun _ => ?_)
                    refine zz_iload hx dL_erases_114 rfl ?_
                    refine zz_aload_n hx dL_erases_116 rfl ?_
                    refine zz_iload hx dL_erases_117 rfl ?_
                    refine zr_ld hx 1 rfl (by decide) (by omega) (by omega) dL_erases_119 ?_
                    refine zz_if_eq hx 139 dL_erases_120 rfl (by omega) (fun c120 => ?_) (fun c120 => ?_)
                    · refine zz_iconst hx dL_erases_139 ?_
                      refine zz_icmp_ne hx 147 dL_erases_140 rfl (by omega) (by omega) (fun c140 => ?_) (fun c140 => ?_)
                      · omega
                      · refine zz_iconst hx dL_erases_143 ?_
                        refine zz_goto hx 148 dL_erases_144 rfl ?_
                        refine zz_istore (lv' := [(0, _), (1, _), (2, _), (3, _), (4, _), (5, _), (6, _), (7, _), (9, _), (10, _), (11, _), (12, _), (13, _)]) hx dL_erases_148 (by decide) rfl ?_
                        refine zz_iload hx dL_erases_150 rfl ?_
                        refine zz_aload_n hx dL_erases_152 rfl ?_
                        refine zz_iload hx dL_erases_153 rfl ?_
                        refine zr_ld hx 1 rfl (by decide) (by omega) (by omega) dL_erases_155 ?_
                        refine zz_if_eq hx 168 dL_erases_156 rfl (by omega) (fun c156 => ?_) (fun c156 => ?_)
                        · refine zz_iconst hx dL_erases_168 ?_
                          refine zz_iadd hx dL_erases_169 ?_
                          refine zz_istore (lv' := [(0, _), (1, _), (2, _), (3, _), (4, _), (5, _), (6, _), (7, _), (9, _), (10, _), (11, _), (12, _), (13, _)]) hx dL_erases_170 (by decide) rfl ?_
                          refine zz_aload_n hx dL_erases_172 rfl ?_
                          refine zz_iload hx dL_erases_173 rfl ?_
                          refine zz_iload hx dL_erases_175 rfl ?_
                          refine zz_if_eq hx 187 dL_erases_177 rfl (by omega) (fun c177 => ?_) (fun c177 => ?_)
                          · refine zz_iconst hx dL_erases_187 ?_
                            refine zr_st1 hx (by decide) (by omega) (by omega) dL_erases_188 ?_
                            refine zz_iinc (lv' := [(0, _), (1, _), (2, _), (3, _), (4, _), (5, _), (6, _), (7, _), (9, _), (10, _), (11, _), (12, _), (13, _)]) hx dL_erases_189 (by decide) rfl rfl ?_
                            refine zz_goto hx 92 dL_erases_192 rfl ?_
                            have e9 : pc (Q 0) k.toNat - pc (Q2 0) k.toNat + 0 = pc (Q 0) (k + 1).toNat - pc (Q2 0) (k + 1).toNat := by
                              rw [hs1, hs2]
                              omega
                            rw [e9]
                            refine zz_widen (k' := 3 + (k + 1).toNat) (n' := 18 + 6 * (k + 1).toNat) (show 3 + k.toNat + 1 ≤ 3 + (k + 1).toNat by omega) (show 18 + 6 * k.toNat + 6 ≤ 18 + 6 * (k + 1).toNat by omega) ?_
                            refine zz_sub (lv' := [(0, _), (1, _), (2, _), (3, _), (4, _), (5, _), (6, _), (7, _), (9, _), (10, _), (11, _), (12, _)]) (by first | exact fun q9 hq9 => hq9 | exact fun q9 hq9 => List.mem_append_left [_] hq9 | exact fun q9 hq9 => List.mem_append_left [_, _] hq9 | exact fun q9 hq9 => List.mem_append_left [_, _, _] hq9 | exact fun q9 hq9 => List.mem_append_left [_, _, _, _] hq9 | exact fun q9 hq9 => List.mem_append_left [_, _, _, _, _] hq9 | exact fun q9 hq9 => List.mem_append_left [_, _, _, _, _, _] hq9 | exact fun q9 hq9 => List.mem_append_left [_, _, _, _, _, _, _] hq9 | exact fun q9 hq9 => List.mem_append_left [_, _, _, _, _, _, _, _] hq9) ?_
                            refine ih (k + 1) _ (by omega) (by omega) (fun j j0 j1 => ?_) (by omega)
                            have hVj := hV j j0 j1
                            by_cases e8 : j = k
                            · rw [e8, zup_s]
                              exact ⟨fun _ => by first | rw [if_pos (by omega)] | rw [if_neg (by omega)]; omega, fun z9 => absurd z9 (by omega)⟩
                            · rw [zup_n _ _ e8]
                              exact ⟨fun z9 => hVj.1 (by omega), fun z9 => hVj.2 (by omega)⟩
                          · omega
                        · omega
                    · omega
                · rw [if_neg hqk] at hs1
                  rw [if_neg (by omega)] at hs2
                  refine zz_iload hx dL_erases_92 rfl ?_
                  refine zz_aload hx dL_erases_94 rfl ?_
                  refine zz_iconst hx dL_erases_96 ?_
                  refine zr_ld hx 2 rfl (by decide) (by omega) (by omega) dL_erases_97 ?_
                  refine zz_icmp_ge hx 195 dL_erases_98 rfl (by omega) (by omega) (fun c98 => ?_) (fun c98 => ?_)
                  · omega
                  · refine zz_aload_n hx dL_erases_101 rfl ?_
                    refine zz_iload hx dL_erases_102 rfl ?_
                    refine zz_callW hx hnc mw_L_isThere lk_L_126 (l_isThere (ow := ow) (isO := isO) (L := L) hst hJ2.1 k (by omega)) ⟨rfl, rfl⟩ (by decide) ⟨show 3 + k.toNat + 1 ≤ 63 by omega, show 18 + 6 * k.toNat + 6 ≤ 378 by omega⟩ rfl rfl (Nat.le_of_ble_eq_true rfl) dL_erases_104 (fun r104 w104 hp104 => ?_)
                    obtain ⟨hr13, rfl⟩ := hp104
                    rw [rAt_in h0 (show k < ((60 : Nat) : Int) by omega)] at hr13
                    refine zz_istore (lv' := [(0, _), (1, _), (2, _), (3, _), (4, _), (5, _), (6, _), (7, _), (9, _), (10, _), (11, _), (12, _), (13, _)]) hx dL_erases_107 (by decide) rfl ?_
                    refine zz_iload hx dL_erases_109 rfl ?_
                    refine zz_if_eq hx 147 dL_erases_111 rfl (by decide) (fun z => absurd z (by decide)) (fun _ => ?_)
                    refine zz_iload hx dL_erases_114 rfl ?_
                    refine zz_aload_n hx dL_erases_116 rfl ?_
                    refine zz_iload hx dL_erases_117 rfl ?_
                    refine zr_ld hx 1 rfl (by decide) (by omega) (by omega) dL_erases_119 ?_
                    refine zz_if_eq hx 139 dL_erases_120 rfl (by omega) (fun c120 => ?_) (fun c120 => ?_)
                    · omega
                    · refine zz_lload hx dL_erases_123 rfl ?_
                      refine zz_iload hx dL_erases_125 rfl ?_
                      refine zz_lshr hx dL_erases_127 ?_
                      refine zz_lconst (v := 1) hx dL_erases_128 rfl ?_
                      refine zz_land hx dL_erases_129 ?_
                      refine zz_lconst (v := 0) hx dL_erases_130 rfl ?_
                      refine zz_lcmp hx dL_erases_131 (fun t131 ht131 he131 => ?_)
                      have ht131 : t131 = 0 := he131.mpr hb9
                      refine zz_if_ne hx 139 dL_erases_132 rfl (by omega) (fun c132 => ?_) (fun c132 => ?_)
                      · omega
                      · refine zz_iconst hx dL_erases_135 ?_
                        refine zz_goto hx 140 dL_erases_136 rfl ?_
                        refine zz_icmp_ne hx 147 dL_erases_140 rfl (by omega) (by omega) (fun c140 => ?_) (fun c140 => ?_)
                        · omega
                        · refine zz_iconst hx dL_erases_143 ?_
                          refine zz_goto hx 148 dL_erases_144 rfl ?_
                          refine zz_istore (lv' := [(0, _), (1, _), (2, _), (3, _), (4, _), (5, _), (6, _), (7, _), (9, _), (10, _), (11, _), (12, _), (13, _)]) hx dL_erases_148 (by decide) rfl ?_
                          refine zz_iload hx dL_erases_150 rfl ?_
                          refine zz_aload_n hx dL_erases_152 rfl ?_
                          refine zz_iload hx dL_erases_153 rfl ?_
                          refine zr_ld hx 1 rfl (by decide) (by omega) (by omega) dL_erases_155 ?_
                          refine zz_if_eq hx 168 dL_erases_156 rfl (by omega) (fun c156 => ?_) (fun c156 => ?_)
                          · omega
                          · refine zz_iload hx dL_erases_159 rfl ?_
                            refine zz_if_ne hx 168 dL_erases_161 rfl (by omega) (fun c161 => ?_) (fun c161 => ?_)
                            · refine zz_iconst hx dL_erases_168 ?_
                              refine zz_iadd hx dL_erases_169 ?_
                              refine zz_istore (lv' := [(0, _), (1, _), (2, _), (3, _), (4, _), (5, _), (6, _), (7, _), (9, _), (10, _), (11, _), (12, _), (13, _)]) hx dL_erases_170 (by decide) rfl ?_
                              refine zz_aload_n hx dL_erases_172 rfl ?_
                              refine zz_iload hx dL_erases_173 rfl ?_
                              refine zz_iload hx dL_erases_175 rfl ?_
                              refine zz_if_eq hx 187 dL_erases_177 rfl (by omega) (fun c177 => ?_) (fun c177 => ?_)
                              · omega
                              · refine zz_aload_n hx dL_erases_180 rfl ?_
                                refine zz_iload hx dL_erases_181 rfl ?_
                                refine zr_ld hx 1 rfl (by decide) (by omega) (by omega) dL_erases_183 ?_
                                refine zz_goto hx 188 dL_erases_184 rfl ?_
                                refine zr_st1 hx (by decide) (by omega) (by omega) dL_erases_188 ?_
                                refine zz_iinc (lv' := [(0, _), (1, _), (2, _), (3, _), (4, _), (5, _), (6, _), (7, _), (9, _), (10, _), (11, _), (12, _), (13, _)]) hx dL_erases_189 (by decide) rfl rfl ?_
                                refine zz_goto hx 92 dL_erases_192 rfl ?_
                                have e9 : pc (Q 0) k.toNat - pc (Q2 0) k.toNat + 0 = pc (Q 0) (k + 1).toNat - pc (Q2 0) (k + 1).toNat := by
                                  rw [hs1, hs2]
                                  omega
                                rw [e9]
                                refine zz_widen (k' := 3 + (k + 1).toNat) (n' := 18 + 6 * (k + 1).toNat) (show 3 + k.toNat + 1 ≤ 3 + (k + 1).toNat by omega) (show 18 + 6 * k.toNat + 6 ≤ 18 + 6 * (k + 1).toNat by omega) ?_
                                refine zz_sub (lv' := [(0, _), (1, _), (2, _), (3, _), (4, _), (5, _), (6, _), (7, _), (9, _), (10, _), (11, _), (12, _)]) (by first | exact fun q9 hq9 => hq9 | exact fun q9 hq9 => List.mem_append_left [_] hq9 | exact fun q9 hq9 => List.mem_append_left [_, _] hq9 | exact fun q9 hq9 => List.mem_append_left [_, _, _] hq9 | exact fun q9 hq9 => List.mem_append_left [_, _, _, _] hq9 | exact fun q9 hq9 => List.mem_append_left [_, _, _, _, _] hq9 | exact fun q9 hq9 => List.mem_append_left [_, _, _, _, _, _] hq9 | exact fun q9 hq9 => List.mem_append_left [_, _, _, _, _, _, _] hq9 | exact fun q9 hq9 => List.mem_append_left [_, _, _, _, _, _, _, _] hq9) ?_
                                refine ih (k + 1) _ (by omega) (by omega) (fun j j0 j1 => ?_) (by omega)
                                have hVj := hV j j0 j1
                                by_cases e8 : j = k
                                · rw [e8, zup_s]
                                  exact ⟨fun _ => by first | rw [if_pos (by omega)] | rw [if_neg (by omega)]; omega, fun z9 => absurd z9 (by omega)⟩
                                · rw [zup_n _ _ e8]
                                  exact ⟨fun z9 => hVj.1 (by omega), fun z9 => hVj.2 (by omega)⟩
                            · omega
            · refine zz_iload hx dL_erases_92 rfl ?_
              refine zz_aload hx dL_erases_94 rfl ?_
              refine zz_iconst hx dL_erases_96 ?_
              refine zr_ld hx 2 rfl (by decide) (by omega) (by omega) dL_erases_97 ?_
              refine zz_icmp_ge hx 195 dL_erases_98 rfl (by omega) (by omega) (fun c98 => ?_) (fun c98 => ?_)
              · have hkI : k = I 0 := by omega
                have hgone : pc (Q 0) k.toNat - pc (Q2 0) k.toNat = (D2.length : Int) := by
                  have y1 := hJ.2.2.2.2.2.2.2.2
                  have y2 := hJ2.2.2.2.2.2.2.2.2
                  rw [h20] at y2
                  rw [hkI]
                  omega
                have hV2 : kU Q2 V := fun j j0 j1 => by
                  have hVj := hV j j0 j1
                  have hu9 := kU_at hU hI (k := j) j0 j1
                  have hqj := hq2 j
                  by_cases c9 : j < k
                  · have z9 := hVj.1 c9
                    by_cases c8 : Q2 0 j = -1
                    · rw [if_pos c8] at z9; exact Or.inl ⟨z9, c8⟩
                    · rw [if_neg c8] at z9
                      have c7 : j ∉ D2 := fun z8 => by rw [if_pos z8] at hqj; exact c8 hqj
                      rw [if_neg c7] at hqj
                      rw [hq21]
                      right; omega
                  · have z9 := hVj.2 (by omega)
                    have z8 := hJ.2.2.2.2.2.2.2.1 j (by omega) j1
                    have z7 := hJ2.2.2.2.2.2.2.2.1 j (by rw [h20]; omega) j1
                    left; omega
                refine zz_aload hx dL_erases_195 rfl ?_
                refine zz_iconst hx dL_erases_197 ?_
                refine zz_dup2 hx dL_erases_198 rfl rfl ?_
                refine zr_ld hx 2 rfl (by decide) (by omega) (by omega) dL_erases_199 ?_
                refine zz_iload hx dL_erases_200 rfl ?_
                refine zz_isub hx dL_erases_202 ?_
                refine zr_st2 hx (by decide) (by omega) (by omega) dL_erases_203 ?_
                refine zz_iload hx dL_erases_204 rfl ?_
                refine zz_if_eq hx 235 dL_erases_206 rfl (by decide) (fun z => absurd z (by decide)) (fun _ => ?_)
                refine zz_iload hx dL_erases_209 rfl ?_
                refine zz_iload hx dL_erases_211 rfl ?_
                refine zz_icmp_ne hx 235 dL_erases_213 rfl (by omega) (by omega) (fun c213 => ?_) (fun c213 => ?_)
                · omega
                · refine zz_iload hx dL_erases_216 rfl ?_
                  refine zz_iload hx dL_erases_218 rfl ?_
                  refine zz_icmp_ne hx 235 dL_erases_220 rfl (by omega) (by omega) (fun c220 => ?_) (fun c220 => ?_)
                  · omega
                  · refine zz_aload_n hx dL_erases_223 rfl ?_
                    refine zz_callVi hx me_X3_current lk_L_74 (k_X3_current hst) 0 rfl rfl ⟨rfl, rfl⟩ (by decide) ⟨show 3 + k.toNat + 0 ≤ 63 by omega, show 18 + 6 * k.toNat + 0 ≤ 378 by omega⟩ rfl rfl (Nat.le_of_ble_eq_true rfl) dL_erases_224 (fun _ _ h => h.elim) (fun r224 w224 hp224 => ?_)
                    obtain ⟨rfl, rfl⟩ := hp224
                    refine zz_iconst hx dL_erases_227 ?_
                    refine zz_icmp_ne hx 235 dL_erases_228 rfl (by omega) (by omega) (fun c228 => ?_) (fun c228 => ?_)
                    · omega
                    · refine zz_iconst hx dL_erases_231 ?_
                      refine zz_goto hx 236 dL_erases_232 rfl ?_
                      exact zz_zret hx hf dL_erases_236 (Or.inr rfl) ⟨_, rfl, rfl, I2, Q2, PD P ow D2 N, T2, _, _, _, V, _, rfl, hJ2, ⟨by rw [zup_n _ _ (by decide)]; exact hc0, by rw [zup_n _ _ (by decide), h20]; exact hc1, by rw [zup_s, h21]; omega⟩, hV2, kG_P hG hP2⟩ (show 3 + k.toNat + 0 ≤ 63 by omega) (show 18 + 6 * k.toNat + 0 ≤ 378 by omega)
              · omega
        refine zz_istore (lv' := [(0, _), (1, _), (2, _), (3, _), (4, _), (5, _), (6, _), (7, _), (9, _)]) hx dL_erases_53 (by decide) rfl ?_
        refine zz_iload hx dL_erases_55 rfl ?_
        refine zz_if_ge hx 83 dL_erases_57 rfl (by omega) (fun c57 => ?_) (fun c57 => ?_)
        · refine zz_iconst hx dL_erases_83 ?_
          refine zz_istore (lv' := [(0, _), (1, _), (2, _), (3, _), (4, _), (5, _), (6, _), (7, _), (9, _), (10, _)]) hx dL_erases_84 (by decide) rfl ?_
          refine zz_iconst hx dL_erases_86 ?_
          refine zz_istore (lv' := [(0, _), (1, _), (2, _), (3, _), (4, _), (5, _), (6, _), (7, _), (9, _), (10, _), (11, _)]) hx dL_erases_87 (by decide) rfl ?_
          refine zz_iconst hx dL_erases_89 ?_
          refine zz_istore (lv' := [(0, _), (1, _), (2, _), (3, _), (4, _), (5, _), (6, _), (7, _), (9, _), (10, _), (11, _), (12, _)]) hx dL_erases_90 (by decide) rfl ?_
          refine zz_widen (k' := 3 + (0 : Int).toNat) (n' := 18 + 6 * (0 : Int).toNat) (by decide) (by decide) ?_
          refine zz_eq rfl rfl ?_
          exact loop ((I 0).toNat + 1) 0 U (by omega) (by omega) (fun j j0 j1 => ⟨fun z9 => absurd z9 (by omega), fun _ => rfl⟩) (by omega)
        · omega
    · omega
  by_cases hm : I 2 = -1
  · refine zz_aload_n hx dL_erases_0 rfl ?_
    refine zz_callVi hx me_X3_current lk_L_74 (k_X3_current hst) 0 rfl rfl ⟨rfl, rfl⟩ (by decide) (by decide) rfl rfl (Nat.le_of_ble_eq_true rfl) dL_erases_1 (fun _ _ h => h.elim) (fun r1 w1 hp1 => ?_)
    obtain ⟨rfl, rfl⟩ := hp1
    refine zz_istore (lv' := [(0, _), (1, _), (2, _), (3, _), (4, _), (5, _)]) hx dL_erases_4 (by decide) rfl ?_
    refine zz_iload hx dL_erases_6 rfl ?_
    refine zz_if_ge hx 15 dL_erases_8 rfl (by omega) (fun c8 => ?_) (fun c8 => ?_)
    · omega
    · refine zz_iconst hx dL_erases_11 ?_
      refine zz_goto hx 22 dL_erases_12 rfl ?_
      refine zz_istore (lv' := [(0, _), (1, _), (2, _), (3, _), (4, _), (5, _), (6, _)]) hx dL_erases_22 (by decide) rfl ?_
      refine zz_iload hx dL_erases_24 rfl ?_
      refine zz_if_ge hx 33 dL_erases_26 rfl (by omega) (fun c26 => ?_) (fun c26 => ?_)
      · omega
      · refine zz_lconst (v := 0) hx dL_erases_29 rfl ?_
        refine zz_goto hx 44 dL_erases_30 rfl ?_
        refine zz_lstore (lv' := [(0, _), (1, _), (2, _), (3, _), (4, _), (5, _), (6, _), (7, _)]) hx dL_erases_44 (by decide) rfl ?_
        refine zz_aload_n hx dL_erases_46 rfl ?_
        refine zz_iconst hx dL_erases_47 ?_
        refine zz_iload_n hx dL_erases_48 rfl ?_
        refine zz_iconst hx dL_erases_49 ?_
        refine zz_callW hx hnc mw_L_acts lk_L_112 (l_acts2 hst hJ way 0 hway) ⟨rfl, rfl⟩ (by decide) (by decide) rfl rfl (Nat.le_of_ble_eq_true rfl) dL_erases_50 (fun r50 w50 hp50 => ?_)
        rcases hp50 with ⟨e50, rfl, hn50⟩ | ⟨hB, -⟩
        · skip
          refine zz_istore (lv' := [(0, _), (1, _), (2, _), (3, _), (4, _), (5, _), (6, _), (7, _), (9, _)]) hx dL_erases_53 (by decide) rfl ?_
          refine zz_iload hx dL_erases_55 rfl ?_
          refine zz_if_ge hx 83 dL_erases_57 rfl (by omega) (fun c57 => ?_) (fun c57 => ?_)
          · omega
          · refine zz_iload hx dL_erases_60 rfl ?_
            refine zz_sipush hx dL_erases_62 rfl ?_
            refine zz_icmp_ne hx 81 dL_erases_65 rfl (by omega) (by omega) (fun c65 => ?_) (fun c65 => ?_)
            · omega
            · refine zz_iload hx dL_erases_68 rfl ?_
              refine zz_if_lt hx 77 dL_erases_70 rfl (by omega) (fun c70 => ?_) (fun c70 => ?_)
              · refine zz_iconst hx dL_erases_77 ?_
                refine zz_goto hx 82 dL_erases_78 rfl ?_
                exact zz_zret hx hf dL_erases_82 (Or.inr rfl) ⟨_, rfl, rfl, I, Q, P, T, ow, isO, L, U, C, rfl, hJ, hC, hU, hG⟩ (by decide) (by decide)
              · omega
        · exact absurd hm hB.1
  · have hi20 := J_i2 hJ hm
    refine zz_aload_n hx dL_erases_0 rfl ?_
    refine zz_callVi hx me_X3_current lk_L_74 (k_X3_current hst) 0 rfl rfl ⟨rfl, rfl⟩ (by decide) (by decide) rfl rfl (Nat.le_of_ble_eq_true rfl) dL_erases_1 (fun _ _ h => h.elim) (fun r1 w1 hp1 => ?_)
    obtain ⟨rfl, rfl⟩ := hp1
    refine zz_istore (lv' := [(0, _), (1, _), (2, _), (3, _), (4, _), (5, _)]) hx dL_erases_4 (by decide) rfl ?_
    refine zz_iload hx dL_erases_6 rfl ?_
    refine zz_if_ge hx 15 dL_erases_8 rfl (by omega) (fun c8 => ?_) (fun c8 => ?_)
    · refine zz_aload_n hx dL_erases_15 rfl ?_
      refine zz_iload hx dL_erases_16 rfl ?_
      refine zz_iload_n hx dL_erases_18 rfl ?_
      refine zz_callVi hx me_X3_wouldErase lk_L_119 (q_X3_wouldErase hst hI hS (I 2) ⟨hi20.1, hi20.2.2.1⟩ hi20.2.2.2 way hway) 0 rfl rfl ⟨rfl, rfl⟩ (by decide) (by decide) rfl rfl (Nat.le_of_ble_eq_true rfl) dL_erases_19 (fun _ _ h => h.elim) (fun r19 w19 hp19 => ?_)
      rcases hp19 with ⟨rfl, e19, hy0, hex⟩ | ⟨I1, Q1, D, rfl, hg19, e19, ha, hno, hD⟩
      · skip
        refine zz_istore (lv' := [(0, _), (1, _), (2, _), (3, _), (4, _), (5, _), (6, _)]) hx dL_erases_22 (by decide) rfl ?_
        refine zz_iload hx dL_erases_24 rfl ?_
        refine zz_if_ge hx 33 dL_erases_26 rfl (by omega) (fun c26 => ?_) (fun c26 => ?_)
        · refine zz_aload_n hx dL_erases_33 rfl ?_
          refine zz_aload_n hx dL_erases_34 rfl ?_
          refine zz_aload_n hx dL_erases_35 rfl ?_
          refine zz_aload hx dL_erases_36 rfl ?_
          refine zz_iload hx dL_erases_38 rfl ?_
          refine zz_iload_n hx dL_erases_40 rfl ?_
          refine zz_callSl hx ms_L_goes lk_L_122 (l_goes hst hJ hC hU hG hN0 (I 2) way ⟨⟨hi20.1, hi20.2.2.1⟩, hi20.2.2.2⟩ hway) ⟨rfl, rfl⟩ (by decide) (by decide) rfl rfl (Nat.le_of_ble_eq_true rfl) dL_erases_41 (fun _ _ h => h.elim) (fun r41 w41 hp41 => ?_)
          obtain ⟨rfl, hb1, hb2, hb3⟩ := hp41
          refine zz_lstore (lv' := [(0, _), (1, _), (2, _), (3, _), (4, _), (5, _), (6, _), (7, _)]) hx dL_erases_44 (by decide) rfl ?_
          refine zz_aload_n hx dL_erases_46 rfl ?_
          refine zz_iconst hx dL_erases_47 ?_
          refine zz_iload_n hx dL_erases_48 rfl ?_
          refine zz_iconst hx dL_erases_49 ?_
          refine zz_callW hx hnc mw_L_acts lk_L_112 (l_acts2 hst hJ way 0 hway) ⟨rfl, rfl⟩ (by decide) (by decide) rfl rfl (Nat.le_of_ble_eq_true rfl) dL_erases_50 (fun r50 w50 hp50 => ?_)
          rcases hp50 with ⟨e50, rfl, hn50⟩ | ⟨hB, -⟩
          · skip
            refine zz_istore (lv' := [(0, _), (1, _), (2, _), (3, _), (4, _), (5, _), (6, _), (7, _), (9, _)]) hx dL_erases_53 (by decide) rfl ?_
            refine zz_iload hx dL_erases_55 rfl ?_
            refine zz_if_ge hx 83 dL_erases_57 rfl (by omega) (fun c57 => ?_) (fun c57 => ?_)
            · omega
            · refine zz_iload hx dL_erases_60 rfl ?_
              refine zz_sipush hx dL_erases_62 rfl ?_
              refine zz_icmp_ne hx 81 dL_erases_65 rfl (by omega) (by omega) (fun c65 => ?_) (fun c65 => ?_)
              · omega
              · refine zz_iload hx dL_erases_68 rfl ?_
                refine zz_if_lt hx 77 dL_erases_70 rfl (by omega) (fun c70 => ?_) (fun c70 => ?_)
                · omega
                · refine zz_iload_n hx dL_erases_73 rfl ?_
                  refine zz_if_ne hx 81 dL_erases_74 rfl (by omega) (fun c74 => ?_) (fun c74 => ?_)
                  · omega
                  · refine zz_iconst hx dL_erases_77 ?_
                    refine zz_goto hx 82 dL_erases_78 rfl ?_
                    exact zz_zret hx hf dL_erases_82 (Or.inr rfl) ⟨_, rfl, rfl, I, Q, P, T, ow, isO, L, U, C, rfl, hJ, hC, hU, hG⟩ (by decide) (by decide)
          · obtain ⟨s9, s0, s1, s2⟩ := hex
            exact absurd s2 (hB.2 hy0 s9 s0 s1)
        · omega
      · have e2 : I1 2 = I 2 := ha.1 2 (by decide)
        rw [← e2] at hno hD hm ⊢
        exact j22 I1 Q1 D r19 (J_aF hJ ha) (kC_of hC (ha.1 0 (by decide)) (ha.1 1 (by decide))) (kU_of hU (ha.2 0 (by decide) (by decide)) (ha.2 1 (by decide) (by decide))) hm e19 hg19.2.1 hno hD
    · omega
