/-! the law: storing -/
def stA (Q : Nat → Int → Int) (P : Int → Nat → Int) (ow : Int → Int → Int) (L : Int → List Int) (ty k : Int) (E Nn A : Int → Int) : Prop := ∀ j : Int, 0 ≤ j → j < k → ((P j 3 = 1 ∧ P j 1 = ty) → E j = cO Q P ow j) ∧ (¬ (P j 3 = 1 ∧ P j 1 = ty) → E j = -1) ∧ (E j < 0 → Nn j = 0 ∧ A j = -1) ∧ (0 ≤ E j → Nn j = ((mOf (ow j) (E j) (L j)).length : Int) ∧ ixO (mOf (ow j) (E j) (L j)) (P j 8) (A j))
theorem kU_sto {I : Nat → Int} {Q : Nat → Int → Int} {U : Int → Int} {t v : Int} (hU : kU Q U) (ht : 0 ≤ t) : kU (stQ I Q t v) (zup U (I 0) (t + 1 + 8 * (v + 1000))) := fun k k0 k1 => by
  show (zup U (I 0) (t + 1 + 8 * (v + 1000)) k = 0 ∧ zup (Q 0) (I 0) t k = -1) ∨ (zup U (I 0) (t + 1 + 8 * (v + 1000)) k = zup (Q 0) (I 0) t k + 1 + 8 * (zup (Q 1) (I 0) v k + 1000) ∧ 0 ≤ zup (Q 0) (I 0) t k)
  by_cases e : k = I 0
  · subst e
    rw [zup_s, zup_s, zup_s]
    exact Or.inr ⟨rfl, ht⟩
  · rw [zup_n _ _ e, zup_n _ _ e, zup_n _ _ e]
    exact hU k k0 k1

set_option maxHeartbeats 4000000 in
set_option maxRecDepth 100000 in
theorem l_stores {l : Launch} {g : zG} {b : Nat → Nat} {c : Int → Nat → Nat} {I : Nat → Int} {Q : Nat → Int → Int} {P : Int → Nat → Int} {T : Int → Nat → Int → Int} {N : Nat} {ow : Int → Int → Int} {isO : Int → Int → Prop} {L : Int → List Int} {rest : va_W} (hst : l.stackTraces = false) {gA tA cA : Nat} {Gr U C : Int → Int} (hJ : J I Q P T N ow isO L) (hC : kC I N C) (hU : kU Q U) (hG : kG P N Gr) (hN0 : 0 < N) (xa ya : Int) (hx0 : 0 ≤ xa ∧ xa < 1073741824) (hy0 : 0 ≤ ya ∧ ya < 1073741824) : zMn l g yL_stores cL_stores 16 (Option.some FieldType.boolean) ({ frames := 10, cells := 7, slots := 47, locals := 198 } : Room) [.ref (b 0), vi xa, vi ya, .ref gA, .ref tA, .ref cA] (wD g b c I Q P T N (rA g gA 30 Gr :: rA g tA 60 U :: rA g cA 3 C :: rest)) (zI fun v w => v = 1 ∧ (jW g b c N gA tA cA Gr rest w)) 7 47 := by
  have hI := hJ.1
  have hS := hJ.2.1
  have hi0 := hI.2.2.2.2.2.2.1
  have hN6 := hI.2.1
  obtain ⟨hc0, hc1, hc2⟩ := id hC
  have hi2 := hI.2.2.1
  have ht4 : 0 ≤ xa % 4 ∧ xa % 4 ≤ 3 := by omega
  have hv9 : -2 ≤ ya % 9 - 2 ∧ ya % 9 - 2 ≤ 6 := by omega
  refine zMn_of (lv0 := [(0, _), (1, _), (2, _), (3, _), (4, _), (5, _)]) hst rfl (by decide +kernel) (Nat.le_of_ble_eq_true rfl) rfl (fun x hx hf hnc => ?_)
  refine zz_iload_n hx dL_stores_0 rfl ?_
  refine zz_iconst hx dL_stores_1 ?_
  refine zz_irem hx dL_stores_2 (by omega) (by omega) (by omega) (by omega) ?_
  refine zz_istore (lv' := [(0, _), (1, _), (2, _), (3, _), (4, _), (5, _), (6, _)]) hx dL_stores_3 (by decide) rfl ?_
  refine zz_iload_n hx dL_stores_5 rfl ?_
  refine zz_bipush hx dL_stores_6 rfl ?_
  refine zz_irem hx dL_stores_8 (by omega) (by omega) (by omega) (by omega) ?_
  refine zz_iconst hx dL_stores_9 ?_
  refine zz_isub hx dL_stores_10 ?_
  refine zz_istore (lv' := [(0, _), (1, _), (2, _), (3, _), (4, _), (5, _), (6, _), (7, _)]) hx dL_stores_11 (by decide) rfl ?_
  refine zz_bipush hx dL_stores_13 rfl ?_
  refine zz_newi (N := 11) hx (by decide) (by decide) dL_stores_15 (fun q15 => ?_)
  refine zz_perm (pN3 _) ?_
  refine zz_astore (lv' := [(0, _), (1, _), (2, _), (3, _), (4, _), (5, _), (6, _), (7, _), (8, _)]) hx dL_stores_17 (by decide) rfl ?_
  refine zz_bipush hx dL_stores_19 rfl ?_
  refine zz_newi (N := 6) hx (by decide) (by decide) dL_stores_21 (fun q21 => ?_)
  refine zz_perm (pN4 _) ?_
  refine zz_astore (lv' := [(0, _), (1, _), (2, _), (3, _), (4, _), (5, _), (6, _), (7, _), (8, _), (9, _)]) hx dL_stores_23 (by decide) rfl ?_
  refine zz_bipush hx dL_stores_25 rfl ?_
  refine zz_newi (N := 6) hx (by decide) (by decide) dL_stores_27 (fun q27 => ?_)
  refine zz_perm (pN5 _) ?_
  refine zz_astore (lv' := [(0, _), (1, _), (2, _), (3, _), (4, _), (5, _), (6, _), (7, _), (8, _), (9, _), (10, _)]) hx dL_stores_29 (by decide) rfl ?_
  refine zz_bipush hx dL_stores_31 rfl ?_
  refine zz_newi (N := 6) hx (by decide) (by decide) dL_stores_33 (fun q33 => ?_)
  refine zz_perm (pN6 _) ?_
  refine zz_astore (lv' := [(0, _), (1, _), (2, _), (3, _), (4, _), (5, _), (6, _), (7, _), (8, _), (9, _), (10, _), (11, _)]) hx dL_stores_35 (by decide) rfl ?_
  have j51 : ∀ cn : Int, ((cn = 1 ∧ I 0 < 60) ∨ (cn = 0 ∧ ¬ I 0 < 60)) → Z l g ({ frames := 10, cells := 7, slots := 47, locals := 198 } : Room) 16 x 4 29 (wD g b c I Q P T N (rA g gA 30 Gr :: rA g tA 60 U :: rA g cA 3 C :: rA g q15 11 (fun _ => 0) :: rA g q21 6 (fun _ => 0) :: rA g q27 6 (fun _ => 0) :: rA g q33 6 (fun _ => 0) :: rest)) 51 [(0, .ref (b 0)), (1, vi xa), (2, vi ya), (3, .ref gA), (4, .ref tA), (5, .ref cA), (6, vi (xa % 4)), (7, vi (ya % 9 - 2)), (8, .ref q15), (9, .ref q21), (10, .ref q27), (11, .ref q33)] [vi cn] := by
    intro cn hcn
    refine zz_istore (lv' := [(0, _), (1, _), (2, _), (3, _), (4, _), (5, _), (6, _), (7, _), (8, _), (9, _), (10, _), (11, _), (12, _)]) hx dL_stores_51 (by decide) rfl ?_
    refine zz_aload_n hx dL_stores_53 rfl ?_
    refine zz_aload hx dL_stores_54 rfl ?_
    refine zz_aload hx dL_stores_56 rfl ?_
    refine zz_callSv hx ms_L_notes lk_L_77 (l_notes hst hJ hC) ⟨rfl, rfl⟩ (by decide) (by decide) rfl rfl (Nat.le_of_ble_eq_true rfl) dL_stores_58 (fun _ _ h => h.elim) (fun w58 hp58 => ?_)
    obtain ⟨W1, hW1, rfl⟩ := hp58
    have hw0 := hW1.1
    refine zz_iconst hx dL_stores_61 ?_
    refine zz_istore (lv' := [(0, _), (1, _), (2, _), (3, _), (4, _), (5, _), (6, _), (7, _), (8, _), (9, _), (10, _), (11, _), (12, _), (13, _)]) hx dL_stores_62 (by decide) rfl ?_
    have loopA : ∀ (n : Nat) (k cn : Int) (E Nn A : Int → Int), 0 ≤ k → k ≤ (N : Int) → ((cn = 1 ∧ (I 0 < 60 ∧ ∀ j : Int, 0 ≤ j → j < k → (P j 3 = 1 ∧ P j 1 = (xa % 4)) → P j 8 ≠ -1)) ∨ (cn = 0 ∧ ¬ (I 0 < 60 ∧ ∀ j : Int, 0 ≤ j → j < k → (P j 3 = 1 ∧ P j 1 = (xa % 4)) → P j 8 ≠ -1))) → stA Q P ow L (xa % 4) k E Nn A → ((N : Int) - k).toNat < n → Z l g ({ frames := 10, cells := 7, slots := 47, locals := 198 } : Room) 16 x 4 29 (wD g b c I Q P T N (rA g gA 30 Gr :: rA g tA 60 U :: rA g cA 3 C :: rA g q15 11 W1 :: rA g q21 6 E :: rA g q27 6 Nn :: rA g q33 6 A :: rest)) 64 [(0, .ref (b 0)), (1, vi xa), (2, vi ya), (3, .ref gA), (4, .ref tA), (5, .ref cA), (6, vi (xa % 4)), (7, vi (ya % 9 - 2)), (8, .ref q15), (9, .ref q21), (10, .ref q27), (11, .ref q33), (12, vi cn), (13, vi k)] [] := by
      intro n
      induction n with
      | zero => intro k cn E Nn A h0 h1 h2 h3 hm; omega
      | succ n ih =>
        intro k cn E Nn A h0 h1 hcn hst8 hm
        have hcnr : cn = 0 ∨ cn = 1 := by
          rcases hcn with ⟨z9, -⟩ | ⟨z9, -⟩
          · exact Or.inr z9
          · exact Or.inl z9
        by_cases hk8 : k < (N : Int)
        · have hk9 : 0 ≤ k ∧ k < (N : Int) := ⟨h0, hk8⟩
          have hg9 := kG_at hG hS hk9
          have hwk := hW1.2.2 k h0 hk8
          have hcur := J_cur hJ h0 hk8
          have hcr : -1 ≤ cO Q P ow k ∧ cO Q P ow k < 60 := by
            rcases hcur with ⟨-, z9⟩ | ⟨-, -, -, -, z9, -⟩
            · omega
            · omega
          have hcp : P k 8 = -1 ↔ cO Q P ow k < 0 := by
            rcases hcur with ⟨z8, z9⟩ | ⟨z8, -, -, -, z9, -⟩
            · omega
            · omega
          have hcy : 0 ≤ cO Q P ow k → isO k (cO Q P ow k) := fun z7 => by
            rcases hcur with ⟨-, z9⟩ | ⟨-, -, -, z9, -⟩
            · omega
            · exact z9
          clear hcur
          have j215 : ∀ cn2 it e nn a : Int, ((cn2 = 1 ∧ (I 0 < 60 ∧ ∀ j : Int, 0 ≤ j → j < (k + 1) → (P j 3 = 1 ∧ P j 1 = (xa % 4)) → P j 8 ≠ -1)) ∨ (cn2 = 0 ∧ ¬ (I 0 < 60 ∧ ∀ j : Int, 0 ≤ j → j < (k + 1) → (P j 3 = 1 ∧ P j 1 = (xa % 4)) → P j 8 ≠ -1))) → (((P k 3 = 1 ∧ P k 1 = (xa % 4)) ∧ e = cO Q P ow k) ∨ (¬ (P k 3 = 1 ∧ P k 1 = (xa % 4)) ∧ e = -1)) → (e < 0 → nn = 0) → (0 ≤ e → nn = ((mOf (ow k) e (L k)).length : Int)) → (e < 0 → a = -1) → (0 ≤ e → ixO (mOf (ow k) e (L k)) (P k 8) a) → Z l g ({ frames := 10, cells := 7, slots := 47, locals := 198 } : Room) 16 x 4 29 (wD g b c I Q P T N (rA g gA 30 Gr :: rA g tA 60 U :: rA g cA 3 C :: rA g q15 11 W1 :: rA g q21 6 (zup E k e) :: rA g q27 6 (zup Nn k nn) :: rA g q33 6 A :: rest)) 215 [(0, .ref (b 0)), (1, vi xa), (2, vi ya), (3, .ref gA), (4, .ref tA), (5, .ref cA), (6, vi (xa % 4)), (7, vi (ya % 9 - 2)), (8, .ref q15), (9, .ref q21), (10, .ref q27), (11, .ref q33), (12, vi cn2), (13, vi k), (14, vi it)] [vi a, vi k, .ref q33] := by
            intro cn2 it e nn a hcn2 he hn0 hn1 ha0 ha1
            refine zr_st6 hx (by decide) (by omega) (by omega) dL_stores_215 ?_
            refine zz_iinc (lv' := [(0, _), (1, _), (2, _), (3, _), (4, _), (5, _), (6, _), (7, _), (8, _), (9, _), (10, _), (11, _), (12, _), (13, _), (14, _)]) hx dL_stores_216 (by decide) rfl rfl ?_
            refine zz_goto hx 64 dL_stores_219 rfl ?_
            refine zz_sub (lv' := [(0, _), (1, _), (2, _), (3, _), (4, _), (5, _), (6, _), (7, _), (8, _), (9, _), (10, _), (11, _), (12, _), (13, _)]) (by first | exact fun q9 hq9 => hq9 | exact fun q9 hq9 => List.mem_append_left [_] hq9 | exact fun q9 hq9 => List.mem_append_left [_, _] hq9 | exact fun q9 hq9 => List.mem_append_left [_, _, _] hq9 | exact fun q9 hq9 => List.mem_append_left [_, _, _, _] hq9 | exact fun q9 hq9 => List.mem_append_left [_, _, _, _, _] hq9 | exact fun q9 hq9 => List.mem_append_left [_, _, _, _, _, _] hq9 | exact fun q9 hq9 => List.mem_append_left [_, _, _, _, _, _, _] hq9 | exact fun q9 hq9 => List.mem_append_left [_, _, _, _, _, _, _, _] hq9) ?_
            refine ih (k + 1) cn2 _ _ _ (by omega) (by omega) hcn2 (fun j j0 j1 => ?_) (by omega)
            by_cases e9 : j = k
            · subst e9
              rw [zup_s, zup_s, zup_s]
              refine ⟨fun z9 => ?_, fun z9 => ?_, fun z9 => ⟨hn0 z9, ha0 z9⟩, fun z9 => ⟨hn1 z9, ha1 z9⟩⟩
              · rcases he with ⟨-, z8⟩ | ⟨z8, -⟩
                · exact z8
                · exact absurd z9 z8
              · rcases he with ⟨z8, -⟩ | ⟨-, z8⟩
                · exact absurd z8 z9
                · exact z8
            · rw [zup_n _ _ e9, zup_n _ _ e9, zup_n _ _ e9]
              exact hst8 j j0 (by omega)
          have j180 : ∀ cn2 it e nn : Int, ((cn2 = 1 ∧ (I 0 < 60 ∧ ∀ j : Int, 0 ≤ j → j < (k + 1) → (P j 3 = 1 ∧ P j 1 = (xa % 4)) → P j 8 ≠ -1)) ∨ (cn2 = 0 ∧ ¬ (I 0 < 60 ∧ ∀ j : Int, 0 ≤ j → j < (k + 1) → (P j 3 = 1 ∧ P j 1 = (xa % 4)) → P j 8 ≠ -1))) → (((P k 3 = 1 ∧ P k 1 = (xa % 4)) ∧ e = cO Q P ow k) ∨ (¬ (P k 3 = 1 ∧ P k 1 = (xa % 4)) ∧ e = -1)) → (e < 0 → nn = 0) → (0 ≤ e → nn = ((mOf (ow k) e (L k)).length : Int)) → Z l g ({ frames := 10, cells := 7, slots := 47, locals := 198 } : Room) 16 x 4 29 (wD g b c I Q P T N (rA g gA 30 Gr :: rA g tA 60 U :: rA g cA 3 C :: rA g q15 11 W1 :: rA g q21 6 (zup E k e) :: rA g q27 6 Nn :: rA g q33 6 A :: rest)) 180 [(0, .ref (b 0)), (1, vi xa), (2, vi ya), (3, .ref gA), (4, .ref tA), (5, .ref cA), (6, vi (xa % 4)), (7, vi (ya % 9 - 2)), (8, .ref q15), (9, .ref q21), (10, .ref q27), (11, .ref q33), (12, vi cn2), (13, vi k), (14, vi it)] [vi nn, vi k, .ref q27] := by
            intro cn2 it e nn hcn2 he hn0 hn1
            have her : -1 ≤ e ∧ e < 60 := by
              rcases he with ⟨-, z9⟩ | ⟨-, z9⟩ <;> omega
            have hei : 0 ≤ e → isO k e := fun z7 => by
              rcases he with ⟨-, z9⟩ | ⟨-, z9⟩
              · rw [z9]; exact hcy (by omega)
              · omega
            have he2 := he
            clear he
            refine zr_st5 hx (by decide) (by omega) (by omega) dL_stores_180 ?_
            refine zz_aload hx dL_stores_181 rfl ?_
            refine zz_iload hx dL_stores_183 rfl ?_
            refine zz_aload hx dL_stores_185 rfl ?_
            refine zz_iload hx dL_stores_187 rfl ?_
            refine zr_ld hx 4 rfl (by decide) (by omega) (by omega) dL_stores_189 ?_
            rw [zup_s]
            refine zz_if_ge hx 197 dL_stores_190 rfl (by omega) (fun c190 => ?_) (fun c190 => ?_)
            · refine zz_aload_n hx dL_stores_197 rfl ?_
              refine zz_iload hx dL_stores_198 rfl ?_
              refine zz_aload hx dL_stores_200 rfl ?_
              refine zz_iload hx dL_stores_202 rfl ?_
              refine zr_ld hx 4 rfl (by decide) (by omega) (by omega) dL_stores_204 ?_
              rw [zup_s]
              refine zz_aload hx dL_stores_205 rfl ?_
              refine zz_iconst hx dL_stores_207 ?_
              refine zz_iload hx dL_stores_208 rfl ?_
              refine zz_iadd hx dL_stores_210 ?_
              refine zr_ld hx 3 rfl (by decide) (by omega) (by omega) dL_stores_211 ?_
              rw [hwk]
              refine zz_callSi hx ms_L_placeOf lk_L_92 (l_placeOf hst hJ k hk9 e (hei (by omega)) (P k 8) (by omega)) ⟨rfl, rfl⟩ (by decide) (by decide) rfl rfl (Nat.le_of_ble_eq_true rfl) dL_stores_212 (fun _ _ h => h.elim) (fun r212 w212 hp212 => ?_)
              obtain ⟨hx9, rfl⟩ := hp212
              first
                | exact j215 cn2 it e nn _ hcn2 he2 hn0 hn1 (fun z9 => absurd z9 (by omega)) (fun _ => hx9)
                | exact j215 cn2 it e nn _ hcn2 he2 hn0 hn1 (fun _ => rfl) (fun z9 => absurd z9 (by omega))
            · refine zz_iconst hx dL_stores_193 ?_
              refine zz_goto hx 215 dL_stores_194 rfl ?_
              first
                | exact j215 cn2 it e nn _ hcn2 he2 hn0 hn1 (fun z9 => absurd z9 (by omega)) (fun _ => hx9)
                | exact j215 cn2 it e nn _ hcn2 he2 hn0 hn1 (fun _ => rfl) (fun z9 => absurd z9 (by omega))
          have j151 : ∀ cn2 it e : Int, ((cn2 = 1 ∧ (I 0 < 60 ∧ ∀ j : Int, 0 ≤ j → j < (k + 1) → (P j 3 = 1 ∧ P j 1 = (xa % 4)) → P j 8 ≠ -1)) ∨ (cn2 = 0 ∧ ¬ (I 0 < 60 ∧ ∀ j : Int, 0 ≤ j → j < (k + 1) → (P j 3 = 1 ∧ P j 1 = (xa % 4)) → P j 8 ≠ -1))) → (((P k 3 = 1 ∧ P k 1 = (xa % 4)) ∧ e = cO Q P ow k) ∨ (¬ (P k 3 = 1 ∧ P k 1 = (xa % 4)) ∧ e = -1)) → Z l g ({ frames := 10, cells := 7, slots := 47, locals := 198 } : Room) 16 x 4 29 (wD g b c I Q P T N (rA g gA 30 Gr :: rA g tA 60 U :: rA g cA 3 C :: rA g q15 11 W1 :: rA g q21 6 (zup E k e) :: rA g q27 6 Nn :: rA g q33 6 A :: rest)) 151 [(0, .ref (b 0)), (1, vi xa), (2, vi ya), (3, .ref gA), (4, .ref tA), (5, .ref cA), (6, vi (xa % 4)), (7, vi (ya % 9 - 2)), (8, .ref q15), (9, .ref q21), (10, .ref q27), (11, .ref q33), (12, vi cn), (13, vi k), (14, vi it)] [vi cn2] := by
            intro cn2 it e hcn2 he
            have her : -1 ≤ e ∧ e < 60 := by
              rcases he with ⟨-, z9⟩ | ⟨-, z9⟩ <;> omega
            have hei : 0 ≤ e → isO k e := fun z7 => by
              rcases he with ⟨-, z9⟩ | ⟨-, z9⟩
              · rw [z9]; exact hcy (by omega)
              · omega
            have he2 := he
            clear he
            refine zz_istore (lv' := [(0, _), (1, _), (2, _), (3, _), (4, _), (5, _), (6, _), (7, _), (8, _), (9, _), (10, _), (11, _), (12, _), (13, _), (14, _)]) hx dL_stores_151 (by decide) rfl ?_
            refine zz_aload hx dL_stores_153 rfl ?_
            refine zz_iload hx dL_stores_155 rfl ?_
            refine zz_aload hx dL_stores_157 rfl ?_
            refine zz_iload hx dL_stores_159 rfl ?_
            refine zr_ld hx 4 rfl (by decide) (by omega) (by omega) dL_stores_161 ?_
            rw [zup_s]
            refine zz_if_ge hx 169 dL_stores_162 rfl (by omega) (fun c162 => ?_) (fun c162 => ?_)
            · have hio := hei (by omega)
              have hqn : Q 0 e ≠ -1 := by have := (J_own hJ h0 hk8 hio).2.1; omega
              refine zz_aload_n hx dL_stores_169 rfl ?_
              refine zz_aload hx dL_stores_170 rfl ?_
              refine zz_iload hx dL_stores_172 rfl ?_
              refine zr_ld hx 4 rfl (by decide) (by omega) (by omega) dL_stores_174 ?_
              rw [zup_s]
              refine zz_iload hx dL_stores_175 rfl ?_
              refine zz_callVi hx me_X3_members lk_L_39 (q_X3_members hst hI hS e (by omega) hqn k hk9) 0 rfl rfl ⟨rfl, rfl⟩ (by decide) (by decide) rfl rfl (Nat.le_of_ble_eq_true rfl) dL_stores_177 (fun _ _ h => h.elim) (fun r177 w177 hp177 => ?_)
              obtain ⟨hm9, rfl⟩ := hp177
              obtain rfl : r177 = ((mOf (ow k) e (L k)).length : Int) := by
                rcases hm9 with z9 | z9
                · exact z9.2
                · exact absurd hio z9.1
              first
                | exact j180 cn2 it e _ hcn2 he2 (fun z9 => absurd z9 (by omega)) (fun _ => rfl)
                | exact j180 cn2 it e _ hcn2 he2 (fun _ => rfl) (fun z9 => absurd z9 (by omega))
            · refine zz_iconst hx dL_stores_165 ?_
              refine zz_goto hx 180 dL_stores_166 rfl ?_
              first
                | exact j180 cn2 it e _ hcn2 he2 (fun z9 => absurd z9 (by omega)) (fun _ => rfl)
                | exact j180 cn2 it e _ hcn2 he2 (fun _ => rfl) (fun z9 => absurd z9 (by omega))
          have j127 : ∀ it e : Int, ((it = 1 ∧ (P k 3 = 1 ∧ P k 1 = (xa % 4))) ∨ (it = 0 ∧ ¬ (P k 3 = 1 ∧ P k 1 = (xa % 4)))) → (((P k 3 = 1 ∧ P k 1 = (xa % 4)) ∧ e = cO Q P ow k) ∨ (¬ (P k 3 = 1 ∧ P k 1 = (xa % 4)) ∧ e = -1)) → Z l g ({ frames := 10, cells := 7, slots := 47, locals := 198 } : Room) 16 x 4 29 (wD g b c I Q P T N (rA g gA 30 Gr :: rA g tA 60 U :: rA g cA 3 C :: rA g q15 11 W1 :: rA g q21 6 E :: rA g q27 6 Nn :: rA g q33 6 A :: rest)) 127 [(0, .ref (b 0)), (1, vi xa), (2, vi ya), (3, .ref gA), (4, .ref tA), (5, .ref cA), (6, vi (xa % 4)), (7, vi (ya % 9 - 2)), (8, .ref q15), (9, .ref q21), (10, .ref q27), (11, .ref q33), (12, vi cn), (13, vi k), (14, vi it)] [vi e, vi k, .ref q21] := by
            intro it e hit he
            have hnx1 : 0 ≤ e ∨ it = 0 → cn = 1 → (I 0 < 60 ∧ ∀ j : Int, 0 ≤ j → j < (k + 1) → (P j 3 = 1 ∧ P j 1 = (xa % 4)) → P j 8 ≠ -1) := fun z9 z8 => by
              rcases hcn with ⟨-, z7⟩ | ⟨z7, -⟩
              · refine ⟨z7.1, fun j j0 j1 z6 => ?_⟩
                by_cases e9 : j = k
                · subst e9
                  rcases he with ⟨-, z5⟩ | ⟨z5, -⟩
                  · rcases z9 with z9 | z9
                    · intro z4; have := hcp.mp z4; omega
                    · rcases hit with ⟨z3, -⟩ | ⟨-, z3⟩
                      · omega
                      · exact absurd z6 z3
                  · exact absurd z6 z5
                · exact z7.2 j j0 (by omega) z6
              · omega
            have hnx0 : cn = 0 → ¬ (I 0 < 60 ∧ ∀ j : Int, 0 ≤ j → j < (k + 1) → (P j 3 = 1 ∧ P j 1 = (xa % 4)) → P j 8 ≠ -1) := fun z8 z9 => by
              rcases hcn with ⟨z7, -⟩ | ⟨-, z7⟩
              · omega
              · exact z7 ⟨z9.1, fun j j0 j1 => z9.2 j j0 (by omega)⟩
            have hnx2 : e < 0 → it = 1 → ¬ (I 0 < 60 ∧ ∀ j : Int, 0 ≤ j → j < (k + 1) → (P j 3 = 1 ∧ P j 1 = (xa % 4)) → P j 8 ≠ -1) := fun z8 z9 z7 => by
              rcases hit with ⟨-, z6⟩ | ⟨z6, -⟩
              · rcases he with ⟨-, z5⟩ | ⟨z5, -⟩
                · exact z7.2 k h0 (by omega) z6 (hcp.mpr (by omega))
                · exact absurd z6 z5
              · omega
            have hit2 : it = 0 ∨ it = 1 := by
              rcases hit with ⟨z9, -⟩ | ⟨z9, -⟩
              · exact Or.inr z9
              · exact Or.inl z9
            have her : -1 ≤ e ∧ e < 60 := by
              rcases he with ⟨-, z9⟩ | ⟨-, z9⟩ <;> omega
            have he2 := he
            clear he hit
            refine zr_st4 hx (by decide) (by omega) (by omega) dL_stores_127 ?_
            refine zz_iload hx dL_stores_128 rfl ?_
            refine zz_if_eq hx 150 dL_stores_130 rfl (by omega) (fun c130 => ?_) (fun c130 => ?_)
            · refine zz_iconst hx dL_stores_150 ?_
              first
                | exact j151 1 it e (Or.inl ⟨rfl, hnx1 (by omega) (by omega)⟩) he2
                | exact j151 0 it e (Or.inr ⟨rfl, hnx0 (by omega)⟩) he2
                | exact j151 0 it e (Or.inr ⟨rfl, hnx2 (by omega) (by omega)⟩) he2
            · refine zz_iload hx dL_stores_133 rfl ?_
              refine zz_if_eq hx 146 dL_stores_135 rfl (by omega) (fun c135 => ?_) (fun c135 => ?_)
              · refine zz_iconst hx dL_stores_146 ?_
                refine zz_goto hx 151 dL_stores_147 rfl ?_
                first
                  | exact j151 1 it e (Or.inl ⟨rfl, hnx1 (by omega) (by omega)⟩) he2
                  | exact j151 0 it e (Or.inr ⟨rfl, hnx0 (by omega)⟩) he2
                  | exact j151 0 it e (Or.inr ⟨rfl, hnx2 (by omega) (by omega)⟩) he2
              · refine zz_aload hx dL_stores_138 rfl ?_
                refine zz_iload hx dL_stores_140 rfl ?_
                refine zr_ld hx 4 rfl (by decide) (by omega) (by omega) dL_stores_142 ?_
                rw [zup_s]
                refine zz_if_lt hx 150 dL_stores_143 rfl (by omega) (fun c143 => ?_) (fun c143 => ?_)
                · refine zz_iconst hx dL_stores_150 ?_
                  first
                    | exact j151 1 it e (Or.inl ⟨rfl, hnx1 (by omega) (by omega)⟩) he2
                    | exact j151 0 it e (Or.inr ⟨rfl, hnx0 (by omega)⟩) he2
                    | exact j151 0 it e (Or.inr ⟨rfl, hnx2 (by omega) (by omega)⟩) he2
                · refine zz_iconst hx dL_stores_146 ?_
                  refine zz_goto hx 151 dL_stores_147 rfl ?_
                  first
                    | exact j151 1 it e (Or.inl ⟨rfl, hnx1 (by omega) (by omega)⟩) he2
                    | exact j151 0 it e (Or.inr ⟨rfl, hnx0 (by omega)⟩) he2
                    | exact j151 0 it e (Or.inr ⟨rfl, hnx2 (by omega) (by omega)⟩) he2
          have j103 : ∀ it : Int, ((it = 1 ∧ (P k 3 = 1 ∧ P k 1 = (xa % 4))) ∨ (it = 0 ∧ ¬ (P k 3 = 1 ∧ P k 1 = (xa % 4)))) → Z l g ({ frames := 10, cells := 7, slots := 47, locals := 198 } : Room) 16 x 4 29 (wD g b c I Q P T N (rA g gA 30 Gr :: rA g tA 60 U :: rA g cA 3 C :: rA g q15 11 W1 :: rA g q21 6 E :: rA g q27 6 Nn :: rA g q33 6 A :: rest)) 103 [(0, .ref (b 0)), (1, vi xa), (2, vi ya), (3, .ref gA), (4, .ref tA), (5, .ref cA), (6, vi (xa % 4)), (7, vi (ya % 9 - 2)), (8, .ref q15), (9, .ref q21), (10, .ref q27), (11, .ref q33), (12, vi cn), (13, vi k)] [vi it] := by
            intro it hit
            refine zz_istore (lv' := [(0, _), (1, _), (2, _), (3, _), (4, _), (5, _), (6, _), (7, _), (8, _), (9, _), (10, _), (11, _), (12, _), (13, _), (14, _)]) hx dL_stores_103 (by decide) rfl ?_
            refine zz_aload hx dL_stores_105 rfl ?_
            refine zz_iload hx dL_stores_107 rfl ?_
            refine zz_iload hx dL_stores_109 rfl ?_
            refine zz_if_eq hx 126 dL_stores_111 rfl (by omega) (fun c111 => ?_) (fun c111 => ?_)
            · refine zz_iconst hx dL_stores_126 ?_
              first
                | exact j127 it _ hit (Or.inl ⟨by omega, rfl⟩)
                | exact j127 it _ hit (Or.inr ⟨by omega, rfl⟩)
            · refine zz_aload_n hx dL_stores_114 rfl ?_
              refine zz_aload_n hx dL_stores_115 rfl ?_
              refine zz_aload hx dL_stores_116 rfl ?_
              refine zz_iload hx dL_stores_118 rfl ?_
              refine zz_callSi hx ms_L_owner lk_L_88 (l_owner hst hJ hC hU hG k hk9) ⟨rfl, rfl⟩ (by decide) (by decide) rfl rfl (Nat.le_of_ble_eq_true rfl) dL_stores_120 (fun _ _ h => h.elim) (fun r120 w120 hp120 => ?_)
              obtain ⟨rfl, rfl⟩ := hp120
              refine zz_goto hx 127 dL_stores_123 rfl ?_
              first
                | exact j127 it _ hit (Or.inl ⟨by omega, rfl⟩)
                | exact j127 it _ hit (Or.inr ⟨by omega, rfl⟩)
          refine zz_iload hx dL_stores_64 rfl ?_
          refine zz_aload hx dL_stores_66 rfl ?_
          refine zz_iconst hx dL_stores_68 ?_
          refine zr_ld hx 2 rfl (by decide) (by omega) (by omega) dL_stores_69 ?_
          refine zz_icmp_ge hx 222 dL_stores_70 rfl (by omega) (by omega) (fun c70 => ?_) (fun c70 => ?_)
          · omega
          · refine zz_aload_n hx dL_stores_73 rfl ?_
            refine zz_iconst hx dL_stores_74 ?_
            refine zz_iload hx dL_stores_75 rfl ?_
            refine zz_imul hx dL_stores_77 ?_
            refine zz_iconst hx dL_stores_78 ?_
            refine zz_iadd hx dL_stores_79 ?_
            refine zr_ld hx 0 rfl (by decide) (by omega) (by omega) dL_stores_80 ?_
            refine zz_iconst hx dL_stores_81 ?_
            refine zz_icmp_ne hx 102 dL_stores_82 rfl (by omega) (by omega) (fun c82 => ?_) (fun c82 => ?_)
            · refine zz_iconst hx dL_stores_102 ?_
              exact j103 _ (by omega)
            · refine zz_aload_n hx dL_stores_85 rfl ?_
              refine zz_iconst hx dL_stores_86 ?_
              refine zz_iload hx dL_stores_87 rfl ?_
              refine zz_imul hx dL_stores_89 ?_
              refine zz_iconst hx dL_stores_90 ?_
              refine zz_iadd hx dL_stores_91 ?_
              refine zr_ld hx 0 rfl (by decide) (by omega) (by omega) dL_stores_92 ?_
              refine zz_iload hx dL_stores_93 rfl ?_
              refine zz_icmp_ne hx 102 dL_stores_95 rfl (by omega) (by omega) (fun c95 => ?_) (fun c95 => ?_)
              · refine zz_iconst hx dL_stores_102 ?_
                exact j103 _ (by omega)
              · refine zz_iconst hx dL_stores_98 ?_
                refine zz_goto hx 103 dL_stores_99 rfl ?_
                exact j103 _ (by omega)
        · refine zz_iload hx dL_stores_64 rfl ?_
          refine zz_aload hx dL_stores_66 rfl ?_
          refine zz_iconst hx dL_stores_68 ?_
          refine zr_ld hx 2 rfl (by decide) (by omega) (by omega) dL_stores_69 ?_
          refine zz_icmp_ge hx 222 dL_stores_70 rfl (by omega) (by omega) (fun c70 => ?_) (fun c70 => ?_)
          · have hkN : k = (N : Int) := by omega
            subst hkN
            refine zz_aload_n hx dL_stores_222 rfl ?_
            refine zz_iconst hx dL_stores_223 ?_
            refine zz_iload hx dL_stores_224 rfl ?_
            refine zz_iload hx dL_stores_226 rfl ?_
            refine zz_callW hx hnc mw_L_acts lk_L_112 (l_acts0 hst hJ (xa % 4) (ya % 9 - 2) ht4 (by omega)) ⟨rfl, rfl⟩ (by decide) (by decide) rfl rfl (Nat.le_of_ble_eq_true rfl) dL_stores_228 (fun r228 w228 hp228 => ?_)
            rcases hp228 with ⟨e228, rfl, hnB⟩ | ⟨hB, T1, hado, hmk⟩
            · have hcn0 : cn = 0 := by
                rcases hcn with ⟨z1, z2⟩ | ⟨z1, -⟩
                · exact absurd ⟨z2.1, fun s s0 s1 z9 => z2.2 s s0 (by omega) ⟨z9.1, z9.2.1⟩ z9.2.2⟩ hnB
                · exact z1
              clear hcn
              refine zz_istore (lv' := [(0, _), (1, _), (2, _), (3, _), (4, _), (5, _), (6, _), (7, _), (8, _), (9, _), (10, _), (11, _), (12, _), (13, _)]) hx dL_stores_231 (by decide) rfl ?_
              refine zz_iload hx dL_stores_233 rfl ?_
              refine zz_if_ne hx 267 dL_stores_235 rfl (by omega) (fun c235 => ?_) (fun c235 => ?_)
              · omega
              · refine zz_iload hx dL_stores_238 rfl ?_
                refine zz_sipush hx dL_stores_240 rfl ?_
                refine zz_icmp_ne hx 265 dL_stores_243 rfl (by omega) (by omega) (fun c243 => ?_) (fun c243 => ?_)
                · omega
                · refine zz_aload_n hx dL_stores_246 rfl ?_
                  refine zz_aload_n hx dL_stores_247 rfl ?_
                  refine zz_aload hx dL_stores_248 rfl ?_
                  refine zz_aload hx dL_stores_250 rfl ?_
                  refine zz_iconst hx dL_stores_252 ?_
                  refine zz_aload hx dL_stores_253 rfl ?_
                  refine zz_callSi hx ms_L_isCurrent lk_L_108 (l_isCurrent hst hJ hC hU hG (-1) (Or.inl rfl) (isC_no hW1) (nW_rng hJ hW1)) ⟨rfl, rfl⟩ (by decide) (by decide) rfl rfl (Nat.le_of_ble_eq_true rfl) dL_stores_255 (fun _ _ h => h.elim) (fun r255 w255 hp255 => ?_)
                  obtain ⟨rfl, rfl⟩ := hp255
                  refine zz_if_eq hx 265 dL_stores_258 rfl (by decide) (fun z => absurd z (by decide)) (fun _ => ?_)
                  refine zz_iconst hx dL_stores_261 ?_
                  refine zz_goto hx 266 dL_stores_262 rfl ?_
                  refine zz_less pL4 ?_
                  exact zz_zret hx hf dL_stores_266 (Or.inr rfl) ⟨_, rfl, rfl, I, Q, P, T, ow, isO, L, U, C, rfl, hJ, hC, hU, hG⟩ (by decide) (by decide)
            · have hcn1 : cn = 1 := by
                rcases hcn with ⟨z1, -⟩ | ⟨-, z2⟩
                · exact z1
                · exact absurd ⟨hB.1, fun j j0 j1 z9 z8 => hB.2 j j0 (by omega) ⟨z9.1, z9.2, z8⟩⟩ z2
              clear hcn
              subst hcn1
              have h60 := hB.1
              obtain ⟨ow1, isO1, L1, hJ1, hfa⟩ := J_sto hJ ht4 (by omega) hB.1 hB.2 hado
              have hW2 : nW (stI I) (stQ I Q (xa % 4) (ya % 9 - 2)) P N W1 := hW1
              obtain ⟨I1, Q1, P1, rfl, hJ2, hC1, hv1, e0, e1, e2, e3, e4, hvr⟩ := mkO_J hJ1 hW2 hmk
              have hra : rAt 60 ((stQ I Q (xa % 4) (ya % 9 - 2)) 0) (I 0) ≠ -1 := by
                rw [rAt_in hi0.1 (by omega)]
                show zup (Q 0) (I 0) (xa % 4) (I 0) ≠ -1
                rw [zup_s]; omega
              have hre : r228 = I 0 := by
                rcases hvr with ⟨z1, -⟩ | ⟨-, z1⟩
                · exact absurd z1 hra
                · exact z1
              clear hvr hmk hado
              subst hre
              have f0 : I1 0 = I 0 + 1 := e2
              have f1 : I1 1 = I 1 + 1 := e3
              have hU2 : kU Q1 (zup U (I 0) ((xa % 4) + 1 + 8 * ((ya % 9 - 2) + 1000))) := kU_of (kU_sto hU ht4.1) e0 e1
              have hG2 : kG P1 N Gr := kG_P hG (fun s _ _ k hk => e4 s k hk)
              have hi1 := J_I1 hJ
              refine zz_istore (lv' := [(0, _), (1, _), (2, _), (3, _), (4, _), (5, _), (6, _), (7, _), (8, _), (9, _), (10, _), (11, _), (12, _), (13, _)]) hx dL_stores_231 (by decide) rfl ?_
              refine zz_iload hx dL_stores_233 rfl ?_
              refine zz_if_ne hx 267 dL_stores_235 rfl (by decide) (fun _ => ?_) (fun z => absurd z (by decide))
              refine zz_aload hx dL_stores_267 rfl ?_
              refine zz_aload hx dL_stores_269 rfl ?_
              refine zz_iconst hx dL_stores_271 ?_
              refine zr_ld hx 2 rfl (by decide) (by omega) (by omega) dL_stores_272 ?_
              rw [hc1]
              refine zz_iload hx dL_stores_273 rfl ?_
              refine zz_iconst hx dL_stores_275 ?_
              refine zz_iadd hx dL_stores_276 ?_
              refine zz_iload hx dL_stores_277 rfl ?_
              refine zz_sipush hx dL_stores_279 rfl ?_
              refine zz_iadd hx dL_stores_282 ?_
              refine zz_iconst hx dL_stores_283 ?_
              refine zz_shl3 hx dL_stores_284 (by omega) (by omega) ?_
              refine zz_or8 hx dL_stores_285 (by omega) (by omega) (by omega) (by omega) ?_
              refine zr_st1 hx (by decide) (by omega) (by omega) dL_stores_286 ?_
              refine zz_aload hx dL_stores_287 rfl ?_
              refine zz_iconst hx dL_stores_289 ?_
              refine zz_dup2 hx dL_stores_290 rfl rfl ?_
              refine zr_ld hx 2 rfl (by decide) (by omega) (by omega) dL_stores_291 ?_
              refine zz_iconst hx dL_stores_292 ?_
              refine zz_iadd hx dL_stores_293 ?_
              refine zr_st2 hx (by decide) (by omega) (by omega) dL_stores_294 ?_
              have hCa : zup C 1 (C 1 + 1) 0 = (N : Int) ∧ zup C 1 (C 1 + 1) 1 = I 0 + 1 ∧ zup C 1 (C 1 + 1) 2 = I 1 := ⟨by rw [zup_n _ _ (by decide)]; exact hc0, by rw [zup_s, hc1], by rw [zup_n _ _ (by decide)]; exact hc2⟩
              generalize zup C 1 (C 1 + 1) = Ca at *
              refine zz_aload hx dL_stores_295 rfl ?_
              refine zz_iconst hx dL_stores_297 ?_
              refine zz_dup2 hx dL_stores_298 rfl rfl ?_
              refine zr_ld hx 2 rfl (by decide) (by omega) (by omega) dL_stores_299 ?_
              refine zz_iconst hx dL_stores_300 ?_
              refine zz_iadd hx dL_stores_301 ?_
              refine zr_st2 hx (by decide) (by omega) (by omega) dL_stores_302 ?_
              have hCb : zup Ca 2 (Ca 2 + 1) 0 = (N : Int) ∧ zup Ca 2 (Ca 2 + 1) 1 = I 0 + 1 ∧ zup Ca 2 (Ca 2 + 1) 2 = I 1 + 1 := ⟨by rw [zup_n _ _ (by decide)]; exact hCa.1, by rw [zup_n _ _ (by decide)]; exact hCa.2.1, by rw [zup_s, hCa.2.2]⟩
              generalize zup Ca 2 (Ca 2 + 1) = Cb at *
              have hkb : kC I1 N Cb := ⟨hCb.1, by rw [f0]; exact hCb.2.1, by rw [f1]; exact hCb.2.2⟩
              obtain ⟨hCb0, hCb1, hCb2⟩ := hCb
              have loopB : ∀ (n : Nat) (k : Int), 0 ≤ k → k ≤ (N : Int) → ((N : Int) - k).toNat < n → Z l g ({ frames := 10, cells := 7, slots := 47, locals := 198 } : Room) 16 x 7 47 (wD g b c I1 Q1 P1 T1 N (rA g gA 30 Gr :: rA g tA 60 (zup U (I 0) ((xa % 4) + 1 + 8 * ((ya % 9 - 2) + 1000))) :: rA g cA 3 Cb :: rA g q15 11 W1 :: rA g q21 6 E :: rA g q27 6 Nn :: rA g q33 6 A :: rest)) 340 [(0, .ref (b 0)), (1, vi xa), (2, vi ya), (3, .ref gA), (4, .ref tA), (5, .ref cA), (6, vi (xa % 4)), (7, vi (ya % 9 - 2)), (8, .ref q15), (9, .ref q21), (10, .ref q27), (11, .ref q33), (12, vi 1), (13, vi (I 0)), (14, vi 1), (15, vi k)] [] := by
                intro n
                induction n with
                | zero => intro k h0 h1 hm; omega
                | succ n ih =>
                  intro k h0 h1 hm
                  refine zz_iload hx dL_stores_340 rfl ?_
                  refine zz_aload hx dL_stores_342 rfl ?_
                  refine zz_iconst hx dL_stores_344 ?_
                  refine zr_ld hx 2 rfl (by decide) (by omega) (by omega) dL_stores_345 ?_
                  refine zz_icmp_ge hx 418 dL_stores_346 rfl (by omega) (by omega) (fun c346 => ?_) (fun c346 => ?_)
                  · refine zz_iload hx dL_stores_418 rfl ?_
                    refine zz_less pL4 ?_
                    exact zz_zret hx hf dL_stores_420 (Or.inr rfl) ⟨_, rfl, rfl, I1, Q1, P1, T1, ow1, isO1, L1, _, _, rfl, hJ2, hkb, hU2, hG2⟩ (by decide) (by decide)
                  · have hk9 : 0 ≤ k ∧ k < (N : Int) := ⟨h0, by omega⟩
                    have hst1 := hst8 k h0 (by omega)
                    have hfk := hfa k h0 hk9.2
                    have hg9 := kG_at hG hS hk9
                    have heo : ow1 k (I 0) = E k := by
                      by_cases z9 : (P k 3 = 1 ∧ P k 1 = (xa % 4))
                      · rw [(hfk.1 z9).2.1, hst1.1 z9]
                      · rw [hfk.2 z9, hst1.2.1 z9]
                    have hEr : -1 ≤ E k ∧ E k < 60 := by
                      rcases J_ow hJ2 h0 hk9.2 hi0.1 (show I 0 < 60 by omega) with ⟨z, -⟩ | z
                      · omega
                      · exact ⟨by omega, by omega⟩
                    have hqn : Q1 0 (I 0) ≠ -1 := by
                      rw [e0]
                      rw [rAt_in hi0.1 (by omega)] at hra
                      exact hra
                    refine zz_iload hx dL_stores_349 rfl ?_
                    refine zz_if_eq hx 418 dL_stores_351 rfl (by decide) (fun z => absurd z (by decide)) (fun _ => ?_)
                    refine zz_aload_n hx dL_stores_354 rfl ?_
                    refine zz_iload hx dL_stores_355 rfl ?_
                    refine zz_iload hx dL_stores_357 rfl ?_
                    refine zz_callVi hx me_X3_ownerOf lk_L_36 (q_X3_ownerOf hst hJ2.1 hJ2.2.1 (I 0) ⟨hi0.1, by omega⟩ hqn k hk9) 0 rfl rfl ⟨rfl, rfl⟩ (by decide) (by decide) rfl rfl (Nat.le_of_ble_eq_true rfl) dL_stores_359 (fun _ _ h => h.elim) (fun r359 w359 hp359 => ?_)
                    obtain ⟨rfl, rfl⟩ := hp359
                    refine zz_aload hx dL_stores_362 rfl ?_
                    refine zz_iload hx dL_stores_364 rfl ?_
                    refine zr_ld hx 4 rfl (by decide) (by omega) (by omega) dL_stores_366 ?_
                    refine zz_icmp_ne hx 409 dL_stores_367 rfl (by omega) (by omega) (fun c367 => ?_) (fun c367 => ?_)
                    · omega
                    · refine zz_aload hx dL_stores_370 rfl ?_
                      refine zz_iload hx dL_stores_372 rfl ?_
                      refine zr_ld hx 4 rfl (by decide) (by omega) (by omega) dL_stores_374 ?_
                      refine zz_if_lt hx 405 dL_stores_375 rfl (by omega) (fun c375 => ?_) (fun c375 => ?_)
                      · refine zz_iconst hx dL_stores_405 ?_
                        refine zz_goto hx 410 dL_stores_406 rfl ?_
                        refine zz_istore (lv' := [(0, _), (1, _), (2, _), (3, _), (4, _), (5, _), (6, _), (7, _), (8, _), (9, _), (10, _), (11, _), (12, _), (13, _), (14, _), (15, _)]) hx dL_stores_410 (by decide) rfl ?_
                        refine zz_iinc (lv' := [(0, _), (1, _), (2, _), (3, _), (4, _), (5, _), (6, _), (7, _), (8, _), (9, _), (10, _), (11, _), (12, _), (13, _), (14, _), (15, _)]) hx dL_stores_412 (by decide) rfl rfl ?_
                        refine zz_goto hx 340 dL_stores_415 rfl ?_
                        exact ih (k + 1) (by omega) (by omega) (by omega)
                      · have hau : (P k 3 = 1 ∧ P k 1 = (xa % 4)) := by
                          by_cases z9 : (P k 3 = 1 ∧ P k 1 = (xa % 4))
                          · exact z9
                          · have := hst1.2.1 z9; omega
                        obtain ⟨hio1, -, j9, hj9⟩ := hfk.1 hau
                        rw [← hst1.1 hau] at hio1 hj9
                        obtain ⟨hn1, hn2⟩ := hst1.2.2.2 (by omega)
                        rw [← hn1] at hj9
                        have hpl9 : plO (Q1 1) (P1 k 2) (Nn k) (A k) (mOf (ow1 k) (E k) (L1 k)) (I 0) j9 := by rw [e1, e4 k 2 (by decide)]; exact hj9 (A k) hn2
                        have har := ixO_rng hn2
                        have hlr := (J_mm hJ h0 hk9.2 (show isO k (E k) by rw [hst1.1 hau]; rcases J_cur hJ h0 hk9.2 with ⟨-, z9⟩ | ⟨-, -, -, z9, -⟩; rw [← hst1.1 hau] at z9; omega; exact z9)).2.1
                        refine zz_aload_n hx dL_stores_378 rfl ?_
                        refine zz_aload_n hx dL_stores_379 rfl ?_
                        refine zz_iload hx dL_stores_380 rfl ?_
                        refine zz_aload hx dL_stores_382 rfl ?_
                        refine zz_iload hx dL_stores_384 rfl ?_
                        refine zr_ld hx 4 rfl (by decide) (by omega) (by omega) dL_stores_386 ?_
                        refine zz_iload hx dL_stores_387 rfl ?_
                        refine zz_aload hx dL_stores_389 rfl ?_
                        refine zz_iload hx dL_stores_391 rfl ?_
                        refine zr_ld hx 5 rfl (by decide) (by omega) (by omega) dL_stores_393 ?_
                        refine zz_aload hx dL_stores_394 rfl ?_
                        refine zz_iload hx dL_stores_396 rfl ?_
                        refine zr_ld hx 6 rfl (by decide) (by omega) (by omega) dL_stores_398 ?_
                        refine zz_callSi hx ms_L_isPlaced lk_L_115 (l_isPlaced hst hJ2 hkb hU2 hG2 k hk9 (E k) hio1 (I 0) (Nn k) (A k) j9 (by omega) hpl9) ⟨rfl, rfl⟩ (by decide) (by decide) rfl rfl (Nat.le_of_ble_eq_true rfl) dL_stores_399 (fun _ _ h => h.elim) (fun r399 w399 hp399 => ?_)
                        obtain ⟨rfl, rfl⟩ := hp399
                        refine zz_if_eq hx 409 dL_stores_402 rfl (by decide) (fun z => absurd z (by decide)) (fun _ => ?_)
                        refine zz_iconst hx dL_stores_405 ?_
                        refine zz_goto hx 410 dL_stores_406 rfl ?_
                        refine zz_istore (lv' := [(0, _), (1, _), (2, _), (3, _), (4, _), (5, _), (6, _), (7, _), (8, _), (9, _), (10, _), (11, _), (12, _), (13, _), (14, _), (15, _)]) hx dL_stores_410 (by decide) rfl ?_
                        refine zz_iinc (lv' := [(0, _), (1, _), (2, _), (3, _), (4, _), (5, _), (6, _), (7, _), (8, _), (9, _), (10, _), (11, _), (12, _), (13, _), (14, _), (15, _)]) hx dL_stores_412 (by decide) rfl rfl ?_
                        refine zz_goto hx 340 dL_stores_415 rfl ?_
                        exact ih (k + 1) (by omega) (by omega) (by omega)
              refine zz_iload hx dL_stores_303 rfl ?_
              refine zz_aload hx dL_stores_305 rfl ?_
              refine zz_iconst hx dL_stores_307 ?_
              refine zr_ld hx 2 rfl (by decide) (by omega) (by omega) dL_stores_308 ?_
              refine zz_iconst hx dL_stores_309 ?_
              refine zz_isub hx dL_stores_310 ?_
              refine zz_icmp_ne hx 334 dL_stores_311 rfl (by omega) (by omega) (fun c311 => ?_) (fun c311 => ?_)
              · omega
              · refine zz_aload_n hx dL_stores_314 rfl ?_
                refine zz_aload_n hx dL_stores_315 rfl ?_
                refine zz_aload hx dL_stores_316 rfl ?_
                refine zz_aload hx dL_stores_318 rfl ?_
                refine zz_iload hx dL_stores_320 rfl ?_
                refine zz_aload hx dL_stores_322 rfl ?_
                refine zz_callSi hx ms_L_isCurrent lk_L_108 (l_isCurrent hst hJ2 hkb hU2 hG2 (I 0) hv1 hC1 (nW_rng hJ hW1)) ⟨rfl, rfl⟩ (by decide) (by decide) rfl rfl (Nat.le_of_ble_eq_true rfl) dL_stores_324 (fun _ _ h => h.elim) (fun r324 w324 hp324 => ?_)
                obtain ⟨rfl, rfl⟩ := hp324
                refine zz_if_eq hx 334 dL_stores_327 rfl (by decide) (fun z => absurd z (by decide)) (fun _ => ?_)
                refine zz_iconst hx dL_stores_330 ?_
                refine zz_goto hx 335 dL_stores_331 rfl ?_
                refine zz_istore (lv' := [(0, _), (1, _), (2, _), (3, _), (4, _), (5, _), (6, _), (7, _), (8, _), (9, _), (10, _), (11, _), (12, _), (13, _), (14, _)]) hx dL_stores_335 (by decide) rfl ?_
                refine zz_iconst hx dL_stores_337 ?_
                refine zz_istore (lv' := [(0, _), (1, _), (2, _), (3, _), (4, _), (5, _), (6, _), (7, _), (8, _), (9, _), (10, _), (11, _), (12, _), (13, _), (14, _), (15, _)]) hx dL_stores_338 (by decide) rfl ?_
                exact loopB (N + 1) 0 (by omega) (by omega) (by omega)
          · omega
    exact loopA (N + 1) 0 cn _ _ _ (by omega) (by omega) (by
      rcases hcn with ⟨z8, z9⟩ | ⟨z8, z9⟩
      · exact Or.inl ⟨z8, z9, fun j j0 j1 => by omega⟩
      · exact Or.inr ⟨z8, fun z7 => z9 z7.1⟩) (fun j j0 j1 => by omega) (by omega)
  refine zz_aload hx dL_stores_37 rfl ?_
  refine zz_iconst hx dL_stores_39 ?_
  refine zr_ld hx 2 rfl (by decide) (by omega) (by omega) dL_stores_40 ?_
  refine zz_bipush hx dL_stores_41 rfl ?_
  refine zz_icmp_ge hx 50 dL_stores_43 rfl (by omega) (by omega) (fun c43 => ?_) (fun c43 => ?_)
  · refine zz_iconst hx dL_stores_50 ?_
    exact j51 _ (by omega)
  · refine zz_iconst hx dL_stores_46 ?_
    refine zz_goto hx 51 dL_stores_47 rfl ?_
    exact j51 _ (by omega)
