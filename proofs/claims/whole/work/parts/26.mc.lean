set_option maxHeartbeats 4000000 in
set_option maxRecDepth 100000 in
theorem c_store {l : Launch} {g : zG} {a : Nat → Nat} {F : Nat → Int} {G : Nat → Int → Int} {rest : va_W} (hst : l.stackTraces = false) {Rw : Int → List Int} (h : mI F G Rw) (t : Int) (ht : -2147483648 ≤ t ∧ t < 2147483648) (v : Int) (hv : -2147483648 ≤ v ∧ v < 2147483648) : zM l g yX4_store cX4_store 7 (Option.some FieldType.int) ({ frames := 3, cells := 0, slots := 0, locals := 74 } : Room) [.ref (a 0), vi t, vi v] (mW g a F G rest) (zI fun u w => (¬ ((0 ≤ t ∧ t ≤ 3) ∧ (-1000 ≤ v ∧ v ≤ 1000)) ∧ w = mW g a (Fup F 18 1) G rest) ∨ (((0 ≤ t ∧ t ≤ 3) ∧ (-1000 ≤ v ∧ v ≤ 1000)) ∧ ¬ (F 6 < 60 ∧ (∀ s : Int, 0 ≤ s → s < F 0 → ¬ (G 4 s = 1 ∧ G 2 s = t ∧ G 16 s = -1))) ∧ w = mW g a (Fup F 18 2) G rest) ∨ (((0 ≤ t ∧ t ≤ 3) ∧ (-1000 ≤ v ∧ v ≤ 1000)) ∧ (F 6 < 60 ∧ (∀ s : Int, 0 ≤ s → s < F 0 → ¬ (G 4 s = 1 ∧ G 2 s = t ∧ G 16 s = -1))) ∧ u = F 6 ∧ ∃ (G1 : Nat → Int → Int) (Rw1 : Int → List Int), stoO F G Rw t v G1 Rw1 (F 0) ∧ w = mW g a (Fup (becF (stoF F) (F 6)) 18 0) (becG (stoF F) G1 (F 6)) rest)) zN 0 0 := by
  have hF0 := h.1.1
  have hF6 := h.1.2.1
  refine zM_of (lv0 := [(0, _), (1, _), (2, _)]) hst rfl (by decide +kernel) (Nat.le_of_ble_eq_true rfl) rfl (fun x hx hf hn => ?_)
  have loop : ∀ (m : Nat) (k : Int) (G1 : Nat → Int → Int) (Rw1 : Int → List Int) (gd cn : Int), ((0 ≤ t ∧ t ≤ 3) ∧ (-1000 ≤ v ∧ v ≤ 1000)) → (F 6 < 60 ∧ (∀ s : Int, 0 ≤ s → s < F 0 → ¬ (G 4 s = 1 ∧ G 2 s = t ∧ G 16 s = -1))) → 0 ≤ k → k ≤ F 0 → stoO F G Rw t v G1 Rw1 k → (F 0 - k).toNat < m → Z l g ({ frames := 3, cells := 0, slots := 0, locals := 74 } : Room) 7 x 0 0 (mW g a (Fup (stoF F) 18 0) G1 rest) 186 [(0, .ref (a 0)), (1, vi t), (2, vi v), (3, vi gd), (4, vi cn), (5, vi (F 6)), (6, vi k)] [] := by
    intro m
    induction m with
    | zero => intro k G1 Rw1 gd cn hg1 hc1 h0 h1 hmo hm; omega
    | succ m ih =>
      intro k G1 Rw1 gd cn hg1 hc1 h0 h1 hmo hm
      obtain ⟨m1, m3, m2, m4⟩ := id hmo
      have e1 : G1 1 = G 1 := m3 1 (by decide) (by decide) (by decide)
      have e2 : G1 2 = G 2 := m3 2 (by decide) (by decide) (by decide)
      have e3 : G1 3 = G 3 := m3 3 (by decide) (by decide) (by decide)
      have e4 : G1 4 = G 4 := m3 4 (by decide) (by decide) (by decide)
      have e16 : G1 16 = G 16 := m3 16 (by decide) (by decide) (by decide)
      have e8 : G1 8 = zup (G 8) (F 6) 1 := m3 8 (by decide) (by decide) (by decide)
      have e9 : G1 9 = zup (G 9) (F 6) t := m3 9 (by decide) (by decide) (by decide)
      have e10 : G1 10 = zup (G 10) (F 6) v := m3 10 (by decide) (by decide) (by decide)
      have hdk := fun z : k < F 0 => h.1.2.2.1 k h0 z
      have hrw : k < F 0 → Rw1 k = Rw k ∧ G1 11 (60 * k + F 6) = -1 := fun z => (m4 k h0 (by omega)).2 (fun z9 => by omega)
      refine zz_iload hx dX4_store_186 rfl ?_
      refine zz_aload_n hx dX4_store_188 rfl ?_
      refine zm_g0 hx lf_X4_60 dX4_store_189 ?_
      try rw [show (Fup (stoF F) 18 0) 0 = F 0 from rfl]
      refine zz_icmp_ge hx 236 dX4_store_192 rfl (by omega) (by omega) (fun c192 => ?_) (fun c192 => ?_)
      · refine zz_aload_n hx dX4_store_236 rfl ?_
        refine zz_iload hx dX4_store_237 rfl ?_
        refine zz_callVi hx me_X4_becomes lk_X4_96 (c_becomes (F := (Fup (stoF F) 18 0)) hst m1 (F 6) (Or.inr ⟨by omega, show F 6 < F 6 + 1 by omega⟩)) 0 rfl rfl ⟨rfl, rfl⟩ (by decide) (by decide) rfl rfl (Nat.le_of_ble_eq_true rfl) dX4_store_239 (fun _ _ h => h.elim) (fun r239 w239 hp239 => ?_)
        obtain ⟨rfl, rfl⟩ := hp239
        exact zz_iret hx hf dX4_store_242 ⟨_, rfl, Or.inr (Or.inr ⟨hg1, hc1, rfl, G1, Rw1, by rw [show F 0 = k by omega]; exact hmo, by rw [bec_18, becG_18]⟩)⟩ (by decide) (by decide)
      · refine zz_aload_n hx dX4_store_195 rfl ?_
        refine zm_g4 hx lf_X4_19 dX4_store_196 ?_
        refine zz_iload hx dX4_store_199 rfl ?_
        refine zm_l4 hx dX4_store_201 (by omega) (by omega) ?_
        have hdk2 := hdk (by omega)
        rw [e4]
        refine zz_if_eq hx 230 dX4_store_202 rfl (by omega) (fun c202 => ?_) (fun c202 => ?_)
        · have hmo4 : stoO F G Rw t v G1 Rw1 (k + 1) := by
            refine ⟨m1, m3, m2, fun s s0 s1 => ⟨fun z => ?_, fun z => ?_⟩⟩
            · refine (m4 s s0 s1).1 ⟨?_, z.2⟩
              rcases Int.lt_or_eq_of_le (show s ≤ k by omega) with y | y
              · exact y
              · rw [y] at z; exfalso; omega
            · exact (m4 s s0 s1).2 (fun z9 => z ⟨by omega, z9.2⟩)
          refine zz_iinc (lv' := [(0, _), (1, _), (2, _), (3, _), (4, _), (5, _), (6, _)]) hx dX4_store_230 (by decide) rfl rfl ?_
          refine zz_goto hx 186 dX4_store_233 rfl ?_
          exact ih (k + 1) _ _ gd cn hg1 hc1 (by omega) (by omega) (by assumption) (by omega)
        · refine zz_aload_n hx dX4_store_205 rfl ?_
          refine zm_g2 hx lf_X4_13 dX4_store_206 ?_
          refine zz_iload hx dX4_store_209 rfl ?_
          refine zm_l2 hx dX4_store_211 (by omega) (by omega) ?_
          refine zz_iload_n hx dX4_store_212 rfl ?_
          rw [e2]
          refine zz_icmp_ne hx 230 dX4_store_213 rfl (by omega) (by omega) (fun c213 => ?_) (fun c213 => ?_)
          · have hmo4 : stoO F G Rw t v G1 Rw1 (k + 1) := by
              refine ⟨m1, m3, m2, fun s s0 s1 => ⟨fun z => ?_, fun z => ?_⟩⟩
              · refine (m4 s s0 s1).1 ⟨?_, z.2⟩
                rcases Int.lt_or_eq_of_le (show s ≤ k by omega) with y | y
                · exact y
                · rw [y] at z; exfalso; omega
              · exact (m4 s s0 s1).2 (fun z9 => z ⟨by omega, z9.2⟩)
            refine zz_iinc (lv' := [(0, _), (1, _), (2, _), (3, _), (4, _), (5, _), (6, _)]) hx dX4_store_230 (by decide) rfl rfl ?_
            refine zz_goto hx 186 dX4_store_233 rfl ?_
            exact ih (k + 1) _ _ gd cn hg1 hc1 (by omega) (by omega) (by assumption) (by omega)
          · have hrw2 := hrw (by omega)
            have hne16 : G 16 k ≠ -1 := fun z9 => hc1.2 k h0 (by omega) ⟨by omega, by omega, z9⟩
            have hck := h.2.2.2 k (by omega) (by omega)
            have hco := curO_ok h h0 (by omega) hne16
            have hcu : curO G1 k = curO G k := by
              unfold curO
              rw [e16, e9, e1, zup_n _ _ (show G 16 k ≠ F 6 by omega), m2 k (G 16 k) h0 (by omega) (by omega) (by omega) (by omega)]
            refine zz_aload_n hx dX4_store_216 rfl ?_
            refine zz_iload hx dX4_store_217 rfl ?_
            refine zz_iload hx dX4_store_219 rfl ?_
            refine zz_aload_n hx dX4_store_221 rfl ?_
            refine zz_iload hx dX4_store_222 rfl ?_
            refine zz_callVi hx me_X4_currentOwner lk_X4_88 (c_currentOwner (F := (Fup (stoF F) 18 0)) hst m1 k (by omega) (show k < F 0 by omega) (by rw [e16]; show G 16 k = -1 ∨ 0 ≤ G 16 k ∧ G 16 k < F 6 + 1; omega)) 0 rfl rfl ⟨rfl, rfl⟩ (by decide) (by decide) rfl rfl (Nat.le_of_ble_eq_true rfl) dX4_store_224 (fun _ _ h => h.elim) (fun r224 w224 hp224 => ?_)
            obtain ⟨rfl, rfl⟩ := hp224
            rw [hcu]
            refine zz_callVv hx me_X4_insert lk_X4_92 (c_insert (F := (Fup (stoF F) 18 0)) hst m1 k (F 6) (curO G k) (by omega) (show k < F 0 by omega) (by omega) (show F 6 < F 6 + 1 by omega) hrw2.2 (by rw [e8]; exact zup_s _ _ _) (by rw [e9, e2, zup_s]; omega) (by omega) (show curO G k < F 6 + 1 by omega) (by rw [e8, zup_n _ _ (by omega)]; omega) (by rw [e9, e1, zup_n _ _ (by omega)]; omega) (by rw [e16]; show G 16 k = -1 ∨ 0 ≤ G 16 k ∧ G 16 k < F 6 + 1; omega)) 0 rfl rfl ⟨rfl, rfl⟩ (by decide) (by decide) rfl rfl (Nat.le_of_ble_eq_true rfl) dX4_store_227 (fun _ _ h => h.elim) (fun w227 hp227 => ?_)
            obtain ⟨G4, p, rfl, j1, j2, j3, j4⟩ := hp227
            have hmo5 : stoO F G Rw t v G4 (Lup Rw1 k (zinsl (Rw1 k) p (F 6))) (k + 1) := by
              refine ⟨j2, fun j a1 a2 a3 => ?_, fun s u s0 s1 u0 u1 un => ?_, fun s s0 s1 => ?_⟩
              · rw [j4 j a1 a2 a3]; exact m3 j a1 a2 a3
              · rw [j3, zup_n _ _ (by omega)]; exact m2 s u s0 s1 u0 u1 un
              · by_cases cs : s = k
                · subst cs
                  refine ⟨fun z => ⟨⟨p, ?_, by rw [Lup_s, hrw2.1]⟩, by rw [j3, zup_s]⟩, fun z => absurd ⟨by omega, by omega, by omega⟩ z⟩
                  rw [hrw2.1] at j1
                  refine nPl_congr (G' := G1) ?_ ?_ ?_ (fun u hu => ?_) (fun z9 z8 => ?_) j1
                  · rw [e3]; rfl
                  · rw [e10]; rfl
                  · rw [e16]; rfl
                  · have hu2 := (mS_len h.1 s0 s1).2.2 u hu
                    exact m2 s u s0 s1 hu2.1 (by omega) (by omega)
                  · show G1 11 (60 * s + G 16 s) = G 11 (60 * s + G 16 s)
                    have z8 : G 16 s ≠ -1 := z8
                    exact m2 s (G 16 s) s0 s1 (by omega) (by omega) (by omega)
                · rw [Lup_n _ _ cs]
                  rw [show G4 11 (60 * s + F 6) = G1 11 (60 * s + F 6) by rw [j3, zup_n _ _ (by omega)]]
                  exact ⟨fun z => (m4 s s0 s1).1 ⟨by omega, z.2⟩, fun z => (m4 s s0 s1).2 (fun z9 => z ⟨by omega, z9.2⟩)⟩
            refine zz_iinc (lv' := [(0, _), (1, _), (2, _), (3, _), (4, _), (5, _), (6, _)]) hx dX4_store_230 (by decide) rfl rfl ?_
            refine zz_goto hx 186 dX4_store_233 rfl ?_
            exact ih (k + 1) _ _ gd cn hg1 hc1 (by omega) (by omega) (by assumption) (by omega)
  have chk : ∀ (m : Nat) (k gd cn : Int), (gd = 0 ∨ gd = 1) → (gd = 1 ↔ ((0 ≤ t ∧ t ≤ 3) ∧ (-1000 ≤ v ∧ v ≤ 1000))) → (cn = 0 ∨ cn = 1) → (cn = 1 ↔ (F 6 < 60 ∧ (∀ s : Int, 0 ≤ s → s < k → ¬ (G 4 s = 1 ∧ G 2 s = t ∧ G 16 s = -1)))) → 0 ≤ k → k ≤ F 0 → (F 0 - k).toNat < m → Z l g ({ frames := 3, cells := 0, slots := 0, locals := 74 } : Room) 7 x 0 0 (mW g a F G rest) 47 [(0, .ref (a 0)), (1, vi t), (2, vi v), (3, vi gd), (4, vi cn), (5, vi k)] [] := by
    intro m
    induction m with
    | zero => intro k gd cn hg1 hg2 hc1 hc2 h0 h1 hm; omega
    | succ m ih =>
      intro k gd cn hg1 hg2 hc1 hc2 h0 h1 hm
      have stp : ∀ b : Int, (b = 0 ∨ b = 1) → (b = 1 ↔ (cn = 1 ∧ ¬ (G 4 k = 1 ∧ G 2 k = t ∧ G 16 k = -1))) → (b = 1 ↔ (F 6 < 60 ∧ (∀ s : Int, 0 ≤ s → s < (k + 1) → ¬ (G 4 s = 1 ∧ G 2 s = t ∧ G 16 s = -1)))) := by
        intro b hb hbi
        constructor
        · intro e
          obtain ⟨q1, q2⟩ := hbi.mp e
          obtain ⟨q3, q4⟩ := hc2.mp q1
          refine ⟨q3, fun s s0 s1 => ?_⟩
          rcases Int.lt_or_eq_of_le (show s ≤ k by omega) with y | y
          · exact q4 s s0 y
          · rw [y]; exact q2
        · intro e
          exact hbi.mpr ⟨hc2.mpr ⟨e.1, fun s s0 s1 => e.2 s s0 (by omega)⟩, e.2 k h0 (by omega)⟩
      refine zz_iload hx dX4_store_47 rfl ?_
      refine zz_aload_n hx dX4_store_49 rfl ?_
      refine zm_g0 hx lf_X4_60 dX4_store_50 ?_
      refine zz_icmp_ge hx 106 dX4_store_53 rfl (by omega) (by omega) (fun c53 => ?_) (fun c53 => ?_)
      · have hk0 : k = F 0 := by omega
        rw [hk0] at hc2
        refine zz_aload_n hx dX4_store_106 rfl ?_
        refine zz_iload_n hx dX4_store_107 rfl ?_
        refine zz_if_ne hx 115 dX4_store_108 rfl (by omega) (fun c108 => ?_) (fun c108 => ?_)
        · have hgd := hg2.mp (by omega)
          refine zz_iload hx dX4_store_115 rfl ?_
          refine zz_if_eq hx 124 dX4_store_117 rfl (by omega) (fun c117 => ?_) (fun c117 => ?_)
          · have hcd : ¬ (F 6 < 60 ∧ (∀ s : Int, 0 ≤ s → s < F 0 → ¬ (G 4 s = 1 ∧ G 2 s = t ∧ G 16 s = -1))) := fun z9 => by have := hc2.mpr z9; omega
            refine zz_iconst hx dX4_store_124 ?_
            refine zz_callVi hx me_X4_can lk_X4_70 (c_can hst _ (by omega)) 0 rfl rfl ⟨rfl, rfl⟩ (by decide) (by decide) rfl rfl (Nat.le_of_ble_eq_true rfl) dX4_store_125 (fun _ _ h => h.elim) (fun r125 w125 hp125 => ?_)
            obtain ⟨rfl, rfl⟩ := hp125
            refine zz_ifb_ne hx 133 dX4_store_128 rfl (fun z => absurd z (by decide)) (fun _ => ?_)
            refine zz_iconst hx dX4_store_131 ?_
            exact zz_iret hx hf dX4_store_132 ⟨_, rfl, by first | exact Or.inl ⟨hgd, rfl⟩ | exact Or.inr (Or.inl ⟨hgd, hcd, rfl⟩)⟩ (by decide) (by decide)
          · have hcd := hc2.mp (by omega)
            obtain ⟨hnS, hnO⟩ := mS_new h hcd.1 hgd.1 hgd.2
            refine zz_iconst hx dX4_store_120 ?_
            refine zz_goto hx 125 dX4_store_121 rfl ?_
            refine zz_callVi hx me_X4_can lk_X4_70 (c_can hst _ (by omega)) 0 rfl rfl ⟨rfl, rfl⟩ (by decide) (by decide) rfl rfl (Nat.le_of_ble_eq_true rfl) dX4_store_125 (fun _ _ h => h.elim) (fun r125 w125 hp125 => ?_)
            obtain ⟨rfl, rfl⟩ := hp125
            refine zz_ifb_ne hx 133 dX4_store_128 rfl (fun _ => ?_) (fun z => absurd rfl z)
            refine zz_aload_n hx dX4_store_133 rfl ?_
            refine zm_g6 hx lf_X4_67 dX4_store_134 ?_
            refine zz_istore (lv' := [(0, _), (1, _), (2, _), (3, _), (4, _), (5, _)]) hx dX4_store_137 (by decide) rfl ?_
            refine zz_aload_n hx dX4_store_139 rfl ?_
            refine zz_dup hx dX4_store_140 rfl ?_
            refine zm_g6 hx lf_X4_67 dX4_store_141 ?_
            refine zz_iconst hx dX4_store_144 ?_
            refine zz_iadd hx dX4_store_145 ?_
            refine zm_p6 hx lf_X4_67 dX4_store_146 ?_
            refine zz_aload_n hx dX4_store_149 rfl ?_
            refine zz_dup hx dX4_store_150 rfl ?_
            refine zm_g7 hx lf_X4_85 dX4_store_151 ?_
            refine zz_iconst hx dX4_store_154 ?_
            refine zz_iadd hx dX4_store_155 ?_
            refine zm_p7 hx lf_X4_85 dX4_store_156 ?_
            rw [show Fup (Fup (Fup F 18 0) 6 (Fup F 18 0 6 + 1)) 7 (Fup (Fup F 18 0) 6 (Fup F 18 0 6 + 1) 7 + 1) = Fup (stoF F) 18 0 from stoF_18 F]
            rw [show Fup F 18 0 6 = F 6 from rfl]
            refine zz_aload_n hx dX4_store_159 rfl ?_
            refine zm_g8 hx lf_X4_26 dX4_store_160 ?_
            refine zz_iload hx dX4_store_163 rfl ?_
            refine zz_iconst hx dX4_store_165 ?_
            refine zm_s8 hx dX4_store_166 (by omega) (by omega) (by omega) ?_
            refine zz_aload_n hx dX4_store_167 rfl ?_
            refine zm_g9 hx lf_X4_29 dX4_store_168 ?_
            refine zz_iload hx dX4_store_171 rfl ?_
            refine zz_iload_n hx dX4_store_173 rfl ?_
            refine zm_s9 hx dX4_store_174 (by omega) (by omega) ?_
            refine zz_aload_n hx dX4_store_175 rfl ?_
            refine zm_g10 hx lf_X4_32 dX4_store_176 ?_
            refine zz_iload hx dX4_store_179 rfl ?_
            refine zz_iload_n hx dX4_store_181 rfl ?_
            refine zm_s10 hx dX4_store_182 (by omega) (by omega) ?_
            refine zz_iconst hx dX4_store_183 ?_
            refine zz_istore (lv' := [(0, _), (1, _), (2, _), (3, _), (4, _), (5, _), (6, _)]) hx dX4_store_184 (by decide) rfl ?_
            refine loop ((F 0).toNat + 1) 0 (stoG F G t v) Rw gd cn hgd hcd (by omega) (by omega) ⟨hnS, fun j _ _ _ => rfl, fun s u _ _ _ _ _ => rfl, fun s s0 s1 => ⟨fun z => by omega, fun _ => ⟨rfl, hnO s s0 s1⟩⟩⟩ (by omega)
        · have hgd : ¬ ((0 ≤ t ∧ t ≤ 3) ∧ (-1000 ≤ v ∧ v ≤ 1000)) := fun z9 => by have := hg2.mpr z9; omega
          refine zz_iconst hx dX4_store_111 ?_
          refine zz_goto hx 125 dX4_store_112 rfl ?_
          refine zz_callVi hx me_X4_can lk_X4_70 (c_can hst _ (by omega)) 0 rfl rfl ⟨rfl, rfl⟩ (by decide) (by decide) rfl rfl (Nat.le_of_ble_eq_true rfl) dX4_store_125 (fun _ _ h => h.elim) (fun r125 w125 hp125 => ?_)
          obtain ⟨rfl, rfl⟩ := hp125
          refine zz_ifb_ne hx 133 dX4_store_128 rfl (fun z => absurd z (by decide)) (fun _ => ?_)
          refine zz_iconst hx dX4_store_131 ?_
          exact zz_iret hx hf dX4_store_132 ⟨_, rfl, by first | exact Or.inl ⟨hgd, rfl⟩ | exact Or.inr (Or.inl ⟨hgd, hcd, rfl⟩)⟩ (by decide) (by decide)
      · refine zz_iload hx dX4_store_56 rfl ?_
        refine zz_if_eq hx 97 dX4_store_58 rfl (by omega) (fun c58 => ?_) (fun c58 => ?_)
        · refine zz_iconst hx dX4_store_97 ?_
          refine zz_istore (lv' := [(0, _), (1, _), (2, _), (3, _), (4, _), (5, _)]) hx dX4_store_98 (by decide) rfl ?_
          refine zz_iinc (lv' := [(0, _), (1, _), (2, _), (3, _), (4, _), (5, _)]) hx dX4_store_100 (by decide) rfl rfl ?_
          refine zz_goto hx 47 dX4_store_103 rfl ?_
          refine ih (k + 1) gd _ hg1 hg2 (by omega) (stp _ (by omega) (by constructor <;> (intro z9; omega))) (by omega) (by omega) (by omega)
        · refine zz_aload_n hx dX4_store_61 rfl ?_
          refine zm_g4 hx lf_X4_19 dX4_store_62 ?_
          refine zz_iload hx dX4_store_65 rfl ?_
          refine zm_l4 hx dX4_store_67 (by omega) (by omega) ?_
          have hdk := h.1.2.2.1 k (by omega) (by omega)
          refine zz_if_eq hx 93 dX4_store_68 rfl (by omega) (fun c68 => ?_) (fun c68 => ?_)
          · refine zz_iconst hx dX4_store_93 ?_
            refine zz_goto hx 98 dX4_store_94 rfl ?_
            refine zz_istore (lv' := [(0, _), (1, _), (2, _), (3, _), (4, _), (5, _)]) hx dX4_store_98 (by decide) rfl ?_
            refine zz_iinc (lv' := [(0, _), (1, _), (2, _), (3, _), (4, _), (5, _)]) hx dX4_store_100 (by decide) rfl rfl ?_
            refine zz_goto hx 47 dX4_store_103 rfl ?_
            refine ih (k + 1) gd _ hg1 hg2 (by omega) (stp _ (by omega) (by constructor <;> (intro z9; omega))) (by omega) (by omega) (by omega)
          · refine zz_aload_n hx dX4_store_71 rfl ?_
            refine zm_g2 hx lf_X4_13 dX4_store_72 ?_
            refine zz_iload hx dX4_store_75 rfl ?_
            refine zm_l2 hx dX4_store_77 (by omega) (by omega) ?_
            refine zz_iload_n hx dX4_store_78 rfl ?_
            refine zz_icmp_ne hx 93 dX4_store_79 rfl (by omega) (by omega) (fun c79 => ?_) (fun c79 => ?_)
            · refine zz_iconst hx dX4_store_93 ?_
              refine zz_goto hx 98 dX4_store_94 rfl ?_
              refine zz_istore (lv' := [(0, _), (1, _), (2, _), (3, _), (4, _), (5, _)]) hx dX4_store_98 (by decide) rfl ?_
              refine zz_iinc (lv' := [(0, _), (1, _), (2, _), (3, _), (4, _), (5, _)]) hx dX4_store_100 (by decide) rfl rfl ?_
              refine zz_goto hx 47 dX4_store_103 rfl ?_
              refine ih (k + 1) gd _ hg1 hg2 (by omega) (stp _ (by omega) (by constructor <;> (intro z9; omega))) (by omega) (by omega) (by omega)
            · refine zz_aload_n hx dX4_store_82 rfl ?_
              refine zm_g16 hx lf_X4_47 dX4_store_83 ?_
              refine zz_iload hx dX4_store_86 rfl ?_
              refine zm_l16 hx dX4_store_88 (by omega) (by omega) ?_
              refine zz_iconst hx dX4_store_89 ?_
              have hck := h.2.2.2 k (by omega) (by omega)
              refine zz_icmp_eq hx 97 dX4_store_90 rfl (by omega) (by omega) (fun c90 => ?_) (fun c90 => ?_)
              · refine zz_iconst hx dX4_store_97 ?_
                refine zz_istore (lv' := [(0, _), (1, _), (2, _), (3, _), (4, _), (5, _)]) hx dX4_store_98 (by decide) rfl ?_
                refine zz_iinc (lv' := [(0, _), (1, _), (2, _), (3, _), (4, _), (5, _)]) hx dX4_store_100 (by decide) rfl rfl ?_
                refine zz_goto hx 47 dX4_store_103 rfl ?_
                refine ih (k + 1) gd _ hg1 hg2 (by omega) (stp _ (by omega) (by constructor <;> (intro z9; omega))) (by omega) (by omega) (by omega)
              · refine zz_iconst hx dX4_store_93 ?_
                refine zz_goto hx 98 dX4_store_94 rfl ?_
                refine zz_istore (lv' := [(0, _), (1, _), (2, _), (3, _), (4, _), (5, _)]) hx dX4_store_98 (by decide) rfl ?_
                refine zz_iinc (lv' := [(0, _), (1, _), (2, _), (3, _), (4, _), (5, _)]) hx dX4_store_100 (by decide) rfl rfl ?_
                refine zz_goto hx 47 dX4_store_103 rfl ?_
                refine ih (k + 1) gd _ hg1 hg2 (by omega) (stp _ (by omega) (by constructor <;> (intro z9; omega))) (by omega) (by omega) (by omega)
  have J27 : ∀ gd : Int, (gd = 0 ∨ gd = 1) → (gd = 1 ↔ ((0 ≤ t ∧ t ≤ 3) ∧ (-1000 ≤ v ∧ v ≤ 1000))) → Z l g ({ frames := 3, cells := 0, slots := 0, locals := 74 } : Room) 7 x 0 0 (mW g a F G rest) 27 [(0, .ref (a 0)), (1, vi t), (2, vi v)] [vi gd] := by
    intro gd hg1 hg2
    refine zz_istore_n (lv' := [(0, _), (1, _), (2, _), (3, _)]) hx dX4_store_27 (by decide) rfl ?_
    refine zz_aload_n hx dX4_store_28 rfl ?_
    refine zm_g6 hx lf_X4_67 dX4_store_29 ?_
    refine zz_bipush hx dX4_store_32 rfl ?_
    refine zz_icmp_ge hx 41 dX4_store_34 rfl (by omega) (by omega) (fun c34 => ?_) (fun c34 => ?_)
    · refine zz_iconst hx dX4_store_41 ?_
      refine zz_istore (lv' := [(0, _), (1, _), (2, _), (3, _), (4, _)]) hx dX4_store_42 (by decide) rfl ?_
      refine zz_iconst hx dX4_store_44 ?_
      refine zz_istore (lv' := [(0, _), (1, _), (2, _), (3, _), (4, _), (5, _)]) hx dX4_store_45 (by decide) rfl ?_
      exact chk ((F 0).toNat + 1) 0 gd _ hg1 hg2 (by omega) ⟨fun z9 => ⟨by omega, fun s _ _ => by omega⟩, fun z9 => by have := z9.1; omega⟩ (by omega) (by omega) (by omega)
    · refine zz_iconst hx dX4_store_37 ?_
      refine zz_goto hx 42 dX4_store_38 rfl ?_
      refine zz_istore (lv' := [(0, _), (1, _), (2, _), (3, _), (4, _)]) hx dX4_store_42 (by decide) rfl ?_
      refine zz_iconst hx dX4_store_44 ?_
      refine zz_istore (lv' := [(0, _), (1, _), (2, _), (3, _), (4, _), (5, _)]) hx dX4_store_45 (by decide) rfl ?_
      exact chk ((F 0).toNat + 1) 0 gd _ hg1 hg2 (by omega) ⟨fun z9 => ⟨by omega, fun s _ _ => by omega⟩, fun z9 => by have := z9.1; omega⟩ (by omega) (by omega) (by omega)
  refine zz_iload_n hx dX4_store_0 rfl ?_
  refine zz_iconst hx dX4_store_1 ?_
  refine zz_iconst hx dX4_store_2 ?_
  refine zz_callSi hx ms_X4_isIn lk_X4_63 (c_isIn (a := a) hst _ _ _ (by omega) (by omega) (by omega)) ⟨rfl, rfl⟩ (by decide) (by decide) rfl rfl (Nat.le_of_ble_eq_true rfl) dX4_store_3 (fun _ _ h => h.elim) (fun r3 w3 hp3 => ?_)
  obtain ⟨rfl, rfl⟩ := hp3
  refine zz_ifb_eq hx 26 dX4_store_6 rfl (fun c6 => ?_) (fun c6 => ?_)
  · refine zz_iconst hx dX4_store_26 ?_
    exact J27 _ (by omega) (by omega)
  · refine zz_iload_n hx dX4_store_9 rfl ?_
    refine zz_sipush hx dX4_store_10 rfl ?_
    refine zz_sipush hx dX4_store_13 rfl ?_
    refine zz_callSi hx ms_X4_isIn lk_X4_63 (c_isIn (a := a) hst _ _ _ (by omega) (by omega) (by omega)) ⟨rfl, rfl⟩ (by decide) (by decide) rfl rfl (Nat.le_of_ble_eq_true rfl) dX4_store_16 (fun _ _ h => h.elim) (fun r16 w16 hp16 => ?_)
    obtain ⟨rfl, rfl⟩ := hp16
    refine zz_ifb_eq hx 26 dX4_store_19 rfl (fun c19 => ?_) (fun c19 => ?_)
    · refine zz_iconst hx dX4_store_26 ?_
      exact J27 _ (by omega) (by omega)
    · refine zz_iconst hx dX4_store_22 ?_
      refine zz_goto hx 27 dX4_store_23 rfl ?_
      exact J27 _ (by omega) (by omega)
