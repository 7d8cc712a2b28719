set_option maxHeartbeats 4000000 in
set_option maxRecDepth 100000 in
theorem c_isGone {l : Launch} {g : zG} {a : Nat → Nat} {F : Nat → Int} {G : Nat → Int → Int} {rest : va_W} (hst : l.stackTraces = false) (r : Int) (hr : r = -1 ∨ 0 ≤ r ∧ r < 60) (M : List Int) (hM : ∀ q : Int, 0 ≤ q → q < 60 → G 17 q = zin q M) (hM2 : ∀ q ∈ M, 0 ≤ q ∧ q < 60) : zM l g yX4_isGone cX4_isGone 2 (Option.some FieldType.boolean) ({ frames := 0, cells := 0, slots := 0, locals := 0 } : Room) [.ref (a 0), vi r] (mW g a F G rest) (zI fun v w => v = zb (r ∈ M) ∧ w = mW g a F G rest) zN 0 0 := by
  have hm1 : r = -1 → r ∉ M := fun e q => by have := hM2 r q; omega
  refine zM_of (lv0 := [(0, _), (1, _)]) hst rfl (by decide +kernel) (Nat.le_of_ble_eq_true rfl) rfl (fun x hx hf hn => ?_)
  refine zz_iload_n hx dX4_isGone_0 rfl ?_
  refine zz_iconst hx dX4_isGone_1 ?_
  refine zz_icmp_eq hx 18 dX4_isGone_2 rfl (by omega) (by omega) (fun c2 => ?_) (fun c2 => ?_)
  · refine zz_iconst hx dX4_isGone_18 ?_
    exact zz_zret hx hf dX4_isGone_19 (by first | decide | exact zb_01 _) ⟨_, rfl, by first | exact (zb_t (by first | exact zin_1.mp (by have := zin_01 r M; omega))).symm | exact (zb_f (by first | exact hm1 c2 | exact zin_0.mp (by omega))).symm, rfl⟩ (by decide) (by decide)
  · refine zz_aload_n hx dX4_isGone_5 rfl ?_
    refine zm_g17 hx lf_X4_50 dX4_isGone_6 ?_
    refine zz_iload_n hx dX4_isGone_9 rfl ?_
    refine zm_l17 hx dX4_isGone_10 (by omega) (by omega) ?_
    rw [hM r (by omega) (by omega)]
    refine zz_if_eq hx 18 dX4_isGone_11 rfl (by have := zin_01 r M; omega) (fun c11 => ?_) (fun c11 => ?_)
    · refine zz_iconst hx dX4_isGone_18 ?_
      exact zz_zret hx hf dX4_isGone_19 (by first | decide | exact zb_01 _) ⟨_, rfl, by first | exact (zb_t (by first | exact zin_1.mp (by have := zin_01 r M; omega))).symm | exact (zb_f (by first | exact hm1 c2 | exact zin_0.mp (by omega))).symm, rfl⟩ (by decide) (by decide)
    · refine zz_iconst hx dX4_isGone_14 ?_
      refine zz_goto hx 19 dX4_isGone_15 rfl ?_
      exact zz_zret hx hf dX4_isGone_19 (by first | decide | exact zb_01 _) ⟨_, rfl, by first | exact (zb_t (by first | exact zin_1.mp (by have := zin_01 r M; omega))).symm | exact (zb_f (by first | exact hm1 c2 | exact zin_0.mp (by omega))).symm, rfl⟩ (by decide) (by decide)

set_option maxHeartbeats 4000000 in
set_option maxRecDepth 100000 in
theorem c_marks {l : Launch} {g : zG} {a : Nat → Nat} {F : Nat → Int} {G : Nat → Int → Int} {rest : va_W} (hst : l.stackTraces = false) {Rw : Int → List Int} (h : mS F G Rw) (rc way : Int) (r0 : 0 ≤ rc) (r1 : rc < F 6) (hw : 0 ≤ way ∧ way ≤ 2) : zM l g yX4_marks cX4_marks 7 (Option.some FieldType.int) ({ frames := 0, cells := 0, slots := 0, locals := 0 } : Room) [.ref (a 0), vi rc, vi way] (mW g a F G rest) (zI fun v w => ∃ f : Int → Int, w = mW g a F (Gset G 17 f) rest ∧ ((v = -1 ∧ way = 0 ∧ ∃ s u : Int, 0 ≤ s ∧ s < 6 ∧ 0 ≤ u ∧ u < 60 ∧ G 11 (60 * s + u) = rc) ∨ ((∃ M : List Int, M.Nodup ∧ v = (M.length : Int) ∧ (∀ q ∈ M, 0 ≤ q ∧ q < 60) ∧ (∀ q : Int, 0 ≤ q → q < 60 → f q = zin q M) ∧ ∀ q : Int, q ∈ M ↔ gCl G rc way q) ∧ (way = 0 → ∀ s u : Int, 0 ≤ s → s < 6 → 0 ≤ u → u < 60 → G 11 (60 * s + u) ≠ rc)))) zN 0 0 := by
  have hF0 := h.1
  have hF6 := h.2.1
  refine zM_of (lv0 := [(0, _), (1, _), (2, _)]) hst rfl (by decide +kernel) (Nat.le_of_ble_eq_true rfl) rfl (fun x hx hf hn => ?_)
  have hlen60 : ∀ M : List Int, M.Nodup → (∀ q ∈ M, 0 ≤ q ∧ q < 60) → M.length ≤ 60 := fun M h1 h2 => nodup_len 60 M h1 (fun q hq => h2 q hq)
  have hself : ∀ s : Int, 0 ≤ s → s < 6 → G 11 (60 * s + rc) ≠ rc := fun s s0 s1 e => by
    have ho := h.2.2.2.2.1 s rc s0 s1 (by omega) (by omega)
    have hd := h.2.2.1 s s0 (by omega)
    rw [e] at ho
    omega
  have done : ∀ (f : Int → Int) (M : List Int) (b : Int) (v5 : List (Nat × Value)), M.Nodup ∧ (∀ q ∈ M, 0 ≤ q ∧ q < 60) ∧ (∀ q : Int, 0 ≤ q → q < 60 → f q = zin q M) ∧ rc ∈ M ∧ (∀ q ∈ M, gCl G rc way q) ∧ (way = 0 → M = [rc]) → (∀ s u : Int, 0 ≤ s → s < 6 → 0 ≤ u → u < 60 → 60 * s + u < 360 → G 11 (60 * s + u) ≠ -1 → G 11 (60 * s + u) ∈ M → u ∈ M ∨ ¬ (way = 2 ∨ G 5 s ≠ 2)) ∧ (way = 0 → ∀ s u : Int, 0 ≤ s → s < 6 → 0 ≤ u → u < 60 → 60 * s + u < 360 → G 11 (60 * s + u) ≠ rc) → Z l g ({ frames := 0, cells := 0, slots := 0, locals := 0 } : Room) 7 x 0 0 (mW g a F (Gset G 17 f) rest) 163 ([(0, .ref (a 0)), (1, vi rc), (2, vi way), (3, vi (M.length : Int)), (4, vi b)] ++ v5) [] := by
    intro f M b v5 hst2 hcl
    obtain ⟨m1, m2, m3, m4, m5, m6⟩ := hst2
    obtain ⟨k1, k2⟩ := hcl
    refine zz_sub (lv' := [(0, .ref (a 0)), (1, vi rc), (2, vi way), (3, vi (M.length : Int)), (4, vi b)]) (fun q hq => List.mem_append_left _ hq) ?_
    have hall : ∀ q : Int, q ∈ M ↔ gCl G rc way q := fun q => ⟨m5 q, fun hq => hq (fun z => z ∈ M) m4 (fun s u s0 s1 u0 u1 h1 h2 h3 => by
      rcases k1 s u s0 s1 u0 u1 (by omega) h1 h2 with y | y
      · exact y
      · exact absurd (by omega) y)⟩
    refine zz_iload_n hx dX4_marks_163 rfl ?_
    exact zz_iret hx hf dX4_marks_164 ⟨_, rfl, f, rfl, Or.inr ⟨⟨M, m1, rfl, m2, m3, hall⟩, fun e s u s0 s1 u0 u1 => k2 e s u s0 s1 u0 u1 (by omega)⟩⟩ (by decide) (by decide)
  have inner : ∀ (b : Int), (∀ (f : Int → Int) (M : List Int) (v5 : List (Nat × Value)), M.Nodup ∧ (∀ q ∈ M, 0 ≤ q ∧ q < 60) ∧ (∀ q : Int, 0 ≤ q → q < 60 → f q = zin q M) ∧ rc ∈ M ∧ (∀ q ∈ M, gCl G rc way q) ∧ (way = 0 → M = [rc]) → (M.length : Int) ≤ 60 → b ≤ (M.length : Int) → (b = (M.length : Int) → (∀ s u : Int, 0 ≤ s → s < 6 → 0 ≤ u → u < 60 → 60 * s + u < 360 → G 11 (60 * s + u) ≠ -1 → G 11 (60 * s + u) ∈ M → u ∈ M ∨ ¬ (way = 2 ∨ G 5 s ≠ 2)) ∧ (way = 0 → ∀ s u : Int, 0 ≤ s → s < 6 → 0 ≤ u → u < 60 → 60 * s + u < 360 → G 11 (60 * s + u) ≠ rc)) → Z l g ({ frames := 0, cells := 0, slots := 0, locals := 0 } : Room) 7 x 0 0 (mW g a F (Gset G 17 f) rest) 39 ([(0, .ref (a 0)), (1, vi rc), (2, vi way), (3, vi (M.length : Int)), (4, vi b)] ++ v5) []) →
      ∀ (m : Nat) (k : Int) (f : Int → Int) (M : List Int) (v6 : List (Nat × Value)), 0 ≤ k → k ≤ 360 → M.Nodup ∧ (∀ q ∈ M, 0 ≤ q ∧ q < 60) ∧ (∀ q : Int, 0 ≤ q → q < 60 → f q = zin q M) ∧ rc ∈ M ∧ (∀ q ∈ M, gCl G rc way q) ∧ (way = 0 → M = [rc]) → (M.length : Int) ≤ 60 → b ≤ (M.length : Int) → 0 ≤ b → (b = (M.length : Int) → (∀ s u : Int, 0 ≤ s → s < 6 → 0 ≤ u → u < 60 → 60 * s + u < k → G 11 (60 * s + u) ≠ -1 → G 11 (60 * s + u) ∈ M → u ∈ M ∨ ¬ (way = 2 ∨ G 5 s ≠ 2)) ∧ (way = 0 → ∀ s u : Int, 0 ≤ s → s < 6 → 0 ≤ u → u < 60 → 60 * s + u < k → G 11 (60 * s + u) ≠ rc)) → (360 - k).toNat < m → Z l g ({ frames := 0, cells := 0, slots := 0, locals := 0 } : Room) 7 x 0 0 (mW g a F (Gset G 17 f) rest) 51 ([(0, .ref (a 0)), (1, vi rc), (2, vi way), (3, vi (M.length : Int)), (4, vi b), (5, vi k)] ++ v6) [] := by
    intro b outer m
    induction m with
    | zero => intro k f M v6 h0 h1 hst2 hl hb hb0 hcl hm; omega
    | succ m ih =>
      intro k f M v6 h0 h1 hst2 hl hb hb0 hcl hm
      refine zz_sub (lv' := [(0, .ref (a 0)), (1, vi rc), (2, vi way), (3, vi (M.length : Int)), (4, vi b), (5, vi k)]) (fun q hq => List.mem_append_left _ hq) ?_
      obtain ⟨m1, m2, m3, m4, m5, m6⟩ := id hst2
      have hsu : ∀ z : k < 360, ∃ s u : Int, 0 ≤ s ∧ s < 6 ∧ 0 ≤ u ∧ u < 60 ∧ 60 * s + u = k ∧ k % 60 = u ∧ k / 60 = s := fun z => ⟨k / 60, k % 60, by omega, by omega, by omega, by omega, by omega, rfl, rfl⟩
      have JG : k < 360 → ∀ gg : Int, (gg = 0 ∨ gg = 1) → (gg = 1 ↔ (G 11 k ≠ -1 ∧ G 11 k ∈ M ∧ k % 60 ∉ M)) → Z l g ({ frames := 0, cells := 0, slots := 0, locals := 0 } : Room) 7 x 0 0 (mW g a F (Gset G 17 f) rest) 103 [(0, .ref (a 0)), (1, vi rc), (2, vi way), (3, vi (M.length : Int)), (4, vi b), (5, vi k)] [vi gg] := by
        intro hk gg hg1 hg2
        obtain ⟨s, u, s0, s1, u0, u1, e1, e2, e3⟩ := hsu hk
        have ho := h.2.2.2.2.1 s u s0 s1 u0 u1
        rw [e1] at ho
        rw [e2] at hg2
        clear hsu
        refine zz_istore (lv' := [(0, _), (1, _), (2, _), (3, _), (4, _), (5, _), (6, _)]) hx dX4_marks_103 (by decide) rfl ?_
        refine zz_iload hx dX4_marks_105 rfl ?_
        refine zz_if_eq hx 116 dX4_marks_107 rfl (by omega) (fun c107 => ?_) (fun c107 => ?_)
        · refine zz_iload hx dX4_marks_116 rfl ?_
          refine zz_if_eq hx 154 dX4_marks_118 rfl (by omega) (fun c118 => ?_) (fun c118 => ?_)
          · refine zz_iinc (lv' := [(0, _), (1, _), (2, _), (3, _), (4, _), (5, _), (6, _)]) hx dX4_marks_154 (by decide) rfl rfl ?_
            refine zz_goto hx 51 dX4_marks_157 rfl ?_
            first
              | (exfalso; omega)
              | (refine ih (k + 1) f M [(6, vi gg)] (by omega) (by omega) hst2 hl hb hb0 (fun e => ?_) (by omega)
                 obtain ⟨k1, k2⟩ := hcl e
                 refine ⟨fun s9 u9 a0 a1 a2 a3 a4 a5 a6 => ?_, fun a7 s9 u9 a0 a1 a2 a3 a4 a5 => ?_⟩
                 · rcases Int.lt_or_eq_of_le (show 60 * s9 + u9 ≤ k by omega) with y | y
                   · exact k1 s9 u9 a0 a1 a2 a3 y a5 a6
                   · have hs9 : s9 = s := by omega
                     have hu9 : u9 = u := by omega
                     subst hs9; subst hu9
                     rw [y] at a5 a6
                     first
                       | (exact Or.inr (by omega))
                       | (refine Or.inl (Decidable.byContradiction fun z9 => ?_); have := hg2.mpr ⟨a5, a6, z9⟩; omega)
                 · rcases Int.lt_or_eq_of_le (show 60 * s9 + u9 ≤ k by omega) with y | y
                   · exact k2 a7 s9 u9 a0 a1 a2 a3 y a5
                   · have hs9 : s9 = s := by omega
                     have hu9 : u9 = u := by omega
                     subst hs9; subst hu9
                     rw [y] at a5
                     first
                       | (exfalso; omega)
                       | (have hgz := hg2.mpr ⟨by omega, by rw [a5]; exact m4, fun z9 => by rw [m6 a7, List.mem_singleton] at z9; subst z9; exact hself s9 s0 s1 (by rw [e1]; exact a5)⟩; omega))
              | (have hgo := hg2.mp (by omega)
                 have hst3 : (M ++ [u]).Nodup := by
                   rw [List.nodup_append]
                   refine ⟨m1, by simp, fun q hq z hz => ?_⟩
                   rw [List.mem_singleton] at hz
                   subst hz
                   exact fun e => hgo.2.2 (e ▸ hq)
                 have hm2 : ∀ q ∈ M ++ [u], 0 ≤ q ∧ q < 60 := fun q hq => by
                   rcases List.mem_append.mp hq with z | z
                   · exact m2 q z
                   · rw [List.mem_singleton] at z; omega
                 have hl2 := hlen60 _ hst3 hm2
                 rw [Gup_eq, Gset_Gset, Gset_s]
                 have hll : ((M ++ [u]).length : Int) = (M.length : Int) + 1 := by rw [List.length_append, List.length_singleton]; omega
                 rw [← hll]
                 refine ih (k + 1) _ (M ++ [u]) [(6, vi gg)] (by omega) (by omega) ⟨hst3, hm2, fun q q0 q1 => ?_, List.mem_append_left _ m4, fun q hq => ?_, fun e => ?_⟩ (by omega) (by omega) hb0 (fun e => by omega) (by omega)
                 · by_cases cq : q = u
                   · subst cq
                     rw [e2, zup_s]
                     exact (zin_1.mpr (List.mem_append_right _ List.mem_cons_self)).symm
                   · rw [e2, zup_n _ _ cq, m3 q q0 q1]
                     unfold zin
                     simp [cq]
                 · rcases List.mem_append.mp hq with z | z
                   · exact m5 q z
                   · rw [List.mem_singleton] at z
                     subst z
                     exact gCl_step s0 s1 u0 u1 (by rw [e1]; exact hgo.1) (by rw [e1]; exact m5 _ hgo.2.1) (by first | omega | (rw [e3] at *; omega))
                 · exfalso; omega)
          · refine zz_iload_n hx dX4_marks_121 rfl ?_
            refine zz_iconst hx dX4_marks_122 ?_
            refine zz_icmp_eq hx 140 dX4_marks_123 rfl (by omega) (by omega) (fun c123 => ?_) (fun c123 => ?_)
            · refine zz_aload_n hx dX4_marks_140 rfl ?_
              refine zm_g17 hx lf_X4_50 dX4_marks_141 ?_
              refine zz_iload hx dX4_marks_144 rfl ?_
              refine zz_bipush hx dX4_marks_146 rfl ?_
              refine zz_irem hx dX4_marks_148 (by omega) (by omega) (by omega) (by omega) ?_
              refine zz_iconst hx dX4_marks_149 ?_
              refine zm_s17 hx dX4_marks_150 (by omega) (by omega) (by omega) ?_
              refine zz_iinc (lv' := [(0, _), (1, _), (2, _), (3, _), (4, _), (5, _), (6, _)]) hx dX4_marks_151 (by decide) rfl rfl ?_
              refine zz_iinc (lv' := [(0, _), (1, _), (2, _), (3, _), (4, _), (5, _), (6, _)]) hx dX4_marks_154 (by decide) rfl rfl ?_
              refine zz_goto hx 51 dX4_marks_157 rfl ?_
              first
                | (exfalso; omega)
                | (refine ih (k + 1) f M [(6, vi gg)] (by omega) (by omega) hst2 hl hb hb0 (fun e => ?_) (by omega)
                   obtain ⟨k1, k2⟩ := hcl e
                   refine ⟨fun s9 u9 a0 a1 a2 a3 a4 a5 a6 => ?_, fun a7 s9 u9 a0 a1 a2 a3 a4 a5 => ?_⟩
                   · rcases Int.lt_or_eq_of_le (show 60 * s9 + u9 ≤ k by omega) with y | y
                     · exact k1 s9 u9 a0 a1 a2 a3 y a5 a6
                     · have hs9 : s9 = s := by omega
                       have hu9 : u9 = u := by omega
                       subst hs9; subst hu9
                       rw [y] at a5 a6
                       first
                         | (exact Or.inr (by omega))
                         | (refine Or.inl (Decidable.byContradiction fun z9 => ?_); have := hg2.mpr ⟨a5, a6, z9⟩; omega)
                   · rcases Int.lt_or_eq_of_le (show 60 * s9 + u9 ≤ k by omega) with y | y
                     · exact k2 a7 s9 u9 a0 a1 a2 a3 y a5
                     · have hs9 : s9 = s := by omega
                       have hu9 : u9 = u := by omega
                       subst hs9; subst hu9
                       rw [y] at a5
                       first
                         | (exfalso; omega)
                         | (have hgz := hg2.mpr ⟨by omega, by rw [a5]; exact m4, fun z9 => by rw [m6 a7, List.mem_singleton] at z9; subst z9; exact hself s9 s0 s1 (by rw [e1]; exact a5)⟩; omega))
                | (have hgo := hg2.mp (by omega)
                   have hst3 : (M ++ [u]).Nodup := by
                     rw [List.nodup_append]
                     refine ⟨m1, by simp, fun q hq z hz => ?_⟩
                     rw [List.mem_singleton] at hz
                     subst hz
                     exact fun e => hgo.2.2 (e ▸ hq)
                   have hm2 : ∀ q ∈ M ++ [u], 0 ≤ q ∧ q < 60 := fun q hq => by
                     rcases List.mem_append.mp hq with z | z
                     · exact m2 q z
                     · rw [List.mem_singleton] at z; omega
                   have hl2 := hlen60 _ hst3 hm2
                   rw [Gup_eq, Gset_Gset, Gset_s]
                   have hll : ((M ++ [u]).length : Int) = (M.length : Int) + 1 := by rw [List.length_append, List.length_singleton]; omega
                   rw [← hll]
                   refine ih (k + 1) _ (M ++ [u]) [(6, vi gg)] (by omega) (by omega) ⟨hst3, hm2, fun q q0 q1 => ?_, List.mem_append_left _ m4, fun q hq => ?_, fun e => ?_⟩ (by omega) (by omega) hb0 (fun e => by omega) (by omega)
                   · by_cases cq : q = u
                     · subst cq
                       rw [e2, zup_s]
                       exact (zin_1.mpr (List.mem_append_right _ List.mem_cons_self)).symm
                     · rw [e2, zup_n _ _ cq, m3 q q0 q1]
                       unfold zin
                       simp [cq]
                   · rcases List.mem_append.mp hq with z | z
                     · exact m5 q z
                     · rw [List.mem_singleton] at z
                       subst z
                       exact gCl_step s0 s1 u0 u1 (by rw [e1]; exact hgo.1) (by rw [e1]; exact m5 _ hgo.2.1) (by first | omega | (rw [e3] at *; omega))
                   · exfalso; omega)
            · refine zz_aload_n hx dX4_marks_126 rfl ?_
              refine zm_g5 hx lf_X4_23 dX4_marks_127 ?_
              refine zz_iload hx dX4_marks_130 rfl ?_
              refine zz_bipush hx dX4_marks_132 rfl ?_
              refine zz_idiv hx dX4_marks_134 (by omega) (by omega) (by omega) (by omega) ?_
              refine zm_l5 hx dX4_marks_135 (by omega) (by omega) ?_
              refine zz_iconst hx dX4_marks_136 ?_
              simp only [Gset, reduceIte, Nat.reduceEqDiff]
              rw [e3]
              refine zz_icmp_eq hx 154 dX4_marks_137 rfl (by have := h.2.2.1 s s0 (by omega); omega) (by omega) (fun c137 => ?_) (fun c137 => ?_)
              · refine zz_iinc (lv' := [(0, _), (1, _), (2, _), (3, _), (4, _), (5, _), (6, _)]) hx dX4_marks_154 (by decide) rfl rfl ?_
                refine zz_goto hx 51 dX4_marks_157 rfl ?_
                first
                  | (exfalso; omega)
                  | (refine ih (k + 1) f M [(6, vi gg)] (by omega) (by omega) hst2 hl hb hb0 (fun e => ?_) (by omega)
                     obtain ⟨k1, k2⟩ := hcl e
                     refine ⟨fun s9 u9 a0 a1 a2 a3 a4 a5 a6 => ?_, fun a7 s9 u9 a0 a1 a2 a3 a4 a5 => ?_⟩
                     · rcases Int.lt_or_eq_of_le (show 60 * s9 + u9 ≤ k by omega) with y | y
                       · exact k1 s9 u9 a0 a1 a2 a3 y a5 a6
                       · have hs9 : s9 = s := by omega
                         have hu9 : u9 = u := by omega
                         subst hs9; subst hu9
                         rw [y] at a5 a6
                         first
                           | (exact Or.inr (by omega))
                           | (refine Or.inl (Decidable.byContradiction fun z9 => ?_); have := hg2.mpr ⟨a5, a6, z9⟩; omega)
                     · rcases Int.lt_or_eq_of_le (show 60 * s9 + u9 ≤ k by omega) with y | y
                       · exact k2 a7 s9 u9 a0 a1 a2 a3 y a5
                       · have hs9 : s9 = s := by omega
                         have hu9 : u9 = u := by omega
                         subst hs9; subst hu9
                         rw [y] at a5
                         first
                           | (exfalso; omega)
                           | (have hgz := hg2.mpr ⟨by omega, by rw [a5]; exact m4, fun z9 => by rw [m6 a7, List.mem_singleton] at z9; subst z9; exact hself s9 s0 s1 (by rw [e1]; exact a5)⟩; omega))
                  | (have hgo := hg2.mp (by omega)
                     have hst3 : (M ++ [u]).Nodup := by
                       rw [List.nodup_append]
                       refine ⟨m1, by simp, fun q hq z hz => ?_⟩
                       rw [List.mem_singleton] at hz
                       subst hz
                       exact fun e => hgo.2.2 (e ▸ hq)
                     have hm2 : ∀ q ∈ M ++ [u], 0 ≤ q ∧ q < 60 := fun q hq => by
                       rcases List.mem_append.mp hq with z | z
                       · exact m2 q z
                       · rw [List.mem_singleton] at z; omega
                     have hl2 := hlen60 _ hst3 hm2
                     rw [Gup_eq, Gset_Gset, Gset_s]
                     have hll : ((M ++ [u]).length : Int) = (M.length : Int) + 1 := by rw [List.length_append, List.length_singleton]; omega
                     rw [← hll]
                     refine ih (k + 1) _ (M ++ [u]) [(6, vi gg)] (by omega) (by omega) ⟨hst3, hm2, fun q q0 q1 => ?_, List.mem_append_left _ m4, fun q hq => ?_, fun e => ?_⟩ (by omega) (by omega) hb0 (fun e => by omega) (by omega)
                     · by_cases cq : q = u
                       · subst cq
                         rw [e2, zup_s]
                         exact (zin_1.mpr (List.mem_append_right _ List.mem_cons_self)).symm
                       · rw [e2, zup_n _ _ cq, m3 q q0 q1]
                         unfold zin
                         simp [cq]
                     · rcases List.mem_append.mp hq with z | z
                       · exact m5 q z
                       · rw [List.mem_singleton] at z
                         subst z
                         exact gCl_step s0 s1 u0 u1 (by rw [e1]; exact hgo.1) (by rw [e1]; exact m5 _ hgo.2.1) (by first | omega | (rw [e3] at *; omega))
                     · exfalso; omega)
              · refine zz_aload_n hx dX4_marks_140 rfl ?_
                refine zm_g17 hx lf_X4_50 dX4_marks_141 ?_
                refine zz_iload hx dX4_marks_144 rfl ?_
                refine zz_bipush hx dX4_marks_146 rfl ?_
                refine zz_irem hx dX4_marks_148 (by omega) (by omega) (by omega) (by omega) ?_
                refine zz_iconst hx dX4_marks_149 ?_
                refine zm_s17 hx dX4_marks_150 (by omega) (by omega) (by omega) ?_
                refine zz_iinc (lv' := [(0, _), (1, _), (2, _), (3, _), (4, _), (5, _), (6, _)]) hx dX4_marks_151 (by decide) rfl rfl ?_
                refine zz_iinc (lv' := [(0, _), (1, _), (2, _), (3, _), (4, _), (5, _), (6, _)]) hx dX4_marks_154 (by decide) rfl rfl ?_
                refine zz_goto hx 51 dX4_marks_157 rfl ?_
                first
                  | (exfalso; omega)
                  | (refine ih (k + 1) f M [(6, vi gg)] (by omega) (by omega) hst2 hl hb hb0 (fun e => ?_) (by omega)
                     obtain ⟨k1, k2⟩ := hcl e
                     refine ⟨fun s9 u9 a0 a1 a2 a3 a4 a5 a6 => ?_, fun a7 s9 u9 a0 a1 a2 a3 a4 a5 => ?_⟩
                     · rcases Int.lt_or_eq_of_le (show 60 * s9 + u9 ≤ k by omega) with y | y
                       · exact k1 s9 u9 a0 a1 a2 a3 y a5 a6
                       · have hs9 : s9 = s := by omega
                         have hu9 : u9 = u := by omega
                         subst hs9; subst hu9
                         rw [y] at a5 a6
                         first
                           | (exact Or.inr (by omega))
                           | (refine Or.inl (Decidable.byContradiction fun z9 => ?_); have := hg2.mpr ⟨a5, a6, z9⟩; omega)
                     · rcases Int.lt_or_eq_of_le (show 60 * s9 + u9 ≤ k by omega) with y | y
                       · exact k2 a7 s9 u9 a0 a1 a2 a3 y a5
                       · have hs9 : s9 = s := by omega
                         have hu9 : u9 = u := by omega
                         subst hs9; subst hu9
                         rw [y] at a5
                         first
                           | (exfalso; omega)
                           | (have hgz := hg2.mpr ⟨by omega, by rw [a5]; exact m4, fun z9 => by rw [m6 a7, List.mem_singleton] at z9; subst z9; exact hself s9 s0 s1 (by rw [e1]; exact a5)⟩; omega))
                  | (have hgo := hg2.mp (by omega)
                     have hst3 : (M ++ [u]).Nodup := by
                       rw [List.nodup_append]
                       refine ⟨m1, by simp, fun q hq z hz => ?_⟩
                       rw [List.mem_singleton] at hz
                       subst hz
                       exact fun e => hgo.2.2 (e ▸ hq)
                     have hm2 : ∀ q ∈ M ++ [u], 0 ≤ q ∧ q < 60 := fun q hq => by
                       rcases List.mem_append.mp hq with z | z
                       · exact m2 q z
                       · rw [List.mem_singleton] at z; omega
                     have hl2 := hlen60 _ hst3 hm2
                     rw [Gup_eq, Gset_Gset, Gset_s]
                     have hll : ((M ++ [u]).length : Int) = (M.length : Int) + 1 := by rw [List.length_append, List.length_singleton]; omega
                     rw [← hll]
                     refine ih (k + 1) _ (M ++ [u]) [(6, vi gg)] (by omega) (by omega) ⟨hst3, hm2, fun q q0 q1 => ?_, List.mem_append_left _ m4, fun q hq => ?_, fun e => ?_⟩ (by omega) (by omega) hb0 (fun e => by omega) (by omega)
                     · by_cases cq : q = u
                       · subst cq
                         rw [e2, zup_s]
                         exact (zin_1.mpr (List.mem_append_right _ List.mem_cons_self)).symm
                       · rw [e2, zup_n _ _ cq, m3 q q0 q1]
                         unfold zin
                         simp [cq]
                     · rcases List.mem_append.mp hq with z | z
                       · exact m5 q z
                       · rw [List.mem_singleton] at z
                         subst z
                         exact gCl_step s0 s1 u0 u1 (by rw [e1]; exact hgo.1) (by rw [e1]; exact m5 _ hgo.2.1) (by first | omega | (rw [e3] at *; omega))
                     · exfalso; omega)
        · refine zz_iload_n hx dX4_marks_110 rfl ?_
          refine zz_if_ne hx 116 dX4_marks_111 rfl (by omega) (fun c111 => ?_) (fun c111 => ?_)
          · refine zz_iload hx dX4_marks_116 rfl ?_
            refine zz_if_eq hx 154 dX4_marks_118 rfl (by omega) (fun c118 => ?_) (fun c118 => ?_)
            · refine zz_iinc (lv' := [(0, _), (1, _), (2, _), (3, _), (4, _), (5, _), (6, _)]) hx dX4_marks_154 (by decide) rfl rfl ?_
              refine zz_goto hx 51 dX4_marks_157 rfl ?_
              first
                | (exfalso; omega)
                | (refine ih (k + 1) f M [(6, vi gg)] (by omega) (by omega) hst2 hl hb hb0 (fun e => ?_) (by omega)
                   obtain ⟨k1, k2⟩ := hcl e
                   refine ⟨fun s9 u9 a0 a1 a2 a3 a4 a5 a6 => ?_, fun a7 s9 u9 a0 a1 a2 a3 a4 a5 => ?_⟩
                   · rcases Int.lt_or_eq_of_le (show 60 * s9 + u9 ≤ k by omega) with y | y
                     · exact k1 s9 u9 a0 a1 a2 a3 y a5 a6
                     · have hs9 : s9 = s := by omega
                       have hu9 : u9 = u := by omega
                       subst hs9; subst hu9
                       rw [y] at a5 a6
                       first
                         | (exact Or.inr (by omega))
                         | (refine Or.inl (Decidable.byContradiction fun z9 => ?_); have := hg2.mpr ⟨a5, a6, z9⟩; omega)
                   · rcases Int.lt_or_eq_of_le (show 60 * s9 + u9 ≤ k by omega) with y | y
                     · exact k2 a7 s9 u9 a0 a1 a2 a3 y a5
                     · have hs9 : s9 = s := by omega
                       have hu9 : u9 = u := by omega
                       subst hs9; subst hu9
                       rw [y] at a5
                       first
                         | (exfalso; omega)
                         | (have hgz := hg2.mpr ⟨by omega, by rw [a5]; exact m4, fun z9 => by rw [m6 a7, List.mem_singleton] at z9; subst z9; exact hself s9 s0 s1 (by rw [e1]; exact a5)⟩; omega))
                | (have hgo := hg2.mp (by omega)
                   have hst3 : (M ++ [u]).Nodup := by
                     rw [List.nodup_append]
                     refine ⟨m1, by simp, fun q hq z hz => ?_⟩
                     rw [List.mem_singleton] at hz
                     subst hz
                     exact fun e => hgo.2.2 (e ▸ hq)
                   have hm2 : ∀ q ∈ M ++ [u], 0 ≤ q ∧ q < 60 := fun q hq => by
                     rcases List.mem_append.mp hq with z | z
                     · exact m2 q z
                     · rw [List.mem_singleton] at z; omega
                   have hl2 := hlen60 _ hst3 hm2
                   rw [Gup_eq, Gset_Gset, Gset_s]
                   have hll : ((M ++ [u]).length : Int) = (M.length : Int) + 1 := by rw [List.length_append, List.length_singleton]; omega
                   rw [← hll]
                   refine ih (k + 1) _ (M ++ [u]) [(6, vi gg)] (by omega) (by omega) ⟨hst3, hm2, fun q q0 q1 => ?_, List.mem_append_left _ m4, fun q hq => ?_, fun e => ?_⟩ (by omega) (by omega) hb0 (fun e => by omega) (by omega)
                   · by_cases cq : q = u
                     · subst cq
                       rw [e2, zup_s]
                       exact (zin_1.mpr (List.mem_append_right _ List.mem_cons_self)).symm
                     · rw [e2, zup_n _ _ cq, m3 q q0 q1]
                       unfold zin
                       simp [cq]
                   · rcases List.mem_append.mp hq with z | z
                     · exact m5 q z
                     · rw [List.mem_singleton] at z
                       subst z
                       exact gCl_step s0 s1 u0 u1 (by rw [e1]; exact hgo.1) (by rw [e1]; exact m5 _ hgo.2.1) (by first | omega | (rw [e3] at *; omega))
                   · exfalso; omega)
            · refine zz_iload_n hx dX4_marks_121 rfl ?_
              refine zz_iconst hx dX4_marks_122 ?_
              refine zz_icmp_eq hx 140 dX4_marks_123 rfl (by omega) (by omega) (fun c123 => ?_) (fun c123 => ?_)
              · refine zz_aload_n hx dX4_marks_140 rfl ?_
                refine zm_g17 hx lf_X4_50 dX4_marks_141 ?_
                refine zz_iload hx dX4_marks_144 rfl ?_
                refine zz_bipush hx dX4_marks_146 rfl ?_
                refine zz_irem hx dX4_marks_148 (by omega) (by omega) (by omega) (by omega) ?_
                refine zz_iconst hx dX4_marks_149 ?_
                refine zm_s17 hx dX4_marks_150 (by omega) (by omega) (by omega) ?_
                refine zz_iinc (lv' := [(0, _), (1, _), (2, _), (3, _), (4, _), (5, _), (6, _)]) hx dX4_marks_151 (by decide) rfl rfl ?_
                refine zz_iinc (lv' := [(0, _), (1, _), (2, _), (3, _), (4, _), (5, _), (6, _)]) hx dX4_marks_154 (by decide) rfl rfl ?_
                refine zz_goto hx 51 dX4_marks_157 rfl ?_
                first
                  | (exfalso; omega)
                  | (refine ih (k + 1) f M [(6, vi gg)] (by omega) (by omega) hst2 hl hb hb0 (fun e => ?_) (by omega)
                     obtain ⟨k1, k2⟩ := hcl e
                     refine ⟨fun s9 u9 a0 a1 a2 a3 a4 a5 a6 => ?_, fun a7 s9 u9 a0 a1 a2 a3 a4 a5 => ?_⟩
                     · rcases Int.lt_or_eq_of_le (show 60 * s9 + u9 ≤ k by omega) with y | y
                       · exact k1 s9 u9 a0 a1 a2 a3 y a5 a6
                       · have hs9 : s9 = s := by omega
                         have hu9 : u9 = u := by omega
                         subst hs9; subst hu9
                         rw [y] at a5 a6
                         first
                           | (exact Or.inr (by omega))
                           | (refine Or.inl (Decidable.byContradiction fun z9 => ?_); have := hg2.mpr ⟨a5, a6, z9⟩; omega)
                     · rcases Int.lt_or_eq_of_le (show 60 * s9 + u9 ≤ k by omega) with y | y
                       · exact k2 a7 s9 u9 a0 a1 a2 a3 y a5
                       · have hs9 : s9 = s := by omega
                         have hu9 : u9 = u := by omega
                         subst hs9; subst hu9
                         rw [y] at a5
                         first
                           | (exfalso; omega)
                           | (have hgz := hg2.mpr ⟨by omega, by rw [a5]; exact m4, fun z9 => by rw [m6 a7, List.mem_singleton] at z9; subst z9; exact hself s9 s0 s1 (by rw [e1]; exact a5)⟩; omega))
                  | (have hgo := hg2.mp (by omega)
                     have hst3 : (M ++ [u]).Nodup := by
                       rw [List.nodup_append]
                       refine ⟨m1, by simp, fun q hq z hz => ?_⟩
                       rw [List.mem_singleton] at hz
                       subst hz
                       exact fun e => hgo.2.2 (e ▸ hq)
                     have hm2 : ∀ q ∈ M ++ [u], 0 ≤ q ∧ q < 60 := fun q hq => by
                       rcases List.mem_append.mp hq with z | z
                       · exact m2 q z
                       · rw [List.mem_singleton] at z; omega
                     have hl2 := hlen60 _ hst3 hm2
                     rw [Gup_eq, Gset_Gset, Gset_s]
                     have hll : ((M ++ [u]).length : Int) = (M.length : Int) + 1 := by rw [List.length_append, List.length_singleton]; omega
                     rw [← hll]
                     refine ih (k + 1) _ (M ++ [u]) [(6, vi gg)] (by omega) (by omega) ⟨hst3, hm2, fun q q0 q1 => ?_, List.mem_append_left _ m4, fun q hq => ?_, fun e => ?_⟩ (by omega) (by omega) hb0 (fun e => by omega) (by omega)
                     · by_cases cq : q = u
                       · subst cq
                         rw [e2, zup_s]
                         exact (zin_1.mpr (List.mem_append_right _ List.mem_cons_self)).symm
                       · rw [e2, zup_n _ _ cq, m3 q q0 q1]
                         unfold zin
                         simp [cq]
                     · rcases List.mem_append.mp hq with z | z
                       · exact m5 q z
                       · rw [List.mem_singleton] at z
                         subst z
                         exact gCl_step s0 s1 u0 u1 (by rw [e1]; exact hgo.1) (by rw [e1]; exact m5 _ hgo.2.1) (by first | omega | (rw [e3] at *; omega))
                     · exfalso; omega)
              · refine zz_aload_n hx dX4_marks_126 rfl ?_
                refine zm_g5 hx lf_X4_23 dX4_marks_127 ?_
                refine zz_iload hx dX4_marks_130 rfl ?_
                refine zz_bipush hx dX4_marks_132 rfl ?_
                refine zz_idiv hx dX4_marks_134 (by omega) (by omega) (by omega) (by omega) ?_
                refine zm_l5 hx dX4_marks_135 (by omega) (by omega) ?_
                refine zz_iconst hx dX4_marks_136 ?_
                simp only [Gset, reduceIte, Nat.reduceEqDiff]
                rw [e3]
                refine zz_icmp_eq hx 154 dX4_marks_137 rfl (by have := h.2.2.1 s s0 (by omega); omega) (by omega) (fun c137 => ?_) (fun c137 => ?_)
                · refine zz_iinc (lv' := [(0, _), (1, _), (2, _), (3, _), (4, _), (5, _), (6, _)]) hx dX4_marks_154 (by decide) rfl rfl ?_
                  refine zz_goto hx 51 dX4_marks_157 rfl ?_
                  first
                    | (exfalso; omega)
                    | (refine ih (k + 1) f M [(6, vi gg)] (by omega) (by omega) hst2 hl hb hb0 (fun e => ?_) (by omega)
                       obtain ⟨k1, k2⟩ := hcl e
                       refine ⟨fun s9 u9 a0 a1 a2 a3 a4 a5 a6 => ?_, fun a7 s9 u9 a0 a1 a2 a3 a4 a5 => ?_⟩
                       · rcases Int.lt_or_eq_of_le (show 60 * s9 + u9 ≤ k by omega) with y | y
                         · exact k1 s9 u9 a0 a1 a2 a3 y a5 a6
                         · have hs9 : s9 = s := by omega
                           have hu9 : u9 = u := by omega
                           subst hs9; subst hu9
                           rw [y] at a5 a6
                           first
                             | (exact Or.inr (by omega))
                             | (refine Or.inl (Decidable.byContradiction fun z9 => ?_); have := hg2.mpr ⟨a5, a6, z9⟩; omega)
                       · rcases Int.lt_or_eq_of_le (show 60 * s9 + u9 ≤ k by omega) with y | y
                         · exact k2 a7 s9 u9 a0 a1 a2 a3 y a5
                         · have hs9 : s9 = s := by omega
                           have hu9 : u9 = u := by omega
                           subst hs9; subst hu9
                           rw [y] at a5
                           first
                             | (exfalso; omega)
                             | (have hgz := hg2.mpr ⟨by omega, by rw [a5]; exact m4, fun z9 => by rw [m6 a7, List.mem_singleton] at z9; subst z9; exact hself s9 s0 s1 (by rw [e1]; exact a5)⟩; omega))
                    | (have hgo := hg2.mp (by omega)
                       have hst3 : (M ++ [u]).Nodup := by
                         rw [List.nodup_append]
                         refine ⟨m1, by simp, fun q hq z hz => ?_⟩
                         rw [List.mem_singleton] at hz
                         subst hz
                         exact fun e => hgo.2.2 (e ▸ hq)
                       have hm2 : ∀ q ∈ M ++ [u], 0 ≤ q ∧ q < 60 := fun q hq => by
                         rcases List.mem_append.mp hq with z | z
                         · exact m2 q z
                         · rw [List.mem_singleton] at z; omega
                       have hl2 := hlen60 _ hst3 hm2
                       rw [Gup_eq, Gset_Gset, Gset_s]
                       have hll : ((M ++ [u]).length : Int) = (M.length : Int) + 1 := by rw [List.length_append, List.length_singleton]; omega
                       rw [← hll]
                       refine ih (k + 1) _ (M ++ [u]) [(6, vi gg)] (by omega) (by omega) ⟨hst3, hm2, fun q q0 q1 => ?_, List.mem_append_left _ m4, fun q hq => ?_, fun e => ?_⟩ (by omega) (by omega) hb0 (fun e => by omega) (by omega)
                       · by_cases cq : q = u
                         · subst cq
                           rw [e2, zup_s]
                           exact (zin_1.mpr (List.mem_append_right _ List.mem_cons_self)).symm
                         · rw [e2, zup_n _ _ cq, m3 q q0 q1]
                           unfold zin
                           simp [cq]
                       · rcases List.mem_append.mp hq with z | z
                         · exact m5 q z
                         · rw [List.mem_singleton] at z
                           subst z
                           exact gCl_step s0 s1 u0 u1 (by rw [e1]; exact hgo.1) (by rw [e1]; exact m5 _ hgo.2.1) (by first | omega | (rw [e3] at *; omega))
                       · exfalso; omega)
                · refine zz_aload_n hx dX4_marks_140 rfl ?_
                  refine zm_g17 hx lf_X4_50 dX4_marks_141 ?_
                  refine zz_iload hx dX4_marks_144 rfl ?_
                  refine zz_bipush hx dX4_marks_146 rfl ?_
                  refine zz_irem hx dX4_marks_148 (by omega) (by omega) (by omega) (by omega) ?_
                  refine zz_iconst hx dX4_marks_149 ?_
                  refine zm_s17 hx dX4_marks_150 (by omega) (by omega) (by omega) ?_
                  refine zz_iinc (lv' := [(0, _), (1, _), (2, _), (3, _), (4, _), (5, _), (6, _)]) hx dX4_marks_151 (by decide) rfl rfl ?_
                  refine zz_iinc (lv' := [(0, _), (1, _), (2, _), (3, _), (4, _), (5, _), (6, _)]) hx dX4_marks_154 (by decide) rfl rfl ?_
                  refine zz_goto hx 51 dX4_marks_157 rfl ?_
                  first
                    | (exfalso; omega)
                    | (refine ih (k + 1) f M [(6, vi gg)] (by omega) (by omega) hst2 hl hb hb0 (fun e => ?_) (by omega)
                       obtain ⟨k1, k2⟩ := hcl e
                       refine ⟨fun s9 u9 a0 a1 a2 a3 a4 a5 a6 => ?_, fun a7 s9 u9 a0 a1 a2 a3 a4 a5 => ?_⟩
                       · rcases Int.lt_or_eq_of_le (show 60 * s9 + u9 ≤ k by omega) with y | y
                         · exact k1 s9 u9 a0 a1 a2 a3 y a5 a6
                         · have hs9 : s9 = s := by omega
                           have hu9 : u9 = u := by omega
                           subst hs9; subst hu9
                           rw [y] at a5 a6
                           first
                             | (exact Or.inr (by omega))
                             | (refine Or.inl (Decidable.byContradiction fun z9 => ?_); have := hg2.mpr ⟨a5, a6, z9⟩; omega)
                       · rcases Int.lt_or_eq_of_le (show 60 * s9 + u9 ≤ k by omega) with y | y
                         · exact k2 a7 s9 u9 a0 a1 a2 a3 y a5
                         · have hs9 : s9 = s := by omega
                           have hu9 : u9 = u := by omega
                           subst hs9; subst hu9
                           rw [y] at a5
                           first
                             | (exfalso; omega)
                             | (have hgz := hg2.mpr ⟨by omega, by rw [a5]; exact m4, fun z9 => by rw [m6 a7, List.mem_singleton] at z9; subst z9; exact hself s9 s0 s1 (by rw [e1]; exact a5)⟩; omega))
                    | (have hgo := hg2.mp (by omega)
                       have hst3 : (M ++ [u]).Nodup := by
                         rw [List.nodup_append]
                         refine ⟨m1, by simp, fun q hq z hz => ?_⟩
                         rw [List.mem_singleton] at hz
                         subst hz
                         exact fun e => hgo.2.2 (e ▸ hq)
                       have hm2 : ∀ q ∈ M ++ [u], 0 ≤ q ∧ q < 60 := fun q hq => by
                         rcases List.mem_append.mp hq with z | z
                         · exact m2 q z
                         · rw [List.mem_singleton] at z; omega
                       have hl2 := hlen60 _ hst3 hm2
                       rw [Gup_eq, Gset_Gset, Gset_s]
                       have hll : ((M ++ [u]).length : Int) = (M.length : Int) + 1 := by rw [List.length_append, List.length_singleton]; omega
                       rw [← hll]
                       refine ih (k + 1) _ (M ++ [u]) [(6, vi gg)] (by omega) (by omega) ⟨hst3, hm2, fun q q0 q1 => ?_, List.mem_append_left _ m4, fun q hq => ?_, fun e => ?_⟩ (by omega) (by omega) hb0 (fun e => by omega) (by omega)
                       · by_cases cq : q = u
                         · subst cq
                           rw [e2, zup_s]
                           exact (zin_1.mpr (List.mem_append_right _ List.mem_cons_self)).symm
                         · rw [e2, zup_n _ _ cq, m3 q q0 q1]
                           unfold zin
                           simp [cq]
                       · rcases List.mem_append.mp hq with z | z
                         · exact m5 q z
                         · rw [List.mem_singleton] at z
                           subst z
                           exact gCl_step s0 s1 u0 u1 (by rw [e1]; exact hgo.1) (by rw [e1]; exact m5 _ hgo.2.1) (by first | omega | (rw [e3] at *; omega))
                       · exfalso; omega)
          · refine zz_iconst hx dX4_marks_114 ?_
            have hgo := hg2.mp (by omega)
            exact zz_iret hx hf dX4_marks_115 ⟨_, rfl, f, rfl, Or.inl ⟨rfl, by omega, s, u, s0, s1, u0, u1, by rw [e1]; have := hgo.2.1; rw [m6 (by omega), List.mem_singleton] at this; exact this⟩⟩ (by decide) (by decide)
      have hr17 : ∀ q : Int, Gset G 17 f 17 q = f q := fun q => by rw [Gset_s]
      have hr11 : Gset G 17 f 11 = G 11 := Gset_n _ _ (by decide)
      refine zz_iload hx dX4_marks_51 rfl ?_
      refine zz_sipush hx dX4_marks_53 rfl ?_
      refine zz_icmp_ge hx 160 dX4_marks_56 rfl (by omega) (by omega) (fun c56 => ?_) (fun c56 => ?_)
      · refine zz_goto hx 39 dX4_marks_160 rfl ?_
        exact outer f M [(5, vi k)] hst2 hl hb (fun e => by have := hcl e; rw [show k = 360 by omega] at this; exact this)
      · refine zz_aload_n hx dX4_marks_59 rfl ?_
        refine zm_g11 hx lf_X4_35 dX4_marks_60 ?_
        refine zz_iload hx dX4_marks_63 rfl ?_
        refine zm_l11 hx dX4_marks_65 (by omega) (by omega) ?_
        refine zz_iconst hx dX4_marks_66 ?_
        obtain ⟨s, u, s0, s1, u0, u1, e1, e2, e3⟩ := hsu (by omega)
        have ho := h.2.2.2.2.1 s u s0 s1 u0 u1
        rw [e1] at ho
        rw [hr11]
        refine zz_icmp_eq hx 102 dX4_marks_67 rfl (by omega) (by omega) (fun c67 => ?_) (fun c67 => ?_)
        · refine zz_iconst hx dX4_marks_102 ?_
          refine JG (by omega) _ (by omega) ?_
          first
            | exact ⟨fun z => absurd z (by decide), fun z => absurd z.1 (by omega)⟩
            | exact ⟨fun z => absurd z (by decide), fun z => absurd z.2.1 (zin_0.mp (by omega))⟩
            | exact ⟨fun z => absurd z (by decide), fun z => absurd (zin_1.mp (by have := zin_01 (k % 60) M; omega)) z.2.2⟩
            | exact ⟨fun _ => ⟨by omega, zin_1.mp (by have := zin_01 (G 11 k) M; omega), zin_0.mp (by omega)⟩, fun _ => rfl⟩
        · refine zz_aload_n hx dX4_marks_70 rfl ?_
          refine zm_g17 hx lf_X4_50 dX4_marks_71 ?_
          refine zz_aload_n hx dX4_marks_74 rfl ?_
          refine zm_g11 hx lf_X4_35 dX4_marks_75 ?_
          refine zz_iload hx dX4_marks_78 rfl ?_
          refine zm_l11 hx dX4_marks_80 (by omega) (by omega) ?_
          rw [hr11]
          refine zm_l17 hx dX4_marks_81 (by omega) (by omega) ?_
          rw [hr17, m3 _ (by omega) (by omega)]
          refine zz_if_eq hx 102 dX4_marks_82 rfl (by have := zin_01 (G 11 k) M; omega) (fun c82 => ?_) (fun c82 => ?_)
          · refine zz_iconst hx dX4_marks_102 ?_
            refine JG (by omega) _ (by omega) ?_
            first
              | exact ⟨fun z => absurd z (by decide), fun z => absurd z.1 (by omega)⟩
              | exact ⟨fun z => absurd z (by decide), fun z => absurd z.2.1 (zin_0.mp (by omega))⟩
              | exact ⟨fun z => absurd z (by decide), fun z => absurd (zin_1.mp (by have := zin_01 (k % 60) M; omega)) z.2.2⟩
              | exact ⟨fun _ => ⟨by omega, zin_1.mp (by have := zin_01 (G 11 k) M; omega), zin_0.mp (by omega)⟩, fun _ => rfl⟩
          · refine zz_aload_n hx dX4_marks_85 rfl ?_
            refine zm_g17 hx lf_X4_50 dX4_marks_86 ?_
            refine zz_iload hx dX4_marks_89 rfl ?_
            refine zz_bipush hx dX4_marks_91 rfl ?_
            refine zz_irem hx dX4_marks_93 (by omega) (by omega) (by omega) (by omega) ?_
            refine zm_l17 hx dX4_marks_94 (by omega) (by omega) ?_
            rw [hr17, m3 _ (by omega) (by omega)]
            refine zz_if_ne hx 102 dX4_marks_95 rfl (by have := zin_01 (k % 60) M; omega) (fun c95 => ?_) (fun c95 => ?_)
            · refine zz_iconst hx dX4_marks_102 ?_
              refine JG (by omega) _ (by omega) ?_
              first
                | exact ⟨fun z => absurd z (by decide), fun z => absurd z.1 (by omega)⟩
                | exact ⟨fun z => absurd z (by decide), fun z => absurd z.2.1 (zin_0.mp (by omega))⟩
                | exact ⟨fun z => absurd z (by decide), fun z => absurd (zin_1.mp (by have := zin_01 (k % 60) M; omega)) z.2.2⟩
                | exact ⟨fun _ => ⟨by omega, zin_1.mp (by have := zin_01 (G 11 k) M; omega), zin_0.mp (by omega)⟩, fun _ => rfl⟩
            · refine zz_iconst hx dX4_marks_98 ?_
              refine zz_goto hx 103 dX4_marks_99 rfl ?_
              refine JG (by omega) _ (by omega) ?_
              first
                | exact ⟨fun z => absurd z (by decide), fun z => absurd z.1 (by omega)⟩
                | exact ⟨fun z => absurd z (by decide), fun z => absurd z.2.1 (zin_0.mp (by omega))⟩
                | exact ⟨fun z => absurd z (by decide), fun z => absurd (zin_1.mp (by have := zin_01 (k % 60) M; omega)) z.2.2⟩
                | exact ⟨fun _ => ⟨by omega, zin_1.mp (by have := zin_01 (G 11 k) M; omega), zin_0.mp (by omega)⟩, fun _ => rfl⟩
  have outer : ∀ (m : Nat) (b : Int) (f : Int → Int) (M : List Int) (v5 : List (Nat × Value)), M.Nodup ∧ (∀ q ∈ M, 0 ≤ q ∧ q < 60) ∧ (∀ q : Int, 0 ≤ q → q < 60 → f q = zin q M) ∧ rc ∈ M ∧ (∀ q ∈ M, gCl G rc way q) ∧ (way = 0 → M = [rc]) → (M.length : Int) ≤ 60 → 0 ≤ b → b ≤ (M.length : Int) → (b = (M.length : Int) → (∀ s u : Int, 0 ≤ s → s < 6 → 0 ≤ u → u < 60 → 60 * s + u < 360 → G 11 (60 * s + u) ≠ -1 → G 11 (60 * s + u) ∈ M → u ∈ M ∨ ¬ (way = 2 ∨ G 5 s ≠ 2)) ∧ (way = 0 → ∀ s u : Int, 0 ≤ s → s < 6 → 0 ≤ u → u < 60 → 60 * s + u < 360 → G 11 (60 * s + u) ≠ rc)) → (60 - b).toNat < m → Z l g ({ frames := 0, cells := 0, slots := 0, locals := 0 } : Room) 7 x 0 0 (mW g a F (Gset G 17 f) rest) 39 ([(0, .ref (a 0)), (1, vi rc), (2, vi way), (3, vi (M.length : Int)), (4, vi b)] ++ v5) [] := by
    intro m
    induction m with
    | zero => intro b f M v5 hst2 hl h0 hb hcl hm; omega
    | succ m ih =>
      intro b f M v5 hst2 hl h0 hb hcl hm
      refine zz_sub (lv' := [(0, .ref (a 0)), (1, vi rc), (2, vi way), (3, vi (M.length : Int)), (4, vi b)]) (fun q hq => List.mem_append_left _ hq) ?_
      refine zz_iload hx dX4_marks_39 rfl ?_
      refine zz_iload_n hx dX4_marks_41 rfl ?_
      refine zz_icmp_ge hx 163 dX4_marks_42 rfl (by omega) (by omega) (fun c42 => ?_) (fun c42 => ?_)
      · exact done f M b [] hst2 (hcl (by omega))
      · refine zz_iload_n hx dX4_marks_45 rfl ?_
        refine zz_istore (lv' := [(0, _), (1, _), (2, _), (3, _), (4, _)]) hx dX4_marks_46 (by decide) rfl ?_
        refine zz_iconst hx dX4_marks_48 ?_
        refine zz_istore (lv' := [(0, _), (1, _), (2, _), (3, _), (4, _), (5, _)]) hx dX4_marks_49 (by decide) rfl ?_
        refine inner (M.length : Int) (fun f2 M2 v5 a1 a2 a3 a4 => ih (M.length : Int) f2 M2 v5 a1 a2 (by omega) a3 a4 (by omega)) 361 0 f M [] (by omega) (by omega) hst2 hl (by omega) (by omega) (fun _ => ⟨fun s u _ _ _ _ q => by omega, fun _ s u _ _ _ _ q => by omega⟩) (by omega)
  have init : ∀ (m : Nat) (k : Int) (f : Int → Int), 0 ≤ k → k ≤ 60 → (∀ q : Int, 0 ≤ q → q < k → f q = zin q [rc]) → (60 - k).toNat < m → Z l g ({ frames := 0, cells := 0, slots := 0, locals := 0 } : Room) 7 x 0 0 (mW g a F (Gset G 17 f) rest) 5 [(0, .ref (a 0)), (1, vi rc), (2, vi way), (3, vi 1), (4, vi k)] [] := by
    intro m
    induction m with
    | zero => intro k f h0 h1 hf0 hm; omega
    | succ m ih =>
      intro k f h0 h1 hf0 hm
      refine zz_iload hx dX4_marks_5 rfl ?_
      refine zz_bipush hx dX4_marks_7 rfl ?_
      refine zz_icmp_ge hx 36 dX4_marks_9 rfl (by omega) (by omega) (fun c9 => ?_) (fun c9 => ?_)
      · refine zz_iconst hx dX4_marks_36 ?_
        refine zz_istore (lv' := [(0, _), (1, _), (2, _), (3, _), (4, _)]) hx dX4_marks_37 (by decide) rfl ?_
        refine outer 61 0 f [rc] [] ⟨by simp, fun q hq => by rw [List.mem_singleton] at hq; omega, fun q q0 q1 => hf0 q q0 (by omega), List.mem_cons_self, fun q hq => by rw [List.mem_singleton] at hq; rw [hq]; exact gCl_self, fun _ => rfl⟩ (by simp) (by omega) (by simp) (fun e => by simp at e) (by omega)
      · refine zz_aload_n hx dX4_marks_12 rfl ?_
        refine zm_g17 hx lf_X4_50 dX4_marks_13 ?_
        refine zz_iload hx dX4_marks_16 rfl ?_
        refine zz_iload hx dX4_marks_18 rfl ?_
        refine zz_iload_n hx dX4_marks_20 rfl ?_
        refine zz_icmp_ne hx 28 dX4_marks_21 rfl (by omega) (by omega) (fun c21 => ?_) (fun c21 => ?_)
        · refine zz_iconst hx dX4_marks_28 ?_
          refine zm_s17 hx dX4_marks_29 (by omega) (by omega) (by omega) ?_
          refine zz_iinc (lv' := [(0, _), (1, _), (2, _), (3, _), (4, _)]) hx dX4_marks_30 (by decide) rfl rfl ?_
          refine zz_goto hx 5 dX4_marks_33 rfl ?_
          rw [Gup_eq, Gset_Gset, Gset_s]
          refine ih (k + 1) _ (by omega) (by omega) (fun q q0 q1 => ?_) (by omega)
          by_cases cq : q = k
          · subst cq
            rw [zup_s]
            first
              | exact (zin_1.mpr (by rw [List.mem_singleton]; omega)).symm
              | exact (zin_0.mpr (by rw [List.mem_singleton]; omega)).symm
          · rw [zup_n _ _ cq]
            exact hf0 q q0 (by omega)
        · refine zz_iconst hx dX4_marks_24 ?_
          refine zz_goto hx 29 dX4_marks_25 rfl ?_
          refine zm_s17 hx dX4_marks_29 (by omega) (by omega) (by omega) ?_
          refine zz_iinc (lv' := [(0, _), (1, _), (2, _), (3, _), (4, _)]) hx dX4_marks_30 (by decide) rfl rfl ?_
          refine zz_goto hx 5 dX4_marks_33 rfl ?_
          rw [Gup_eq, Gset_Gset, Gset_s]
          refine ih (k + 1) _ (by omega) (by omega) (fun q q0 q1 => ?_) (by omega)
          by_cases cq : q = k
          · subst cq
            rw [zup_s]
            first
              | exact (zin_1.mpr (by rw [List.mem_singleton]; omega)).symm
              | exact (zin_0.mpr (by rw [List.mem_singleton]; omega)).symm
          · rw [zup_n _ _ cq]
            exact hf0 q q0 (by omega)
  refine zz_iconst hx dX4_marks_0 ?_
  refine zz_istore_n (lv' := [(0, _), (1, _), (2, _), (3, _)]) hx dX4_marks_1 (by decide) rfl ?_
  refine zz_iconst hx dX4_marks_2 ?_
  refine zz_istore (lv' := [(0, _), (1, _), (2, _), (3, _), (4, _)]) hx dX4_marks_3 (by decide) rfl ?_
  rw [← Gset_id G 17]
  exact init 61 0 _ (by omega) (by omega) (fun q _ _ => by omega) (by omega)
