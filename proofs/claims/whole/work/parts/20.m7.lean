set_option maxHeartbeats 4000000 in
set_option maxRecDepth 100000 in
theorem c_findOf {l : Launch} {g : zG} {a : Nat → Nat} {F : Nat → Int} {G : Nat → Int → Int} {rest : va_W} (hst : l.stackTraces = false) {Rw : Int → List Int} (h : mI F G Rw) (t : Int) (ht : -2147483648 ≤ t ∧ t < 2147483648) (z : Int) (hz : z = 0 ∨ z = 1) : zM l g yX4_findOf cX4_findOf 5 (Option.some FieldType.int) ({ frames := 2, cells := 0, slots := 0, locals := 44 } : Room) [.ref (a 0), vi t, vi z] (mW g a F G rest) (zI fun v w => ∃ c f : Int, ((c = 0 ∧ (0 ≤ t ∧ t ≤ 3) ∧ ((f = -1 ∧ ∀ j : Int, 0 ≤ j → j < F 6 → ¬ (G 8 j = 1 ∧ G 9 j = t ∧ (z ≠ 0 ∨ G 15 t < j))) ∨ ((0 ≤ f ∧ f < F 6) ∧ (G 8 f = 1 ∧ G 9 f = t ∧ (z ≠ 0 ∨ G 15 t < f)) ∧ ∀ j : Int, 0 ≤ j → j < f → ¬ (G 8 j = 1 ∧ G 9 j = t ∧ (z ≠ 0 ∨ G 15 t < j)))) ∧ v = f) ∨ (c = 1 ∧ ¬ (0 ≤ t ∧ t ≤ 3) ∧ f = -1)) ∧ (f = -1 ∨ 0 ≤ f ∧ f < F 6 ∧ G 8 f = 1) ∧ w = mW g a (Fup (becF F f) 18 c) (becG F G f) rest) zN 0 0 := by
  have hF0 := h.1.1
  have hF6 := h.1.2.1
  refine zM_of (lv0 := [(0, _), (1, _), (2, _)]) hst rfl (by decide +kernel) (Nat.le_of_ble_eq_true rfl) rfl (fun x hx hf hn => ?_)
  have loop : ∀ (m : Nat) (k f : Int), 0 ≤ t ∧ t ≤ 3 → -1 ≤ k → k < F 6 → ((f = -1 ∧ ∀ j : Int, k < j → j < F 6 → ¬ (G 8 j = 1 ∧ G 9 j = t ∧ (z ≠ 0 ∨ G 15 t < j))) ∨ ((k < f ∧ f < F 6) ∧ (G 8 f = 1 ∧ G 9 f = t ∧ (z ≠ 0 ∨ G 15 t < f)) ∧ ∀ j : Int, k < j → j < f → ¬ (G 8 j = 1 ∧ G 9 j = t ∧ (z ≠ 0 ∨ G 15 t < j)))) → (k + 1).toNat < m → Z l g ({ frames := 2, cells := 0, slots := 0, locals := 44 } : Room) 5 x 0 0 (mW g a (Fup F 18 0) G rest) 33 [(0, .ref (a 0)), (1, vi t), (2, vi z), (3, vi f), (4, vi k)] [] := by
    intro m
    induction m with
    | zero => intro k f ht2 h0 h1 hp hm; omega
    | succ m ih =>
      intro k f ht2 h0 h1 hp hm
      have h15 := h.2.2.1 t (by omega) (by omega)
      have fin : (∀ j : Int, 0 ≤ j → j ≤ k → ¬ (G 8 j = 1 ∧ G 9 j = t ∧ (z ≠ 0 ∨ G 15 t < j))) → ((f = -1 ∧ ∀ j : Int, 0 ≤ j → j < F 6 → ¬ (G 8 j = 1 ∧ G 9 j = t ∧ (z ≠ 0 ∨ G 15 t < j))) ∨ ((0 ≤ f ∧ f < F 6) ∧ (G 8 f = 1 ∧ G 9 f = t ∧ (z ≠ 0 ∨ G 15 t < f)) ∧ ∀ j : Int, 0 ≤ j → j < f → ¬ (G 8 j = 1 ∧ G 9 j = t ∧ (z ≠ 0 ∨ G 15 t < j)))) ∧ (f = -1 ∨ 0 ≤ f ∧ f < F 6 ∧ G 8 f = 1) := by
        intro hall
        rcases hp with ⟨q1, q2⟩ | ⟨q1, q2, q3⟩
        · refine ⟨Or.inl ⟨q1, fun j j0 j1 => ?_⟩, Or.inl q1⟩
          rcases Int.lt_or_le k j with y | y
          · exact q2 j y j1
          · exact hall j j0 y
        · refine ⟨Or.inr ⟨by omega, q2, fun j j0 j1 => ?_⟩, Or.inr ⟨by omega, q1.2, q2.1⟩⟩
          rcases Int.lt_or_le k j with y | y
          · exact q3 j y j1
          · exact hall j j0 y
      have step : ∀ v : Int, (v = k ∧ (G 8 k = 1 ∧ G 9 k = t ∧ (z ≠ 0 ∨ G 15 t < k))) ∨ (v = f ∧ ¬ (G 8 k = 1 ∧ G 9 k = t ∧ (z ≠ 0 ∨ G 15 t < k))) → ((v = -1 ∧ ∀ j : Int, k + -1 < j → j < F 6 → ¬ (G 8 j = 1 ∧ G 9 j = t ∧ (z ≠ 0 ∨ G 15 t < j))) ∨ ((k + -1 < v ∧ v < F 6) ∧ (G 8 v = 1 ∧ G 9 v = t ∧ (z ≠ 0 ∨ G 15 t < v)) ∧ ∀ j : Int, k + -1 < j → j < v → ¬ (G 8 j = 1 ∧ G 9 j = t ∧ (z ≠ 0 ∨ G 15 t < j)))) := by
        intro v hv
        rcases hv with ⟨rfl, hc⟩ | ⟨rfl, hc⟩
        · exact Or.inr ⟨by omega, hc, fun j j0 j1 => by omega⟩
        · rcases hp with ⟨q1, q2⟩ | ⟨q1, q2, q3⟩
          · refine Or.inl ⟨q1, fun j j0 j1 => ?_⟩
            rcases Int.lt_or_eq_of_le (show k ≤ j by omega) with y | y
            · exact q2 j y j1
            · rw [← y]; exact hc
          · refine Or.inr ⟨by omega, q2, fun j j0 j1 => ?_⟩
            rcases Int.lt_or_eq_of_le (show k ≤ j by omega) with y | y
            · exact q3 j y j1
            · rw [← y]; exact hc
      refine zz_iload hx dX4_findOf_33 rfl ?_
      refine zz_if_lt hx 87 dX4_findOf_35 rfl (by omega) (fun c35 => ?_) (fun c35 => ?_)
      · obtain ⟨fs, ft⟩ := fin (fun j j0 j1 => by omega)
        refine zz_aload_n hx dX4_findOf_87 rfl ?_
        refine zz_iload_n hx dX4_findOf_88 rfl ?_
        refine zz_callVi hx me_X4_becomes lk_X4_96 (c_becomes (F := Fup F 18 0) hst (mS_18 h.1) _ (by rcases ft with q | q; exact Or.inl q; exact Or.inr ⟨q.1, q.2.1⟩)) 0 rfl rfl ⟨rfl, rfl⟩ (by decide) (by decide) rfl rfl (Nat.le_of_ble_eq_true rfl) dX4_findOf_89 (fun _ _ h => h.elim) (fun r89 w89 hp89 => ?_)
        obtain ⟨rfl, rfl⟩ := hp89
        exact zz_iret hx hf dX4_findOf_92 ⟨_, rfl, 0, _, Or.inl ⟨rfl, ht2, fs, rfl⟩, ft, by rw [bec_18, becG_18]⟩ (by decide) (by decide)
      · refine zz_iload_n hx dX4_findOf_38 rfl ?_
        refine zz_if_ne hx 53 dX4_findOf_39 rfl (by omega) (fun c39 => ?_) (fun c39 => ?_)
        · refine zz_aload_n hx dX4_findOf_53 rfl ?_
          refine zm_g8 hx lf_X4_26 dX4_findOf_54 ?_
          refine zz_iload hx dX4_findOf_57 rfl ?_
          refine zm_l8 hx dX4_findOf_59 (by omega) (by omega) ?_
          have hvk := h.1.2.2.2.1 k (by omega) (by omega)
          refine zz_if_eq hx 79 dX4_findOf_60 rfl (by omega) (fun c60 => ?_) (fun c60 => ?_)
          · refine zz_iload_n hx dX4_findOf_79 rfl ?_
            refine zz_istore_n (lv' := [(0, _), (1, _), (2, _), (3, _), (4, _)]) hx dX4_findOf_80 (by decide) rfl ?_
            refine zz_iinc (lv' := [(0, _), (1, _), (2, _), (3, _), (4, _)]) hx dX4_findOf_81 (by decide) rfl rfl ?_
            refine zz_goto hx 33 dX4_findOf_84 rfl ?_
            first
              | exact ih (k + -1) k ht2 (by omega) (by omega) (step k (Or.inl ⟨rfl, by omega⟩)) (by omega)
              | exact ih (k + -1) f ht2 (by omega) (by omega) (step f (Or.inr ⟨rfl, by omega⟩)) (by omega)
          · refine zz_aload_n hx dX4_findOf_63 rfl ?_
            refine zm_g9 hx lf_X4_29 dX4_findOf_64 ?_
            refine zz_iload hx dX4_findOf_67 rfl ?_
            refine zm_l9 hx dX4_findOf_69 (by omega) (by omega) ?_
            refine zz_iload_n hx dX4_findOf_70 rfl ?_
            refine zz_icmp_ne hx 79 dX4_findOf_71 rfl (by omega) (by omega) (fun c71 => ?_) (fun c71 => ?_)
            · refine zz_iload_n hx dX4_findOf_79 rfl ?_
              refine zz_istore_n (lv' := [(0, _), (1, _), (2, _), (3, _), (4, _)]) hx dX4_findOf_80 (by decide) rfl ?_
              refine zz_iinc (lv' := [(0, _), (1, _), (2, _), (3, _), (4, _)]) hx dX4_findOf_81 (by decide) rfl rfl ?_
              refine zz_goto hx 33 dX4_findOf_84 rfl ?_
              first
                | exact ih (k + -1) k ht2 (by omega) (by omega) (step k (Or.inl ⟨rfl, by omega⟩)) (by omega)
                | exact ih (k + -1) f ht2 (by omega) (by omega) (step f (Or.inr ⟨rfl, by omega⟩)) (by omega)
            · refine zz_iload hx dX4_findOf_74 rfl ?_
              refine zz_goto hx 80 dX4_findOf_76 rfl ?_
              refine zz_istore_n (lv' := [(0, _), (1, _), (2, _), (3, _), (4, _)]) hx dX4_findOf_80 (by decide) rfl ?_
              refine zz_iinc (lv' := [(0, _), (1, _), (2, _), (3, _), (4, _)]) hx dX4_findOf_81 (by decide) rfl rfl ?_
              refine zz_goto hx 33 dX4_findOf_84 rfl ?_
              first
                | exact ih (k + -1) k ht2 (by omega) (by omega) (step k (Or.inl ⟨rfl, by omega⟩)) (by omega)
                | exact ih (k + -1) f ht2 (by omega) (by omega) (step f (Or.inr ⟨rfl, by omega⟩)) (by omega)
        · refine zz_iload hx dX4_findOf_42 rfl ?_
          refine zz_aload_n hx dX4_findOf_44 rfl ?_
          refine zm_g15 hx lf_X4_44 dX4_findOf_45 ?_
          refine zz_iload_n hx dX4_findOf_48 rfl ?_
          refine zm_l15 hx dX4_findOf_49 (by omega) (by omega) ?_
          refine zz_icmp_le hx 87 dX4_findOf_50 rfl (by omega) (by omega) (fun c50 => ?_) (fun c50 => ?_)
          · obtain ⟨fs, ft⟩ := fin (fun j j0 j1 hc => by omega)
            refine zz_aload_n hx dX4_findOf_87 rfl ?_
            refine zz_iload_n hx dX4_findOf_88 rfl ?_
            refine zz_callVi hx me_X4_becomes lk_X4_96 (c_becomes (F := Fup F 18 0) hst (mS_18 h.1) _ (by rcases ft with q | q; exact Or.inl q; exact Or.inr ⟨q.1, q.2.1⟩)) 0 rfl rfl ⟨rfl, rfl⟩ (by decide) (by decide) rfl rfl (Nat.le_of_ble_eq_true rfl) dX4_findOf_89 (fun _ _ h => h.elim) (fun r89 w89 hp89 => ?_)
            obtain ⟨rfl, rfl⟩ := hp89
            exact zz_iret hx hf dX4_findOf_92 ⟨_, rfl, 0, _, Or.inl ⟨rfl, ht2, fs, rfl⟩, ft, by rw [bec_18, becG_18]⟩ (by decide) (by decide)
          · refine zz_aload_n hx dX4_findOf_53 rfl ?_
            refine zm_g8 hx lf_X4_26 dX4_findOf_54 ?_
            refine zz_iload hx dX4_findOf_57 rfl ?_
            refine zm_l8 hx dX4_findOf_59 (by omega) (by omega) ?_
            have hvk := h.1.2.2.2.1 k (by omega) (by omega)
            refine zz_if_eq hx 79 dX4_findOf_60 rfl (by omega) (fun c60 => ?_) (fun c60 => ?_)
            · refine zz_iload_n hx dX4_findOf_79 rfl ?_
              refine zz_istore_n (lv' := [(0, _), (1, _), (2, _), (3, _), (4, _)]) hx dX4_findOf_80 (by decide) rfl ?_
              refine zz_iinc (lv' := [(0, _), (1, _), (2, _), (3, _), (4, _)]) hx dX4_findOf_81 (by decide) rfl rfl ?_
              refine zz_goto hx 33 dX4_findOf_84 rfl ?_
              first
                | exact ih (k + -1) k ht2 (by omega) (by omega) (step k (Or.inl ⟨rfl, by omega⟩)) (by omega)
                | exact ih (k + -1) f ht2 (by omega) (by omega) (step f (Or.inr ⟨rfl, by omega⟩)) (by omega)
            · refine zz_aload_n hx dX4_findOf_63 rfl ?_
              refine zm_g9 hx lf_X4_29 dX4_findOf_64 ?_
              refine zz_iload hx dX4_findOf_67 rfl ?_
              refine zm_l9 hx dX4_findOf_69 (by omega) (by omega) ?_
              refine zz_iload_n hx dX4_findOf_70 rfl ?_
              refine zz_icmp_ne hx 79 dX4_findOf_71 rfl (by omega) (by omega) (fun c71 => ?_) (fun c71 => ?_)
              · refine zz_iload_n hx dX4_findOf_79 rfl ?_
                refine zz_istore_n (lv' := [(0, _), (1, _), (2, _), (3, _), (4, _)]) hx dX4_findOf_80 (by decide) rfl ?_
                refine zz_iinc (lv' := [(0, _), (1, _), (2, _), (3, _), (4, _)]) hx dX4_findOf_81 (by decide) rfl rfl ?_
                refine zz_goto hx 33 dX4_findOf_84 rfl ?_
                first
                  | exact ih (k + -1) k ht2 (by omega) (by omega) (step k (Or.inl ⟨rfl, by omega⟩)) (by omega)
                  | exact ih (k + -1) f ht2 (by omega) (by omega) (step f (Or.inr ⟨rfl, by omega⟩)) (by omega)
              · refine zz_iload hx dX4_findOf_74 rfl ?_
                refine zz_goto hx 80 dX4_findOf_76 rfl ?_
                refine zz_istore_n (lv' := [(0, _), (1, _), (2, _), (3, _), (4, _)]) hx dX4_findOf_80 (by decide) rfl ?_
                refine zz_iinc (lv' := [(0, _), (1, _), (2, _), (3, _), (4, _)]) hx dX4_findOf_81 (by decide) rfl rfl ?_
                refine zz_goto hx 33 dX4_findOf_84 rfl ?_
                first
                  | exact ih (k + -1) k ht2 (by omega) (by omega) (step k (Or.inl ⟨rfl, by omega⟩)) (by omega)
                  | exact ih (k + -1) f ht2 (by omega) (by omega) (step f (Or.inr ⟨rfl, by omega⟩)) (by omega)
  refine zz_aload_n hx dX4_findOf_0 rfl ?_
  refine zz_iload_n hx dX4_findOf_1 rfl ?_
  refine zz_iconst hx dX4_findOf_2 ?_
  refine zz_iconst hx dX4_findOf_3 ?_
  refine zz_callSi hx ms_X4_isIn lk_X4_63 (c_isIn (a := a) hst _ _ _ (by omega) (by omega) (by omega)) ⟨rfl, rfl⟩ (by decide) (by decide) rfl rfl (Nat.le_of_ble_eq_true rfl) dX4_findOf_4 (fun _ _ h => h.elim) (fun r4 w4 hp4 => ?_)
  obtain ⟨rfl, rfl⟩ := hp4
  refine zz_ifb_eq hx 14 dX4_findOf_7 rfl (fun c7 => ?_) (fun c7 => ?_)
  · refine zz_iconst hx dX4_findOf_14 ?_
    refine zz_callVi hx me_X4_can lk_X4_70 (c_can hst _ (by omega)) 0 rfl rfl ⟨rfl, rfl⟩ (by decide) (by decide) rfl rfl (Nat.le_of_ble_eq_true rfl) dX4_findOf_15 (fun _ _ h => h.elim) (fun r15 w15 hp15 => ?_)
    obtain ⟨rfl, rfl⟩ := hp15
    refine zz_ifb_ne hx 23 dX4_findOf_18 rfl (fun z => absurd z (by decide)) (fun _ => ?_)
    refine zz_iconst hx dX4_findOf_21 ?_
    exact zz_iret hx hf dX4_findOf_22 ⟨_, rfl, 1, -1, Or.inr ⟨rfl, by omega, rfl⟩, Or.inl rfl, by rw [becF_none, becG_none]⟩ (by decide) (by decide)
  · refine zz_iconst hx dX4_findOf_10 ?_
    refine zz_goto hx 15 dX4_findOf_11 rfl ?_
    refine zz_callVi hx me_X4_can lk_X4_70 (c_can hst _ (by omega)) 0 rfl rfl ⟨rfl, rfl⟩ (by decide) (by decide) rfl rfl (Nat.le_of_ble_eq_true rfl) dX4_findOf_15 (fun _ _ h => h.elim) (fun r15 w15 hp15 => ?_)
    obtain ⟨rfl, rfl⟩ := hp15
    refine zz_ifb_ne hx 23 dX4_findOf_18 rfl (fun _ => ?_) (fun z => absurd rfl z)
    refine zz_iconst hx dX4_findOf_23 ?_
    refine zz_istore_n (lv' := [(0, _), (1, _), (2, _), (3, _)]) hx dX4_findOf_24 (by decide) rfl ?_
    refine zz_aload_n hx dX4_findOf_25 rfl ?_
    refine zm_g6 hx lf_X4_67 dX4_findOf_26 ?_
    refine zz_iconst hx dX4_findOf_29 ?_
    refine zz_isub hx dX4_findOf_30 ?_
    refine zz_istore (lv' := [(0, _), (1, _), (2, _), (3, _), (4, _)]) hx dX4_findOf_31 (by decide) rfl ?_
    exact loop ((F 6).toNat + 1) (F 6 - 1) (-1) (by omega) (by omega) (by omega) (Or.inl ⟨rfl, fun j _ _ => by omega⟩) (by omega)

set_option maxHeartbeats 4000000 in
set_option maxRecDepth 100000 in
theorem c_memberAt {l : Launch} {g : zG} {a : Nat → Nat} {F : Nat → Int} {G : Nat → Int → Int} {rest : va_W} (hst : l.stackTraces = false) {Rw : Int → List Int} (h : mI F G Rw) (r : Int) (hr : -2147483648 ≤ r ∧ r < 2147483648) (s : Int) (hs : -2147483648 ≤ s ∧ s < 2147483648) (d : Int) (hd : -2147483648 ≤ d ∧ d < 2147483648) : zM l g yX4_memberAt cX4_memberAt 5 (Option.some FieldType.int) ({ frames := 2, cells := 0, slots := 0, locals := 49 } : Room) [.ref (a 0), vi r, vi s, vi d] (mW g a F G rest) (zI fun v w => ∃ c : Int, ((c = 0 ∧ (((0 ≤ r ∧ r < F 6 ∧ G 8 r = 1) ∧ 0 ≤ s ∧ s < F 0) ∧ G 9 r = G 1 s ∧ 0 ≤ d ∧ d < ((zmem G s r (Rw s)).length : Int)) ∧ v = zat (zmem G s r (Rw s)) d) ∨ (c = 1 ∧ ¬ (((0 ≤ r ∧ r < F 6 ∧ G 8 r = 1) ∧ 0 ≤ s ∧ s < F 0) ∧ G 9 r = G 1 s ∧ 0 ≤ d ∧ d < ((zmem G s r (Rw s)).length : Int)))) ∧ w = mW g a (Fup F 18 c) G rest) zN 0 0 := by
  have hF0 := h.1.1
  have hF6 := h.1.2.1
  refine zM_of (lv0 := [(0, _), (1, _), (2, _), (3, _)]) hst rfl (by decide +kernel) (Nat.le_of_ble_eq_true rfl) rfl (fun x hx hf hn => ?_)
  have J : ∀ f : Int, (((((0 ≤ r ∧ r < F 6 ∧ G 8 r = 1) ∧ 0 ≤ s ∧ s < F 0) ∧ G 9 r = G 1 s ∧ 0 ≤ d ∧ d < ((zmem G s r (Rw s)).length : Int)) ∧ f = zat (zmem G s r (Rw s)) d ∧ 0 ≤ f ∧ f < 60) ∨ (¬ (((0 ≤ r ∧ r < F 6 ∧ G 8 r = 1) ∧ 0 ≤ s ∧ s < F 0) ∧ G 9 r = G 1 s ∧ 0 ≤ d ∧ d < ((zmem G s r (Rw s)).length : Int)) ∧ f = -1)) → Z l g ({ frames := 2, cells := 0, slots := 0, locals := 49 } : Room) 5 x 0 0 (mW g a F G rest) 52 [(0, .ref (a 0)), (1, vi r), (2, vi s), (3, vi d)] [vi f] := by
    intro f hf0
    refine zz_istore (lv' := [(0, _), (1, _), (2, _), (3, _), (4, _)]) hx dX4_memberAt_52 (by decide) rfl ?_
    refine zz_aload_n hx dX4_memberAt_54 rfl ?_
    refine zz_iload hx dX4_memberAt_55 rfl ?_
    refine zz_iconst hx dX4_memberAt_57 ?_
    refine zz_icmp_ne hx 65 dX4_memberAt_58 rfl (by omega) (by omega) (fun c58 => ?_) (fun c58 => ?_)
    · refine zz_iconst hx dX4_memberAt_65 ?_
      refine zz_callVi hx me_X4_can lk_X4_70 (c_can hst _ (by omega)) 0 rfl rfl ⟨rfl, rfl⟩ (by decide) (by decide) rfl rfl (Nat.le_of_ble_eq_true rfl) dX4_memberAt_66 (fun _ _ h => h.elim) (fun r66 w66 hp66 => ?_)
      obtain ⟨rfl, rfl⟩ := hp66
      refine zz_ifb_eq hx 77 dX4_memberAt_69 rfl (fun z => absurd rfl z) (fun _ => ?_)
      refine zz_iload hx dX4_memberAt_72 rfl ?_
      refine zz_goto hx 78 dX4_memberAt_74 rfl ?_
      exact zz_iret hx hf dX4_memberAt_78 ⟨_, rfl, by first | exact ⟨1, Or.inr ⟨rfl, by omega⟩, rfl⟩ | exact ⟨0, Or.inl ⟨rfl, by omega, by omega⟩, rfl⟩⟩ (by decide) (by decide)
    · refine zz_iconst hx dX4_memberAt_61 ?_
      refine zz_goto hx 66 dX4_memberAt_62 rfl ?_
      refine zz_callVi hx me_X4_can lk_X4_70 (c_can hst _ (by omega)) 0 rfl rfl ⟨rfl, rfl⟩ (by decide) (by decide) rfl rfl (Nat.le_of_ble_eq_true rfl) dX4_memberAt_66 (fun _ _ h => h.elim) (fun r66 w66 hp66 => ?_)
      obtain ⟨rfl, rfl⟩ := hp66
      refine zz_ifb_eq hx 77 dX4_memberAt_69 rfl (fun _ => ?_) (fun z => absurd z (by decide))
      refine zz_iconst hx dX4_memberAt_77 ?_
      exact zz_iret hx hf dX4_memberAt_78 ⟨_, rfl, by first | exact ⟨1, Or.inr ⟨rfl, by omega⟩, rfl⟩ | exact ⟨0, Or.inl ⟨rfl, by omega, by omega⟩, rfl⟩⟩ (by decide) (by decide)
  refine zz_aload_n hx dX4_memberAt_0 rfl ?_
  refine zz_iload_n hx dX4_memberAt_1 rfl ?_
  refine zz_callVi hx me_X4_isRecord lk_X4_115 (c_isRecord hst _ (by omega) hF6 (fun r h1 h2 => (h.1.2.2.2.1 r h1 h2).2.2)) 0 rfl rfl ⟨rfl, rfl⟩ (by decide) (by decide) rfl rfl (Nat.le_of_ble_eq_true rfl) dX4_memberAt_2 (fun _ _ h => h.elim) (fun r2 w2 hp2 => ?_)
  obtain ⟨rfl, rfl⟩ := hp2
  refine zz_ifb_eq hx 51 dX4_memberAt_5 rfl (fun c5 => ?_) (fun c5 => ?_)
  · refine zz_iconst hx dX4_memberAt_51 ?_
    refine J _ ?_
    first
      | exact Or.inr ⟨by omega, rfl⟩
      | (rcases Int.lt_or_le d ((zmem G s r (Rw s)).length : Int) with q | q
         · have := hz2 q
           exact Or.inl ⟨by omega, rfl, by omega, by omega⟩
         · exact Or.inr ⟨by omega, hz3 q⟩)
  · refine zz_aload_n hx dX4_memberAt_8 rfl ?_
    refine zz_iload_n hx dX4_memberAt_9 rfl ?_
    refine zz_callVi hx me_X4_isSet lk_X4_109 (c_isSet hst _ (by omega) hF0) 0 rfl rfl ⟨rfl, rfl⟩ (by decide) (by decide) rfl rfl (Nat.le_of_ble_eq_true rfl) dX4_memberAt_10 (fun _ _ h => h.elim) (fun r10 w10 hp10 => ?_)
    obtain ⟨rfl, rfl⟩ := hp10
    refine zz_ifb_eq hx 51 dX4_memberAt_13 rfl (fun c13 => ?_) (fun c13 => ?_)
    · refine zz_iconst hx dX4_memberAt_51 ?_
      refine J _ ?_
      first
        | exact Or.inr ⟨by omega, rfl⟩
        | (rcases Int.lt_or_le d ((zmem G s r (Rw s)).length : Int) with q | q
           · have := hz2 q
             exact Or.inl ⟨by omega, rfl, by omega, by omega⟩
           · exact Or.inr ⟨by omega, hz3 q⟩)
    · refine zz_aload_n hx dX4_memberAt_16 rfl ?_
      refine zm_g9 hx lf_X4_29 dX4_memberAt_17 ?_
      refine zz_iload_n hx dX4_memberAt_20 rfl ?_
      refine zm_l9 hx dX4_memberAt_21 (by omega) (by omega) ?_
      refine zz_aload_n hx dX4_memberAt_22 rfl ?_
      refine zm_g1 hx lf_X4_7 dX4_memberAt_23 ?_
      refine zz_iload_n hx dX4_memberAt_26 rfl ?_
      refine zm_l1 hx dX4_memberAt_27 (by omega) (by omega) ?_
      have hvr := h.1.2.2.2.1 r (by omega) (by omega)
      have hds := h.1.2.2.1 s (by omega) (by omega)
      refine zz_icmp_ne hx 51 dX4_memberAt_28 rfl (by omega) (by omega) (fun c28 => ?_) (fun c28 => ?_)
      · refine zz_iconst hx dX4_memberAt_51 ?_
        refine J _ ?_
        first
          | exact Or.inr ⟨by omega, rfl⟩
          | (rcases Int.lt_or_le d ((zmem G s r (Rw s)).length : Int) with q | q
             · have := hz2 q
               exact Or.inl ⟨by omega, rfl, by omega, by omega⟩
             · exact Or.inr ⟨by omega, hz3 q⟩)
      · refine zz_iload_n hx dX4_memberAt_31 rfl ?_
        refine zz_if_lt hx 51 dX4_memberAt_32 rfl (by omega) (fun c32 => ?_) (fun c32 => ?_)
        · refine zz_iconst hx dX4_memberAt_51 ?_
          refine J _ ?_
          first
            | exact Or.inr ⟨by omega, rfl⟩
            | (rcases Int.lt_or_le d ((zmem G s r (Rw s)).length : Int) with q | q
               · have := hz2 q
                 exact Or.inl ⟨by omega, rfl, by omega, by omega⟩
               · exact Or.inr ⟨by omega, hz3 q⟩)
        · refine zz_iload_n hx dX4_memberAt_35 rfl ?_
          refine zz_bipush hx dX4_memberAt_36 rfl ?_
          have hzl := zmem_len h.1 (s := s) (o := r) (by omega) (by omega)
          refine zz_icmp_ge hx 51 dX4_memberAt_38 rfl (by omega) (by omega) (fun c38 => ?_) (fun c38 => ?_)
          · refine zz_iconst hx dX4_memberAt_51 ?_
            refine J _ ?_
            first
              | exact Or.inr ⟨by omega, rfl⟩
              | (rcases Int.lt_or_le d ((zmem G s r (Rw s)).length : Int) with q | q
                 · have := hz2 q
                   exact Or.inl ⟨by omega, rfl, by omega, by omega⟩
                 · exact Or.inr ⟨by omega, hz3 q⟩)
          · refine zz_aload_n hx dX4_memberAt_41 rfl ?_
            refine zz_iload_n hx dX4_memberAt_42 rfl ?_
            refine zz_iload_n hx dX4_memberAt_43 rfl ?_
            refine zz_iload_n hx dX4_memberAt_44 rfl ?_
            refine zz_callVi hx me_X4_memberOf lk_X4_118 (c_memberOf hst h.1 _ _ _ (by omega) (by omega) (by omega) (by omega)) 0 rfl rfl ⟨rfl, rfl⟩ (by decide) (by decide) rfl rfl (Nat.le_of_ble_eq_true rfl) dX4_memberAt_45 (fun _ _ h => h.elim) (fun r45 w45 hp45 => ?_)
            obtain ⟨rfl, rfl⟩ := hp45
            have hz1 := zmem_at h.1 (s := s) (o := r) (by omega) (by omega) d
            have hz2 := fun q => zat_val h.1 (s := s) (o := r) (k := d) (by omega) (by omega) (by omega) q
            have hz3 := fun (q : ((zmem G s r (Rw s)).length : Int) ≤ d) => zat_ge q
            rw [if_pos (show 0 ≤ d by omega)]
            refine zz_goto hx 52 dX4_memberAt_48 rfl ?_
            refine J _ ?_
            first
              | exact Or.inr ⟨by omega, rfl⟩
              | (rcases Int.lt_or_le d ((zmem G s r (Rw s)).length : Int) with q | q
                 · have := hz2 q
                   exact Or.inl ⟨by omega, rfl, by omega, by omega⟩
                 · exact Or.inr ⟨by omega, hz3 q⟩)
