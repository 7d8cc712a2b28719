/-! ArrayList.add -/
def edF (c : Int → Nat → Nat) (N : Nat) : Nat → Option Nat := fun j => if j < N then some (c (j : Int) 0) else none
theorem edC_s (g : zG) (b : Nat → Nat) (c : Int → Nat → Nat) (N : Nat) (h : 0 < N) : edC g b c N = [(b 13, .inl (g.2.2.2.2.1, 10, .inr (.inr (.inr (.inr (edF c N))))))] := by
  obtain ⟨M, rfl⟩ : ∃ M, N = M + 1 := ⟨N - 1, by omega⟩
  rfl
theorem edF_up {c c' : Int → Nat → Nat} {N v : Nat} (h : ∀ i : Int, 0 ≤ i → i < (N : Int) → c' i 0 = c i 0) (hv : c' (N : Int) 0 = v) : va_up (edF c N) N (some v) = edF c' (N + 1) := funext fun j => by
  by_cases e : j = N
  · rw [e, va_up_self]
    unfold edF
    rw [if_pos (by omega), hv]
  · rw [va_up_ne _ _ e]
    unfold edF
    by_cases e2 : j < N
    · rw [if_pos e2, if_pos (by omega), h j (by omega) (by omega)]
    · rw [if_neg e2, if_neg (by omega)]
set_option maxHeartbeats 4000000 in
set_option maxRecDepth 100000 in
theorem c_grow1 {l : Launch} {g : zG} {b : Nat → Nat} {I : Nat → Int} {Q : Nat → Int → Int} {X : va_W} (hst : l.stackTraces = false) (hb : b 13 = g.2.2.2.2.2) : zM l g yJx4a65c_grow_92f84 cJx4a65c_grow_92f84 4 (some (.array (.object "java/lang/Object"))) ({ frames := 1, cells := 1, slots := 10, locals := 21 } : Room) [.ref (b 1), vi 1] (dF g b I Q X) (zA fun r w1 => w1 = dF g (fun k => if k = 13 then r else b k) I Q (X ++ [(r, .inl (g.2.2.2.2.1, 10, .inr (.inr (.inr (.inr (fun _ => none))))))])) zN 1 10 := by
  refine zM_of (lv0 := [(0, _), (1, _)]) hst rfl (by decide +kernel) (Nat.le_of_ble_eq_true rfl) rfl (fun x hx hf hn => ?_)
  refine zz_aload_n hx dJx4a65c_grow_92f84_0 rfl ?_
  refine zl_g1 hx lf_Jx4a65c_9 dJx4a65c_grow_92f84_1 ?_
  rw [hb]
  refine zz_lenE hx dJx4a65c_grow_92f84_4 ?_
  refine zz_istore_n (lv' := [(0, _), (1, _), (2, _)]) hx dJx4a65c_grow_92f84_5 (by decide) rfl ?_
  refine zz_iload_n hx dJx4a65c_grow_92f84_6 rfl ?_
  refine zz_if_gt hx 20 dJx4a65c_grow_92f84_7 rfl (by decide) (fun z => absurd z (by decide)) (fun _ => ?_)
  refine zz_aload_n hx dJx4a65c_grow_92f84_10 rfl ?_
  refine zl_g1 hx lf_Jx4a65c_9 dJx4a65c_grow_92f84_11 ?_
  rw [hb]
  refine zz_getE hx (zT_dec (by decide +kernel)) dJx4a65c_grow_92f84_14 ?_
  refine zz_acmpeq hx 45 dJx4a65c_grow_92f84_17 rfl (fun _ => ?_) (fun z => absurd rfl z)
  refine zz_aload_n hx dJx4a65c_grow_92f84_45 rfl ?_
  refine zz_bipush hx dJx4a65c_grow_92f84_46 rfl ?_
  refine zz_iload_n hx dJx4a65c_grow_92f84_48 rfl ?_
  refine zz_max hx lk_Jx4a65c_79 (by decide) (by decide) (by decide) ⟨⟨Nat.le_of_ble_eq_true rfl, Nat.le_of_ble_eq_true rfl⟩, Nat.le_of_ble_eq_true rfl, Nat.le_of_ble_eq_true rfl⟩ dJx4a65c_grow_92f84_49 ?_
  refine zz_newq (N := 10) hx lc_Jx4a65c_7 (by decide) (by decide) dJx4a65c_grow_92f84_52 (fun r => ?_)
  refine zz_dupx1 hx dJx4a65c_grow_92f84_55 rfl rfl ?_
  refine zz_putv (fs := [vi (I 4), .ref (b 13), vi (I 5)]) hx lf_Jx4a65c_9 rfl tyJx4a65c tyJx4a65c_ok nmJx4a65c 1 rfl rfl rfl rfl (Nat.le_of_ble_eq_true rfl) dJx4a65c_grow_92f84_56 rfl ?_
  exact zz_aretA hx hf dJx4a65c_grow_92f84_59 ⟨r, rfl, rfl⟩ (by decide) (by decide)

set_option maxHeartbeats 4000000 in
set_option maxRecDepth 100000 in
theorem c_grow0 {l : Launch} {g : zG} {b : Nat → Nat} {I : Nat → Int} {Q : Nat → Int → Int} {X : va_W} (hst : l.stackTraces = false) (hb : b 13 = g.2.2.2.2.2) (h5 : I 5 = 0) : zM l g yJx4a65c_grow_d5877 cJx4a65c_grow_d5877 1 (some (.array (.object "java/lang/Object"))) ({ frames := 2, cells := 1, slots := 10, locals := 44 } : Room) [.ref (b 1)] (dF g b I Q X) (zA fun r w1 => w1 = dF g (fun k => if k = 13 then r else b k) I Q (X ++ [(r, .inl (g.2.2.2.2.1, 10, .inr (.inr (.inr (.inr (fun _ => none))))))])) zN 1 10 := by
  refine zM_of (lv0 := [(0, _)]) hst rfl (by decide +kernel) (Nat.le_of_ble_eq_true rfl) rfl (fun x hx hf hn => ?_)
  refine zz_aload_n hx dJx4a65c_grow_d5877_0 rfl ?_
  refine zz_aload_n hx dJx4a65c_grow_d5877_1 rfl ?_
  refine zl_g2 hx lf_Jx4a65c_48 dJx4a65c_grow_d5877_2 ?_
  rw [h5]
  refine zz_iconst hx dJx4a65c_grow_d5877_5 ?_
  refine zz_iadd hx dJx4a65c_grow_d5877_6 ?_
  refine zz_callVa hx me_Jx4a65c_grow_92f84 lk_Jx4a65c_69 (c_grow1 hst hb) 1 rfl rfl ⟨rfl, rfl⟩ (by decide) (by decide) rfl rfl (Nat.le_of_ble_eq_true rfl) dJx4a65c_grow_d5877_7 (fun _ _ h => h.elim) (fun r w7 hp7 => ?_)
  exact zz_aretA hx hf dJx4a65c_grow_d5877_10 ⟨r, rfl, hp7⟩ (by decide) (by decide)

set_option maxHeartbeats 4000000 in
set_option maxRecDepth 100000 in
theorem c_add3 {l : Launch} {g : zG} {b : Nat → Nat} {I : Nat → Int} {Q : Nat → Int → Int} {c c' : Int → Nat → Nat} {Y : va_W} {N j v : Nat} {fs : List Value} (h5 : I 5 = (N : Int)) (hN : N < 10) (hb : N = 0 → b 13 = g.2.2.2.2.2) (hv : Y[j]? = some (v, .inr (3, fs))) (hc : ∀ i : Int, 0 ≤ i → i < (N : Int) → c' i 0 = c i 0) (hcv : c' (N : Int) 0 = v) (hst : l.stackTraces = false) : zM l g yJx4a65c_add_72be8 cJx4a65c_add_72be8 4 none ({ frames := 3, cells := 1, slots := 10, locals := 64 } : Room) [.ref (b 1), .ref v, .ref (b 13), vi (N : Int)] (dF g b I Q (edC g b c N ++ Y)) (zV fun w1 => ∃ b1 : Nat → Nat, (∀ k : Nat, k ≠ 13 → b1 k = b k) ∧ w1 = dF g b1 (Fup I 5 ((N : Int) + 1)) Q (edC g b1 c' (N + 1) ++ Y)) zN 1 10 := by
  refine zM_of (lv0 := [(0, _), (1, _), (2, _), (3, _)]) hst rfl (by decide +kernel) (Nat.le_of_ble_eq_true rfl) rfl (fun x hx hf hn => ?_)
  have fin : ∀ (k n : Nat) (b1 : Nat → Nat) (F : Nat → Option Nat) (lv9 : List (Nat × Value)), k ≤ 1 → n ≤ 10 → (∀ i : Nat, i ≠ 13 → b1 i = b i) → va_up F N (some v) = edF c' (N + 1) → lv9 = [(0, .ref (b 1)), (1, .ref v), (2, .ref (b1 13)), (3, vi (N : Int))] → Z l g ({ frames := 3, cells := 1, slots := 10, locals := 64 } : Room) 4 x k n (dF g b1 I Q ((b1 13, .inl (g.2.2.2.2.1, 10, .inr (.inr (.inr (.inr F))))) :: Y)) 11 lv9 [] := by
    intro k n b1 F lv9 hk hn9 hb1 hF hlv
    subst hlv
    refine zz_aload_n hx dJx4a65c_add_72be8_11 rfl ?_
    refine zz_iload_n hx dJx4a65c_add_72be8_12 rfl ?_
    refine zz_aload_n hx dJx4a65c_add_72be8_13 rfl ?_
    refine zz_aast (w := dF g b1 I Q ((b1 13, .inl (g.2.2.2.2.1, 10, .inr (.inr (.inr (.inr F))))) :: Y)) hx 13 (j + 14) rfl (by show Y[j]? = _; exact hv) rfl (by decide +kernel) (by decide) (by omega) (by omega) dJx4a65c_add_72be8_14 ?_
    rw [Int.toNat_natCast, hF]
    refine zz_eq (w' := dF g b1 I Q (edC g b1 c' (N + 1) ++ Y)) (by rw [edC_s g b1 c' (N + 1) (by omega)]; rfl) rfl ?_
    rw [← hb1 1 (by decide)]
    refine zz_aload_n hx dJx4a65c_add_72be8_15 rfl ?_
    refine zz_iload_n hx dJx4a65c_add_72be8_16 rfl ?_
    refine zz_iconst hx dJx4a65c_add_72be8_17 ?_
    refine zz_iadd hx dJx4a65c_add_72be8_18 ?_
    refine zz_put (fs := [vi (I 4), .ref (b1 13), vi (I 5)]) hx lf_Jx4a65c_48 rfl tyJx4a65c tyJx4a65c_ok nmJx4a65c 1 rfl rfl rfl (Nat.le_of_ble_eq_true rfl) dJx4a65c_add_72be8_19 (w' := dF g b1 (Fup I 5 ((N : Int) + 1)) Q (edC g b1 c' (N + 1) ++ Y)) rfl ?_
    exact zz_vret hx hf dJx4a65c_add_72be8_22 ⟨rfl, b1, hb1, rfl⟩ hk hn9
  refine zz_iload_n hx dJx4a65c_add_72be8_0 rfl ?_
  refine zz_aload_n hx dJx4a65c_add_72be8_1 rfl ?_
  rcases Nat.eq_zero_or_pos N with h0 | h0
  · subst h0
    have hbe := hb rfl
    rw [hbe]
    refine zz_lenE hx dJx4a65c_add_72be8_2 ?_
    refine zz_icmp_ne hx 11 dJx4a65c_add_72be8_3 rfl (by decide) (by decide) (fun z => absurd rfl z) (fun _ => ?_)
    refine zz_aload_n hx dJx4a65c_add_72be8_6 rfl ?_
    refine zz_callVa hx me_Jx4a65c_grow_d5877 lk_Jx4a65c_129 (c_grow0 hst hbe h5) 1 rfl rfl ⟨rfl, rfl⟩ (by decide) (by decide) rfl rfl (Nat.le_of_ble_eq_true rfl) dJx4a65c_add_72be8_7 (fun _ _ h => h.elim) (fun r w7 hp7 => ?_)
    subst hp7
    refine zz_astore_n (lv' := [(0, _), (1, _), (2, _), (3, _)]) hx dJx4a65c_add_72be8_10 (by decide) rfl ?_
    refine zz_perm (w' := dF g (fun k => if k = 13 then r else b k) I Q ((r, .inl (g.2.2.2.2.1, 10, .inr (.inr (.inr (.inr (fun _ => none)))))) :: Y)) ?_ ?_
    · exact List.Perm.append_left (dF g (fun k => if k = 13 then r else b k) I Q []) (List.perm_append_comm (l₁ := Y))
    · exact fin _ _ (fun k => if k = 13 then r else b k) (fun _ => none) _ (by decide) (by decide) (fun i hi => if_neg hi) (edF_up (c := c) hc hcv) rfl
  · refine zz_eq (w' := dF g b I Q ((b 13, .inl (g.2.2.2.2.1, 10, .inr (.inr (.inr (.inr (edF c N)))))) :: Y)) (by rw [edC_s g b c N h0]; rfl) rfl ?_
    refine zz_lenq hx 13 rfl dJx4a65c_add_72be8_2 ?_
    refine zz_icmp_ne hx 11 dJx4a65c_add_72be8_3 rfl (by omega) (by decide) (fun _ => ?_) (fun z => absurd z (by show (N : Int) ≠ ((10 : Nat) : Int); omega))
    exact fin 0 0 b (edF c N) _ (by decide) (by decide) (fun _ _ => rfl) (edF_up hc hcv) rfl

set_option maxHeartbeats 4000000 in
set_option maxRecDepth 100000 in
theorem c_add {l : Launch} {g : zG} {b : Nat → Nat} {I : Nat → Int} {Q : Nat → Int → Int} {c c' : Int → Nat → Nat} {Y : va_W} {N j v : Nat} {fs : List Value} (h5 : I 5 = (N : Int)) (hN : N < 10) (hb : N = 0 → b 13 = g.2.2.2.2.2) (hv : Y[j]? = some (v, .inr (3, fs))) (hc : ∀ i : Int, 0 ≤ i → i < (N : Int) → c' i 0 = c i 0) (hcv : c' (N : Int) 0 = v) (hst : l.stackTraces = false) : zM l g yJx4a65c_add_9ea2d cJx4a65c_add_9ea2d 2 (Option.some FieldType.boolean) ({ frames := 4, cells := 1, slots := 10, locals := 87 } : Room) [.ref (b 1), .ref v] (dF g b I Q (edC g b c N ++ Y)) (zI fun _ w1 => ∃ b1 : Nat → Nat, (∀ k : Nat, k ≠ 13 → b1 k = b k) ∧ w1 = dF g b1 (Fup (Fup I 4 (I 4 + 1)) 5 ((N : Int) + 1)) Q (edC g b1 c' (N + 1) ++ Y)) zN 1 10 := by
  refine zM_of (lv0 := [(0, _), (1, _)]) hst rfl (by decide +kernel) (Nat.le_of_ble_eq_true rfl) rfl (fun x hx hf hn => ?_)
  refine zz_aload_n hx dJx4a65c_add_9ea2d_0 rfl ?_
  refine zz_dup hx dJx4a65c_add_9ea2d_1 rfl ?_
  refine zz_getR (fk := 0) (N := 3) (fs := [vi (I 4), .ref (b 13), vi (I 5)]) (C := RJx4a65c) (T := TJx4a65c) (ref := "java/util/ArrayList") hx (zT_dec (by decide +kernel)) (Or.inr (zT_dec (by decide +kernel))) (by decide) fw_Jx4a65c rfl 1 rfl rfl dJx4a65c_add_9ea2d_2 ?_
  refine zz_iconst hx dJx4a65c_add_9ea2d_5 ?_
  refine zz_iadd hx dJx4a65c_add_9ea2d_6 ?_
  refine zz_putR (fk := 0) (N := 3) (fs := [vi (I 4), .ref (b 13), vi (I 5)]) (C := RJx4a65c) (T := TJx4a65c) (ref := "java/util/ArrayList") hx (zT_dec (by decide +kernel)) (Or.inr (zT_dec (by decide +kernel))) (by decide) fw_Jx4a65c rfl tyJx4a65c tyJx4a65c_ok nmJx4a65c 1 rfl rfl rfl rfl (Nat.le_of_ble_eq_true rfl) dJx4a65c_add_9ea2d_7 (w' := dF g b (Fup I 4 (I 4 + 1)) Q (edC g b c N ++ Y)) rfl ?_
  refine zz_aload_n hx dJx4a65c_add_9ea2d_10 rfl ?_
  refine zz_aload_n hx dJx4a65c_add_9ea2d_11 rfl ?_
  refine zz_aload_n hx dJx4a65c_add_9ea2d_12 rfl ?_
  refine zl_g1 hx lf_Jx4a65c_9 dJx4a65c_add_9ea2d_13 ?_
  refine zz_aload_n hx dJx4a65c_add_9ea2d_16 rfl ?_
  refine zl_g2 hx lf_Jx4a65c_48 dJx4a65c_add_9ea2d_17 ?_
  have h5' : (Fup I 4 (I 4 + 1)) 5 = (N : Int) := by rw [Fup_n _ _ (by decide)]; exact h5
  rw [h5']
  refine zz_callVv hx me_Jx4a65c_add_72be8 lk_Jx4a65c_131 (c_add3 h5' hN hb hv hc hcv hst) 1 rfl rfl ⟨rfl, rfl⟩ (by decide) (by decide) rfl rfl (Nat.le_of_ble_eq_true rfl) dJx4a65c_add_9ea2d_20 (fun _ _ h => h.elim) (fun w20 hp20 => ?_)
  refine zz_iconst hx dJx4a65c_add_9ea2d_23 ?_
  exact zz_zret hx hf dJx4a65c_add_9ea2d_24 (Or.inr rfl) ⟨_, rfl, hp20⟩ (by decide) (by decide)
