/-! the class: all its set types -/
def cS (g : zG) (c : Int → Nat → Nat) (P : Int → Nat → Int) (T : Int → Nat → Int → Int) : Int → Nat → va_W
  | _, 0 => []
  | i, n + 1 => sC g (c i) (P i) (T i) (cS g c P T (i + 1) n)
def edC (g : zG) (b : Nat → Nat) (c : Int → Nat → Nat) : Nat → va_W
  | 0 => []
  | n + 1 => [(b 13, .inl (g.2.2.2.2.1, 10, .inr (.inr (.inr (.inr (fun j : Nat => if j < n + 1 then some (c (j : Int) 0) else none))))))]
abbrev wD (g : zG) (b : Nat → Nat) (c : Int → Nat → Nat) (I : Nat → Int) (Q : Nat → Int → Int) (P : Int → Nat → Int) (T : Int → Nat → Int → Int) (N : Nat) (rest : va_W) : va_W := dF g b I Q (edC g b c N ++ (cS g c P T 0 N ++ rest))
def upI {α : Type} (f : Int → α) (s : Int) (v : α) : Int → α := fun j => if j = s then v else f j
theorem upI_s {α : Type} (f : Int → α) (s : Int) (v : α) : upI f s v s = v := if_pos rfl
theorem upI_n {α : Type} (f : Int → α) {s j : Int} (v : α) (h : j ≠ s) : upI f s v j = f j := if_neg h
theorem upI_id {α : Type} (f : Int → α) (s : Int) : upI f s (f s) = f := funext fun j => by
  by_cases c : j = s
  · rw [c, upI_s]
  · rw [upI_n _ _ c]
theorem upI_up {α : Type} (f : Int → α) (s : Int) (u v : α) : upI (upI f s u) s v = upI f s v := funext fun j => by
  by_cases c : j = s
  · rw [c, upI_s, upI_s]
  · rw [upI_n _ _ c, upI_n _ _ c, upI_n _ _ c]
theorem cS_congr {g : zG} {c : Int → Nat → Nat} {P P' : Int → Nat → Int} {T T' : Int → Nat → Int → Int} : ∀ (n : Nat) (i : Int), (∀ j : Int, i ≤ j → j < i + (n : Int) → P j = P' j ∧ T j = T' j) → cS g c P T i n = cS g c P' T' i n
  | 0, i, h => rfl
  | n + 1, i, h => by
    show sC g (c i) (P i) (T i) _ = sC g (c i) (P' i) (T' i) _
    rw [(h i (by omega) (by omega)).1, (h i (by omega) (by omega)).2, cS_congr n (i + 1) (fun j h1 h2 => h j (by omega) (by omega))]
theorem sC_app (g : zG) (c : Nat → Nat) (P : Nat → Int) (T : Nat → Int → Int) (post rest : va_W) : sC g c P T post ++ rest = sC g c P T (post ++ rest) := rfl
theorem cS_split {g : zG} {c : Int → Nat → Nat} {P : Int → Nat → Int} {T : Int → Nat → Int → Int} (rest : va_W) : ∀ (k : Nat) (i : Int) (m : Nat), cS g c P T i (k + 1 + m) ++ rest = cS g c P T i k ++ sC g (c (i + (k : Int))) (P (i + (k : Int))) (T (i + (k : Int))) (cS g c P T (i + (k : Int) + 1) m ++ rest)
  | 0, i, m => by
    rw [show 0 + 1 + m = m + 1 by omega, show i + ((0 : Nat) : Int) = i by omega]
    rfl
  | k + 1, i, m => by
    rw [show k + 1 + 1 + m = (k + 1 + m) + 1 by omega]
    show sC g (c i) (P i) (T i) (cS g c P T (i + 1) (k + 1 + m)) ++ rest = sC g (c i) (P i) (T i) (cS g c P T (i + 1) k) ++ _
    rw [sC_app, sC_app, cS_split rest k (i + 1) m, show i + 1 + (k : Int) = i + ((k + 1 : Nat) : Int) by omega]
section WD
variable {g : zG} {b : Nat → Nat} {c : Int → Nat → Nat} {I : Nat → Int} {Q : Nat → Int → Int} {P : Int → Nat → Int} {T : Int → Nat → Int → Int} {N : Nat} {rest : va_W}
theorem wD_at {s : Int} (h0 : 0 ≤ s) (h1 : s < (N : Int)) : wD g b c I Q P T N rest = sW g b I Q (edC g b c N ++ cS g c P T 0 s.toNat) (c s) (P s) (T s) (cS g c P T (s + 1) (N - 1 - s.toNat) ++ rest) := by
  have h := cS_split (g := g) (c := c) (P := P) (T := T) rest s.toNat 0 (N - 1 - s.toNat)
  rw [show s.toNat + 1 + (N - 1 - s.toNat) = N by omega, show (0 : Int) + (s.toNat : Int) = s by omega] at h
  show dF g b I Q (edC g b c N ++ (cS g c P T 0 N ++ rest)) = dF g b I Q _
  rw [h, List.append_assoc]
theorem wD_put {s : Int} (h0 : 0 ≤ s) (h1 : s < (N : Int)) (p : Nat → Int) (t : Nat → Int → Int) : sW g b I Q (edC g b c N ++ cS g c P T 0 s.toNat) (c s) p t (cS g c P T (s + 1) (N - 1 - s.toNat) ++ rest) = wD g b c I Q (upI P s p) (upI T s t) N rest := by
  rw [wD_at h0 h1, upI_s, upI_s, cS_congr (P := P) (T := T) (P' := upI P s p) (T' := upI T s t) s.toNat 0 (fun j _ h3 => by rw [upI_n _ _ (by omega), upI_n _ _ (by omega)]; exact ⟨rfl, rfl⟩), cS_congr (P := P) (T := T) (P' := upI P s p) (T' := upI T s t) (N - 1 - s.toNat) (s + 1) (fun j h2 _ => by rw [upI_n _ _ (by omega), upI_n _ _ (by omega)]; exact ⟨rfl, rfl⟩)]
theorem wD_ed (hN : 0 < N) : (wD g b c I Q P T N rest)[13]? = some (b 13, .inl (g.2.2.2.2.1, 10, .inr (.inr (.inr (.inr (fun j : Nat => if j < N then some (c (j : Int) 0) else none)))))) := by
  obtain ⟨M, rfl⟩ : ∃ M, N = M + 1 := ⟨N - 1, by omega⟩
  rfl
end WD

set_option maxHeartbeats 4000000 in
set_option maxRecDepth 100000 in
theorem k_J3_checkIndex_8e157 {l : Launch} {g : zG} {w : va_W} (hst : l.stackTraces = false) (i n : Int) (h0 : 0 ≤ i) (h1 : i < n) (h2 : n < 2147483648) : zM l g yJ3_checkIndex_8e157 cJ3_checkIndex_8e157 3 (Option.some FieldType.int) ({ frames := 0, cells := 0, slots := 0, locals := 0 } : Room) [vi i, vi n, .null] w (zI fun v w1 => v = i ∧ w1 = w) zN 0 0 := by
  refine zM_of (lv0 := [(0, _), (1, _), (2, _)]) hst rfl (by decide +kernel) (Nat.le_of_ble_eq_true rfl) rfl (fun x hx hf hn => ?_)
  refine zz_iload_n hx dJ3_checkIndex_8e157_0 rfl ?_
  refine zz_if_lt hx 9 dJ3_checkIndex_8e157_1 rfl (by omega) (fun c1 => ?_) (fun c1 => ?_)
  · exfalso; omega
  · refine zz_iload_n hx dJ3_checkIndex_8e157_4 rfl ?_
    refine zz_iload_n hx dJ3_checkIndex_8e157_5 rfl ?_
    refine zz_icmp_lt hx 16 dJ3_checkIndex_8e157_6 rfl (by omega) (by omega) (fun c6 => ?_) (fun c6 => ?_)
    · refine zz_iload_n hx dJ3_checkIndex_8e157_16 rfl ?_
      exact zz_iret hx hf dJ3_checkIndex_8e157_17 ⟨_, rfl, rfl, rfl⟩ (by decide) (by decide)
    · exfalso; omega

set_option maxHeartbeats 4000000 in
set_option maxRecDepth 100000 in
theorem k_J15_checkIndex_7cf53 {l : Launch} {g : zG} {w : va_W} (hst : l.stackTraces = false) (i n : Int) (h0 : 0 ≤ i) (h1 : i < n) (h2 : n < 2147483648) : zM l g yJ15_checkIndex_7cf53 cJ15_checkIndex_7cf53 2 (Option.some FieldType.int) ({ frames := 1, cells := 0, slots := 0, locals := 22 } : Room) [vi i, vi n] w (zI fun v w1 => v = i ∧ w1 = w) zN 0 0 := by
  refine zM_of (lv0 := [(0, _), (1, _)]) hst rfl (by decide +kernel) (Nat.le_of_ble_eq_true rfl) rfl (fun x hx hf hn => ?_)
  refine zz_iload_n hx dJ15_checkIndex_7cf53_0 rfl ?_
  refine zz_iload_n hx dJ15_checkIndex_7cf53_1 rfl ?_
  refine zz_null hx dJ15_checkIndex_7cf53_2 ?_
  refine zz_callSi hx ms_J3_checkIndex_8e157 lk_J15_105 (k_J3_checkIndex_8e157 hst _ _ h0 h1 h2) ⟨rfl, rfl⟩ (by decide) (by decide) rfl rfl (Nat.le_of_ble_eq_true rfl) dJ15_checkIndex_7cf53_3 (fun _ _ h => h.elim) (fun r3 w3 hp3 => ?_)
  obtain ⟨rfl, rfl⟩ := hp3
  exact zz_iret hx hf dJ15_checkIndex_7cf53_6 ⟨_, rfl, rfl, rfl⟩ (by decide) (by decide)

set_option maxHeartbeats 4000000 in
set_option maxRecDepth 100000 in
theorem k_Jx4a65c_size_8abf5 {l : Launch} {g : zG} {b : Nat → Nat} {I : Nat → Int} {Q : Nat → Int → Int} {rest : va_W} (hst : l.stackTraces = false)  : zM l g yJx4a65c_size_8abf5 cJx4a65c_size_8abf5 1 (Option.some FieldType.int) ({ frames := 0, cells := 0, slots := 0, locals := 0 } : Room) [.ref (b 1)] (dF g b I Q rest) (zI fun v w => v = I 5 ∧ w = (dF g b I Q rest)) zN 0 0 := by
  refine zM_of (lv0 := [(0, _)]) hst rfl (by decide +kernel) (Nat.le_of_ble_eq_true rfl) rfl (fun x hx hf hn => ?_)
  refine zz_aload_n hx dJx4a65c_size_8abf5_0 rfl ?_
  refine zl_g2 hx lf_Jx4a65c_48 dJx4a65c_size_8abf5_1 ?_
  exact zz_iret hx hf dJx4a65c_size_8abf5_4 ⟨_, rfl, rfl, rfl⟩ (by decide) (by decide)

set_option maxHeartbeats 4000000 in
set_option maxRecDepth 100000 in
theorem k_Jx4a65c_elementData_915e3 {l : Launch} {g : zG} {b : Nat → Nat} {c : Int → Nat → Nat} {I : Nat → Int} {Q : Nat → Int → Int} {P : Int → Nat → Int} {T : Int → Nat → Int → Int} {N : Nat} {rest : va_W} (hst : l.stackTraces = false) (hN : N ≤ 6) (s : Int) (h0 : 0 ≤ s) (h1 : s < (N : Int)) : zM l g yJx4a65c_elementData_915e3 cJx4a65c_elementData_915e3 2 (Option.some (FieldType.object "java/lang/Object")) ({ frames := 0, cells := 0, slots := 0, locals := 0 } : Room) [.ref (b 1), vi s] (wD g b c I Q P T N rest) (zA fun r w => r = c s 0 ∧ w = (wD g b c I Q P T N rest)) zN 0 0 := by
  refine zM_of (lv0 := [(0, _), (1, _)]) hst rfl (by decide +kernel) (Nat.le_of_ble_eq_true rfl) rfl (fun x hx hf hn => ?_)
  refine zz_aload_n hx dJx4a65c_elementData_915e3_0 rfl ?_
  refine zl_g1 hx lf_Jx4a65c_9 dJx4a65c_elementData_915e3_1 ?_
  refine zz_iload_n hx dJx4a65c_elementData_915e3_4 rfl ?_
  refine zz_aald hx 13 (wD_ed (by omega)) (by decide) h0 (by omega) (r := c s 0) ?_ dJx4a65c_elementData_915e3_5 ?_
  · show (if s.toNat < N then some (c (s.toNat : Int) 0) else none) = _
    rw [if_pos (by omega), Int.toNat_of_nonneg h0]
  exact zz_aret hx hf dJx4a65c_elementData_915e3_6 ⟨_, rfl, rfl, rfl⟩ (by decide) (by decide)

set_option maxHeartbeats 4000000 in
set_option maxRecDepth 100000 in
theorem k_Jx4a65c_get_915e3 {l : Launch} {g : zG} {b : Nat → Nat} {c : Int → Nat → Nat} {I : Nat → Int} {Q : Nat → Int → Int} {P : Int → Nat → Int} {T : Int → Nat → Int → Int} {N : Nat} {rest : va_W} (hst : l.stackTraces = false) (hI5 : I 5 = (N : Int)) (hN : N ≤ 6) (s : Int) (h0 : 0 ≤ s) (h1 : s < (N : Int)) : zM l g yJx4a65c_get_915e3 cJx4a65c_get_915e3 2 (Option.some (FieldType.object "java/lang/Object")) ({ frames := 2, cells := 0, slots := 0, locals := 43 } : Room) [.ref (b 1), vi s] (wD g b c I Q P T N rest) (zA fun r w => r = c s 0 ∧ w = (wD g b c I Q P T N rest)) zN 0 0 := by
  refine zM_of (lv0 := [(0, _), (1, _)]) hst rfl (by decide +kernel) (Nat.le_of_ble_eq_true rfl) rfl (fun x hx hf hn => ?_)
  refine zz_iload_n hx dJx4a65c_get_915e3_0 rfl ?_
  refine zz_aload_n hx dJx4a65c_get_915e3_1 rfl ?_
  refine zl_g2 hx lf_Jx4a65c_48 dJx4a65c_get_915e3_2 ?_
  refine zz_callSi hx ms_J15_checkIndex_7cf53 lk_Jx4a65c_118 (k_J15_checkIndex_7cf53 hst _ _ h0 (by omega) (by omega)) ⟨rfl, rfl⟩ (by decide) (by decide) rfl rfl (Nat.le_of_ble_eq_true rfl) dJx4a65c_get_915e3_5 (fun _ _ h => h.elim) (fun r5 w5 hp5 => ?_)
  obtain ⟨rfl, rfl⟩ := hp5
  refine zz_pop hx dJx4a65c_get_915e3_8 rfl ?_
  refine zz_aload_n hx dJx4a65c_get_915e3_9 rfl ?_
  refine zz_iload_n hx dJx4a65c_get_915e3_10 rfl ?_
  refine zz_callVa hx me_Jx4a65c_elementData_915e3 lk_Jx4a65c_123 (k_Jx4a65c_elementData_915e3 hst hN _ h0 h1) 1 rfl rfl ⟨rfl, rfl⟩ (by decide) (by decide) rfl rfl (Nat.le_of_ble_eq_true rfl) dJx4a65c_get_915e3_11 (fun _ _ h => h.elim) (fun r11 w11 hp11 => ?_)
  obtain ⟨rfl, rfl⟩ := hp11
  exact zz_aret hx hf dJx4a65c_get_915e3_14 ⟨_, rfl, rfl, rfl⟩ (by decide) (by decide)
