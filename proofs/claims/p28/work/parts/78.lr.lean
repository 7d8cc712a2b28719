/-! rows of the law's own -/
abbrev rA (g : zG) (a n : Nat) (f : Int → Int) : Nat × va_E := (a, .inl (g.2.1, zar n f))
section ZLR
variable {l : Launch} {g : zG} {R : Room} {nL : Nat} {x : zX} {k n : Nat} {w : va_W} {pc : Nat} {lv : List (Nat × Value)} {st : List Value} {own : String} {cc : ByteArray} {b : Nat → Nat} {c : Int → Nat → Nat} {I : Nat → Int} {Q : Nat → Int → Int} {P : Int → Nat → Int} {T : Int → Nat → Int → Int} {N : Nat} {rest : va_W}
theorem wD_app : wD g b c I Q P T N rest = wD g b c I Q P T N [] ++ rest := by
  show dF g b I Q _ = dF g b I Q (_ ++ (_ ++ [])) ++ rest
  rw [List.append_nil]
  show _ = dF g b I Q ((_ ++ _) ++ rest)
  rw [List.append_assoc]
theorem wR_at (j : Nat) : (wD g b c I Q P T N rest)[(wD g b c I Q P T N []).length + j]? = rest[j]? := by
  rw [wD_app, List.getElem?_append_right (Nat.le_add_right _ _), Nat.add_sub_cancel_left]
theorem wR_set (j : Nat) (e : Nat × va_E) : (wD g b c I Q P T N rest).set ((wD g b c I Q P T N []).length + j) e = wD g b c I Q P T N (rest.set j e) := by
  rw [wD_app, List.set_append_right _ _ (Nat.le_add_right _ _), Nat.add_sub_cancel_left, ← wD_app]
theorem zr_ld (hx : zOK l g nL x own cc) (j : Nat) {a M : Nat} {f : Int → Int} (he : rest[j]? = some (rA g a M f)) (hM : M < 2147483648) {i : Int} (h0 : 0 ≤ i) (h1 : i < (M : Int)) (d : decode cc pc = .ok (.iaload, 1)) (kk : Z l g R nL x k n (wD g b c I Q P T N rest) (pc + 1) lv (vi (f i) :: st)) : Z l g R nL x k n (wD g b c I Q P T N rest) pc lv (vi i :: .ref a :: st) := zz_iald hx _ ((wR_at j).trans he) hM h0 h1 d kk
theorem zr_st0 (hx : zOK l g nL x own cc) {r : va_W} {a M : Nat} {f : Int → Int} (hM : M < 2147483648) {i v : Int} (h0 : 0 ≤ i) (h1 : i < (M : Int)) (d : decode cc pc = .ok (.iastore, 1)) (kk : Z l g R nL x k n (wD g b c I Q P T N (rA g a M (zup f i v) :: r)) (pc + 1) lv st) : Z l g R nL x k n (wD g b c I Q P T N (rA g a M f :: r)) pc lv (vi v :: vi i :: .ref a :: st) := zz_iast hx _ ((wR_at 0).trans rfl) hM h0 h1 d (wR_set 0 _) kk
theorem zr_st1 (hx : zOK l g nL x own cc) {y0 : Nat × va_E} {r : va_W} {a M : Nat} {f : Int → Int} (hM : M < 2147483648) {i v : Int} (h0 : 0 ≤ i) (h1 : i < (M : Int)) (d : decode cc pc = .ok (.iastore, 1)) (kk : Z l g R nL x k n (wD g b c I Q P T N (y0 :: rA g a M (zup f i v) :: r)) (pc + 1) lv st) : Z l g R nL x k n (wD g b c I Q P T N (y0 :: rA g a M f :: r)) pc lv (vi v :: vi i :: .ref a :: st) := zz_iast hx _ ((wR_at 1).trans rfl) hM h0 h1 d (wR_set 1 _) kk
theorem zr_st2 (hx : zOK l g nL x own cc) {y0 y1 : Nat × va_E} {r : va_W} {a M : Nat} {f : Int → Int} (hM : M < 2147483648) {i v : Int} (h0 : 0 ≤ i) (h1 : i < (M : Int)) (d : decode cc pc = .ok (.iastore, 1)) (kk : Z l g R nL x k n (wD g b c I Q P T N (y0 :: y1 :: rA g a M (zup f i v) :: r)) (pc + 1) lv st) : Z l g R nL x k n (wD g b c I Q P T N (y0 :: y1 :: rA g a M f :: r)) pc lv (vi v :: vi i :: .ref a :: st) := zz_iast hx _ ((wR_at 2).trans rfl) hM h0 h1 d (wR_set 2 _) kk
theorem zr_st3 (hx : zOK l g nL x own cc) {y0 y1 y2 : Nat × va_E} {r : va_W} {a M : Nat} {f : Int → Int} (hM : M < 2147483648) {i v : Int} (h0 : 0 ≤ i) (h1 : i < (M : Int)) (d : decode cc pc = .ok (.iastore, 1)) (kk : Z l g R nL x k n (wD g b c I Q P T N (y0 :: y1 :: y2 :: rA g a M (zup f i v) :: r)) (pc + 1) lv st) : Z l g R nL x k n (wD g b c I Q P T N (y0 :: y1 :: y2 :: rA g a M f :: r)) pc lv (vi v :: vi i :: .ref a :: st) := zz_iast hx _ ((wR_at 3).trans rfl) hM h0 h1 d (wR_set 3 _) kk
theorem zr_st4 (hx : zOK l g nL x own cc) {y0 y1 y2 y3 : Nat × va_E} {r : va_W} {a M : Nat} {f : Int → Int} (hM : M < 2147483648) {i v : Int} (h0 : 0 ≤ i) (h1 : i < (M : Int)) (d : decode cc pc = .ok (.iastore, 1)) (kk : Z l g R nL x k n (wD g b c I Q P T N (y0 :: y1 :: y2 :: y3 :: rA g a M (zup f i v) :: r)) (pc + 1) lv st) : Z l g R nL x k n (wD g b c I Q P T N (y0 :: y1 :: y2 :: y3 :: rA g a M f :: r)) pc lv (vi v :: vi i :: .ref a :: st) := zz_iast hx _ ((wR_at 4).trans rfl) hM h0 h1 d (wR_set 4 _) kk
theorem zr_st5 (hx : zOK l g nL x own cc) {y0 y1 y2 y3 y4 : Nat × va_E} {r : va_W} {a M : Nat} {f : Int → Int} (hM : M < 2147483648) {i v : Int} (h0 : 0 ≤ i) (h1 : i < (M : Int)) (d : decode cc pc = .ok (.iastore, 1)) (kk : Z l g R nL x k n (wD g b c I Q P T N (y0 :: y1 :: y2 :: y3 :: y4 :: rA g a M (zup f i v) :: r)) (pc + 1) lv st) : Z l g R nL x k n (wD g b c I Q P T N (y0 :: y1 :: y2 :: y3 :: y4 :: rA g a M f :: r)) pc lv (vi v :: vi i :: .ref a :: st) := zz_iast hx _ ((wR_at 5).trans rfl) hM h0 h1 d (wR_set 5 _) kk
theorem zr_st6 (hx : zOK l g nL x own cc) {y0 y1 y2 y3 y4 y5 : Nat × va_E} {r : va_W} {a M : Nat} {f : Int → Int} (hM : M < 2147483648) {i v : Int} (h0 : 0 ≤ i) (h1 : i < (M : Int)) (d : decode cc pc = .ok (.iastore, 1)) (kk : Z l g R nL x k n (wD g b c I Q P T N (y0 :: y1 :: y2 :: y3 :: y4 :: y5 :: rA g a M (zup f i v) :: r)) (pc + 1) lv st) : Z l g R nL x k n (wD g b c I Q P T N (y0 :: y1 :: y2 :: y3 :: y4 :: y5 :: rA g a M f :: r)) pc lv (vi v :: vi i :: .ref a :: st) := zz_iast hx _ ((wR_at 6).trans rfl) hM h0 h1 d (wR_set 6 _) kk
theorem pN3 {y0 y1 y2 : Nat × va_E} {r : va_W} (e : Nat × va_E) : (wD g b c I Q P T N (y0 :: y1 :: y2 :: r) ++ [e]).Perm (wD g b c I Q P T N (y0 :: y1 :: y2 :: e :: r)) := by
  rw [wD_app, wD_app (rest := y0 :: y1 :: y2 :: e :: r), List.append_assoc]
  refine List.Perm.append_left _ ?_
  show ((y0 :: y1 :: y2 :: r) ++ [e]).Perm _
  refine (List.perm_append_comm (l₁ := y0 :: y1 :: y2 :: r) (l₂ := [e])).trans ?_
  show (e :: y0 :: y1 :: y2 :: r).Perm (y0 :: y1 :: y2 :: e :: r)
  exact (List.perm_middle (l₁ := [y0, y1, y2]) (l₂ := r) (a := e)).symm
theorem pN4 {y0 y1 y2 y3 : Nat × va_E} {r : va_W} (e : Nat × va_E) : (wD g b c I Q P T N (y0 :: y1 :: y2 :: y3 :: r) ++ [e]).Perm (wD g b c I Q P T N (y0 :: y1 :: y2 :: y3 :: e :: r)) := by
  rw [wD_app, wD_app (rest := y0 :: y1 :: y2 :: y3 :: e :: r), List.append_assoc]
  refine List.Perm.append_left _ ?_
  show ((y0 :: y1 :: y2 :: y3 :: r) ++ [e]).Perm _
  refine (List.perm_append_comm (l₁ := y0 :: y1 :: y2 :: y3 :: r) (l₂ := [e])).trans ?_
  show (e :: y0 :: y1 :: y2 :: y3 :: r).Perm (y0 :: y1 :: y2 :: y3 :: e :: r)
  exact (List.perm_middle (l₁ := [y0, y1, y2, y3]) (l₂ := r) (a := e)).symm
theorem pN5 {y0 y1 y2 y3 y4 : Nat × va_E} {r : va_W} (e : Nat × va_E) : (wD g b c I Q P T N (y0 :: y1 :: y2 :: y3 :: y4 :: r) ++ [e]).Perm (wD g b c I Q P T N (y0 :: y1 :: y2 :: y3 :: y4 :: e :: r)) := by
  rw [wD_app, wD_app (rest := y0 :: y1 :: y2 :: y3 :: y4 :: e :: r), List.append_assoc]
  refine List.Perm.append_left _ ?_
  show ((y0 :: y1 :: y2 :: y3 :: y4 :: r) ++ [e]).Perm _
  refine (List.perm_append_comm (l₁ := y0 :: y1 :: y2 :: y3 :: y4 :: r) (l₂ := [e])).trans ?_
  show (e :: y0 :: y1 :: y2 :: y3 :: y4 :: r).Perm (y0 :: y1 :: y2 :: y3 :: y4 :: e :: r)
  exact (List.perm_middle (l₁ := [y0, y1, y2, y3, y4]) (l₂ := r) (a := e)).symm
theorem pN6 {y0 y1 y2 y3 y4 y5 : Nat × va_E} {r : va_W} (e : Nat × va_E) : (wD g b c I Q P T N (y0 :: y1 :: y2 :: y3 :: y4 :: y5 :: r) ++ [e]).Perm (wD g b c I Q P T N (y0 :: y1 :: y2 :: y3 :: y4 :: y5 :: e :: r)) := by
  rw [wD_app, wD_app (rest := y0 :: y1 :: y2 :: y3 :: y4 :: y5 :: e :: r), List.append_assoc]
  refine List.Perm.append_left _ ?_
  show ((y0 :: y1 :: y2 :: y3 :: y4 :: y5 :: r) ++ [e]).Perm _
  refine (List.perm_append_comm (l₁ := y0 :: y1 :: y2 :: y3 :: y4 :: y5 :: r) (l₂ := [e])).trans ?_
  show (e :: y0 :: y1 :: y2 :: y3 :: y4 :: y5 :: r).Perm (y0 :: y1 :: y2 :: y3 :: y4 :: y5 :: e :: r)
  exact (List.perm_middle (l₁ := [y0, y1, y2, y3, y4, y5]) (l₂ := r) (a := e)).symm
end ZLR
section ZLS
variable {I : Nat → Int} {Q : Nat → Int → Int} {P : Int → Nat → Int} {T : Int → Nat → Int → Int} {N : Nat} {ow : Int → Int → Int} {isO : Int → Int → Prop} {L : Int → List Int}
theorem kU_at {U : Int → Int} (hU : kU Q U) (hI : aI I Q N) {k : Int} (k0 : 0 ≤ k) (k1 : k < 60) : (U k = 0 ∧ Q 0 k = -1) ∨ (U k = Q 0 k + 1 + 8 * (Q 1 k + 1000) ∧ 0 ≤ Q 0 k ∧ Q 0 k ≤ 3 ∧ -1000 ≤ Q 1 k ∧ Q 1 k ≤ 1000) := by
  have h0 := hI.2.2.2.1 k k0 k1
  have h1 := hI.2.2.2.2.1 k k0 k1
  have h2 := hU k k0 k1
  omega
theorem kG_at {Gr : Int → Int} (hG : kG P N Gr) (hS : aS P T N ow isO L) {s : Int} (hs : 0 ≤ s ∧ s < (N : Int)) : (Gr (5 * s) = P s 0 ∧ Gr (5 * s + 1) = P s 1 ∧ Gr (5 * s + 2) = P s 2 ∧ Gr (5 * s + 3) = P s 3 ∧ Gr (5 * s + 4) = P s 4) ∧ (0 ≤ P s 0 ∧ P s 0 ≤ 3) ∧ (0 ≤ P s 1 ∧ P s 1 ≤ 3) ∧ P s 0 ≠ P s 1 ∧ (0 ≤ P s 2 ∧ P s 2 ≤ 4) ∧ (P s 3 = 0 ∨ P s 3 = 1) ∧ (0 ≤ P s 4 ∧ P s 4 ≤ 2) ∧ (-1 ≤ P s 8 ∧ P s 8 < 60) := by
  have h1 := hS s hs.1 hs.2
  exact ⟨hG s hs.1 hs.2, h1.2.2⟩
theorem cO_m {s : Int} (h : P s 8 = -1) : cO Q P ow s = -1 := if_pos h
theorem cO_o {s : Int} (h : P s 8 ≠ -1) (h2 : Q 0 (P s 8) = P s 0) : cO Q P ow s = P s 8 := by unfold cO; rw [if_neg h, if_pos h2]
theorem cO_w {s : Int} (h : P s 8 ≠ -1) (h2 : Q 0 (P s 8) ≠ P s 0) : cO Q P ow s = ow s (P s 8) := by unfold cO; rw [if_neg h, if_neg h2]
end ZLS
