/-! the switch of frontFor -/
theorem zz_fswitch {l : Launch} {g : zG} {R : Room} {nL : Nat} {x : zX} {k n : Nat} {w : va_W} {lv : List (Nat × Value)} {st : List Value} {own : String} (hx : zOK l g nL x own cX2_frontFor) {a : Int} (ha : 0 ≤ a ∧ a ≤ 4)
    (k0 : a = 0 → Z l g R nL x k n w 90 lv st) (k1 : a = 1 → Z l g R nL x k n w 60 lv st) (k2 : a = 2 → Z l g R nL x k n w 69 lv st) (k3 : a = 3 → Z l g R nL x k n w 72 lv st) (k4 : a = 4 → Z l g R nL x k n w 82 lv st) : Z l g R nL x k n w 29 lv (vi a :: st) := by
  obtain ⟨p, e, s, m, args, below, meth, c, A, Q⟩ := x
  intro H locs ls hP hD hS h
  rcases (show a = 0 ∨ a = 1 ∨ a = 2 ∨ a = 3 ∨ a = 4 by omega) with rfl | rfl | rfl | rfl | rfl
  · exact lv_tableOut (tgt := 90) hx.1 hx.2.1 dX2_frontFor_29 (Or.inl (by decide)) (by decide) (k0 rfl H locs ls hP hD hS h)
  · exact lv_tableIn (off := 31) (tgt := 60) hx.1 hx.2.1 dX2_frontFor_29 (by decide) (by decide) (by decide) (by decide) (k1 rfl H locs ls hP hD hS h)
  · exact lv_tableIn (off := 40) (tgt := 69) hx.1 hx.2.1 dX2_frontFor_29 (by decide) (by decide) (by decide) (by decide) (k2 rfl H locs ls hP hD hS h)
  · exact lv_tableIn (off := 43) (tgt := 72) hx.1 hx.2.1 dX2_frontFor_29 (by decide) (by decide) (by decide) (by decide) (k3 rfl H locs ls hP hD hS h)
  · exact lv_tableIn (off := 53) (tgt := 82) hx.1 hx.2.1 dX2_frontFor_29 (by decide) (by decide) (by decide) (by decide) (k4 rfl H locs ls hP hD hS h)
