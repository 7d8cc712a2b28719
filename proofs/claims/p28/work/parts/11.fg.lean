def Fup (F : Nat → Int) (k : Nat) (v : Int) : Nat → Int := fun j => if j = k then v else F j
def Gup (G : Nat → Int → Int) (k : Nat) (i v : Int) : Nat → Int → Int := fun j => if j = k then zup (G k) i v else G j
theorem Fup_s (F : Nat → Int) (k : Nat) (v : Int) : Fup F k v k = v := if_pos rfl
theorem Fup_n (F : Nat → Int) {k j : Nat} (v : Int) (h : j ≠ k) : Fup F k v j = F j := if_neg h
theorem Gup_s (G : Nat → Int → Int) (k : Nat) (i v : Int) : Gup G k i v k = zup (G k) i v := if_pos rfl
theorem Gup_n (G : Nat → Int → Int) {k j : Nat} (i v : Int) (h : j ≠ k) : Gup G k i v j = G j := if_neg h
