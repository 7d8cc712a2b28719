/-! the cells of a world in another order -/
theorem va_D_iff {A : Nat → Prop} {w : va_W} : va_D A w ↔ (w.map (fun q => q.1)).Nodup ∧ ∀ q ∈ w, A q.1 := by
  constructor
  · intro h
    refine ⟨?_, fun q hq => by obtain ⟨k, hk⟩ := List.getElem?_of_mem hq; exact h.2 k q hk⟩
    rw [List.nodup_iff_pairwise_ne, List.pairwise_iff_getElem]
    intro i j hi hj hij e
    rw [List.length_map] at hi hj
    rw [List.getElem_map, List.getElem_map] at e
    have := h.1 i j _ _ (List.getElem?_eq_getElem hi) (List.getElem?_eq_getElem hj) e
    omega
  · rintro ⟨h1, h2⟩
    refine ⟨fun i j p q hi hj e => ?_, fun k q hk => h2 q (List.mem_of_getElem? hk)⟩
    rw [List.nodup_iff_pairwise_ne, List.pairwise_iff_getElem] at h1
    obtain ⟨li, ei⟩ := List.getElem?_eq_some_iff.mp hi
    obtain ⟨lj, ej⟩ := List.getElem?_eq_some_iff.mp hj
    rcases Nat.lt_trichotomy i j with c | c | c
    · exact absurd (by rw [List.getElem_map, List.getElem_map, ei, ej]; exact e) (h1 i j (by rw [List.length_map]; exact li) (by rw [List.length_map]; exact lj) c)
    · exact c
    · exact absurd (by rw [List.getElem_map, List.getElem_map, ei, ej]; exact e.symm) (h1 j i (by rw [List.length_map]; exact lj) (by rw [List.length_map]; exact li) c)
theorem va_D_perm {A : Nat → Prop} {w w' : va_W} (h : w.Perm w') (hD : va_D A w) : va_D A w' := by
  rw [va_D_iff] at hD ⊢
  exact ⟨(h.map _).nodup_iff.mp hD.1, fun q hq => hD.2 q (h.mem_iff.mpr hq)⟩
theorem va_P_perm {D : va_G} {cl : List vw_C} {w w' : va_W} {H : Heap} (h : w.Perm w') (hP : va_P D cl w H) : va_P D cl w' H := fun k q hk => by
  obtain ⟨j, hj⟩ := List.getElem?_of_mem (h.mem_iff.mpr (List.mem_of_getElem? hk))
  exact hP j q hj
section ZPM
variable {l : Launch} {g : zG} {R : Room} {nL : Nat} {x : zX} {k n : Nat} {w w' : va_W} {pc : Nat} {lv : List (Nat × Value)} {st : List Value} {own : String} {cc : ByteArray}
theorem zz_perm (h : w.Perm w') (kk : Z l g R nL x k n w' pc lv st) : Z l g R nL x k n w pc lv st := by
  obtain ⟨p, e, s, m, args, below, meth, c, A, Q⟩ := x
  intro H locs ls hP hD hS hl
  exact kk H locs ls (va_P_perm h hP) (va_D_perm h hD) hS hl
theorem zz_permT {E : String} (h : w.Perm w') (kk : ZT l g R nL x k n w' pc lv st E) : ZT l g R nL x k n w pc lv st E := by
  obtain ⟨p, e, s, m, args, below, meth, c, A, Q⟩ := x
  intro H locs ls ce q9 hP hD hS hl h1 h2 h3
  exact kk H locs ls ce q9 (va_P_perm h hP) (va_D_perm h hD) hS hl h1 h2 h3
theorem zz_dupx1 (hx : zOK l g nL x own cc) {u v : Value} (d : decode cc pc = .ok (.dup_x1, 1)) (hu : u.category = 1) (hv : v.category = 1) (kk : Z l g R nL x k n w (pc + 1) lv (u :: v :: u :: st)) : Z l g R nL x k n w pc lv (u :: v :: st) := by
  obtain ⟨p, e, s, m, args, below, meth, c, A, Q⟩ := x
  obtain ⟨h2, h3, -⟩ := hx
  intro H locs ls hP hD hS h
  exact lv_dup_x1 h2 h3 d hu hv (kk H locs ls hP hD hS h)
theorem zz_aretA {w0 : va_W} {Post : Option Value → va_W → Prop} {PX : String → va_W → Prop} {mc ms : Nat} (hx : zOK l g nL x own cc) {E : FieldType} (hf : zFin g x w0 Post PX mc ms (some (.array E))) (d : decode cc pc = .ok (.areturn, 1)) {a : Nat} (hp : Post (some (.ref a)) w) (h1 : k ≤ mc) (h2 : n ≤ ms) : Z l g R nL x k n w pc lv [.ref a] := by
  refine zz_widen h1 h2 ?_
  obtain ⟨p, e, s, m, args, below, meth, c, A, Q⟩ := x
  obtain ⟨h2, h3, -, h4, h5, h6, h7, h8, -⟩ := hx
  obtain ⟨hr, sz, rfl, rfl⟩ := hf
  intro H locs ls hP hD hS h
  exact vx_ret (W.aret h2 h3 hr (Or.inr ⟨E, rfl⟩) (Or.inr ⟨a, rfl⟩) (fun t ht _ => ⟨⟨_, w, rfl, hp, by rw [ht]; exact hP, hD⟩, hS.F ht⟩) hS.2.2 d h8)
end ZPM
