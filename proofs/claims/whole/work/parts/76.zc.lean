/-! the law's cases: one call each -/
section ZLC
variable {l : Launch} {g : zG} {R : Room} {nL : Nat} {x : zX} {k n : Nat} {w : va_W} {pc : Nat} {lv : List (Nat × Value)} {st : List Value} {own : String} {cc : ByteArray}
theorem zz_icmp_same (hx : zOK l g nL x own cc) {a b : Int} {off : Int} (tgt : Nat) (d : decode cc pc = .ok (.if_icmp .eq off, 3)) (ht : (pc : Int) + off = (tgt : Int)) (h : a = b) (kk : Z l g R nL x k n w tgt lv st) : Z l g R nL x k n w pc lv (vi b :: vi a :: st) := by
  obtain ⟨p, e, s, m, args, below, meth, c, A, Q⟩ := x
  subst h
  intro H locs ls hP hD hS h
  exact lv_icmp_eq (tgt := tgt) hx.1 hx.2.1 d ht (fun _ => kk H locs ls hP hD hS h) (fun z => absurd rfl z)
theorem zz_neq0 (hx : zOK l g nL x own cc) {a : Int} (d0 : decode cc pc = .ok (.ifCond .eq 7, 3)) (d3 : decode cc (pc + 3) = .ok (.iconst 1, 1)) (d4 : decode cc (pc + 4) = .ok (.goto 4, 3)) (d7 : decode cc (pc + 7) = .ok (.iconst 0, 1)) (ha : -2147483648 ≤ a ∧ a < 2147483648) (kk : Z l g R nL x k n w (pc + 8) lv (vi (zb (a ≠ 0)) :: st)) : Z l g R nL x k n w pc lv (vi a :: st) := by
  refine zz_if_eq hx (pc + 7) d0 (by omega) ha (fun z => ?_) (fun z => ?_)
  · refine zz_iconst hx d7 ?_
    rw [zb_f (fun q => q z)] at kk
    exact kk
  · refine zz_iconst hx d3 ?_
    refine zz_goto hx (pc + 8) d4 (by omega) ?_
    rw [zb_t z] at kk
    exact kk
end ZLC
theorem zCl_k {A B : Prop} {RL : Int → zS → Prop} {S S' : zS} {k v : Int} (h : zCl A B RL S k v S') : k = 0 ∨ k = 1 ∨ k = 2 := by
  rcases h with ⟨h, -⟩ | ⟨h, -⟩ | ⟨h, -⟩ <;> omega
/-- the law goes on behind a call -/
def zJ (l : Launch) (g : zG) (x : zX) (a : Nat → Nat) (b0 o9 b1 : Nat) (i : Int) (k n : Nat) : Prop := ∀ (F : Nat → Int) (G : Nat → Int → Int) (Rw : Int → List Int) (S : zS) (f : Nat → Int64), mI F G Rw → RS g F G Rw S → S.1 0 = b1 → Z l g room_1 7 x k n (wS g S (oC g o9 f :: mW g a F G [])) 1652 [(0, .ref b0), (1, .ref b1), (2, .ref (a 0)), (3, .ref o9), (4, vi i)] []
theorem zJ_to {l : Launch} {g : zG} {x : zX} {a : Nat → Nat} {b0 o9 b1 : Nat} {i : Int} {k n k' n' : Nat} (J : zJ l g x a b0 o9 b1 i (k + 10) (n + 214)) (hk : k' ≤ k + 10) (hn : n' ≤ n + 214) {F : Nat → Int} {G : Nat → Int → Int} {Rw : Int → List Int} {S : zS} {f : Nat → Int64} (h : mI F G Rw) (r : RS g F G Rw S) (hb : S.1 0 = b1) (more : List (Nat × Value)) : Z l g room_1 7 x k' n' (wS g S (oC g o9 f :: mW g a F G [])) 1652 ([(0, .ref b0), (1, .ref b1), (2, .ref (a 0)), (3, .ref o9), (4, vi i)] ++ more) [] :=
  zz_widen hk hn (zz_sub (fun q hq => List.mem_append_left more hq) (J F G Rw S f h r hb))

section FIN2
variable {g : zG} {a : Nat → Nat} {F : Nat → Int} {G : Nat → Int → Int} {Rw : Int → List Int} {b : Nat → Nat} {c : Int → Nat → Nat} {I : Nat → Int} {Q : Nat → Int → Int} {P : Int → Nat → Int} {T : Int → Nat → Int → Int} {N : Nat} {rest w : va_W}
theorem fin_find (h : mI F G Rw) (r : RD F G Rw I Q P T N) (hb : N = 0 → b 13 = g.2.2.2.2.2) (p : Int) {v9 b9 : Int} {S' : zS} (hc : mkS b c I Q P T N p v9 S') (hm : ∃ f : Int, b9 = f ∧ f = (if 0 ≤ p ∧ p < F 6 ∧ G 8 p = 1 then p else -1) ∧ (f = -1 ∨ 0 ≤ f ∧ f < F 6 ∧ G 8 f = 1) ∧ w = mW g a (Fup (becF F f) 18 0) (becG F G f) rest) : zEnd g a rest 0 v9 b9 w (b, c, I, Q, P, T, N) S' := by
  obtain ⟨f, hv, hf, hf2, rfl⟩ := hm
  by_cases e : 0 ≤ p ∧ p < F 6 ∧ G 8 p = 1
  · rw [if_pos e] at hf
    exact zEnd_f h r hb hf2 hf.symm hc hv rfl
  · rw [if_neg e] at hf
    rcases hc with ⟨m0, m1, rfl⟩ | ⟨m0, -, -⟩
    · rw [hf, becF_none, becG_none]
      exact zEnd_q h r hb (by rw [m1, hv, hf]) rfl
    · exact absurd ((RD_rec h r p).mp m0) e
end FIN2

set_option maxHeartbeats 4000000 in
set_option maxRecDepth 100000 in
theorem lc_declare {l : Launch} {g : zG} {x : zX} {a : Nat → Nat} {F : Nat → Int} {G : Nat → Int → Int} {Rw : Int → List Int} {b : Nat → Nat} {c : Int → Nat → Nat} {I : Nat → Int} {Q : Nat → Int → Int} {P : Int → Nat → Int} {T : Int → Nat → Int → Int} {N : Nat} {b0 o9 L : Nat} {xs : Nat → Int32} {f9 : Nat → Int64} {i : Int} {k n : Nat} (hst : l.stackTraces = false) (hx : zOK l g 7 x RL code) (hN : zNc x) (hs : zSc b0 L xs x) (hL : L ≤ 3072) (h : mI F G Rw) (r : RD F G Rw I Q P T N) (hb : N = 0 → b 13 = g.2.2.2.2.2) (i0 : 0 ≤ i) (i1 : i + 6 ≤ (L : Int)) (hk : k + 10 ≤ 601024 ∧ n + 214 ≤ 7293034) (J : zJ l g x a b0 o9 (b 0) i (k + 10) (n + 214)) : Z l g room_1 7 x k n (wS g (b, c, I, Q, P, T, N) (oC g o9 f9 :: mW g a F G [])) 156 [(0, .ref b0), (1, .ref (b 0)), (2, .ref (a 0)), (3, .ref o9), (4, vi i)] [] := by
  refine zz_aload_n hx dL_law_156 rfl ?_
  refine zz_aload_n hx dL_law_157 rfl ?_
  refine zz_iload hx dL_law_158 rfl ?_
  refine zz_iconst hx dL_law_160 ?_
  refine zz_iadd hx dL_law_161 ?_
  refine zz_sld hx hs hL (by omega) (by omega) dL_law_162 ?_
  refine zz_aload_n hx dL_law_163 rfl ?_
  refine zz_iload hx dL_law_164 rfl ?_
  refine zz_iconst hx dL_law_166 ?_
  refine zz_iadd hx dL_law_167 ?_
  refine zz_sld hx hs hL (by omega) (by omega) dL_law_168 ?_
  refine zz_aload_n hx dL_law_169 rfl ?_
  refine zz_iload hx dL_law_170 rfl ?_
  refine zz_iconst hx dL_law_172 ?_
  refine zz_iadd hx dL_law_173 ?_
  refine zz_sld hx hs hL (by omega) (by omega) dL_law_174 ?_
  refine zz_aload_n hx dL_law_175 rfl ?_
  refine zz_iload hx dL_law_176 rfl ?_
  refine zz_iconst hx dL_law_178 ?_
  refine zz_iadd hx dL_law_179 ?_
  refine zz_sld hx hs hL (by omega) (by omega) dL_law_180 ?_
  refine zz_neq0 hx dL_law_181 dL_law_184 dL_law_185 dL_law_188 (vi_rng _) ?_
  refine zz_aload_n hx dL_law_189 rfl ?_
  refine zz_iload hx dL_law_190 rfl ?_
  refine zz_iconst hx dL_law_192 ?_
  refine zz_iadd hx dL_law_193 ?_
  refine zz_sld hx hs hL (by omega) (by omega) dL_law_194 ?_
  refine zz_aload_n hx dL_law_195 rfl ?_
  refine zz_callW hx hN mw_L_declare lk_L_87 (w_declare hst h r hb o9 f9 (xs (i + 1).toNat).toInt (vi_rng _) (xs (i + 2).toNat).toInt (vi_rng _) (xs (i + 3).toNat).toInt (vi_rng _) (zb ((xs (i + 4).toNat).toInt ≠ 0)) (zb_01 _) (xs (i + 5).toNat).toInt (vi_rng _)) ⟨rfl, rfl⟩ (by decide) ⟨by show k + 10 ≤ 601024; omega, by show n + 214 ≤ 7293034; omega⟩ rfl rfl (Nat.le_of_ble_eq_true rfl) dL_law_196 (fun k9 w9 hp9 => ?_)
  obtain ⟨S', v9, f1, rfl, hv9, hc9⟩ := hp9
  refine zz_istore (lv' := [(0, _), (1, _), (2, _), (3, _), (4, _), (5, _)]) hx dL_law_199 (by decide) rfl ?_
  refine zz_perm (pM g S' (oC g o9 f1) a F G) ?_
  refine zz_aload_n hx dL_law_201 rfl ?_
  refine zz_aload_n hx dL_law_202 rfl ?_
  refine zz_iload hx dL_law_203 rfl ?_
  refine zz_iconst hx dL_law_205 ?_
  refine zz_iadd hx dL_law_206 ?_
  refine zz_sld hx hs hL (by omega) (by omega) dL_law_207 ?_
  refine zz_aload_n hx dL_law_208 rfl ?_
  refine zz_iload hx dL_law_209 rfl ?_
  refine zz_iconst hx dL_law_211 ?_
  refine zz_iadd hx dL_law_212 ?_
  refine zz_sld hx hs hL (by omega) (by omega) dL_law_213 ?_
  refine zz_aload_n hx dL_law_214 rfl ?_
  refine zz_iload hx dL_law_215 rfl ?_
  refine zz_iconst hx dL_law_217 ?_
  refine zz_iadd hx dL_law_218 ?_
  refine zz_sld hx hs hL (by omega) (by omega) dL_law_219 ?_
  refine zz_aload_n hx dL_law_220 rfl ?_
  refine zz_iload hx dL_law_221 rfl ?_
  refine zz_iconst hx dL_law_223 ?_
  refine zz_iadd hx dL_law_224 ?_
  refine zz_sld hx hs hL (by omega) (by omega) dL_law_225 ?_
  refine zz_neq0 hx dL_law_226 dL_law_229 dL_law_230 dL_law_233 (vi_rng _) ?_
  refine zz_aload_n hx dL_law_234 rfl ?_
  refine zz_iload hx dL_law_235 rfl ?_
  refine zz_iconst hx dL_law_237 ?_
  refine zz_iadd hx dL_law_238 ?_
  refine zz_sld hx hs hL (by omega) (by omega) dL_law_239 ?_
  refine zz_callVi hx me_X4_declare lk_L_92 (c_declare hst h (xs (i + 1).toNat).toInt (vi_rng _) (xs (i + 2).toNat).toInt (vi_rng _) (xs (i + 3).toNat).toInt (vi_rng _) (zb ((xs (i + 4).toNat).toInt ≠ 0)) (zb_01 _) (xs (i + 5).toNat).toInt (vi_rng _)) 0 rfl rfl ⟨rfl, rfl⟩ (by decide) ⟨by show k + 10 + 0 ≤ 601024; omega, by show n + 214 + 0 ≤ 7293034; omega⟩ rfl rfl (Nat.le_of_ble_eq_true rfl) dL_law_240 (fun _ _ h9 => h9.elim) (fun b9 w8 hm9 => ?_)
  obtain ⟨F', G', Rw', rfl, h18, hvb, h', r', hb0⟩ := fin_declare (a := a) h r hb (xs (i + 1).toNat).toInt (vi_rng _) (xs (i + 2).toNat).toInt (vi_rng _) (xs (i + 3).toNat).toInt (vi_rng _) (zb ((xs (i + 4).toNat).toInt ≠ 0)) (zb_01 _) (xs (i + 5).toNat).toInt (vi_rng _) hc9 hm9
  refine zz_istore (lv' := [(0, _), (1, _), (2, _), (3, _), (4, _), (5, _), (6, _)]) hx dL_law_243 (by decide) rfl ?_
  refine zz_aload_n hx dL_law_245 rfl ?_
  refine zz_callVi hx me_X4_thrown lk_L_93 (c_thrown hst) 0 rfl rfl ⟨rfl, rfl⟩ (by decide) ⟨by show k + 10 + 0 + 0 ≤ 601024; omega, by show n + 214 + 0 + 0 ≤ 7293034; omega⟩ rfl rfl (Nat.le_of_ble_eq_true rfl) dL_law_246 (fun _ _ h9 => h9.elim) (fun r9 w7 ht9 => ?_)
  obtain ⟨rfl, rfl⟩ := ht9
  rw [h18]
  refine zz_iload hx dL_law_249 rfl ?_
  refine zz_icmp_same hx 256 dL_law_251 rfl rfl ?_
  refine zz_iload hx dL_law_256 rfl ?_
  have hk9 := zCl_k hc9
  refine zz_if_ne hx 273 dL_law_258 rfl (by omega) (fun e9 => ?_) (fun e9 => ?_)
  · refine zz_goto hx 1652 dL_law_273 rfl ?_
    refine zz_perm (pM g S' (oC g o9 f1) a F' G').symm ?_
    exact zJ_to J (by omega) (by omega) h' r' hb0 [(5, _), (6, _)]
  · refine zz_aload_n hx dL_law_261 rfl ?_
    refine zz_iconst hx dL_law_262 ?_
    refine zz_perm ((pM g S' (oC g o9 f1) a F' G').symm.trans (pO g S' (oC g o9 f1) (mW g a F' G' []))) ?_
    refine zz_lald hx 0 rfl dL_law_263 ?_
    refine zz_iload hx dL_law_264 rfl ?_
    refine zz_i2l hx dL_law_266 ?_
    refine zz_lcmp hx dL_law_267 (by rw [hv9 e9, hvb e9]) ?_
    refine zz_if_eq hx 273 dL_law_268 rfl zr0 (fun _ => ?_) (fun z9 => absurd rfl z9)
    refine zz_goto hx 1652 dL_law_273 rfl ?_
    refine zz_perm (pO g S' (oC g o9 f1) (mW g a F' G' [])).symm ?_
    exact zJ_to J (by omega) (by omega) h' r' hb0 [(5, _), (6, _)]

set_option maxHeartbeats 4000000 in
set_option maxRecDepth 100000 in
theorem lc_store {l : Launch} {g : zG} {x : zX} {a : Nat → Nat} {F : Nat → Int} {G : Nat → Int → Int} {Rw : Int → List Int} {b : Nat → Nat} {c : Int → Nat → Nat} {I : Nat → Int} {Q : Nat → Int → Int} {P : Int → Nat → Int} {T : Int → Nat → Int → Int} {N : Nat} {b0 o9 L : Nat} {xs : Nat → Int32} {f9 : Nat → Int64} {i : Int} {k n : Nat} (hst : l.stackTraces = false) (hx : zOK l g 7 x RL code) (hN : zNc x) (hs : zSc b0 L xs x) (hL : L ≤ 3072) (h : mI F G Rw) (r : RD F G Rw I Q P T N) (hb : N = 0 → b 13 = g.2.2.2.2.2) (i0 : 0 ≤ i) (i1 : i + 6 ≤ (L : Int)) (hk : k + 10 ≤ 601024 ∧ n + 214 ≤ 7293034) (J : zJ l g x a b0 o9 (b 0) i (k + 10) (n + 214)) : Z l g room_1 7 x k n (wS g (b, c, I, Q, P, T, N) (oC g o9 f9 :: mW g a F G [])) 276 [(0, .ref b0), (1, .ref (b 0)), (2, .ref (a 0)), (3, .ref o9), (4, vi i)] [] := by
  refine zz_aload_n hx dL_law_276 rfl ?_
  refine zz_aload_n hx dL_law_277 rfl ?_
  refine zz_iload hx dL_law_278 rfl ?_
  refine zz_iconst hx dL_law_280 ?_
  refine zz_iadd hx dL_law_281 ?_
  refine zz_sld hx hs hL (by omega) (by omega) dL_law_282 ?_
  refine zz_aload_n hx dL_law_283 rfl ?_
  refine zz_iload hx dL_law_284 rfl ?_
  refine zz_iconst hx dL_law_286 ?_
  refine zz_iadd hx dL_law_287 ?_
  refine zz_sld hx hs hL (by omega) (by omega) dL_law_288 ?_
  refine zz_aload_n hx dL_law_289 rfl ?_
  refine zz_callW hx hN mw_L_store lk_L_97 (w_store hst h r hb o9 f9 (xs (i + 1).toNat).toInt (vi_rng _) (xs (i + 2).toNat).toInt (vi_rng _)) ⟨rfl, rfl⟩ (by decide) ⟨by show k + 3 ≤ 601024; omega, by show n + 18 ≤ 7293034; omega⟩ rfl rfl (Nat.le_of_ble_eq_true rfl) dL_law_290 (fun k9 w9 hp9 => ?_)
  obtain ⟨S', v9, f1, rfl, hv9, hc9⟩ := hp9
  refine zz_istore (lv' := [(0, _), (1, _), (2, _), (3, _), (4, _), (5, _)]) hx dL_law_293 (by decide) rfl ?_
  refine zz_perm (pM g S' (oC g o9 f1) a F G) ?_
  refine zz_aload_n hx dL_law_295 rfl ?_
  refine zz_aload_n hx dL_law_296 rfl ?_
  refine zz_iload hx dL_law_297 rfl ?_
  refine zz_iconst hx dL_law_299 ?_
  refine zz_iadd hx dL_law_300 ?_
  refine zz_sld hx hs hL (by omega) (by omega) dL_law_301 ?_
  refine zz_aload_n hx dL_law_302 rfl ?_
  refine zz_iload hx dL_law_303 rfl ?_
  refine zz_iconst hx dL_law_305 ?_
  refine zz_iadd hx dL_law_306 ?_
  refine zz_sld hx hs hL (by omega) (by omega) dL_law_307 ?_
  refine zz_callVi hx me_X4_store lk_L_100 (c_store hst h (xs (i + 1).toNat).toInt (vi_rng _) (xs (i + 2).toNat).toInt (vi_rng _)) 0 rfl rfl ⟨rfl, rfl⟩ (by decide) ⟨by show k + 3 + 0 ≤ 601024; omega, by show n + 18 + 0 ≤ 7293034; omega⟩ rfl rfl (Nat.le_of_ble_eq_true rfl) dL_law_308 (fun _ _ h9 => h9.elim) (fun b9 w8 hm9 => ?_)
  obtain ⟨F', G', Rw', rfl, h18, hvb, h', r', hb0⟩ := fin_store (a := a) h r hb (xs (i + 1).toNat).toInt (vi_rng _) (xs (i + 2).toNat).toInt (vi_rng _) hc9 hm9
  refine zz_istore (lv' := [(0, _), (1, _), (2, _), (3, _), (4, _), (5, _), (6, _)]) hx dL_law_311 (by decide) rfl ?_
  refine zz_aload_n hx dL_law_313 rfl ?_
  refine zz_callVi hx me_X4_thrown lk_L_93 (c_thrown hst) 0 rfl rfl ⟨rfl, rfl⟩ (by decide) ⟨by show k + 3 + 0 + 0 ≤ 601024; omega, by show n + 18 + 0 + 0 ≤ 7293034; omega⟩ rfl rfl (Nat.le_of_ble_eq_true rfl) dL_law_314 (fun _ _ h9 => h9.elim) (fun r9 w7 ht9 => ?_)
  obtain ⟨rfl, rfl⟩ := ht9
  rw [h18]
  refine zz_iload hx dL_law_317 rfl ?_
  refine zz_icmp_same hx 324 dL_law_319 rfl rfl ?_
  refine zz_iload hx dL_law_324 rfl ?_
  have hk9 := zCl_k hc9
  refine zz_if_ne hx 341 dL_law_326 rfl (by omega) (fun e9 => ?_) (fun e9 => ?_)
  · refine zz_goto hx 1652 dL_law_341 rfl ?_
    refine zz_perm (pM g S' (oC g o9 f1) a F' G').symm ?_
    exact zJ_to J (by omega) (by omega) h' r' hb0 [(5, _), (6, _)]
  · refine zz_aload_n hx dL_law_329 rfl ?_
    refine zz_iconst hx dL_law_330 ?_
    refine zz_perm ((pM g S' (oC g o9 f1) a F' G').symm.trans (pO g S' (oC g o9 f1) (mW g a F' G' []))) ?_
    refine zz_lald hx 0 rfl dL_law_331 ?_
    refine zz_iload hx dL_law_332 rfl ?_
    refine zz_i2l hx dL_law_334 ?_
    refine zz_lcmp hx dL_law_335 (by rw [hv9 e9, hvb e9]) ?_
    refine zz_if_eq hx 341 dL_law_336 rfl zr0 (fun _ => ?_) (fun z9 => absurd rfl z9)
    refine zz_goto hx 1652 dL_law_341 rfl ?_
    refine zz_perm (pO g S' (oC g o9 f1) (mW g a F' G' [])).symm ?_
    exact zJ_to J (by omega) (by omega) h' r' hb0 [(5, _), (6, _)]

set_option maxHeartbeats 4000000 in
set_option maxRecDepth 100000 in
theorem lc_modify {l : Launch} {g : zG} {x : zX} {a : Nat → Nat} {F : Nat → Int} {G : Nat → Int → Int} {Rw : Int → List Int} {b : Nat → Nat} {c : Int → Nat → Nat} {I : Nat → Int} {Q : Nat → Int → Int} {P : Int → Nat → Int} {T : Int → Nat → Int → Int} {N : Nat} {b0 o9 L : Nat} {xs : Nat → Int32} {f9 : Nat → Int64} {i : Int} {k n : Nat} (hst : l.stackTraces = false) (hx : zOK l g 7 x RL code) (hN : zNc x) (hs : zSc b0 L xs x) (hL : L ≤ 3072) (h : mI F G Rw) (r : RD F G Rw I Q P T N) (hb : N = 0 → b 13 = g.2.2.2.2.2) (i0 : 0 ≤ i) (i1 : i + 6 ≤ (L : Int)) (hk : k + 10 ≤ 601024 ∧ n + 214 ≤ 7293034) (J : zJ l g x a b0 o9 (b 0) i (k + 10) (n + 214)) : Z l g room_1 7 x k n (wS g (b, c, I, Q, P, T, N) (oC g o9 f9 :: mW g a F G [])) 344 [(0, .ref b0), (1, .ref (b 0)), (2, .ref (a 0)), (3, .ref o9), (4, vi i)] [] := by
  refine zz_aload_n hx dL_law_344 rfl ?_
  refine zz_aload_n hx dL_law_345 rfl ?_
  refine zz_iload hx dL_law_346 rfl ?_
  refine zz_iconst hx dL_law_348 ?_
  refine zz_iadd hx dL_law_349 ?_
  refine zz_sld hx hs hL (by omega) (by omega) dL_law_350 ?_
  refine zz_aload_n hx dL_law_351 rfl ?_
  refine zz_callW hx hN mw_L_modify lk_L_101 (w_modify hst h r hb o9 f9 (xs (i + 1).toNat).toInt (vi_rng _)) ⟨rfl, rfl⟩ (by decide) ⟨by show k + 2 ≤ 601024; omega, by show n + 12 ≤ 7293034; omega⟩ rfl rfl (Nat.le_of_ble_eq_true rfl) dL_law_352 (fun k9 w9 hp9 => ?_)
  obtain ⟨S', v9, f1, rfl, hv9, hc9⟩ := hp9
  refine zz_istore (lv' := [(0, _), (1, _), (2, _), (3, _), (4, _), (5, _)]) hx dL_law_355 (by decide) rfl ?_
  refine zz_perm (pM g S' (oC g o9 f1) a F G) ?_
  refine zz_aload_n hx dL_law_357 rfl ?_
  refine zz_aload_n hx dL_law_358 rfl ?_
  refine zz_iload hx dL_law_359 rfl ?_
  refine zz_iconst hx dL_law_361 ?_
  refine zz_iadd hx dL_law_362 ?_
  refine zz_sld hx hs hL (by omega) (by omega) dL_law_363 ?_
  refine zz_callVi hx me_X4_modify lk_L_104 (c_modify hst h (xs (i + 1).toNat).toInt (vi_rng _)) 0 rfl rfl ⟨rfl, rfl⟩ (by decide) ⟨by show k + 2 + 0 ≤ 601024; omega, by show n + 12 + 0 ≤ 7293034; omega⟩ rfl rfl (Nat.le_of_ble_eq_true rfl) dL_law_364 (fun _ _ h9 => h9.elim) (fun b9 w8 hm9 => ?_)
  obtain ⟨F', G', Rw', rfl, h18, hvb, h', r', hb0⟩ := fin_modify (a := a) h r hb (xs (i + 1).toNat).toInt (vi_rng _) hc9 hm9
  refine zz_istore (lv' := [(0, _), (1, _), (2, _), (3, _), (4, _), (5, _), (6, _)]) hx dL_law_367 (by decide) rfl ?_
  refine zz_aload_n hx dL_law_369 rfl ?_
  refine zz_callVi hx me_X4_thrown lk_L_93 (c_thrown hst) 0 rfl rfl ⟨rfl, rfl⟩ (by decide) ⟨by show k + 2 + 0 + 0 ≤ 601024; omega, by show n + 12 + 0 + 0 ≤ 7293034; omega⟩ rfl rfl (Nat.le_of_ble_eq_true rfl) dL_law_370 (fun _ _ h9 => h9.elim) (fun r9 w7 ht9 => ?_)
  obtain ⟨rfl, rfl⟩ := ht9
  rw [h18]
  refine zz_iload hx dL_law_373 rfl ?_
  refine zz_icmp_same hx 380 dL_law_375 rfl rfl ?_
  refine zz_iload hx dL_law_380 rfl ?_
  have hk9 := zCl_k hc9
  refine zz_if_ne hx 397 dL_law_382 rfl (by omega) (fun e9 => ?_) (fun e9 => ?_)
  · refine zz_goto hx 1652 dL_law_397 rfl ?_
    refine zz_perm (pM g S' (oC g o9 f1) a F' G').symm ?_
    exact zJ_to J (by omega) (by omega) h' r' hb0 [(5, _), (6, _)]
  · refine zz_aload_n hx dL_law_385 rfl ?_
    refine zz_iconst hx dL_law_386 ?_
    refine zz_perm ((pM g S' (oC g o9 f1) a F' G').symm.trans (pO g S' (oC g o9 f1) (mW g a F' G' []))) ?_
    refine zz_lald hx 0 rfl dL_law_387 ?_
    refine zz_iload hx dL_law_388 rfl ?_
    refine zz_i2l hx dL_law_390 ?_
    refine zz_lcmp hx dL_law_391 (by rw [hv9 e9, hvb e9]) ?_
    refine zz_if_eq hx 397 dL_law_392 rfl zr0 (fun _ => ?_) (fun z9 => absurd rfl z9)
    refine zz_goto hx 1652 dL_law_397 rfl ?_
    refine zz_perm (pO g S' (oC g o9 f1) (mW g a F' G' [])).symm ?_
    exact zJ_to J (by omega) (by omega) h' r' hb0 [(5, _), (6, _)]

set_option maxHeartbeats 4000000 in
set_option maxRecDepth 100000 in
theorem lc_erase {l : Launch} {g : zG} {x : zX} {a : Nat → Nat} {F : Nat → Int} {G : Nat → Int → Int} {Rw : Int → List Int} {b : Nat → Nat} {c : Int → Nat → Nat} {I : Nat → Int} {Q : Nat → Int → Int} {P : Int → Nat → Int} {T : Int → Nat → Int → Int} {N : Nat} {b0 o9 L : Nat} {xs : Nat → Int32} {f9 : Nat → Int64} {i : Int} {k n : Nat} (hst : l.stackTraces = false) (hx : zOK l g 7 x RL code) (hN : zNc x) (hs : zSc b0 L xs x) (hL : L ≤ 3072) (h : mI F G Rw) (r : RD F G Rw I Q P T N) (hb : N = 0 → b 13 = g.2.2.2.2.2) (i0 : 0 ≤ i) (i1 : i + 6 ≤ (L : Int)) (hk : k + 10 ≤ 601024 ∧ n + 214 ≤ 7293034) (J : zJ l g x a b0 o9 (b 0) i (k + 10) (n + 214)) : Z l g room_1 7 x k n (wS g (b, c, I, Q, P, T, N) (oC g o9 f9 :: mW g a F G [])) 400 [(0, .ref b0), (1, .ref (b 0)), (2, .ref (a 0)), (3, .ref o9), (4, vi i)] [] := by
  refine zz_aload_n hx dL_law_400 rfl ?_
  refine zz_aload_n hx dL_law_401 rfl ?_
  refine zz_iload hx dL_law_402 rfl ?_
  refine zz_iconst hx dL_law_404 ?_
  refine zz_iadd hx dL_law_405 ?_
  refine zz_sld hx hs hL (by omega) (by omega) dL_law_406 ?_
  refine zz_aload_n hx dL_law_407 rfl ?_
  refine zz_callW hx hN mw_L_erase lk_L_105 (w_erase hst h r hb o9 f9 (xs (i + 1).toNat).toInt (vi_rng _)) ⟨rfl, rfl⟩ (by decide) ⟨by show k + 3 ≤ 601024; omega, by show n + 18 ≤ 7293034; omega⟩ rfl rfl (Nat.le_of_ble_eq_true rfl) dL_law_408 (fun k9 w9 hp9 => ?_)
  obtain ⟨S', v9, f1, rfl, hv9, hc9⟩ := hp9
  refine zz_istore (lv' := [(0, _), (1, _), (2, _), (3, _), (4, _), (5, _)]) hx dL_law_411 (by decide) rfl ?_
  refine zz_perm (pM g S' (oC g o9 f1) a F G) ?_
  refine zz_aload_n hx dL_law_413 rfl ?_
  refine zz_aload_n hx dL_law_414 rfl ?_
  refine zz_iload hx dL_law_415 rfl ?_
  refine zz_iconst hx dL_law_417 ?_
  refine zz_iadd hx dL_law_418 ?_
  refine zz_sld hx hs hL (by omega) (by omega) dL_law_419 ?_
  refine zz_callVi hx me_X4_erase lk_L_107 (c_erase hst h (xs (i + 1).toNat).toInt (vi_rng _)) 0 rfl rfl ⟨rfl, rfl⟩ (by decide) ⟨by show k + 3 + 0 ≤ 601024; omega, by show n + 18 + 0 ≤ 7293034; omega⟩ rfl rfl (Nat.le_of_ble_eq_true rfl) dL_law_420 (fun _ _ h9 => h9.elim) (fun b9 w8 hm9 => ?_)
  obtain ⟨F', G', Rw', rfl, h18, hvb, h', r', hb0⟩ := fin_erase (a := a) h r hb (xs (i + 1).toNat).toInt (vi_rng _) hc9 hm9
  refine zz_istore (lv' := [(0, _), (1, _), (2, _), (3, _), (4, _), (5, _), (6, _)]) hx dL_law_423 (by decide) rfl ?_
  refine zz_aload_n hx dL_law_425 rfl ?_
  refine zz_callVi hx me_X4_thrown lk_L_93 (c_thrown hst) 0 rfl rfl ⟨rfl, rfl⟩ (by decide) ⟨by show k + 3 + 0 + 0 ≤ 601024; omega, by show n + 18 + 0 + 0 ≤ 7293034; omega⟩ rfl rfl (Nat.le_of_ble_eq_true rfl) dL_law_426 (fun _ _ h9 => h9.elim) (fun r9 w7 ht9 => ?_)
  obtain ⟨rfl, rfl⟩ := ht9
  rw [h18]
  refine zz_iload hx dL_law_429 rfl ?_
  refine zz_icmp_same hx 436 dL_law_431 rfl rfl ?_
  refine zz_iload hx dL_law_436 rfl ?_
  have hk9 := zCl_k hc9
  refine zz_if_ne hx 453 dL_law_438 rfl (by omega) (fun e9 => ?_) (fun e9 => ?_)
  · refine zz_goto hx 1652 dL_law_453 rfl ?_
    refine zz_perm (pM g S' (oC g o9 f1) a F' G').symm ?_
    exact zJ_to J (by omega) (by omega) h' r' hb0 [(5, _), (6, _)]
  · refine zz_aload_n hx dL_law_441 rfl ?_
    refine zz_iconst hx dL_law_442 ?_
    refine zz_perm ((pM g S' (oC g o9 f1) a F' G').symm.trans (pO g S' (oC g o9 f1) (mW g a F' G' []))) ?_
    refine zz_lald hx 0 rfl dL_law_443 ?_
    refine zz_iload hx dL_law_444 rfl ?_
    refine zz_i2l hx dL_law_446 ?_
    refine zz_lcmp hx dL_law_447 (by rw [hv9 e9, hvb e9]) ?_
    refine zz_if_eq hx 453 dL_law_448 rfl zr0 (fun _ => ?_) (fun z9 => absurd rfl z9)
    refine zz_goto hx 1652 dL_law_453 rfl ?_
    refine zz_perm (pO g S' (oC g o9 f1) (mW g a F' G' [])).symm ?_
    exact zJ_to J (by omega) (by omega) h' r' hb0 [(5, _), (6, _)]

set_option maxHeartbeats 4000000 in
set_option maxRecDepth 100000 in
theorem lc_connect {l : Launch} {g : zG} {x : zX} {a : Nat → Nat} {F : Nat → Int} {G : Nat → Int → Int} {Rw : Int → List Int} {b : Nat → Nat} {c : Int → Nat → Nat} {I : Nat → Int} {Q : Nat → Int → Int} {P : Int → Nat → Int} {T : Int → Nat → Int → Int} {N : Nat} {b0 o9 L : Nat} {xs : Nat → Int32} {f9 : Nat → Int64} {i : Int} {k n : Nat} (hst : l.stackTraces = false) (hx : zOK l g 7 x RL code) (hN : zNc x) (hs : zSc b0 L xs x) (hL : L ≤ 3072) (h : mI F G Rw) (r : RD F G Rw I Q P T N) (hb : N = 0 → b 13 = g.2.2.2.2.2) (i0 : 0 ≤ i) (i1 : i + 6 ≤ (L : Int)) (hk : k + 10 ≤ 601024 ∧ n + 214 ≤ 7293034) (J : zJ l g x a b0 o9 (b 0) i (k + 10) (n + 214)) : Z l g room_1 7 x k n (wS g (b, c, I, Q, P, T, N) (oC g o9 f9 :: mW g a F G [])) 456 [(0, .ref b0), (1, .ref (b 0)), (2, .ref (a 0)), (3, .ref o9), (4, vi i)] [] := by
  refine zz_aload_n hx dL_law_456 rfl ?_
  refine zz_aload_n hx dL_law_457 rfl ?_
  refine zz_iload hx dL_law_458 rfl ?_
  refine zz_iconst hx dL_law_460 ?_
  refine zz_iadd hx dL_law_461 ?_
  refine zz_sld hx hs hL (by omega) (by omega) dL_law_462 ?_
  refine zz_aload_n hx dL_law_463 rfl ?_
  refine zz_callW hx hN mw_L_connect lk_L_108 (w_connect hst h r hb o9 f9 (xs (i + 1).toNat).toInt (vi_rng _)) ⟨rfl, rfl⟩ (by decide) ⟨by show k + 3 ≤ 601024; omega, by show n + 18 ≤ 7293034; omega⟩ rfl rfl (Nat.le_of_ble_eq_true rfl) dL_law_464 (fun k9 w9 hp9 => ?_)
  obtain ⟨S', v9, f1, rfl, hv9, hc9⟩ := hp9
  refine zz_istore (lv' := [(0, _), (1, _), (2, _), (3, _), (4, _), (5, _)]) hx dL_law_467 (by decide) rfl ?_
  refine zz_perm (pM g S' (oC g o9 f1) a F G) ?_
  refine zz_aload_n hx dL_law_469 rfl ?_
  refine zz_aload_n hx dL_law_470 rfl ?_
  refine zz_iload hx dL_law_471 rfl ?_
  refine zz_iconst hx dL_law_473 ?_
  refine zz_iadd hx dL_law_474 ?_
  refine zz_sld hx hs hL (by omega) (by omega) dL_law_475 ?_
  refine zz_callVi hx me_X4_connect lk_L_110 (c_connect hst h (xs (i + 1).toNat).toInt (vi_rng _)) 0 rfl rfl ⟨rfl, rfl⟩ (by decide) ⟨by show k + 3 + 0 ≤ 601024; omega, by show n + 18 + 0 ≤ 7293034; omega⟩ rfl rfl (Nat.le_of_ble_eq_true rfl) dL_law_476 (fun _ _ h9 => h9.elim) (fun b9 w8 hm9 => ?_)
  obtain ⟨F', G', Rw', rfl, h18, hvb, h', r', hb0⟩ := fin_connect (a := a) h r hb (xs (i + 1).toNat).toInt (vi_rng _) hc9 hm9
  refine zz_istore (lv' := [(0, _), (1, _), (2, _), (3, _), (4, _), (5, _), (6, _)]) hx dL_law_479 (by decide) rfl ?_
  refine zz_aload_n hx dL_law_481 rfl ?_
  refine zz_callVi hx me_X4_thrown lk_L_93 (c_thrown hst) 0 rfl rfl ⟨rfl, rfl⟩ (by decide) ⟨by show k + 3 + 0 + 0 ≤ 601024; omega, by show n + 18 + 0 + 0 ≤ 7293034; omega⟩ rfl rfl (Nat.le_of_ble_eq_true rfl) dL_law_482 (fun _ _ h9 => h9.elim) (fun r9 w7 ht9 => ?_)
  obtain ⟨rfl, rfl⟩ := ht9
  rw [h18]
  refine zz_iload hx dL_law_485 rfl ?_
  refine zz_icmp_same hx 492 dL_law_487 rfl rfl ?_
  refine zz_iload hx dL_law_492 rfl ?_
  have hk9 := zCl_k hc9
  refine zz_if_ne hx 509 dL_law_494 rfl (by omega) (fun e9 => ?_) (fun e9 => ?_)
  · refine zz_goto hx 1652 dL_law_509 rfl ?_
    refine zz_perm (pM g S' (oC g o9 f1) a F' G').symm ?_
    exact zJ_to J (by omega) (by omega) h' r' hb0 [(5, _), (6, _)]
  · refine zz_aload_n hx dL_law_497 rfl ?_
    refine zz_iconst hx dL_law_498 ?_
    refine zz_perm ((pM g S' (oC g o9 f1) a F' G').symm.trans (pO g S' (oC g o9 f1) (mW g a F' G' []))) ?_
    refine zz_lald hx 0 rfl dL_law_499 ?_
    refine zz_iload hx dL_law_500 rfl ?_
    refine zz_i2l hx dL_law_502 ?_
    refine zz_lcmp hx dL_law_503 (by rw [hv9 e9, hvb e9]) ?_
    refine zz_if_eq hx 509 dL_law_504 rfl zr0 (fun _ => ?_) (fun z9 => absurd rfl z9)
    refine zz_goto hx 1652 dL_law_509 rfl ?_
    refine zz_perm (pO g S' (oC g o9 f1) (mW g a F' G' [])).symm ?_
    exact zJ_to J (by omega) (by omega) h' r' hb0 [(5, _), (6, _)]

set_option maxHeartbeats 4000000 in
set_option maxRecDepth 100000 in
theorem lc_disconnect {l : Launch} {g : zG} {x : zX} {a : Nat → Nat} {F : Nat → Int} {G : Nat → Int → Int} {Rw : Int → List Int} {b : Nat → Nat} {c : Int → Nat → Nat} {I : Nat → Int} {Q : Nat → Int → Int} {P : Int → Nat → Int} {T : Int → Nat → Int → Int} {N : Nat} {b0 o9 L : Nat} {xs : Nat → Int32} {f9 : Nat → Int64} {i : Int} {k n : Nat} (hst : l.stackTraces = false) (hx : zOK l g 7 x RL code) (hN : zNc x) (hs : zSc b0 L xs x) (hL : L ≤ 3072) (h : mI F G Rw) (r : RD F G Rw I Q P T N) (hb : N = 0 → b 13 = g.2.2.2.2.2) (i0 : 0 ≤ i) (i1 : i + 6 ≤ (L : Int)) (hk : k + 10 ≤ 601024 ∧ n + 214 ≤ 7293034) (J : zJ l g x a b0 o9 (b 0) i (k + 10) (n + 214)) : Z l g room_1 7 x k n (wS g (b, c, I, Q, P, T, N) (oC g o9 f9 :: mW g a F G [])) 512 [(0, .ref b0), (1, .ref (b 0)), (2, .ref (a 0)), (3, .ref o9), (4, vi i)] [] := by
  refine zz_aload_n hx dL_law_512 rfl ?_
  refine zz_aload_n hx dL_law_513 rfl ?_
  refine zz_iload hx dL_law_514 rfl ?_
  refine zz_iconst hx dL_law_516 ?_
  refine zz_iadd hx dL_law_517 ?_
  refine zz_sld hx hs hL (by omega) (by omega) dL_law_518 ?_
  refine zz_aload_n hx dL_law_519 rfl ?_
  refine zz_callW hx hN mw_L_disconnect lk_L_111 (w_disconnect hst h r hb o9 f9 (xs (i + 1).toNat).toInt (vi_rng _)) ⟨rfl, rfl⟩ (by decide) ⟨by show k + 4 ≤ 601024; omega, by show n + 24 ≤ 7293034; omega⟩ rfl rfl (Nat.le_of_ble_eq_true rfl) dL_law_520 (fun k9 w9 hp9 => ?_)
  obtain ⟨S', v9, f1, rfl, hv9, hc9⟩ := hp9
  refine zz_istore (lv' := [(0, _), (1, _), (2, _), (3, _), (4, _), (5, _)]) hx dL_law_523 (by decide) rfl ?_
  refine zz_perm (pM g S' (oC g o9 f1) a F G) ?_
  refine zz_aload_n hx dL_law_525 rfl ?_
  refine zz_aload_n hx dL_law_526 rfl ?_
  refine zz_iload hx dL_law_527 rfl ?_
  refine zz_iconst hx dL_law_529 ?_
  refine zz_iadd hx dL_law_530 ?_
  refine zz_sld hx hs hL (by omega) (by omega) dL_law_531 ?_
  refine zz_callVi hx me_X4_disconnect lk_L_113 (c_disconnect hst h (xs (i + 1).toNat).toInt (vi_rng _)) 0 rfl rfl ⟨rfl, rfl⟩ (by decide) ⟨by show k + 4 + 0 ≤ 601024; omega, by show n + 24 + 0 ≤ 7293034; omega⟩ rfl rfl (Nat.le_of_ble_eq_true rfl) dL_law_532 (fun _ _ h9 => h9.elim) (fun b9 w8 hm9 => ?_)
  obtain ⟨F', G', Rw', rfl, h18, hvb, h', r', hb0⟩ := fin_disconnect (a := a) h r hb (xs (i + 1).toNat).toInt (vi_rng _) hc9 hm9
  refine zz_istore (lv' := [(0, _), (1, _), (2, _), (3, _), (4, _), (5, _), (6, _)]) hx dL_law_535 (by decide) rfl ?_
  refine zz_aload_n hx dL_law_537 rfl ?_
  refine zz_callVi hx me_X4_thrown lk_L_93 (c_thrown hst) 0 rfl rfl ⟨rfl, rfl⟩ (by decide) ⟨by show k + 4 + 0 + 0 ≤ 601024; omega, by show n + 24 + 0 + 0 ≤ 7293034; omega⟩ rfl rfl (Nat.le_of_ble_eq_true rfl) dL_law_538 (fun _ _ h9 => h9.elim) (fun r9 w7 ht9 => ?_)
  obtain ⟨rfl, rfl⟩ := ht9
  rw [h18]
  refine zz_iload hx dL_law_541 rfl ?_
  refine zz_icmp_same hx 548 dL_law_543 rfl rfl ?_
  refine zz_iload hx dL_law_548 rfl ?_
  have hk9 := zCl_k hc9
  refine zz_if_ne hx 565 dL_law_550 rfl (by omega) (fun e9 => ?_) (fun e9 => ?_)
  · refine zz_goto hx 1652 dL_law_565 rfl ?_
    refine zz_perm (pM g S' (oC g o9 f1) a F' G').symm ?_
    exact zJ_to J (by omega) (by omega) h' r' hb0 [(5, _), (6, _)]
  · refine zz_aload_n hx dL_law_553 rfl ?_
    refine zz_iconst hx dL_law_554 ?_
    refine zz_perm ((pM g S' (oC g o9 f1) a F' G').symm.trans (pO g S' (oC g o9 f1) (mW g a F' G' []))) ?_
    refine zz_lald hx 0 rfl dL_law_555 ?_
    refine zz_iload hx dL_law_556 rfl ?_
    refine zz_i2l hx dL_law_558 ?_
    refine zz_lcmp hx dL_law_559 (by rw [hv9 e9, hvb e9]) ?_
    refine zz_if_eq hx 565 dL_law_560 rfl zr0 (fun _ => ?_) (fun z9 => absurd rfl z9)
    refine zz_goto hx 1652 dL_law_565 rfl ?_
    refine zz_perm (pO g S' (oC g o9 f1) (mW g a F' G' [])).symm ?_
    exact zJ_to J (by omega) (by omega) h' r' hb0 [(5, _), (6, _)]

set_option maxHeartbeats 4000000 in
set_option maxRecDepth 100000 in
theorem lc_reconnect {l : Launch} {g : zG} {x : zX} {a : Nat → Nat} {F : Nat → Int} {G : Nat → Int → Int} {Rw : Int → List Int} {b : Nat → Nat} {c : Int → Nat → Nat} {I : Nat → Int} {Q : Nat → Int → Int} {P : Int → Nat → Int} {T : Int → Nat → Int → Int} {N : Nat} {b0 o9 L : Nat} {xs : Nat → Int32} {f9 : Nat → Int64} {i : Int} {k n : Nat} (hst : l.stackTraces = false) (hx : zOK l g 7 x RL code) (hN : zNc x) (hs : zSc b0 L xs x) (hL : L ≤ 3072) (h : mI F G Rw) (r : RD F G Rw I Q P T N) (hb : N = 0 → b 13 = g.2.2.2.2.2) (i0 : 0 ≤ i) (i1 : i + 6 ≤ (L : Int)) (hk : k + 10 ≤ 601024 ∧ n + 214 ≤ 7293034) (J : zJ l g x a b0 o9 (b 0) i (k + 10) (n + 214)) : Z l g room_1 7 x k n (wS g (b, c, I, Q, P, T, N) (oC g o9 f9 :: mW g a F G [])) 568 [(0, .ref b0), (1, .ref (b 0)), (2, .ref (a 0)), (3, .ref o9), (4, vi i)] [] := by
  refine zz_aload_n hx dL_law_568 rfl ?_
  refine zz_aload_n hx dL_law_569 rfl ?_
  refine zz_iload hx dL_law_570 rfl ?_
  refine zz_iconst hx dL_law_572 ?_
  refine zz_iadd hx dL_law_573 ?_
  refine zz_sld hx hs hL (by omega) (by omega) dL_law_574 ?_
  refine zz_aload_n hx dL_law_575 rfl ?_
  refine zz_iload hx dL_law_576 rfl ?_
  refine zz_iconst hx dL_law_578 ?_
  refine zz_iadd hx dL_law_579 ?_
  refine zz_sld hx hs hL (by omega) (by omega) dL_law_580 ?_
  refine zz_aload_n hx dL_law_581 rfl ?_
  refine zz_callW hx hN mw_L_reconnect lk_L_114 (w_reconnect hst h r hb o9 f9 (xs (i + 1).toNat).toInt (vi_rng _) (xs (i + 2).toNat).toInt (vi_rng _)) ⟨rfl, rfl⟩ (by decide) ⟨by show k + 4 ≤ 601024; omega, by show n + 24 ≤ 7293034; omega⟩ rfl rfl (Nat.le_of_ble_eq_true rfl) dL_law_582 (fun k9 w9 hp9 => ?_)
  obtain ⟨S', v9, f1, rfl, hv9, hc9⟩ := hp9
  refine zz_istore (lv' := [(0, _), (1, _), (2, _), (3, _), (4, _), (5, _)]) hx dL_law_585 (by decide) rfl ?_
  refine zz_perm (pM g S' (oC g o9 f1) a F G) ?_
  refine zz_aload_n hx dL_law_587 rfl ?_
  refine zz_aload_n hx dL_law_588 rfl ?_
  refine zz_iload hx dL_law_589 rfl ?_
  refine zz_iconst hx dL_law_591 ?_
  refine zz_iadd hx dL_law_592 ?_
  refine zz_sld hx hs hL (by omega) (by omega) dL_law_593 ?_
  refine zz_aload_n hx dL_law_594 rfl ?_
  refine zz_iload hx dL_law_595 rfl ?_
  refine zz_iconst hx dL_law_597 ?_
  refine zz_iadd hx dL_law_598 ?_
  refine zz_sld hx hs hL (by omega) (by omega) dL_law_599 ?_
  refine zz_callVi hx me_X4_reconnect lk_L_116 (c_reconnect hst h (xs (i + 1).toNat).toInt (vi_rng _) (xs (i + 2).toNat).toInt (vi_rng _)) 0 rfl rfl ⟨rfl, rfl⟩ (by decide) ⟨by show k + 4 + 0 ≤ 601024; omega, by show n + 24 + 0 ≤ 7293034; omega⟩ rfl rfl (Nat.le_of_ble_eq_true rfl) dL_law_600 (fun _ _ h9 => h9.elim) (fun b9 w8 hm9 => ?_)
  obtain ⟨F', G', Rw', rfl, h18, hvb, h', r', hb0⟩ := fin_reconnect (a := a) h r hb (xs (i + 1).toNat).toInt (vi_rng _) (xs (i + 2).toNat).toInt (vi_rng _) hc9 hm9
  refine zz_istore (lv' := [(0, _), (1, _), (2, _), (3, _), (4, _), (5, _), (6, _)]) hx dL_law_603 (by decide) rfl ?_
  refine zz_aload_n hx dL_law_605 rfl ?_
  refine zz_callVi hx me_X4_thrown lk_L_93 (c_thrown hst) 0 rfl rfl ⟨rfl, rfl⟩ (by decide) ⟨by show k + 4 + 0 + 0 ≤ 601024; omega, by show n + 24 + 0 + 0 ≤ 7293034; omega⟩ rfl rfl (Nat.le_of_ble_eq_true rfl) dL_law_606 (fun _ _ h9 => h9.elim) (fun r9 w7 ht9 => ?_)
  obtain ⟨rfl, rfl⟩ := ht9
  rw [h18]
  refine zz_iload hx dL_law_609 rfl ?_
  refine zz_icmp_same hx 616 dL_law_611 rfl rfl ?_
  refine zz_iload hx dL_law_616 rfl ?_
  have hk9 := zCl_k hc9
  refine zz_if_ne hx 633 dL_law_618 rfl (by omega) (fun e9 => ?_) (fun e9 => ?_)
  · refine zz_goto hx 1652 dL_law_633 rfl ?_
    refine zz_perm (pM g S' (oC g o9 f1) a F' G').symm ?_
    exact zJ_to J (by omega) (by omega) h' r' hb0 [(5, _), (6, _)]
  · refine zz_aload_n hx dL_law_621 rfl ?_
    refine zz_iconst hx dL_law_622 ?_
    refine zz_perm ((pM g S' (oC g o9 f1) a F' G').symm.trans (pO g S' (oC g o9 f1) (mW g a F' G' []))) ?_
    refine zz_lald hx 0 rfl dL_law_623 ?_
    refine zz_iload hx dL_law_624 rfl ?_
    refine zz_i2l hx dL_law_626 ?_
    refine zz_lcmp hx dL_law_627 (by rw [hv9 e9, hvb e9]) ?_
    refine zz_if_eq hx 633 dL_law_628 rfl zr0 (fun _ => ?_) (fun z9 => absurd rfl z9)
    refine zz_goto hx 1652 dL_law_633 rfl ?_
    refine zz_perm (pO g S' (oC g o9 f1) (mW g a F' G' [])).symm ?_
    exact zJ_to J (by omega) (by omega) h' r' hb0 [(5, _), (6, _)]

set_option maxHeartbeats 4000000 in
set_option maxRecDepth 100000 in
theorem lc_find {l : Launch} {g : zG} {x : zX} {a : Nat → Nat} {F : Nat → Int} {G : Nat → Int → Int} {Rw : Int → List Int} {b : Nat → Nat} {c : Int → Nat → Nat} {I : Nat → Int} {Q : Nat → Int → Int} {P : Int → Nat → Int} {T : Int → Nat → Int → Int} {N : Nat} {b0 o9 L : Nat} {xs : Nat → Int32} {f9 : Nat → Int64} {i : Int} {k n : Nat} (hst : l.stackTraces = false) (hx : zOK l g 7 x RL code) (hN : zNc x) (hs : zSc b0 L xs x) (hL : L ≤ 3072) (h : mI F G Rw) (r : RD F G Rw I Q P T N) (hb : N = 0 → b 13 = g.2.2.2.2.2) (i0 : 0 ≤ i) (i1 : i + 6 ≤ (L : Int)) (hk : k + 10 ≤ 601024 ∧ n + 214 ≤ 7293034) (J : zJ l g x a b0 o9 (b 0) i (k + 10) (n + 214)) : Z l g room_1 7 x k n (wS g (b, c, I, Q, P, T, N) (oC g o9 f9 :: mW g a F G [])) 636 [(0, .ref b0), (1, .ref (b 0)), (2, .ref (a 0)), (3, .ref o9), (4, vi i)] [] := by
  refine zz_aload_n hx dL_law_636 rfl ?_
  refine zz_aload_n hx dL_law_637 rfl ?_
  refine zz_iload hx dL_law_638 rfl ?_
  refine zz_iconst hx dL_law_640 ?_
  refine zz_iadd hx dL_law_641 ?_
  refine zz_sld hx hs hL (by omega) (by omega) dL_law_642 ?_
  refine zz_eq (w' := wD g b c I Q P T N (oC g o9 f9 :: mW g a F G [])) rfl rfl ?_
  refine zz_callVi hx me_X3_find lk_L_117 (k_X3_find hst (RD_aI h r) (RD_aS h r) (xs (i + 1).toNat).toInt (vi_rng _)) 0 rfl rfl ⟨rfl, rfl⟩ (by decide) ⟨by show k + 0 ≤ 601024; omega, by show n + 0 ≤ 7293034; omega⟩ rfl rfl (Nat.le_of_ble_eq_true rfl) dL_law_643 (fun _ _ h9 => h9.elim) (fun v9 w9 hp9 => ?_)
  obtain ⟨S', rfl, hc9⟩ := mkO_S hp9
  refine zz_perm (pM g S' (oC g o9 f9) a F G) ?_
  refine zz_aload_n hx dL_law_646 rfl ?_
  refine zz_aload_n hx dL_law_647 rfl ?_
  refine zz_iload hx dL_law_648 rfl ?_
  refine zz_iconst hx dL_law_650 ?_
  refine zz_iadd hx dL_law_651 ?_
  refine zz_sld hx hs hL (by omega) (by omega) dL_law_652 ?_
  refine zz_callVi hx me_X4_find lk_L_120 (c_find hst h (xs (i + 1).toNat).toInt (vi_rng _)) 0 rfl rfl ⟨rfl, rfl⟩ (by decide) ⟨by show k + 0 + 0 ≤ 601024; omega, by show n + 0 + 0 ≤ 7293034; omega⟩ rfl rfl (Nat.le_of_ble_eq_true rfl) dL_law_653 (fun _ _ h9 => h9.elim) (fun b9 w8 hm9 => ?_)
  obtain ⟨F', G', Rw', rfl, h18, hvb, h', r', hb0⟩ := fin_find (a := a) h r hb (xs (i + 1).toNat).toInt hc9 hm9
  refine zz_icmp_same hx 1652 dL_law_656 rfl (hvb rfl) ?_
  refine zz_perm (pM g S' (oC g o9 f9) a F' G').symm ?_
  exact zJ_to J (by omega) (by omega) h' r' hb0 []

set_option maxHeartbeats 4000000 in
set_option maxRecDepth 100000 in
theorem lc_findOf {l : Launch} {g : zG} {x : zX} {a : Nat → Nat} {F : Nat → Int} {G : Nat → Int → Int} {Rw : Int → List Int} {b : Nat → Nat} {c : Int → Nat → Nat} {I : Nat → Int} {Q : Nat → Int → Int} {P : Int → Nat → Int} {T : Int → Nat → Int → Int} {N : Nat} {b0 o9 L : Nat} {xs : Nat → Int32} {f9 : Nat → Int64} {i : Int} {k n : Nat} (hst : l.stackTraces = false) (hx : zOK l g 7 x RL code) (hN : zNc x) (hs : zSc b0 L xs x) (hL : L ≤ 3072) (h : mI F G Rw) (r : RD F G Rw I Q P T N) (hb : N = 0 → b 13 = g.2.2.2.2.2) (i0 : 0 ≤ i) (i1 : i + 6 ≤ (L : Int)) (hk : k + 10 ≤ 601024 ∧ n + 214 ≤ 7293034) (J : zJ l g x a b0 o9 (b 0) i (k + 10) (n + 214)) : Z l g room_1 7 x k n (wS g (b, c, I, Q, P, T, N) (oC g o9 f9 :: mW g a F G [])) 661 [(0, .ref b0), (1, .ref (b 0)), (2, .ref (a 0)), (3, .ref o9), (4, vi i)] [] := by
  refine zz_aload_n hx dL_law_661 rfl ?_
  refine zz_aload_n hx dL_law_662 rfl ?_
  refine zz_iload hx dL_law_663 rfl ?_
  refine zz_iconst hx dL_law_665 ?_
  refine zz_iadd hx dL_law_666 ?_
  refine zz_sld hx hs hL (by omega) (by omega) dL_law_667 ?_
  refine zz_aload_n hx dL_law_668 rfl ?_
  refine zz_iload hx dL_law_669 rfl ?_
  refine zz_iconst hx dL_law_671 ?_
  refine zz_iadd hx dL_law_672 ?_
  refine zz_sld hx hs hL (by omega) (by omega) dL_law_673 ?_
  refine zz_neq0 hx dL_law_674 dL_law_677 dL_law_678 dL_law_681 (vi_rng _) ?_
  refine zz_aload_n hx dL_law_682 rfl ?_
  refine zz_callW hx hN mw_L_findOf lk_L_121 (w_findOf hst h r hb o9 f9 (xs (i + 1).toNat).toInt (vi_rng _) (zb ((xs (i + 2).toNat).toInt ≠ 0)) (zb_01 _)) ⟨rfl, rfl⟩ (by decide) ⟨by show k + 1 ≤ 601024; omega, by show n + 6 ≤ 7293034; omega⟩ rfl rfl (Nat.le_of_ble_eq_true rfl) dL_law_683 (fun k9 w9 hp9 => ?_)
  obtain ⟨S', v9, f1, rfl, hv9, hc9⟩ := hp9
  refine zz_istore (lv' := [(0, _), (1, _), (2, _), (3, _), (4, _), (5, _)]) hx dL_law_686 (by decide) rfl ?_
  refine zz_perm (pM g S' (oC g o9 f1) a F G) ?_
  refine zz_aload_n hx dL_law_688 rfl ?_
  refine zz_aload_n hx dL_law_689 rfl ?_
  refine zz_iload hx dL_law_690 rfl ?_
  refine zz_iconst hx dL_law_692 ?_
  refine zz_iadd hx dL_law_693 ?_
  refine zz_sld hx hs hL (by omega) (by omega) dL_law_694 ?_
  refine zz_aload_n hx dL_law_695 rfl ?_
  refine zz_iload hx dL_law_696 rfl ?_
  refine zz_iconst hx dL_law_698 ?_
  refine zz_iadd hx dL_law_699 ?_
  refine zz_sld hx hs hL (by omega) (by omega) dL_law_700 ?_
  refine zz_neq0 hx dL_law_701 dL_law_704 dL_law_705 dL_law_708 (vi_rng _) ?_
  refine zz_callVi hx me_X4_findOf lk_L_124 (c_findOf hst h (xs (i + 1).toNat).toInt (vi_rng _) (zb ((xs (i + 2).toNat).toInt ≠ 0)) (zb_01 _)) 0 rfl rfl ⟨rfl, rfl⟩ (by decide) ⟨by show k + 1 + 0 ≤ 601024; omega, by show n + 6 + 0 ≤ 7293034; omega⟩ rfl rfl (Nat.le_of_ble_eq_true rfl) dL_law_709 (fun _ _ h9 => h9.elim) (fun b9 w8 hm9 => ?_)
  obtain ⟨F', G', Rw', rfl, h18, hvb, h', r', hb0⟩ := fin_findOf (a := a) h r hb (xs (i + 1).toNat).toInt (vi_rng _) (zb ((xs (i + 2).toNat).toInt ≠ 0)) (zb_01 _) hc9 hm9
  refine zz_istore (lv' := [(0, _), (1, _), (2, _), (3, _), (4, _), (5, _), (6, _)]) hx dL_law_712 (by decide) rfl ?_
  refine zz_aload_n hx dL_law_714 rfl ?_
  refine zz_callVi hx me_X4_thrown lk_L_93 (c_thrown hst) 0 rfl rfl ⟨rfl, rfl⟩ (by decide) ⟨by show k + 1 + 0 + 0 ≤ 601024; omega, by show n + 6 + 0 + 0 ≤ 7293034; omega⟩ rfl rfl (Nat.le_of_ble_eq_true rfl) dL_law_715 (fun _ _ h9 => h9.elim) (fun r9 w7 ht9 => ?_)
  obtain ⟨rfl, rfl⟩ := ht9
  rw [h18]
  refine zz_iload hx dL_law_718 rfl ?_
  refine zz_icmp_same hx 725 dL_law_720 rfl rfl ?_
  refine zz_iload hx dL_law_725 rfl ?_
  have hk9 := zCl_k hc9
  refine zz_if_ne hx 742 dL_law_727 rfl (by omega) (fun e9 => ?_) (fun e9 => ?_)
  · refine zz_goto hx 1652 dL_law_742 rfl ?_
    refine zz_perm (pM g S' (oC g o9 f1) a F' G').symm ?_
    exact zJ_to J (by omega) (by omega) h' r' hb0 [(5, _), (6, _)]
  · refine zz_aload_n hx dL_law_730 rfl ?_
    refine zz_iconst hx dL_law_731 ?_
    refine zz_perm ((pM g S' (oC g o9 f1) a F' G').symm.trans (pO g S' (oC g o9 f1) (mW g a F' G' []))) ?_
    refine zz_lald hx 0 rfl dL_law_732 ?_
    refine zz_iload hx dL_law_733 rfl ?_
    refine zz_i2l hx dL_law_735 ?_
    refine zz_lcmp hx dL_law_736 (by rw [hv9 e9, hvb e9]) ?_
    refine zz_if_eq hx 742 dL_law_737 rfl zr0 (fun _ => ?_) (fun z9 => absurd rfl z9)
    refine zz_goto hx 1652 dL_law_742 rfl ?_
    refine zz_perm (pO g S' (oC g o9 f1) (mW g a F' G' [])).symm ?_
    exact zJ_to J (by omega) (by omega) h' r' hb0 [(5, _), (6, _)]

set_option maxHeartbeats 4000000 in
set_option maxRecDepth 100000 in
theorem lc_findEnd {l : Launch} {g : zG} {x : zX} {a : Nat → Nat} {F : Nat → Int} {G : Nat → Int → Int} {Rw : Int → List Int} {b : Nat → Nat} {c : Int → Nat → Nat} {I : Nat → Int} {Q : Nat → Int → Int} {P : Int → Nat → Int} {T : Int → Nat → Int → Int} {N : Nat} {b0 o9 L : Nat} {xs : Nat → Int32} {f9 : Nat → Int64} {i : Int} {k n : Nat} (hst : l.stackTraces = false) (hx : zOK l g 7 x RL code) (hN : zNc x) (hs : zSc b0 L xs x) (hL : L ≤ 3072) (h : mI F G Rw) (r : RD F G Rw I Q P T N) (hb : N = 0 → b 13 = g.2.2.2.2.2) (i0 : 0 ≤ i) (i1 : i + 6 ≤ (L : Int)) (hk : k + 10 ≤ 601024 ∧ n + 214 ≤ 7293034) (J : zJ l g x a b0 o9 (b 0) i (k + 10) (n + 214)) : Z l g room_1 7 x k n (wS g (b, c, I, Q, P, T, N) (oC g o9 f9 :: mW g a F G [])) 745 [(0, .ref b0), (1, .ref (b 0)), (2, .ref (a 0)), (3, .ref o9), (4, vi i)] [] := by
  refine zz_aload_n hx dL_law_745 rfl ?_
  refine zz_aload_n hx dL_law_746 rfl ?_
  refine zz_iload hx dL_law_747 rfl ?_
  refine zz_iconst hx dL_law_749 ?_
  refine zz_iadd hx dL_law_750 ?_
  refine zz_sld hx hs hL (by omega) (by omega) dL_law_751 ?_
  refine zz_aload_n hx dL_law_752 rfl ?_
  refine zz_iload hx dL_law_753 rfl ?_
  refine zz_iconst hx dL_law_755 ?_
  refine zz_iadd hx dL_law_756 ?_
  refine zz_sld hx hs hL (by omega) (by omega) dL_law_757 ?_
  refine zz_neq0 hx dL_law_758 dL_law_761 dL_law_762 dL_law_765 (vi_rng _) ?_
  refine zz_aload_n hx dL_law_766 rfl ?_
  refine zz_callW hx hN mw_L_findEnd lk_L_125 (w_findEnd hst h r hb o9 f9 (xs (i + 1).toNat).toInt (vi_rng _) (zb ((xs (i + 2).toNat).toInt ≠ 0)) (zb_01 _)) ⟨rfl, rfl⟩ (by decide) ⟨by show k + 1 ≤ 601024; omega, by show n + 6 ≤ 7293034; omega⟩ rfl rfl (Nat.le_of_ble_eq_true rfl) dL_law_767 (fun k9 w9 hp9 => ?_)
  obtain ⟨S', v9, f1, rfl, hv9, hc9⟩ := hp9
  refine zz_istore (lv' := [(0, _), (1, _), (2, _), (3, _), (4, _), (5, _)]) hx dL_law_770 (by decide) rfl ?_
  refine zz_perm (pM g S' (oC g o9 f1) a F G) ?_
  refine zz_aload_n hx dL_law_772 rfl ?_
  refine zz_aload_n hx dL_law_773 rfl ?_
  refine zz_iload hx dL_law_774 rfl ?_
  refine zz_iconst hx dL_law_776 ?_
  refine zz_iadd hx dL_law_777 ?_
  refine zz_sld hx hs hL (by omega) (by omega) dL_law_778 ?_
  refine zz_aload_n hx dL_law_779 rfl ?_
  refine zz_iload hx dL_law_780 rfl ?_
  refine zz_iconst hx dL_law_782 ?_
  refine zz_iadd hx dL_law_783 ?_
  refine zz_sld hx hs hL (by omega) (by omega) dL_law_784 ?_
  refine zz_neq0 hx dL_law_785 dL_law_788 dL_law_789 dL_law_792 (vi_rng _) ?_
  refine zz_callVi hx me_X4_findEnd lk_L_127 (c_findEnd hst h (xs (i + 1).toNat).toInt (vi_rng _) (zb ((xs (i + 2).toNat).toInt ≠ 0)) (zb_01 _)) 0 rfl rfl ⟨rfl, rfl⟩ (by decide) ⟨by show k + 1 + 0 ≤ 601024; omega, by show n + 6 + 0 ≤ 7293034; omega⟩ rfl rfl (Nat.le_of_ble_eq_true rfl) dL_law_793 (fun _ _ h9 => h9.elim) (fun b9 w8 hm9 => ?_)
  obtain ⟨F', G', Rw', rfl, h18, hvb, h', r', hb0⟩ := fin_findEnd (a := a) h r hb (xs (i + 1).toNat).toInt (vi_rng _) (zb ((xs (i + 2).toNat).toInt ≠ 0)) (zb_01 _) hc9 hm9
  refine zz_istore (lv' := [(0, _), (1, _), (2, _), (3, _), (4, _), (5, _), (6, _)]) hx dL_law_796 (by decide) rfl ?_
  refine zz_aload_n hx dL_law_798 rfl ?_
  refine zz_callVi hx me_X4_thrown lk_L_93 (c_thrown hst) 0 rfl rfl ⟨rfl, rfl⟩ (by decide) ⟨by show k + 1 + 0 + 0 ≤ 601024; omega, by show n + 6 + 0 + 0 ≤ 7293034; omega⟩ rfl rfl (Nat.le_of_ble_eq_true rfl) dL_law_799 (fun _ _ h9 => h9.elim) (fun r9 w7 ht9 => ?_)
  obtain ⟨rfl, rfl⟩ := ht9
  rw [h18]
  refine zz_iload hx dL_law_802 rfl ?_
  refine zz_icmp_same hx 809 dL_law_804 rfl rfl ?_
  refine zz_iload hx dL_law_809 rfl ?_
  have hk9 := zCl_k hc9
  refine zz_if_ne hx 826 dL_law_811 rfl (by omega) (fun e9 => ?_) (fun e9 => ?_)
  · refine zz_goto hx 1652 dL_law_826 rfl ?_
    refine zz_perm (pM g S' (oC g o9 f1) a F' G').symm ?_
    exact zJ_to J (by omega) (by omega) h' r' hb0 [(5, _), (6, _)]
  · refine zz_aload_n hx dL_law_814 rfl ?_
    refine zz_iconst hx dL_law_815 ?_
    refine zz_perm ((pM g S' (oC g o9 f1) a F' G').symm.trans (pO g S' (oC g o9 f1) (mW g a F' G' []))) ?_
    refine zz_lald hx 0 rfl dL_law_816 ?_
    refine zz_iload hx dL_law_817 rfl ?_
    refine zz_i2l hx dL_law_819 ?_
    refine zz_lcmp hx dL_law_820 (by rw [hv9 e9, hvb e9]) ?_
    refine zz_if_eq hx 826 dL_law_821 rfl zr0 (fun _ => ?_) (fun z9 => absurd rfl z9)
    refine zz_goto hx 1652 dL_law_826 rfl ?_
    refine zz_perm (pO g S' (oC g o9 f1) (mW g a F' G' [])).symm ?_
    exact zJ_to J (by omega) (by omega) h' r' hb0 [(5, _), (6, _)]

set_option maxHeartbeats 4000000 in
set_option maxRecDepth 100000 in
theorem lc_findNext {l : Launch} {g : zG} {x : zX} {a : Nat → Nat} {F : Nat → Int} {G : Nat → Int → Int} {Rw : Int → List Int} {b : Nat → Nat} {c : Int → Nat → Nat} {I : Nat → Int} {Q : Nat → Int → Int} {P : Int → Nat → Int} {T : Int → Nat → Int → Int} {N : Nat} {b0 o9 L : Nat} {xs : Nat → Int32} {f9 : Nat → Int64} {i : Int} {k n : Nat} (hst : l.stackTraces = false) (hx : zOK l g 7 x RL code) (hN : zNc x) (hs : zSc b0 L xs x) (hL : L ≤ 3072) (h : mI F G Rw) (r : RD F G Rw I Q P T N) (hb : N = 0 → b 13 = g.2.2.2.2.2) (i0 : 0 ≤ i) (i1 : i + 6 ≤ (L : Int)) (hk : k + 10 ≤ 601024 ∧ n + 214 ≤ 7293034) (J : zJ l g x a b0 o9 (b 0) i (k + 10) (n + 214)) : Z l g room_1 7 x k n (wS g (b, c, I, Q, P, T, N) (oC g o9 f9 :: mW g a F G [])) 829 [(0, .ref b0), (1, .ref (b 0)), (2, .ref (a 0)), (3, .ref o9), (4, vi i)] [] := by
  refine zz_aload_n hx dL_law_829 rfl ?_
  refine zz_aload_n hx dL_law_830 rfl ?_
  refine zz_iload hx dL_law_831 rfl ?_
  refine zz_iconst hx dL_law_833 ?_
  refine zz_iadd hx dL_law_834 ?_
  refine zz_sld hx hs hL (by omega) (by omega) dL_law_835 ?_
  refine zz_aload_n hx dL_law_836 rfl ?_
  refine zz_iload hx dL_law_837 rfl ?_
  refine zz_iconst hx dL_law_839 ?_
  refine zz_iadd hx dL_law_840 ?_
  refine zz_sld hx hs hL (by omega) (by omega) dL_law_841 ?_
  refine zz_neq0 hx dL_law_842 dL_law_845 dL_law_846 dL_law_849 (vi_rng _) ?_
  refine zz_aload_n hx dL_law_850 rfl ?_
  refine zz_callW hx hN mw_L_findNext lk_L_128 (w_findNext hst h r hb o9 f9 (xs (i + 1).toNat).toInt (vi_rng _) (zb ((xs (i + 2).toNat).toInt ≠ 0)) (zb_01 _)) ⟨rfl, rfl⟩ (by decide) ⟨by show k + 1 ≤ 601024; omega, by show n + 6 ≤ 7293034; omega⟩ rfl rfl (Nat.le_of_ble_eq_true rfl) dL_law_851 (fun k9 w9 hp9 => ?_)
  obtain ⟨S', v9, f1, rfl, hv9, hc9⟩ := hp9
  refine zz_istore (lv' := [(0, _), (1, _), (2, _), (3, _), (4, _), (5, _)]) hx dL_law_854 (by decide) rfl ?_
  refine zz_perm (pM g S' (oC g o9 f1) a F G) ?_
  refine zz_aload_n hx dL_law_856 rfl ?_
  refine zz_aload_n hx dL_law_857 rfl ?_
  refine zz_iload hx dL_law_858 rfl ?_
  refine zz_iconst hx dL_law_860 ?_
  refine zz_iadd hx dL_law_861 ?_
  refine zz_sld hx hs hL (by omega) (by omega) dL_law_862 ?_
  refine zz_aload_n hx dL_law_863 rfl ?_
  refine zz_iload hx dL_law_864 rfl ?_
  refine zz_iconst hx dL_law_866 ?_
  refine zz_iadd hx dL_law_867 ?_
  refine zz_sld hx hs hL (by omega) (by omega) dL_law_868 ?_
  refine zz_neq0 hx dL_law_869 dL_law_872 dL_law_873 dL_law_876 (vi_rng _) ?_
  refine zz_callVi hx me_X4_findNext lk_L_130 (c_findNext hst h (xs (i + 1).toNat).toInt (vi_rng _) (zb ((xs (i + 2).toNat).toInt ≠ 0)) (zb_01 _)) 0 rfl rfl ⟨rfl, rfl⟩ (by decide) ⟨by show k + 1 + 0 ≤ 601024; omega, by show n + 6 + 0 ≤ 7293034; omega⟩ rfl rfl (Nat.le_of_ble_eq_true rfl) dL_law_877 (fun _ _ h9 => h9.elim) (fun b9 w8 hm9 => ?_)
  obtain ⟨F', G', Rw', rfl, h18, hvb, h', r', hb0⟩ := fin_findNext (a := a) h r hb (xs (i + 1).toNat).toInt (vi_rng _) (zb ((xs (i + 2).toNat).toInt ≠ 0)) (zb_01 _) hc9 hm9
  refine zz_istore (lv' := [(0, _), (1, _), (2, _), (3, _), (4, _), (5, _), (6, _)]) hx dL_law_880 (by decide) rfl ?_
  refine zz_aload_n hx dL_law_882 rfl ?_
  refine zz_callVi hx me_X4_thrown lk_L_93 (c_thrown hst) 0 rfl rfl ⟨rfl, rfl⟩ (by decide) ⟨by show k + 1 + 0 + 0 ≤ 601024; omega, by show n + 6 + 0 + 0 ≤ 7293034; omega⟩ rfl rfl (Nat.le_of_ble_eq_true rfl) dL_law_883 (fun _ _ h9 => h9.elim) (fun r9 w7 ht9 => ?_)
  obtain ⟨rfl, rfl⟩ := ht9
  rw [h18]
  refine zz_iload hx dL_law_886 rfl ?_
  refine zz_icmp_same hx 893 dL_law_888 rfl rfl ?_
  refine zz_iload hx dL_law_893 rfl ?_
  have hk9 := zCl_k hc9
  refine zz_if_ne hx 910 dL_law_895 rfl (by omega) (fun e9 => ?_) (fun e9 => ?_)
  · refine zz_goto hx 1652 dL_law_910 rfl ?_
    refine zz_perm (pM g S' (oC g o9 f1) a F' G').symm ?_
    exact zJ_to J (by omega) (by omega) h' r' hb0 [(5, _), (6, _)]
  · refine zz_aload_n hx dL_law_898 rfl ?_
    refine zz_iconst hx dL_law_899 ?_
    refine zz_perm ((pM g S' (oC g o9 f1) a F' G').symm.trans (pO g S' (oC g o9 f1) (mW g a F' G' []))) ?_
    refine zz_lald hx 0 rfl dL_law_900 ?_
    refine zz_iload hx dL_law_901 rfl ?_
    refine zz_i2l hx dL_law_903 ?_
    refine zz_lcmp hx dL_law_904 (by rw [hv9 e9, hvb e9]) ?_
    refine zz_if_eq hx 910 dL_law_905 rfl zr0 (fun _ => ?_) (fun z9 => absurd rfl z9)
    refine zz_goto hx 1652 dL_law_910 rfl ?_
    refine zz_perm (pO g S' (oC g o9 f1) (mW g a F' G' [])).symm ?_
    exact zJ_to J (by omega) (by omega) h' r' hb0 [(5, _), (6, _)]

set_option maxHeartbeats 4000000 in
set_option maxRecDepth 100000 in
theorem lc_findOwner {l : Launch} {g : zG} {x : zX} {a : Nat → Nat} {F : Nat → Int} {G : Nat → Int → Int} {Rw : Int → List Int} {b : Nat → Nat} {c : Int → Nat → Nat} {I : Nat → Int} {Q : Nat → Int → Int} {P : Int → Nat → Int} {T : Int → Nat → Int → Int} {N : Nat} {b0 o9 L : Nat} {xs : Nat → Int32} {f9 : Nat → Int64} {i : Int} {k n : Nat} (hst : l.stackTraces = false) (hx : zOK l g 7 x RL code) (hN : zNc x) (hs : zSc b0 L xs x) (hL : L ≤ 3072) (h : mI F G Rw) (r : RD F G Rw I Q P T N) (hb : N = 0 → b 13 = g.2.2.2.2.2) (i0 : 0 ≤ i) (i1 : i + 6 ≤ (L : Int)) (hk : k + 10 ≤ 601024 ∧ n + 214 ≤ 7293034) (J : zJ l g x a b0 o9 (b 0) i (k + 10) (n + 214)) : Z l g room_1 7 x k n (wS g (b, c, I, Q, P, T, N) (oC g o9 f9 :: mW g a F G [])) 913 [(0, .ref b0), (1, .ref (b 0)), (2, .ref (a 0)), (3, .ref o9), (4, vi i)] [] := by
  refine zz_aload_n hx dL_law_913 rfl ?_
  refine zz_aload_n hx dL_law_914 rfl ?_
  refine zz_iload hx dL_law_915 rfl ?_
  refine zz_iconst hx dL_law_917 ?_
  refine zz_iadd hx dL_law_918 ?_
  refine zz_sld hx hs hL (by omega) (by omega) dL_law_919 ?_
  refine zz_aload_n hx dL_law_920 rfl ?_
  refine zz_callW hx hN mw_L_findOwner lk_L_131 (w_findOwner hst h r hb o9 f9 (xs (i + 1).toNat).toInt (vi_rng _)) ⟨rfl, rfl⟩ (by decide) ⟨by show k + 1 ≤ 601024; omega, by show n + 6 ≤ 7293034; omega⟩ rfl rfl (Nat.le_of_ble_eq_true rfl) dL_law_921 (fun k9 w9 hp9 => ?_)
  obtain ⟨S', v9, f1, rfl, hv9, hc9⟩ := hp9
  refine zz_istore (lv' := [(0, _), (1, _), (2, _), (3, _), (4, _), (5, _)]) hx dL_law_924 (by decide) rfl ?_
  refine zz_perm (pM g S' (oC g o9 f1) a F G) ?_
  refine zz_aload_n hx dL_law_926 rfl ?_
  refine zz_aload_n hx dL_law_927 rfl ?_
  refine zz_iload hx dL_law_928 rfl ?_
  refine zz_iconst hx dL_law_930 ?_
  refine zz_iadd hx dL_law_931 ?_
  refine zz_sld hx hs hL (by omega) (by omega) dL_law_932 ?_
  refine zz_callVi hx me_X4_findOwner lk_L_133 (c_findOwner hst h (xs (i + 1).toNat).toInt (vi_rng _)) 0 rfl rfl ⟨rfl, rfl⟩ (by decide) ⟨by show k + 1 + 0 ≤ 601024; omega, by show n + 6 + 0 ≤ 7293034; omega⟩ rfl rfl (Nat.le_of_ble_eq_true rfl) dL_law_933 (fun _ _ h9 => h9.elim) (fun b9 w8 hm9 => ?_)
  obtain ⟨F', G', Rw', rfl, h18, hvb, h', r', hb0⟩ := fin_findOwner (a := a) h r hb (xs (i + 1).toNat).toInt (vi_rng _) hc9 hm9
  refine zz_istore (lv' := [(0, _), (1, _), (2, _), (3, _), (4, _), (5, _), (6, _)]) hx dL_law_936 (by decide) rfl ?_
  refine zz_aload_n hx dL_law_938 rfl ?_
  refine zz_callVi hx me_X4_thrown lk_L_93 (c_thrown hst) 0 rfl rfl ⟨rfl, rfl⟩ (by decide) ⟨by show k + 1 + 0 + 0 ≤ 601024; omega, by show n + 6 + 0 + 0 ≤ 7293034; omega⟩ rfl rfl (Nat.le_of_ble_eq_true rfl) dL_law_939 (fun _ _ h9 => h9.elim) (fun r9 w7 ht9 => ?_)
  obtain ⟨rfl, rfl⟩ := ht9
  rw [h18]
  refine zz_iload hx dL_law_942 rfl ?_
  refine zz_icmp_same hx 949 dL_law_944 rfl rfl ?_
  refine zz_iload hx dL_law_949 rfl ?_
  have hk9 := zCl_k hc9
  refine zz_if_ne hx 966 dL_law_951 rfl (by omega) (fun e9 => ?_) (fun e9 => ?_)
  · refine zz_goto hx 1652 dL_law_966 rfl ?_
    refine zz_perm (pM g S' (oC g o9 f1) a F' G').symm ?_
    exact zJ_to J (by omega) (by omega) h' r' hb0 [(5, _), (6, _)]
  · refine zz_aload_n hx dL_law_954 rfl ?_
    refine zz_iconst hx dL_law_955 ?_
    refine zz_perm ((pM g S' (oC g o9 f1) a F' G').symm.trans (pO g S' (oC g o9 f1) (mW g a F' G' []))) ?_
    refine zz_lald hx 0 rfl dL_law_956 ?_
    refine zz_iload hx dL_law_957 rfl ?_
    refine zz_i2l hx dL_law_959 ?_
    refine zz_lcmp hx dL_law_960 (by rw [hv9 e9, hvb e9]) ?_
    refine zz_if_eq hx 966 dL_law_961 rfl zr0 (fun _ => ?_) (fun z9 => absurd rfl z9)
    refine zz_goto hx 1652 dL_law_966 rfl ?_
    refine zz_perm (pO g S' (oC g o9 f1) (mW g a F' G' [])).symm ?_
    exact zJ_to J (by omega) (by omega) h' r' hb0 [(5, _), (6, _)]

set_option maxHeartbeats 4000000 in
set_option maxRecDepth 100000 in
theorem lc_findValue {l : Launch} {g : zG} {x : zX} {a : Nat → Nat} {F : Nat → Int} {G : Nat → Int → Int} {Rw : Int → List Int} {b : Nat → Nat} {c : Int → Nat → Nat} {I : Nat → Int} {Q : Nat → Int → Int} {P : Int → Nat → Int} {T : Int → Nat → Int → Int} {N : Nat} {b0 o9 L : Nat} {xs : Nat → Int32} {f9 : Nat → Int64} {i : Int} {k n : Nat} (hst : l.stackTraces = false) (hx : zOK l g 7 x RL code) (hN : zNc x) (hs : zSc b0 L xs x) (hL : L ≤ 3072) (h : mI F G Rw) (r : RD F G Rw I Q P T N) (hb : N = 0 → b 13 = g.2.2.2.2.2) (i0 : 0 ≤ i) (i1 : i + 6 ≤ (L : Int)) (hk : k + 10 ≤ 601024 ∧ n + 214 ≤ 7293034) (J : zJ l g x a b0 o9 (b 0) i (k + 10) (n + 214)) : Z l g room_1 7 x k n (wS g (b, c, I, Q, P, T, N) (oC g o9 f9 :: mW g a F G [])) 969 [(0, .ref b0), (1, .ref (b 0)), (2, .ref (a 0)), (3, .ref o9), (4, vi i)] [] := by
  refine zz_aload_n hx dL_law_969 rfl ?_
  refine zz_aload_n hx dL_law_970 rfl ?_
  refine zz_iload hx dL_law_971 rfl ?_
  refine zz_iconst hx dL_law_973 ?_
  refine zz_iadd hx dL_law_974 ?_
  refine zz_sld hx hs hL (by omega) (by omega) dL_law_975 ?_
  refine zz_aload_n hx dL_law_976 rfl ?_
  refine zz_iload hx dL_law_977 rfl ?_
  refine zz_iconst hx dL_law_979 ?_
  refine zz_iadd hx dL_law_980 ?_
  refine zz_sld hx hs hL (by omega) (by omega) dL_law_981 ?_
  refine zz_aload_n hx dL_law_982 rfl ?_
  refine zz_callW hx hN mw_L_findValue lk_L_134 (w_findValue hst h r hb o9 f9 (xs (i + 1).toNat).toInt (vi_rng _) (xs (i + 2).toNat).toInt (vi_rng _)) ⟨rfl, rfl⟩ (by decide) ⟨by show k + 1 ≤ 601024; omega, by show n + 6 ≤ 7293034; omega⟩ rfl rfl (Nat.le_of_ble_eq_true rfl) dL_law_983 (fun k9 w9 hp9 => ?_)
  obtain ⟨S', v9, f1, rfl, hv9, hc9⟩ := hp9
  refine zz_istore (lv' := [(0, _), (1, _), (2, _), (3, _), (4, _), (5, _)]) hx dL_law_986 (by decide) rfl ?_
  refine zz_perm (pM g S' (oC g o9 f1) a F G) ?_
  refine zz_aload_n hx dL_law_988 rfl ?_
  refine zz_aload_n hx dL_law_989 rfl ?_
  refine zz_iload hx dL_law_990 rfl ?_
  refine zz_iconst hx dL_law_992 ?_
  refine zz_iadd hx dL_law_993 ?_
  refine zz_sld hx hs hL (by omega) (by omega) dL_law_994 ?_
  refine zz_aload_n hx dL_law_995 rfl ?_
  refine zz_iload hx dL_law_996 rfl ?_
  refine zz_iconst hx dL_law_998 ?_
  refine zz_iadd hx dL_law_999 ?_
  refine zz_sld hx hs hL (by omega) (by omega) dL_law_1000 ?_
  refine zz_callVi hx me_X4_findValue lk_L_136 (c_findValue hst h (xs (i + 1).toNat).toInt (vi_rng _) (xs (i + 2).toNat).toInt (vi_rng _)) 0 rfl rfl ⟨rfl, rfl⟩ (by decide) ⟨by show k + 1 + 0 ≤ 601024; omega, by show n + 6 + 0 ≤ 7293034; omega⟩ rfl rfl (Nat.le_of_ble_eq_true rfl) dL_law_1001 (fun _ _ h9 => h9.elim) (fun b9 w8 hm9 => ?_)
  obtain ⟨F', G', Rw', rfl, h18, hvb, h', r', hb0⟩ := fin_findValue (a := a) h r hb (xs (i + 1).toNat).toInt (vi_rng _) (xs (i + 2).toNat).toInt (vi_rng _) hc9 hm9
  refine zz_istore (lv' := [(0, _), (1, _), (2, _), (3, _), (4, _), (5, _), (6, _)]) hx dL_law_1004 (by decide) rfl ?_
  refine zz_aload_n hx dL_law_1006 rfl ?_
  refine zz_callVi hx me_X4_thrown lk_L_93 (c_thrown hst) 0 rfl rfl ⟨rfl, rfl⟩ (by decide) ⟨by show k + 1 + 0 + 0 ≤ 601024; omega, by show n + 6 + 0 + 0 ≤ 7293034; omega⟩ rfl rfl (Nat.le_of_ble_eq_true rfl) dL_law_1007 (fun _ _ h9 => h9.elim) (fun r9 w7 ht9 => ?_)
  obtain ⟨rfl, rfl⟩ := ht9
  rw [h18]
  refine zz_iload hx dL_law_1010 rfl ?_
  refine zz_icmp_same hx 1017 dL_law_1012 rfl rfl ?_
  refine zz_iload hx dL_law_1017 rfl ?_
  have hk9 := zCl_k hc9
  refine zz_if_ne hx 1034 dL_law_1019 rfl (by omega) (fun e9 => ?_) (fun e9 => ?_)
  · refine zz_goto hx 1652 dL_law_1034 rfl ?_
    refine zz_perm (pM g S' (oC g o9 f1) a F' G').symm ?_
    exact zJ_to J (by omega) (by omega) h' r' hb0 [(5, _), (6, _)]
  · refine zz_aload_n hx dL_law_1022 rfl ?_
    refine zz_iconst hx dL_law_1023 ?_
    refine zz_perm ((pM g S' (oC g o9 f1) a F' G').symm.trans (pO g S' (oC g o9 f1) (mW g a F' G' []))) ?_
    refine zz_lald hx 0 rfl dL_law_1024 ?_
    refine zz_iload hx dL_law_1025 rfl ?_
    refine zz_i2l hx dL_law_1027 ?_
    refine zz_lcmp hx dL_law_1028 (by rw [hv9 e9, hvb e9]) ?_
    refine zz_if_eq hx 1034 dL_law_1029 rfl zr0 (fun _ => ?_) (fun z9 => absurd rfl z9)
    refine zz_goto hx 1652 dL_law_1034 rfl ?_
    refine zz_perm (pO g S' (oC g o9 f1) (mW g a F' G' [])).symm ?_
    exact zJ_to J (by omega) (by omega) h' r' hb0 [(5, _), (6, _)]

set_option maxHeartbeats 4000000 in
set_option maxRecDepth 100000 in
theorem lc_setTypes {l : Launch} {g : zG} {x : zX} {a : Nat → Nat} {F : Nat → Int} {G : Nat → Int → Int} {Rw : Int → List Int} {b : Nat → Nat} {c : Int → Nat → Nat} {I : Nat → Int} {Q : Nat → Int → Int} {P : Int → Nat → Int} {T : Int → Nat → Int → Int} {N : Nat} {b0 o9 L : Nat} {xs : Nat → Int32} {f9 : Nat → Int64} {i : Int} {k n : Nat} (hst : l.stackTraces = false) (hx : zOK l g 7 x RL code) (hN : zNc x) (hs : zSc b0 L xs x) (hL : L ≤ 3072) (h : mI F G Rw) (r : RD F G Rw I Q P T N) (hb : N = 0 → b 13 = g.2.2.2.2.2) (i0 : 0 ≤ i) (i1 : i + 6 ≤ (L : Int)) (hk : k + 10 ≤ 601024 ∧ n + 214 ≤ 7293034) (J : zJ l g x a b0 o9 (b 0) i (k + 10) (n + 214)) : Z l g room_1 7 x k n (wS g (b, c, I, Q, P, T, N) (oC g o9 f9 :: mW g a F G [])) 1037 [(0, .ref b0), (1, .ref (b 0)), (2, .ref (a 0)), (3, .ref o9), (4, vi i)] [] := by
  refine zz_aload_n hx dL_law_1037 rfl ?_
  refine zz_eq (w' := wD g b c I Q P T N (oC g o9 f9 :: mW g a F G [])) rfl rfl ?_
  refine zz_callVi hx me_X3_setTypes lk_L_137 (k_X3_setTypes hst) 0 rfl rfl ⟨rfl, rfl⟩ (by decide) ⟨by show k + 0 ≤ 601024; omega, by show n + 0 ≤ 7293034; omega⟩ rfl rfl (Nat.le_of_ble_eq_true rfl) dL_law_1038 (fun _ _ h9 => h9.elim) (fun v9 w9 hp9 => ?_)
  obtain ⟨hv9, rfl⟩ := hp9
  refine zz_perm (pM g (b, c, I, Q, P, T, N) (oC g o9 f9) a F G) ?_
  refine zz_aload_n hx dL_law_1041 rfl ?_
  refine zz_callVi hx me_X4_setTypes lk_L_140 (c_setTypes hst) 0 rfl rfl ⟨rfl, rfl⟩ (by decide) ⟨by show k + 0 + 0 ≤ 601024; omega, by show n + 0 + 0 ≤ 7293034; omega⟩ rfl rfl (Nat.le_of_ble_eq_true rfl) dL_law_1042 (fun _ _ h9 => h9.elim) (fun b9 w8 hm9 => ?_)
  obtain ⟨F', G', Rw', rfl, h18, hvb, h', r', hb0⟩ := zEnd_q (a := a) (b := b) (c := c) (v := v9) (b' := b9) h r hb (by rw [hv9, hm9.1, r.1.2.2.2.1, r.1.2.2.2.2]) hm9.2
  refine zz_icmp_same hx 1652 dL_law_1045 rfl (hvb rfl) ?_
  refine zz_perm (pM g (b, c, I, Q, P, T, N) (oC g o9 f9) a F' G').symm ?_
  exact zJ_to J (by omega) (by omega) h' r' hb0 []

set_option maxHeartbeats 4000000 in
set_option maxRecDepth 100000 in
theorem lc_records {l : Launch} {g : zG} {x : zX} {a : Nat → Nat} {F : Nat → Int} {G : Nat → Int → Int} {Rw : Int → List Int} {b : Nat → Nat} {c : Int → Nat → Nat} {I : Nat → Int} {Q : Nat → Int → Int} {P : Int → Nat → Int} {T : Int → Nat → Int → Int} {N : Nat} {b0 o9 L : Nat} {xs : Nat → Int32} {f9 : Nat → Int64} {i : Int} {k n : Nat} (hst : l.stackTraces = false) (hx : zOK l g 7 x RL code) (hN : zNc x) (hs : zSc b0 L xs x) (hL : L ≤ 3072) (h : mI F G Rw) (r : RD F G Rw I Q P T N) (hb : N = 0 → b 13 = g.2.2.2.2.2) (i0 : 0 ≤ i) (i1 : i + 6 ≤ (L : Int)) (hk : k + 10 ≤ 601024 ∧ n + 214 ≤ 7293034) (J : zJ l g x a b0 o9 (b 0) i (k + 10) (n + 214)) : Z l g room_1 7 x k n (wS g (b, c, I, Q, P, T, N) (oC g o9 f9 :: mW g a F G [])) 1050 [(0, .ref b0), (1, .ref (b 0)), (2, .ref (a 0)), (3, .ref o9), (4, vi i)] [] := by
  refine zz_aload_n hx dL_law_1050 rfl ?_
  refine zz_eq (w' := wD g b c I Q P T N (oC g o9 f9 :: mW g a F G [])) rfl rfl ?_
  refine zz_callVi hx me_X3_records lk_L_141 (k_X3_records hst) 0 rfl rfl ⟨rfl, rfl⟩ (by decide) ⟨by show k + 0 ≤ 601024; omega, by show n + 0 ≤ 7293034; omega⟩ rfl rfl (Nat.le_of_ble_eq_true rfl) dL_law_1051 (fun _ _ h9 => h9.elim) (fun v9 w9 hp9 => ?_)
  obtain ⟨hv9, rfl⟩ := hp9
  refine zz_perm (pM g (b, c, I, Q, P, T, N) (oC g o9 f9) a F G) ?_
  refine zz_aload_n hx dL_law_1054 rfl ?_
  refine zz_callVi hx me_X4_records lk_L_144 (c_records hst) 0 rfl rfl ⟨rfl, rfl⟩ (by decide) ⟨by show k + 0 + 0 ≤ 601024; omega, by show n + 0 + 0 ≤ 7293034; omega⟩ rfl rfl (Nat.le_of_ble_eq_true rfl) dL_law_1055 (fun _ _ h9 => h9.elim) (fun b9 w8 hm9 => ?_)
  obtain ⟨F', G', Rw', rfl, h18, hvb, h', r', hb0⟩ := zEnd_q (a := a) (b := b) (c := c) (v := v9) (b' := b9) h r hb (by rw [hv9, hm9.1, r.1.2.1]) hm9.2
  refine zz_icmp_same hx 1652 dL_law_1058 rfl (hvb rfl) ?_
  refine zz_perm (pM g (b, c, I, Q, P, T, N) (oC g o9 f9) a F' G').symm ?_
  exact zJ_to J (by omega) (by omega) h' r' hb0 []

set_option maxHeartbeats 4000000 in
set_option maxRecDepth 100000 in
theorem lc_current {l : Launch} {g : zG} {x : zX} {a : Nat → Nat} {F : Nat → Int} {G : Nat → Int → Int} {Rw : Int → List Int} {b : Nat → Nat} {c : Int → Nat → Nat} {I : Nat → Int} {Q : Nat → Int → Int} {P : Int → Nat → Int} {T : Int → Nat → Int → Int} {N : Nat} {b0 o9 L : Nat} {xs : Nat → Int32} {f9 : Nat → Int64} {i : Int} {k n : Nat} (hst : l.stackTraces = false) (hx : zOK l g 7 x RL code) (hN : zNc x) (hs : zSc b0 L xs x) (hL : L ≤ 3072) (h : mI F G Rw) (r : RD F G Rw I Q P T N) (hb : N = 0 → b 13 = g.2.2.2.2.2) (i0 : 0 ≤ i) (i1 : i + 6 ≤ (L : Int)) (hk : k + 10 ≤ 601024 ∧ n + 214 ≤ 7293034) (J : zJ l g x a b0 o9 (b 0) i (k + 10) (n + 214)) : Z l g room_1 7 x k n (wS g (b, c, I, Q, P, T, N) (oC g o9 f9 :: mW g a F G [])) 1063 [(0, .ref b0), (1, .ref (b 0)), (2, .ref (a 0)), (3, .ref o9), (4, vi i)] [] := by
  refine zz_aload_n hx dL_law_1063 rfl ?_
  refine zz_eq (w' := wD g b c I Q P T N (oC g o9 f9 :: mW g a F G [])) rfl rfl ?_
  refine zz_callVi hx me_X3_current lk_L_145 (k_X3_current hst) 0 rfl rfl ⟨rfl, rfl⟩ (by decide) ⟨by show k + 0 ≤ 601024; omega, by show n + 0 ≤ 7293034; omega⟩ rfl rfl (Nat.le_of_ble_eq_true rfl) dL_law_1064 (fun _ _ h9 => h9.elim) (fun v9 w9 hp9 => ?_)
  obtain ⟨hv9, rfl⟩ := hp9
  refine zz_perm (pM g (b, c, I, Q, P, T, N) (oC g o9 f9) a F G) ?_
  refine zz_aload_n hx dL_law_1067 rfl ?_
  refine zz_callVi hx me_X4_current lk_L_148 (c_current hst) 0 rfl rfl ⟨rfl, rfl⟩ (by decide) ⟨by show k + 0 + 0 ≤ 601024; omega, by show n + 0 + 0 ≤ 7293034; omega⟩ rfl rfl (Nat.le_of_ble_eq_true rfl) dL_law_1068 (fun _ _ h9 => h9.elim) (fun b9 w8 hm9 => ?_)
  obtain ⟨F', G', Rw', rfl, h18, hvb, h', r', hb0⟩ := zEnd_q (a := a) (b := b) (c := c) (v := v9) (b' := b9) h r hb (by rw [hv9, hm9.1, r.1.2.2.1]) hm9.2
  refine zz_icmp_same hx 1652 dL_law_1071 rfl (hvb rfl) ?_
  refine zz_perm (pM g (b, c, I, Q, P, T, N) (oC g o9 f9) a F' G').symm ?_
  exact zJ_to J (by omega) (by omega) h' r' hb0 []

set_option maxHeartbeats 4000000 in
set_option maxRecDepth 100000 in
theorem lc_currentOf {l : Launch} {g : zG} {x : zX} {a : Nat → Nat} {F : Nat → Int} {G : Nat → Int → Int} {Rw : Int → List Int} {b : Nat → Nat} {c : Int → Nat → Nat} {I : Nat → Int} {Q : Nat → Int → Int} {P : Int → Nat → Int} {T : Int → Nat → Int → Int} {N : Nat} {b0 o9 L : Nat} {xs : Nat → Int32} {f9 : Nat → Int64} {i : Int} {k n : Nat} (hst : l.stackTraces = false) (hx : zOK l g 7 x RL code) (hN : zNc x) (hs : zSc b0 L xs x) (hL : L ≤ 3072) (h : mI F G Rw) (r : RD F G Rw I Q P T N) (hb : N = 0 → b 13 = g.2.2.2.2.2) (i0 : 0 ≤ i) (i1 : i + 6 ≤ (L : Int)) (hk : k + 10 ≤ 601024 ∧ n + 214 ≤ 7293034) (J : zJ l g x a b0 o9 (b 0) i (k + 10) (n + 214)) : Z l g room_1 7 x k n (wS g (b, c, I, Q, P, T, N) (oC g o9 f9 :: mW g a F G [])) 1076 [(0, .ref b0), (1, .ref (b 0)), (2, .ref (a 0)), (3, .ref o9), (4, vi i)] [] := by
  refine zz_aload_n hx dL_law_1076 rfl ?_
  refine zz_aload_n hx dL_law_1077 rfl ?_
  refine zz_iload hx dL_law_1078 rfl ?_
  refine zz_iconst hx dL_law_1080 ?_
  refine zz_iadd hx dL_law_1081 ?_
  refine zz_sld hx hs hL (by omega) (by omega) dL_law_1082 ?_
  refine zz_aload_n hx dL_law_1083 rfl ?_
  refine zz_callW hx hN mw_L_currentOf lk_L_149 (w_currentOf hst h r hb o9 f9 (xs (i + 1).toNat).toInt (vi_rng _)) ⟨rfl, rfl⟩ (by decide) ⟨by show k + 1 ≤ 601024; omega, by show n + 6 ≤ 7293034; omega⟩ rfl rfl (Nat.le_of_ble_eq_true rfl) dL_law_1084 (fun k9 w9 hp9 => ?_)
  obtain ⟨S', v9, f1, rfl, hv9, hc9⟩ := hp9
  refine zz_istore (lv' := [(0, _), (1, _), (2, _), (3, _), (4, _), (5, _)]) hx dL_law_1087 (by decide) rfl ?_
  refine zz_perm (pM g S' (oC g o9 f1) a F G) ?_
  refine zz_aload_n hx dL_law_1089 rfl ?_
  refine zz_aload_n hx dL_law_1090 rfl ?_
  refine zz_iload hx dL_law_1091 rfl ?_
  refine zz_iconst hx dL_law_1093 ?_
  refine zz_iadd hx dL_law_1094 ?_
  refine zz_sld hx hs hL (by omega) (by omega) dL_law_1095 ?_
  refine zz_callVi hx me_X4_currentOf lk_L_151 (c_currentOf hst h (xs (i + 1).toNat).toInt (vi_rng _)) 0 rfl rfl ⟨rfl, rfl⟩ (by decide) ⟨by show k + 1 + 0 ≤ 601024; omega, by show n + 6 + 0 ≤ 7293034; omega⟩ rfl rfl (Nat.le_of_ble_eq_true rfl) dL_law_1096 (fun _ _ h9 => h9.elim) (fun b9 w8 hm9 => ?_)
  obtain ⟨F', G', Rw', rfl, h18, hvb, h', r', hb0⟩ := fin_currentOf (a := a) h r hb (xs (i + 1).toNat).toInt (vi_rng _) hc9 hm9
  refine zz_istore (lv' := [(0, _), (1, _), (2, _), (3, _), (4, _), (5, _), (6, _)]) hx dL_law_1099 (by decide) rfl ?_
  refine zz_aload_n hx dL_law_1101 rfl ?_
  refine zz_callVi hx me_X4_thrown lk_L_93 (c_thrown hst) 0 rfl rfl ⟨rfl, rfl⟩ (by decide) ⟨by show k + 1 + 0 + 0 ≤ 601024; omega, by show n + 6 + 0 + 0 ≤ 7293034; omega⟩ rfl rfl (Nat.le_of_ble_eq_true rfl) dL_law_1102 (fun _ _ h9 => h9.elim) (fun r9 w7 ht9 => ?_)
  obtain ⟨rfl, rfl⟩ := ht9
  rw [h18]
  refine zz_iload hx dL_law_1105 rfl ?_
  refine zz_icmp_same hx 1112 dL_law_1107 rfl rfl ?_
  refine zz_iload hx dL_law_1112 rfl ?_
  have hk9 := zCl_k hc9
  refine zz_if_ne hx 1129 dL_law_1114 rfl (by omega) (fun e9 => ?_) (fun e9 => ?_)
  · refine zz_goto hx 1652 dL_law_1129 rfl ?_
    refine zz_perm (pM g S' (oC g o9 f1) a F' G').symm ?_
    exact zJ_to J (by omega) (by omega) h' r' hb0 [(5, _), (6, _)]
  · refine zz_aload_n hx dL_law_1117 rfl ?_
    refine zz_iconst hx dL_law_1118 ?_
    refine zz_perm ((pM g S' (oC g o9 f1) a F' G').symm.trans (pO g S' (oC g o9 f1) (mW g a F' G' []))) ?_
    refine zz_lald hx 0 rfl dL_law_1119 ?_
    refine zz_iload hx dL_law_1120 rfl ?_
    refine zz_i2l hx dL_law_1122 ?_
    refine zz_lcmp hx dL_law_1123 (by rw [hv9 e9, hvb e9]) ?_
    refine zz_if_eq hx 1129 dL_law_1124 rfl zr0 (fun _ => ?_) (fun z9 => absurd rfl z9)
    refine zz_goto hx 1652 dL_law_1129 rfl ?_
    refine zz_perm (pO g S' (oC g o9 f1) (mW g a F' G' [])).symm ?_
    exact zJ_to J (by omega) (by omega) h' r' hb0 [(5, _), (6, _)]

set_option maxHeartbeats 4000000 in
set_option maxRecDepth 100000 in
theorem lc_currentIn {l : Launch} {g : zG} {x : zX} {a : Nat → Nat} {F : Nat → Int} {G : Nat → Int → Int} {Rw : Int → List Int} {b : Nat → Nat} {c : Int → Nat → Nat} {I : Nat → Int} {Q : Nat → Int → Int} {P : Int → Nat → Int} {T : Int → Nat → Int → Int} {N : Nat} {b0 o9 L : Nat} {xs : Nat → Int32} {f9 : Nat → Int64} {i : Int} {k n : Nat} (hst : l.stackTraces = false) (hx : zOK l g 7 x RL code) (hN : zNc x) (hs : zSc b0 L xs x) (hL : L ≤ 3072) (h : mI F G Rw) (r : RD F G Rw I Q P T N) (hb : N = 0 → b 13 = g.2.2.2.2.2) (i0 : 0 ≤ i) (i1 : i + 6 ≤ (L : Int)) (hk : k + 10 ≤ 601024 ∧ n + 214 ≤ 7293034) (J : zJ l g x a b0 o9 (b 0) i (k + 10) (n + 214)) : Z l g room_1 7 x k n (wS g (b, c, I, Q, P, T, N) (oC g o9 f9 :: mW g a F G [])) 1132 [(0, .ref b0), (1, .ref (b 0)), (2, .ref (a 0)), (3, .ref o9), (4, vi i)] [] := by
  refine zz_aload_n hx dL_law_1132 rfl ?_
  refine zz_aload_n hx dL_law_1133 rfl ?_
  refine zz_iload hx dL_law_1134 rfl ?_
  refine zz_iconst hx dL_law_1136 ?_
  refine zz_iadd hx dL_law_1137 ?_
  refine zz_sld hx hs hL (by omega) (by omega) dL_law_1138 ?_
  refine zz_aload_n hx dL_law_1139 rfl ?_
  refine zz_callW hx hN mw_L_currentIn lk_L_152 (w_currentIn hst h r hb o9 f9 (xs (i + 1).toNat).toInt (vi_rng _)) ⟨rfl, rfl⟩ (by decide) ⟨by show k + 1 ≤ 601024; omega, by show n + 6 ≤ 7293034; omega⟩ rfl rfl (Nat.le_of_ble_eq_true rfl) dL_law_1140 (fun k9 w9 hp9 => ?_)
  obtain ⟨S', v9, f1, rfl, hv9, hc9⟩ := hp9
  refine zz_istore (lv' := [(0, _), (1, _), (2, _), (3, _), (4, _), (5, _)]) hx dL_law_1143 (by decide) rfl ?_
  refine zz_perm (pM g S' (oC g o9 f1) a F G) ?_
  refine zz_aload_n hx dL_law_1145 rfl ?_
  refine zz_aload_n hx dL_law_1146 rfl ?_
  refine zz_iload hx dL_law_1147 rfl ?_
  refine zz_iconst hx dL_law_1149 ?_
  refine zz_iadd hx dL_law_1150 ?_
  refine zz_sld hx hs hL (by omega) (by omega) dL_law_1151 ?_
  refine zz_callVi hx me_X4_currentIn lk_L_154 (c_currentIn hst h (xs (i + 1).toNat).toInt (vi_rng _)) 0 rfl rfl ⟨rfl, rfl⟩ (by decide) ⟨by show k + 1 + 0 ≤ 601024; omega, by show n + 6 + 0 ≤ 7293034; omega⟩ rfl rfl (Nat.le_of_ble_eq_true rfl) dL_law_1152 (fun _ _ h9 => h9.elim) (fun b9 w8 hm9 => ?_)
  obtain ⟨F', G', Rw', rfl, h18, hvb, h', r', hb0⟩ := fin_currentIn (a := a) h r hb (xs (i + 1).toNat).toInt (vi_rng _) hc9 hm9
  refine zz_istore (lv' := [(0, _), (1, _), (2, _), (3, _), (4, _), (5, _), (6, _)]) hx dL_law_1155 (by decide) rfl ?_
  refine zz_aload_n hx dL_law_1157 rfl ?_
  refine zz_callVi hx me_X4_thrown lk_L_93 (c_thrown hst) 0 rfl rfl ⟨rfl, rfl⟩ (by decide) ⟨by show k + 1 + 0 + 0 ≤ 601024; omega, by show n + 6 + 0 + 0 ≤ 7293034; omega⟩ rfl rfl (Nat.le_of_ble_eq_true rfl) dL_law_1158 (fun _ _ h9 => h9.elim) (fun r9 w7 ht9 => ?_)
  obtain ⟨rfl, rfl⟩ := ht9
  rw [h18]
  refine zz_iload hx dL_law_1161 rfl ?_
  refine zz_icmp_same hx 1168 dL_law_1163 rfl rfl ?_
  refine zz_iload hx dL_law_1168 rfl ?_
  have hk9 := zCl_k hc9
  refine zz_if_ne hx 1185 dL_law_1170 rfl (by omega) (fun e9 => ?_) (fun e9 => ?_)
  · refine zz_goto hx 1652 dL_law_1185 rfl ?_
    refine zz_perm (pM g S' (oC g o9 f1) a F' G').symm ?_
    exact zJ_to J (by omega) (by omega) h' r' hb0 [(5, _), (6, _)]
  · refine zz_aload_n hx dL_law_1173 rfl ?_
    refine zz_iconst hx dL_law_1174 ?_
    refine zz_perm ((pM g S' (oC g o9 f1) a F' G').symm.trans (pO g S' (oC g o9 f1) (mW g a F' G' []))) ?_
    refine zz_lald hx 0 rfl dL_law_1175 ?_
    refine zz_iload hx dL_law_1176 rfl ?_
    refine zz_i2l hx dL_law_1178 ?_
    refine zz_lcmp hx dL_law_1179 (by rw [hv9 e9, hvb e9]) ?_
    refine zz_if_eq hx 1185 dL_law_1180 rfl zr0 (fun _ => ?_) (fun z9 => absurd rfl z9)
    refine zz_goto hx 1652 dL_law_1185 rfl ?_
    refine zz_perm (pO g S' (oC g o9 f1) (mW g a F' G' [])).symm ?_
    exact zJ_to J (by omega) (by omega) h' r' hb0 [(5, _), (6, _)]

set_option maxHeartbeats 4000000 in
set_option maxRecDepth 100000 in
theorem lc_typeOf {l : Launch} {g : zG} {x : zX} {a : Nat → Nat} {F : Nat → Int} {G : Nat → Int → Int} {Rw : Int → List Int} {b : Nat → Nat} {c : Int → Nat → Nat} {I : Nat → Int} {Q : Nat → Int → Int} {P : Int → Nat → Int} {T : Int → Nat → Int → Int} {N : Nat} {b0 o9 L : Nat} {xs : Nat → Int32} {f9 : Nat → Int64} {i : Int} {k n : Nat} (hst : l.stackTraces = false) (hx : zOK l g 7 x RL code) (hN : zNc x) (hs : zSc b0 L xs x) (hL : L ≤ 3072) (h : mI F G Rw) (r : RD F G Rw I Q P T N) (hb : N = 0 → b 13 = g.2.2.2.2.2) (i0 : 0 ≤ i) (i1 : i + 6 ≤ (L : Int)) (hk : k + 10 ≤ 601024 ∧ n + 214 ≤ 7293034) (J : zJ l g x a b0 o9 (b 0) i (k + 10) (n + 214)) : Z l g room_1 7 x k n (wS g (b, c, I, Q, P, T, N) (oC g o9 f9 :: mW g a F G [])) 1188 [(0, .ref b0), (1, .ref (b 0)), (2, .ref (a 0)), (3, .ref o9), (4, vi i)] [] := by
  refine zz_aload_n hx dL_law_1188 rfl ?_
  refine zz_aload_n hx dL_law_1189 rfl ?_
  refine zz_iload hx dL_law_1190 rfl ?_
  refine zz_iconst hx dL_law_1192 ?_
  refine zz_iadd hx dL_law_1193 ?_
  refine zz_sld hx hs hL (by omega) (by omega) dL_law_1194 ?_
  refine zz_aload_n hx dL_law_1195 rfl ?_
  refine zz_callW hx hN mw_L_typeOf lk_L_155 (w_typeOf hst h r hb o9 f9 (xs (i + 1).toNat).toInt (vi_rng _)) ⟨rfl, rfl⟩ (by decide) ⟨by show k + 1 ≤ 601024; omega, by show n + 6 ≤ 7293034; omega⟩ rfl rfl (Nat.le_of_ble_eq_true rfl) dL_law_1196 (fun k9 w9 hp9 => ?_)
  obtain ⟨S', v9, f1, rfl, hv9, hc9⟩ := hp9
  refine zz_istore (lv' := [(0, _), (1, _), (2, _), (3, _), (4, _), (5, _)]) hx dL_law_1199 (by decide) rfl ?_
  refine zz_perm (pM g S' (oC g o9 f1) a F G) ?_
  refine zz_aload_n hx dL_law_1201 rfl ?_
  refine zz_aload_n hx dL_law_1202 rfl ?_
  refine zz_iload hx dL_law_1203 rfl ?_
  refine zz_iconst hx dL_law_1205 ?_
  refine zz_iadd hx dL_law_1206 ?_
  refine zz_sld hx hs hL (by omega) (by omega) dL_law_1207 ?_
  refine zz_callVi hx me_X4_typeOf lk_L_157 (c_typeOf hst h (xs (i + 1).toNat).toInt (vi_rng _)) 0 rfl rfl ⟨rfl, rfl⟩ (by decide) ⟨by show k + 1 + 0 ≤ 601024; omega, by show n + 6 + 0 ≤ 7293034; omega⟩ rfl rfl (Nat.le_of_ble_eq_true rfl) dL_law_1208 (fun _ _ h9 => h9.elim) (fun b9 w8 hm9 => ?_)
  obtain ⟨F', G', Rw', rfl, h18, hvb, h', r', hb0⟩ := fin_typeOf (a := a) h r hb (xs (i + 1).toNat).toInt (vi_rng _) hc9 hm9
  refine zz_istore (lv' := [(0, _), (1, _), (2, _), (3, _), (4, _), (5, _), (6, _)]) hx dL_law_1211 (by decide) rfl ?_
  refine zz_aload_n hx dL_law_1213 rfl ?_
  refine zz_callVi hx me_X4_thrown lk_L_93 (c_thrown hst) 0 rfl rfl ⟨rfl, rfl⟩ (by decide) ⟨by show k + 1 + 0 + 0 ≤ 601024; omega, by show n + 6 + 0 + 0 ≤ 7293034; omega⟩ rfl rfl (Nat.le_of_ble_eq_true rfl) dL_law_1214 (fun _ _ h9 => h9.elim) (fun r9 w7 ht9 => ?_)
  obtain ⟨rfl, rfl⟩ := ht9
  rw [h18]
  refine zz_iload hx dL_law_1217 rfl ?_
  refine zz_icmp_same hx 1224 dL_law_1219 rfl rfl ?_
  refine zz_iload hx dL_law_1224 rfl ?_
  have hk9 := zCl_k hc9
  refine zz_if_ne hx 1241 dL_law_1226 rfl (by omega) (fun e9 => ?_) (fun e9 => ?_)
  · refine zz_goto hx 1652 dL_law_1241 rfl ?_
    refine zz_perm (pM g S' (oC g o9 f1) a F' G').symm ?_
    exact zJ_to J (by omega) (by omega) h' r' hb0 [(5, _), (6, _)]
  · refine zz_aload_n hx dL_law_1229 rfl ?_
    refine zz_iconst hx dL_law_1230 ?_
    refine zz_perm ((pM g S' (oC g o9 f1) a F' G').symm.trans (pO g S' (oC g o9 f1) (mW g a F' G' []))) ?_
    refine zz_lald hx 0 rfl dL_law_1231 ?_
    refine zz_iload hx dL_law_1232 rfl ?_
    refine zz_i2l hx dL_law_1234 ?_
    refine zz_lcmp hx dL_law_1235 (by rw [hv9 e9, hvb e9]) ?_
    refine zz_if_eq hx 1241 dL_law_1236 rfl zr0 (fun _ => ?_) (fun z9 => absurd rfl z9)
    refine zz_goto hx 1652 dL_law_1241 rfl ?_
    refine zz_perm (pO g S' (oC g o9 f1) (mW g a F' G' [])).symm ?_
    exact zJ_to J (by omega) (by omega) h' r' hb0 [(5, _), (6, _)]

set_option maxHeartbeats 4000000 in
set_option maxRecDepth 100000 in
theorem lc_valueOf {l : Launch} {g : zG} {x : zX} {a : Nat → Nat} {F : Nat → Int} {G : Nat → Int → Int} {Rw : Int → List Int} {b : Nat → Nat} {c : Int → Nat → Nat} {I : Nat → Int} {Q : Nat → Int → Int} {P : Int → Nat → Int} {T : Int → Nat → Int → Int} {N : Nat} {b0 o9 L : Nat} {xs : Nat → Int32} {f9 : Nat → Int64} {i : Int} {k n : Nat} (hst : l.stackTraces = false) (hx : zOK l g 7 x RL code) (hN : zNc x) (hs : zSc b0 L xs x) (hL : L ≤ 3072) (h : mI F G Rw) (r : RD F G Rw I Q P T N) (hb : N = 0 → b 13 = g.2.2.2.2.2) (i0 : 0 ≤ i) (i1 : i + 6 ≤ (L : Int)) (hk : k + 10 ≤ 601024 ∧ n + 214 ≤ 7293034) (J : zJ l g x a b0 o9 (b 0) i (k + 10) (n + 214)) : Z l g room_1 7 x k n (wS g (b, c, I, Q, P, T, N) (oC g o9 f9 :: mW g a F G [])) 1244 [(0, .ref b0), (1, .ref (b 0)), (2, .ref (a 0)), (3, .ref o9), (4, vi i)] [] := by
  refine zz_aload_n hx dL_law_1244 rfl ?_
  refine zz_aload_n hx dL_law_1245 rfl ?_
  refine zz_iload hx dL_law_1246 rfl ?_
  refine zz_iconst hx dL_law_1248 ?_
  refine zz_iadd hx dL_law_1249 ?_
  refine zz_sld hx hs hL (by omega) (by omega) dL_law_1250 ?_
  refine zz_aload_n hx dL_law_1251 rfl ?_
  refine zz_callW hx hN mw_L_valueOf lk_L_158 (w_valueOf hst h r hb o9 f9 (xs (i + 1).toNat).toInt (vi_rng _)) ⟨rfl, rfl⟩ (by decide) ⟨by show k + 1 ≤ 601024; omega, by show n + 6 ≤ 7293034; omega⟩ rfl rfl (Nat.le_of_ble_eq_true rfl) dL_law_1252 (fun k9 w9 hp9 => ?_)
  obtain ⟨S', v9, f1, rfl, hv9, hc9⟩ := hp9
  refine zz_istore (lv' := [(0, _), (1, _), (2, _), (3, _), (4, _), (5, _)]) hx dL_law_1255 (by decide) rfl ?_
  refine zz_perm (pM g S' (oC g o9 f1) a F G) ?_
  refine zz_aload_n hx dL_law_1257 rfl ?_
  refine zz_aload_n hx dL_law_1258 rfl ?_
  refine zz_iload hx dL_law_1259 rfl ?_
  refine zz_iconst hx dL_law_1261 ?_
  refine zz_iadd hx dL_law_1262 ?_
  refine zz_sld hx hs hL (by omega) (by omega) dL_law_1263 ?_
  refine zz_callVi hx me_X4_valueOf lk_L_160 (c_valueOf hst h (xs (i + 1).toNat).toInt (vi_rng _)) 0 rfl rfl ⟨rfl, rfl⟩ (by decide) ⟨by show k + 1 + 0 ≤ 601024; omega, by show n + 6 + 0 ≤ 7293034; omega⟩ rfl rfl (Nat.le_of_ble_eq_true rfl) dL_law_1264 (fun _ _ h9 => h9.elim) (fun b9 w8 hm9 => ?_)
  obtain ⟨F', G', Rw', rfl, h18, hvb, h', r', hb0⟩ := fin_valueOf (a := a) h r hb (xs (i + 1).toNat).toInt (vi_rng _) hc9 hm9
  refine zz_istore (lv' := [(0, _), (1, _), (2, _), (3, _), (4, _), (5, _), (6, _)]) hx dL_law_1267 (by decide) rfl ?_
  refine zz_aload_n hx dL_law_1269 rfl ?_
  refine zz_callVi hx me_X4_thrown lk_L_93 (c_thrown hst) 0 rfl rfl ⟨rfl, rfl⟩ (by decide) ⟨by show k + 1 + 0 + 0 ≤ 601024; omega, by show n + 6 + 0 + 0 ≤ 7293034; omega⟩ rfl rfl (Nat.le_of_ble_eq_true rfl) dL_law_1270 (fun _ _ h9 => h9.elim) (fun r9 w7 ht9 => ?_)
  obtain ⟨rfl, rfl⟩ := ht9
  rw [h18]
  refine zz_iload hx dL_law_1273 rfl ?_
  refine zz_icmp_same hx 1280 dL_law_1275 rfl rfl ?_
  refine zz_iload hx dL_law_1280 rfl ?_
  have hk9 := zCl_k hc9
  refine zz_if_ne hx 1297 dL_law_1282 rfl (by omega) (fun e9 => ?_) (fun e9 => ?_)
  · refine zz_goto hx 1652 dL_law_1297 rfl ?_
    refine zz_perm (pM g S' (oC g o9 f1) a F' G').symm ?_
    exact zJ_to J (by omega) (by omega) h' r' hb0 [(5, _), (6, _)]
  · refine zz_aload_n hx dL_law_1285 rfl ?_
    refine zz_iconst hx dL_law_1286 ?_
    refine zz_perm ((pM g S' (oC g o9 f1) a F' G').symm.trans (pO g S' (oC g o9 f1) (mW g a F' G' []))) ?_
    refine zz_lald hx 0 rfl dL_law_1287 ?_
    refine zz_iload hx dL_law_1288 rfl ?_
    refine zz_i2l hx dL_law_1290 ?_
    refine zz_lcmp hx dL_law_1291 (by rw [hv9 e9, hvb e9]) ?_
    refine zz_if_eq hx 1297 dL_law_1292 rfl zr0 (fun _ => ?_) (fun z9 => absurd rfl z9)
    refine zz_goto hx 1652 dL_law_1297 rfl ?_
    refine zz_perm (pO g S' (oC g o9 f1) (mW g a F' G' [])).symm ?_
    exact zJ_to J (by omega) (by omega) h' r' hb0 [(5, _), (6, _)]

set_option maxHeartbeats 4000000 in
set_option maxRecDepth 100000 in
theorem lc_ownerOf {l : Launch} {g : zG} {x : zX} {a : Nat → Nat} {F : Nat → Int} {G : Nat → Int → Int} {Rw : Int → List Int} {b : Nat → Nat} {c : Int → Nat → Nat} {I : Nat → Int} {Q : Nat → Int → Int} {P : Int → Nat → Int} {T : Int → Nat → Int → Int} {N : Nat} {b0 o9 L : Nat} {xs : Nat → Int32} {f9 : Nat → Int64} {i : Int} {k n : Nat} (hst : l.stackTraces = false) (hx : zOK l g 7 x RL code) (hN : zNc x) (hs : zSc b0 L xs x) (hL : L ≤ 3072) (h : mI F G Rw) (r : RD F G Rw I Q P T N) (hb : N = 0 → b 13 = g.2.2.2.2.2) (i0 : 0 ≤ i) (i1 : i + 6 ≤ (L : Int)) (hk : k + 10 ≤ 601024 ∧ n + 214 ≤ 7293034) (J : zJ l g x a b0 o9 (b 0) i (k + 10) (n + 214)) : Z l g room_1 7 x k n (wS g (b, c, I, Q, P, T, N) (oC g o9 f9 :: mW g a F G [])) 1300 [(0, .ref b0), (1, .ref (b 0)), (2, .ref (a 0)), (3, .ref o9), (4, vi i)] [] := by
  refine zz_aload_n hx dL_law_1300 rfl ?_
  refine zz_aload_n hx dL_law_1301 rfl ?_
  refine zz_iload hx dL_law_1302 rfl ?_
  refine zz_iconst hx dL_law_1304 ?_
  refine zz_iadd hx dL_law_1305 ?_
  refine zz_sld hx hs hL (by omega) (by omega) dL_law_1306 ?_
  refine zz_aload_n hx dL_law_1307 rfl ?_
  refine zz_iload hx dL_law_1308 rfl ?_
  refine zz_iconst hx dL_law_1310 ?_
  refine zz_iadd hx dL_law_1311 ?_
  refine zz_sld hx hs hL (by omega) (by omega) dL_law_1312 ?_
  refine zz_aload_n hx dL_law_1313 rfl ?_
  refine zz_callW hx hN mw_L_ownerOf lk_L_161 (w_ownerOf hst h r hb o9 f9 (xs (i + 1).toNat).toInt (vi_rng _) (xs (i + 2).toNat).toInt (vi_rng _)) ⟨rfl, rfl⟩ (by decide) ⟨by show k + 2 ≤ 601024; omega, by show n + 12 ≤ 7293034; omega⟩ rfl rfl (Nat.le_of_ble_eq_true rfl) dL_law_1314 (fun k9 w9 hp9 => ?_)
  obtain ⟨S', v9, f1, rfl, hv9, hc9⟩ := hp9
  refine zz_istore (lv' := [(0, _), (1, _), (2, _), (3, _), (4, _), (5, _)]) hx dL_law_1317 (by decide) rfl ?_
  refine zz_perm (pM g S' (oC g o9 f1) a F G) ?_
  refine zz_aload_n hx dL_law_1319 rfl ?_
  refine zz_aload_n hx dL_law_1320 rfl ?_
  refine zz_iload hx dL_law_1321 rfl ?_
  refine zz_iconst hx dL_law_1323 ?_
  refine zz_iadd hx dL_law_1324 ?_
  refine zz_sld hx hs hL (by omega) (by omega) dL_law_1325 ?_
  refine zz_aload_n hx dL_law_1326 rfl ?_
  refine zz_iload hx dL_law_1327 rfl ?_
  refine zz_iconst hx dL_law_1329 ?_
  refine zz_iadd hx dL_law_1330 ?_
  refine zz_sld hx hs hL (by omega) (by omega) dL_law_1331 ?_
  refine zz_callVi hx me_X4_ownerOf lk_L_163 (c_ownerOf hst h (xs (i + 1).toNat).toInt (vi_rng _) (xs (i + 2).toNat).toInt (vi_rng _)) 0 rfl rfl ⟨rfl, rfl⟩ (by decide) ⟨by show k + 2 + 0 ≤ 601024; omega, by show n + 12 + 0 ≤ 7293034; omega⟩ rfl rfl (Nat.le_of_ble_eq_true rfl) dL_law_1332 (fun _ _ h9 => h9.elim) (fun b9 w8 hm9 => ?_)
  obtain ⟨F', G', Rw', rfl, h18, hvb, h', r', hb0⟩ := fin_ownerOf (a := a) h r hb (xs (i + 1).toNat).toInt (vi_rng _) (xs (i + 2).toNat).toInt (vi_rng _) hc9 hm9
  refine zz_istore (lv' := [(0, _), (1, _), (2, _), (3, _), (4, _), (5, _), (6, _)]) hx dL_law_1335 (by decide) rfl ?_
  refine zz_aload_n hx dL_law_1337 rfl ?_
  refine zz_callVi hx me_X4_thrown lk_L_93 (c_thrown hst) 0 rfl rfl ⟨rfl, rfl⟩ (by decide) ⟨by show k + 2 + 0 + 0 ≤ 601024; omega, by show n + 12 + 0 + 0 ≤ 7293034; omega⟩ rfl rfl (Nat.le_of_ble_eq_true rfl) dL_law_1338 (fun _ _ h9 => h9.elim) (fun r9 w7 ht9 => ?_)
  obtain ⟨rfl, rfl⟩ := ht9
  rw [h18]
  refine zz_iload hx dL_law_1341 rfl ?_
  refine zz_icmp_same hx 1348 dL_law_1343 rfl rfl ?_
  refine zz_iload hx dL_law_1348 rfl ?_
  have hk9 := zCl_k hc9
  refine zz_if_ne hx 1365 dL_law_1350 rfl (by omega) (fun e9 => ?_) (fun e9 => ?_)
  · refine zz_goto hx 1652 dL_law_1365 rfl ?_
    refine zz_perm (pM g S' (oC g o9 f1) a F' G').symm ?_
    exact zJ_to J (by omega) (by omega) h' r' hb0 [(5, _), (6, _)]
  · refine zz_aload_n hx dL_law_1353 rfl ?_
    refine zz_iconst hx dL_law_1354 ?_
    refine zz_perm ((pM g S' (oC g o9 f1) a F' G').symm.trans (pO g S' (oC g o9 f1) (mW g a F' G' []))) ?_
    refine zz_lald hx 0 rfl dL_law_1355 ?_
    refine zz_iload hx dL_law_1356 rfl ?_
    refine zz_i2l hx dL_law_1358 ?_
    refine zz_lcmp hx dL_law_1359 (by rw [hv9 e9, hvb e9]) ?_
    refine zz_if_eq hx 1365 dL_law_1360 rfl zr0 (fun _ => ?_) (fun z9 => absurd rfl z9)
    refine zz_goto hx 1652 dL_law_1365 rfl ?_
    refine zz_perm (pO g S' (oC g o9 f1) (mW g a F' G' [])).symm ?_
    exact zJ_to J (by omega) (by omega) h' r' hb0 [(5, _), (6, _)]

set_option maxHeartbeats 4000000 in
set_option maxRecDepth 100000 in
theorem lc_members {l : Launch} {g : zG} {x : zX} {a : Nat → Nat} {F : Nat → Int} {G : Nat → Int → Int} {Rw : Int → List Int} {b : Nat → Nat} {c : Int → Nat → Nat} {I : Nat → Int} {Q : Nat → Int → Int} {P : Int → Nat → Int} {T : Int → Nat → Int → Int} {N : Nat} {b0 o9 L : Nat} {xs : Nat → Int32} {f9 : Nat → Int64} {i : Int} {k n : Nat} (hst : l.stackTraces = false) (hx : zOK l g 7 x RL code) (hN : zNc x) (hs : zSc b0 L xs x) (hL : L ≤ 3072) (h : mI F G Rw) (r : RD F G Rw I Q P T N) (hb : N = 0 → b 13 = g.2.2.2.2.2) (i0 : 0 ≤ i) (i1 : i + 6 ≤ (L : Int)) (hk : k + 10 ≤ 601024 ∧ n + 214 ≤ 7293034) (J : zJ l g x a b0 o9 (b 0) i (k + 10) (n + 214)) : Z l g room_1 7 x k n (wS g (b, c, I, Q, P, T, N) (oC g o9 f9 :: mW g a F G [])) 1368 [(0, .ref b0), (1, .ref (b 0)), (2, .ref (a 0)), (3, .ref o9), (4, vi i)] [] := by
  refine zz_aload_n hx dL_law_1368 rfl ?_
  refine zz_aload_n hx dL_law_1369 rfl ?_
  refine zz_iload hx dL_law_1370 rfl ?_
  refine zz_iconst hx dL_law_1372 ?_
  refine zz_iadd hx dL_law_1373 ?_
  refine zz_sld hx hs hL (by omega) (by omega) dL_law_1374 ?_
  refine zz_aload_n hx dL_law_1375 rfl ?_
  refine zz_iload hx dL_law_1376 rfl ?_
  refine zz_iconst hx dL_law_1378 ?_
  refine zz_iadd hx dL_law_1379 ?_
  refine zz_sld hx hs hL (by omega) (by omega) dL_law_1380 ?_
  refine zz_aload_n hx dL_law_1381 rfl ?_
  refine zz_callW hx hN mw_L_members lk_L_164 (w_members hst h r hb o9 f9 (xs (i + 1).toNat).toInt (vi_rng _) (xs (i + 2).toNat).toInt (vi_rng _)) ⟨rfl, rfl⟩ (by decide) ⟨by show k + 2 ≤ 601024; omega, by show n + 12 ≤ 7293034; omega⟩ rfl rfl (Nat.le_of_ble_eq_true rfl) dL_law_1382 (fun k9 w9 hp9 => ?_)
  obtain ⟨S', v9, f1, rfl, hv9, hc9⟩ := hp9
  refine zz_istore (lv' := [(0, _), (1, _), (2, _), (3, _), (4, _), (5, _)]) hx dL_law_1385 (by decide) rfl ?_
  refine zz_perm (pM g S' (oC g o9 f1) a F G) ?_
  refine zz_aload_n hx dL_law_1387 rfl ?_
  refine zz_aload_n hx dL_law_1388 rfl ?_
  refine zz_iload hx dL_law_1389 rfl ?_
  refine zz_iconst hx dL_law_1391 ?_
  refine zz_iadd hx dL_law_1392 ?_
  refine zz_sld hx hs hL (by omega) (by omega) dL_law_1393 ?_
  refine zz_aload_n hx dL_law_1394 rfl ?_
  refine zz_iload hx dL_law_1395 rfl ?_
  refine zz_iconst hx dL_law_1397 ?_
  refine zz_iadd hx dL_law_1398 ?_
  refine zz_sld hx hs hL (by omega) (by omega) dL_law_1399 ?_
  refine zz_callVi hx me_X4_members lk_L_166 (c_members hst h (xs (i + 1).toNat).toInt (vi_rng _) (xs (i + 2).toNat).toInt (vi_rng _)) 0 rfl rfl ⟨rfl, rfl⟩ (by decide) ⟨by show k + 2 + 0 ≤ 601024; omega, by show n + 12 + 0 ≤ 7293034; omega⟩ rfl rfl (Nat.le_of_ble_eq_true rfl) dL_law_1400 (fun _ _ h9 => h9.elim) (fun b9 w8 hm9 => ?_)
  obtain ⟨F', G', Rw', rfl, h18, hvb, h', r', hb0⟩ := fin_members (a := a) h r hb (xs (i + 1).toNat).toInt (vi_rng _) (xs (i + 2).toNat).toInt (vi_rng _) hc9 hm9
  refine zz_istore (lv' := [(0, _), (1, _), (2, _), (3, _), (4, _), (5, _), (6, _)]) hx dL_law_1403 (by decide) rfl ?_
  refine zz_aload_n hx dL_law_1405 rfl ?_
  refine zz_callVi hx me_X4_thrown lk_L_93 (c_thrown hst) 0 rfl rfl ⟨rfl, rfl⟩ (by decide) ⟨by show k + 2 + 0 + 0 ≤ 601024; omega, by show n + 12 + 0 + 0 ≤ 7293034; omega⟩ rfl rfl (Nat.le_of_ble_eq_true rfl) dL_law_1406 (fun _ _ h9 => h9.elim) (fun r9 w7 ht9 => ?_)
  obtain ⟨rfl, rfl⟩ := ht9
  rw [h18]
  refine zz_iload hx dL_law_1409 rfl ?_
  refine zz_icmp_same hx 1416 dL_law_1411 rfl rfl ?_
  refine zz_iload hx dL_law_1416 rfl ?_
  have hk9 := zCl_k hc9
  refine zz_if_ne hx 1433 dL_law_1418 rfl (by omega) (fun e9 => ?_) (fun e9 => ?_)
  · refine zz_goto hx 1652 dL_law_1433 rfl ?_
    refine zz_perm (pM g S' (oC g o9 f1) a F' G').symm ?_
    exact zJ_to J (by omega) (by omega) h' r' hb0 [(5, _), (6, _)]
  · refine zz_aload_n hx dL_law_1421 rfl ?_
    refine zz_iconst hx dL_law_1422 ?_
    refine zz_perm ((pM g S' (oC g o9 f1) a F' G').symm.trans (pO g S' (oC g o9 f1) (mW g a F' G' []))) ?_
    refine zz_lald hx 0 rfl dL_law_1423 ?_
    refine zz_iload hx dL_law_1424 rfl ?_
    refine zz_i2l hx dL_law_1426 ?_
    refine zz_lcmp hx dL_law_1427 (by rw [hv9 e9, hvb e9]) ?_
    refine zz_if_eq hx 1433 dL_law_1428 rfl zr0 (fun _ => ?_) (fun z9 => absurd rfl z9)
    refine zz_goto hx 1652 dL_law_1433 rfl ?_
    refine zz_perm (pO g S' (oC g o9 f1) (mW g a F' G' [])).symm ?_
    exact zJ_to J (by omega) (by omega) h' r' hb0 [(5, _), (6, _)]

set_option maxHeartbeats 4000000 in
set_option maxRecDepth 100000 in
theorem lc_membersByTable {l : Launch} {g : zG} {x : zX} {a : Nat → Nat} {F : Nat → Int} {G : Nat → Int → Int} {Rw : Int → List Int} {b : Nat → Nat} {c : Int → Nat → Nat} {I : Nat → Int} {Q : Nat → Int → Int} {P : Int → Nat → Int} {T : Int → Nat → Int → Int} {N : Nat} {b0 o9 L : Nat} {xs : Nat → Int32} {f9 : Nat → Int64} {i : Int} {k n : Nat} (hst : l.stackTraces = false) (hx : zOK l g 7 x RL code) (hN : zNc x) (hs : zSc b0 L xs x) (hL : L ≤ 3072) (h : mI F G Rw) (r : RD F G Rw I Q P T N) (hb : N = 0 → b 13 = g.2.2.2.2.2) (i0 : 0 ≤ i) (i1 : i + 6 ≤ (L : Int)) (hk : k + 10 ≤ 601024 ∧ n + 214 ≤ 7293034) (J : zJ l g x a b0 o9 (b 0) i (k + 10) (n + 214)) : Z l g room_1 7 x k n (wS g (b, c, I, Q, P, T, N) (oC g o9 f9 :: mW g a F G [])) 1436 [(0, .ref b0), (1, .ref (b 0)), (2, .ref (a 0)), (3, .ref o9), (4, vi i)] [] := by
  refine zz_aload_n hx dL_law_1436 rfl ?_
  refine zz_aload_n hx dL_law_1437 rfl ?_
  refine zz_iload hx dL_law_1438 rfl ?_
  refine zz_iconst hx dL_law_1440 ?_
  refine zz_iadd hx dL_law_1441 ?_
  refine zz_sld hx hs hL (by omega) (by omega) dL_law_1442 ?_
  refine zz_aload_n hx dL_law_1443 rfl ?_
  refine zz_iload hx dL_law_1444 rfl ?_
  refine zz_iconst hx dL_law_1446 ?_
  refine zz_iadd hx dL_law_1447 ?_
  refine zz_sld hx hs hL (by omega) (by omega) dL_law_1448 ?_
  refine zz_aload_n hx dL_law_1449 rfl ?_
  refine zz_callW hx hN mw_L_membersByTable lk_L_167 (w_membersByTable hst h r hb o9 f9 (xs (i + 1).toNat).toInt (vi_rng _) (xs (i + 2).toNat).toInt (vi_rng _)) ⟨rfl, rfl⟩ (by decide) ⟨by show k + 2 ≤ 601024; omega, by show n + 12 ≤ 7293034; omega⟩ rfl rfl (Nat.le_of_ble_eq_true rfl) dL_law_1450 (fun k9 w9 hp9 => ?_)
  obtain ⟨S', v9, f1, rfl, hv9, hc9⟩ := hp9
  refine zz_istore (lv' := [(0, _), (1, _), (2, _), (3, _), (4, _), (5, _)]) hx dL_law_1453 (by decide) rfl ?_
  refine zz_perm (pM g S' (oC g o9 f1) a F G) ?_
  refine zz_aload_n hx dL_law_1455 rfl ?_
  refine zz_aload_n hx dL_law_1456 rfl ?_
  refine zz_iload hx dL_law_1457 rfl ?_
  refine zz_iconst hx dL_law_1459 ?_
  refine zz_iadd hx dL_law_1460 ?_
  refine zz_sld hx hs hL (by omega) (by omega) dL_law_1461 ?_
  refine zz_aload_n hx dL_law_1462 rfl ?_
  refine zz_iload hx dL_law_1463 rfl ?_
  refine zz_iconst hx dL_law_1465 ?_
  refine zz_iadd hx dL_law_1466 ?_
  refine zz_sld hx hs hL (by omega) (by omega) dL_law_1467 ?_
  refine zz_callVi hx me_X4_membersByTable lk_L_169 (c_membersByTable hst h (xs (i + 1).toNat).toInt (vi_rng _) (xs (i + 2).toNat).toInt (vi_rng _)) 0 rfl rfl ⟨rfl, rfl⟩ (by decide) ⟨by show k + 2 + 0 ≤ 601024; omega, by show n + 12 + 0 ≤ 7293034; omega⟩ rfl rfl (Nat.le_of_ble_eq_true rfl) dL_law_1468 (fun _ _ h9 => h9.elim) (fun b9 w8 hm9 => ?_)
  obtain ⟨F', G', Rw', rfl, h18, hvb, h', r', hb0⟩ := fin_membersByTable (a := a) h r hb (xs (i + 1).toNat).toInt (vi_rng _) (xs (i + 2).toNat).toInt (vi_rng _) hc9 hm9
  refine zz_istore (lv' := [(0, _), (1, _), (2, _), (3, _), (4, _), (5, _), (6, _)]) hx dL_law_1471 (by decide) rfl ?_
  refine zz_aload_n hx dL_law_1473 rfl ?_
  refine zz_callVi hx me_X4_thrown lk_L_93 (c_thrown hst) 0 rfl rfl ⟨rfl, rfl⟩ (by decide) ⟨by show k + 2 + 0 + 0 ≤ 601024; omega, by show n + 12 + 0 + 0 ≤ 7293034; omega⟩ rfl rfl (Nat.le_of_ble_eq_true rfl) dL_law_1474 (fun _ _ h9 => h9.elim) (fun r9 w7 ht9 => ?_)
  obtain ⟨rfl, rfl⟩ := ht9
  rw [h18]
  refine zz_iload hx dL_law_1477 rfl ?_
  refine zz_icmp_same hx 1484 dL_law_1479 rfl rfl ?_
  refine zz_iload hx dL_law_1484 rfl ?_
  have hk9 := zCl_k hc9
  refine zz_if_ne hx 1501 dL_law_1486 rfl (by omega) (fun e9 => ?_) (fun e9 => ?_)
  · refine zz_goto hx 1652 dL_law_1501 rfl ?_
    refine zz_perm (pM g S' (oC g o9 f1) a F' G').symm ?_
    exact zJ_to J (by omega) (by omega) h' r' hb0 [(5, _), (6, _)]
  · refine zz_aload_n hx dL_law_1489 rfl ?_
    refine zz_iconst hx dL_law_1490 ?_
    refine zz_perm ((pM g S' (oC g o9 f1) a F' G').symm.trans (pO g S' (oC g o9 f1) (mW g a F' G' []))) ?_
    refine zz_lald hx 0 rfl dL_law_1491 ?_
    refine zz_iload hx dL_law_1492 rfl ?_
    refine zz_i2l hx dL_law_1494 ?_
    refine zz_lcmp hx dL_law_1495 (by rw [hv9 e9, hvb e9]) ?_
    refine zz_if_eq hx 1501 dL_law_1496 rfl zr0 (fun _ => ?_) (fun z9 => absurd rfl z9)
    refine zz_goto hx 1652 dL_law_1501 rfl ?_
    refine zz_perm (pO g S' (oC g o9 f1) (mW g a F' G' [])).symm ?_
    exact zJ_to J (by omega) (by omega) h' r' hb0 [(5, _), (6, _)]

set_option maxHeartbeats 4000000 in
set_option maxRecDepth 100000 in
theorem lc_memberAt {l : Launch} {g : zG} {x : zX} {a : Nat → Nat} {F : Nat → Int} {G : Nat → Int → Int} {Rw : Int → List Int} {b : Nat → Nat} {c : Int → Nat → Nat} {I : Nat → Int} {Q : Nat → Int → Int} {P : Int → Nat → Int} {T : Int → Nat → Int → Int} {N : Nat} {b0 o9 L : Nat} {xs : Nat → Int32} {f9 : Nat → Int64} {i : Int} {k n : Nat} (hst : l.stackTraces = false) (hx : zOK l g 7 x RL code) (hN : zNc x) (hs : zSc b0 L xs x) (hL : L ≤ 3072) (h : mI F G Rw) (r : RD F G Rw I Q P T N) (hb : N = 0 → b 13 = g.2.2.2.2.2) (i0 : 0 ≤ i) (i1 : i + 6 ≤ (L : Int)) (hk : k + 10 ≤ 601024 ∧ n + 214 ≤ 7293034) (J : zJ l g x a b0 o9 (b 0) i (k + 10) (n + 214)) : Z l g room_1 7 x k n (wS g (b, c, I, Q, P, T, N) (oC g o9 f9 :: mW g a F G [])) 1504 [(0, .ref b0), (1, .ref (b 0)), (2, .ref (a 0)), (3, .ref o9), (4, vi i)] [] := by
  refine zz_aload_n hx dL_law_1504 rfl ?_
  refine zz_aload_n hx dL_law_1505 rfl ?_
  refine zz_iload hx dL_law_1506 rfl ?_
  refine zz_iconst hx dL_law_1508 ?_
  refine zz_iadd hx dL_law_1509 ?_
  refine zz_sld hx hs hL (by omega) (by omega) dL_law_1510 ?_
  refine zz_aload_n hx dL_law_1511 rfl ?_
  refine zz_iload hx dL_law_1512 rfl ?_
  refine zz_iconst hx dL_law_1514 ?_
  refine zz_iadd hx dL_law_1515 ?_
  refine zz_sld hx hs hL (by omega) (by omega) dL_law_1516 ?_
  refine zz_aload_n hx dL_law_1517 rfl ?_
  refine zz_iload hx dL_law_1518 rfl ?_
  refine zz_iconst hx dL_law_1520 ?_
  refine zz_iadd hx dL_law_1521 ?_
  refine zz_sld hx hs hL (by omega) (by omega) dL_law_1522 ?_
  refine zz_aload_n hx dL_law_1523 rfl ?_
  refine zz_callW hx hN mw_L_memberAt lk_L_170 (w_memberAt hst h r hb o9 f9 (xs (i + 1).toNat).toInt (vi_rng _) (xs (i + 2).toNat).toInt (vi_rng _) (xs (i + 3).toNat).toInt (vi_rng _)) ⟨rfl, rfl⟩ (by decide) ⟨by show k + 3 ≤ 601024; omega, by show n + 18 ≤ 7293034; omega⟩ rfl rfl (Nat.le_of_ble_eq_true rfl) dL_law_1524 (fun k9 w9 hp9 => ?_)
  obtain ⟨S', v9, f1, rfl, hv9, hc9⟩ := hp9
  refine zz_istore (lv' := [(0, _), (1, _), (2, _), (3, _), (4, _), (5, _)]) hx dL_law_1527 (by decide) rfl ?_
  refine zz_perm (pM g S' (oC g o9 f1) a F G) ?_
  refine zz_aload_n hx dL_law_1529 rfl ?_
  refine zz_aload_n hx dL_law_1530 rfl ?_
  refine zz_iload hx dL_law_1531 rfl ?_
  refine zz_iconst hx dL_law_1533 ?_
  refine zz_iadd hx dL_law_1534 ?_
  refine zz_sld hx hs hL (by omega) (by omega) dL_law_1535 ?_
  refine zz_aload_n hx dL_law_1536 rfl ?_
  refine zz_iload hx dL_law_1537 rfl ?_
  refine zz_iconst hx dL_law_1539 ?_
  refine zz_iadd hx dL_law_1540 ?_
  refine zz_sld hx hs hL (by omega) (by omega) dL_law_1541 ?_
  refine zz_aload_n hx dL_law_1542 rfl ?_
  refine zz_iload hx dL_law_1543 rfl ?_
  refine zz_iconst hx dL_law_1545 ?_
  refine zz_iadd hx dL_law_1546 ?_
  refine zz_sld hx hs hL (by omega) (by omega) dL_law_1547 ?_
  refine zz_callVi hx me_X4_memberAt lk_L_173 (c_memberAt hst h (xs (i + 1).toNat).toInt (vi_rng _) (xs (i + 2).toNat).toInt (vi_rng _) (xs (i + 3).toNat).toInt (vi_rng _)) 0 rfl rfl ⟨rfl, rfl⟩ (by decide) ⟨by show k + 3 + 0 ≤ 601024; omega, by show n + 18 + 0 ≤ 7293034; omega⟩ rfl rfl (Nat.le_of_ble_eq_true rfl) dL_law_1548 (fun _ _ h9 => h9.elim) (fun b9 w8 hm9 => ?_)
  obtain ⟨F', G', Rw', rfl, h18, hvb, h', r', hb0⟩ := fin_memberAt (a := a) h r hb (xs (i + 1).toNat).toInt (vi_rng _) (xs (i + 2).toNat).toInt (vi_rng _) (xs (i + 3).toNat).toInt (vi_rng _) hc9 hm9
  refine zz_istore (lv' := [(0, _), (1, _), (2, _), (3, _), (4, _), (5, _), (6, _)]) hx dL_law_1551 (by decide) rfl ?_
  refine zz_aload_n hx dL_law_1553 rfl ?_
  refine zz_callVi hx me_X4_thrown lk_L_93 (c_thrown hst) 0 rfl rfl ⟨rfl, rfl⟩ (by decide) ⟨by show k + 3 + 0 + 0 ≤ 601024; omega, by show n + 18 + 0 + 0 ≤ 7293034; omega⟩ rfl rfl (Nat.le_of_ble_eq_true rfl) dL_law_1554 (fun _ _ h9 => h9.elim) (fun r9 w7 ht9 => ?_)
  obtain ⟨rfl, rfl⟩ := ht9
  rw [h18]
  refine zz_iload hx dL_law_1557 rfl ?_
  refine zz_icmp_same hx 1564 dL_law_1559 rfl rfl ?_
  refine zz_iload hx dL_law_1564 rfl ?_
  have hk9 := zCl_k hc9
  refine zz_if_ne hx 1581 dL_law_1566 rfl (by omega) (fun e9 => ?_) (fun e9 => ?_)
  · refine zz_goto hx 1652 dL_law_1581 rfl ?_
    refine zz_perm (pM g S' (oC g o9 f1) a F' G').symm ?_
    exact zJ_to J (by omega) (by omega) h' r' hb0 [(5, _), (6, _)]
  · refine zz_aload_n hx dL_law_1569 rfl ?_
    refine zz_iconst hx dL_law_1570 ?_
    refine zz_perm ((pM g S' (oC g o9 f1) a F' G').symm.trans (pO g S' (oC g o9 f1) (mW g a F' G' []))) ?_
    refine zz_lald hx 0 rfl dL_law_1571 ?_
    refine zz_iload hx dL_law_1572 rfl ?_
    refine zz_i2l hx dL_law_1574 ?_
    refine zz_lcmp hx dL_law_1575 (by rw [hv9 e9, hvb e9]) ?_
    refine zz_if_eq hx 1581 dL_law_1576 rfl zr0 (fun _ => ?_) (fun z9 => absurd rfl z9)
    refine zz_goto hx 1652 dL_law_1581 rfl ?_
    refine zz_perm (pO g S' (oC g o9 f1) (mW g a F' G' [])).symm ?_
    exact zJ_to J (by omega) (by omega) h' r' hb0 [(5, _), (6, _)]

set_option maxHeartbeats 4000000 in
set_option maxRecDepth 100000 in
theorem lc_wouldErase {l : Launch} {g : zG} {x : zX} {a : Nat → Nat} {F : Nat → Int} {G : Nat → Int → Int} {Rw : Int → List Int} {b : Nat → Nat} {c : Int → Nat → Nat} {I : Nat → Int} {Q : Nat → Int → Int} {P : Int → Nat → Int} {T : Int → Nat → Int → Int} {N : Nat} {b0 o9 L : Nat} {xs : Nat → Int32} {f9 : Nat → Int64} {i : Int} {k n : Nat} (hst : l.stackTraces = false) (hx : zOK l g 7 x RL code) (hN : zNc x) (hs : zSc b0 L xs x) (hL : L ≤ 3072) (h : mI F G Rw) (r : RD F G Rw I Q P T N) (hb : N = 0 → b 13 = g.2.2.2.2.2) (i0 : 0 ≤ i) (i1 : i + 6 ≤ (L : Int)) (hk : k + 10 ≤ 601024 ∧ n + 214 ≤ 7293034) (J : zJ l g x a b0 o9 (b 0) i (k + 10) (n + 214)) : Z l g room_1 7 x k n (wS g (b, c, I, Q, P, T, N) (oC g o9 f9 :: mW g a F G [])) 1584 [(0, .ref b0), (1, .ref (b 0)), (2, .ref (a 0)), (3, .ref o9), (4, vi i)] [] := by
  refine zz_aload_n hx dL_law_1584 rfl ?_
  refine zz_aload_n hx dL_law_1585 rfl ?_
  refine zz_iload hx dL_law_1586 rfl ?_
  refine zz_iconst hx dL_law_1588 ?_
  refine zz_iadd hx dL_law_1589 ?_
  refine zz_sld hx hs hL (by omega) (by omega) dL_law_1590 ?_
  refine zz_aload_n hx dL_law_1591 rfl ?_
  refine zz_iload hx dL_law_1592 rfl ?_
  refine zz_iconst hx dL_law_1594 ?_
  refine zz_iadd hx dL_law_1595 ?_
  refine zz_sld hx hs hL (by omega) (by omega) dL_law_1596 ?_
  refine zz_aload_n hx dL_law_1597 rfl ?_
  refine zz_callW hx hN mw_L_wouldErase lk_L_174 (w_wouldErase hst h r hb o9 f9 (xs (i + 1).toNat).toInt (vi_rng _) (xs (i + 2).toNat).toInt (vi_rng _)) ⟨rfl, rfl⟩ (by decide) ⟨by show k + 2 ≤ 601024; omega, by show n + 12 ≤ 7293034; omega⟩ rfl rfl (Nat.le_of_ble_eq_true rfl) dL_law_1598 (fun k9 w9 hp9 => ?_)
  obtain ⟨S', v9, f1, rfl, hv9, hc9⟩ := hp9
  refine zz_istore (lv' := [(0, _), (1, _), (2, _), (3, _), (4, _), (5, _)]) hx dL_law_1601 (by decide) rfl ?_
  refine zz_perm (pM g S' (oC g o9 f1) a F G) ?_
  refine zz_aload_n hx dL_law_1603 rfl ?_
  refine zz_aload_n hx dL_law_1604 rfl ?_
  refine zz_iload hx dL_law_1605 rfl ?_
  refine zz_iconst hx dL_law_1607 ?_
  refine zz_iadd hx dL_law_1608 ?_
  refine zz_sld hx hs hL (by omega) (by omega) dL_law_1609 ?_
  refine zz_aload_n hx dL_law_1610 rfl ?_
  refine zz_iload hx dL_law_1611 rfl ?_
  refine zz_iconst hx dL_law_1613 ?_
  refine zz_iadd hx dL_law_1614 ?_
  refine zz_sld hx hs hL (by omega) (by omega) dL_law_1615 ?_
  refine zz_callVi hx me_X4_wouldErase lk_L_176 (c_wouldErase hst h (xs (i + 1).toNat).toInt (vi_rng _) (xs (i + 2).toNat).toInt (vi_rng _)) 0 rfl rfl ⟨rfl, rfl⟩ (by decide) ⟨by show k + 2 + 0 ≤ 601024; omega, by show n + 12 + 0 ≤ 7293034; omega⟩ rfl rfl (Nat.le_of_ble_eq_true rfl) dL_law_1616 (fun _ _ h9 => h9.elim) (fun b9 w8 hm9 => ?_)
  obtain ⟨F', G', Rw', rfl, h18, hvb, h', r', hb0⟩ := fin_wouldErase (a := a) h r hb (xs (i + 1).toNat).toInt (vi_rng _) (xs (i + 2).toNat).toInt (vi_rng _) hc9 hm9
  refine zz_istore (lv' := [(0, _), (1, _), (2, _), (3, _), (4, _), (5, _), (6, _)]) hx dL_law_1619 (by decide) rfl ?_
  refine zz_aload_n hx dL_law_1621 rfl ?_
  refine zz_callVi hx me_X4_thrown lk_L_93 (c_thrown hst) 0 rfl rfl ⟨rfl, rfl⟩ (by decide) ⟨by show k + 2 + 0 + 0 ≤ 601024; omega, by show n + 12 + 0 + 0 ≤ 7293034; omega⟩ rfl rfl (Nat.le_of_ble_eq_true rfl) dL_law_1622 (fun _ _ h9 => h9.elim) (fun r9 w7 ht9 => ?_)
  obtain ⟨rfl, rfl⟩ := ht9
  rw [h18]
  refine zz_iload hx dL_law_1625 rfl ?_
  refine zz_icmp_same hx 1632 dL_law_1627 rfl rfl ?_
  refine zz_iload hx dL_law_1632 rfl ?_
  have hk9 := zCl_k hc9
  refine zz_if_ne hx 1649 dL_law_1634 rfl (by omega) (fun e9 => ?_) (fun e9 => ?_)
  · refine zz_goto hx 1652 dL_law_1649 rfl ?_
    refine zz_perm (pM g S' (oC g o9 f1) a F' G').symm ?_
    exact zJ_to J (by omega) (by omega) h' r' hb0 [(5, _), (6, _)]
  · refine zz_aload_n hx dL_law_1637 rfl ?_
    refine zz_iconst hx dL_law_1638 ?_
    refine zz_perm ((pM g S' (oC g o9 f1) a F' G').symm.trans (pO g S' (oC g o9 f1) (mW g a F' G' []))) ?_
    refine zz_lald hx 0 rfl dL_law_1639 ?_
    refine zz_iload hx dL_law_1640 rfl ?_
    refine zz_i2l hx dL_law_1642 ?_
    refine zz_lcmp hx dL_law_1643 (by rw [hv9 e9, hvb e9]) ?_
    refine zz_if_eq hx 1649 dL_law_1644 rfl zr0 (fun _ => ?_) (fun z9 => absurd rfl z9)
    refine zz_goto hx 1652 dL_law_1649 rfl ?_
    refine zz_perm (pO g S' (oC g o9 f1) (mW g a F' G' [])).symm ?_
    exact zJ_to J (by omega) (by omega) h' r' hb0 [(5, _), (6, _)]

