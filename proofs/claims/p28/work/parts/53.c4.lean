theorem cS_congr3 {g : zG} {c c' : Int → Nat → Nat} {P P' : Int → Nat → Int} {T T' : Int → Nat → Int → Int} : ∀ (n : Nat) (i : Int), (∀ j : Int, i ≤ j → j < i + (n : Int) → c j = c' j ∧ P j = P' j ∧ T j = T' j) → cS g c P T i n = cS g c' P' T' i n
  | 0, i, h => rfl
  | n + 1, i, h => by
    show sC g (c i) (P i) (T i) _ = sC g (c' i) (P' i) (T' i) _
    rw [(h i (by omega) (by omega)).1, (h i (by omega) (by omega)).2.1, (h i (by omega) (by omega)).2.2, cS_congr3 n (i + 1) (fun j h1 h2 => h j (by omega) (by omega))]
theorem wD_more {g : zG} {b : Nat → Nat} {c : Int → Nat → Nat} {I : Nat → Int} {Q : Nat → Int → Int} {P : Int → Nat → Int} {T : Int → Nat → Int → Int} {N : Nat} {rest : va_W} (cN : Nat → Nat) (PN : Nat → Int) (TN : Nat → Int → Int) : (dF g b I Q (edC g b (upI c (N : Int) cN) (N + 1) ++ ((cS g c P T 0 N ++ rest) ++ sC g cN PN TN []))).Perm (wD g b (upI c (N : Int) cN) I Q (upI P (N : Int) PN) (upI T (N : Int) TN) (N + 1) rest) := by
  have h := cS_split (g := g) (c := upI c (N : Int) cN) (P := upI P (N : Int) PN) (T := upI T (N : Int) TN) rest N 0 0
  rw [show (0 : Int) + (N : Int) = (N : Int) by omega, upI_s, upI_s, upI_s, show N + 1 + 0 = N + 1 by omega] at h
  show (dF g b I Q _).Perm (dF g b I Q (edC g b (upI c (N : Int) cN) (N + 1) ++ (cS g (upI c (N : Int) cN) (upI P (N : Int) PN) (upI T (N : Int) TN) 0 (N + 1) ++ rest)))
  rw [h, ← cS_congr3 (c := c) (P := P) (T := T) (c' := upI c (N : Int) cN) (P' := upI P (N : Int) PN) (T' := upI T (N : Int) TN) N 0 (fun j _ h3 => by rw [upI_n _ _ (by omega), upI_n _ _ (by omega), upI_n _ _ (by omega)]; exact ⟨rfl, rfl, rfl⟩)]
  generalize edC g b (upI c (N : Int) cN) (N + 1) = E9
  refine List.Perm.append_left (dF g b I Q []) (List.Perm.append_left E9 ?_)
  rw [List.append_assoc]
  refine List.Perm.append_left _ ?_
  exact List.perm_append_comm

set_option maxHeartbeats 4000000 in
set_option maxRecDepth 100000 in
theorem k_X3_declare {l : Launch} {g : zG} {b : Nat → Nat} {c : Int → Nat → Nat} {I : Nat → Int} {Q : Nat → Int → Int} {P : Int → Nat → Int} {T : Int → Nat → Int → Int} {N : Nat} {rest : va_W} (hst : l.stackTraces = false) (hI : aI I Q N) (hb : N = 0 → b 13 = g.2.2.2.2.2) (p : Int) (hp : -2147483648 ≤ p ∧ p < 2147483648) (q : Int) (hq : -2147483648 ≤ q ∧ q < 2147483648) (i : Int) (hi : -2147483648 ≤ i ∧ i < 2147483648) (y : Int) (hy : -2147483648 ≤ y ∧ y < 2147483648) (z : Int) (hz : z = 0 ∨ z = 1) : zM l g yX3_declare cX3_declare 6 (Option.some FieldType.int) ({ frames := 7, cells := 10, slots := 214, locals := 108 } : Room) [.ref (b 0), vi p, vi q, vi i, vi z, vi y] (wD g b c I Q P T N rest) (zI fun v w => ((0 ≤ p ∧ p ≤ 3) ∧ (0 ≤ q ∧ q ≤ 3) ∧ (0 ≤ i ∧ i ≤ 4) ∧ (0 ≤ y ∧ y ≤ 2) ∧ p ≠ q) ∧ (N < 6 ∧ I 0 ≤ 0) ∧ v = (N : Int) ∧ ∃ (b1 : Nat → Nat) (cN : Nat → Nat), (∀ k : Nat, k ≠ 13 → b1 k = b k) ∧ w = wD g b1 (upI c (N : Int) cN) (Fup (Fup I 4 (I 4 + 1)) 5 ((N : Int) + 1)) Q (upI P (N : Int) (fun k => [p, q, i, z, y, 0, 0, 0, -1].getD k 0)) (upI T (N : Int) (fun _ => rowF 60)) (N + 1) rest) (fun E w1 => w1 = (wD g b c I Q P T N rest) ∧ ((E = xA ∧ ¬ ((0 ≤ p ∧ p ≤ 3) ∧ (0 ≤ q ∧ q ≤ 3) ∧ (0 ≤ i ∧ i ≤ 4) ∧ (0 ≤ y ∧ y ≤ 2) ∧ p ≠ q)) ∨ (E = xS ∧ ((0 ≤ p ∧ p ≤ 3) ∧ (0 ≤ q ∧ q ≤ 3) ∧ (0 ≤ i ∧ i ≤ 4) ∧ (0 ≤ y ∧ y ≤ 2) ∧ p ≠ q) ∧ ¬ (N < 6 ∧ I 0 ≤ 0)))) 10 214 := by
  have hI5 := hI.1
  have hN := hI.2.1
  have hi0 := hI.2.2.2.2.2.2.1
  refine zM_of (lv0 := [(0, _), (1, _), (2, _), (3, _), (4, _), (5, _)]) hst rfl (by decide +kernel) (Nat.le_of_ble_eq_true rfl) rfl (fun x hx hf hn => ?_)
  have J : ((0 ≤ p ∧ p ≤ 3) ∧ (0 ≤ q ∧ q ≤ 3) ∧ (0 ≤ i ∧ i ≤ 4) ∧ (0 ≤ y ∧ y ≤ 2) ∧ p ≠ q) → (N < 6 ∧ I 0 ≤ 0) → Z l g ({ frames := 7, cells := 10, slots := 214, locals := 108 } : Room) 6 x (0 + 1 + 1 + 0) (0 + 6 + 6 + 0) (wD g b c I Q P T N rest) 104 [(0, .ref (b 0)), (1, vi p), (2, vi q), (3, vi i), (4, vi z), (5, vi y)] [] := by
    intro hga hgb
    refine zz_aload_n hx dX3_declare_104 rfl ?_
    refine zd_g0 hx lf_X3_10 dX3_declare_105 ?_
    refine zz_new (ci := 3) (fs := [vi 0, vi 0, vi 0, vi 0, vi 0, .null, .null, .null, vi 0]) hx lc_X3_73 (zT_dec (by decide +kernel)) (zT_dec (by decide +kernel)) fw_X2 rfl tyX2 tyX2_ok (by decide) (by decide) dX3_declare_108 (fun q9 => ?_)
    refine zz_dup hx dX3_declare_111 rfl ?_
    refine zz_iload_n hx dX3_declare_112 rfl ?_
    refine zz_iload_n hx dX3_declare_113 rfl ?_
    refine zz_iload_n hx dX3_declare_114 rfl ?_
    refine zz_iload hx dX3_declare_115 rfl ?_
    refine zz_iload hx dX3_declare_117 rfl ?_
    refine zz_callI hx mi_X2_init lk_X3_75 (c_SetType_init hst p q i z y hz) ⟨rfl, rfl⟩ (by decide) (by decide) rfl rfl (Nat.le_of_ble_eq_true rfl) dX3_declare_119 (fun _ _ h => h.elim) (fun w119 hp119 => ?_)
    obtain ⟨a1, a2, a3, a4, a5, a6, rfl⟩ := hp119
    have hY : ((cS g c P T 0 N ++ rest) ++ sC g (fun k => [q9, a1, a2, a3, a4, a5, a6].getD k 0) (fun k => [p, q, i, z, y, 0, 0, 0, -1].getD k 0) (fun _ => rowF 60) [])[(cS g c P T 0 N ++ rest).length + 0]? = some (q9, .inr (3, [vi p, vi q, vi i, vi z, vi y, .ref a1, .ref a3, .ref a5, vi (-1)])) := ap_at _ _ 0
    refine zz_eq (w' := dF g b I Q (edC g b c N ++ ((cS g c P T 0 N ++ rest) ++ sC g (fun k => [q9, a1, a2, a3, a4, a5, a6].getD k 0) (fun k => [p, q, i, z, y, 0, 0, 0, -1].getD k 0) (fun _ => rowF 60) []))) (congrArg (dF g b I Q) (List.append_assoc _ _ _)) rfl ?_
    refine zz_callVi hx me_Jx4a65c_add_9ea2d lk_X3_78 (c_add (c' := upI c (N : Int) (fun k => [q9, a1, a2, a3, a4, a5, a6].getD k 0)) hI5 (by omega) hb hY (fun j j0 j1 => by rw [upI_n _ _ (by omega)]) (by rw [upI_s]; rfl) hst) 1 rfl rfl ⟨rfl, rfl⟩ (by decide) (by decide) rfl rfl (Nat.le_of_ble_eq_true rfl) dX3_declare_122 (fun _ _ h => h.elim) (fun r122 w122 hp122 => ?_)
    obtain ⟨b1, hb1, rfl⟩ := hp122
    refine zz_perm (wD_more _ _ _) ?_
    refine zz_pop hx dX3_declare_125 rfl ?_
    rw [← hb1 0 (by decide)]
    refine zz_aload_n hx dX3_declare_126 rfl ?_
    refine zd_g0 hx lf_X3_10 dX3_declare_127 ?_
    refine zz_callVi hx me_Jx4a65c_size_8abf5 lk_X3_62 (k_Jx4a65c_size_8abf5 hst) 1 rfl rfl ⟨rfl, rfl⟩ (by decide) (by decide) rfl rfl (Nat.le_of_ble_eq_true rfl) dX3_declare_130 (fun _ _ h => h.elim) (fun r130 w130 hp130 => ?_)
    obtain ⟨rfl, rfl⟩ := hp130
    refine zz_iconst hx dX3_declare_133 ?_
    refine zz_isub hx dX3_declare_134 ?_
    exact zz_iret hx hf dX3_declare_135 ⟨_, rfl, hga, hgb, by rw [Fup_s]; omega, b1, _, hb1, rfl⟩ (by decide) (by decide)
  refine zz_aload_n hx dX3_declare_0 rfl ?_
  refine zz_iload_n hx dX3_declare_1 rfl ?_
  refine zz_callVv hx me_X3_requireType lk_X3_48 (k_X3_requireType hst _ (by omega)) 0 rfl rfl ⟨rfl, rfl⟩ (by decide) (by decide) rfl rfl (Nat.le_of_ble_eq_true rfl) dX3_declare_2 (fun E9 w9 hX => by obtain ⟨rfl, rfl, hX⟩ := hX; exact zz_out hx hf hn ⟨rfl, Or.inl ⟨rfl, fun z9 => by omega⟩⟩ (by decide) (by decide)) (fun w2 hp2 => ?_)
  obtain ⟨rfl, hgp⟩ := hp2
  refine zz_aload_n hx dX3_declare_5 rfl ?_
  refine zz_iload_n hx dX3_declare_6 rfl ?_
  refine zz_callVv hx me_X3_requireType lk_X3_48 (k_X3_requireType hst _ (by omega)) 0 rfl rfl ⟨rfl, rfl⟩ (by decide) (by decide) rfl rfl (Nat.le_of_ble_eq_true rfl) dX3_declare_7 (fun E9 w9 hX => by obtain ⟨rfl, rfl, hX⟩ := hX; exact zz_out hx hf hn ⟨rfl, Or.inl ⟨rfl, fun z9 => by omega⟩⟩ (by decide) (by decide)) (fun w7 hp7 => ?_)
  obtain ⟨rfl, hgq⟩ := hp7
  refine zz_iload_n hx dX3_declare_10 rfl ?_
  refine zz_iload_n hx dX3_declare_11 rfl ?_
  refine zz_icmp_ne hx 25 dX3_declare_12 rfl (by omega) (by omega) (fun c12 => ?_) (fun c12 => ?_)
  · refine zz_iload_n hx dX3_declare_25 rfl ?_
    refine zz_if_lt hx 34 dX3_declare_26 rfl (by omega) (fun c26 => ?_) (fun c26 => ?_)
    · exact zz_throw hx hf hn zth_A (List.mem_of_getElem? (i := 1) rfl) dX3_declare_34 dX3_declare_37 dX3_declare_38 dX3_declare_40 dX3_declare_43 (by decide) (by decide) ⟨rfl, Or.inl ⟨rfl, fun z9 => by omega⟩⟩
    · refine zz_iload_n hx dX3_declare_29 rfl ?_
      refine zz_iconst hx dX3_declare_30 ?_
      refine zz_icmp_le hx 44 dX3_declare_31 rfl (by omega) (by omega) (fun c31 => ?_) (fun c31 => ?_)
      · refine zz_iload hx dX3_declare_44 rfl ?_
        refine zz_if_lt hx 55 dX3_declare_46 rfl (by omega) (fun c46 => ?_) (fun c46 => ?_)
        · exact zz_throw hx hf hn zth_A (List.mem_of_getElem? (i := 2) rfl) dX3_declare_55 dX3_declare_58 dX3_declare_59 dX3_declare_61 dX3_declare_64 (by decide) (by decide) ⟨rfl, Or.inl ⟨rfl, fun z9 => by omega⟩⟩
        · refine zz_iload hx dX3_declare_49 rfl ?_
          refine zz_iconst hx dX3_declare_51 ?_
          refine zz_icmp_le hx 65 dX3_declare_52 rfl (by omega) (by omega) (fun c52 => ?_) (fun c52 => ?_)
          · refine zz_aload_n hx dX3_declare_65 rfl ?_
            refine zd_g0 hx lf_X3_10 dX3_declare_66 ?_
            refine zz_callVi hx me_Jx4a65c_size_8abf5 lk_X3_62 (k_Jx4a65c_size_8abf5 hst) 1 rfl rfl ⟨rfl, rfl⟩ (by decide) (by decide) rfl rfl (Nat.le_of_ble_eq_true rfl) dX3_declare_69 (fun _ _ h => h.elim) (fun r69 w69 hp69 => ?_)
            obtain ⟨rfl, rfl⟩ := hp69
            refine zz_bipush hx dX3_declare_72 rfl ?_
            refine zz_icmp_lt hx 87 dX3_declare_74 rfl (by omega) (by omega) (fun c74 => ?_) (fun c74 => ?_)
            · refine zz_aload_n hx dX3_declare_87 rfl ?_
              refine zd_g5 hx lf_X3_38 dX3_declare_88 ?_
              refine zz_if_le hx 104 dX3_declare_91 rfl (by omega) (fun c91 => ?_) (fun c91 => ?_)
              · exact J (by omega) (by omega)
              · exact zz_throw hx hf hn zth_S (List.mem_of_getElem? (i := 4) rfl) dX3_declare_94 dX3_declare_97 dX3_declare_98 dX3_declare_100 dX3_declare_103 (by decide) (by decide) ⟨rfl, Or.inr ⟨rfl, by omega, fun z9 => by omega⟩⟩
            · exact zz_throw hx hf hn zth_S (List.mem_of_getElem? (i := 3) rfl) dX3_declare_77 dX3_declare_80 dX3_declare_81 dX3_declare_83 dX3_declare_86 (by decide) (by decide) ⟨rfl, Or.inr ⟨rfl, by omega, fun z9 => by omega⟩⟩
          · exact zz_throw hx hf hn zth_A (List.mem_of_getElem? (i := 2) rfl) dX3_declare_55 dX3_declare_58 dX3_declare_59 dX3_declare_61 dX3_declare_64 (by decide) (by decide) ⟨rfl, Or.inl ⟨rfl, fun z9 => by omega⟩⟩
      · exact zz_throw hx hf hn zth_A (List.mem_of_getElem? (i := 1) rfl) dX3_declare_34 dX3_declare_37 dX3_declare_38 dX3_declare_40 dX3_declare_43 (by decide) (by decide) ⟨rfl, Or.inl ⟨rfl, fun z9 => by omega⟩⟩
  · exact zz_throw hx hf hn zth_A (List.mem_of_getElem? (i := 0) rfl) dX3_declare_15 dX3_declare_18 dX3_declare_19 dX3_declare_21 dX3_declare_24 (by decide) (by decide) ⟨rfl, Or.inl ⟨rfl, fun z9 => by omega⟩⟩
