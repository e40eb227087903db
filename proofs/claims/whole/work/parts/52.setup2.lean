/-! a setup whole: on both sides -/
section SU
variable {M N : cl_M} {n : Nat}
/-- what a setup comes to -/
def su_out (t b : Nat) (M N : cl_M) (x : Option (Int32 × cl_M)) (z : cl_M → Option (Int32 × cl_M)) (y : Option (Int32 × cl_M)) : Prop :=
  (∃ M' N', x = some (0, M') ∧ y = some (0, N') ∧ tx_E M' N' ∧ ts_f t M M' N N') ∨
  (∃ M1 M' N', x = some (1, M1) ∧ z M1 = some (-1, M') ∧ y = some (0, N') ∧ tx_E M' N' ∧ ts_f t M M' N N') ∨
  ∃ M1 M' N' d g m, x = some (1, M1) ∧ z M1 = some (nI d, M') ∧ d ≤ 40 ∧ y = some (1, N') ∧ tx_E M' N' ∧ cg_L M' t (N' 239) g m ∧ m ≤ b ∧ ts_f t M M' N N'
theorem su_setup {t b : Nat} (ht : 4 ≤ t) (ht2 : t + 19 ≤ 237) (hb1 : 8200 ≤ b) (hb : b < 2 ^ 30) (hB : lx_B n M N) (r1 : M 1 1 = nI n) (q1 : N 237 1 = nI n) (hz : ∀ k, k < 149 → N 239 k = 0) :
    su_out t b M N (f_X3_readHead M 1 t) (fun M1 => f_X3_readCommands M1 1 t) ((f_X6_startText N 237).bind (fun M5 => f_X6_setupText M5 237)) := by
  obtain ⟨s0, s1, -⟩ := tx_ss
  have z1 : cl_bz 1 = true := by decide
  have z0 : cl_bz 0 = true := by decide
  have o1 : ¬ (1 : Int32) = 0 := by decide
  obtain ⟨M1, N1, a1, a2, P1, f1⟩ := st_begin hB r1 q1
  rw [f_X3_readHead, a1, Option.bind_some, a2, Option.bind_some, f_X6_setupText]
  have g1 := ts_f_of (t := t) f1
  rcases tx_expect P1 s0 with ⟨M2, N2, b1, b2, b3, b4⟩ | ⟨M2, N2, b1, b2, P2, f2⟩
  · left
    exact ⟨M2, N2, by rw [b1, cu_b2, if_pos rfl], by rw [b2, cu_b2, if_pos rfl], b3, ts_f_tr g1 (ts_f_of b4)⟩
  rw [b1, cu_b2, if_neg o1, b2, cu_b2, if_neg o1]
  have g2 := ts_f_tr g1 (ts_f_of (t := t) f2)
  rcases tx_num (a := 0) (lo := 0) (hi := 30) (k := 0) (l := 0) P2 rfl (by omega) rfl (by omega) (by decide) with ⟨M3, N3, c1, c2, c3, c4⟩ | ⟨M3, N3, v0, c1, c2, ⟨-, c4, c5, c6, c7⟩, P3, f3⟩
  · left
    exact ⟨M3, N3, by rw [c1, cu_b2, if_pos rfl], by rw [c2, cu_b2, if_pos rfl], c3, ts_f_tr g2 (ts_f_of c4)⟩
  rw [c1, cu_b2, if_neg o1, c2, cu_b2, if_neg o1]
  have g3 := ts_f_tr g2 (ts_f_of (t := t) f3)
  rcases tx_num (a := 1) (lo := 0) (hi := 30) (k := 1) (l := 0) P3 rfl (by omega) rfl (by omega) (by decide) with ⟨M4, N4, d1, d2, d3, d4⟩ | ⟨M4, N4, v1, d1, d2, ⟨-, d4, d5, d6, d7⟩, P4, f4⟩
  · left
    exact ⟨M4, N4, by rw [d1, cu_b2, if_pos rfl], by rw [d2, cu_b2, if_pos rfl], d3, ts_f_tr g3 (ts_f_of d4)⟩
  rw [d1, cu_b2, if_neg o1, d2, cu_b2, if_neg o1]
  have g4 := ts_f_tr g3 (ts_f_of (t := t) f4)
  rcases tx_num (a := 2) (lo := 0) (hi := 24) (k := 2) (l := 0) P4 rfl (by omega) rfl (by omega) (by decide) with ⟨M5, N5, e1, e2, e3, e4⟩ | ⟨M5, N5, v2, e1, e2, ⟨-, e4, e5, e6, e7⟩, P5, f5⟩
  · left
    exact ⟨M5, N5, by rw [e1, cu_b2, if_pos rfl], by rw [e2, cu_b2, if_pos rfl], e3, ts_f_tr g4 (ts_f_of e4)⟩
  rw [e1, cu_b2, if_neg o1, e2, cu_b2, if_neg o1]
  have g5 := ts_f_tr g4 (ts_f_of (t := t) f5)
  rcases tx_semi P5 with ⟨M6, N6, h1, h2, h3, h4⟩ | ⟨M6, N6, h1, h2, P6, f6⟩
  · left
    exact ⟨M6, N6, by rw [h1, cu_b2, if_pos rfl], by rw [h2, cu_b2, if_pos rfl], h3, ts_f_tr g5 (ts_f_of h4)⟩
  rw [h1, cu_b2, if_neg o1, h2, cu_b2, if_neg o1]
  have g6 := ts_f_tr g5 (ts_f_of (t := t) f6)
  -- the line made anew
  have m0 : M6 3 0 = nI v0 ∧ N6 245 0 = nI v0 := by
    have k6 := f6.2.2.2.1 0 rfl
    have k5 := f5.2.2.2.1 0 (by decide)
    have k4 := f4.2.2.2.1 0 (by decide)
    exact ⟨by rw [k6.1, k5.1, k4.1, c6], by rw [k6.2, k5.2, k4.2, c7]⟩
  have m1 : M6 3 1 = nI v1 ∧ N6 245 1 = nI v1 := by
    have k6 := f6.2.2.2.1 1 rfl
    have k5 := f5.2.2.2.1 1 (by decide)
    exact ⟨by rw [k6.1, k5.1, d6], by rw [k6.2, k5.2, d7]⟩
  have m2 : M6 3 2 = nI v2 ∧ N6 245 2 = nI v2 := by
    have k6 := f6.2.2.2.1 2 rfl
    exact ⟨by rw [k6.1, e6], by rw [k6.2, e7]⟩
  have hv0 : v0 ≤ 30 := tx_le (h := 30) c4 (by omega) c5
  have hv1 : v1 ≤ 30 := tx_le (h := 30) d4 (by omega) d5
  have hv2 : v2 ≤ 24 := tx_le (h := 24) e4 (by omega) e5
  have hN6 : N6 239 = N 239 := by
    rw [f6.2.1 239 (by decide) (by decide), f5.2.1 239 (by decide) (by decide), f4.2.1 239 (by decide) (by decide), f3.2.1 239 (by decide) (by decide), f2.2.1 239 (by decide) (by decide), f1.2.1 239 (by decide) (by decide)]
  obtain ⟨M7, hM7⟩ : ∃ z, z = cl_row (cl_row M6 t (upd (upd (upd (upd (M6 t) 0 (nI v0)) 1 (nI v1)) 2 0) 3 0)) (t + 1) (upd (upd (upd (upd (M6 (t + 1)) 0 (nI v2)) 2 0) 6 0) 9 0) := ⟨_, rfl⟩
  obtain ⟨N7, hN7⟩ : ∃ z, z = cl_row N6 239 (upd (upd (upd (N6 239) 2 (nI v0)) 3 (nI v1)) 1 (nI v2)) := ⟨_, rfl⟩
  have eC : f_X2_clear M6 t (M6 (1 + 2) 0) (M6 (1 + 2) 1) (M6 (1 + 2) 2) = some M7 := by
    rw [show M6 (1 + 2) 0 = nI v0 from m0.1, show M6 (1 + 2) 1 = nI v1 from m1.1, show M6 (1 + 2) 2 = nI v2 from m2.1, hM7]
    conv => lhs; rw [ac_cell M6 t]
    simp only [f_X2_clear, cl_let, cu_tt]
    have ec : ∀ (X : cl_M), X = cl_row X (t + 1) (X (t + 1)) := fun X => ac_cell X (t + 1)
    rw [ec (cl_row M6 t (upd (upd (upd (upd (M6 t) 0 (nI v0)) 1 (nI v1)) 2 0) 3 0))]
    simp only [f_X4_clear, cl_let, cu_tt, Option.bind_some, cu_rr, cl_row_n (show t + 1 ≠ t by omega)]
  have hM7f : ∀ x, x ≠ t → x ≠ t + 1 → M7 x = M6 x := fun x p q => by rw [hM7, cl_row_n q, cl_row_n p]
  have hN7f : ∀ x, x ≠ 239 → N7 x = N6 x := fun x p => by rw [hN7, cl_row_n p]
  have W7 : st_W M7 N7 t v0 v1 v2 0 := by
    have ht7 : M7 t = upd (upd (upd (upd (M6 t) 0 (nI v0)) 1 (nI v1)) 2 0) 3 0 := by rw [hM7, cl_row_n (by omega), cl_row_s]
    have ht8 : M7 (t + 1) = upd (upd (upd (upd (M6 (t + 1)) 0 (nI v2)) 2 0) 6 0) 9 0 := by rw [hM7, cl_row_s]
    have hn9 : N7 239 = upd (upd (upd (N6 239) 2 (nI v0)) 3 (nI v1)) 1 (nI v2) := by rw [hN7, cl_row_s]
    refine ⟨⟨hv0, hv1, hv2, by omega⟩, ⟨?_, ?_, ?_, ?_⟩, ⟨?_, ?_, ?_, ?_⟩, ⟨?_, ?_, ?_, ?_⟩, fun k p1 p2 p3 p4 p5 p6 => ?_, fun j hj => absurd hj (Nat.not_lt_zero j)⟩
    · rw [ht7]; simp (disch := omega) only [cl_let, Option.bind_some, cl_b2, nI_add, pk_mul, nI_leI, nI_ltI, nI_eq, nI_clamp, cu_inb, if_pos, if_neg, eq_self, ite_true, ite_false, if_true, if_false, pk_us, pk_un]
    · rw [ht7]; simp (disch := omega) only [cl_let, Option.bind_some, cl_b2, nI_add, pk_mul, nI_leI, nI_ltI, nI_eq, nI_clamp, cu_inb, if_pos, if_neg, eq_self, ite_true, ite_false, if_true, if_false, pk_us, pk_un]
    · rw [ht7]; simp (disch := omega) only [cl_let, Option.bind_some, cl_b2, nI_add, pk_mul, nI_leI, nI_ltI, nI_eq, nI_clamp, cu_inb, if_pos, if_neg, eq_self, ite_true, ite_false, if_true, if_false, pk_us, pk_un]
    · rw [ht7]; simp (disch := omega) only [cl_let, Option.bind_some, cl_b2, nI_add, pk_mul, nI_leI, nI_ltI, nI_eq, nI_clamp, cu_inb, if_pos, if_neg, eq_self, ite_true, ite_false, if_true, if_false, pk_us, pk_un]
    · rw [ht8]; simp (disch := omega) only [cl_let, Option.bind_some, cl_b2, nI_add, pk_mul, nI_leI, nI_ltI, nI_eq, nI_clamp, cu_inb, if_pos, if_neg, eq_self, ite_true, ite_false, if_true, if_false, pk_us, pk_un]
    · rw [ht8]; simp (disch := omega) only [cl_let, Option.bind_some, cl_b2, nI_add, pk_mul, nI_leI, nI_ltI, nI_eq, nI_clamp, cu_inb, if_pos, if_neg, eq_self, ite_true, ite_false, if_true, if_false, pk_us, pk_un, nI_0]
    · rw [ht8]; simp (disch := omega) only [cl_let, Option.bind_some, cl_b2, nI_add, pk_mul, nI_leI, nI_ltI, nI_eq, nI_clamp, cu_inb, if_pos, if_neg, eq_self, ite_true, ite_false, if_true, if_false, pk_us, pk_un]
    · rw [ht8]; simp (disch := omega) only [cl_let, Option.bind_some, cl_b2, nI_add, pk_mul, nI_leI, nI_ltI, nI_eq, nI_clamp, cu_inb, if_pos, if_neg, eq_self, ite_true, ite_false, if_true, if_false, pk_us, pk_un]
    · rw [hn9]; simp (disch := omega) only [cl_let, Option.bind_some, cl_b2, nI_add, pk_mul, nI_leI, nI_ltI, nI_eq, nI_clamp, cu_inb, if_pos, if_neg, eq_self, ite_true, ite_false, if_true, if_false, pk_us, pk_un]
    · rw [hn9]; simp (disch := omega) only [cl_let, Option.bind_some, cl_b2, nI_add, pk_mul, nI_leI, nI_ltI, nI_eq, nI_clamp, cu_inb, if_pos, if_neg, eq_self, ite_true, ite_false, if_true, if_false, pk_us, pk_un]
    · rw [hn9]; simp (disch := omega) only [cl_let, Option.bind_some, cl_b2, nI_add, pk_mul, nI_leI, nI_ltI, nI_eq, nI_clamp, cu_inb, if_pos, if_neg, eq_self, ite_true, ite_false, if_true, if_false, pk_us, pk_un]
    · rw [hn9, pk_un (by decide), pk_un (by decide), pk_un (by decide), hN6, hz 4 (by omega)]; rfl
    · rw [hn9, pk_un p2, pk_un p4, pk_un p3, hN6]; exact hz k p1
  have P7 : tx_P n M7 N7 := tx_P_cong P6 (hM7f 1 (by omega) (by omega)) (hM7f 2 (by omega) (by omega)) (hN7f 237 (by decide)) (hN7f 238 (by decide))
  have g7 : ts_f t M M7 N N7 := ts_f_tr g6 ⟨fun x _ _ h => hM7f x (by omega) (by omega), fun x _ h _ => hN7f x h, by rw [hM7f 1 (by omega) (by omega)], fun k _ _ _ => by rw [hN7f 237 (by decide)]⟩
  have eN : cl_let (cl_ms N6 (237 + 2) 2 (N6 (237 + 8) 0)) (fun M21 => cl_let (cl_ms M21 (237 + 2) 3 (M21 (237 + 8) 1)) (fun M22 => cl_let (cl_ms M22 (237 + 2) 1 (M22 (237 + 8) 2)) (fun M23 => cl_b2 (f_X6_expects M23 237 12) (fun v24 M25 => if v24 = 0 then some (0, M25) else f_X6_setupText_98 cl_F M25 237)))) = cl_b2 (f_X6_expects N7 237 12) (fun v24 M25 => if v24 = 0 then some (0, M25) else f_X6_setupText_98 cl_F M25 237) := by
    have e45 : ∀ (X : cl_M) (j : Nat) (v : Int32), (cl_ms X 239 j v) 245 = X 245 := fun X j v => cl_row_n (by decide)
    simp only [cl_let, Nat.reduceAdd, e45, m0.2, m1.2, m2.2]
    rw [hN7]
    congr 2
    conv => lhs; rw [ac_cell N6 239]
    simp only [cu_tt]
  rw [eC, Option.bind_some, eN]
  rcases tx_expect P7 s1 with ⟨M8, N8, b1, b2, b3, b4⟩ | ⟨M8, N8, b1, b2, P8, f8⟩
  · left
    exact ⟨M8, N8, by rw [b1, cu_b2, if_pos rfl, f_X3_readHead_102, if_pos z0], by rw [b2, cu_b2, if_pos rfl], b3, ts_f_tr g7 (ts_f_of b4)⟩
  rw [b1, cu_b2, if_neg o1, b2, cu_b2, if_neg o1]
  have g8 := ts_f_tr g7 (ts_f_of (t := t) f8)
  have W8 := st_W_cong f8 ht W7
  rcases st_winds ht ht2 8 0 (by omega) cl_F cl_F (by unfold cl_F; omega) (by unfold cl_F; omega) M8 N8 P8 W8 with ⟨M9, N9, x1, x2, x3, x4⟩ | ⟨M9, N9, x1, x2, P9, L9, f9⟩
  · left
    refine ⟨M9, N9, ?_, x2, x3, ts_f_tr g8 x4⟩
    rw [f_X3_readPattern, show f_X3_readPattern_2 cl_F M8 1 (t + 1) 0 = some (0, M9) from x1, cu_b2, if_pos rfl, f_X3_readHead_102, if_pos z0]
  · right
    have g9 := ts_f_tr g8 f9
    have hone : cl_b2 (f_X3_readPattern M8 1 (t + 1)) (fun v30 M31 => if v30 = 0 then f_X3_readHead_102 M31 0 else f_X3_readHead_102 M31 1) = some (1, M9) := by
      rw [f_X3_readPattern, show f_X3_readPattern_2 cl_F M8 1 (t + 1) 0 = some (1, M9) from x1, cu_b2, if_neg o1, f_X3_readHead_102, if_pos z1]
    rw [hone, x2]
    rcases ts_all (b := b) ht ht2 P9 L9 (by omega) hb with ⟨M', N', y1, y2, y3, y4⟩ | ⟨M', N', d, g, m, hd, y1, y2, y3, y4, y5, y6⟩
    · left
      refine ⟨M9, M', N', rfl, y1, ?_, y3, ts_f_tr g9 y4⟩
      rw [y2, cu_b2, if_pos (by decide), f_X6_setupText_194, if_pos z0]
    · right
      refine ⟨M9, M', N', d, g, m, rfl, y1, hd, ?_, y3, y4, y5, ts_f_tr g9 y6⟩
      rw [y2, cu_b2, if_neg (nI_pos (by omega)), f_X6_setupText_194, if_pos z1]
end SU
