/-! a setup: on both sides -/
section ST
variable {M N : cl_M} {n : Nat}
theorem st_begin (hB : lx_B n M N) (r1 : M 1 1 = nI n) (q1 : N 237 1 = nI n) : ∃ M1 N1, f_X3_begin M 1 = some M1 ∧ f_X6_startText N 237 = some N1 ∧ tx_P n M1 N1 ∧ tx_f tx_no M M1 N N1 := by
  have e1 : cl_ms (cl_ms (cl_ms M 1 2 0) 1 8 0) 1 9 (-1) = cl_row M 1 (upd (upd (upd (M 1) 2 0) 8 0) 9 (-1)) := by
    conv => lhs; rw [ac_cell M 1]
    simp (disch := omega) only [cl_let, Option.bind_some, cl_b2, nI_add, pk_mul, nI_leI, nI_ltI, nI_eq, nI_clamp, cu_inb, if_pos, if_neg, eq_self, ite_true, ite_false, if_true, if_false, cu_tt]
  have e2 : cl_ms (cl_ms (cl_ms N 237 2 0) 237 3 (-1)) 237 14 0 = cl_row N 237 (upd (upd (upd (N 237) 2 0) 3 (-1)) 14 0) := by
    conv => lhs; rw [ac_cell N 237]
    simp (disch := omega) only [cl_let, Option.bind_some, cl_b2, nI_add, pk_mul, nI_leI, nI_ltI, nI_eq, nI_clamp, cu_inb, if_pos, if_neg, eq_self, ite_true, ite_false, if_true, if_false, cu_tt]
  have r2 : (upd (upd (upd (M 1) 2 0) 8 0) 9 (-1)) 2 = nI 0 := by rw [pk_un (by decide), pk_un (by decide), pk_us]; rfl
  have q2 : (upd (upd (upd (N 237) 2 0) 3 (-1)) 14 0) 14 = nI 0 := by rw [pk_us]; rfl
  have r1' : (upd (upd (upd (M 1) 2 0) 8 0) 9 (-1)) 1 = nI n := by simp (disch := omega) only [cl_let, Option.bind_some, cl_b2, nI_add, pk_mul, nI_leI, nI_ltI, nI_eq, nI_clamp, cu_inb, if_pos, if_neg, eq_self, ite_true, ite_false, if_true, if_false, pk_un, r1]
  have q1' : (upd (upd (upd (N 237) 2 0) 3 (-1)) 14 0) 1 = nI n := by simp (disch := omega) only [cl_let, Option.bind_some, cl_b2, nI_add, pk_mul, nI_leI, nI_ltI, nI_eq, nI_clamp, cu_inb, if_pos, if_neg, eq_self, ite_true, ite_false, if_true, if_false, pk_un, q1]
  obtain ⟨R', Q', z1, z2, z3, z4, z5⟩ := lx_next (M := M) (N := N) (p := 0) hB (by omega) r1' q1' r2 q2
  have hall : ∀ M' : cl_M, M' 1 = upd (upd (upd (M 1) 2 0) 8 0) 9 (-1) → M' 2 = M 2 → ∃ R', f_X3_advance M' 1 = some (cl_row M' 1 R') ∧ lx_T n R' Q' ∧ lx_fC (upd (upd (upd (M 1) 2 0) 8 0) 9 (-1)) R' := fun M' e1 e2 => by
    obtain ⟨R2, Q2, y1, y2, y3, y4, -⟩ := lx_next (M := M') (N := N) (p := 0) (lx_B_cong e2 rfl hB) (by omega) r1' q1' r2 q2
    rw [← e1, cu_rself] at y1
    have hQ : Q2 = Q' := by
      have := congrFun (Option.some.inj (y2.symm.trans z2)) 237
      rwa [cl_row_s, cl_row_s] at this
    rw [hQ] at y3
    exact ⟨R2, y1, y3, y4⟩
  refine ⟨cl_row M 1 (upd (upd (upd (M 1) 2 0) 8 0) 9 (-1)), cl_row N 237 Q', ?_, ?_, ⟨lx_B_cong (cl_row_n (by decide)) (cl_row_n (by decide)) hB, fun M' e1 e2 => ?_, ?_, ?_⟩, fun x a _ => cl_row_n a, fun x a _ => cl_row_n a, ⟨?_, ?_⟩, fun j _ => ⟨?_, ?_⟩, fun k a b c => ?_⟩
  · rw [f_X3_begin, cl_let, cl_let, cl_let, e1]
  · rw [f_X6_startText, cl_let, cl_let, cl_let, e2, z2, Option.bind_some]
  · rw [cl_row_s] at e1 ⊢
    rw [cl_row_s]
    exact hall M' e1 (e2.trans (cl_row_n (by decide)))
  · rw [cl_row_s, cl_row_s, z5 2 (by decide) (by decide) (by decide) (by decide)]; simp (disch := omega) only [cl_let, Option.bind_some, cl_b2, nI_add, pk_mul, nI_leI, nI_ltI, nI_eq, nI_clamp, cu_inb, if_pos, if_neg, eq_self, ite_true, ite_false, if_true, if_false, pk_us, pk_un]
  · rw [cl_row_s, cl_row_s, z5 3 (by decide) (by decide) (by decide) (by decide)]; simp (disch := omega) only [cl_let, Option.bind_some, cl_b2, nI_add, pk_mul, nI_leI, nI_ltI, nI_eq, nI_clamp, cu_inb, if_pos, if_neg, eq_self, ite_true, ite_false, if_true, if_false, pk_us, pk_un]
  · rw [cl_row_s]; simp (disch := omega) only [cl_let, Option.bind_some, cl_b2, nI_add, pk_mul, nI_leI, nI_ltI, nI_eq, nI_clamp, cu_inb, if_pos, if_neg, eq_self, ite_true, ite_false, if_true, if_false, pk_un]
  · rw [cl_row_s]; simp (disch := omega) only [cl_let, Option.bind_some, cl_b2, nI_add, pk_mul, nI_leI, nI_ltI, nI_eq, nI_clamp, cu_inb, if_pos, if_neg, eq_self, ite_true, ite_false, if_true, if_false, pk_un]
  · rw [cl_row_n (by decide)]
  · rw [cl_row_n (by decide)]
  · rw [cl_row_s, z5 k (by omega) (by omega) (by omega) (by omega)]; simp (disch := omega) only [cl_let, Option.bind_some, cl_b2, nI_add, pk_mul, nI_leI, nI_ltI, nI_eq, nI_clamp, cu_inb, if_pos, if_neg, eq_self, ite_true, ite_false, if_true, if_false, pk_un]
/-- a line just made, with w winds -/
def st_W (M N : cl_M) (t a b s w : Nat) : Prop :=
  (a ≤ 30 ∧ b ≤ 30 ∧ s ≤ 24 ∧ w ≤ 8) ∧ (M t 0 = nI a ∧ M t 1 = nI b ∧ M t 2 = 0 ∧ M t 3 = 0) ∧ (M (t + 1) 0 = nI s ∧ M (t + 1) 2 = nI w ∧ M (t + 1) 6 = 0 ∧ M (t + 1) 9 = 0) ∧
  (N 239 2 = nI a ∧ N 239 3 = nI b ∧ N 239 1 = nI s ∧ N 239 4 = nI w) ∧ (∀ k, k < 149 → k ≠ 1 → k ≠ 2 → k ≠ 3 → k ≠ 4 → (k < 11 ∨ 19 ≤ k) → N 239 k = 0) ∧
  ∀ j, j < w → ∃ v, v ≤ 5 ∧ M (t + 2) j = nI v ∧ N 239 (11 + j) = nI v
theorem st_W_cong {A : Nat → Bool} {t a b s w : Nat} {M' N' : cl_M} (h : tx_f A M M' N N') (ht : 4 ≤ t) (W : st_W M N t a b s w) : st_W M' N' t a b s w := by
  unfold st_W
  rw [h.1 t (by omega) (by omega), h.1 (t + 1) (by omega) (by omega), h.1 (t + 2) (by omega) (by omega), h.2.1 239 (by decide) (by decide)]
  exact W
theorem st_L {t a b s w : Nat} (W : st_W M N t a b s w) (hw : 1 ≤ w) : cg_L M t (N 239) 0 0 := by
  obtain ⟨⟨ha, hb, hs, hw8⟩, ⟨t0, t1, t2, t3⟩, ⟨u0, u2, u6, u9⟩, ⟨n2, n3, n1, n4⟩, hz, hj⟩ := W
  have x4 : cw_x (N 239) 4 = nI w := by rw [cw_xi rfl, n4]
  have x5 : cw_x (N 239) 5 = 0 := by rw [cw_xi rfl, hz 5 (by omega) (by omega) (by omega) (by omega) (by omega) (by omega)]
  have x6 : cw_x (N 239) 6 = 0 := by rw [cw_xi rfl, hz 6 (by omega) (by omega) (by omega) (by omega) (by omega) (by omega)]
  refine ⟨⟨by omega, t3, hz 7 (by omega) (by omega) (by omega) (by omega) (by omega) (by omega), t2, hz 0 (by omega) (by omega) (by omega) (by omega) (by omega) (by omega), ⟨⟨s, hs, by rw [cw_xi rfl, n1]⟩, ⟨w, hw, hw8, x4, fun j hjw => ?_⟩, ⟨0, by omega, x5, fun j hj => absurd hj (Nat.not_lt_zero j)⟩, ⟨0, by omega, x6, fun j hj => absurd hj (Nat.not_lt_zero j)⟩⟩, ⟨by rw [u0, cw_xi rfl, n1], by rw [u2, x4], by rw [u6, x5], by rw [u9, x6], fun j hjw => ?_, fun j hj => ?_, fun j hj => ?_⟩⟩, fun k hk => absurd hk (Nat.not_lt_zero k), fun j k _ hk => absurd hk (Nat.not_lt_zero k), ⟨hz 8 (by omega) (by omega) (by omega) (by omega) (by omega) (by omega), hz 9 (by omega) (by omega) (by omega) (by omega) (by omega) (by omega), hz 10 (by omega) (by omega) (by omega) (by omega) (by omega) (by omega)⟩, a, b, a, b, ⟨ha, hb, t0, t1, n2, n3⟩, rfl, rfl⟩
  · obtain ⟨v, v5, e1, e2⟩ := hj j hjw
    exact ⟨v, v5, by rw [cw_xi (cw_win (by omega)), e2]⟩
  · rw [x4, cN_nI (by omega)] at hjw
    obtain ⟨v, v5, e1, e2⟩ := hj j hjw
    rw [cw_xi (cw_win (by omega)), e2]
    exact e1
  · rw [x5] at hj; exact absurd hj (Nat.not_lt_zero j)
  · rw [x6] at hj; exact absurd hj (Nat.not_lt_zero j)
/-- the pattern of winds -/
theorem st_winds {t a b s : Nat} (ht : 4 ≤ t) (ht2 : t + 19 ≤ 237) : ∀ j w, w + j = 8 → ∀ k1 k2, j < k1 → j < k2 → ∀ M N : cl_M, tx_P n M N → st_W M N t a b s w →
    (∃ M' N', f_X3_readPattern_2 k1 M 1 (t + 1) (nI w) = some (0, M') ∧ f_X6_setupText_98 k2 N 237 = some (0, N') ∧ tx_E M' N' ∧ ts_f t M M' N N') ∨
    ∃ M' N', f_X3_readPattern_2 k1 M 1 (t + 1) (nI w) = some (1, M') ∧ f_X6_setupText_98 k2 N 237 = cl_b2 (f_X6_commandsText N' 237) (fun v46 M47 => if v46 < 0 then f_X6_setupText_194 M47 0 else f_X6_setupText_194 M47 1) ∧ tx_P n M' N' ∧ cg_L M' t (N' 239) 0 0 ∧ ts_f t M M' N N' := by
  have z1 : cl_bz 1 = true := by decide
  have z0 : cl_bz 0 = true := by decide
  have o1 : ¬ (1 : Int32) = 0 := by decide
  intro j
  induction j with
  | zero =>
    intro w hw k1 k2 hk1 hk2 M N P W
    obtain ⟨k1, rfl, hk1⟩ := cu_fuel hk1
    obtain ⟨k2, rfl, hk2⟩ := cu_fuel hk2
    have hw : w = 8 := by omega
    subst hw
    obtain ⟨M1, a1, K1, f1⟩ := tx_adv P
    have W1 := st_W_cong f1 ht W
    have n4 : N (237 + 2) 4 = nI 8 := W.2.2.2.1.2.2.2
    have hkind : (M1 1 3 = 3 ∧ N 237 15 = 2) ∨ (¬ M1 1 3 = 3 ∧ ¬ N 237 15 = 2) := by
      rcases K1.2.1.2.2.2 with ⟨a, b⟩ | ⟨a, b⟩ | ⟨a, b, -⟩ | ⟨a, b⟩ | ⟨a, b⟩
      · right; rw [a, b]; decide
      · right; rw [a, b]; decide
      · right; rw [a, b]; decide
      · left; exact ⟨a, b⟩
      · right; rw [a, b]; decide
    rw [f_X3_readPattern_2, if_neg (show ¬ (8 : Int32) < nI 8 by decide), a1, Option.bind_some, if_neg (show ¬ nI 8 ≤ 0 by decide), f_X6_setupText_98, n4, if_neg (show ¬ nI 8 = 0 by decide)]
    rcases hkind with ⟨e1, e2⟩ | ⟨e1, e2⟩
    · right
      obtain ⟨N1, b1, P1, f2⟩ := tx_nxt K1
      rw [if_pos e1, if_pos e2, b1, Option.bind_some]
      exact ⟨M1, N1, rfl, rfl, P1, st_L (st_W_cong f2 ht W1) (by omega), ts_f_tr (ts_f_of f1) (ts_f_of f2)⟩
    · left
      have hfail : ∀ c, ∃ M2 N2, f_X3_fail M1 1 c = some (0, M2) ∧ f_X6_wrong N 237 c = some (0, N2) ∧ tx_E M2 N2 ∧ ts_f t M M2 N N2 := fun c => by
        obtain ⟨M2, N2, y1, y2, hE, f2⟩ := tx_fail K1 c
        exact ⟨M2, N2, y1, y2, hE, ts_f_tr (ts_f_of f1) (ts_f_of f2)⟩
      rw [if_neg e1, if_neg e2, f_X3_readPattern_26, f_X6_setupText_115, f_X6_numberIn]
      have hk2 : (M1 1 3 = 2 ∧ N 237 15 = 1 ∧ ∃ u v, lx_V u v ∧ M1 1 5 = nI u ∧ N 237 17 = nI v) ∨ (¬ M1 1 3 = 2 ∧ ¬ N 237 15 = 1) := by
        rcases K1.2.1.2.2.2 with ⟨a, b⟩ | ⟨a, b⟩ | ⟨a, b, c⟩ | ⟨a, b⟩ | ⟨a, b⟩
        · right; rw [a, b]; decide
        · right; rw [a, b]; decide
        · left; exact ⟨a, b, c⟩
        · right; rw [a, b]; decide
        · right; rw [a, b]; decide
      rcases hk2 with ⟨e3, e4, u, v, hV, r5, q17⟩ | ⟨e3, e4⟩
      · rw [if_pos e3, if_pos e4, r5, q17, f_X6_inRange]
        rcases tx_val (l := 0) (hi := 5) hV (by omega) (by decide) with ⟨y1, -⟩ | ⟨-, y2, y3, y4⟩ | ⟨-, y2, y3, y4, y5, y6⟩
        · exact absurd y1 (nI_pos (by have := hV.1; omega))
        · obtain ⟨M2, N2, w1, w2, w3, w4⟩ := hfail 2
          refine ⟨M2, N2, ?_, ?_, w3, w4⟩
          · rw [if_neg y3, w1, cu_b2, if_pos z0]
          · rw [if_neg (show ¬ nI v < 0 from y2), if_pos y4, f_X6_inRange_15, if_pos z0, Option.bind_some, if_pos rfl, w2, cu_b2, if_pos rfl, f_X6_numberIn_39, if_pos z0, cu_b2, if_pos rfl]
        · obtain ⟨M2, N2, w1, w2, w3, w4⟩ := hfail 4
          subst y4
          refine ⟨M2, N2, ?_, ?_, w3, w4⟩
          · rw [if_pos y2, if_pos (show nI 8 = 8 from rfl), w1, cu_b2, if_pos z0]
          · rw [if_neg (nI_pos (by omega)), if_neg y3, f_X6_inRange_15, if_pos z1, Option.bind_some, if_neg o1, f_X6_numberIn_34, f_X6_numberIn_39, if_pos z1, cu_b2, if_neg o1, n4, if_pos (show nI 8 = 8 from rfl), w2, cu_b2, if_pos z0]
      · obtain ⟨M2, N2, w1, w2, w3, w4⟩ := hfail 1
        refine ⟨M2, N2, ?_, ?_, w3, w4⟩
        · rw [if_neg e3, w1, cu_b2, if_pos z0]
        · rw [if_neg e4, w2, cu_b2, if_pos z0, cu_b2, if_pos rfl]
  | succ j ih =>
    intro w hw k1 k2 hk1 hk2 M N P W
    obtain ⟨k1, rfl, hk1⟩ := cu_fuel hk1
    obtain ⟨k2, rfl, hk2⟩ := cu_fuel hk2
    obtain ⟨M1, a1, K1, f1⟩ := tx_adv P
    have W1 := st_W_cong f1 ht W
    have n4 : N (237 + 2) 4 = nI w := W.2.2.2.1.2.2.2
    have hkind : (M1 1 3 = 3 ∧ N 237 15 = 2) ∨ (¬ M1 1 3 = 3 ∧ ¬ N 237 15 = 2) := by
      rcases K1.2.1.2.2.2 with ⟨a, b⟩ | ⟨a, b⟩ | ⟨a, b, -⟩ | ⟨a, b⟩ | ⟨a, b⟩
      · right; rw [a, b]; decide
      · right; rw [a, b]; decide
      · right; rw [a, b]; decide
      · left; exact ⟨a, b⟩
      · right; rw [a, b]; decide
    have hfail : ∀ c, ∃ M2 N2, f_X3_fail M1 1 c = some (0, M2) ∧ f_X6_wrong N 237 c = some (0, N2) ∧ tx_E M2 N2 ∧ ts_f t M M2 N N2 := fun c => by
      obtain ⟨M2, N2, y1, y2, hE, f2⟩ := tx_fail K1 c
      exact ⟨M2, N2, y1, y2, hE, ts_f_tr (ts_f_of f1) (ts_f_of f2)⟩
    have hk2 : (M1 1 3 = 2 ∧ N 237 15 = 1 ∧ ∃ u v, lx_V u v ∧ M1 1 5 = nI u ∧ N 237 17 = nI v) ∨ (¬ M1 1 3 = 2 ∧ ¬ N 237 15 = 1) := by
      rcases K1.2.1.2.2.2 with ⟨a, b⟩ | ⟨a, b⟩ | ⟨a, b, c⟩ | ⟨a, b⟩ | ⟨a, b⟩
      · right; rw [a, b]; decide
      · right; rw [a, b]; decide
      · left; exact ⟨a, b, c⟩
      · right; rw [a, b]; decide
      · right; rw [a, b]; decide
    -- what follows where the token isn't the end of the pattern
    have hgo : (∃ M' N', f_X3_readPattern_26 (f_X3_readPattern_2 k1) M1 1 (t + 1) (nI w) = some (0, M') ∧ f_X6_setupText_115 (f_X6_setupText_98 k2) N 237 = some (0, N') ∧ tx_E M' N' ∧ ts_f t M M' N N') ∨
        ∃ M' N', f_X3_readPattern_26 (f_X3_readPattern_2 k1) M1 1 (t + 1) (nI w) = some (1, M') ∧ f_X6_setupText_115 (f_X6_setupText_98 k2) N 237 = cl_b2 (f_X6_commandsText N' 237) (fun v46 M47 => if v46 < 0 then f_X6_setupText_194 M47 0 else f_X6_setupText_194 M47 1) ∧ tx_P n M' N' ∧ cg_L M' t (N' 239) 0 0 ∧ ts_f t M M' N N' := by
      rw [f_X3_readPattern_26, f_X6_setupText_115, f_X6_numberIn]
      rcases hk2 with ⟨e3, e4, u, v, hV, r5, q17⟩ | ⟨e3, e4⟩
      · rw [if_pos e3, if_pos e4, r5, q17, f_X6_inRange]
        rcases tx_val (l := 0) (hi := 5) hV (by omega) (by decide) with ⟨y1, -⟩ | ⟨-, y2, y3, y4⟩ | ⟨-, y2, y3, y4, y5, y6⟩
        · exact absurd y1 (nI_pos (by have := hV.1; omega))
        · left
          obtain ⟨M2, N2, w1, w2, w3, w4⟩ := hfail 2
          refine ⟨M2, N2, ?_, ?_, w3, w4⟩
          · rw [if_neg y3, w1, cu_b2, if_pos z0]
          · rw [if_neg (show ¬ nI v < 0 from y2), if_pos y4, f_X6_inRange_15, if_pos z0, Option.bind_some, if_pos rfl, w2, cu_b2, if_pos rfl, f_X6_numberIn_39, if_pos z0, cu_b2, if_pos rfl]
        · subst y4
          have hu5 : u ≤ 5 := (nI_leI (b := 5) (by omega) (by omega)).mp y2
          obtain ⟨⟨ha, hb, hs, hw8⟩, ⟨t0, t1, t2, t3⟩, ⟨u0, u2, u6, u9⟩, ⟨m2, m3, m1, m4⟩, hz, hj⟩ := W1
          have hw8' : ¬ nI w = 8 := fun z => by have := (nI_eq (b := 8) (show w < 2 ^ 31 by omega) (by omega)).mp z; omega
          have hi11 : (11 : Int32) + nI w = nI (11 + w) := nI_add 11 w
          have K2 : tx_K n (cl_ms (cl_ms M1 (t + 1 + 1) w (nI u)) (t + 1) 2 (nI (w + 1))) (cl_ms (cl_ms N 239 (11 + w) (nI u)) 239 4 (nI (w + 1))) := tx_K_cong K1 (fun k _ => by rw [cp_ms (by omega), cp_ms (by omega)]) (by rw [cp_ms (by omega), cp_ms (by omega)]) (by rw [cp_ms (by decide), cp_ms (by decide)]) (by rw [cp_ms (by decide), cp_ms (by decide)])
          obtain ⟨N2, b2, P2, f2⟩ := tx_nxt K2
          have W2 : st_W (cl_ms (cl_ms M1 (t + 1 + 1) w (nI u)) (t + 1) 2 (nI (w + 1))) (cl_ms (cl_ms N 239 (11 + w) (nI u)) 239 4 (nI (w + 1))) t a b s (w + 1) := by
            refine ⟨⟨ha, hb, hs, by omega⟩, ⟨?_, ?_, ?_, ?_⟩, ⟨?_, ?_, ?_, ?_⟩, ⟨?_, ?_, ?_, ?_⟩, fun k h1 h2 h3 h4 h5 h6 => ?_, fun j hjw => ?_⟩
            · rw [cp_ms (by omega), cp_ms (by omega), t0]
            · rw [cp_ms (by omega), cp_ms (by omega), t1]
            · rw [cp_ms (by omega), cp_ms (by omega), t2]
            · rw [cp_ms (by omega), cp_ms (by omega), t3]
            · rw [cl_ms, cl_row_s, pk_un (by decide), cp_ms (by omega), u0]
            · rw [cl_ms, cl_row_s, pk_us]
            · rw [cl_ms, cl_row_s, pk_un (by decide), cp_ms (by omega), u6]
            · rw [cl_ms, cl_row_s, pk_un (by decide), cp_ms (by omega), u9]
            · simp (disch := omega) only [cl_let, Option.bind_some, cl_b2, nI_add, pk_mul, nI_leI, nI_ltI, nI_eq, nI_clamp, cu_inb, if_pos, if_neg, eq_self, ite_true, ite_false, if_true, if_false, cl_ms, cl_row_s, pk_un, m2]
            · simp (disch := omega) only [cl_let, Option.bind_some, cl_b2, nI_add, pk_mul, nI_leI, nI_ltI, nI_eq, nI_clamp, cu_inb, if_pos, if_neg, eq_self, ite_true, ite_false, if_true, if_false, cl_ms, cl_row_s, pk_un, m3]
            · simp (disch := omega) only [cl_let, Option.bind_some, cl_b2, nI_add, pk_mul, nI_leI, nI_ltI, nI_eq, nI_clamp, cu_inb, if_pos, if_neg, eq_self, ite_true, ite_false, if_true, if_false, cl_ms, cl_row_s, pk_un, m1]
            · simp (disch := omega) only [cl_let, Option.bind_some, cl_b2, nI_add, pk_mul, nI_leI, nI_ltI, nI_eq, nI_clamp, cu_inb, if_pos, if_neg, eq_self, ite_true, ite_false, if_true, if_false, cl_ms, cl_row_s, pk_us]
            · simp (disch := omega) only [cl_let, Option.bind_some, cl_b2, nI_add, pk_mul, nI_leI, nI_ltI, nI_eq, nI_clamp, cu_inb, if_pos, if_neg, eq_self, ite_true, ite_false, if_true, if_false, cl_ms, cl_row_s, pk_un]
              exact hz k h1 h2 h3 h4 h5 h6
            · by_cases e : j = w
              · subst e
                refine ⟨u, hu5, ?_, ?_⟩
                · rw [cp_ms (by omega), cl_ms, cl_row_s, pk_us]
                · simp (disch := omega) only [cl_let, Option.bind_some, cl_b2, nI_add, pk_mul, nI_leI, nI_ltI, nI_eq, nI_clamp, cu_inb, if_pos, if_neg, eq_self, ite_true, ite_false, if_true, if_false, cl_ms, cl_row_s, pk_us, pk_un]
              · obtain ⟨v', v5, d1, d2⟩ := hj j (by omega)
                refine ⟨v', v5, ?_, ?_⟩
                · rw [cp_ms (by omega), cl_ms, cl_row_s, pk_un e]; exact d1
                · simp (disch := omega) only [cl_let, Option.bind_some, cl_b2, nI_add, pk_mul, nI_leI, nI_ltI, nI_eq, nI_clamp, cu_inb, if_pos, if_neg, eq_self, ite_true, ite_false, if_true, if_false, cl_ms, cl_row_s, pk_un]; exact d2
          have fW : ts_f t M1 (cl_ms (cl_ms M1 (t + 1 + 1) w (nI u)) (t + 1) 2 (nI (w + 1))) N (cl_ms (cl_ms N 239 (11 + w) (nI u)) 239 4 (nI (w + 1))) := ⟨fun x _ _ h => by rw [cp_ms (by omega), cp_ms (by omega)], fun x _ h _ => by rw [cp_ms h, cp_ms h], by rw [cp_ms (by omega), cp_ms (by omega)], fun k _ _ _ => by rw [cp_ms (by decide), cp_ms (by decide)]⟩
          have W3 := st_W_cong f2 ht W2
          have fall := ts_f_tr (ts_f_of f1) (ts_f_tr fW (ts_f_of f2))
          have hC : f_X4_appendWind M1 (t + 1) (nI u) = some (cl_ms (cl_ms M1 (t + 1 + 1) w (nI u)) (t + 1) 2 (nI (w + 1))) := by
            rw [f_X4_appendWind, u2, if_neg (show ¬ (8 : Int32) ≤ nI w from nI_ge (b := 8) (by omega) (by omega)), if_pos (cu_inb (by omega) (by omega)), nI_clamp (by omega), cl_let, cp_ms (show t + 1 ≠ t + 1 + 1 by omega), u2, nI_1, cl_let]
          have hx := ih (w + 1) (by omega) k1 k2 (by omega) (by omega) _ N2 P2 W3
          have eC : (if nI u ≤ 5 then if nI w = 8 then cl_b2 (f_X3_fail M1 1 4) (fun v11 M12 => if cl_bz v11 = true then some (v11, M12) else none) else (f_X4_appendWind M1 (t + 1) (nI u)).bind (fun M8 => cl_let (nI w + 1) (fun v10 => f_X3_readPattern_2 k1 M8 1 (t + 1) v10)) else cl_b2 (f_X3_fail M1 1 2) (fun v15 M16 => if cl_bz v15 = true then some (v15, M16) else none)) = f_X3_readPattern_2 k1 (cl_ms (cl_ms M1 (t + 1 + 1) w (nI u)) (t + 1) 2 (nI (w + 1))) 1 (t + 1) (nI (w + 1)) := by
            rw [if_pos (show nI u ≤ 5 from y2), if_neg hw8', hC, Option.bind_some, cl_let, nI_1]
          rw [eC, if_neg (nI_pos (by omega)), if_neg y3, f_X6_inRange_15, if_pos z1, Option.bind_some, if_neg o1, f_X6_numberIn_34, f_X6_numberIn_39, if_pos z1, cu_b2, if_neg o1, n4, if_neg hw8', hi11, if_pos (cu_inb (by omega) (by omega)), nI_clamp (by omega), q17]
          simp only [cl_let]
          rw [show 237 + 2 = 239 from rfl, show (cl_ms N 239 (11 + w) (nI u)) 239 4 = nI w by simp (disch := omega) only [cl_let, Option.bind_some, cl_b2, nI_add, pk_mul, nI_leI, nI_ltI, nI_eq, nI_clamp, cu_inb, if_pos, if_neg, eq_self, ite_true, ite_false, if_true, if_false, cl_ms, cl_row_s, pk_un, m4], nI_1, b2, Option.bind_some]
          rcases hx with ⟨M', N', x1, x2, x3, x4⟩ | ⟨M', N', x1, x2, x3, x4, x5⟩
          · exact Or.inl ⟨M', N', x1, x2, x3, ts_f_tr fall x4⟩
          · exact Or.inr ⟨M', N', x1, x2, x3, x4, ts_f_tr fall x5⟩
      · left
        obtain ⟨M2, N2, w1, w2, w3, w4⟩ := hfail 1
        refine ⟨M2, N2, ?_, ?_, w3, w4⟩
        · rw [if_neg e3, w1, cu_b2, if_pos z0]
        · rw [if_neg e4, w2, cu_b2, if_pos z0, cu_b2, if_pos rfl]
    rw [f_X3_readPattern_2, if_neg (show ¬ (8 : Int32) < nI w from nI_nlt (a := 8) (by omega) (by omega)), a1, Option.bind_some, f_X6_setupText_98, n4]
    by_cases hw0 : w = 0
    · rw [if_pos (show nI w ≤ 0 by rw [hw0]; decide), if_pos (show nI w = 0 by rw [hw0]; rfl)]
      exact hgo
    · rw [if_neg (nI_nle (by omega) (by omega)), if_neg (nI_ne0 (by omega) (by omega))]
      rcases hkind with ⟨e1, e2⟩ | ⟨e1, e2⟩
      · right
        obtain ⟨N1, b1, P1, f2⟩ := tx_nxt K1
        rw [if_pos e1, if_pos e2, b1, Option.bind_some]
        exact ⟨M1, N1, rfl, rfl, P1, st_L (st_W_cong f2 ht W1) (by omega), ts_f_tr (ts_f_of f1) (ts_f_of f2)⟩
      · rw [if_neg e1, if_neg e2]
        exact hgo
end ST
