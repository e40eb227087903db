/-! the best spot: on both sides -/
def cg_hang (G : Nat → Int32) (a b c : Int32) : Nat → Int32 := upd (upd (upd (upd (upd G 6 1) 9 b) 10 c) 7 a) 8 ((((1 : Int32) <<< (G 0 &&& 31)) - 1) <<< (a &&& 31))
theorem cg_hangC {M : cl_M} {t : Nat} {r : Nat → Int32} {a b c : Int32} : f_X0_hangUp (cl_row M t r) t a b c = some (cl_row M t (cg_hang r a b c)) := by
  simp (disch := omega) only [cl_let, Option.bind_some, cl_b2, nI_add, pk_mul, nI_leI, nI_ltI, nI_eq, nI_clamp, cu_inb, if_pos, if_neg, eq_self, ite_true, ite_false, if_true, if_false, f_X0_hangUp, f_X0_moveTo, f_X5_spotSet, cu_tt, cl_row_s, pk_un, cg_hang]
def cg_dw (w : Nat → Int32) (m : Nat) (G : Nat → Int32) : Nat → Int32 := if nI (cw_rain w m) ≤ 0 then cg_dry G (cw_sunny w m) (nI (cw_wind w m)) else cg_wet G (nI (cw_rain w m))
theorem cg_dw_W {w G : Nat → Int32} (F : cw_F w) (m : Nat) (h : cg_W G) : cg_W (cg_dw w m G) := by
  obtain ⟨-, -, -, -, -, hw5, -⟩ := cw_wind_e F m
  unfold cg_dw
  by_cases q : nI (cw_rain w m) ≤ 0
  · rw [if_pos q]; exact cg_W_dry h _ hw5
  · rw [if_neg q]; exact cg_W_wet h (cw_rain_le F m)
theorem cg_dw_k {w G : Nat → Int32} {m k : Nat} (h3 : k ≠ 3) (hk : k < 12) : cg_dw w m G k = G k := by
  unfold cg_dw
  by_cases q : nI (cw_rain w m) ≤ 0
  · rw [if_pos q]; unfold cg_dry; simp (disch := omega) only [cl_let, Option.bind_some, cl_b2, nI_add, pk_mul, nI_leI, nI_ltI, nI_eq, nI_clamp, cu_inb, if_pos, if_neg, eq_self, ite_true, ite_false, if_true, if_false, pk_un]
  · rw [if_neg q]; unfold cg_wet; simp (disch := omega) only [cl_let, Option.bind_some, cl_b2, nI_add, pk_mul, nI_leI, nI_ltI, nI_eq, nI_clamp, cu_inb, if_pos, if_neg, eq_self, ite_true, ite_false, if_true, if_false, pk_un]
theorem cg_dw_3 {w G H : Nat → Int32} {m : Nat} (h0 : G 0 = H 0) (h2 : G 2 = H 2) (h3 : G 3 = H 3) (h8 : G 8 = H 8) : cg_dw w m G 3 = cg_dw w m H 3 := by
  unfold cg_dw
  by_cases q : nI (cw_rain w m) ≤ 0
  · rw [if_pos q, if_pos q]; unfold cg_dry cg_sv; simp (disch := omega) only [cl_let, Option.bind_some, cl_b2, nI_add, pk_mul, nI_leI, nI_ltI, nI_eq, nI_clamp, cu_inb, if_pos, if_neg, eq_self, ite_true, ite_false, if_true, if_false, pk_us, pk_un, h0, h2, h3, h8]
  · rw [if_neg q, if_neg q]; unfold cg_wet cg_wv; simp (disch := omega) only [cl_let, Option.bind_some, cl_b2, nI_add, pk_mul, nI_leI, nI_ltI, nI_eq, nI_clamp, cu_inb, if_pos, if_neg, eq_self, ite_true, ite_false, if_true, if_false, pk_us, pk_un, h0, h2, h3, h8]
theorem cg_smell_k {G : Nat → Int32} {a b : Int32} {k : Nat} (h : k ≠ 4) : cg_smell G a b k = G k := by
  unfold cg_smell
  by_cases c1 : a &&& G 8 = 0
  · rw [if_pos c1]
    by_cases c2 : b = 0
    · rw [if_pos c2]
    · rw [if_neg c2, pk_un h]
  · rw [if_neg c1, pk_un h]
/-- with five steel pegs it doesn't fall -/
theorem cg_firm {w G : Nat → Int32} (F : cw_F w) {m : Nat} (W : cg_W G) (h6 : G 6 = 1) (h9 : G 9 = 0) (h10 : G 10 = nI 5) : cg_st w m G = cg_mid (nI (cw_rain w m)) (nI (cw_wind w m)) (cw_sunny w m) (cw_smoky w m) G ∧ cg_fl w m G = 0 ∧ (∀ k, k < 12 → k ≠ 3 → k ≠ 4 → cg_st w m G k = G k) ∧ cg_st w m G 3 = cg_dw w m G 3 := by
  have hm : cg_mid (nI (cw_rain w m)) (nI (cw_wind w m)) (cw_sunny w m) (cw_smoky w m) G = cg_smell (cg_dw w m G) (cw_smoky w m) (nI (cw_wind w m)) := rfl
  have hk : ∀ k, k < 12 → k ≠ 3 → k ≠ 4 → cg_mid (nI (cw_rain w m)) (nI (cw_wind w m)) (cw_sunny w m) (cw_smoky w m) G k = G k := fun k h1 h2 h3 => by
    rw [hm, cg_smell_k h3, cg_dw_k h2 h1]
  have W2 : cg_W (cg_mid (nI (cw_rain w m)) (nI (cw_wind w m)) (cw_sunny w m) (cw_smoky w m) G) := by
    rw [hm]; exact cg_W_smell (cg_dw_W F m W) _ _
  have hle : cg_weight (cg_mid (nI (cw_rain w m)) (nI (cw_wind w m)) (cw_sunny w m) (cw_smoky w m) G) ≤ cg_hold (cg_mid (nI (cw_rain w m)) (nI (cw_wind w m)) (cw_sunny w m) (cw_smoky w m) G) := by
    unfold cg_weight cg_hold
    rw [hk 9 (by omega) (by omega) (by omega), hk 10 (by omega) (by omega) (by omega), h9, h10]
    obtain ⟨w', a, c, v, ⟨h1, h2, h3, h4, h5, h6', h7, e0, e1, e2, e3⟩, -⟩ := W2
    rw [e1, e3, show (10 : Int32) = nI 10 from rfl, pk_div (by omega) (by omega) (by omega), nI_add, show (0 : Int32) * 20 + nI 5 * 45 = nI 225 by decide]
    exact nI_le (by omega) (by omega)
  have e1 : cg_st w m G = cg_mid (nI (cw_rain w m)) (nI (cw_wind w m)) (cw_sunny w m) (cw_smoky w m) G := by rw [cg_st, cg_step, if_pos h6, if_pos hle]
  refine ⟨e1, by rw [cg_fl, cg_fell, if_pos h6, if_pos hle], fun k h1 h2 h3 => by rw [e1]; exact hk k h1 h2 h3, ?_⟩
  rw [e1, hm, cg_smell_k (by omega)]
theorem cu_set_W : ∀ w, w < 7 → ∀ p, p < 25 → cu_set p w = ((((1 : Int32) <<< (nI w &&& 31)) - 1) <<< (nI p &&& 31)) := fun _ _ _ _ => rfl
theorem bs_water {M N : cl_M} {n m g s : Nat} (L : cg_L M 4 (N 239) n m) (hg : g < n) (h6 : M (4 + 9 + g) 6 = 0) (hs : s < 24) (hsw : nI s + M (4 + 9 + g) 0 ≤ 24) (hm : m + 60 < 2 ^ 30) :
    ∃ v M' N', f_X5_waterSoonAt M 0 (4 + 9 + g) (nI s) = some (v, M') ∧ f_X6_waterOn N 237 (nI g) (nI s) = some (v, N') ∧ pr_F M M' N N' := by
  obtain ⟨M1, Gs, z1, h1, hj, f1⟩ := pr_one L hg
  obtain ⟨hn, -, c3, c2, c7, c0, F, C, hG, hGq⟩ := h1
  have hW := (ck_G L g hg).2
  have hE := (ck_G L g hg).1
  generalize hw : cw_x (N 239) = w at F C
  -- the class's garment, hung
  have hM1 : M1 = cl_row M1 32 (M1 32) := (cu_rself M1 32).symm
  obtain ⟨G0, hG0⟩ : ∃ z, z = cg_hang (M1 32) (nI s) 0 5 := ⟨_, rfl⟩
  have zh : f_X0_hangUp M1 32 (nI s) 0 5 = some (cl_row M1 32 G0) := by
    rw [hG0]
    conv => lhs; rw [hM1]
    exact cg_hangC
  have hMg : ∀ j, j < 15 → M1 32 j = cg_G M 4 g j := hj
  obtain ⟨wd, a, c, v, ⟨i1, i2, i3, i4, i5, i6, i7, e0, e1, e2, e3⟩, ⟨sm, hsm, e4⟩, ⟨e5, -⟩, -⟩ := id hW
  have hp : s + wd ≤ 24 := by
    have : nI s + cg_G M 4 g 0 ≤ 24 := hsw
    rw [e0, nI_add] at this
    exact (nI_leI (b := 24) (by omega) (by omega)).mp this
  have set0 : ((((1 : Int32) <<< (cg_G M 4 g 0 &&& 31)) - 1) <<< (nI s &&& 31)) = cu_set s wd := by rw [e0]; rfl
  have WG0 : cg_W G0 := by
    rw [hG0]
    unfold cg_hang
    refine ⟨wd, a, c, v, ⟨i1, i2, i3, i4, i5, i6, i7, ?_, ?_, ?_, ?_⟩, ⟨sm, hsm, ?_⟩, ⟨?_, ⟨0, by omega, ?_⟩, ⟨5, by omega, ?_⟩⟩, Or.inl ⟨?_, s, hp, ?_, ?_⟩⟩
    all_goals simp (disch := omega) only [cl_let, Option.bind_some, cl_b2, nI_add, pk_mul, nI_leI, nI_ltI, nI_eq, nI_clamp, cu_inb, if_pos, if_neg, eq_self, ite_true, ite_false, if_true, if_false, pk_us, pk_un, hMg 0, hMg 1, hMg 2, hMg 3, hMg 4, hMg 5, e0, e1, e2, e3, e4, nI_0]
    · exact e5
    · rfl
    · rfl
  -- the reference's garment, put on the line
  obtain ⟨r0, hr0⟩ : ∃ z, z = upd (upd (N 239) (39 + 11 * g + 6) 1) (39 + 11 * g + 7) (nI s) := ⟨_, rfl⟩
  obtain ⟨H0, hH0⟩ : ∃ z, z = upd (upd (upd (cg_G M 4 g) 6 1) 7 (nI s)) 8 (cu_set s wd) := ⟨_, rfl⟩
  have EH0 : cg_E H0 r0 g := by
    obtain ⟨⟨a0, a1, a2, a3, a4, a5⟩, a6, a7, a8, a9, a10⟩ := hE
    rw [hr0, hH0]
    refine ⟨⟨?_, ?_, ?_, ?_, ?_, ?_⟩, ?_, ?_, ?_, ?_, ?_⟩
    all_goals simp (disch := omega) only [cl_let, Option.bind_some, cl_b2, nI_add, pk_mul, nI_leI, nI_ltI, nI_eq, nI_clamp, cu_inb, if_pos, if_neg, eq_self, ite_true, ite_false, if_true, if_false, pk_us, pk_un, a0, a1, a2, a3, a4, a5, a6, a7, a8, a9, a10]
  have WH0 : cg_W H0 := by
    obtain ⟨k9, k9', k10, k10'⟩ := cg_W_9 hW
    rw [hH0]
    refine ⟨wd, a, c, v, ⟨i1, i2, i3, i4, i5, i6, i7, ?_, ?_, ?_, ?_⟩, ⟨sm, hsm, ?_⟩, ⟨?_, ⟨_, k9', ?_⟩, ⟨_, k10', ?_⟩⟩, Or.inl ⟨?_, s, hp, ?_, ?_⟩⟩
    · rw [pk_un (by decide), pk_un (by decide), pk_un (by decide), e0]
    · rw [pk_un (by decide), pk_un (by decide), pk_un (by decide), e1]
    · rw [pk_un (by decide), pk_un (by decide), pk_un (by decide), e2]
    · rw [pk_un (by decide), pk_un (by decide), pk_un (by decide), e3]
    · rw [pk_un (by decide), pk_un (by decide), pk_un (by decide), e4]
    · rw [pk_un (by decide), pk_un (by decide), pk_un (by decide)]; exact e5
    · rw [pk_un (by decide), pk_un (by decide), pk_un (by decide)]; exact k9
    · rw [pk_un (by decide), pk_un (by decide), pk_un (by decide)]; exact k10
    · rw [pk_un (by decide), pk_un (by decide), pk_us]
    · rw [pk_un (by decide), pk_us]
    · rw [pk_us]
  have xr0 : cw_x r0 = w := by
    rw [hr0, ← hw]
    funext k
    unfold cw_x
    by_cases q : cw_i k = true
    · rw [if_pos q, if_pos q]
      simp only [cw_i, Bool.or_eq_true, Bool.and_eq_true, decide_eq_true_eq, beq_iff_eq] at q
      rw [pk_un (by omega), pk_un (by omega)]
    · rw [if_neg q, if_neg q]
  have m0 : r0 0 = nI m := by rw [hr0, pk_un (by omega), pk_un (by omega)]; exact c0
  have HH : ∀ j i, i + j = 60 → ∀ k1 k2, j < k1 → j < k2 → ∀ (M : cl_M) (u : Int32) (r G H : Nat → Int32), M 32 = G → M 23 3 = nI 1 → M 23 2 = nI (m + i) → cw_C M 24 w → cg_W G → G 6 = 1 → G 9 = 0 → G 10 = nI 5 → cg_E H r g → cg_W H → H 6 = 1 → cw_x r = w → r 0 = nI m → G 0 = H 0 → G 2 = H 2 → G 3 = H 3 → G 8 = H 8 →
      ∃ u' M' v N', f_X2_letPass_4 k1 M 23 60 u (nI i) = some (u', M') ∧ M' 32 3 = v ∧ f_X6_waterOn_22 k2 (cl_row (pr_T N) 239 r) 237 (nI g) (nI i) = some (v, N') ∧ (∀ x, x < 23 ∨ 42 ≤ x → M' x = M x) ∧ (∀ x, x ≠ 239 → x ≠ 241 → N' x = N x) ∧ ∀ k, k < 149 → N' 239 k = N 239 k := by
    intro j
    induction j with
    | zero =>
      intro i hi k1 k2 hk1 hk2 M u r G H hMG q3 q2 qC WG g6 g9 g10 EH WH b6 xr r00 d0 d2 d3 d8
      obtain ⟨k1, rfl, hk1⟩ := cu_fuel hk1
      obtain ⟨k2, rfl, hk2⟩ := cu_fuel hk2
      have hi : i = 60 := by omega
      subst hi
      obtain ⟨N2, y1, y2, y3⟩ := pr_back N r (H 3)
      refine ⟨u, M, H 3, N2, ?_, by rw [hMG, d3], ?_, fun _ _ => rfl, y2, y3⟩
      · rw [f_X2_letPass_4, if_pos (show (60 : Int32) ≤ nI 60 by decide)]
      · rw [f_X6_waterOn_22, if_pos (show (60 : Int32) ≤ nI 60 by decide), cm_of3 (by omega), Option.bind_some, EH.1.2.2.2.1, y1, cu_b2]
    | succ j ih =>
      intro i hi k1 k2 hk1 hk2 M u r G H hMG q3 q2 qC WG g6 g9 g10 EH WH b6 xr r00 d0 d2 d3 d8
      obtain ⟨k1, rfl, hk1⟩ := cu_fuel hk1
      obtain ⟨k2, rfl, hk2⟩ := cu_fuel hk2
      have zc := cg_passC (n := 1) (t := 23) (by omega) q3 q2 (show m + i < 2 ^ 30 by omega) F qC
      obtain ⟨t1, t2, t3, t4⟩ := cg_firm (m := m + i) F WG g6 g9 g10
      have h9 : cg_minC w (m + i) 1 M 23 32 = cg_st w (m + i) G := by
        unfold cg_minC cl_ms
        rw [cl_row_n (by omega), ← hMG]
        exact cg_map_i (t := 23) (k := 0) (by omega)
      have ht : cg_minC w (m + i) 1 M 23 23 = upd (M 23) 2 (nI (m + i + 1)) := by
        unfold cg_minC cl_ms
        rw [cl_row_s, cg_map_o (by omega)]
      have hc : ∀ x, x < 23 ∨ (23 < x ∧ x < 32) ∨ 33 ≤ x → cg_minC w (m + i) 1 M 23 x = M x := fun x hx => by
        unfold cg_minC cl_ms
        rw [cl_row_n (by omega), cg_map_o (by omega)]
      obtain ⟨r1, w1, w2⟩ := cg_waterN (N := pr_T N) (by omega) EH WH F xr (show m + i < 2 ^ 30 by omega)
      have w2 : cg_S H r g (cg_dw w (m + i) H) r1 := w2
      obtain ⟨u', M', v, N', o1, o2, o3, o4, o5⟩ := ih (i + 1) (by omega) k1 k2 (by omega) (by omega) (cg_minC w (m + i) 1 M 23) (u + cu_sm (fun k => cg_fl w (m + i) (M (23 + 9 + k))) 1) r1 (cg_st w (m + i) G) (cg_dw w (m + i) H) h9
        (by rw [ht, pk_un (by decide), q3]) (by rw [ht, pk_us]; rfl) (cw_C_cong (fun x h1 h2 => hc x (by omega)) qC) (cg_st_W F _ WG) (by rw [t3 6 (by omega) (by omega) (by omega), g6]) (by rw [t3 9 (by omega) (by omega) (by omega), g9]) (by rw [t3 10 (by omega) (by omega) (by omega), g10])
        w2.1 (cg_dw_W F _ WH) (by rw [cg_dw_k (by omega) (by omega), b6]) (cg_S_x w2 xr (by omega)) ((cg_S_at w2 (by omega)).trans r00)
        (by rw [t3 0 (by omega) (by omega) (by omega), cg_dw_k (by omega) (by omega), d0]) (by rw [t3 2 (by omega) (by omega) (by omega), cg_dw_k (by omega) (by omega), d2]) (by rw [t4]; exact cg_dw_3 d0 d2 d3 d8) (by rw [t3 8 (by omega) (by omega) (by omega), cg_dw_k (by omega) (by omega), d8])
      refine ⟨u', M', v, N', ?_, o2, ?_, fun x hx => (o4 x hx).trans (hc x (by omega)), o5⟩
      · rw [f_X2_letPass_4, if_neg (show ¬ (60 : Int32) ≤ nI i from nI_ge (b := 60) (by omega) (by omega)), zc, cu_b2, cl_let, cl_let, nI_1]
        exact o1
      · rw [f_X6_waterOn_22, if_neg (show ¬ (60 : Int32) ≤ nI i from nI_ge (b := 60) (by omega) (by omega)), cm_now, r00, nI_add, w1, Option.bind_some, cl_let, nI_1]
        exact o3
  have hrow : (cl_row M1 32 G0) 32 = G0 := cl_row_s
  have hrn : ∀ x, x ≠ 32 → (cl_row M1 32 G0) x = M1 x := fun x hx => cl_row_n hx
  obtain ⟨u', M', v', N', o1, o2, o3, o4, o5, o6⟩ := HH 60 0 (by omega) cl_F cl_F (by unfold cl_F; omega) (by unfold cl_F; omega) (cl_row M1 32 G0) 0 r0 G0 H0 hrow (by rw [hrn 23 (by decide)]; exact c3) (by rw [hrn 23 (by decide)]; exact c2)
    (cw_C_cong (fun x h1 h2 => hrn x (by omega)) C) WG0 (by rw [hG0]; unfold cg_hang; simp (disch := omega) only [cl_let, Option.bind_some, cl_b2, nI_add, pk_mul, nI_leI, nI_ltI, nI_eq, nI_clamp, cu_inb, if_pos, if_neg, eq_self, ite_true, ite_false, if_true, if_false, pk_us, pk_un]) (by rw [hG0]; unfold cg_hang; simp (disch := omega) only [cl_let, Option.bind_some, cl_b2, nI_add, pk_mul, nI_leI, nI_ltI, nI_eq, nI_clamp, cu_inb, if_pos, if_neg, eq_self, ite_true, ite_false, if_true, if_false, pk_us, pk_un]) (by rw [hG0]; unfold cg_hang; simp (disch := omega) only [cl_let, Option.bind_some, cl_b2, nI_add, pk_mul, nI_leI, nI_ltI, nI_eq, nI_clamp, cu_inb, if_pos, if_neg, eq_self, ite_true, ite_false, if_true, if_false, pk_us, pk_un]; rfl) EH0 WH0 (by rw [hH0]; simp (disch := omega) only [cl_let, Option.bind_some, cl_b2, nI_add, pk_mul, nI_leI, nI_ltI, nI_eq, nI_clamp, cu_inb, if_pos, if_neg, eq_self, ite_true, ite_false, if_true, if_false, pk_us, pk_un]) xr0 m0
    (by rw [hG0, hH0]; unfold cg_hang; simp (disch := omega) only [cl_let, Option.bind_some, cl_b2, nI_add, pk_mul, nI_leI, nI_ltI, nI_eq, nI_clamp, cu_inb, if_pos, if_neg, eq_self, ite_true, ite_false, if_true, if_false, pk_us, pk_un, hMg 0]) (by rw [hG0, hH0]; unfold cg_hang; simp (disch := omega) only [cl_let, Option.bind_some, cl_b2, nI_add, pk_mul, nI_leI, nI_ltI, nI_eq, nI_clamp, cu_inb, if_pos, if_neg, eq_self, ite_true, ite_false, if_true, if_false, pk_us, pk_un, hMg 2]) (by rw [hG0, hH0]; unfold cg_hang; simp (disch := omega) only [cl_let, Option.bind_some, cl_b2, nI_add, pk_mul, nI_leI, nI_ltI, nI_eq, nI_clamp, cu_inb, if_pos, if_neg, eq_self, ite_true, ite_false, if_true, if_false, pk_us, pk_un, hMg 3]) (by rw [hG0, hH0]; unfold cg_hang; simp (disch := omega) only [cl_let, Option.bind_some, cl_b2, nI_add, pk_mul, nI_leI, nI_ltI, nI_eq, nI_clamp, cu_inb, if_pos, if_neg, eq_self, ite_true, ite_false, if_true, if_false, pk_us, pk_un, hMg 0]; exact set0)
  refine ⟨v', M', N', ?_, ?_, fun x hx => ((o4 x hx).trans (hrn x (by omega))).trans (f1 x hx), o5, o6⟩
  · rw [f_X5_waterSoonAt, show f_X2_copyWithOne M (0 + 23) (0 + 4) (4 + 9 + g) = some (32, M1) from z1, cu_b2, zh, Option.bind_some, show f_X2_letPass (cl_row M1 32 G0) (0 + 23) 60 = some (u', M') from o1, cu_b2, o2]
  · rw [f_X6_waterOn, pr_start, Option.bind_some, cm_put6 (by omega), Option.bind_some, cm_put7 (by omega), Option.bind_some, ← hr0]
    exact o3
