/-! numbers, rows, and the weather on both sides -/
theorem cu_inb {n N : Nat} (h : n < N) (hN : N < 2 ^ 31) : cl_inb (nI n) N = true := by
  simp only [cl_inb, Bool.and_eq_true, decide_eq_true_eq, nI_toInt (Nat.lt_trans h hN)]
  omega
theorem cu_fuel {j k : Nat} (h : j < k) : ∃ q, k = q + 1 ∧ j ≤ q := ⟨k - 1, by omega, by omega⟩
def cu_no : Int32 := -1
theorem cu_neg : -nI 1 = cu_no := rfl
theorem cu_rr {M : cl_M} {t : Nat} {r r' : Nat → Int32} : cl_row (cl_row M t r) t r' = cl_row M t r' := by
  funext x
  by_cases h : x = t
  · rw [h, cl_row_s, cl_row_s]
  · rw [cl_row_n h, cl_row_n h, cl_row_n h]
theorem cu_rself (M : cl_M) (t : Nat) : cl_row M t (M t) = M := by
  funext x
  by_cases h : x = t
  · rw [h, cl_row_s]
  · rw [cl_row_n h]
def cN (x : Int32) : Nat := x.toNatClampNeg
theorem cN_nI {n : Nat} (h : n < 2 ^ 31) : cN (nI n) = n := nI_clamp h
/-- a weather: the places 1, 4..6, 11..38 of the reference's row -/
def cw_F (w : Nat → Int32) : Prop :=
  (∃ s, s ≤ 24 ∧ w 1 = nI s) ∧
  (∃ c, 1 ≤ c ∧ c ≤ 8 ∧ w 4 = nI c ∧ ∀ j, j < c → ∃ v, v ≤ 5 ∧ w (11 + j) = nI v) ∧
  (∃ c, c ≤ 4 ∧ w 5 = nI c ∧ ∀ j, j < c → ∃ a n v, a ≤ 9999 ∧ 1 ≤ n ∧ n ≤ 200 ∧ 1 ≤ v ∧ v ≤ 20 ∧ w (19 + 3 * j) = nI a ∧ w (19 + 3 * j + 1) = nI n ∧ w (19 + 3 * j + 2) = nI v) ∧
  (∃ c, c ≤ 4 ∧ w 6 = nI c ∧ ∀ j, j < c → ∃ a z, a ≤ z ∧ z ≤ 9999 ∧ w (31 + 2 * j) = nI a ∧ w (31 + 2 * j + 1) = nI z)
/-- the class's weather at the cell t -/
def cw_C (M : cl_M) (t : Nat) (w : Nat → Int32) : Prop :=
  M t 0 = w 1 ∧ M t 2 = w 4 ∧ M t 6 = w 5 ∧ M t 9 = w 6 ∧
  (∀ j, j < cN (w 4) → M (t + 1) j = w (11 + j)) ∧
  (∀ j, j < cN (w 5) → M (t + 2) j = w (19 + 3 * j) ∧ M (t + 3) j = w (19 + 3 * j) + w (19 + 3 * j + 1) ∧ M (t + 4) j = w (19 + 3 * j + 2)) ∧
  (∀ j, j < cN (w 6) → M (t + 5) j = w (31 + 2 * j) ∧ M (t + 6) j = w (31 + 2 * j + 1))
/-- the places of a row that are its weather -/
def cw_i (k : Nat) : Bool := k == 1 || (decide (4 ≤ k) && decide (k ≤ 6)) || (decide (11 ≤ k) && decide (k < 39))
def cw_x (r : Nat → Int32) : Nat → Int32 := fun k => if cw_i k then r k else 0
theorem cw_get {r w : Nat → Int32} (h : cw_x r = w) {k : Nat} (hk : cw_i k = true) : r k = w k := by
  rw [← h, cw_x, if_pos hk]
theorem cw_sho {j n : Nat} (h : j < 4) (hn : n < 3) : cw_i (19 + 3 * j + n) = true := by
  simp only [cw_i, Bool.or_eq_true, Bool.and_eq_true, decide_eq_true_eq, beq_iff_eq]; omega
theorem cw_smo {j n : Nat} (h : j < 4) (hn : n < 2) : cw_i (31 + 2 * j + n) = true := by
  simp only [cw_i, Bool.or_eq_true, Bool.and_eq_true, decide_eq_true_eq, beq_iff_eq]; omega
theorem cw_win {j : Nat} (h : j < 8) : cw_i (11 + j) = true := by
  simp only [cw_i, Bool.or_eq_true, Bool.and_eq_true, decide_eq_true_eq, beq_iff_eq]; omega
/-- the rain of the first showers -/
def cw_ra (w : Nat → Int32) (m : Nat) : Nat → Nat
  | 0 => 0
  | i + 1 => cw_ra w m i + (if cN (w (19 + 3 * i)) ≤ m ∧ m < cN (w (19 + 3 * i)) + cN (w (19 + 3 * i + 1)) then cN (w (19 + 3 * i + 2)) else 0)
def cw_rain (w : Nat → Int32) (m : Nat) : Nat := cw_ra w m (cN (w 5))
theorem cw_ra_le {w : Nat → Int32} (W : cw_F w) (m : Nat) : ∀ i, i ≤ cN (w 5) → cw_ra w m i ≤ 20 * i := by
  obtain ⟨sc, hsc, e5, hs⟩ := W.2.2.1
  have hcN : cN (w 5) = sc := by rw [e5]; exact cN_nI (by omega)
  intro i
  induction i with
  | zero => intro _; exact Nat.le_refl _
  | succ i ih =>
    intro hi
    obtain ⟨a, n, v, b1, b2, b3, b4, b5, e1, e2, e3⟩ := hs i (by omega)
    have := ih (by omega)
    rw [cw_ra, e3, cN_nI (n := v) (by omega)]
    split <;> omega
theorem cw_rainC {M : cl_M} {t : Nat} {w : Nat → Int32} (W : cw_F w) (C : cw_C M t w) {m : Nat} (hm : m < 2 ^ 30) : f_X4_rainAt M t (nI m) = some (nI (cw_rain w m)) := by
  have hle := cw_ra_le W m
  obtain ⟨sc, hsc, e5, hs⟩ := W.2.2.1
  obtain ⟨c1, c2, c3, c4, c5, c6, c7⟩ := C
  have hcN : cN (w 5) = sc := by rw [e5]; exact cN_nI (by omega)
  have H : ∀ j i, i + j = sc → ∀ k, j < k → f_X4_rainAt_4 k M t (nI m) (nI (cw_ra w m i)) (nI i) = some (nI (cw_ra w m sc)) := by
    intro j
    induction j with
    | zero =>
      intro i hi k hk
      obtain ⟨k, rfl, hk⟩ := cu_fuel hk
      have hi : i = sc := by omega
      subst hi
      simp (disch := omega) only [cl_let, Option.bind_some, cl_b2, nI_add, pk_mul, nI_leI, nI_ltI, nI_eq, nI_clamp, cu_inb, if_pos, if_neg, eq_self, ite_true, ite_false, if_true, if_false, f_X4_rainAt_4, c3, e5]
    | succ j ih =>
      intro i hi k hk
      obtain ⟨k, rfl, hk⟩ := cu_fuel hk
      obtain ⟨a, n, v, b1, b2, b3, b4, b5, e1, e2, e3⟩ := hs i (by omega)
      obtain ⟨d1, d2, d3⟩ := c6 i (by omega)
      have hb := hle i (by omega)
      have ih := ih (i + 1) (by omega) k (by omega)
      rw [cw_ra, e1, e2, e3, cN_nI (n := a) (by omega), cN_nI (n := n) (by omega), cN_nI (n := v) (by omega)] at ih
      have hx : m < a ∨ a + n ≤ m ∨ (a ≤ m ∧ m < a + n) := by omega
      rcases hx with q | q | q
      · rw [if_neg (by omega)] at ih
        simp (disch := omega) only [cl_let, Option.bind_some, cl_b2, nI_add, pk_mul, nI_leI, nI_ltI, nI_eq, nI_clamp, cu_inb, if_pos, if_neg, eq_self, ite_true, ite_false, if_true, if_false, cu_0, cu_1, cu_2, cu_3, cu_4, cu_5, cu_6, cu_7, cu_8, cu_9, cu_10, cu_11, cu_12, cu_16, cu_19, cu_20, cu_23, cu_24, cu_26, cu_30, cu_31, cu_32, cu_39, cu_40, cu_42, cu_45, cu_48, cu_57, cu_59, cu_60, cu_97, cu_99, cu_100, cu_122, cu_149, cu_200, cu_500, cu_700, cu_999, cu_9999, cu_99999, cu_100000, cu_1192, cu_298, f_X4_rainAt_4, f_X4_rainAt_41, c3, e5, d1, d2, d3, e1, e2, e3]
        exact ih
      · rw [if_neg (by omega)] at ih
        simp (disch := omega) only [cl_let, Option.bind_some, cl_b2, nI_add, pk_mul, nI_leI, nI_ltI, nI_eq, nI_clamp, cu_inb, if_pos, if_neg, eq_self, ite_true, ite_false, if_true, if_false, cu_0, cu_1, cu_2, cu_3, cu_4, cu_5, cu_6, cu_7, cu_8, cu_9, cu_10, cu_11, cu_12, cu_16, cu_19, cu_20, cu_23, cu_24, cu_26, cu_30, cu_31, cu_32, cu_39, cu_40, cu_42, cu_45, cu_48, cu_57, cu_59, cu_60, cu_97, cu_99, cu_100, cu_122, cu_149, cu_200, cu_500, cu_700, cu_999, cu_9999, cu_99999, cu_100000, cu_1192, cu_298, f_X4_rainAt_4, f_X4_rainAt_41, c3, e5, d1, d2, d3, e1, e2, e3]
        exact ih
      · rw [if_pos q] at ih
        simp (disch := omega) only [cl_let, Option.bind_some, cl_b2, nI_add, pk_mul, nI_leI, nI_ltI, nI_eq, nI_clamp, cu_inb, if_pos, if_neg, eq_self, ite_true, ite_false, if_true, if_false, cu_0, cu_1, cu_2, cu_3, cu_4, cu_5, cu_6, cu_7, cu_8, cu_9, cu_10, cu_11, cu_12, cu_16, cu_19, cu_20, cu_23, cu_24, cu_26, cu_30, cu_31, cu_32, cu_39, cu_40, cu_42, cu_45, cu_48, cu_57, cu_59, cu_60, cu_97, cu_99, cu_100, cu_122, cu_149, cu_200, cu_500, cu_700, cu_999, cu_9999, cu_99999, cu_100000, cu_1192, cu_298, f_X4_rainAt_4, f_X4_rainAt_41, c3, e5, d1, d2, d3, e1, e2, e3]
        exact ih
  have := H sc 0 (by omega) cl_F (by unfold cl_F; omega)
  rw [cw_rain, hcN]
  exact this
theorem cu_inRange {N : cl_M} {a b c : Nat} (ha : a < 2 ^ 31) (hb : b < 2 ^ 31) (hc : c < 2 ^ 31) : f_X6_inRange N (nI a) (nI b) (nI c) = some (if b ≤ a ∧ a ≤ c then 1 else 0) := by
  have z1 : cl_bz 1 = true := by decide
  have z0 : cl_bz 0 = true := by decide
  have hx : a < b ∨ c < a ∨ (b ≤ a ∧ a ≤ c) := by omega
  rcases hx with q | q | q
  · simp (disch := omega) only [f_X6_inRange, f_X6_inRange_15, nI_ltI, if_pos q, z0, if_true, if_neg (show ¬ (b ≤ a ∧ a ≤ c) by omega)]
  · by_cases q2 : a < b
    · simp (disch := omega) only [f_X6_inRange, f_X6_inRange_15, nI_ltI, if_pos q2, z0, if_true, if_neg (show ¬ (b ≤ a ∧ a ≤ c) by omega)]
    · simp (disch := omega) only [f_X6_inRange, f_X6_inRange_15, nI_ltI, if_neg q2, if_pos q, z0, if_true, if_neg (show ¬ (b ≤ a ∧ a ≤ c) by omega)]
  · simp (disch := omega) only [f_X6_inRange, f_X6_inRange_15, nI_ltI, if_neg (show ¬ a < b by omega), if_neg (show ¬ c < a by omega), z1, if_true, if_pos q]
theorem cw_rainN {N : cl_M} {w : Nat → Int32} (W : cw_F w) (hw : cw_x (N 239) = w) {m : Nat} (hm : m < 2 ^ 30) : f_X6_rainAt N 237 (nI m) = some (nI (cw_rain w m)) := by
  have hle := cw_ra_le W m
  obtain ⟨sc, hsc, e5, hs⟩ := W.2.2.1
  have hcN : cN (w 5) = sc := by rw [e5]; exact cN_nI (by omega)
  have c5 : N (237 + 2) 5 = nI sc := (cw_get hw rfl).trans e5
  have H : ∀ j i, i + j = sc → ∀ k, j < k → f_X6_rainAt_4 k N 237 (nI m) (nI (cw_ra w m i)) (nI i) = some (nI (cw_ra w m sc)) := by
    intro j
    induction j with
    | zero =>
      intro i hi k hk
      obtain ⟨k, rfl, hk⟩ := cu_fuel hk
      have hi : i = sc := by omega
      subst hi
      simp (disch := omega) only [cl_let, Option.bind_some, cl_b2, nI_add, pk_mul, nI_leI, nI_ltI, nI_eq, nI_clamp, cu_inb, if_pos, if_neg, eq_self, ite_true, ite_false, if_true, if_false, f_X6_rainAt_4, c5]
    | succ j ih =>
      intro i hi k hk
      obtain ⟨k, rfl, hk⟩ := cu_fuel hk
      obtain ⟨a, n, v, b1, b2, b3, b4, b5, e1, e2, e3⟩ := hs i (by omega)
      have d1 : N (237 + 2) (19 + 3 * i) = nI a := (cw_get hw (cw_sho (n := 0) (by omega) (by omega))).trans e1
      have d2 : N (237 + 2) (19 + 3 * i + 1) = nI n := (cw_get hw (cw_sho (n := 1) (by omega) (by omega))).trans e2
      have d3 : N (237 + 2) (19 + 3 * i + 2) = nI v := (cw_get hw (cw_sho (n := 2) (by omega) (by omega))).trans e3
      have hb := hle i (by omega)
      have ih := ih (i + 1) (by omega) k (by omega)
      rw [cw_ra, e1, e2, e3, cN_nI (n := a) (by omega), cN_nI (n := n) (by omega), cN_nI (n := v) (by omega)] at ih
      have ix : (19 + 3 * nI i : Int32) = nI (19 + 3 * i) := by simp (disch := omega) only [cl_let, Option.bind_some, cl_b2, nI_add, pk_mul, nI_leI, nI_ltI, nI_eq, nI_clamp, cu_inb, if_pos, if_neg, eq_self, ite_true, ite_false, if_true, if_false, cu_0, cu_1, cu_2, cu_3, cu_4, cu_5, cu_6, cu_7, cu_8, cu_9, cu_10, cu_11, cu_12, cu_16, cu_19, cu_20, cu_23, cu_24, cu_26, cu_30, cu_31, cu_32, cu_39, cu_40, cu_42, cu_45, cu_48, cu_57, cu_59, cu_60, cu_97, cu_99, cu_100, cu_122, cu_149, cu_200, cu_500, cu_700, cu_999, cu_9999, cu_99999, cu_100000, cu_1192, cu_298, ]
      rw [f_X6_rainAt_4, c5, if_neg (nI_ge (by omega) (by omega)), ix, if_pos (cu_inb (by omega) (by omega)), nI_clamp (by omega), d1]
      rcases Nat.lt_or_ge m a with q | q
      · rw [if_neg (by omega)] at ih
        have hng : f_X6_inRange N (nI m - nI a) 0 (nI n - 1) = some 0 := by
          have z0 : cl_bz 0 = true := by decide
          rw [f_X6_inRange, if_pos (pk_sneg (by omega) q), f_X6_inRange_15, if_pos z0]
        simp (disch := omega) only [cl_let, Option.bind_some, cl_b2, nI_add, pk_mul, nI_leI, nI_ltI, nI_eq, nI_clamp, cu_inb, if_pos, if_neg, eq_self, ite_true, ite_false, if_true, if_false, f_X6_rainAt_71, d2, hng, show nI (19 + 3 * i) + 1 = nI (19 + 3 * i + 1) from nI_1 _]
        simp (disch := omega) only [cl_let, Option.bind_some, cl_b2, nI_add, pk_mul, nI_leI, nI_ltI, nI_eq, nI_clamp, cu_inb, if_pos, if_neg, eq_self, ite_true, ite_false, if_true, if_false, cu_0, cu_1, cu_2, cu_3, cu_4, cu_5, cu_6, cu_7, cu_8, cu_9, cu_10, cu_11, cu_12, cu_16, cu_19, cu_20, cu_23, cu_24, cu_26, cu_30, cu_31, cu_32, cu_39, cu_40, cu_42, cu_45, cu_48, cu_57, cu_59, cu_60, cu_97, cu_99, cu_100, cu_122, cu_149, cu_200, cu_500, cu_700, cu_999, cu_9999, cu_99999, cu_100000, cu_1192, cu_298, ] at ih ⊢
        exact ih
      · have hng : f_X6_inRange N (nI m - nI a) 0 (nI n - 1) = some (if m < a + n then 1 else 0) := by
          rw [pk_sub q, show (1 : Int32) = nI 1 from rfl, pk_sub b2, show (0 : Int32) = nI 0 from rfl, cu_inRange (by omega) (by omega) (by omega)]
          by_cases q2 : m < a + n
          · rw [if_pos q2, if_pos (by omega)]; rfl
          · rw [if_neg q2, if_neg (by omega)]; rfl
        by_cases q2 : m < a + n
        · rw [if_pos ⟨q, q2⟩] at ih
          rw [if_pos q2] at hng
          simp (disch := omega) only [cl_let, Option.bind_some, cl_b2, nI_add, pk_mul, nI_leI, nI_ltI, nI_eq, nI_clamp, cu_inb, if_pos, if_neg, eq_self, ite_true, ite_false, if_true, if_false, f_X6_rainAt_71, d2, d3, hng, show nI (19 + 3 * i) + 1 = nI (19 + 3 * i + 1) from nI_1 _, show nI (19 + 3 * i) + 2 = nI (19 + 3 * i + 2) from nI_add _ 2]
          rw [if_neg (by decide)]
          simp (disch := omega) only [cl_let, Option.bind_some, cl_b2, nI_add, pk_mul, nI_leI, nI_ltI, nI_eq, nI_clamp, cu_inb, if_pos, if_neg, eq_self, ite_true, ite_false, if_true, if_false, cu_0, cu_1, cu_2, cu_3, cu_4, cu_5, cu_6, cu_7, cu_8, cu_9, cu_10, cu_11, cu_12, cu_16, cu_19, cu_20, cu_23, cu_24, cu_26, cu_30, cu_31, cu_32, cu_39, cu_40, cu_42, cu_45, cu_48, cu_57, cu_59, cu_60, cu_97, cu_99, cu_100, cu_122, cu_149, cu_200, cu_500, cu_700, cu_999, cu_9999, cu_99999, cu_100000, cu_1192, cu_298, ] at ih ⊢
          exact ih
        · rw [if_neg (fun h => q2 h.2)] at ih
          rw [if_neg q2] at hng
          simp (disch := omega) only [cl_let, Option.bind_some, cl_b2, nI_add, pk_mul, nI_leI, nI_ltI, nI_eq, nI_clamp, cu_inb, if_pos, if_neg, eq_self, ite_true, ite_false, if_true, if_false, f_X6_rainAt_71, d2, hng, show nI (19 + 3 * i) + 1 = nI (19 + 3 * i + 1) from nI_1 _]
          simp (disch := omega) only [cl_let, Option.bind_some, cl_b2, nI_add, pk_mul, nI_leI, nI_ltI, nI_eq, nI_clamp, cu_inb, if_pos, if_neg, eq_self, ite_true, ite_false, if_true, if_false, cu_0, cu_1, cu_2, cu_3, cu_4, cu_5, cu_6, cu_7, cu_8, cu_9, cu_10, cu_11, cu_12, cu_16, cu_19, cu_20, cu_23, cu_24, cu_26, cu_30, cu_31, cu_32, cu_39, cu_40, cu_42, cu_45, cu_48, cu_57, cu_59, cu_60, cu_97, cu_99, cu_100, cu_122, cu_149, cu_200, cu_500, cu_700, cu_999, cu_9999, cu_99999, cu_100000, cu_1192, cu_298, ] at ih ⊢
          exact ih
  have := H sc 0 (by omega) cl_F (by unfold cl_F; omega)
  rw [cw_rain, hcN]
  exact this
/-- the wind -/
def cw_wind (w : Nat → Int32) (m : Nat) : Nat := cN (w (11 + m / 60 % cN (w 4)))
theorem cw_wind_e {w : Nat → Int32} (W : cw_F w) (m : Nat) : ∃ c, 1 ≤ c ∧ c ≤ 8 ∧ w 4 = nI c ∧ m / 60 % c < c ∧ cw_wind w m ≤ 5 ∧ w (11 + m / 60 % c) = nI (cw_wind w m) := by
  obtain ⟨c, h1, h8, e4, hs⟩ := W.2.1
  have hlt : m / 60 % c < c := Nat.mod_lt _ (by omega)
  obtain ⟨v, hv, e⟩ := hs _ hlt
  have hx : cw_wind w m = v := by rw [cw_wind, e4, cN_nI (n := c) (by omega), e, cN_nI (by omega)]
  exact ⟨c, h1, h8, e4, hlt, by omega, by rw [hx, e]⟩
theorem cw_windC {M : cl_M} {t : Nat} {w : Nat → Int32} (W : cw_F w) (C : cw_C M t w) {m : Nat} (hm : m < 2 ^ 30) : f_X4_windAt M t (nI m) = some (nI (cw_wind w m)) := by
  obtain ⟨c, h1, h8, e4, hlt, h5, e⟩ := cw_wind_e W m
  obtain ⟨c1, c2, c3, c4, c5, c6, c7⟩ := C
  have hd : nI m / 60 = nI (m / 60) := pk_div (d := 60) (by omega) (by omega) (by omega)
  have hr : nI (m / 60) - nI (m / 60) / nI c * nI c = nI (m / 60 % c) := pk_rem (Nat.lt_of_le_of_lt (Nat.div_le_self _ _) (by omega)) (by omega) (by omega)
  rw [e4, cN_nI (by omega)] at c5
  rw [f_X4_windAt, c2, e4, if_neg (nI_ne0 (by omega) (by omega)), if_neg (nI_ne0 (by omega) (by omega)), hd, hr, if_pos (cu_inb (by omega) (by omega)), nI_clamp (by omega), c5 _ hlt, e]
  rfl
theorem cw_windN {N : cl_M} {w : Nat → Int32} (W : cw_F w) (hw : cw_x (N 239) = w) {m : Nat} (hm : m < 2 ^ 30) : f_X6_windAt N 237 (nI m) = some (nI (cw_wind w m)) := by
  obtain ⟨c, h1, h8, e4, hlt, h5, e⟩ := cw_wind_e W m
  have c4 : N (237 + 2) 4 = nI c := (cw_get hw rfl).trans e4
  have cv : N (237 + 2) (11 + m / 60 % c) = nI (cw_wind w m) := (cw_get hw (cw_win (by omega))).trans e
  have hd : nI m / 60 = nI (m / 60) := pk_div (d := 60) (by omega) (by omega) (by omega)
  have hr : nI (m / 60) - nI (m / 60) / nI c * nI c = nI (m / 60 % c) := pk_rem (Nat.lt_of_le_of_lt (Nat.div_le_self _ _) (by omega)) (by omega) (by omega)
  have hi : (11 : Int32) + nI (m / 60 % c) = nI (11 + m / 60 % c) := nI_add 11 _
  rw [f_X6_windAt, c4, if_neg (nI_ne0 (by omega) (by omega)), hd, hr, hi, if_pos (cu_inb (by omega) (by omega)), nI_clamp (by omega), cv]
/-- the spots in the sun -/
def cw_sf (s g : Nat) : Int32 := 16777215 &&& (((((1 : Int32) <<< (nI s &&& 31)) - 1) <<< (nI g &&& 31) ||| (((1 : Int32) <<< (nI s &&& 31)) - 1) >>> ((24 - nI g) &&& 31)) ^^^ (-1))
def cw_sunny (w : Nat → Int32) (m : Nat) : Int32 := if cw_rain w m = 0 then cw_sf (cN (w 1)) (m / 30 % 24) else 0
theorem cw_sunnyC {M : cl_M} {t : Nat} {w : Nat → Int32} (W : cw_F w) (C : cw_C M t w) {m : Nat} (hm : m < 2 ^ 30) : f_X4_sunnyAt M t (nI m) = some (cw_sunny w m) := by
  have hr := cw_rainC W C hm
  have hle := cw_ra_le W m _ (Nat.le_refl _)
  obtain ⟨s, hs, e1⟩ := W.1
  have hc := W.2.2.1
  obtain ⟨sc, hsc, e5, -⟩ := hc
  rw [e5, cN_nI (by omega)] at hle
  have hr80 : cw_rain w m ≤ 80 := by rw [cw_rain, e5, cN_nI (by omega)]; omega
  have hd : nI m / 30 = nI (m / 30) := pk_div (d := 30) (by omega) (by omega) (by omega)
  have hm2 : nI (m / 30) - nI (m / 30) / 24 * 24 = nI (m / 30 % 24) := pk_rem (d := 24) (Nat.lt_of_le_of_lt (Nat.div_le_self _ _) (by omega)) (by omega) (by omega)
  rw [f_X4_sunnyAt, hr, Option.bind_some, cw_sunny]
  by_cases q : cw_rain w m = 0
  · rw [if_pos (by rw [q]; rfl), if_pos q, hd, hm2, C.1, e1, cN_nI (by omega)]
    rfl
  · rw [if_neg (nI_ne0 (by omega) (by omega)), if_neg q]
/-- the reference takes the spots in the shadow out, one by one -/
def cw_sn (g : Nat) : Nat → Int32
  | 0 => 16777215
  | i + 1 => cw_sn g i &&& (((1 : Int32) <<< (nI ((g + i) % 24) &&& 31)) ^^^ (-1))
theorem cw_sf_sn : ∀ g, g < 24 → ∀ s, s < 25 → cw_sf s g = cw_sn g s := by decide +kernel
theorem cw_sunnyN {N : cl_M} {w : Nat → Int32} (W : cw_F w) (hw : cw_x (N 239) = w) {m : Nat} (hm : m < 2 ^ 30) : f_X6_sunnyAt N 237 (nI m) = some (cw_sunny w m) := by
  have hr := cw_rainN W hw hm
  have hle := cw_ra_le W m _ (Nat.le_refl _)
  obtain ⟨s, hs, e1⟩ := W.1
  obtain ⟨sc, hsc, e5, -⟩ := W.2.2.1
  rw [e5, cN_nI (by omega)] at hle
  have hr80 : cw_rain w m ≤ 80 := by rw [cw_rain, e5, cN_nI (by omega)]; omega
  have c1 : N (237 + 2) 1 = nI s := (cw_get hw rfl).trans e1
  have hd : nI m / 30 = nI (m / 30) := pk_div (d := 30) (by omega) (by omega) (by omega)
  have H : ∀ j i, i + j = s → ∀ k, j < k → f_X6_sunnyAt_15 k N 237 (nI m) (cw_sn (m / 30 % 24) i) (nI i) = some (cw_sn (m / 30 % 24) s) := by
    intro j
    induction j with
    | zero =>
      intro i hi k hk
      obtain ⟨k, rfl, hk⟩ := cu_fuel hk
      have hi : i = s := by omega
      subst hi
      simp (disch := omega) only [cl_let, Option.bind_some, cl_b2, nI_add, pk_mul, nI_leI, nI_ltI, nI_eq, nI_clamp, cu_inb, if_pos, if_neg, eq_self, ite_true, ite_false, if_true, if_false, f_X6_sunnyAt_15, c1]
    | succ j ih =>
      intro i hi k hk
      obtain ⟨k, rfl, hk⟩ := cu_fuel hk
      have ih := ih (i + 1) (by omega) k (by omega)
      have hm2 : nI (m / 30 + i) - nI (m / 30 + i) / 24 * 24 = nI ((m / 30 % 24 + i) % 24) := by
        rw [show (24 : Int32) = nI 24 from rfl, pk_rem (Nat.lt_of_le_of_lt (Nat.add_le_add_right (Nat.div_le_self _ _) _) (by omega)) (by omega) (by omega)]
        congr 1
        omega
      rw [f_X6_sunnyAt_15, c1, if_neg (nI_ge (by omega) (by omega)), hd, nI_add, hm2]
      show f_X6_sunnyAt_15 k N 237 (nI m) (cw_sn (m / 30 % 24) (i + 1)) (nI i + 1) = _
      rw [nI_1]
      exact ih
  rw [f_X6_sunnyAt, hr, Option.bind_some, cw_sunny]
  by_cases q : cw_rain w m = 0
  · rw [if_pos (by rw [q]; decide), if_pos q, e1, cN_nI (by omega), cw_sf_sn _ (by omega) _ (by omega)]
    exact H s 0 (by omega) cl_F (by unfold cl_F; omega)
  · rw [if_neg (nI_nle (by omega) (by omega)), if_neg q]
/-- whether one of the first smoke times holds the minute -/
def cw_sb (w : Nat → Int32) (m : Nat) : Nat → Bool
  | 0 => false
  | i + 1 => cw_sb w m i || (decide (cN (w (31 + 2 * i)) ≤ m) && decide (m ≤ cN (w (31 + 2 * i + 1))))
theorem cw_sb_mono {w : Nat → Int32} {m i : Nat} (h : cw_sb w m i = true) : ∀ j, cw_sb w m (i + j) = true
  | 0 => h
  | j + 1 => by
    have := cw_sb_mono h j
    show (cw_sb w m (i + j) || _) = true
    rw [this]; rfl
def cw_smoky (w : Nat → Int32) (m : Nat) : Int32 := if cw_sb w m (cN (w 6)) = true then ((1 : Int32) <<< (nI (4 * cw_wind w m) &&& 31)) - 1 else 0
theorem cw_smokyC {M : cl_M} {t : Nat} {w : Nat → Int32} (W : cw_F w) (C : cw_C M t w) {m : Nat} (hm : m < 2 ^ 30) : f_X4_smokyAt M t (nI m) = some (cw_smoky w m) := by
  have hwd := cw_windC W C hm
  obtain ⟨sc, hsc, e6, hs⟩ := W.2.2.2
  obtain ⟨c1, c2, c3, c4, c5, c6, c7⟩ := C
  have hcN : cN (w 6) = sc := by rw [e6]; exact cN_nI (by omega)
  have H : ∀ j i, i + j = sc → cw_sb w m i = false → ∀ k, j < k → f_X4_smokyAt_2 k M t (nI m) (nI i) = some (cw_smoky w m) := by
    intro j
    induction j with
    | zero =>
      intro i hi hb k hk
      obtain ⟨k, rfl, hk⟩ := cu_fuel hk
      have hi : i = sc := by omega
      subst hi
      rw [cw_smoky, hcN, hb]
      simp (disch := omega) only [cl_let, Option.bind_some, cl_b2, nI_add, pk_mul, nI_leI, nI_ltI, nI_eq, nI_clamp, cu_inb, if_pos, if_neg, eq_self, ite_true, ite_false, if_true, if_false, f_X4_smokyAt_2, c4, e6]
      rw [if_neg (by decide)]
    | succ j ih =>
      intro i hi hb k hk
      obtain ⟨k, rfl, hk⟩ := cu_fuel hk
      obtain ⟨a, z, b1, b2, e1, e2⟩ := hs i (by omega)
      obtain ⟨d1, d2⟩ := c7 i (by omega)
      have ih := ih (i + 1) (by omega)
      have hn : cw_sb w m (i + 1) = (decide (a ≤ m) && decide (m ≤ z)) := by
        rw [cw_sb, hb, e1, e2, cN_nI (n := a) (by omega), cN_nI (n := z) (by omega), Bool.false_or]
      by_cases q : a ≤ m ∧ m ≤ z
      · have hy : cw_sb w m sc = true := by
          have := cw_sb_mono (w := w) (m := m) (i := i + 1) (by rw [hn]; simp [q]) j
          rw [show i + 1 + j = sc by omega] at this
          exact this
        rw [cw_smoky, hcN, if_pos hy]
        simp (disch := omega) only [cl_let, Option.bind_some, cl_b2, nI_add, pk_mul, nI_leI, nI_ltI, nI_eq, nI_clamp, cu_inb, if_pos, if_neg, eq_self, ite_true, ite_false, if_true, if_false, f_X4_smokyAt_2, f_X4_smokyAt_42, c4, e6, d1, d2, e1, e2, hwd]
        rw [show (4 : Int32) = nI 4 from rfl, pk_mul]
      · have ih := ih (by rw [hn]; simp only [Bool.and_eq_false_iff, decide_eq_false_iff_not]; omega) k (by omega)
        have hx : m < a ∨ (a ≤ m ∧ z < m) := by omega
        rcases hx with q | q
        · simp (disch := omega) only [cl_let, Option.bind_some, cl_b2, nI_add, pk_mul, nI_leI, nI_ltI, nI_eq, nI_clamp, cu_inb, if_pos, if_neg, eq_self, ite_true, ite_false, if_true, if_false, cu_0, cu_1, cu_2, cu_3, cu_4, cu_5, cu_6, cu_7, cu_8, cu_9, cu_10, cu_11, cu_12, cu_16, cu_19, cu_20, cu_23, cu_24, cu_26, cu_30, cu_31, cu_32, cu_39, cu_40, cu_42, cu_45, cu_48, cu_57, cu_59, cu_60, cu_97, cu_99, cu_100, cu_122, cu_149, cu_200, cu_500, cu_700, cu_999, cu_9999, cu_99999, cu_100000, cu_1192, cu_298, f_X4_smokyAt_2, f_X4_smokyAt_42, c4, e6, d1, d2, e1, e2]
          exact ih
        · simp (disch := omega) only [cl_let, Option.bind_some, cl_b2, nI_add, pk_mul, nI_leI, nI_ltI, nI_eq, nI_clamp, cu_inb, if_pos, if_neg, eq_self, ite_true, ite_false, if_true, if_false, cu_0, cu_1, cu_2, cu_3, cu_4, cu_5, cu_6, cu_7, cu_8, cu_9, cu_10, cu_11, cu_12, cu_16, cu_19, cu_20, cu_23, cu_24, cu_26, cu_30, cu_31, cu_32, cu_39, cu_40, cu_42, cu_45, cu_48, cu_57, cu_59, cu_60, cu_97, cu_99, cu_100, cu_122, cu_149, cu_200, cu_500, cu_700, cu_999, cu_9999, cu_99999, cu_100000, cu_1192, cu_298, f_X4_smokyAt_2, f_X4_smokyAt_42, c4, e6, d1, d2, e1, e2]
          exact ih
  exact H sc 0 (by omega) rfl cl_F (by unfold cl_F; omega)
theorem cw_smokyN {N : cl_M} {w : Nat → Int32} (W : cw_F w) (hw : cw_x (N 239) = w) {m : Nat} (hm : m < 2 ^ 30) : f_X6_smokyAt N 237 (nI m) = some (cw_smoky w m) := by
  have hwd := cw_windN W hw hm
  obtain ⟨-, -, -, -, -, hw5, -⟩ := cw_wind_e W m
  obtain ⟨sc, hsc, e6, hs⟩ := W.2.2.2
  have hcN : cN (w 6) = sc := by rw [e6]; exact cN_nI (by omega)
  have c6 : N (237 + 2) 6 = nI sc := (cw_get hw rfl).trans e6
  have H : ∀ j i, i + j = sc → ∀ k, j < k → f_X6_smokyAt_4 k N 237 (nI m) (if cw_sb w m i = true then 1 else 0) (nI i) = some (cw_smoky w m) := by
    intro j
    induction j with
    | zero =>
      intro i hi k hk
      obtain ⟨k, rfl, hk⟩ := cu_fuel hk
      have hi : i = sc := by omega
      subst hi
      rw [f_X6_smokyAt_4, c6, if_pos (nI_le (Nat.le_refl _) (by omega)), cw_smoky, hcN]
      by_cases hb : cw_sb w m i = true
      · rw [if_pos hb, if_neg (by decide), hwd, Option.bind_some, if_pos hb, show (4 : Int32) * nI (cw_wind w m) = nI (4 * cw_wind w m) from pk_mul 4 _, if_pos (show nI (4 * cw_wind w m) < 24 from nI_lt (b := 24) (by omega) (by omega))]
        rfl
      · rw [if_neg hb, if_pos rfl, if_neg hb]
        rfl
    | succ j ih =>
      intro i hi k hk
      obtain ⟨k, rfl, hk⟩ := cu_fuel hk
      obtain ⟨a, z, b1, b2, e1, e2⟩ := hs i (by omega)
      have d1 : N (237 + 2) (31 + 2 * i) = nI a := (cw_get hw (cw_smo (n := 0) (by omega) (by omega))).trans e1
      have d2 : N (237 + 2) (31 + 2 * i + 1) = nI z := (cw_get hw (cw_smo (n := 1) (by omega) (by omega))).trans e2
      have ih := ih (i + 1) (by omega) k (by omega)
      have ix : (31 + 2 * nI i : Int32) = nI (31 + 2 * i) := by simp (disch := omega) only [cl_let, Option.bind_some, cl_b2, nI_add, pk_mul, nI_leI, nI_ltI, nI_eq, nI_clamp, cu_inb, if_pos, if_neg, eq_self, ite_true, ite_false, if_true, if_false, cu_0, cu_1, cu_2, cu_3, cu_4, cu_5, cu_6, cu_7, cu_8, cu_9, cu_10, cu_11, cu_12, cu_16, cu_19, cu_20, cu_23, cu_24, cu_26, cu_30, cu_31, cu_32, cu_39, cu_40, cu_42, cu_45, cu_48, cu_57, cu_59, cu_60, cu_97, cu_99, cu_100, cu_122, cu_149, cu_200, cu_500, cu_700, cu_999, cu_9999, cu_99999, cu_100000, cu_1192, cu_298, ]
      have ix1 : nI (31 + 2 * i) + 1 = nI (31 + 2 * i + 1) := nI_1 _
      have hn : cw_sb w m (i + 1) = (cw_sb w m i || (decide (a ≤ m) && decide (m ≤ z))) := by
        rw [cw_sb, e1, e2, cN_nI (n := a) (by omega), cN_nI (n := z) (by omega)]
      rw [hn, ← nI_1 i] at ih
      rw [f_X6_smokyAt_4, c6, if_neg (nI_ge (by omega) (by omega)), ix, ix1]
      by_cases hb : cw_sb w m i = true
      · rw [hb] at ih ⊢
        rw [if_pos rfl, if_neg (by decide)]
        exact ih
      · have hb : cw_sb w m i = false := by simpa using hb
        rw [hb, Bool.false_or] at ih
        rw [hb, if_neg (show ¬ ((false : Bool) = true) by decide), if_pos rfl, if_pos (cu_inb (by omega) (by omega)), if_pos (cu_inb (by omega) (by omega)), nI_clamp (by omega), nI_clamp (by omega), d1, d2, cu_inRange (by omega) (by omega) (by omega), Option.bind_some]
        by_cases q : a ≤ m ∧ m ≤ z
        · rw [if_pos (by simp [q])] at ih
          rw [if_pos q, if_neg (by decide)]
          exact ih
        · rw [if_neg (by simp only [Bool.and_eq_true, decide_eq_true_eq]; exact q)] at ih
          rw [if_neg q, if_pos rfl]
          exact ih
  exact H sc 0 (by omega) cl_F (by unfold cl_F; omega)
/-- the wait for rain: both answer alike -/
theorem cw_wait {M N : cl_M} {t : Nat} {w : Nat → Int32} (W : cw_F w) (C : cw_C M t w) (hw : cw_x (N 239) = w) {m : Nat} (hm : m < 2 ^ 30) (h0 : N 239 0 = nI m) : ∃ y, f_X4_waitForRain M t (nI m) = some y ∧ f_X6_minutesToRain N 237 = some (y, cl_ms N 237 4 0) := by
  obtain ⟨sc, hsc, e5, hs⟩ := W.2.2.1
  obtain ⟨c1, c2, c3, c4, c5, c6, c7⟩ := C
  have hcN : cN (w 5) = sc := by rw [e5]; exact cN_nI (by omega)
  have hP : ∀ k, (cl_ms N 237 4 0) (237 + 2) k = N 239 k := fun k => rfl
  have H : ∀ j i, i + j = sc → ∀ k1 k2, j < k1 → j < k2 → ∀ x, ∃ y, f_X4_waitForRain_4 k1 M t (nI m) x (nI i) = some y ∧ f_X6_minutesToRain_9 k2 (cl_ms N 237 4 0) 237 x (nI i) = some (y, cl_ms N 237 4 0) := by
    intro j
    induction j with
    | zero =>
      intro i hi k1 k2 hk1 hk2 x
      obtain ⟨k1, rfl, hk1⟩ := cu_fuel hk1
      obtain ⟨k2, rfl, hk2⟩ := cu_fuel hk2
      have hi : i = sc := by omega
      subst hi
      refine ⟨x, ?_, ?_⟩
      · rw [f_X4_waitForRain_4, c3, e5, if_pos (nI_le (Nat.le_refl _) (by omega))]
      · rw [f_X6_minutesToRain_9, hP, cw_get hw rfl, e5, if_pos (nI_le (Nat.le_refl _) (by omega))]
    | succ j ih =>
      intro i hi k1 k2 hk1 hk2 x
      obtain ⟨k1, rfl, hk1⟩ := cu_fuel hk1
      obtain ⟨k2, rfl, hk2⟩ := cu_fuel hk2
      obtain ⟨a, n, v, b1, b2, b3, b4, b5, e1, e2, e3⟩ := hs i (by omega)
      obtain ⟨d1, d2, d3⟩ := c6 i (by omega)
      have g1 : N 239 (19 + 3 * i) = nI a := (cw_get hw (cw_sho (n := 0) (by omega) (by omega))).trans e1
      have g2 : N 239 (19 + 3 * i + 1) = nI n := (cw_get hw (cw_sho (n := 1) (by omega) (by omega))).trans e2
      have ix : (19 + 3 * nI i : Int32) = nI (19 + 3 * i) := by simp (disch := omega) only [cl_let, Option.bind_some, cl_b2, nI_add, pk_mul, nI_leI, nI_ltI, nI_eq, nI_clamp, cu_inb, if_pos, if_neg, eq_self, ite_true, ite_false, if_true, if_false, cu_0, cu_1, cu_2, cu_3, cu_4, cu_5, cu_6, cu_7, cu_8, cu_9, cu_10, cu_11, cu_12, cu_16, cu_19, cu_20, cu_23, cu_24, cu_26, cu_30, cu_31, cu_32, cu_39, cu_40, cu_42, cu_45, cu_48, cu_57, cu_59, cu_60, cu_97, cu_99, cu_100, cu_122, cu_149, cu_200, cu_500, cu_700, cu_999, cu_9999, cu_99999, cu_100000, cu_1192, cu_298, ]
      have ix1 : nI (19 + 3 * i) + 1 = nI (19 + 3 * i + 1) := nI_1 _
      have ih := ih (i + 1) (by omega) k1 k2 (by omega) (by omega)
      have q1 : (if nI a - nI m < 0 then (0 : Int32) else nI a - nI m) = nI (a - m) := by
        by_cases q : a < m
        · rw [if_pos (pk_sneg (by omega) q), show a - m = 0 by omega]; rfl
        · rw [pk_sub (by omega), if_neg (nI_pos (by omega))]
      have q2 : (if 0 < nI a - nI m then nI a - nI m else (0 : Int32)) = nI (a - m) := by
        by_cases q : a ≤ m
        · rw [show a - m = 0 by omega, if_neg]; rfl
          rw [fa_lt, pk_sub_toInt (by omega) (by omega)]
          show ¬ ((0 : Int) < _)
          omega
        · rw [pk_sub (by omega), if_pos (show (0 : Int32) < nI (a - m) from nI_lt (a := 0) (by omega) (by omega))]
      simp only [← nI_1] at ih
      rw [f_X4_waitForRain_4, f_X6_minutesToRain_9, c3, e5, hP, hP, hP, hP, cw_get hw (k := 5) rfl, e5, if_neg (nI_ge (by omega) (by omega)), if_neg (nI_ge (by omega) (by omega)), ix, ix1, if_pos (cu_inb (by omega) (by omega)), if_pos (cu_inb (by omega) (by omega)), nI_clamp (n := i) (by omega), nI_clamp (n := 19 + 3 * i) (by omega), nI_clamp (n := 19 + 3 * i + 1) (by omega), d1, d2, e1, e2, g1, h0]
      simp only [cl_let, g2]
      rw [q1, q2, if_pos (cu_inb (by omega) (by omega)), if_pos (cu_inb (by omega) (by omega)), nI_add]
      by_cases q : a + n ≤ m
      · rw [if_pos (nI_le q (by omega)), if_neg (nI_nlt q (by omega))]
        obtain ⟨y, z1, z2⟩ := ih x
        refine ⟨y, z1, ?_⟩
        rw [f_X6_minutesToRain_74, if_neg (by decide)]
        exact z2
      · rw [if_neg (nI_ge (by omega) (by omega)), if_pos (nI_lt (by omega) (by omega)), f_X6_minutesToRain_74, if_pos rfl]
        by_cases q3 : x = -1
        · rw [if_pos q3, if_pos q3]
          exact ih _
        · rw [if_neg q3, if_neg q3]
          by_cases q4 : x ≤ nI (a - m)
          · rw [if_pos q4, if_pos q4]
            exact ih _
          · rw [if_neg q4, if_neg q4]
            exact ih _
  obtain ⟨y, z1, z2⟩ := H sc 0 (by omega) cl_F cl_F (by unfold cl_F; omega) (by unfold cl_F; omega) (-1)
  exact ⟨y, z1, z2⟩
