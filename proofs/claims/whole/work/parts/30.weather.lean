/-! numbers, rows, and the weather on both sides -/
theorem cu_inb {n N : Nat} (h : n < N) (hN : N < 2 ^ 31) : cl_inb (nI n) N = true := by
  simp only [cl_inb, Bool.and_eq_true, decide_eq_true_eq, nI_toInt (Nat.lt_trans h hN)]
  omega
theorem cu_fuel {j k : Nat} (h : j < k) : ∃ q, k = q + 1 ∧ j ≤ q := ⟨k - 1, by omega, by omega⟩
def cu_no : Int32 := -1
theorem cu_neg : -nI 1 = cu_no := rfl
theorem cu_rr {M : cl_M} {t : Nat} {r r' : Nat → Int32} : cl_row (cl_row M t r) t r' = cl_row M t r' := by
  funext x
  by_cases h : x = t
  · rw [h, cl_row_s, cl_row_s]
  · rw [cl_row_n h, cl_row_n h, cl_row_n h]
theorem cu_rself (M : cl_M) (t : Nat) : cl_row M t (M t) = M := by
  funext x
  by_cases h : x = t
  · rw [h, cl_row_s]
  · rw [cl_row_n h]
def cN (x : Int32) : Nat := x.toNatClampNeg
theorem cN_nI {n : Nat} (h : n < 2 ^ 31) : cN (nI n) = n := nI_clamp h
/-- a weather: the places 1, 4..6, 11..38 of the reference's row -/
def cw_F (w : Nat → Int32) : Prop :=
  (∃ s, s ≤ 24 ∧ w 1 = nI s) ∧
  (∃ c, 1 ≤ c ∧ c ≤ 8 ∧ w 4 = nI c ∧ ∀ j, j < c → ∃ v, v ≤ 5 ∧ w (11 + j) = nI v) ∧
  (∃ c, c ≤ 4 ∧ w 5 = nI c ∧ ∀ j, j < c → ∃ a n v, a ≤ 9999 ∧ 1 ≤ n ∧ n ≤ 200 ∧ 1 ≤ v ∧ v ≤ 20 ∧ w (19 + 3 * j) = nI a ∧ w (19 + 3 * j + 1) = nI n ∧ w (19 + 3 * j + 2) = nI v) ∧
  (∃ c, c ≤ 4 ∧ w 6 = nI c ∧ ∀ j, j < c → ∃ a z, a ≤ z ∧ z ≤ 9999 ∧ w (31 + 2 * j) = nI a ∧ w (31 + 2 * j + 1) = nI z)
/-- the class's weather at the cell t -/
def cw_C (M : cl_M) (t : Nat) (w : Nat → Int32) : Prop :=
  M t 0 = w 1 ∧ M t 2 = w 4 ∧ M t 6 = w 5 ∧ M t 9 = w 6 ∧
  (∀ j, j < cN (w 4) → M (t + 1) j = w (11 + j)) ∧
  (∀ j, j < cN (w 5) → M (t + 2) j = w (19 + 3 * j) ∧ M (t + 3) j = w (19 + 3 * j) + w (19 + 3 * j + 1) ∧ M (t + 4) j = w (19 + 3 * j + 2)) ∧
  (∀ j, j < cN (w 6) → M (t + 5) j = w (31 + 2 * j) ∧ M (t + 6) j = w (31 + 2 * j + 1))
/-- the places of a row that are its weather -/
def cw_i (k : Nat) : Bool := k == 1 || (decide (4 ≤ k) && decide (k ≤ 6)) || (decide (11 ≤ k) && decide (k < 39))
def cw_x (r : Nat → Int32) : Nat → Int32 := fun k => if cw_i k then r k else 0
theorem cw_get {r w : Nat → Int32} (h : cw_x r = w) {k : Nat} (hk : cw_i k = true) : r k = w k := by
  rw [← h, cw_x, if_pos hk]
theorem cw_sho {j n : Nat} (h : j < 4) (hn : n < 3) : cw_i (19 + 3 * j + n) = true := by
  simp only [cw_i, Bool.or_eq_true, Bool.and_eq_true, decide_eq_true_eq, beq_iff_eq]; omega
theorem cw_smo {j n : Nat} (h : j < 4) (hn : n < 2) : cw_i (31 + 2 * j + n) = true := by
  simp only [cw_i, Bool.or_eq_true, Bool.and_eq_true, decide_eq_true_eq, beq_iff_eq]; omega
theorem cw_win {j : Nat} (h : j < 8) : cw_i (11 + j) = true := by
  simp only [cw_i, Bool.or_eq_true, Bool.and_eq_true, decide_eq_true_eq, beq_iff_eq]; omega
/-- the rain of the first showers -/
def cw_ra (w : Nat → Int32) (m : Nat) : Nat → Nat
  | 0 => 0
  | i + 1 => cw_ra w m i + (if cN (w (19 + 3 * i)) ≤ m ∧ m < cN (w (19 + 3 * i)) + cN (w (19 + 3 * i + 1)) then cN (w (19 + 3 * i + 2)) else 0)
def cw_rain (w : Nat → Int32) (m : Nat) : Nat := cw_ra w m (cN (w 5))
theorem cw_ra_le {w : Nat → Int32} (W : cw_F w) (m : Nat) : ∀ i, i ≤ cN (w 5) → cw_ra w m i ≤ 20 * i := by
  obtain ⟨sc, hsc, e5, hs⟩ := W.2.2.1
  have hcN : cN (w 5) = sc := by rw [e5]; exact cN_nI (by omega)
  intro i
  induction i with
  | zero => intro _; exact Nat.le_refl _
  | succ i ih =>
    intro hi
    obtain ⟨a, n, v, b1, b2, b3, b4, b5, e1, e2, e3⟩ := hs i (by omega)
    have := ih (by omega)
    rw [cw_ra, e3, cN_nI (n := v) (by omega)]
    split <;> omega
theorem cw_rainC {M : cl_M} {t : Nat} {w : Nat → Int32} (W : cw_F w) (C : cw_C M t w) {m : Nat} (hm : m < 2 ^ 30) : f_X4_rainAt M t (nI m) = some (nI (cw_rain w m)) := by
  have hle := cw_ra_le W m
  obtain ⟨sc, hsc, e5, hs⟩ := W.2.2.1
  obtain ⟨c1, c2, c3, c4, c5, c6, c7⟩ := C
  have hcN : cN (w 5) = sc := by rw [e5]; exact cN_nI (by omega)
  have H : ∀ j i, i + j = sc → ∀ k, j < k → f_X4_rainAt_4 k M t (nI m) (nI (cw_ra w m i)) (nI i) = some (nI (cw_ra w m sc)) := by
    intro j
    induction j with
    | zero =>
      intro i hi k hk
      obtain ⟨k, rfl, hk⟩ := cu_fuel hk
      have hi : i = sc := by omega
      subst hi
      simp (disch := omega) only [cl_let, Option.bind_some, cl_b2, nI_add, pk_mul, nI_leI, nI_ltI, nI_eq, nI_clamp, cu_inb, if_pos, if_neg, eq_self, ite_true, ite_false, if_true, if_false, f_X4_rainAt_4, c3, e5]
    | succ j ih =>
      intro i hi k hk
      obtain ⟨k, rfl, hk⟩ := cu_fuel hk
      obtain ⟨a, n, v, b1, b2, b3, b4, b5, e1, e2, e3⟩ := hs i (by omega)
      obtain ⟨d1, d2, d3⟩ := c6 i (by omega)
      have hb := hle i (by omega)
      have ih := ih (i + 1) (by omega) k (by omega)
      rw [cw_ra, e1, e2, e3, cN_nI (n := a) (by omega), cN_nI (n := n) (by omega), cN_nI (n := v) (by omega)] at ih
      have hx : m < a ∨ a + n ≤ m ∨ (a ≤ m ∧ m < a + n) := by omega
      rcases hx with q | q | q
      · rw [if_neg (by omega)] at ih
        simp (disch := omega) only [cl_let, Option.bind_some, cl_b2, nI_add, pk_mul, nI_leI, nI_ltI, nI_eq, nI_clamp, cu_inb, if_pos, if_neg, eq_self, ite_true, ite_false, if_true, if_false, cu_0, cu_1, cu_2, cu_3, cu_4, cu_5, cu_6, cu_7, cu_8, cu_9, cu_10, cu_11, cu_12, cu_16, cu_19, cu_20, cu_23, cu_24, cu_26, cu_30, cu_31, cu_32, cu_39, cu_40, cu_42, cu_45, cu_48, cu_57, cu_59, cu_60, cu_97, cu_99, cu_100, cu_122, cu_149, cu_200, cu_500, cu_700, cu_999, cu_9999, cu_99999, cu_100000, cu_1192, cu_298, f_X4_rainAt_4, f_X4_rainAt_41, c3, e5, d1, d2, d3, e1, e2, e3]
        exact ih
      · rw [if_neg (by omega)] at ih
        simp (disch := omega) only [cl_let, Option.bind_some, cl_b2, nI_add, pk_mul, nI_leI, nI_ltI, nI_eq, nI_clamp, cu_inb, if_pos, if_neg, eq_self, ite_true, ite_false, if_true, if_false, cu_0, cu_1, cu_2, cu_3, cu_4, cu_5, cu_6, cu_7, cu_8, cu_9, cu_10, cu_11, cu_12, cu_16, cu_19, cu_20, cu_23, cu_24, cu_26, cu_30, cu_31, cu_32, cu_39, cu_40, cu_42, cu_45, cu_48, cu_57, cu_59, cu_60, cu_97, cu_99, cu_100, cu_122, cu_149, cu_200, cu_500, cu_700, cu_999, cu_9999, cu_99999, cu_100000, cu_1192, cu_298, f_X4_rainAt_4, f_X4_rainAt_41, c3, e5, d1, d2, d3, e1, e2, e3]
        exact ih
      · rw [if_pos q] at ih
        simp (disch := omega) only [cl_let, Option.bind_some, cl_b2, nI_add, pk_mul, nI_leI, nI_ltI, nI_eq, nI_clamp, cu_inb, if_pos, if_neg, eq_self, ite_true, ite_false, if_true, if_false, cu_0, cu_1, cu_2, cu_3, cu_4, cu_5, cu_6, cu_7, cu_8, cu_9, cu_10, cu_11, cu_12, cu_16, cu_19, cu_20, cu_23, cu_24, cu_26, cu_30, cu_31, cu_32, cu_39, cu_40, cu_42, cu_45, cu_48, cu_57, cu_59, cu_60, cu_97, cu_99, cu_100, cu_122, cu_149, cu_200, cu_500, cu_700, cu_999, cu_9999, cu_99999, cu_100000, cu_1192, cu_298, f_X4_rainAt_4, f_X4_rainAt_41, c3, e5, d1, d2, d3, e1, e2, e3]
        exact ih
  have := H sc 0 (by omega) cl_F (by unfold cl_F; omega)
  rw [cw_rain, hcN]
  exact this
