/-! a garment: cells of the reference's row, and the class's own row -/
theorem cm_ix {g w : Nat} : (39 + 11 * nI g : Int32) + nI w = nI (39 + 11 * g + w) := by
  simp (disch := omega) only [cl_let, Option.bind_some, cl_b2, nI_add, pk_mul, nI_leI, nI_ltI, nI_eq, nI_clamp, cu_inb, if_pos, if_neg, eq_self, ite_true, ite_false, if_true, if_false, cu_0, cu_1, cu_2, cu_3, cu_4, cu_5, cu_6, cu_7, cu_8, cu_9, cu_10, cu_11, cu_12, cu_16, cu_19, cu_20, cu_23, cu_24, cu_26, cu_30, cu_31, cu_32, cu_39, cu_40, cu_42, cu_45, cu_48, cu_57, cu_59, cu_60, cu_97, cu_99, cu_100, cu_122, cu_149, cu_200, cu_500, cu_700, cu_999, cu_9999, cu_99999, cu_100000, cu_1192, cu_298, ]
theorem cm_of0 {N : cl_M} {r : Nat → Int32} {g : Nat} (hg : g < 10) : f_X6_of (cl_row N 239 r) 237 (nI g) 0 = some (r (39 + 11 * g)) := by
  have e : (39 + 11 * nI g : Int32) + 0 = nI (39 + 11 * g) := cm_ix (w := 0)
  rw [f_X6_of, e, if_pos (cu_inb (by omega) (by omega)), nI_clamp (by omega)]
  rfl
theorem cm_put0 {N : cl_M} {r : Nat → Int32} {g : Nat} {v : Int32} (hg : g < 10) : f_X6_put (cl_row N 239 r) 237 (nI g) 0 v = some (cl_row N 239 (upd r (39 + 11 * g) v)) := by
  have e : (39 + 11 * nI g : Int32) + 0 = nI (39 + 11 * g) := cm_ix (w := 0)
  rw [f_X6_put, e, if_pos (cu_inb (by omega) (by omega)), nI_clamp (by omega)]
  simp only [cl_let, cl_ms, Nat.reduceAdd, cl_row_s, cu_rr]
theorem cm_of1 {N : cl_M} {r : Nat → Int32} {g : Nat} (hg : g < 10) : f_X6_of (cl_row N 239 r) 237 (nI g) 1 = some (r (39 + 11 * g + 1)) := by
  have e : (39 + 11 * nI g : Int32) + 1 = nI (39 + 11 * g + 1) := cm_ix (w := 1)
  rw [f_X6_of, e, if_pos (cu_inb (by omega) (by omega)), nI_clamp (by omega)]
  rfl
theorem cm_put1 {N : cl_M} {r : Nat → Int32} {g : Nat} {v : Int32} (hg : g < 10) : f_X6_put (cl_row N 239 r) 237 (nI g) 1 v = some (cl_row N 239 (upd r (39 + 11 * g + 1) v)) := by
  have e : (39 + 11 * nI g : Int32) + 1 = nI (39 + 11 * g + 1) := cm_ix (w := 1)
  rw [f_X6_put, e, if_pos (cu_inb (by omega) (by omega)), nI_clamp (by omega)]
  simp only [cl_let, cl_ms, Nat.reduceAdd, cl_row_s, cu_rr]
theorem cm_of2 {N : cl_M} {r : Nat → Int32} {g : Nat} (hg : g < 10) : f_X6_of (cl_row N 239 r) 237 (nI g) 2 = some (r (39 + 11 * g + 2)) := by
  have e : (39 + 11 * nI g : Int32) + 2 = nI (39 + 11 * g + 2) := cm_ix (w := 2)
  rw [f_X6_of, e, if_pos (cu_inb (by omega) (by omega)), nI_clamp (by omega)]
  rfl
theorem cm_put2 {N : cl_M} {r : Nat → Int32} {g : Nat} {v : Int32} (hg : g < 10) : f_X6_put (cl_row N 239 r) 237 (nI g) 2 v = some (cl_row N 239 (upd r (39 + 11 * g + 2) v)) := by
  have e : (39 + 11 * nI g : Int32) + 2 = nI (39 + 11 * g + 2) := cm_ix (w := 2)
  rw [f_X6_put, e, if_pos (cu_inb (by omega) (by omega)), nI_clamp (by omega)]
  simp only [cl_let, cl_ms, Nat.reduceAdd, cl_row_s, cu_rr]
theorem cm_of3 {N : cl_M} {r : Nat → Int32} {g : Nat} (hg : g < 10) : f_X6_of (cl_row N 239 r) 237 (nI g) 3 = some (r (39 + 11 * g + 3)) := by
  have e : (39 + 11 * nI g : Int32) + 3 = nI (39 + 11 * g + 3) := cm_ix (w := 3)
  rw [f_X6_of, e, if_pos (cu_inb (by omega) (by omega)), nI_clamp (by omega)]
  rfl
theorem cm_put3 {N : cl_M} {r : Nat → Int32} {g : Nat} {v : Int32} (hg : g < 10) : f_X6_put (cl_row N 239 r) 237 (nI g) 3 v = some (cl_row N 239 (upd r (39 + 11 * g + 3) v)) := by
  have e : (39 + 11 * nI g : Int32) + 3 = nI (39 + 11 * g + 3) := cm_ix (w := 3)
  rw [f_X6_put, e, if_pos (cu_inb (by omega) (by omega)), nI_clamp (by omega)]
  simp only [cl_let, cl_ms, Nat.reduceAdd, cl_row_s, cu_rr]
theorem cm_of4 {N : cl_M} {r : Nat → Int32} {g : Nat} (hg : g < 10) : f_X6_of (cl_row N 239 r) 237 (nI g) 4 = some (r (39 + 11 * g + 4)) := by
  have e : (39 + 11 * nI g : Int32) + 4 = nI (39 + 11 * g + 4) := cm_ix (w := 4)
  rw [f_X6_of, e, if_pos (cu_inb (by omega) (by omega)), nI_clamp (by omega)]
  rfl
theorem cm_put4 {N : cl_M} {r : Nat → Int32} {g : Nat} {v : Int32} (hg : g < 10) : f_X6_put (cl_row N 239 r) 237 (nI g) 4 v = some (cl_row N 239 (upd r (39 + 11 * g + 4) v)) := by
  have e : (39 + 11 * nI g : Int32) + 4 = nI (39 + 11 * g + 4) := cm_ix (w := 4)
  rw [f_X6_put, e, if_pos (cu_inb (by omega) (by omega)), nI_clamp (by omega)]
  simp only [cl_let, cl_ms, Nat.reduceAdd, cl_row_s, cu_rr]
theorem cm_of5 {N : cl_M} {r : Nat → Int32} {g : Nat} (hg : g < 10) : f_X6_of (cl_row N 239 r) 237 (nI g) 5 = some (r (39 + 11 * g + 5)) := by
  have e : (39 + 11 * nI g : Int32) + 5 = nI (39 + 11 * g + 5) := cm_ix (w := 5)
  rw [f_X6_of, e, if_pos (cu_inb (by omega) (by omega)), nI_clamp (by omega)]
  rfl
theorem cm_put5 {N : cl_M} {r : Nat → Int32} {g : Nat} {v : Int32} (hg : g < 10) : f_X6_put (cl_row N 239 r) 237 (nI g) 5 v = some (cl_row N 239 (upd r (39 + 11 * g + 5) v)) := by
  have e : (39 + 11 * nI g : Int32) + 5 = nI (39 + 11 * g + 5) := cm_ix (w := 5)
  rw [f_X6_put, e, if_pos (cu_inb (by omega) (by omega)), nI_clamp (by omega)]
  simp only [cl_let, cl_ms, Nat.reduceAdd, cl_row_s, cu_rr]
theorem cm_of6 {N : cl_M} {r : Nat → Int32} {g : Nat} (hg : g < 10) : f_X6_of (cl_row N 239 r) 237 (nI g) 6 = some (r (39 + 11 * g + 6)) := by
  have e : (39 + 11 * nI g : Int32) + 6 = nI (39 + 11 * g + 6) := cm_ix (w := 6)
  rw [f_X6_of, e, if_pos (cu_inb (by omega) (by omega)), nI_clamp (by omega)]
  rfl
theorem cm_put6 {N : cl_M} {r : Nat → Int32} {g : Nat} {v : Int32} (hg : g < 10) : f_X6_put (cl_row N 239 r) 237 (nI g) 6 v = some (cl_row N 239 (upd r (39 + 11 * g + 6) v)) := by
  have e : (39 + 11 * nI g : Int32) + 6 = nI (39 + 11 * g + 6) := cm_ix (w := 6)
  rw [f_X6_put, e, if_pos (cu_inb (by omega) (by omega)), nI_clamp (by omega)]
  simp only [cl_let, cl_ms, Nat.reduceAdd, cl_row_s, cu_rr]
theorem cm_of7 {N : cl_M} {r : Nat → Int32} {g : Nat} (hg : g < 10) : f_X6_of (cl_row N 239 r) 237 (nI g) 7 = some (r (39 + 11 * g + 7)) := by
  have e : (39 + 11 * nI g : Int32) + 7 = nI (39 + 11 * g + 7) := cm_ix (w := 7)
  rw [f_X6_of, e, if_pos (cu_inb (by omega) (by omega)), nI_clamp (by omega)]
  rfl
theorem cm_put7 {N : cl_M} {r : Nat → Int32} {g : Nat} {v : Int32} (hg : g < 10) : f_X6_put (cl_row N 239 r) 237 (nI g) 7 v = some (cl_row N 239 (upd r (39 + 11 * g + 7) v)) := by
  have e : (39 + 11 * nI g : Int32) + 7 = nI (39 + 11 * g + 7) := cm_ix (w := 7)
  rw [f_X6_put, e, if_pos (cu_inb (by omega) (by omega)), nI_clamp (by omega)]
  simp only [cl_let, cl_ms, Nat.reduceAdd, cl_row_s, cu_rr]
theorem cm_of8 {N : cl_M} {r : Nat → Int32} {g : Nat} (hg : g < 10) : f_X6_of (cl_row N 239 r) 237 (nI g) 8 = some (r (39 + 11 * g + 8)) := by
  have e : (39 + 11 * nI g : Int32) + 8 = nI (39 + 11 * g + 8) := cm_ix (w := 8)
  rw [f_X6_of, e, if_pos (cu_inb (by omega) (by omega)), nI_clamp (by omega)]
  rfl
theorem cm_put8 {N : cl_M} {r : Nat → Int32} {g : Nat} {v : Int32} (hg : g < 10) : f_X6_put (cl_row N 239 r) 237 (nI g) 8 v = some (cl_row N 239 (upd r (39 + 11 * g + 8) v)) := by
  have e : (39 + 11 * nI g : Int32) + 8 = nI (39 + 11 * g + 8) := cm_ix (w := 8)
  rw [f_X6_put, e, if_pos (cu_inb (by omega) (by omega)), nI_clamp (by omega)]
  simp only [cl_let, cl_ms, Nat.reduceAdd, cl_row_s, cu_rr]
theorem cm_of9 {N : cl_M} {r : Nat → Int32} {g : Nat} (hg : g < 10) : f_X6_of (cl_row N 239 r) 237 (nI g) 9 = some (r (39 + 11 * g + 9)) := by
  have e : (39 + 11 * nI g : Int32) + 9 = nI (39 + 11 * g + 9) := cm_ix (w := 9)
  rw [f_X6_of, e, if_pos (cu_inb (by omega) (by omega)), nI_clamp (by omega)]
  rfl
theorem cm_put9 {N : cl_M} {r : Nat → Int32} {g : Nat} {v : Int32} (hg : g < 10) : f_X6_put (cl_row N 239 r) 237 (nI g) 9 v = some (cl_row N 239 (upd r (39 + 11 * g + 9) v)) := by
  have e : (39 + 11 * nI g : Int32) + 9 = nI (39 + 11 * g + 9) := cm_ix (w := 9)
  rw [f_X6_put, e, if_pos (cu_inb (by omega) (by omega)), nI_clamp (by omega)]
  simp only [cl_let, cl_ms, Nat.reduceAdd, cl_row_s, cu_rr]
theorem cm_of10 {N : cl_M} {r : Nat → Int32} {g : Nat} (hg : g < 10) : f_X6_of (cl_row N 239 r) 237 (nI g) 10 = some (r (39 + 11 * g + 10)) := by
  have e : (39 + 11 * nI g : Int32) + 10 = nI (39 + 11 * g + 10) := cm_ix (w := 10)
  rw [f_X6_of, e, if_pos (cu_inb (by omega) (by omega)), nI_clamp (by omega)]
  rfl
theorem cm_put10 {N : cl_M} {r : Nat → Int32} {g : Nat} {v : Int32} (hg : g < 10) : f_X6_put (cl_row N 239 r) 237 (nI g) 10 v = some (cl_row N 239 (upd r (39 + 11 * g + 10) v)) := by
  have e : (39 + 11 * nI g : Int32) + 10 = nI (39 + 11 * g + 10) := cm_ix (w := 10)
  rw [f_X6_put, e, if_pos (cu_inb (by omega) (by omega)), nI_clamp (by omega)]
  simp only [cl_let, cl_ms, Nat.reduceAdd, cl_row_s, cu_rr]
theorem cm_now {N : cl_M} {r : Nat → Int32} {k : Nat} : (cl_row N 239 r) (237 + 2) k = r k := by
  rw [show 237 + 2 = 239 from rfl, cl_row_s]
theorem cm_set {N : cl_M} {r : Nat → Int32} {k : Nat} {v : Int32} : cl_ms (cl_row N 239 r) (237 + 2) k v = cl_row N 239 (upd r k v) := by
  rw [show 237 + 2 = 239 from rfl, cl_ms, cl_row_s, cu_rr]
theorem cm_wx {N : cl_M} {r w : Nat → Int32} (h : cw_x r = w) : cw_x ((cl_row N 239 r) 239) = w := by rw [cl_row_s]; exact h
/-- one bits: the JDK's way, the reference's way -/
def cu_bc (x : Int32) : Int32 := cl_let (x - (((x.toUInt32 >>> ((1 : Int32).toUInt32 &&& Int32.toUInt32 31)).toInt32) &&& 1431655765)) (fun v1 => cl_let ((v1 &&& 858993459) + (((v1.toUInt32 >>> ((2 : Int32).toUInt32 &&& Int32.toUInt32 31)).toInt32) &&& 858993459)) (fun v2 => cl_let ((v2 + ((v2.toUInt32 >>> ((4 : Int32).toUInt32 &&& Int32.toUInt32 31)).toInt32)) &&& 252645135) (fun v3 => cl_let (v3 + ((v3.toUInt32 >>> ((8 : Int32).toUInt32 &&& Int32.toUInt32 31)).toInt32)) (fun v4 => cl_let (v4 + ((v4.toUInt32 >>> ((16 : Int32).toUInt32 &&& Int32.toUInt32 31)).toInt32)) (fun v5 => v5 &&& 63)))))
theorem cu_bc_e (M : cl_M) (x : Int32) : f_J6_bitCount_0f7a4 M x = some (cu_bc x) := rfl
def cu_mn (x : Int32) : Nat → Int32
  | 0 => 0
  | i + 1 => cu_mn x i + ((x >>> (nI i &&& 31)) &&& 1)
theorem cu_mn_e (N : cl_M) (x : Int32) : f_X6_many N x = some (cu_mn x 24) := by
  have H : ∀ j i, i + j = 24 → ∀ k, j < k → f_X6_many_4 k N x (cu_mn x i) (nI i) = some (cu_mn x 24) := by
    intro j
    induction j with
    | zero =>
      intro i hi k hk
      obtain ⟨k, rfl, hk⟩ := cu_fuel hk
      have hi : i = 24 := by omega
      subst hi
      rw [f_X6_many_4, if_pos (by decide)]
    | succ j ih =>
      intro i hi k hk
      obtain ⟨k, rfl, hk⟩ := cu_fuel hk
      have ih := ih (i + 1) (by omega) k (by omega)
      rw [f_X6_many_4, if_neg (show ¬ (24 : Int32) ≤ nI i from nI_ge (b := 24) (by omega) (by omega))]
      simp only [cl_let]
      rw [nI_1]
      exact ih
  exact H 24 0 rfl cl_F (by decide)
theorem cu_bc_mn : ∀ p, p < 24 → ∀ y, y < 64 → y * 2 ^ p < 16777216 → cu_bc (nI (y * 2 ^ p)) = cu_mn (nI (y * 2 ^ p)) 24 ∧ cu_bc (nI (y * 2 ^ p)) = nI (cN (cu_bc (nI (y * 2 ^ p)))) ∧ cN (cu_bc (nI (y * 2 ^ p))) ≤ 24 := by decide +kernel
theorem cu_bc_mn0 : ∀ y, y < 1024 → cu_bc (nI y) = cu_mn (nI y) 24 ∧ cu_bc (nI y) = nI (cN (cu_bc (nI y))) ∧ cN (cu_bc (nI y)) ≤ 24 := by decide +kernel
def cu_set (p w : Nat) : Int32 := ((1 : Int32) <<< (nI w &&& 31) - 1) <<< (nI p &&& 31)
theorem cu_set_e : ∀ w, w < 7 → ∀ p, p < 24 → p + w < 25 → cu_set p w = nI ((2 ^ w - 1) * 2 ^ p) := by decide +kernel
theorem cu_land (n w p : Nat) : n &&& ((2 ^ w - 1) * 2 ^ p) = (n / 2 ^ p % 2 ^ w) * 2 ^ p := by
  apply Nat.eq_of_testBit_eq
  intro j
  rw [Nat.testBit_and, Nat.testBit_mul_two_pow, Nat.testBit_mul_two_pow, Nat.testBit_two_pow_sub_one, Nat.testBit_mod_two_pow, Nat.testBit_div_two_pow]
  by_cases h : p ≤ j
  · rw [Nat.sub_add_cancel h]
    by_cases h2 : j - p < w <;> simp [h, h2]
  · simp [h]
theorem cu_of32 (x : Int32) : ∃ n, n < 2 ^ 32 ∧ x = nI n := ⟨x.toBitVec.toNat, x.toBitVec.isLt, by
  apply Int32.toBitVec_inj.mp
  show x.toBitVec = BitVec.ofNat 32 x.toBitVec.toNat
  rw [BitVec.ofNat_toNat, BitVec.setWidth_eq]⟩
/-- bits within a garment's spots are counted alike -/
theorem cu_bits (a : Int32) {p w : Nat} (hw : w ≤ 6) (hp : p + w ≤ 24) (h1 : 1 ≤ w) : cu_bc (a &&& cu_set p w) = cu_mn (a &&& cu_set p w) 24 ∧ ∃ q, q ≤ 24 ∧ cu_bc (a &&& cu_set p w) = nI q := by
  obtain ⟨n, hn, rfl⟩ := cu_of32 a
  rw [cu_set_e w (by omega) p (by omega) (by omega), fa_and, cu_land]
  have hy : n / 2 ^ p % 2 ^ w < 2 ^ w := Nat.mod_lt _ (Nat.two_pow_pos w)
  have h64 : 2 ^ w ≤ 2 ^ 6 := Nat.pow_le_pow_right (by omega) hw
  have hb : (n / 2 ^ p % 2 ^ w) * 2 ^ p < 16777216 := by
    calc (n / 2 ^ p % 2 ^ w) * 2 ^ p < 2 ^ w * 2 ^ p := Nat.mul_lt_mul_of_pos_right hy (Nat.two_pow_pos p)
      _ = 2 ^ (w + p) := (Nat.pow_add 2 w p).symm
      _ ≤ 2 ^ 24 := Nat.pow_le_pow_right (by omega) (by omega)
  obtain ⟨e1, e2, e3⟩ := cu_bc_mn p (by omega) (n / 2 ^ p % 2 ^ w) (by omega) hb
  exact ⟨e1, _, e3, e2⟩
