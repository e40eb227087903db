/-! text fed, on both sides -/
def fe_s (i : Nat) : Int32 := 24 - 8 * nI i
def fe_b (a : Int32) (i : Nat) : Int32 := (a >>> (fe_s i &&& 31)) &&& 255
theorem fe_s_s : ∀ i, i < 4 → fe_s i + (-8) = fe_s (i + 1) ∧ ¬ fe_s i < 0 := by decide
theorem fe_s_4 : fe_s 4 < 0 := by decide
theorem fe_s_0 : fe_s 0 = 24 := by decide
theorem fe_s_q : ∀ q, q < 20 → 24 - 8 * (nI q - nI q / 4 * 4) = fe_s (q % 4) := by decide
/-- the bytes of five words, and how many of them are not zero -/
def fe_B (A : Nat → Int32) (q : Nat) : Int32 := fe_b (A (q / 4)) (q % 4)
def fe_c (A : Nat → Int32) : Nat → Nat
  | 0 => 0
  | q + 1 => if fe_B A q = 0 then fe_c A q else fe_c A q + 1
theorem fe_c_s {A : Nat → Int32} {q : Nat} : fe_c A q ≤ fe_c A (q + 1) ∧ fe_c A (q + 1) ≤ fe_c A q + 1 := by
  rw [fe_c]
  by_cases h : fe_B A q = 0
  · rw [if_pos h]
    omega
  · rw [if_neg h]
    omega
theorem fe_c_m {A : Nat → Int32} {q : Nat} : ∀ j, fe_c A q ≤ fe_c A (q + j) ∧ fe_c A (q + j) ≤ fe_c A q + j
  | 0 => by rw [Nat.add_zero]; omega
  | j + 1 => by
    have := fe_c_m (A := A) (q := q) j
    have := fe_c_s (A := A) (q := q + j)
    rw [← Nat.add_assoc]
    omega
theorem fe_B_w {A : Nat → Int32} {w i : Nat} (h : i < 4) : fe_B A (4 * w + i) = fe_b (A w) i := by
  rw [fe_B, show (4 * w + i) / 4 = w by omega, show (4 * w + i) % 4 = i by omega]
theorem fe_inC {M : cl_M} {A : Nat → Int32} {w : Nat} : f_X3_bytesIn M (A w) = some (nI (fe_c A (4 * w + 4) - fe_c A (4 * w))) := by
  have H : ∀ j i, i + j = 4 → ∀ k, j < k → f_X3_bytesIn_5 k M (A w) (nI (fe_c A (4 * w + i) - fe_c A (4 * w))) (fe_s i) = some (nI (fe_c A (4 * w + 4) - fe_c A (4 * w))) := by
    intro j
    induction j with
    | zero =>
      intro i hi k hk
      obtain ⟨k, rfl, hk⟩ := cu_fuel hk
      have hi : i = 4 := by omega
      subst hi
      rw [f_X3_bytesIn_5, if_pos fe_s_4]
    | succ j ih =>
      intro i hi k hk
      obtain ⟨k, rfl, hk⟩ := cu_fuel hk
      have ih := ih (i + 1) (by omega) k (by omega)
      have hm := fe_c_m (A := A) (q := 4 * w) i
      have hb : ((A w >>> (fe_s i &&& 31)) &&& 255) = fe_B A (4 * w + i) := (fe_B_w (by omega)).symm
      rw [f_X3_bytesIn_5, if_neg (fe_s_s i (by omega)).2, hb]
      rw [← Nat.add_assoc, fe_c] at ih
      by_cases h : fe_B A (4 * w + i) = 0
      · rw [if_pos h] at ih ⊢
        rw [f_X3_bytesIn_22, cl_let, (fe_s_s i (by omega)).1]
        exact ih
      · rw [if_neg h] at ih ⊢
        rw [cl_let, f_X3_bytesIn_22, cl_let, (fe_s_s i (by omega)).1, show (nI (fe_c A (4 * w + i) - fe_c A (4 * w)) + 1 : Int32) = nI (fe_c A (4 * w + i) + 1 - fe_c A (4 * w)) by rw [nI_1]; congr 1; omega]
        exact ih
  have := H 4 0 rfl cl_F (by decide)
  rw [Nat.add_zero, Nat.sub_self, fe_s_0] at this
  exact this
/-- the bytes written behind n others -/
def fe_a (A : Nat → Int32) (n t : Nat) (M : cl_M) : Nat → cl_M
  | 0 => M
  | q + 1 => if fe_B A q = 0 then fe_a A n t M q else cl_ms (cl_ms (fe_a A n t M q) (t + 1) (n + fe_c A q) (fe_B A q)) t 1 (nI (n + fe_c A q + 1))
theorem fe_a_1 {A : Nat → Int32} {n t : Nat} {M : cl_M} (h : M t 1 = nI n) : ∀ q, fe_a A n t M q t 1 = nI (n + fe_c A q)
  | 0 => h
  | q + 1 => by
    rw [fe_a, fe_c]
    by_cases hb : fe_B A q = 0
    · rw [if_pos hb, if_pos hb]
      exact fe_a_1 h q
    · rw [if_neg hb, if_neg hb, cl_ms, cl_row_s, pk_us, Nat.add_assoc]
theorem fe_a_x {A : Nat → Int32} {n t : Nat} {M : cl_M} {x : Nat} (h : x ≠ t) (h1 : x ≠ t + 1) : ∀ q, fe_a A n t M q x = M x
  | 0 => rfl
  | q + 1 => by
    rw [fe_a]
    by_cases hb : fe_B A q = 0
    · rw [if_pos hb]
      exact fe_a_x h h1 q
    · rw [if_neg hb, cp_ms h, cp_ms h1]
      exact fe_a_x h h1 q
theorem fe_a_k {A : Nat → Int32} {n t : Nat} {M : cl_M} {k : Nat} (h : k ≠ 1) : ∀ q, fe_a A n t M q t k = M t k
  | 0 => rfl
  | q + 1 => by
    rw [fe_a]
    by_cases hb : fe_B A q = 0
    · rw [if_pos hb]
      exact fe_a_k h q
    · rw [if_neg hb, cl_ms, cl_row_s, pk_un h, cp_ms (by omega)]
      exact fe_a_k h q
theorem fe_a_e {A : Nat → Int32} {n t u : Nat} {M N : cl_M} (h : ∀ j, j < n → M (t + 1) j = N (u + 1) j) : ∀ q j, j < n + fe_c A q → fe_a A n t M q (t + 1) j = fe_a A n u N q (u + 1) j
  | 0, j, hj => h j (by rw [fe_c] at hj; omega)
  | q + 1, j, hj => by
    rw [fe_c] at hj
    rw [fe_a, fe_a]
    by_cases hb : fe_B A q = 0
    · rw [if_pos hb] at hj
      rw [if_pos hb, if_pos hb]
      exact fe_a_e h q j hj
    · rw [if_neg hb] at hj
      rw [if_neg hb, if_neg hb, cp_ms (show t + 1 ≠ t by omega), cp_ms (show u + 1 ≠ u by omega), cl_ms, cl_row_s, cl_ms, cl_row_s]
      by_cases hq : j = n + fe_c A q
      · rw [hq, pk_us, pk_us]
      · rw [pk_un hq, pk_un hq]
        exact fe_a_e h q j (by omega)
theorem fe_appC {M : cl_M} {A : Nat → Int32} {n w : Nat} (h1 : M 1 1 = nI n) (hw : w < 5) (hn : n + fe_c A 20 ≤ 700) : f_X3_appendBytes (fe_a A n 1 M (4 * w)) 1 (A w) = some (fe_a A n 1 M (4 * w + 4)) := by
  have H : ∀ j i, i + j = 4 → ∀ k, j < k → f_X3_appendBytes_3 k (fe_a A n 1 M (4 * w + i)) 1 (A w) (fe_s i) = some (fe_a A n 1 M (4 * w + 4)) := by
    intro j
    induction j with
    | zero =>
      intro i hi k hk
      obtain ⟨k, rfl, hk⟩ := cu_fuel hk
      have hi : i = 4 := by omega
      subst hi
      rw [f_X3_appendBytes_3, if_pos fe_s_4]
    | succ j ih =>
      intro i hi k hk
      obtain ⟨k, rfl, hk⟩ := cu_fuel hk
      have ih := ih (i + 1) (by omega) k (by omega)
      have hm := fe_c_m (A := A) (q := 4 * w + i + 1) (20 - (4 * w + i + 1))
      rw [show 4 * w + i + 1 + (20 - (4 * w + i + 1)) = 20 by omega, fe_c] at hm
      have hb : ((A w >>> (fe_s i &&& 31)) &&& 255) = fe_B A (4 * w + i) := (fe_B_w (by omega)).symm
      have e1 := fe_a_1 (A := A) h1 (4 * w + i)
      rw [f_X3_appendBytes_3, if_neg (fe_s_s i (by omega)).2, hb, f_X3_appendByte]
      rw [← Nat.add_assoc, fe_a] at ih
      by_cases h : fe_B A (4 * w + i) = 0
      · rw [if_pos h] at ih ⊢
        rw [Option.bind_some, cl_let, (fe_s_s i (by omega)).1]
        exact ih
      · rw [if_neg h] at hm
        rw [if_neg h] at ih ⊢
        have e2 : (cl_ms (fe_a A n 1 M (4 * w + i)) (1 + 1) (n + fe_c A (4 * w + i)) (fe_B A (4 * w + i))) 1 1 = nI (n + fe_c A (4 * w + i)) := by rw [cp_ms (by decide), e1]
        rw [e1, if_neg (show ¬ (700 : Int32) ≤ nI (n + fe_c A (4 * w + i)) from nI_ge (b := 700) (by omega) (by omega)), if_pos (cu_inb (by omega) (by omega)), nI_clamp (by omega), cl_let, e2, cl_let, Option.bind_some, cl_let, (fe_s_s i (by omega)).1, nI_1]
        exact ih
  have := H 4 0 rfl cl_F (by decide)
  rw [Nat.add_zero, fe_s_0] at this
  exact this
theorem fe_byteN {N : cl_M} {A : Nat → Int32} {q : Nat} (hq : q < 20) : f_X6_byteOf N (A 0) (A 1) (A 2) (A 3) (A 4) (nI q) = some (fe_B A q) := by
  have e : ∀ z : Int32, f_X6_byteOf_45 N (nI q) z = some (fe_b z (q % 4)) := fun z => by
    rw [f_X6_byteOf_45, fe_s_q q hq]
    rfl
  have le : ∀ c : Nat, c ≤ 16 → c ≤ q → nI c ≤ nI q := fun c h h2 => (nI_leI (by omega) (by omega)).mpr h2
  have gt : ∀ c : Nat, c ≤ 16 → q < c → ¬ nI c ≤ nI q := fun c h h2 => nI_ge (by omega) (by omega)
  rw [f_X6_byteOf, fe_B]
  by_cases h1 : 4 ≤ q
  · rw [if_pos (show (4 : Int32) ≤ nI q from le 4 (by omega) h1)]
    by_cases h2 : 8 ≤ q
    · rw [if_pos (show (8 : Int32) ≤ nI q from le 8 (by omega) h2)]
      by_cases h3 : 12 ≤ q
      · rw [if_pos (show (12 : Int32) ≤ nI q from le 12 (by omega) h3)]
        by_cases h4 : 16 ≤ q
        · rw [if_pos (show (16 : Int32) ≤ nI q from le 16 (by omega) h4), e, show q / 4 = 4 by omega]
        · rw [if_neg (show ¬ (16 : Int32) ≤ nI q from gt 16 (by omega) (by omega)), e, show q / 4 = 3 by omega]
      · rw [if_neg (show ¬ (12 : Int32) ≤ nI q from gt 12 (by omega) (by omega)), e, show q / 4 = 2 by omega]
    · rw [if_neg (show ¬ (8 : Int32) ≤ nI q from gt 8 (by omega) (by omega)), e, show q / 4 = 1 by omega]
  · rw [if_neg (show ¬ (4 : Int32) ≤ nI q from gt 4 (by omega) (by omega)), e, show q / 4 = 0 by omega]
theorem fe_putN {N : cl_M} {A : Nat → Int32} {n : Nat} (h1 : N 237 1 = nI n) (hn : n + fe_c A 20 ≤ 700) : f_X6_feed_70 cl_F N 237 (A 0) (A 1) (A 2) (A 3) (A 4) 0 = some (nI (n + fe_c A 20), fe_a A n 237 N 20) := by
  have H : ∀ j i, i + j = 20 → ∀ k, j < k → f_X6_feed_70 k (fe_a A n 237 N i) 237 (A 0) (A 1) (A 2) (A 3) (A 4) (nI i) = some (nI (n + fe_c A 20), fe_a A n 237 N 20) := by
    intro j
    induction j with
    | zero =>
      intro i hi k hk
      obtain ⟨k, rfl, hk⟩ := cu_fuel hk
      have hi : i = 20 := by omega
      subst hi
      rw [f_X6_feed_70, if_pos (by decide), fe_a_1 h1]
    | succ j ih =>
      intro i hi k hk
      obtain ⟨k, rfl, hk⟩ := cu_fuel hk
      have ih := ih (i + 1) (by omega) k (by omega)
      have hm := fe_c_m (A := A) (q := i + 1) (20 - (i + 1))
      rw [show i + 1 + (20 - (i + 1)) = 20 by omega, fe_c] at hm
      have e1 := fe_a_1 (A := A) h1 i
      rw [f_X6_feed_70, if_neg (show ¬ (20 : Int32) ≤ nI i from nI_ge (b := 20) (by omega) (by omega)), fe_byteN (by omega), Option.bind_some]
      rw [fe_a] at ih
      by_cases h : fe_B A i = 0
      · rw [if_pos h] at ih ⊢
        rw [f_X6_feed_117, cl_let, nI_1]
        exact ih
      · rw [if_neg h] at hm
        rw [if_neg h] at ih ⊢
        have e2 : (cl_ms (fe_a A n 237 N i) (237 + 1) (n + fe_c A i) (fe_B A i)) 237 1 = nI (n + fe_c A i) := by rw [cp_ms (by decide), e1]
        rw [e1, if_pos (cu_inb (by omega) (by omega)), nI_clamp (by omega), cl_let, e2, cl_let, f_X6_feed_117, cl_let, nI_1, nI_1]
        exact ih
  exact H 20 0 rfl cl_F (by decide)
theorem fe_cntN {N : cl_M} {A : Nat → Int32} : f_X6_feed_11 cl_F N 237 (A 0) (A 1) (A 2) (A 3) (A 4) 0 0 = if N 237 1 + nI (fe_c A 20) ≤ 700 then f_X6_feed_70 cl_F N 237 (A 0) (A 1) (A 2) (A 3) (A 4) 0 else some (-1, N) := by
  have H : ∀ j i, i + j = 20 → ∀ k, j < k → f_X6_feed_11 k N 237 (A 0) (A 1) (A 2) (A 3) (A 4) (nI (fe_c A i)) (nI i) = if N 237 1 + nI (fe_c A 20) ≤ 700 then f_X6_feed_70 cl_F N 237 (A 0) (A 1) (A 2) (A 3) (A 4) 0 else some (-1, N) := by
    intro j
    induction j with
    | zero =>
      intro i hi k hk
      obtain ⟨k, rfl, hk⟩ := cu_fuel hk
      have hi : i = 20 := by omega
      subst hi
      rw [f_X6_feed_11, if_pos (by decide)]
    | succ j ih =>
      intro i hi k hk
      obtain ⟨k, rfl, hk⟩ := cu_fuel hk
      have ih := ih (i + 1) (by omega) k (by omega)
      rw [f_X6_feed_11, if_neg (show ¬ (20 : Int32) ≤ nI i from nI_ge (b := 20) (by omega) (by omega)), fe_byteN (by omega), Option.bind_some]
      rw [fe_c] at ih
      by_cases h : fe_B A i = 0
      · rw [if_pos h] at ih ⊢
        rw [f_X6_feed_40, f_X6_flag, if_pos rfl, f_X6_flag_9, Option.bind_some, cl_let, cl_let, nI_1, Int32.add_zero]
        exact ih
      · rw [if_neg h] at ih ⊢
        rw [f_X6_feed_40, f_X6_flag, if_neg (by decide), f_X6_flag_9, Option.bind_some, cl_let, cl_let, nI_1, nI_1]
        exact ih
  exact H 20 0 rfl cl_F (by decide)
