/-! reading tokens, on both sides -/
def lx_let (a : Int32) : Int32 := if a < 97 then 0 else if 122 < a then 0 else 1
def lx_dig (a : Int32) : Int32 := if a < 48 then 0 else if 57 < a then 0 else 1
theorem lx_letC (M : cl_M) (a : Int32) : f_X3_isLetter M a = some (lx_let a) := by
  unfold f_X3_isLetter f_X3_isLetter_17 lx_let
  by_cases h : a < 97
  · rw [if_pos h, if_pos h]; rfl
  · rw [if_neg h, if_neg h]
    by_cases h2 : 122 < a
    · rw [if_pos h2, if_pos h2]; rfl
    · rw [if_neg h2, if_neg h2]; rfl
theorem lx_digC (M : cl_M) (a : Int32) : f_X3_isDigit M a = some (lx_dig a) := by
  unfold f_X3_isDigit f_X3_isDigit_17 lx_dig
  by_cases h : a < 48
  · rw [if_pos h, if_pos h]; rfl
  · rw [if_neg h, if_neg h]
    by_cases h2 : 57 < a
    · rw [if_pos h2, if_pos h2]; rfl
    · rw [if_neg h2, if_neg h2]; rfl
theorem lx_letN (M : cl_M) (a : Int32) : f_X6_isSmall M a = some (lx_let a) := by
  unfold f_X6_isSmall f_X6_inRange f_X6_inRange_15 lx_let
  by_cases h : a < 97
  · rw [if_pos h, if_pos h]; rfl
  · rw [if_neg h, if_neg h]
    by_cases h2 : 122 < a
    · rw [if_pos h2, if_pos h2]; rfl
    · rw [if_neg h2, if_neg h2]; rfl
theorem lx_digN (M : cl_M) (a : Int32) : f_X6_isDigit M a = some (lx_dig a) := by
  unfold f_X6_isDigit f_X6_inRange f_X6_inRange_15 lx_dig
  by_cases h : a < 48
  · rw [if_pos h, if_pos h]; rfl
  · rw [if_neg h, if_neg h]
    by_cases h2 : 57 < a
    · rw [if_pos h2, if_pos h2]; rfl
    · rw [if_neg h2, if_neg h2]; rfl
theorem lx_dig_1 {a : Int32} (h : ¬ lx_dig a = 0) : ∃ d, d ≤ 9 ∧ a = nI (48 + d) := by
  unfold lx_dig at h
  by_cases h1 : a < 48
  · rw [if_pos h1] at h; exact absurd rfl h
  · rw [if_neg h1] at h
    by_cases h2 : 57 < a
    · rw [if_pos h2] at h; exact absurd rfl h
    · have h3 := fa_of_nlt h1
      have h4 := fa_of_nlt h2
      rw [fa_le] at h3 h4
      have e1 : (48 : Int32).toInt = 48 := by decide
      have e2 : (57 : Int32).toInt = 57 := by decide
      refine ⟨a.toInt.toNat - 48, by omega, ?_⟩
      apply Int32.toInt_inj.mp
      rw [nI_toInt (by omega)]
      omega
/-- the buffers are one -/
def lx_B (n : Nat) (M N : cl_M) : Prop := n ≤ 700 ∧ ∀ j, j < n → M 2 j = N 238 j
def lx_V (u v : Nat) : Prop := u ≤ 100000 ∧ v ≤ 100000 ∧ (u = v ∨ (9999 < u ∧ 9999 < v))
theorem lx_V_s {u v d : Nat} (h : lx_V u v) (hd : d ≤ 9) : lx_V (min (10 * u + d) 100000) (if v ≤ 9999 then 10 * v + d else 99999) := by
  obtain ⟨h1, h2, h3⟩ := h
  unfold lx_V
  by_cases q : v ≤ 9999
  · rw [if_pos q]
    rcases h3 with rfl | h3
    · omega
    · omega
  · rw [if_neg q]
    rcases h3 with rfl | h3
    · omega
    · omega
section LX
variable {M N : cl_M} {n : Nat}
theorem lx_r2 {R : Nat → Int32} : (cl_row M 1 R) (1 + 1) = M 2 := cl_row_n (by decide)
theorem lx_q2 {Q : Nat → Int32} : (cl_row N 237 Q) (237 + 1) = N 238 := cl_row_n (by decide)
/-- a run of letters -/
theorem lx_letters (hB : lx_B n M N) : ∀ j p, p + j = n → ∀ k1 k2, j < k1 → j < k2 → ∀ R Q : Nat → Int32, R 1 = nI n → Q 1 = nI n → R 2 = nI p → Q 14 = nI p →
    ∃ e, p ≤ e ∧ e ≤ n ∧ f_X3_passLetters_0 k1 (cl_row M 1 R) 1 = some (cl_row M 1 (upd R 2 (nI e))) ∧ f_X6_next_109 k2 (cl_row N 237 Q) 237 = some (cl_row N 237 (upd Q 14 (nI e))) := by
  obtain ⟨hn, hB⟩ := hB
  intro j
  induction j with
  | zero =>
    intro p hp k1 k2 hk1 hk2 R Q r1 q1 r2 q2
    obtain ⟨k1, rfl, hk1⟩ := cu_fuel hk1
    obtain ⟨k2, rfl, hk2⟩ := cu_fuel hk2
    have hp : p = n := by omega
    subst hp
    refine ⟨p, Nat.le_refl _, Nat.le_refl _, ?_, ?_⟩
    · rw [f_X3_passLetters_0, cl_row_s, r1, r2, if_pos (nI_le (Nat.le_refl _) (by omega)), fa_upd_same r2]
    · rw [f_X6_next_109, cl_row_s, q1, q2, if_pos (nI_le (Nat.le_refl _) (by omega)), fa_upd_same q2]
  | succ j ih =>
    intro p hp k1 k2 hk1 hk2 R Q r1 q1 r2 q2
    obtain ⟨k1, rfl, hk1⟩ := cu_fuel hk1
    obtain ⟨k2, rfl, hk2⟩ := cu_fuel hk2
    rw [f_X3_passLetters_0, f_X6_next_109, cl_row_s, r1, r2, cl_row_s, q1, q2, if_neg (nI_ge (by omega) (by omega)), if_neg (nI_ge (by omega) (by omega)), if_pos (cu_inb (by omega) (by omega)), if_pos (cu_inb (by omega) (by omega)), nI_clamp (by omega), lx_r2, lx_q2, hB p (by omega), lx_letC, lx_letN, Option.bind_some, Option.bind_some]
    by_cases h : lx_let (N 238 p) = 0
    · rw [if_pos h, if_pos h]
      refine ⟨p, Nat.le_refl _, by omega, ?_, ?_⟩
      · rw [fa_upd_same r2]
      · rw [fa_upd_same q2]
    · rw [if_neg h, if_neg h]
      obtain ⟨e, h1, h2, h3, h4⟩ := ih (p + 1) (by omega) k1 k2 (by omega) (by omega) (upd R 2 (nI (p + 1))) (upd Q 14 (nI (p + 1))) (by rw [pk_un (by decide), r1]) (by rw [pk_un (by decide), q1]) pk_us pk_us
      rw [fa_upd_twice] at h3 h4
      refine ⟨e, by omega, h2, ?_, ?_⟩
      · rw [cl_let, cu_tt, nI_1]; exact h3
      · rw [cl_let, cu_tt, nI_1]; exact h4
/-- a run of digits -/
theorem lx_digits (hB : lx_B n M N) : ∀ j p, p + j = n → ∀ k1 k2, j < k1 → j < k2 → ∀ (R Q : Nat → Int32) (u v : Nat), R 1 = nI n → Q 1 = nI n → R 2 = nI p → Q 14 = nI p → R 5 = nI u → Q 17 = nI v → lx_V u v →
    ∃ e u' v', p ≤ e ∧ e ≤ n ∧ lx_V u' v' ∧ f_X3_passDigits_5 k1 (cl_row M 1 R) 1 = some (cl_row M 1 (upd (upd R 5 (nI u')) 2 (nI e))) ∧ f_X6_next_168 k2 (cl_row N 237 Q) 237 = some (cl_row N 237 (upd (upd Q 17 (nI v')) 14 (nI e))) := by
  obtain ⟨hn, hB⟩ := hB
  intro j
  induction j with
  | zero =>
    intro p hp k1 k2 hk1 hk2 R Q u v r1 q1 r2 q2 r5 q17 hV
    obtain ⟨k1, rfl, hk1⟩ := cu_fuel hk1
    obtain ⟨k2, rfl, hk2⟩ := cu_fuel hk2
    have hp : p = n := by omega
    subst hp
    refine ⟨p, u, v, Nat.le_refl _, Nat.le_refl _, hV, ?_, ?_⟩
    · rw [f_X3_passDigits_5, cl_row_s, r1, r2, if_pos (nI_le (Nat.le_refl _) (by omega)), fa_upd_same r5, fa_upd_same r2]
    · rw [f_X6_next_168, cl_row_s, q1, q2, if_pos (nI_le (Nat.le_refl _) (by omega)), fa_upd_same q17, fa_upd_same q2]
  | succ j ih =>
    intro p hp k1 k2 hk1 hk2 R Q u v r1 q1 r2 q2 r5 q17 hV
    obtain ⟨k1, rfl, hk1⟩ := cu_fuel hk1
    obtain ⟨k2, rfl, hk2⟩ := cu_fuel hk2
    have hin : cl_inb (nI p) 700 = true := cu_inb (by omega) (by omega)
    rw [f_X3_passDigits_5, f_X6_next_168, cl_row_s, r1, r2, cl_row_s, q1, q2, if_neg (nI_ge (by omega) (by omega)), if_neg (nI_ge (by omega) (by omega))]
    simp only [hin, eq_self, if_true]
    rw [nI_clamp (by omega), lx_r2, lx_q2, hB p (by omega), lx_digC, lx_digN, Option.bind_some, Option.bind_some]
    by_cases h : lx_dig (N 238 p) = 0
    · rw [if_pos h, if_pos h]
      refine ⟨p, u, v, Nat.le_refl _, by omega, hV, ?_, ?_⟩
      · rw [fa_upd_same r5, fa_upd_same r2]
      · rw [fa_upd_same q17, fa_upd_same q2]
    · obtain ⟨d, hd, ed⟩ := lx_dig_1 h
      have hVs := lx_V_s hV hd
      obtain ⟨v1, v2, v3⟩ := hV
      have cu : (if 100000 < nI u * 10 + (nI (48 + d) - 48) then (100000 : Int32) else nI u * 10 + (nI (48 + d) - 48)) = nI (min (10 * u + d) 100000) := by
        rw [show (48 : Int32) = nI 48 from rfl, show (10 : Int32) = nI 10 from rfl, pk_sub (by omega), pk_mul, nI_add]
        by_cases q : 100000 < u * 10 + (48 + d - 48)
        · rw [if_pos (show (100000 : Int32) < nI (u * 10 + (48 + d - 48)) from nI_lt (a := 100000) q (by omega)), Nat.min_eq_right (by omega)]; rfl
        · rw [if_neg (show ¬ (100000 : Int32) < nI (u * 10 + (48 + d - 48)) from nI_nlt (a := 100000) (by omega) (by omega)), Nat.min_eq_left (by omega)]
          congr 1
          omega
      obtain ⟨e, u', v', h1, h2, h3, h4, h5⟩ := ih (p + 1) (by omega) k1 k2 (by omega) (by omega) (upd (upd R 5 (nI (min (10 * u + d) 100000))) 2 (nI (p + 1))) (upd (upd Q 17 (nI (if v ≤ 9999 then 10 * v + d else 99999))) 14 (nI (p + 1))) _ _ (by rw [pk_un (by decide), pk_un (by decide), r1]) (by rw [pk_un (by decide), pk_un (by decide), q1]) pk_us pk_us (by rw [pk_un (by decide), pk_us]) (by rw [pk_un (by decide), pk_us]) hVs
      have f1 : upd (upd (upd (upd R 5 (nI (min (10 * u + d) 100000))) 2 (nI (p + 1))) 5 (nI u')) 2 (nI e) = upd (upd R 5 (nI u')) 2 (nI e) := by
        rw [fa_upd_swap _ (show 2 ≠ 5 by decide), fa_upd_twice, fa_upd_twice]
      have f2 : upd (upd (upd (upd Q 17 (nI (if v ≤ 9999 then 10 * v + d else 99999))) 14 (nI (p + 1))) 17 (nI v')) 14 (nI e) = upd (upd Q 17 (nI v')) 14 (nI e) := by
        rw [fa_upd_swap _ (show 14 ≠ 17 by decide), fa_upd_twice, fa_upd_twice]
      rw [f1] at h4
      rw [f2] at h5
      refine ⟨e, u', v', by omega, h2, h3, ?_, ?_⟩
      · rw [if_neg h, r5, ed, cu, cl_let, cu_tt, cl_let, cl_row_s, pk_un (by decide), r2, nI_1, cu_tt]
        exact h4
      · rw [if_neg h, q17]
        by_cases q : v ≤ 9999
        · rw [if_pos q] at h5
          have e9 : (10 : Int32) * nI v + nI (48 + d) - 48 = nI (10 * v + d) := by
            rw [show (48 : Int32) = nI 48 from rfl, show (10 : Int32) = nI 10 from rfl, pk_mul, nI_add, pk_sub (by omega)]
            congr 1
            omega
          rw [if_pos (show nI v ≤ 9999 from nI_le (b := 9999) q (by omega)), ed, e9, f_X6_next_230, cl_let, cu_tt, cl_let, cl_row_s, pk_un (by decide), q2, nI_1, cu_tt]
          exact h5
        · rw [if_neg q] at h5
          rw [if_neg (show ¬ nI v ≤ 9999 from nI_ge (a := 9999) (by omega) (by omega)), show (99999 : Int32) = nI 99999 from rfl, f_X6_next_230, cl_let, cu_tt, cl_let, cl_row_s, pk_un (by decide), q2, nI_1, cu_tt]
          exact h5
/-- a token, read by both -/
def lx_T (n : Nat) (R Q : Nat → Int32) : Prop :=
  R 1 = nI n ∧ Q 1 = nI n ∧ (∃ s e, s ≤ e ∧ e ≤ n ∧ R 4 = nI s ∧ Q 16 = nI s ∧ R 2 = nI e ∧ Q 14 = nI e) ∧
  ((R 3 = 0 ∧ Q 15 = 4) ∨ (R 3 = 1 ∧ Q 15 = 0) ∨ (R 3 = 2 ∧ Q 15 = 1 ∧ ∃ u v, lx_V u v ∧ R 5 = nI u ∧ Q 17 = nI v) ∨ (R 3 = 3 ∧ Q 15 = 2) ∨ (R 3 = 4 ∧ Q 15 = 3))
def lx_fC (R R' : Nat → Int32) : Prop := ∀ k, k ≠ 2 → k ≠ 3 → k ≠ 4 → k ≠ 5 → R' k = R k
def lx_fN (Q Q' : Nat → Int32) : Prop := ∀ k, k ≠ 14 → k ≠ 15 → k ≠ 16 → k ≠ 17 → Q' k = Q k
theorem lx_token (hB : lx_B n M N) {p : Nat} (hp : p ≤ n) {R Q : Nat → Int32} (r1 : R 1 = nI n) (q1 : Q 1 = nI n) (r2 : R 2 = nI p) (q2 : Q 14 = nI p) :
    ∃ R' Q', f_X3_advance_52 (cl_row M 1 R) 1 = some (cl_row M 1 R') ∧ f_X6_next_52 (cl_row N 237 Q) 237 = some (cl_row N 237 Q') ∧ lx_T n R' Q' ∧ lx_fC R R' ∧ lx_fN Q Q' := by
  have hB0 := hB
  obtain ⟨hn, hB⟩ := hB
  by_cases hpn : p < n
  · have hin : cl_inb (nI p) 700 = true := cu_inb (by omega) (by omega)
    have hne : ¬ nI p = nI n := fun z => by have := (nI_eq (show p < 2 ^ 31 by omega) (show n < 2 ^ 31 by omega)).mp z; omega
    by_cases hl : lx_let (N 238 p) = 0
    · by_cases hd : lx_dig (N 238 p) = 0
      · by_cases hs : N 238 p = 59
        · refine ⟨upd (upd (upd R 4 (nI p)) 3 3) 2 (nI (p + 1)), upd (upd (upd Q 16 (nI p)) 14 (nI (p + 1))) 15 2, ?_, ?_, ⟨?_, ?_, ⟨p, p + 1, by omega, by omega, ?_, ?_, ?_, ?_⟩, Or.inr (Or.inr (Or.inr (Or.inl ⟨?_, ?_⟩)))⟩, fun k h1 h2 h3 h4 => ?_, fun k h1 h2 h3 h4 => ?_⟩
          · rw [f_X3_advance_52, cl_let, cu_tt]
            simp only [cl_row_s]
            rw [pk_un (show 2 ≠ 4 by decide), pk_un (show 1 ≠ 4 by decide), r1, r2, if_pos (nI_lt hpn (by omega)), if_pos hin, nI_clamp (by omega), lx_r2, hB p hpn, lx_letC, Option.bind_some, if_pos hl, if_pos hin, lx_digC, Option.bind_some, if_pos hd, if_pos hin, if_pos hs, f_X3_advance_153, cl_let, cu_tt, cl_let, cl_row_s, pk_un (by decide), pk_un (by decide), r2, nI_1, cu_tt]
          · rw [f_X6_next_52, cl_let, cu_tt]
            simp only [cl_row_s]
            rw [pk_un (show 14 ≠ 16 by decide), pk_un (show 1 ≠ 16 by decide), q1, q2, if_neg hne, if_pos hin, nI_clamp (by omega), lx_q2, cl_let, cl_let, nI_1, cu_tt, lx_letN, Option.bind_some, if_pos hl, lx_digN, Option.bind_some, if_pos hd, if_pos hs, f_X6_next_258, cl_let, cu_tt]
          all_goals simp (disch := omega) only [cl_let, Option.bind_some, cl_b2, nI_add, pk_mul, nI_leI, nI_ltI, nI_eq, nI_clamp, cu_inb, if_pos, if_neg, eq_self, ite_true, ite_false, if_true, if_false, pk_us, pk_un, r1, q1]
        · refine ⟨upd (upd (upd R 4 (nI p)) 3 4) 2 (nI (p + 1)), upd (upd (upd Q 16 (nI p)) 14 (nI (p + 1))) 15 3, ?_, ?_, ⟨?_, ?_, ⟨p, p + 1, by omega, by omega, ?_, ?_, ?_, ?_⟩, Or.inr (Or.inr (Or.inr (Or.inr ⟨?_, ?_⟩)))⟩, fun k h1 h2 h3 h4 => ?_, fun k h1 h2 h3 h4 => ?_⟩
          · rw [f_X3_advance_52, cl_let, cu_tt]
            simp only [cl_row_s]
            rw [pk_un (show 2 ≠ 4 by decide), pk_un (show 1 ≠ 4 by decide), r1, r2, if_pos (nI_lt hpn (by omega)), if_pos hin, nI_clamp (by omega), lx_r2, hB p hpn, lx_letC, Option.bind_some, if_pos hl, if_pos hin, lx_digC, Option.bind_some, if_pos hd, if_pos hin, if_neg hs, f_X3_advance_153, cl_let, cu_tt, cl_let, cl_row_s, pk_un (by decide), pk_un (by decide), r2, nI_1, cu_tt]
          · rw [f_X6_next_52, cl_let, cu_tt]
            simp only [cl_row_s]
            rw [pk_un (show 14 ≠ 16 by decide), pk_un (show 1 ≠ 16 by decide), q1, q2, if_neg hne, if_pos hin, nI_clamp (by omega), lx_q2, cl_let, cl_let, nI_1, cu_tt, lx_letN, Option.bind_some, if_pos hl, lx_digN, Option.bind_some, if_pos hd, if_neg hs, f_X6_next_258, cl_let, cu_tt]
          all_goals simp (disch := omega) only [cl_let, Option.bind_some, cl_b2, nI_add, pk_mul, nI_leI, nI_ltI, nI_eq, nI_clamp, cu_inb, if_pos, if_neg, eq_self, ite_true, ite_false, if_true, if_false, pk_us, pk_un, r1, q1]
      · obtain ⟨d, hd9, ed⟩ := lx_dig_1 hd
        have e9 : nI (48 + d) - 48 = nI d := by
          rw [show (48 : Int32) = nI 48 from rfl, pk_sub (by omega)]
          congr 1
          omega
        obtain ⟨e, u', v', h1, h2, h3, h4, h5⟩ := lx_digits hB0 (n - (p + 1)) (p + 1) (by omega) 2047 cl_F (by omega) (by unfold cl_F; omega) (upd (upd (upd (upd R 4 (nI p)) 3 2) 5 (nI d)) 2 (nI (p + 1))) (upd (upd (upd (upd Q 16 (nI p)) 14 (nI (p + 1))) 15 1) 17 (nI d)) d d (by simp (disch := omega) only [cl_let, Option.bind_some, cl_b2, nI_add, pk_mul, nI_leI, nI_ltI, nI_eq, nI_clamp, cu_inb, if_pos, if_neg, eq_self, ite_true, ite_false, if_true, if_false, pk_un, r1]) (by simp (disch := omega) only [cl_let, Option.bind_some, cl_b2, nI_add, pk_mul, nI_leI, nI_ltI, nI_eq, nI_clamp, cu_inb, if_pos, if_neg, eq_self, ite_true, ite_false, if_true, if_false, pk_un, q1]) pk_us (by simp (disch := omega) only [cl_let, Option.bind_some, cl_b2, nI_add, pk_mul, nI_leI, nI_ltI, nI_eq, nI_clamp, cu_inb, if_pos, if_neg, eq_self, ite_true, ite_false, if_true, if_false, pk_us, pk_un]) (by simp (disch := omega) only [cl_let, Option.bind_some, cl_b2, nI_add, pk_mul, nI_leI, nI_ltI, nI_eq, nI_clamp, cu_inb, if_pos, if_neg, eq_self, ite_true, ite_false, if_true, if_false, pk_us, pk_un]) pk_us ⟨by omega, by omega, Or.inl rfl⟩
        refine ⟨upd (upd (upd (upd (upd (upd R 4 (nI p)) 3 2) 5 (nI d)) 2 (nI (p + 1))) 5 (nI u')) 2 (nI e), upd (upd (upd (upd (upd (upd Q 16 (nI p)) 14 (nI (p + 1))) 15 1) 17 (nI d)) 17 (nI v')) 14 (nI e), ?_, ?_, ⟨?_, ?_, ⟨p, e, by omega, h2, ?_, ?_, ?_, ?_⟩, Or.inr (Or.inr (Or.inl ⟨?_, ?_, u', v', h3, ?_, ?_⟩))⟩, fun k h1 h2 h3 h4 => ?_, fun k h1 h2 h3 h4 => ?_⟩
        · rw [f_X3_advance_52, cl_let, cu_tt]
          simp only [cl_row_s]
          rw [pk_un (show 2 ≠ 4 by decide), pk_un (show 1 ≠ 4 by decide), r1, r2, if_pos (nI_lt hpn (by omega)), if_pos hin, nI_clamp (by omega), lx_r2, hB p hpn, lx_letC, Option.bind_some, if_pos hl, if_pos hin, lx_digC, Option.bind_some, if_neg hd, cl_let, cu_tt, f_X3_passDigits, cl_let, cu_tt, show cl_F = 2047 + 1 from rfl, f_X3_passDigits_5, cl_row_s]
          have z1 : (upd (upd (upd R 4 (nI p)) 3 2) 5 0) 1 = nI n := by simp (disch := omega) only [cl_let, Option.bind_some, cl_b2, nI_add, pk_mul, nI_leI, nI_ltI, nI_eq, nI_clamp, cu_inb, if_pos, if_neg, eq_self, ite_true, ite_false, if_true, if_false, pk_un, r1]
          have z2 : (upd (upd (upd R 4 (nI p)) 3 2) 5 0) 2 = nI p := by simp (disch := omega) only [cl_let, Option.bind_some, cl_b2, nI_add, pk_mul, nI_leI, nI_ltI, nI_eq, nI_clamp, cu_inb, if_pos, if_neg, eq_self, ite_true, ite_false, if_true, if_false, pk_un, r2]
          have cu : (if 100000 < (0 : Int32) * 10 + (nI (48 + d) - 48) then (100000 : Int32) else 0 * 10 + (nI (48 + d) - 48)) = nI d := by
            rw [e9, show (0 : Int32) * 10 = 0 by decide, Int32.zero_add, if_neg (show ¬ (100000 : Int32) < nI d from nI_nlt (a := 100000) (by omega) (by omega))]
          rw [z1, z2, if_neg (nI_ge (by omega) (by omega)), if_pos hin, nI_clamp (by omega), lx_r2, hB p hpn, lx_digC, Option.bind_some, if_neg hd, if_pos hin, pk_us, ed, cu, cl_let, cu_tt, cl_let, cl_row_s, pk_un (by decide), z2, nI_1, cu_tt, fa_upd_twice, h4, Option.bind_some]
        · rw [f_X6_next_52, cl_let, cu_tt]
          simp only [cl_row_s]
          rw [pk_un (show 14 ≠ 16 by decide), pk_un (show 1 ≠ 16 by decide), q1, q2, if_neg hne, if_pos hin, nI_clamp (by omega), lx_q2, cl_let, cl_let, nI_1, cu_tt, lx_letN, Option.bind_some, if_pos hl, lx_digN, Option.bind_some, if_neg hd, cl_let, cu_tt, cl_let, ed, e9, cu_tt, h5]
        all_goals simp (disch := omega) only [cl_let, Option.bind_some, cl_b2, nI_add, pk_mul, nI_leI, nI_ltI, nI_eq, nI_clamp, cu_inb, if_pos, if_neg, eq_self, ite_true, ite_false, if_true, if_false, pk_us, pk_un, r1, q1]
    · obtain ⟨e, h1, h2, h3, h4⟩ := lx_letters hB0 (n - (p + 1)) (p + 1) (by omega) 2047 cl_F (by omega) (by unfold cl_F; omega) (upd (upd (upd R 4 (nI p)) 3 1) 2 (nI (p + 1))) (upd (upd (upd Q 16 (nI p)) 14 (nI (p + 1))) 15 0) (by simp (disch := omega) only [cl_let, Option.bind_some, cl_b2, nI_add, pk_mul, nI_leI, nI_ltI, nI_eq, nI_clamp, cu_inb, if_pos, if_neg, eq_self, ite_true, ite_false, if_true, if_false, pk_un, r1]) (by simp (disch := omega) only [cl_let, Option.bind_some, cl_b2, nI_add, pk_mul, nI_leI, nI_ltI, nI_eq, nI_clamp, cu_inb, if_pos, if_neg, eq_self, ite_true, ite_false, if_true, if_false, pk_un, q1]) pk_us (by simp (disch := omega) only [cl_let, Option.bind_some, cl_b2, nI_add, pk_mul, nI_leI, nI_ltI, nI_eq, nI_clamp, cu_inb, if_pos, if_neg, eq_self, ite_true, ite_false, if_true, if_false, pk_us, pk_un])
      refine ⟨upd (upd (upd (upd R 4 (nI p)) 3 1) 2 (nI (p + 1))) 2 (nI e), upd (upd (upd (upd Q 16 (nI p)) 14 (nI (p + 1))) 15 0) 14 (nI e), ?_, ?_, ⟨?_, ?_, ⟨p, e, by omega, h2, ?_, ?_, ?_, ?_⟩, Or.inr (Or.inl ⟨?_, ?_⟩)⟩, fun k h1 h2 h3 h4 => ?_, fun k h1 h2 h3 h4 => ?_⟩
      · rw [f_X3_advance_52, cl_let, cu_tt]
        simp only [cl_row_s]
        rw [pk_un (show 2 ≠ 4 by decide), pk_un (show 1 ≠ 4 by decide), r1, r2, if_pos (nI_lt hpn (by omega)), if_pos hin, nI_clamp (by omega), lx_r2, hB p hpn, lx_letC, Option.bind_some, if_neg hl, cl_let, cu_tt, f_X3_passLetters, show cl_F = 2047 + 1 from rfl, f_X3_passLetters_0, cl_row_s]
        have z1 : (upd (upd R 4 (nI p)) 3 1) 1 = nI n := by simp (disch := omega) only [cl_let, Option.bind_some, cl_b2, nI_add, pk_mul, nI_leI, nI_ltI, nI_eq, nI_clamp, cu_inb, if_pos, if_neg, eq_self, ite_true, ite_false, if_true, if_false, pk_un, r1]
        have z2 : (upd (upd R 4 (nI p)) 3 1) 2 = nI p := by simp (disch := omega) only [cl_let, Option.bind_some, cl_b2, nI_add, pk_mul, nI_leI, nI_ltI, nI_eq, nI_clamp, cu_inb, if_pos, if_neg, eq_self, ite_true, ite_false, if_true, if_false, pk_un, r2]
        rw [z1, z2, if_neg (nI_ge (by omega) (by omega)), if_pos hin, nI_clamp (by omega), lx_r2, hB p hpn, lx_letC, Option.bind_some, if_neg hl, cl_let, nI_1, cu_tt, h3, Option.bind_some]
      · rw [f_X6_next_52, cl_let, cu_tt]
        simp only [cl_row_s]
        rw [pk_un (show 14 ≠ 16 by decide), pk_un (show 1 ≠ 16 by decide), q1, q2, if_neg hne, if_pos hin, nI_clamp (by omega), lx_q2, cl_let, cl_let, nI_1, cu_tt, lx_letN, Option.bind_some, if_neg hl, cl_let, cu_tt, h4]
      all_goals simp (disch := omega) only [cl_let, Option.bind_some, cl_b2, nI_add, pk_mul, nI_leI, nI_ltI, nI_eq, nI_clamp, cu_inb, if_pos, if_neg, eq_self, ite_true, ite_false, if_true, if_false, pk_us, pk_un, r1, q1]
  · have hpn : p = n := by omega
    subst hpn
    refine ⟨upd (upd R 4 (nI p)) 3 0, upd (upd Q 16 (nI p)) 15 4, ?_, ?_, ⟨?_, ?_, ⟨p, p, by omega, by omega, ?_, ?_, ?_, ?_⟩, Or.inl ⟨?_, ?_⟩⟩, fun k h1 h2 h3 h4 => ?_, fun k h1 h2 h3 h4 => ?_⟩
    · rw [f_X3_advance_52, cl_let, cu_tt]
      simp only [cl_row_s]
      rw [pk_un (show 2 ≠ 4 by decide), pk_un (show 1 ≠ 4 by decide), r1, r2, if_neg (nI_nlt (Nat.le_refl _) (by omega)), cl_let, cu_tt]
    · rw [f_X6_next_52, cl_let, cu_tt]
      simp only [cl_row_s]
      rw [pk_un (show 14 ≠ 16 by decide), pk_un (show 1 ≠ 16 by decide), q1, q2, if_pos rfl, cl_let, cu_tt]
    all_goals simp (disch := omega) only [cl_let, Option.bind_some, cl_b2, nI_add, pk_mul, nI_leI, nI_ltI, nI_eq, nI_clamp, cu_inb, if_pos, if_neg, eq_self, ite_true, ite_false, if_true, if_false, pk_us, pk_un, r1, q1, r2, q2]
theorem lx_next (hB : lx_B n M N) {p : Nat} (hp : p ≤ n) {R Q : Nat → Int32} (r1 : R 1 = nI n) (q1 : Q 1 = nI n) (r2 : R 2 = nI p) (q2 : Q 14 = nI p) :
    ∃ R' Q', f_X3_advance (cl_row M 1 R) 1 = some (cl_row M 1 R') ∧ f_X6_next (cl_row N 237 Q) 237 = some (cl_row N 237 Q') ∧ lx_T n R' Q' ∧ lx_fC R R' ∧ lx_fN Q Q' := by
  have hB0 := hB
  obtain ⟨hn, hB⟩ := hB
  have H : ∀ j p, p + j = n → ∀ k1 k2, j < k1 → j < k2 → ∀ R Q : Nat → Int32, R 1 = nI n → Q 1 = nI n → R 2 = nI p → Q 14 = nI p →
      ∃ R' Q', f_X3_advance_0 k1 (cl_row M 1 R) 1 = some (cl_row M 1 R') ∧ f_X6_next_0 k2 (cl_row N 237 Q) 237 = some (cl_row N 237 Q') ∧ lx_T n R' Q' ∧ lx_fC R R' ∧ lx_fN Q Q' := by
    intro j
    induction j with
    | zero =>
      intro p hp k1 k2 hk1 hk2 R Q r1 q1 r2 q2
      obtain ⟨k1, rfl, hk1⟩ := cu_fuel hk1
      obtain ⟨k2, rfl, hk2⟩ := cu_fuel hk2
      have hp : p = n := by omega
      subst hp
      rw [f_X3_advance_0, f_X6_next_0, cl_row_s, cl_row_s, r1, r2, q1, q2, if_pos (nI_le (Nat.le_refl _) (by omega)), if_pos (nI_le (Nat.le_refl _) (by omega))]
      exact lx_token hB0 (Nat.le_refl _) r1 q1 r2 q2
    | succ j ih =>
      intro p hp k1 k2 hk1 hk2 R Q r1 q1 r2 q2
      obtain ⟨k1, rfl, hk1⟩ := cu_fuel hk1
      obtain ⟨k2, rfl, hk2⟩ := cu_fuel hk2
      have hstep : ∃ R' Q', f_X3_advance_39 (f_X3_advance_0 k1) (cl_row M 1 R) 1 = some (cl_row M 1 R') ∧ f_X6_next_39 (f_X6_next_0 k2) (cl_row N 237 Q) 237 = some (cl_row N 237 Q') ∧ lx_T n R' Q' ∧ lx_fC R R' ∧ lx_fN Q Q' := by
        obtain ⟨R', Q', h1, h2, h3, h4, h5⟩ := ih (p + 1) (by omega) k1 k2 (by omega) (by omega) (upd R 2 (nI (p + 1))) (upd Q 14 (nI (p + 1))) (by rw [pk_un (by decide), r1]) (by rw [pk_un (by decide), q1]) pk_us pk_us
        refine ⟨R', Q', ?_, ?_, h3, fun k a b c d => ?_, fun k a b c d => ?_⟩
        · rw [f_X3_advance_39, cl_row_s, r2, cl_let, nI_1, cu_tt]; exact h1
        · rw [f_X6_next_39, cl_row_s, q2, cl_let, nI_1, cu_tt]; exact h2
        · rw [h4 k a b c d, pk_un a]
        · rw [h5 k a b c d, pk_un a]
      have hin : cl_inb (nI p) 700 = true := cu_inb (by omega) (by omega)
      rw [f_X3_advance_0, f_X6_next_0, cl_row_s, cl_row_s, r1, r2, q1, q2, if_neg (nI_ge (by omega) (by omega)), if_neg (nI_ge (by omega) (by omega))]
      simp only [hin, eq_self, if_true]
      rw [nI_clamp (by omega), lx_r2, lx_q2, hB p (by omega)]
      by_cases h32 : N 238 p = 32
      · rw [if_pos h32, if_pos h32]; exact hstep
      · rw [if_neg h32, if_neg h32]
        by_cases h10 : N 238 p = 10
        · rw [if_pos h10, if_pos h10]; exact hstep
        · rw [if_neg h10, if_neg h10]; exact lx_token hB0 (by omega) r1 q1 r2 q2
  exact H (n - p) p (by omega) cl_F cl_F (by unfold cl_F; omega) (by unfold cl_F; omega) R Q r1 q1 r2 q2
end LX
