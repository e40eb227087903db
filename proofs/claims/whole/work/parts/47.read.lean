/-! reading words, numbers, ends: on both sides -/
/-- the same faults told -/
def tx_E (M N : cl_M) : Prop := M 1 8 = N 237 2 ∧ M 1 9 = N 237 3
/-- the token is read by both -/
def tx_K (n : Nat) (M N : cl_M) : Prop := lx_B n M N ∧ lx_T n (M 1) (N 237) ∧ tx_E M N
/-- the class is about to read the token that the reference holds -/
def tx_P (n : Nat) (M N : cl_M) : Prop := lx_B n M N ∧ (∀ M' : cl_M, M' 1 = M 1 → M' 2 = M 2 → ∃ R', f_X3_advance M' 1 = some (cl_row M' 1 R') ∧ lx_T n R' (N 237) ∧ lx_fC (M 1) R') ∧ tx_E M N
/-- what reading leaves alone -/
def tx_f (A : Nat → Bool) (M M' N N' : cl_M) : Prop :=
  (∀ x, x ≠ 1 → x ≠ 3 → M' x = M x) ∧ (∀ x, x ≠ 237 → x ≠ 245 → N' x = N x) ∧ (M' 1 6 = M 1 6 ∧ M' 1 1 = M 1 1) ∧
  (∀ j, A j = false → M' 3 j = M 3 j ∧ N' 245 j = N 245 j) ∧ (∀ k, k ≠ 2 → k ≠ 3 → (k < 14 ∨ 17 < k) → N' 237 k = N 237 k)
theorem tx_f_tr {A B C : Nat → Bool} {M M1 M2 N N1 N2 : cl_M} (h1 : tx_f A M M1 N N1) (h2 : tx_f B M1 M2 N1 N2) (hA : ∀ j, C j = false → A j = false ∧ B j = false) : tx_f C M M2 N N2 :=
  ⟨fun x a b => (h2.1 x a b).trans (h1.1 x a b), fun x a b => (h2.2.1 x a b).trans (h1.2.1 x a b), ⟨h2.2.2.1.1.trans h1.2.2.1.1, h2.2.2.1.2.trans h1.2.2.1.2⟩,
    fun j hj => ⟨(h2.2.2.2.1 j (hA j hj).2).1.trans (h1.2.2.2.1 j (hA j hj).1).1, (h2.2.2.2.1 j (hA j hj).2).2.trans (h1.2.2.2.1 j (hA j hj).1).2⟩, fun k a b c => (h2.2.2.2.2 k a b c).trans (h1.2.2.2.2 k a b c)⟩
theorem tx_f_0 {A : Nat → Bool} {M N : cl_M} : tx_f A M M N N := ⟨fun _ _ _ => rfl, fun _ _ _ => rfl, ⟨rfl, rfl⟩, fun _ _ => ⟨rfl, rfl⟩, fun _ _ _ _ => rfl⟩
def tx_no : Nat → Bool := fun _ => false
section TX
variable {M N : cl_M} {n : Nat}
theorem lx_B_cong {M' N' : cl_M} (hM : M' 2 = M 2) (hN : N' 238 = N 238) (h : lx_B n M N) : lx_B n M' N' := ⟨h.1, fun j hj => by rw [hM, hN]; exact h.2 j hj⟩
theorem tx_adv (h : tx_P n M N) : ∃ M1, f_X3_advance M 1 = some M1 ∧ tx_K n M1 N ∧ tx_f tx_no M M1 N N := by
  obtain ⟨hB, hA, h8, h9⟩ := h
  obtain ⟨R', e, hT, hf⟩ := hA M rfl rfl
  refine ⟨_, e, ⟨lx_B_cong (cl_row_n (by decide)) rfl hB, by rw [cl_row_s]; exact hT, by rw [cl_row_s, hf 8 (by decide) (by decide) (by decide) (by decide)]; exact h8, by rw [cl_row_s, hf 9 (by decide) (by decide) (by decide) (by decide)]; exact h9⟩, fun x a b => cl_row_n a, fun _ _ _ => rfl, ⟨by rw [cl_row_s, hf 6 (by decide) (by decide) (by decide) (by decide)], by rw [cl_row_s, hf 1 (by decide) (by decide) (by decide) (by decide)]⟩, fun j _ => ⟨by rw [cl_row_n (show 3 ≠ 1 by decide)], rfl⟩, fun _ _ _ _ => rfl⟩
theorem tx_nxt (h : tx_K n M N) : ∃ N1, f_X6_next N 237 = some N1 ∧ tx_P n M N1 ∧ tx_f tx_no M M N N1 := by
  obtain ⟨hB, ⟨r1, q1, ⟨s, e, h1, h2, r4, q16, r2, q14⟩, -⟩, h8, h9⟩ := h
  obtain ⟨R', Q', z1, z2, z3, z4, z5⟩ := lx_next (M := M) (N := N) hB h2 r1 q1 r2 q14
  rw [cu_rself] at z1 z2
  have hall : ∀ M' : cl_M, M' 1 = M 1 → M' 2 = M 2 → ∃ R', f_X3_advance M' 1 = some (cl_row M' 1 R') ∧ lx_T n R' Q' ∧ lx_fC (M 1) R' := fun M' e1 e2 => by
    obtain ⟨R2, Q2, y1, y2, y3, y4, -⟩ := lx_next (M := M') (N := N) (lx_B_cong e2 rfl hB) h2 r1 q1 r2 q14
    rw [cu_rself] at y2
    rw [← e1, cu_rself] at y1
    have hQ : Q2 = Q' := by
      have := congrFun (Option.some.inj (y2.symm.trans z2)) 237
      rwa [cl_row_s, cl_row_s] at this
    rw [hQ] at y3
    exact ⟨R2, y1, y3, y4⟩
  refine ⟨_, z2, ⟨lx_B_cong rfl (cl_row_n (by decide)) hB, fun M' e1 e2 => by rw [cl_row_s]; exact hall M' e1 e2, ?_, ?_⟩, fun _ _ _ => rfl, fun x a b => cl_row_n a, ⟨rfl, rfl⟩, fun j _ => ⟨rfl, by rw [cl_row_n (show 245 ≠ 237 by decide)]⟩, fun k a b c => by rw [cl_row_s, z5 k (by omega) (by omega) (by omega) (by omega)]⟩
  · rw [cl_row_s, z5 2 (by decide) (by decide) (by decide) (by decide)]; exact h8
  · rw [cl_row_s, z5 3 (by decide) (by decide) (by decide) (by decide)]; exact h9
theorem tx_P_cong {M' N' : cl_M} (h : tx_P n M N) (h1 : M' 1 = M 1) (h2 : M' 2 = M 2) (h3 : N' 237 = N 237) (h4 : N' 238 = N 238) : tx_P n M' N' := by
  obtain ⟨hB, hA, h8, h9⟩ := h
  refine ⟨lx_B_cong h2 h4 hB, fun M'' e1 e2 => ?_, by rw [h1, h3]; exact h8, by rw [h1, h3]; exact h9⟩
  rw [h1, h3]
  exact hA M'' (e1.trans h1) (e2.trans h2)
/-- a fault told by both -/
theorem tx_fail (h : tx_K n M N) (c : Int32) : ∃ M' N', f_X3_fail M 1 c = some (0, M') ∧ f_X6_wrong N 237 c = some (0, N') ∧ tx_E M' N' ∧ tx_f tx_no M M' N N' := by
  obtain ⟨hB, ⟨r1, q1, ⟨s, e, h1, h2, r4, q16, r2, q14⟩, -⟩, h8, h9⟩ := h
  have e1 : cl_ms (cl_ms M 1 8 c) 1 9 ((cl_ms M 1 8 c) 1 4) = cl_row M 1 (upd (upd (M 1) 8 c) 9 (M 1 4)) := by
    conv => lhs; rw [ac_cell M 1]
    simp (disch := omega) only [cl_let, Option.bind_some, cl_b2, nI_add, pk_mul, nI_leI, nI_ltI, nI_eq, nI_clamp, cu_inb, if_pos, if_neg, eq_self, ite_true, ite_false, if_true, if_false, cu_tt, cl_row_s, pk_un]
  have e2 : cl_ms (cl_ms N 237 2 c) 237 3 ((cl_ms N 237 2 c) 237 16) = cl_row N 237 (upd (upd (N 237) 2 c) 3 (N 237 16)) := by
    conv => lhs; rw [ac_cell N 237]
    simp (disch := omega) only [cl_let, Option.bind_some, cl_b2, nI_add, pk_mul, nI_leI, nI_ltI, nI_eq, nI_clamp, cu_inb, if_pos, if_neg, eq_self, ite_true, ite_false, if_true, if_false, cu_tt, cl_row_s, pk_un]
  refine ⟨cl_row M 1 (upd (upd (M 1) 8 c) 9 (M 1 4)), cl_row N 237 (upd (upd (N 237) 2 c) 3 (N 237 16)), ?_, ?_, ⟨?_, ?_⟩, fun x a b => cl_row_n a, fun x a b => cl_row_n a, ⟨?_, ?_⟩, fun j _ => ⟨?_, ?_⟩, fun k a b c => ?_⟩
  · rw [f_X3_fail, cl_let, cl_let, e1]
  · rw [f_X6_wrong, cl_let, cl_let, e2]
  · simp (disch := omega) only [cl_let, Option.bind_some, cl_b2, nI_add, pk_mul, nI_leI, nI_ltI, nI_eq, nI_clamp, cu_inb, if_pos, if_neg, eq_self, ite_true, ite_false, if_true, if_false, cl_row_s, pk_us, pk_un]
  · simp (disch := omega) only [cl_let, Option.bind_some, cl_b2, nI_add, pk_mul, nI_leI, nI_ltI, nI_eq, nI_clamp, cu_inb, if_pos, if_neg, eq_self, ite_true, ite_false, if_true, if_false, cl_row_s, pk_us, pk_un, r4, q16]
  · simp (disch := omega) only [cl_let, Option.bind_some, cl_b2, nI_add, pk_mul, nI_leI, nI_ltI, nI_eq, nI_clamp, cu_inb, if_pos, if_neg, eq_self, ite_true, ite_false, if_true, if_false, cl_row_s, pk_un]
  · simp (disch := omega) only [cl_let, Option.bind_some, cl_b2, nI_add, pk_mul, nI_leI, nI_ltI, nI_eq, nI_clamp, cu_inb, if_pos, if_neg, eq_self, ite_true, ite_false, if_true, if_false, cl_row_s, pk_un]
  · rw [cl_row_n (by decide)]
  · rw [cl_row_n (by decide)]
  · simp (disch := omega) only [cl_let, Option.bind_some, cl_b2, nI_add, pk_mul, nI_leI, nI_ltI, nI_eq, nI_clamp, cu_inb, if_pos, if_neg, eq_self, ite_true, ite_false, if_true, if_false, cl_row_s, pk_un]
/-- two texts that are one -/
def tx_s (i i' : Nat) : Prop := cl_byt.getD i [] = cl_byt.getD i' [] ∧ cl_sl i ≤ 20
theorem tx_word (h : tx_K n M N) {i i' : Nat} (hs : tx_s i i') : ∃ b, (b = 0 ∨ b = 1) ∧ f_X3_tokenIs M 1 i = some b ∧ f_X6_isWord N 237 i' = some b := by
  obtain ⟨⟨hn, hB⟩, ⟨r1, q1, ⟨s, e, h1, h2, r4, q16, r2, q14⟩, hk⟩, h8, h9⟩ := h
  have hl : cl_sl i' = cl_sl i := by unfold cl_sl; rw [hs.1]
  have hc : ∀ k, cl_ch i' k = cl_ch i k := fun k => by unfold cl_ch; rw [hs.1]
  have hl20 := hs.2
  have z1 : cl_bz 1 = true := by decide
  have z0 : cl_bz 0 = true := by decide
  have hk2 : (M 1 3 = 1 ∧ N 237 15 = 0) ∨ (¬ M 1 3 = 1 ∧ ¬ N 237 15 = 0) := by
    rcases hk with ⟨a, b⟩ | ⟨a, b⟩ | ⟨a, b, -⟩ | ⟨a, b⟩ | ⟨a, b⟩
    · right; rw [a, b]; decide
    · left; exact ⟨a, b⟩
    · right; rw [a, b]; decide
    · right; rw [a, b]; decide
    · right; rw [a, b]; decide
  rw [f_X3_tokenIs, f_X6_isWord, r2, r4, q14, q16, hl, pk_sub h1]
  rcases hk2 with ⟨a, b⟩ | ⟨a, b⟩
  · rw [if_pos a, if_pos b]
    by_cases hlen : e - s = cl_sl i
    · rw [if_pos (by rw [hlen]), if_pos (by rw [hlen])]
      have L0 : ∀ j q, q + j = cl_sl i → ∀ k, j < k → ∀ c, c < q → f_X6_isWord_29 k N 237 i' (nI c) (nI q) = some 0 := by
        intro j
        induction j with
        | zero =>
          intro q hq k hk c hcq
          obtain ⟨k, rfl, hk⟩ := cu_fuel hk
          have hq : q = cl_sl i := by omega
          rw [f_X6_isWord_29, hl, if_pos (nI_le (by omega) (by omega)), if_neg (fun z => by have := (nI_eq (show c < 2 ^ 31 by omega) (show cl_sl i < 2 ^ 31 by omega)).mp z; omega), f_X6_isWord_86, if_pos z0]
        | succ j ih =>
          intro q hq k hk c hcq
          obtain ⟨k, rfl, hk⟩ := cu_fuel hk
          rw [f_X6_isWord_29, hl, q16, if_neg (nI_ge (by omega) (by omega)), nI_add, if_pos (cu_inb (by omega) (by omega)), if_pos (cu_inb (by omega) (by omega))]
          split
          · rw [f_X6_isWord_62, show f_X6_flag N 1 = some 1 from rfl, Option.bind_some, cl_let, cl_let, nI_1, nI_1]
            exact ih (q + 1) (by omega) k (by omega) (c + 1) (by omega)
          · rw [f_X6_isWord_62, show f_X6_flag N 0 = some 0 from rfl, Option.bind_some, cl_let, cl_let, nI_1, Int32.add_zero]
            exact ih (q + 1) (by omega) k (by omega) c (by omega)
      have L1 : ∀ j q, q + j = cl_sl i → ∀ k1 k2, j < k1 → j < k2 → ∃ b, (b = 0 ∨ b = 1) ∧ f_X3_tokenIs_28 k1 M 1 i (nI q) = some b ∧ f_X6_isWord_29 k2 N 237 i' (nI q) (nI q) = some b := by
        intro j
        induction j with
        | zero =>
          intro q hq k1 k2 hk1 hk2
          obtain ⟨k1, rfl, hk1⟩ := cu_fuel hk1
          obtain ⟨k2, rfl, hk2⟩ := cu_fuel hk2
          have hq : q = cl_sl i := by omega
          refine ⟨1, Or.inr rfl, ?_, ?_⟩
          · rw [f_X3_tokenIs_28, if_pos (nI_le (by omega) (by omega))]
          · rw [f_X6_isWord_29, hl, if_pos (nI_le (by omega) (by omega)), if_pos (by rw [hq]), f_X6_isWord_86, if_pos z1]
        | succ j ih =>
          intro q hq k1 k2 hk1 hk2
          obtain ⟨k1, rfl, hk1⟩ := cu_fuel hk1
          obtain ⟨k2, rfl, hk2⟩ := cu_fuel hk2
          have i1 : cl_inb (nI (s + q)) 700 = true := cu_inb (by omega) (by omega)
          have i2 : cl_inb (nI q) (cl_sl i) = true := cu_inb (by omega) (by omega)
          rw [f_X3_tokenIs_28, f_X6_isWord_29, hl, q16, r4, if_neg (nI_ge (by omega) (by omega)), if_neg (nI_ge (by omega) (by omega)), nI_add]
          simp only [i1, i2, eq_self, if_true]
          rw [nI_clamp (n := s + q) (by omega), nI_clamp (n := q) (by omega), hc, show M (1 + 1) (s + q) = N 238 (s + q) from hB _ (by omega)]
          show ∃ b, _ ∧ _ ∧ (if N 238 (s + q) = cl_ch i q then _ else _) = some b
          by_cases hx : N 238 (s + q) = cl_ch i q
          · rw [if_pos hx, if_pos hx, f_X6_isWord_62, show f_X6_flag N 1 = some 1 from rfl, Option.bind_some, cl_let, cl_let, cl_let, nI_1]
            exact ih (q + 1) (by omega) k1 k2 (by omega) (by omega)
          · rw [if_neg hx, if_neg hx, f_X6_isWord_62, show f_X6_flag N 0 = some 0 from rfl, Option.bind_some, cl_let, cl_let, nI_1, Int32.add_zero]
            exact ⟨0, Or.inl rfl, rfl, L0 j (q + 1) (by omega) k2 (by omega) q (by omega)⟩
      exact L1 (cl_sl i) 0 (by omega) cl_F cl_F (by unfold cl_F; omega) (by unfold cl_F; omega)
    · have hne : ¬ nI (e - s) = nI (cl_sl i) := fun z => hlen ((nI_eq (by omega) (by omega)).mp z)
      rw [if_neg hne, if_neg hne]
      exact ⟨0, Or.inl rfl, rfl, rfl⟩
  · rw [if_neg a, if_neg b]
    exact ⟨0, Or.inl rfl, rfl, rfl⟩
/-- a word that must stand there -/
theorem tx_expect (h : tx_P n M N) {i i' : Nat} (hs : tx_s i i') :
    (∃ M' N', f_X3_readWord M 1 i = some (0, M') ∧ f_X6_expects N 237 i' = some (0, N') ∧ tx_E M' N' ∧ tx_f tx_no M M' N N') ∨
    ∃ M' N', f_X3_readWord M 1 i = some (1, M') ∧ f_X6_expects N 237 i' = some (1, N') ∧ tx_P n M' N' ∧ tx_f tx_no M M' N N' := by
  obtain ⟨M1, e1, hK, f1⟩ := tx_adv h
  obtain ⟨b, hb, w1, w2⟩ := tx_word hK hs
  have z1 : cl_bz 1 = true := by decide
  have z0 : cl_bz 0 = true := by decide
  rw [f_X3_readWord, e1, Option.bind_some, w1, Option.bind_some, f_X6_expects, w2, Option.bind_some]
  rcases hb with rfl | rfl
  · left
    obtain ⟨M2, N2, e2, e3, hE, f2⟩ := tx_fail hK 1
    refine ⟨M2, N2, ?_, ?_, hE, tx_f_tr f1 f2 (fun _ _ => ⟨rfl, rfl⟩)⟩
    · rw [if_pos rfl, e2, cu_b2, if_pos rfl, f_X3_readWord_25, if_pos z0]
    · rw [if_pos rfl, e3, cu_b2, if_pos z0]
  · right
    obtain ⟨N2, e2, hP, f2⟩ := tx_nxt hK
    refine ⟨M1, N2, ?_, ?_, hP, tx_f_tr f1 f2 (fun _ _ => ⟨rfl, rfl⟩)⟩
    · rw [if_neg (by decide), f_X3_readWord_20, f_X3_readWord_25, if_pos z1]
    · rw [if_neg (by decide), e2, Option.bind_some]
/-- a semicolon that must stand there: read by the class, held by the reference -/
theorem tx_end (h : tx_P n M N) :
    (∃ M' N', f_X3_readSemicolon M 1 = some (0, M') ∧ f_X6_isEnd N 237 = some (0, N') ∧ tx_E M' N' ∧ tx_f tx_no M M' N N') ∨
    ∃ M', f_X3_readSemicolon M 1 = some (1, M') ∧ f_X6_isEnd N 237 = some (1, N) ∧ N 237 15 = 2 ∧ tx_K n M' N ∧ tx_f tx_no M M' N N := by
  obtain ⟨M1, e1, hK, f1⟩ := tx_adv h
  have z1 : cl_bz 1 = true := by decide
  have z0 : cl_bz 0 = true := by decide
  rw [f_X3_readSemicolon, e1, Option.bind_some, f_X6_isEnd]
  have hk : (M1 1 3 = 3 ∧ N 237 15 = 2) ∨ (¬ M1 1 3 = 3 ∧ ¬ N 237 15 = 2) := by
    rcases hK.2.1.2.2.2 with ⟨a, b⟩ | ⟨a, b⟩ | ⟨a, b, -⟩ | ⟨a, b⟩ | ⟨a, b⟩
    · right; rw [a, b]; decide
    · right; rw [a, b]; decide
    · right; rw [a, b]; decide
    · left; exact ⟨a, b⟩
    · right; rw [a, b]; decide
  rcases hk with ⟨a, b⟩ | ⟨a, b⟩
  · right
    refine ⟨M1, ?_, ?_, b, hK, f1⟩
    · rw [if_pos a, f_X3_readSemicolon_20, f_X3_readSemicolon_25, if_pos z1]
    · rw [if_pos b, f_X6_isEnd_16, f_X6_isEnd_21, if_pos z1]
  · left
    obtain ⟨M2, N2, e2, e3, hE, f2⟩ := tx_fail hK 1
    refine ⟨M2, N2, ?_, ?_, hE, tx_f_tr f1 f2 (fun _ _ => ⟨rfl, rfl⟩)⟩
    · rw [if_neg a, e2, cu_b2, if_pos rfl, f_X3_readSemicolon_25, if_pos z0]
    · rw [if_neg b, e3, cu_b2, if_pos rfl, f_X6_isEnd_21, if_pos z0]
theorem tx_semi (h : tx_P n M N) :
    (∃ M' N', f_X3_readSemicolon M 1 = some (0, M') ∧ f_X6_semicolon N 237 = some (0, N') ∧ tx_E M' N' ∧ tx_f tx_no M M' N N') ∨
    ∃ M' N', f_X3_readSemicolon M 1 = some (1, M') ∧ f_X6_semicolon N 237 = some (1, N') ∧ tx_P n M' N' ∧ tx_f tx_no M M' N N' := by
  rcases tx_end h with ⟨M1, N1, e1, e2, hE, f1⟩ | ⟨M1, e1, e2, -, hK, f1⟩
  · left
    refine ⟨M1, N1, e1, ?_, hE, f1⟩
    rw [f_X6_semicolon, e2, cu_b2, if_pos rfl]
  · right
    obtain ⟨N2, e3, hP, f2⟩ := tx_nxt hK
    refine ⟨M1, N2, e1, ?_, hP, tx_f_tr f1 f2 (fun _ _ => ⟨rfl, rfl⟩)⟩
    rw [f_X6_semicolon, e2, cu_b2, if_neg (by decide), e3, Option.bind_some]
/-- the number that both have read, against its bounds -/
theorem tx_val {u v l : Nat} {hi : Int32} (hV : lx_V u v) (hl : l ≤ 9999) (hh : hi ≤ 9999) :
    (nI u < nI l ∧ nI v < nI l) ∨ (¬ nI u < nI l ∧ ¬ nI v < nI l ∧ ¬ nI u ≤ hi ∧ hi < nI v) ∨ (¬ nI u < nI l ∧ nI u ≤ hi ∧ ¬ hi < nI v ∧ u = v ∧ l ≤ u ∧ u ≤ 9999) := by
  obtain ⟨h1, h2, h3⟩ := hV
  have eh : hi.toInt ≤ 9999 := by
    have := fa_le hi 9999 |>.mp hh
    rw [show (9999 : Int32).toInt = 9999 by decide] at this
    exact this
  have eu : (nI u).toInt = u := nI_toInt (by omega)
  have ev : (nI v).toInt = v := nI_toInt (by omega)
  have el : (nI l).toInt = l := nI_toInt (by omega)
  simp only [fa_lt, fa_le, eu, ev, el]
  omega
/-- a number between bounds that must stand there -/
theorem tx_num (h : tx_P n M N) {a lo hi : Int32} {k l : Nat} (ha : a = nI k) (hk : k < 4) (hlo : lo = nI l) (hl : l ≤ 9999) (hh : hi ≤ 9999) :
    (∃ M' N', f_X3_readNumber M 1 a lo hi = some (0, M') ∧ f_X6_into N 237 a lo hi = some (0, N') ∧ tx_E M' N' ∧ tx_f tx_no M M' N N') ∨
    ∃ M' N' v, f_X3_readNumber M 1 a lo hi = some (1, M') ∧ f_X6_into N 237 a lo hi = some (1, N') ∧ (l ≤ v ∧ v ≤ 9999 ∧ nI v ≤ hi ∧ M' 3 k = nI v ∧ N' 245 k = nI v) ∧ tx_P n M' N' ∧ tx_f (fun j => j == k) M M' N N' := by
  subst ha hlo
  obtain ⟨M1, e1, hK, f1⟩ := tx_adv h
  have z1 : cl_bz 1 = true := by decide
  have z0 : cl_bz 0 = true := by decide
  rw [f_X3_readNumber, e1, Option.bind_some, f_X6_into, f_X6_numberIn]
  have hfail : ∀ c, ∃ M2 N2, f_X3_fail M1 1 c = some (0, M2) ∧ f_X6_wrong N 237 c = some (0, N2) ∧ tx_E M2 N2 ∧ tx_f tx_no M M2 N N2 := fun c => by
    obtain ⟨M2, N2, e2, e3, hE, f2⟩ := tx_fail hK c
    exact ⟨M2, N2, e2, e3, hE, tx_f_tr f1 f2 (fun _ _ => ⟨rfl, rfl⟩)⟩
  have hk2 : (M1 1 3 = 2 ∧ N 237 15 = 1 ∧ ∃ u v, lx_V u v ∧ M1 1 5 = nI u ∧ N 237 17 = nI v) ∨ (¬ M1 1 3 = 2 ∧ ¬ N 237 15 = 1) := by
    rcases hK.2.1.2.2.2 with ⟨a, b⟩ | ⟨a, b⟩ | ⟨a, b, c⟩ | ⟨a, b⟩ | ⟨a, b⟩
    · right; rw [a, b]; decide
    · right; rw [a, b]; decide
    · left; exact ⟨a, b, c⟩
    · right; rw [a, b]; decide
    · right; rw [a, b]; decide
  rcases hk2 with ⟨a, b, u, v, hV, r5, q17⟩ | ⟨a, b⟩
  · rw [if_pos a, if_pos b, r5, q17, f_X6_inRange]
    rcases tx_val hV hl hh with ⟨y1, y2⟩ | ⟨y1, y2, y3, y4⟩ | ⟨y1, y2, y3, y4, y5, y6⟩
    · left
      obtain ⟨M2, N2, e2, e3, hE, f2⟩ := hfail 2
      refine ⟨M2, N2, ?_, ?_, hE, f2⟩
      · rw [if_pos y1, f_X3_readNumber_34, e2, cu_b2, if_pos z0]
      · rw [if_pos y2, f_X6_inRange_15, if_pos z0, Option.bind_some, if_pos rfl, e3, cu_b2, if_pos rfl, f_X6_numberIn_39, if_pos z0, cu_b2, if_pos rfl]
    · left
      obtain ⟨M2, N2, e2, e3, hE, f2⟩ := hfail 2
      refine ⟨M2, N2, ?_, ?_, hE, f2⟩
      · rw [if_neg y1, if_neg y3, f_X3_readNumber_34, e2, cu_b2, if_pos z0]
      · rw [if_neg y2, if_pos y4, f_X6_inRange_15, if_pos z0, Option.bind_some, if_pos rfl, e3, cu_b2, if_pos rfl, f_X6_numberIn_39, if_pos z0, cu_b2, if_pos rfl]
    · right
      subst y4
      have hK2 : tx_K n (cl_ms M1 3 k (nI u)) (cl_ms N 245 k (nI u)) := by
        obtain ⟨hB, hT, h8, h9⟩ := hK
        refine ⟨lx_B_cong (cl_row_n (by decide)) (cl_row_n (by decide)) hB, ?_, ?_, ?_⟩
        · rw [cp_ms (show 1 ≠ 3 by decide), cp_ms (show 237 ≠ 245 by decide)]; exact hT
        · rw [cp_ms (show 1 ≠ 3 by decide), cp_ms (show 237 ≠ 245 by decide)]; exact h8
        · rw [cp_ms (show 1 ≠ 3 by decide), cp_ms (show 237 ≠ 245 by decide)]; exact h9
      obtain ⟨N2, e3, hP, f3⟩ := tx_nxt hK2
      have hfk : tx_f (fun j => j == k) M1 (cl_ms M1 3 k (nI u)) N (cl_ms N 245 k (nI u)) := by
        refine ⟨fun x a b => cl_row_n b, fun x a b => cl_row_n b, ⟨by rw [cp_ms (show 1 ≠ 3 by decide)], by rw [cp_ms (show 1 ≠ 3 by decide)]⟩, fun j hj => ?_, fun q a b c => by rw [cp_ms (show 237 ≠ 245 by decide)]⟩
        have hjk : j ≠ k := by simpa using hj
        exact ⟨by rw [cl_ms, cl_row_s, pk_un hjk], by rw [cl_ms, cl_row_s, pk_un hjk]⟩
      have hall := tx_f_tr (C := fun j => j == k) f1 (tx_f_tr (C := fun j => j == k) hfk f3 (fun j hj => ⟨hj, rfl⟩)) (fun j hj => ⟨rfl, hj⟩)
      refine ⟨_, N2, u, ?_, ?_, ⟨y5, y6, y2, ?_, ?_⟩, hP, hall⟩
      · rw [if_neg y1, if_pos y2, if_pos (cu_inb (by omega) (by omega)), nI_clamp (by omega), cl_let]
      · rw [if_neg y1, if_neg y3, f_X6_inRange_15, if_pos z1, Option.bind_some, if_neg (by decide), f_X6_numberIn_34, f_X6_numberIn_39, if_pos z1, cu_b2, if_neg (by decide), if_pos (cu_inb (by omega) (by omega)), nI_clamp (by omega), cl_let, q17]
        show (f_X6_next (cl_ms N 245 k (nI u)) 237).bind _ = _
        rw [e3, Option.bind_some]
      · rw [cl_ms, cl_row_s, pk_us]
      · rw [f3.2.2.2.1 k rfl |>.2, cl_ms, cl_row_s, pk_us]
  · left
    obtain ⟨M2, N2, e2, e3, hE, f2⟩ := hfail 1
    refine ⟨M2, N2, ?_, ?_, hE, f2⟩
    · rw [if_neg a, e2, cu_b2, if_pos z0]
    · rw [if_neg b, e3, cu_b2, if_pos z0, cu_b2, if_pos rfl]
end TX
