/-! copies of rows, weathers, garments, lines -/
theorem cp_start (N : cl_M) : f_X6_startTrial N 237 = some (cl_row N 241 (fa_fill (N 239) (N 241) 149)) := by
  have H : ∀ j i, i + j = 149 → ∀ k, j < k → f_X6_startTrial_2 k (cl_row N 241 (fa_fill (N 239) (N 241) i)) 237 (nI i) = some (cl_row N 241 (fa_fill (N 239) (N 241) 149)) := by
    intro j
    induction j with
    | zero =>
      intro i hi k hk
      obtain ⟨k, rfl, hk⟩ := cu_fuel hk
      have hi : i = 149 := by omega
      subst hi
      rw [f_X6_startTrial_2, if_pos (by decide)]
    | succ j ih =>
      intro i hi k hk
      obtain ⟨k, rfl, hk⟩ := cu_fuel hk
      have ih := ih (i + 1) (by omega) k (by omega)
      rw [f_X6_startTrial_2, if_neg (show ¬ (149 : Int32) ≤ nI i from nI_ge (b := 149) (by omega) (by omega)), if_pos (cu_inb (by omega) (by omega)), if_pos (cu_inb (by omega) (by omega)), nI_clamp (by omega), cl_let, cl_let, nI_1]
      rw [show 237 + 4 = 241 from rfl, show 237 + 2 = 239 from rfl, cu_tt, cl_row_n (show 239 ≠ 241 by decide), fa_fill_succ]
      exact ih
  have := H 149 0 rfl cl_F (by decide)
  rw [fa_fill_0, cu_rself] at this
  exact this
theorem cp_back (N : cl_M) (v : Int32) : f_X6_putBack N 237 v = some (v, cl_row N 239 (fa_fill (N 241) (N 239) 149)) := by
  have H : ∀ j i, i + j = 149 → ∀ k, j < k → f_X6_putBack_2 k (cl_row N 239 (fa_fill (N 241) (N 239) i)) 237 v (nI i) = some (v, cl_row N 239 (fa_fill (N 241) (N 239) 149)) := by
    intro j
    induction j with
    | zero =>
      intro i hi k hk
      obtain ⟨k, rfl, hk⟩ := cu_fuel hk
      have hi : i = 149 := by omega
      subst hi
      rw [f_X6_putBack_2, if_pos (by decide)]
    | succ j ih =>
      intro i hi k hk
      obtain ⟨k, rfl, hk⟩ := cu_fuel hk
      have ih := ih (i + 1) (by omega) k (by omega)
      rw [f_X6_putBack_2, if_neg (show ¬ (149 : Int32) ≤ nI i from nI_ge (b := 149) (by omega) (by omega)), if_pos (cu_inb (by omega) (by omega)), if_pos (cu_inb (by omega) (by omega)), nI_clamp (by omega), cl_let, cl_let, nI_1]
      rw [show 237 + 4 = 241 from rfl, show 237 + 2 = 239 from rfl, cu_tt, cl_row_n (show 241 ≠ 239 by decide), fa_fill_succ]
      exact ih
  have := H 149 0 rfl cl_F (by decide)
  rw [fa_fill_0, cu_rself] at this
  exact this
/-- cells that a copy may touch -/
theorem cp_ms {M : cl_M} {t j : Nat} {v : Int32} {x : Nat} (h : x ≠ t) : cl_ms M t j v x = M x := cl_row_n h
theorem cp_cpy {M : cl_M} {a b n x : Nat} (h : x ≠ b) : cl_cpy M a b n x = M x := cl_row_n h
theorem cp_cpyi {M : cl_M} {a b n j : Nat} (h : j < n) : cl_cpy M a b n b j = M a j := by rw [cl_cpy, cl_row_s, if_pos h]
/-- a weather copied -/
theorem cp_weather {M : cl_M} {t s : Nat} {w : Nat → Int32} (F : cw_F w) (C : cw_C M s w) (h : s + 7 ≤ t ∨ t + 7 ≤ s) : ∃ M', f_X4_copyFrom M t s = some M' ∧ cw_C M' t w ∧ ∀ x, x < t ∨ t + 7 ≤ x → M' x = M x := by
  obtain ⟨⟨sw, hs, e1⟩, ⟨c4, q1, q8, e4, h4⟩, ⟨c5, q5, e5, h5⟩, ⟨c6, q6, e6, h6⟩⟩ := F
  obtain ⟨k0, k2, k6, k9, k11, k19, k31⟩ := C
  rw [e4, cN_nI (by omega)] at k11
  rw [e5, cN_nI (by omega)] at k19
  rw [e6, cN_nI (by omega)] at k31
  refine ⟨_, rfl, ⟨?_, ?_, ?_, ?_, ?_, ?_, ?_⟩, fun x hx => ?_⟩
  · simp (disch := omega) only [cl_let, Option.bind_some, cl_b2, nI_add, pk_mul, nI_leI, nI_ltI, nI_eq, nI_clamp, cu_inb, if_pos, if_neg, eq_self, ite_true, ite_false, if_true, if_false, cp_cpy, cl_ms, cl_row_s, cl_row_n, pk_us, pk_un, k0]
  · simp (disch := omega) only [cl_let, Option.bind_some, cl_b2, nI_add, pk_mul, nI_leI, nI_ltI, nI_eq, nI_clamp, cu_inb, if_pos, if_neg, eq_self, ite_true, ite_false, if_true, if_false, cp_cpy, cl_ms, cl_row_s, cl_row_n, pk_us, pk_un, k2]
  · simp (disch := omega) only [cl_let, Option.bind_some, cl_b2, nI_add, pk_mul, nI_leI, nI_ltI, nI_eq, nI_clamp, cu_inb, if_pos, if_neg, eq_self, ite_true, ite_false, if_true, if_false, cp_cpy, cl_ms, cl_row_s, cl_row_n, pk_us, pk_un, k6]
  · simp (disch := omega) only [cl_let, Option.bind_some, cl_b2, nI_add, pk_mul, nI_leI, nI_ltI, nI_eq, nI_clamp, cu_inb, if_pos, if_neg, eq_self, ite_true, ite_false, if_true, if_false, cp_cpy, cl_ms, cl_row_s, cl_row_n, pk_us, pk_un, k9]
  · intro j hj
    rw [e4, cN_nI (by omega)] at hj
    simp (disch := omega) only [cl_let, Option.bind_some, cl_b2, nI_add, pk_mul, nI_leI, nI_ltI, nI_eq, nI_clamp, cu_inb, if_pos, if_neg, eq_self, ite_true, ite_false, if_true, if_false, cp_cpy, cp_cpyi, cl_ms, cl_row_n, k11 j hj]
  · intro j hj
    rw [e5, cN_nI (by omega)] at hj
    obtain ⟨z1, z2, z3⟩ := k19 j hj
    refine ⟨?_, ?_, ?_⟩ <;> simp (disch := omega) only [cl_let, Option.bind_some, cl_b2, nI_add, pk_mul, nI_leI, nI_ltI, nI_eq, nI_clamp, cu_inb, if_pos, if_neg, eq_self, ite_true, ite_false, if_true, if_false, cp_cpy, cp_cpyi, cl_ms, cl_row_n, z1, z2, z3]
  · intro j hj
    rw [e6, cN_nI (by omega)] at hj
    obtain ⟨z1, z2⟩ := k31 j hj
    refine ⟨?_, ?_⟩ <;> simp (disch := omega) only [cl_let, Option.bind_some, cl_b2, nI_add, pk_mul, nI_leI, nI_ltI, nI_eq, nI_clamp, cu_inb, if_pos, if_neg, eq_self, ite_true, ite_false, if_true, if_false, cp_cpy, cp_cpyi, cl_ms, cl_row_n, z1, z2]
  · simp (disch := omega) only [cl_let, Option.bind_some, cl_b2, nI_add, pk_mul, nI_leI, nI_ltI, nI_eq, nI_clamp, cu_inb, if_pos, if_neg, eq_self, ite_true, ite_false, if_true, if_false, cp_cpy, cl_ms, cl_row_n]
/-- a garment copied: fifteen ints -/
def cp_g (G H : Nat → Int32) : Nat → Int32 := fun j => if j < 15 then G j else H j
theorem cp_garment {M : cl_M} {t s : Nat} (h5 : cl_bz (M s 5) = true) (h : t ≠ s) : f_X0_copyFrom M t s = some (cl_row M t (cp_g (M s) (M t))) := by
  have hn : ∀ r : Nat → Int32, (cl_row M t r) s = M s := fun r => cl_row_n (Ne.symm h)
  have hz : cl_row M t (M t) = M := cu_rself M t
  rw [← hz]
  simp only [f_X0_copyFrom, cl_let, cu_tt, hn, if_pos h5, cu_rr, cl_row_s]
  congr 2
  funext j
  unfold cp_g
  by_cases c : j < 15
  · rw [if_pos c]
    rcases (show j = 0 ∨ j = 1 ∨ j = 2 ∨ j = 3 ∨ j = 4 ∨ j = 5 ∨ j = 6 ∨ j = 7 ∨ j = 8 ∨ j = 9 ∨ j = 10 ∨ j = 11 ∨ j = 12 ∨ j = 13 ∨ j = 14 by omega) with rfl | rfl | rfl | rfl | rfl | rfl | rfl | rfl | rfl | rfl | rfl | rfl | rfl | rfl | rfl <;> simp (disch := omega) only [cl_let, Option.bind_some, cl_b2, nI_add, pk_mul, nI_leI, nI_ltI, nI_eq, nI_clamp, cu_inb, if_pos, if_neg, eq_self, ite_true, ite_false, if_true, if_false, pk_us, pk_un]
  · rw [if_neg c]
    simp (disch := omega) only [cl_let, Option.bind_some, cl_b2, nI_add, pk_mul, nI_leI, nI_ltI, nI_eq, nI_clamp, cu_inb, if_pos, if_neg, eq_self, ite_true, ite_false, if_true, if_false, pk_un]
theorem cp_gi {G H : Nat → Int32} {j : Nat} (h : j < 15) : cp_g G H j = G j := if_pos h
theorem cg_W_cong {G G' : Nat → Int32} (h : ∀ j, j < 12 → G' j = G j) (W : cg_W G) : cg_W G' := by
  unfold cg_W
  rw [h 0 (by omega), h 1 (by omega), h 2 (by omega), h 3 (by omega), h 4 (by omega), h 5 (by omega), h 6 (by omega), h 7 (by omega), h 8 (by omega), h 9 (by omega), h 10 (by omega)]
  exact W
theorem cg_E_cong {G G' r r' : Nat → Int32} {g : Nat} (h : ∀ j, j < 12 → G' j = G j) (hr : ∀ k, k < 11 → r' (39 + 11 * g + k) = r (39 + 11 * g + k)) (E : cg_E G r g) : cg_E G' r' g := by
  unfold cg_E
  have h0 := hr 0 (by omega)
  rw [Nat.add_zero] at h0
  rw [h 0 (by omega), h 1 (by omega), h 2 (by omega), h 3 (by omega), h 4 (by omega), h 5 (by omega), h 6 (by omega), h 7 (by omega), h 9 (by omega), h 10 (by omega), h 11 (by omega), h0, hr 1 (by omega), hr 2 (by omega), hr 3 (by omega), hr 4 (by omega), hr 5 (by omega), hr 6 (by omega), hr 7 (by omega), hr 8 (by omega), hr 9 (by omega), hr 10 (by omega)]
  exact E
theorem cg_bz {G : Nat → Int32} (W : cg_W G) : cl_bz (G 5) = true := by
  obtain ⟨w, a, c, v, h1, h8, ⟨h9, -⟩, h10⟩ := W
  rcases h9 with e | e <;> rw [e] <;> decide
theorem cw_x_cong {r r' : Nat → Int32} (h : ∀ k, k < 149 → r' k = r k) : cw_x r' = cw_x r := by
  funext k
  unfold cw_x
  by_cases q : cw_i k = true
  · rw [if_pos q, if_pos q]
    simp only [cw_i, Bool.or_eq_true, Bool.and_eq_true, decide_eq_true_eq, beq_iff_eq] at q
    exact h k (by omega)
  · rw [if_neg q, if_neg q]
/-- a line looks at its own cells, and at the first 149 ints of the row -/
theorem cg_L_cong {M M' : cl_M} {t n m : Nat} {r r' : Nat → Int32} (h : ∀ x, t ≤ x → x < t + 19 → M' x = M x) (hr : ∀ k, k < 149 → r' k = r k) (L : cg_L M t r n m) : cg_L M' t r' n m := by
  have hw := cw_x_cong hr
  obtain ⟨⟨hn, h3, h7, h2, h0, F, C⟩, hG, hD, ⟨s8, s9, s10⟩, a, b, x, y, ⟨ha, hb, ea, eb, ex, ey⟩, px, py⟩ := L
  have hg : ∀ k, k < n → cg_G M' t k = cg_G M t k := fun k hk => h _ (by omega) (by omega)
  have ht := h t (by omega) (by omega)
  refine ⟨⟨hn, by rw [ht, h3], by rw [hr 7 (by omega), h7], by rw [ht, h2], by rw [hr 0 (by omega), h0], by rw [hw]; exact F, by rw [hw]; exact cw_C_cong (fun x h1 h2 => h x (by omega) (by omega)) C⟩, fun k hk => ?_, fun j k h1 h2 => ?_, ⟨?_, ?_, ?_⟩, a, b, x, y, ⟨ha, hb, by rw [ht, ea], by rw [ht, eb], by rw [hr 2 (by omega), ex], by rw [hr 3 (by omega), ey]⟩, ?_, ?_⟩
  · rw [hg k hk]
    exact ⟨cg_E_cong (fun _ _ => rfl) (fun q hq => hr _ (by omega)) (hG k hk).1, (hG k hk).2⟩
  · rw [hg j (by omega), hg k h2]
    exact hD j k h1 h2
  · rw [hr 8 (by omega), s8]; exact cu_sm_cong fun k hk => by rw [hg k hk]
  · rw [hr 9 (by omega), s9]; exact cu_sm_cong fun k hk => by rw [hg k hk]
  · rw [hr 10 (by omega), s10]; exact cu_sm_cong fun k hk => by rw [hg k hk]
  · rw [← px]; congr 1; exact cu_ns_cong fun k hk => by rw [hg k hk]
  · rw [← py]; congr 1; exact cu_ns_cong fun k hk => by rw [hg k hk]
/-- a line copied -/
theorem cp_line {M : cl_M} {t s n m : Nat} {r : Nat → Int32} (L : cg_L M s r n m) (h : s + 19 ≤ t ∨ t + 19 ≤ s) : ∃ M', f_X2_copyFrom M t s = some M' ∧ cg_L M' t r n m ∧ ∀ x, x < t ∨ t + 19 ≤ x → M' x = M x := by
  obtain ⟨⟨hn, h3, h7, h2, h0, F, C⟩, hG, hD, ⟨s8, s9, s10⟩, a, b, x, y, ⟨ha, hb, ea, eb, ex, ey⟩, px, py⟩ := L
  have hM1 : ∀ x, x ≠ t → (cl_ms (cl_ms (cl_ms (cl_ms M t 0 (M s 0)) t 1 (M s 1)) t 2 (M s 2)) t 3 (M s 3)) x = M x := fun x hx => by simp (disch := omega) only [cl_let, Option.bind_some, cl_b2, nI_add, pk_mul, nI_leI, nI_ltI, nI_eq, nI_clamp, cu_inb, if_pos, if_neg, eq_self, ite_true, ite_false, if_true, if_false, cl_ms, cl_row_n]
  obtain ⟨M2, z2, C2, f2⟩ := cp_weather (M := cl_ms (cl_ms (cl_ms (cl_ms M t 0 (M s 0)) t 1 (M s 1)) t 2 (M s 2)) t 3 (M s 3)) (t := t + 1) (s := s + 1) F (cw_C_cong (fun x h1 h2 => hM1 x (by omega)) C) (by omega)
  have hM2 : ∀ x, x < t ∨ t + 8 ≤ x → M2 x = M x := fun x hx => (f2 x (by omega)).trans (hM1 x (by omega))
  have ht2 : M2 t = upd (upd (upd (upd (M t) 0 (M s 0)) 1 (M s 1)) 2 (M s 2)) 3 (M s 3) := by
    rw [f2 t (by omega)]
    simp (disch := omega) only [cl_let, Option.bind_some, cl_b2, nI_add, pk_mul, nI_leI, nI_ltI, nI_eq, nI_clamp, cu_inb, if_pos, if_neg, eq_self, ite_true, ite_false, if_true, if_false, cl_ms, cl_row_s]
  have t3 : M2 t 3 = nI n := by rw [ht2, pk_us, h3]
  have H : ∀ j i, i + j = n → ∀ k, j < k → ∀ Mi : cl_M, (∀ x, x < t + 9 ∨ t + 9 + i ≤ x → Mi x = M2 x) → (∀ q, q < i → ∀ j, j < 15 → Mi (t + 9 + q) j = M (s + 9 + q) j) →
      ∃ M', f_X2_copyFrom_45 k Mi t s (nI i) = some M' ∧ (∀ x, x < t + 9 ∨ t + 9 + n ≤ x → M' x = M2 x) ∧ (∀ q, q < n → ∀ j, j < 15 → M' (t + 9 + q) j = M (s + 9 + q) j) := by
    intro j
    induction j with
    | zero =>
      intro i hi k hk Mi f g
      obtain ⟨k, rfl, hk⟩ := cu_fuel hk
      have hi : i = n := by omega
      subst hi
      refine ⟨Mi, ?_, f, g⟩
      rw [f_X2_copyFrom_45, f t (by omega), t3, if_pos (nI_le (Nat.le_refl _) (by omega))]
    | succ j ih =>
      intro i hi k hk Mi f g
      obtain ⟨k, rfl, hk⟩ := cu_fuel hk
      have hsi : Mi (s + 8 + 1 + i) = M (s + 9 + i) := (f _ (by omega)).trans (hM2 _ (by omega))
      have hcp := cp_garment (M := Mi) (t := t + 8 + 1 + i) (s := s + 8 + 1 + i) (by rw [hsi]; exact cg_bz (hG i (by omega)).2) (by omega)
      rw [f_X2_copyFrom_45, f t (by omega), t3, if_neg (nI_ge (by omega) (by omega)), if_pos (cu_inb (by omega) (by omega)), if_pos (cu_inb (by omega) (by omega)), nI_clamp (by omega), hcp, Option.bind_some, cl_let, nI_1]
      refine ih (i + 1) (by omega) k (by omega) _ (fun x hx => ?_) (fun q hq j hj => ?_)
      · rw [cl_row_n (by omega)]
        exact f x (by omega)
      · by_cases e : q = i
        · subst e
          rw [show t + 9 + q = t + 8 + 1 + q from rfl, cl_row_s, cp_gi hj, hsi]
        · rw [cl_row_n (by omega)]
          exact g q (by omega) j hj
  obtain ⟨M', z, f, g⟩ := H n 0 (by omega) cl_F (by unfold cl_F; omega) M2 (fun _ _ => rfl) (fun q hq => absurd hq (Nat.not_lt_zero q))
  refine ⟨M', ?_, ?_, fun x hx => (f x (by omega)).trans (hM2 x (by omega))⟩
  · rw [f_X2_copyFrom]
    simp only [cl_let, cp_ms (show s ≠ t by omega)]
    rw [z2, Option.bind_some]
    exact z
  · have hg : ∀ k, k < n → ∀ j, j < 15 → cg_G M' t k j = cg_G M s k j := fun k hk j hj => g k hk j hj
    have ht : M' t = upd (upd (upd (upd (M t) 0 (M s 0)) 1 (M s 1)) 2 (M s 2)) 3 (M s 3) := (f t (by omega)).trans ht2
    refine ⟨⟨hn, by rw [ht, pk_us, h3], h7, ?_, h0, F, cw_C_cong (fun x h1 h2 => f x (by omega)) C2⟩, fun k hk => ?_, fun j k h1 h2 => ?_, ⟨?_, ?_, ?_⟩, a, b, x, y, ⟨ha, hb, ?_, ?_, ex, ey⟩, ?_, ?_⟩
    · rw [ht, pk_un (by decide), pk_us, h2]
    · exact ⟨cg_E_cong (fun j hj => hg k hk j (by omega)) (fun _ _ => rfl) (hG k hk).1, cg_W_cong (fun j hj => hg k hk j (by omega)) (hG k hk).2⟩
    · rw [hg j (by omega) 8 (by omega), hg k h2 8 (by omega)]
      exact hD j k h1 h2
    · rw [s8]; exact cu_sm_cong fun k hk => (hg k hk 12 (by omega)).symm
    · rw [s9]; exact cu_sm_cong fun k hk => (hg k hk 13 (by omega)).symm
    · rw [s10]; exact cu_sm_cong fun k hk => (hg k hk 14 (by omega)).symm
    · rw [ht, pk_un (by decide), pk_un (by decide), pk_un (by decide), pk_us, ea]
    · rw [ht, pk_un (by decide), pk_un (by decide), pk_us, eb]
    · rw [← px]; congr 1; exact cu_ns_cong fun k hk => by rw [hg k hk 9 (by omega)]
    · rw [← py]; congr 1; exact cu_ns_cong fun k hk => by rw [hg k hk 10 (by omega)]
