/-! a line on both sides -/
def cu_ns (f : Nat → Nat) : Nat → Nat
  | 0 => 0
  | n + 1 => cu_ns f n + f n
theorem cu_ns_cong {f h : Nat → Nat} : ∀ {n : Nat}, (∀ k, k < n → f k = h k) → cu_ns f n = cu_ns h n
  | 0, _ => rfl
  | n + 1, q => by rw [cu_ns, cu_ns, cu_ns_cong (fun k hk => q k (by omega)), q n (by omega)]
theorem cu_ns_part {f : Nat → Nat} {i : Nat} : ∀ {n : Nat}, i < n → f i ≤ cu_ns f n
  | 0, h => absurd h (Nat.not_lt_zero i)
  | n + 1, h => by
    rw [cu_ns]
    by_cases e : i = n
    · subst e; omega
    · have := cu_ns_part (f := f) (show i < n by omega); omega
theorem cu_ns_upd {f h : Nat → Nat} {i : Nat} (he : ∀ k, k ≠ i → h k = f k) : ∀ {n : Nat}, i < n → cu_ns h n + f i = cu_ns f n + h i
  | 0, q => absurd q (Nat.not_lt_zero i)
  | n + 1, q => by
    rw [cu_ns, cu_ns]
    by_cases e : i = n
    · subst e
      rw [cu_ns_cong (fun k hk => he k (by omega))]; omega
    · have := cu_ns_upd he (show i < n by omega)
      rw [he n (by omega)]; omega
theorem cu_ns_le {f h : Nat → Nat} : ∀ {n : Nat}, (∀ k, k < n → h k ≤ f k) → cu_ns h n + cu_ns (fun k => f k - h k) n = cu_ns f n
  | 0, _ => rfl
  | n + 1, q => by
    have := cu_ns_le (n := n) (fun k hk => q k (by omega))
    have := q n (by omega)
    rw [cu_ns, cu_ns, cu_ns]; omega
theorem cu_sm_nI {f : Nat → Int32} {h : Nat → Nat} : ∀ {n : Nat}, (∀ k, k < n → f k = nI (h k)) → cu_sm f n = nI (cu_ns h n)
  | 0, _ => rfl
  | n + 1, q => by rw [cu_sm, cu_ns, cu_sm_nI (fun k hk => q k (by omega)), q n (by omega), nI_add]
abbrev cg_G (M : cl_M) (t k : Nat) : Nat → Int32 := M (t + 9 + k)
/-- the class's line at t in M, of n garments in the minute m, is the reference's row r -/
def cg_L (M : cl_M) (t : Nat) (r : Nat → Int32) (n m : Nat) : Prop :=
  (n ≤ 10 ∧ M t 3 = nI n ∧ r 7 = nI n ∧ M t 2 = nI m ∧ r 0 = nI m ∧ cw_F (cw_x r) ∧ cw_C M (t + 1) (cw_x r)) ∧
  (∀ k, k < n → cg_E (cg_G M t k) r k ∧ cg_W (cg_G M t k)) ∧
  (∀ j k, j < k → k < n → cg_G M t j 8 &&& cg_G M t k 8 = 0) ∧
  (r 8 = cu_sm (fun k => cg_G M t k 12) n ∧ r 9 = cu_sm (fun k => cg_G M t k 13) n ∧ r 10 = cu_sm (fun k => cg_G M t k 14) n) ∧
  ∃ a b x y : Nat, (a ≤ 30 ∧ b ≤ 30 ∧ M t 0 = nI a ∧ M t 1 = nI b ∧ r 2 = nI x ∧ r 3 = nI y) ∧ x + cu_ns (fun k => cN (cg_G M t k 9)) n = a ∧ y + cu_ns (fun k => cN (cg_G M t k 10)) n = b
theorem cg_W_9 {G : Nat → Int32} (h : cg_W G) : G 9 = nI (cN (G 9)) ∧ cN (G 9) ≤ 5 ∧ G 10 = nI (cN (G 10)) ∧ cN (G 10) ≤ 5 := by
  obtain ⟨w, a, c, v, h1, h8, ⟨h9, ⟨p, hp, ep⟩, ⟨q, hq, eq⟩⟩, h10⟩ := h
  rw [ep, eq, cN_nI (n := p) (by omega), cN_nI (n := q) (by omega)]
  exact ⟨rfl, hp, rfl, hq⟩
theorem cg_st_k {w G : Nat → Int32} {m k : Nat} (hk : k = 8 ∨ k = 9 ∨ k = 10) : cg_st w m G k = G k ∨ cg_st w m G k = 0 := by
  have hmid : cg_mid (nI (cw_rain w m)) (nI (cw_wind w m)) (cw_sunny w m) (cw_smoky w m) G k = G k := by
    unfold cg_mid cg_smell
    have hd : (if nI (cw_rain w m) ≤ 0 then cg_dry G (cw_sunny w m) (nI (cw_wind w m)) else cg_wet G (nI (cw_rain w m))) k = G k := by
      by_cases q : nI (cw_rain w m) ≤ 0
      · rw [if_pos q]; unfold cg_dry; simp (disch := omega) only [cl_let, Option.bind_some, cl_b2, nI_add, pk_mul, nI_leI, nI_ltI, nI_eq, nI_clamp, cu_inb, if_pos, if_neg, eq_self, ite_true, ite_false, if_true, if_false, pk_un]
      · rw [if_neg q]; unfold cg_wet; simp (disch := omega) only [cl_let, Option.bind_some, cl_b2, nI_add, pk_mul, nI_leI, nI_ltI, nI_eq, nI_clamp, cu_inb, if_pos, if_neg, eq_self, ite_true, ite_false, if_true, if_false, pk_un]
    generalize (if nI (cw_rain w m) ≤ 0 then cg_dry G (cw_sunny w m) (nI (cw_wind w m)) else cg_wet G (nI (cw_rain w m))) = G1 at hd ⊢
    by_cases c1 : cw_smoky w m &&& G1 8 = 0
    · rw [if_pos c1]
      by_cases c2 : nI (cw_wind w m) = 0
      · rw [if_pos c2, hd]
      · rw [if_neg c2, pk_un (by omega), hd]
    · rw [if_neg c1, pk_un (by omega), hd]
  unfold cg_st cg_step
  by_cases c1 : G 6 = 1
  · rw [if_pos c1]
    by_cases c2 : cg_weight (cg_mid (nI (cw_rain w m)) (nI (cw_wind w m)) (cw_sunny w m) (cw_smoky w m) G) ≤ cg_hold (cg_mid (nI (cw_rain w m)) (nI (cw_wind w m)) (cw_sunny w m) (cw_smoky w m) G)
    · rw [if_pos c2]; exact Or.inl hmid
    · rw [if_neg c2]
      right
      unfold cg_fall cg_put
      rcases hk with rfl | rfl | rfl <;> simp (disch := omega) only [cl_let, Option.bind_some, cl_b2, nI_add, pk_mul, nI_leI, nI_ltI, nI_eq, nI_clamp, cu_inb, if_pos, if_neg, eq_self, ite_true, ite_false, if_true, if_false, pk_us, pk_un]
  · rw [if_neg c1]; exact Or.inl rfl
/-- one minute on both sides -/
theorem cg_L_min {N M : cl_M} {t n m : Nat} {r : Nat → Int32} (h : cg_L M t r n m) (hm : m < 2 ^ 30) :
    ∃ v M' r', f_X2_passOne M t = some (v, M') ∧ f_X6_passMinute (cl_row N 239 r) 237 = some (v, cl_row N 239 r') ∧ cg_L M' t r' n (m + 1) ∧ cw_x r' = cw_x r ∧ (∀ x, x < t ∨ t + 19 ≤ x → M' x = M x) ∧ (∀ k, k < n → cg_G M' t k = cg_st (cw_x r) m (cg_G M t k)) := by
  obtain ⟨⟨hn, h3, h7, h2, h0, F, C⟩, hG, hD, ⟨s8, s9, s10⟩, a, b, x, y, ⟨ha, hb, ea, eb, ex, ey⟩, px, py⟩ := h
  obtain ⟨r', z, zE, zw, z0, z7, z8, z9, z10, z2, z3⟩ := cg_passN (N := N) hn h7 h0 hm F rfl hG
  have zc := cg_passC hn h3 h2 hm F C
  have hb1 : ∀ k, k < n → cg_minC (cw_x r) m n M t (t + 9 + k) = cg_st (cw_x r) m (cg_G M t k) := fun k hk => by
    unfold cg_minC cl_ms
    rw [cl_row_n (by omega), cg_map_i hk]
  have hst : ∀ k, k < n → ∀ j, (j = 8 ∨ j = 9 ∨ j = 10) → cg_G (cg_minC (cw_x r) m n M t) t k j = cg_G M t k j ∨ cg_G (cg_minC (cw_x r) m n M t) t k j = 0 := fun k hk j hj => by
    rw [cg_G, hb1 k hk]
    exact cg_st_k hj
  have hc : ∀ x, t < x → x < t + 9 → cg_minC (cw_x r) m n M t x = M x := fun x h1 h2 => by
    unfold cg_minC cl_ms
    rw [cl_row_n (by omega), cg_map_o (by omega)]
  have ht : cg_minC (cw_x r) m n M t t = upd (M t) 2 (nI (m + 1)) := by
    unfold cg_minC cl_ms
    rw [cl_row_s, cg_map_o (by omega)]
  have peg : ∀ j, (j = 9 ∨ j = 10) → (∀ k, k < n → cg_G M t k j = nI (cN (cg_G M t k j))) → (∀ k, k < n → cN (cg_G M t k j) ≤ 5) → ∀ (x a : Nat) (u u' : Int32), a ≤ 30 → u = nI x → u' = u + cu_sm (fun k => cg_G M t k j - cg_st (cw_x r) m (cg_G M t k) j) n → x + cu_ns (fun k => cN (cg_G M t k j)) n = a → ∃ x', u' = nI x' ∧ x' + cu_ns (fun k => cN (cg_G (cg_minC (cw_x r) m n M t) t k j)) n = a := by
    intro j hj he h5 x a u u' ha eu eu' hs
    have hle : ∀ k, k < n → cN (cg_G (cg_minC (cw_x r) m n M t) t k j) ≤ cN (cg_G M t k j) := fun k hk => by
      rcases hst k hk j (by omega) with e | e
      · rw [e]; exact Nat.le_refl _
      · rw [e]; exact Nat.zero_le _
    have hsum := cu_ns_le hle
    refine ⟨x + cu_ns (fun k => cN (cg_G M t k j) - cN (cg_G (cg_minC (cw_x r) m n M t) t k j)) n, ?_, by omega⟩
    rw [eu', eu, ← nI_add]
    congr 1
    refine cu_sm_nI fun k hk => ?_
    have e1 := he k hk
    have e2 : cg_G (cg_minC (cw_x r) m n M t) t k j = nI (cN (cg_G (cg_minC (cw_x r) m n M t) t k j)) := by
      rcases hst k hk j (by omega) with e | e
      · rw [e]; exact e1
      · rw [e]; rfl
    have e3 : cg_st (cw_x r) m (cg_G M t k) j = cg_G (cg_minC (cw_x r) m n M t) t k j := by rw [cg_G, cg_G, hb1 k hk]
    rw [← pk_sub (hle k hk), ← e1, ← e2, e3]
  obtain ⟨x', ex', px'⟩ := peg 9 (by omega) (fun k hk => (cg_W_9 (hG k hk).2).1) (fun k hk => (cg_W_9 (hG k hk).2).2.1) x a (r 2) (r' 2) ha ex z2 px
  obtain ⟨y', ey', py'⟩ := peg 10 (by omega) (fun k hk => (cg_W_9 (hG k hk).2).2.2.1) (fun k hk => (cg_W_9 (hG k hk).2).2.2.2) y b (r 3) (r' 3) hb ey z3 py
  refine ⟨_, _, r', zc, z, ⟨⟨hn, ?_, z7, ?_, z0, ?_, ?_⟩, fun k hk => ?_, fun j k hjk hk => ?_, ⟨?_, ?_, ?_⟩, a, b, x', y', ⟨ha, hb, ?_, ?_, ex', ey'⟩, px', py'⟩, zw, fun x hx => ?_, hb1⟩
  · rw [ht, pk_un (by decide), h3]
  · rw [ht, pk_us]
  · rw [zw]; exact F
  · rw [zw]; exact cw_C_cong (fun x h1 h2 => hc x (by omega) (by omega)) C
  · rw [cg_G, hb1 k hk]
    exact ⟨zE k hk, cg_st_W F m (hG k hk).2⟩
  · have hd := hD j k hjk hk
    rcases hst j (by omega) 8 (by omega) with e | e <;> rcases hst k hk 8 (by omega) with e2 | e2 <;> rw [e, e2]
    · exact hd
    · exact Int32.and_zero
    · exact Int32.zero_and
    · exact Int32.and_zero
  · rw [z8, s8, cu_sm_sub]
    exact cu_sm_cong fun k hk => (congrFun (hb1 k hk) _).symm
  · rw [z9, s9, cu_sm_sub]
    exact cu_sm_cong fun k hk => (congrFun (hb1 k hk) _).symm
  · rw [z10, s10, cu_sm_sub]
    exact cu_sm_cong fun k hk => (congrFun (hb1 k hk) _).symm
  · rw [ht, pk_un (by decide), ea]
  · rw [ht, pk_un (by decide), eb]
  · unfold cg_minC cl_ms
    rw [cl_row_n (by omega), cg_map_o (by omega)]
/-- many minutes on both sides -/
theorem cg_L_pass {N M : cl_M} {t n m a : Nat} {r : Nat → Int32} (h : cg_L M t r n m) (ha : a ≤ 500) (hm : m + a < 2 ^ 30) :
    ∃ v M' r', f_X2_letPass M t (nI a) = some (v, M') ∧ f_X6_passAll (cl_row N 239 r) 237 (nI a) = some (v, cl_row N 239 r') ∧ cg_L M' t r' n (m + a) ∧ (∀ x, x < t ∨ t + 19 ≤ x → M' x = M x) := by
  have H : ∀ j i, i + j = a → ∀ k1 k2, j < k1 → j < k2 → ∀ (M : cl_M) (r : Nat → Int32) (acc : Int32) (m : Nat), cg_L M t r n m → m + j < 2 ^ 30 → ∃ v M' r', f_X2_letPass_4 k1 M t (nI a) acc (nI i) = some (v, M') ∧ f_X6_passAll_4 k2 (cl_row N 239 r) 237 (nI a) acc (nI i) = some (v, cl_row N 239 r') ∧ cg_L M' t r' n (m + j) ∧ (∀ x, x < t ∨ t + 19 ≤ x → M' x = M x) := by
    intro j
    induction j with
    | zero =>
      intro i hi k1 k2 hk1 hk2 M r acc m h hm
      obtain ⟨k1, rfl, hk1⟩ := cu_fuel hk1
      obtain ⟨k2, rfl, hk2⟩ := cu_fuel hk2
      have hi : i = a := by omega
      subst hi
      refine ⟨acc, M, r, ?_, ?_, h, fun _ _ => rfl⟩
      · rw [f_X2_letPass_4, if_pos (nI_le (Nat.le_refl _) (by omega))]
      · rw [f_X6_passAll_4, if_pos (nI_le (Nat.le_refl _) (by omega))]
    | succ j ih =>
      intro i hi k1 k2 hk1 hk2 M r acc m h hm
      obtain ⟨k1, rfl, hk1⟩ := cu_fuel hk1
      obtain ⟨k2, rfl, hk2⟩ := cu_fuel hk2
      obtain ⟨v, M1, r1, e1, e2, h1, hw, hf, -⟩ := cg_L_min (N := N) h (by omega)
      obtain ⟨v2, M2, r2, d1, d2, h2, hf2⟩ := ih (i + 1) (by omega) k1 k2 (by omega) (by omega) M1 r1 (acc + v) (m + 1) h1 (by omega)
      refine ⟨v2, M2, r2, ?_, ?_, ?_, fun x hx => (hf2 x hx).trans (hf x hx)⟩
      · rw [f_X2_letPass_4, if_neg (nI_ge (by omega) (by omega)), e1]
        simp only [cl_b2, cl_let, nI_1]
        exact d1
      · rw [f_X6_passAll_4, if_neg (nI_ge (by omega) (by omega)), e2]
        simp only [cl_b2, cl_let, nI_1]
        exact d2
      · rw [show m + (j + 1) = m + 1 + j by omega]; exact h2
  exact H a 0 (by omega) cl_F cl_F (by unfold cl_F; omega) (by unfold cl_F; omega) M r 0 m h hm
