/-! what lies ahead: a trial line on both sides -/
theorem cu_b2 {α β γ : Type} {a : α} {b : β} {f : α → β → Option γ} : cl_b2 (some (a, b)) f = f a b := rfl
def pr_T (N : cl_M) : cl_M := cl_row N 241 (fa_fill (N 239) (N 241) 149)
theorem pr_start (N : cl_M) : f_X6_startTrial N 237 = some (cl_row (pr_T N) 239 (N 239)) := by
  have h : (pr_T N) 239 = N 239 := cl_row_n (by decide)
  have e := cu_rself (pr_T N) 239
  rw [h] at e
  rw [cp_start, e]
  rfl
theorem pr_back (N : cl_M) (r' : Nat → Int32) (v : Int32) : ∃ N2, f_X6_putBack (cl_row (pr_T N) 239 r') 237 v = some (v, N2) ∧ (∀ x, x ≠ 239 → x ≠ 241 → N2 x = N x) ∧ ∀ k, k < 149 → N2 239 k = N 239 k := by
  refine ⟨_, cp_back _ v, fun x h1 h2 => ?_, fun k hk => ?_⟩
  · rw [cl_row_n h1, cl_row_n h1, pr_T, cl_row_n h2]
  · rw [cl_row_s, fa_fill_in hk, cl_row_n (show 241 ≠ 239 by decide), pr_T, cl_row_s, fa_fill_in hk]
/-- a line of the garment q alone, beside the whole row -/
def cg_1 (M : cl_M) (t : Nat) (r : Nat → Int32) (n m q : Nat) (Gs : Nat → Nat → Int32) : Prop :=
  n ≤ 10 ∧ q < n ∧ M t 3 = nI 1 ∧ M t 2 = nI m ∧ r 7 = nI n ∧ r 0 = nI m ∧ cw_F (cw_x r) ∧ cw_C M (t + 1) (cw_x r) ∧ (∀ k, k < n → cg_E (Gs k) r k ∧ cg_W (Gs k)) ∧ Gs q = M (t + 9)
theorem cg_1_min {N M : cl_M} {t n m q : Nat} {r : Nat → Int32} {Gs : Nat → Nat → Int32} (h : cg_1 M t r n m q Gs) (hm : m < 2 ^ 30) :
    ∃ v M' r', f_X2_passOne M t = some (cg_fl (cw_x r) m (M (t + 9)), M') ∧ f_X6_passMinute (cl_row N 239 r) 237 = some (v, cl_row N 239 r') ∧ cg_1 M' t r' n (m + 1) q (fun k => cg_st (cw_x r) m (Gs k)) ∧ cw_x r' = cw_x r ∧ M' (t + 9) = cg_st (cw_x r) m (M (t + 9)) ∧ (∀ x, x < t ∨ t + 19 ≤ x → M' x = M x) := by
  obtain ⟨hn, hq, h3, h2, h7, h0, F, C, hG, hGq⟩ := h
  obtain ⟨r', z, zE, zw, z0, z7, -⟩ := cg_passN (N := N) hn h7 h0 hm F rfl hG
  have zc := cg_passC (n := 1) (by omega) h3 h2 hm F C
  have hs : cu_sm (fun k => cg_fl (cw_x r) m (M (t + 9 + k))) 1 = cg_fl (cw_x r) m (M (t + 9)) := by
    rw [cu_sm, cu_sm, Int32.zero_add]
  rw [hs] at zc
  have h9 : cg_minC (cw_x r) m 1 M t (t + 9) = cg_st (cw_x r) m (M (t + 9)) := by
    unfold cg_minC cl_ms
    rw [cl_row_n (by omega)]
    exact cg_map_i (k := 0) (by omega)
  have ht : cg_minC (cw_x r) m 1 M t t = upd (M t) 2 (nI (m + 1)) := by
    unfold cg_minC cl_ms
    rw [cl_row_s, cg_map_o (by omega)]
  have hc : ∀ x, x < t ∨ (t < x ∧ x < t + 9) ∨ t + 10 ≤ x → cg_minC (cw_x r) m 1 M t x = M x := fun x hx => by
    unfold cg_minC cl_ms
    rw [cl_row_n (by omega), cg_map_o (by omega)]
  refine ⟨_, _, r', zc, z, ⟨hn, hq, ?_, ?_, z7, z0, ?_, ?_, fun k hk => ⟨zE k hk, cg_st_W F m (hG k hk).2⟩, ?_⟩, zw, h9, fun x hx => hc x (by omega)⟩
  · rw [ht, pk_un (by decide), h3]
  · rw [ht, pk_us]
  · rw [zw]; exact F
  · rw [zw]; exact cw_C_cong (fun x h1 h2 => hc x (by omega)) C
  · show cg_st (cw_x r) m (Gs q) = _
    rw [h9, hGq]
theorem pr_one {M : cl_M} {n m g : Nat} {r : Nat → Int32} (L : cg_L M 4 r n m) (hg : g < n) :
    ∃ M1 Gs, f_X2_copyWithOne M 23 4 (4 + 9 + g) = some (23 + 8 + 1 + 0, M1) ∧ cg_1 M1 23 r n m g Gs ∧ (∀ j, j < 15 → M1 32 j = M (4 + 9 + g) j) ∧ ∀ x, x < 23 ∨ 42 ≤ x → M1 x = M x := by
  obtain ⟨⟨hn, h3, h7, h2, h0, F, C⟩, hG, -, -, -⟩ := L
  have hM1 : ∀ x, x ≠ 23 → (cl_ms (cl_ms M 23 2 (M 4 2)) 23 3 1) x = M x := fun x hx => by simp (disch := omega) only [cl_let, Option.bind_some, cl_b2, nI_add, pk_mul, nI_leI, nI_ltI, nI_eq, nI_clamp, cu_inb, if_pos, if_neg, eq_self, ite_true, ite_false, if_true, if_false, cl_ms, cl_row_n]
  obtain ⟨M2, z2, C2, f2⟩ := cp_weather (M := cl_ms (cl_ms M 23 2 (M 4 2)) 23 3 1) (t := 23 + 1) (s := 4 + 1) F (cw_C_cong (fun x h1 h2 => hM1 x (by omega)) C) (by omega)
  have hM2 : ∀ x, x < 23 ∨ 31 ≤ x → M2 x = M x := fun x hx => (f2 x (by omega)).trans (hM1 x (by omega))
  have ht2 : M2 23 = upd (upd (M 23) 2 (M 4 2)) 3 1 := by
    rw [f2 23 (by omega)]
    simp (disch := omega) only [cl_let, Option.bind_some, cl_b2, nI_add, pk_mul, nI_leI, nI_ltI, nI_eq, nI_clamp, cu_inb, if_pos, if_neg, eq_self, ite_true, ite_false, if_true, if_false, cl_ms, cl_row_s]
  have hsi : M2 (4 + 9 + g) = M (4 + 9 + g) := hM2 _ (by omega)
  have hcp := cp_garment (M := M2) (t := 23 + 8 + 1 + 0) (s := 4 + 9 + g) (by rw [hsi]; exact cg_bz (hG g hg).2) (by omega)
  have h32 : (cl_row M2 (23 + 8 + 1 + 0) (cp_g (M2 (4 + 9 + g)) (M2 (23 + 8 + 1 + 0)))) 32 = cp_g (M2 (4 + 9 + g)) (M2 32) := cl_row_s
  have hf : ∀ x, x ≠ 32 → (cl_row M2 (23 + 8 + 1 + 0) (cp_g (M2 (4 + 9 + g)) (M2 (23 + 8 + 1 + 0)))) x = M2 x := fun x hx => cl_row_n hx
  refine ⟨cl_row M2 (23 + 8 + 1 + 0) (cp_g (M2 (4 + 9 + g)) (M2 (23 + 8 + 1 + 0))), fun k => if k = g then cp_g (M2 (4 + 9 + g)) (M2 32) else cg_G M 4 k, ?_, ⟨hn, hg, ?_, ?_, h7, h0, F, cw_C_cong (fun x h1 h2 => hf x (by omega)) C2, fun k hk => ?_, ?_⟩, fun j hj => ?_, fun x hx => ?_⟩
  · rw [f_X2_copyWithOne]
    simp only [cl_let]
    rw [z2, Option.bind_some, hcp, Option.bind_some]
  · rw [hf 23 (by decide), ht2, pk_us]; rfl
  · rw [hf 23 (by decide), ht2, pk_un (by decide), pk_us, h2]
  · dsimp only
    by_cases e : k = g
    · subst e
      rw [if_pos rfl, hsi]
      have hj : ∀ j, j < 12 → cp_g (M (4 + 9 + k)) (M2 32) j = cg_G M 4 k j := fun j hj => cp_gi (by omega)
      exact ⟨cg_E_cong hj (fun _ _ => rfl) (hG k hk).1, cg_W_cong hj (hG k hk).2⟩
    · rw [if_neg e]; exact hG k hk
  · show (if g = g then _ else _) = _
    rw [if_pos rfl]
    exact h32.symm
  · rw [h32, cp_gi hj, hsi]
  · rw [hf x (by omega)]; exact hM2 x (by omega)
/-- the frame of a look ahead: the trial's cells alone -/
def pr_F (M M' N N' : cl_M) : Prop := (∀ x, x < 23 ∨ 42 ≤ x → M' x = M x) ∧ (∀ x, x ≠ 239 → x ≠ 241 → N' x = N x) ∧ ∀ k, k < 149 → N' 239 k = N 239 k
theorem pr_after {M N : cl_M} {n m g a : Nat} (L : cg_L M 4 (N 239) n m) (hg : g < n) (ha : a ≤ 500) (hm : m + a < 2 ^ 30) :
    ∃ v M' N', cl_b2 (f_X2_copyWithOne M 23 4 (4 + 9 + g)) (fun v9 M10 => cl_b2 (f_X2_letPass M10 23 (nI a)) (fun v12 M13 => some (Except.ok (ε := Nat × cl_M) (M13 v9 3, M13)))) = some (.ok (v, M')) ∧
      (f_X6_startTrial N 237).bind (fun M11 => cl_b2 (f_X6_passAll M11 237 (nI a)) (fun v13 M14 => (f_X6_of M14 237 (nI g) 3).bind (fun v16 => cl_b2 (f_X6_putBack M14 237 v16) (fun v18 M19 => some (v18, M19))))) = some (v, N') ∧ pr_F M M' N N' := by
  obtain ⟨M1, Gs, z1, h1, -, f1⟩ := pr_one L hg
  have H : ∀ j i, i + j = a → ∀ k1 k2, j < k1 → j < k2 → ∀ (M : cl_M) (r : Nat → Int32) (u v : Int32) (m : Nat) (Gs : Nat → Nat → Int32), cg_1 M 23 r n m g Gs → m + j < 2 ^ 30 →
      ∃ u' v' M' r' m' Gs', f_X2_letPass_4 k1 M 23 (nI a) u (nI i) = some (u', M') ∧ f_X6_passAll_4 k2 (cl_row (pr_T N) 239 r) 237 (nI a) v (nI i) = some (v', cl_row (pr_T N) 239 r') ∧ cg_1 M' 23 r' n m' g Gs' ∧ (∀ x, x < 23 ∨ 42 ≤ x → M' x = M x) := by
    intro j
    induction j with
    | zero =>
      intro i hi k1 k2 hk1 hk2 M r u v m Gs h hm
      obtain ⟨k1, rfl, hk1⟩ := cu_fuel hk1
      obtain ⟨k2, rfl, hk2⟩ := cu_fuel hk2
      have hi : i = a := by omega
      subst hi
      refine ⟨u, v, M, r, m, Gs, ?_, ?_, h, fun _ _ => rfl⟩
      · rw [f_X2_letPass_4, if_pos (nI_le (Nat.le_refl _) (by omega))]
      · rw [f_X6_passAll_4, if_pos (nI_le (Nat.le_refl _) (by omega))]
    | succ j ih =>
      intro i hi k1 k2 hk1 hk2 M r u v m Gs h hm
      obtain ⟨k1, rfl, hk1⟩ := cu_fuel hk1
      obtain ⟨k2, rfl, hk2⟩ := cu_fuel hk2
      obtain ⟨v1, M1, r1, e1, e2, h1, -, -, hf⟩ := cg_1_min (N := pr_T N) h (by omega)
      obtain ⟨u2, v2, M2, r2, m2, Gs2, d1, d2, h2, hf2⟩ := ih (i + 1) (by omega) k1 k2 (by omega) (by omega) M1 r1 (u + cg_fl (cw_x r) m (M (23 + 9))) (v + v1) (m + 1) _ h1 (by omega)
      refine ⟨u2, v2, M2, r2, m2, Gs2, ?_, ?_, h2, fun x hx => (hf2 x hx).trans (hf x (by omega))⟩
      · rw [f_X2_letPass_4, if_neg (nI_ge (by omega) (by omega)), e1]
        simp only [cl_b2, cl_let, nI_1]
        exact d1
      · rw [f_X6_passAll_4, if_neg (nI_ge (by omega) (by omega)), e2]
        simp only [cl_b2, cl_let, nI_1]
        exact d2
  obtain ⟨u, v, M2, r2, m2, Gs2, d1, d2, h2, f2⟩ := H a 0 (by omega) cl_F cl_F (by unfold cl_F; omega) (by unfold cl_F; omega) M1 (N 239) 0 0 m Gs h1 (by omega)
  obtain ⟨N2, b1, b2, b3⟩ := pr_back N r2 (M2 32 3)
  have hv : f_X6_of (cl_row (pr_T N) 239 r2) 237 (nI g) 3 = some (M2 32 3) := by
    obtain ⟨hn, hq, -, -, -, -, -, -, hG, e⟩ := h2
    rw [cm_of3 (by omega), (hG g hg).1.1.2.2.2.1, e]
  refine ⟨M2 32 3, M2, N2, ?_, ?_, fun x hx => (f2 x hx).trans (f1 x hx), b2, b3⟩
  · rw [z1, cu_b2, show f_X2_letPass M1 23 (nI a) = some (u, M2) from d1, cu_b2]
  · rw [pr_start, Option.bind_some, show f_X6_passAll (cl_row (pr_T N) 239 (N 239)) 237 (nI a) = some (v, cl_row (pr_T N) 239 r2) from d2, cu_b2, hv, Option.bind_some, b1, cu_b2]
theorem pr_water {M : cl_M} {t n m q : Nat} {r : Nat → Int32} {Gs : Nat → Nat → Int32} (h : cg_1 M t r n m q Gs) (N : cl_M) : ∃ v, v ≤ 999 ∧ M (t + 9) 3 = nI v ∧ f_X6_of (cl_row N 239 r) 237 (nI q) 3 = some (nI v) := by
  obtain ⟨hn, hq, -, -, -, -, -, -, hG, e⟩ := h
  obtain ⟨hE, w, a, c, v, ⟨h1, h2, h3, h4, h5, h6, h7, e0, e1, e2, e3⟩, -⟩ := hG q hq
  rw [e] at e3
  exact ⟨v, by omega, e3, by rw [cm_of3 (by omega), hE.1.2.2.2.1, e, e3]⟩
theorem pr_dry {M N : cl_M} {n m g : Nat} (L : cg_L M 4 (N 239) n m) (hg : g < n) (hm : m + 501 < 2 ^ 30) :
    ∃ v M' N', cl_b2 (f_X2_copyWithOne M 23 4 (4 + 9 + g)) (fun v5 M6 => f_X5_minutesToDry_19 cl_F M6 0 v5 0) = some (.ok (v, M')) ∧
      (f_X6_startTrial N 237).bind (fun M5 => f_X6_minutesToDry_16 cl_F M5 237 (nI g) 0) = some (v, N') ∧ pr_F M M' N N' := by
  obtain ⟨M1, Gs, z1, h1, -, f1⟩ := pr_one L hg
  have H : ∀ j i, i + j = 500 → ∀ k1 k2, j + 1 < k1 → j < k2 → ∀ (M : cl_M) (r : Nat → Int32) (m : Nat) (Gs : Nat → Nat → Int32), cg_1 M 23 r n m g Gs → m + j + 1 < 2 ^ 30 →
      ∃ v M' N', f_X5_minutesToDry_19 k1 M 0 32 (nI i) = some (.ok (v, M')) ∧ f_X6_minutesToDry_16 k2 (cl_row (pr_T N) 239 r) 237 (nI g) (nI i) = some (v, N') ∧ (∀ x, x < 23 ∨ 42 ≤ x → M' x = M x) ∧ (∀ x, x ≠ 239 → x ≠ 241 → N' x = N x) ∧ ∀ k, k < 149 → N' 239 k = N 239 k := by
    intro j
    induction j with
    | zero =>
      intro i hi k1 k2 hk1 hk2 M r m Gs h hm
      obtain ⟨k1, rfl, hk1⟩ := cu_fuel hk1
      obtain ⟨k1, rfl, hk1⟩ := cu_fuel (show 0 < k1 by omega)
      obtain ⟨k2, rfl, hk2⟩ := cu_fuel hk2
      have hi : i = 500 := by omega
      subst hi
      obtain ⟨v, hv, e1, e2⟩ := pr_water h (pr_T N)
      obtain ⟨v1, M1, r1, d1, d2, h1, -, -, hf⟩ := cg_1_min (N := pr_T N) h (by omega)
      rw [f_X5_minutesToDry_19, if_neg (show ¬ (500 : Int32) < nI 500 from nI_nlt (a := 500) (Nat.le_refl _) (by omega)), show M 32 3 = nI v from e1, f_X6_minutesToDry_16, if_pos (show (500 : Int32) ≤ nI 500 from nI_le (a := 500) (Nat.le_refl _) (by omega)), f_X6_minutesToDry_43, e2, Option.bind_some]
      by_cases q : v = 0
      · obtain ⟨N2, b1, b2, b3⟩ := pr_back N r (nI 500)
        rw [if_pos (show nI v = 0 by rw [q]; rfl), if_pos (show nI v = 0 by rw [q]; rfl), f_X6_minutesToDry_58, b1]
        exact ⟨_, _, _, rfl, rfl, fun _ _ => rfl, b2, b3⟩
      · obtain ⟨N2, b1, b2, b3⟩ := pr_back N r (-1)
        rw [if_neg (nI_ne0 (by omega) (by omega)), if_neg (nI_ne0 (by omega) (by omega)), f_X6_minutesToDry_58, b1]
        refine ⟨-1, M1, N2, ?_, rfl, fun x hx => hf x (by omega), b2, b3⟩
        rw [show f_X2_passOne M (0 + 23) = some (cg_fl (cw_x r) m (M (23 + 9)), M1) from d1, cu_b2, cl_let, nI_1, f_X5_minutesToDry_19, if_pos (show (500 : Int32) < nI (500 + 1) from nI_lt (a := 500) (by omega) (by omega))]
    | succ j ih =>
      intro i hi k1 k2 hk1 hk2 M r m Gs h hm
      obtain ⟨k1, rfl, hk1⟩ := cu_fuel hk1
      obtain ⟨k2, rfl, hk2⟩ := cu_fuel hk2
      obtain ⟨v, hv, e1, e2⟩ := pr_water h (pr_T N)
      obtain ⟨v1, M1, r1, d1, d2, h1, -, -, hf⟩ := cg_1_min (N := pr_T N) h (by omega)
      rw [f_X5_minutesToDry_19, if_neg (show ¬ (500 : Int32) < nI i from nI_nlt (a := 500) (by omega) (by omega)), show M 32 3 = nI v from e1, f_X6_minutesToDry_16, if_neg (show ¬ (500 : Int32) ≤ nI i from nI_ge (b := 500) (by omega) (by omega)), e2, Option.bind_some]
      by_cases q : v = 0
      · obtain ⟨N2, b1, b2, b3⟩ := pr_back N r (nI i)
        rw [if_pos (show nI v = 0 by rw [q]; rfl), if_pos (show nI v ≤ 0 by rw [q]; decide), f_X6_minutesToDry_43, e2, Option.bind_some, if_pos (show nI v = 0 by rw [q]; rfl), f_X6_minutesToDry_58, b1]
        exact ⟨_, _, _, rfl, rfl, fun _ _ => rfl, b2, b3⟩
      · rw [if_neg (nI_ne0 (by omega) (by omega)), if_neg (nI_nle (by omega) (by omega)), d2]
        obtain ⟨v', M2, N2, c1, c2, c3, c4⟩ := ih (i + 1) (by omega) k1 k2 (by omega) (by omega) M1 r1 (m + 1) _ h1 (by omega)
        refine ⟨v', M2, N2, ?_, ?_, fun x hx => (c3 x hx).trans (hf x (by omega)), c4⟩
        · rw [show f_X2_passOne M (0 + 23) = some (cg_fl (cw_x r) m (M (23 + 9)), M1) from d1, cu_b2, cl_let, nI_1]
          exact c1
        · rw [cu_b2, cl_let, nI_1]
          exact c2
  obtain ⟨v, M2, N2, d1, d2, f2, f3⟩ := H 500 0 (by omega) cl_F cl_F (by unfold cl_F; omega) (by unfold cl_F; omega) M1 (N 239) m Gs h1 (by omega)
  refine ⟨v, M2, N2, ?_, ?_, fun x hx => (f2 x hx).trans (f1 x hx), f3⟩
  · rw [z1, cu_b2]; exact d1
  · rw [pr_start, Option.bind_some]; exact d2
theorem cg_st_6 {w G : Nat → Int32} {m : Nat} : (G 6 = 1 → (cg_fl w m G = 0 ∧ cg_st w m G 6 = 1) ∨ (cg_fl w m G = 1 ∧ cg_st w m G 6 = 2)) ∧ (¬ G 6 = 1 → cg_fl w m G = 0 ∧ cg_st w m G = G) := by
  constructor
  · intro h6
    have hmid : cg_mid (nI (cw_rain w m)) (nI (cw_wind w m)) (cw_sunny w m) (cw_smoky w m) G 6 = 1 := by
      unfold cg_mid cg_smell
      have hd : (if nI (cw_rain w m) ≤ 0 then cg_dry G (cw_sunny w m) (nI (cw_wind w m)) else cg_wet G (nI (cw_rain w m))) 6 = G 6 := by
        by_cases q : nI (cw_rain w m) ≤ 0
        · rw [if_pos q]; unfold cg_dry; simp (disch := omega) only [cl_let, Option.bind_some, cl_b2, nI_add, pk_mul, nI_leI, nI_ltI, nI_eq, nI_clamp, cu_inb, if_pos, if_neg, eq_self, ite_true, ite_false, if_true, if_false, pk_un]
        · rw [if_neg q]; unfold cg_wet; simp (disch := omega) only [cl_let, Option.bind_some, cl_b2, nI_add, pk_mul, nI_leI, nI_ltI, nI_eq, nI_clamp, cu_inb, if_pos, if_neg, eq_self, ite_true, ite_false, if_true, if_false, pk_un]
      generalize (if nI (cw_rain w m) ≤ 0 then cg_dry G (cw_sunny w m) (nI (cw_wind w m)) else cg_wet G (nI (cw_rain w m))) = G1 at hd ⊢
      by_cases c1 : cw_smoky w m &&& G1 8 = 0
      · rw [if_pos c1]
        by_cases c2 : nI (cw_wind w m) = 0
        · rw [if_pos c2, hd, h6]
        · rw [if_neg c2, pk_un (by omega), hd, h6]
      · rw [if_neg c1, pk_un (by omega), hd, h6]
    unfold cg_fl cg_fell cg_st cg_step
    rw [if_pos h6, if_pos h6]
    by_cases c2 : cg_weight (cg_mid (nI (cw_rain w m)) (nI (cw_wind w m)) (cw_sunny w m) (cw_smoky w m) G) ≤ cg_hold (cg_mid (nI (cw_rain w m)) (nI (cw_wind w m)) (cw_sunny w m) (cw_smoky w m) G)
    · rw [if_pos c2, if_pos c2]; exact Or.inl ⟨rfl, hmid⟩
    · rw [if_neg c2, if_neg c2]
      refine Or.inr ⟨rfl, ?_⟩
      unfold cg_fall cg_put
      simp (disch := omega) only [cl_let, Option.bind_some, cl_b2, nI_add, pk_mul, nI_leI, nI_ltI, nI_eq, nI_clamp, cu_inb, if_pos, if_neg, eq_self, ite_true, ite_false, if_true, if_false, pk_us, pk_un]
  · intro h6
    unfold cg_fl cg_fell cg_st cg_step
    rw [if_neg h6, if_neg h6]
    exact ⟨rfl, rfl⟩
