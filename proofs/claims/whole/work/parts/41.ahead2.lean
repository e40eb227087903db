/-! what lies ahead, on: falls, risk, pegs -/
theorem pr_fall {M N : cl_M} {n m g : Nat} (L : cg_L M 4 (N 239) n m) (hg : g < n) (hm : m + 501 < 2 ^ 30) :
    ∃ v M' N', cl_b2 (f_X2_copyWithOne M 23 4 (4 + 9 + g)) (fun v5 M6 => f_X5_minutesToFall_19 cl_F M6 0 1) = some (.ok (v, M')) ∧
      (f_X6_startTrial N 237).bind (fun M5 => f_X6_minutesToFall_16 cl_F M5 237 (nI g) 0) = some (v, N') ∧ pr_F M M' N N' := by
  obtain ⟨M1, Gs, z1, h1, -, f1⟩ := pr_one L hg
  have hn := L.1.1
  have hin : ∀ (M : cl_M) (r : Nat → Int32) (m : Nat) (Gs : Nat → Nat → Int32) (q : Int32), cg_1 M 23 r n m g Gs → f_X6_isIn (cl_row (pr_T N) 239 r) 237 (nI g) q = some (if M 32 6 = q then 1 else 0) := by
    intro M r m Gs q h
    obtain ⟨hn, hq, -, -, -, -, -, -, hG, e⟩ := h
    rw [cg_inN (by omega) (hG g hg).1, e]
  have H : ∀ j i, i + j = 500 → ∀ k1 k2, j < k1 → j < k2 → ∀ (M : cl_M) (r : Nat → Int32) (m : Nat) (Gs : Nat → Nat → Int32), cg_1 M 23 r n m g Gs → M 32 6 = 1 → m + j + 1 < 2 ^ 30 →
      ∃ v M' N', f_X5_minutesToFall_19 k1 M 0 (nI (i + 1)) = some (.ok (v, M')) ∧ f_X6_minutesToFall_16 k2 (cl_row (pr_T N) 239 r) 237 (nI g) (nI i) = some (v, N') ∧ (∀ x, x < 23 ∨ 42 ≤ x → M' x = M x) ∧ (∀ x, x ≠ 239 → x ≠ 241 → N' x = N x) ∧ ∀ k, k < 149 → N' 239 k = N 239 k := by
    intro j
    induction j with
    | zero =>
      intro i hi k1 k2 hk1 hk2 M r m Gs h h6 hm
      obtain ⟨k1, rfl, hk1⟩ := cu_fuel hk1
      obtain ⟨k2, rfl, hk2⟩ := cu_fuel hk2
      have hi : i = 500 := by omega
      subst hi
      obtain ⟨N2, b1, b2, b3⟩ := pr_back N r (-1)
      refine ⟨-1, M, N2, ?_, ?_, fun _ _ => rfl, b2, b3⟩
      · rw [f_X5_minutesToFall_19, if_pos (show (500 : Int32) < nI (500 + 1) from nI_lt (a := 500) (by omega) (by omega))]
      · rw [f_X6_minutesToFall_16, if_pos (show (500 : Int32) ≤ nI 500 from nI_le (a := 500) (Nat.le_refl _) (by omega)), f_X6_minutesToFall_43, if_neg (nI_nle (by omega) (by omega)), hin M r m Gs 2 h, Option.bind_some, h6, if_neg (show ¬ (1 : Int32) = 2 by decide), if_pos rfl, f_X6_minutesToFall_60, f_X6_minutesToFall_61, if_pos rfl, f_X6_minutesToFall_72, b1, cu_b2]
    | succ j ih =>
      intro i hi k1 k2 hk1 hk2 M r m Gs h h6 hm
      obtain ⟨k1, rfl, hk1⟩ := cu_fuel hk1
      obtain ⟨k2, rfl, hk2⟩ := cu_fuel hk2
      obtain ⟨k2, rfl, -⟩ := cu_fuel (show j < k2 by omega)
      obtain ⟨v1, M1, r1, d1, d2, h1, hw, h9, hf⟩ := cg_1_min (N := pr_T N) h (by omega)
      have h9 : M1 32 = cg_st (cw_x r) m (M 32) := h9
      have d1 : f_X2_passOne M (0 + 23) = some (cg_fl (cw_x r) m (M 32), M1) := d1
      rw [f_X5_minutesToFall_19, if_neg (show ¬ (500 : Int32) < nI (i + 1) from nI_nlt (a := 500) (by omega) (by omega)), d1, cu_b2, f_X6_minutesToFall_16, if_neg (show ¬ (500 : Int32) ≤ nI i from nI_ge (b := 500) (by omega) (by omega)), hin M r m Gs 1 h, Option.bind_some, if_pos h6, if_neg (show ¬ (1 : Int32) = 0 by decide), d2, cu_b2, cl_let, cl_let, nI_1, nI_1]
      rcases cg_st_6.1 h6 with ⟨e1, e2⟩ | ⟨e1, e2⟩
      · rw [e1, if_pos (by decide)]
        obtain ⟨v', M2, N2, c1, c2, c3, c4⟩ := ih (i + 1) (by omega) k1 (k2 + 1) (by omega) (by omega) M1 r1 (m + 1) _ h1 (by rw [h9]; exact e2) (by omega)
        exact ⟨v', M2, N2, c1, c2, fun x hx => (c3 x hx).trans (hf x (by omega)), c4⟩
      · rw [e1, if_neg (by decide)]
        obtain ⟨N2, b1, b2, b3⟩ := pr_back N r1 (nI (i + 1))
        have h62 : M1 32 6 = 2 := by rw [h9]; exact e2
        have h43 : f_X6_minutesToFall_43 (cl_row (pr_T N) 239 r1) 237 (nI g) (nI (i + 1)) = some (nI (i + 1), N2) := by
          rw [f_X6_minutesToFall_43, if_neg (nI_nle (by omega) (by omega)), hin M1 r1 _ _ 2 h1, Option.bind_some, if_pos h62, if_neg (show ¬ (1 : Int32) = 0 by decide), f_X6_minutesToFall_61, if_neg (show ¬ (1 : Int32) = 0 by decide), f_X6_minutesToFall_72, b1, cu_b2]
        refine ⟨nI (i + 1), M1, N2, rfl, ?_, fun x hx => hf x (by omega), b2, b3⟩
        rw [f_X6_minutesToFall_16]
        by_cases q : (500 : Int32) ≤ nI (i + 1)
        · rw [if_pos q]; exact h43
        · rw [if_neg q, hin M1 r1 _ _ 1 h1, Option.bind_some, h62, if_neg (show ¬ (2 : Int32) = 1 by decide), if_pos rfl]
          exact h43
  have H2 : ∀ j i, i + j = 500 → ∀ k1, j < k1 → ∀ (M : cl_M) (r : Nat → Int32) (m : Nat) (Gs : Nat → Nat → Int32), cg_1 M 23 r n m g Gs → ¬ M 32 6 = 1 → m + j + 1 < 2 ^ 30 →
      ∃ M', f_X5_minutesToFall_19 k1 M 0 (nI (i + 1)) = some (.ok (-1, M')) ∧ (∀ x, x < 23 ∨ 42 ≤ x → M' x = M x) := by
    intro j
    induction j with
    | zero =>
      intro i hi k1 hk1 M r m Gs h h6 hm
      obtain ⟨k1, rfl, hk1⟩ := cu_fuel hk1
      have hi : i = 500 := by omega
      subst hi
      refine ⟨M, ?_, fun _ _ => rfl⟩
      rw [f_X5_minutesToFall_19, if_pos (show (500 : Int32) < nI (500 + 1) from nI_lt (a := 500) (by omega) (by omega))]
    | succ j ih =>
      intro i hi k1 hk1 M r m Gs h h6 hm
      obtain ⟨k1, rfl, hk1⟩ := cu_fuel hk1
      obtain ⟨v1, M1, r1, d1, d2, h1, hw, h9, hf⟩ := cg_1_min (N := pr_T N) h (by omega)
      have h9 : M1 32 = cg_st (cw_x r) m (M 32) := h9
      have d1 : f_X2_passOne M (0 + 23) = some (cg_fl (cw_x r) m (M 32), M1) := d1
      obtain ⟨e1, e2⟩ := (cg_st_6 (w := cw_x r) (m := m)).2 h6
      rw [f_X5_minutesToFall_19, if_neg (show ¬ (500 : Int32) < nI (i + 1) from nI_nlt (a := 500) (by omega) (by omega)), d1, cu_b2, e1, if_pos (by decide), cl_let, nI_1]
      obtain ⟨M2, c1, c3⟩ := ih (i + 1) (by omega) k1 (by omega) M1 r1 (m + 1) _ h1 (by rw [h9, e2]; exact h6) (by omega)
      exact ⟨M2, c1, fun x hx => (c3 x hx).trans (hf x (by omega))⟩
  by_cases h6 : M1 32 6 = 1
  · obtain ⟨v, M2, N2, d1, d2, f2, f3⟩ := H 500 0 (by omega) cl_F cl_F (by unfold cl_F; omega) (by unfold cl_F; omega) M1 (N 239) m Gs h1 h6 (by omega)
    refine ⟨v, M2, N2, ?_, ?_, fun x hx => (f2 x hx).trans (f1 x hx), f3⟩
    · rw [z1, cu_b2]; exact d1
    · rw [pr_start, Option.bind_some]; exact d2
  · obtain ⟨M2, d1, f2⟩ := H2 500 0 (by omega) cl_F (by unfold cl_F; omega) M1 (N 239) m Gs h1 h6 (by omega)
    obtain ⟨N2, b1, b2, b3⟩ := pr_back N (N 239) (-1)
    refine ⟨-1, M2, N2, ?_, ?_, fun x hx => (f2 x hx).trans (f1 x hx), b2, b3⟩
    · rw [z1, cu_b2]; exact d1
    · rw [pr_start, Option.bind_some]
      obtain ⟨k, hk⟩ : ∃ k, cl_F = k + 1 := ⟨2047, rfl⟩
      rw [hk, f_X6_minutesToFall_16, if_neg (show ¬ (500 : Int32) ≤ 0 by decide), hin M1 (N 239) m Gs 1 h1, Option.bind_some, if_neg h6, if_pos rfl, f_X6_minutesToFall_43, if_pos (show (0 : Int32) ≤ 0 by decide), f_X6_minutesToFall_60, f_X6_minutesToFall_61, if_pos rfl, f_X6_minutesToFall_72, b1, cu_b2]
theorem cu_rowN (N : cl_M) : N = cl_row N 239 (N 239) := (cu_rself N 239).symm
theorem cu_state_cong {G H : Nat → Nat → Int32} {a : Int32} {n : Nat} (h : ∀ k, k < n → G k 6 = H k 6) : cu_it (fun i x => if G i 6 = a then x ||| (1 <<< (nI i &&& 31)) else x) n 0 = cu_it (fun i x => if H i 6 = a then x ||| (1 <<< (nI i &&& 31)) else x) n 0 :=
  cu_it_cong fun k hk y => by rw [h k hk]
theorem pr_risk {M N : cl_M} {n m : Nat} (L : cg_L M 4 (N 239) n m) (hm : m + 60 < 2 ^ 30) :
    ∃ v M' N', f_X5_garmentsAtRisk M 0 = some (v, M') ∧
      (f_X6_setIn N 237 1).bind (fun v2 => (f_X6_startTrial N 237).bind (fun M4 => cl_b2 (f_X6_passAll M4 237 60) (fun v6 M7 => (f_X6_setIn M7 237 2).bind (fun v9 => cl_b2 (f_X6_putBack M7 237 (v2 &&& v9)) (fun v11 M12 => some (v11, M12)))))) = some (v, N') ∧ pr_F M M' N N' := by
  obtain ⟨M1, z1, L1, f1⟩ := cp_line (t := 23) L (by omega)
  obtain ⟨u, M2, r2, e1, e2, L2, f2⟩ := cg_L_pass (N := pr_T N) (a := 60) L1 (by omega) hm
  have hn := L.1.1
  have hf : ∀ x, x < 23 ∨ 42 ≤ x → M2 x = M x := fun x hx => (f2 x (by omega)).trans (f1 x (by omega))
  have L3 : cg_L M2 4 (N 239) n m := cg_L_cong (fun x h1 h2 => hf x (by omega)) (fun _ _ => rfl) L
  obtain ⟨A, hA⟩ : ∃ z, z = cu_it (fun i x => if cg_G M2 4 i 6 = 1 then x ||| (1 <<< (nI i &&& 31)) else x) n 0 := ⟨_, rfl⟩
  obtain ⟨B, hB⟩ : ∃ z, z = cu_it (fun i x => if cg_G M2 23 i 6 = 2 then x ||| (1 <<< (nI i &&& 31)) else x) n 0 := ⟨_, rfl⟩
  obtain ⟨N2, b1, b2, b3⟩ := pr_back N r2 (A &&& B)
  have s1 : f_X2_setInState M2 (0 + 4) 1 = some A := hA ▸ cq_state hn L3.1.2.1
  have s2 : f_X2_setInState M2 (0 + 23) 2 = some B := hB ▸ cq_state hn L2.1.2.1
  have s3 : f_X6_setIn N 237 1 = some A := by
    rw [cu_rowN N, hA]
    exact cq_stateN hn L3.1.2.2.1 (ck_G L3)
  have s4 : f_X6_setIn (cl_row (pr_T N) 239 r2) 237 2 = some B := hB ▸ cq_stateN hn L2.1.2.2.1 (ck_G L2)
  refine ⟨A &&& B, M2, N2, ?_, ?_, hf, b2, b3⟩
  · rw [f_X5_garmentsAtRisk, show f_X2_copyFrom M (0 + 23) (0 + 4) = some M1 from z1, Option.bind_some, show f_X2_letPass M1 (0 + 23) 60 = some (u, M2) from e1, cu_b2, s1, Option.bind_some, s2, Option.bind_some]
  · rw [s3, Option.bind_some, pr_start, Option.bind_some, show f_X6_passAll (cl_row (pr_T N) 239 (N 239)) 237 60 = some (u, cl_row (pr_T N) 239 r2) from e2, cu_b2, s4, Option.bind_some, b1, cu_b2]
/-- the fewest pegs: both answer alike -/
theorem pr_pegs {M N : cl_M} {r : Nat → Int32} {t n m g : Nat} (L : cg_L M t r n m) (hg : g < n) :
    ∃ v, f_X5_fewestPegs_29 cl_F M (cg_weight (cg_G M t g)) (r 2) (r 3) 1 = some (.ok (v, M)) ∧ f_X6_fewestPegs_12 cl_F (cl_row N 239 r) 237 (nI g) 1 = some (v, cl_row N 239 r) := by
  have hn := L.1.1
  obtain ⟨x, y, hx, hy, ex, ey⟩ := ck_pegs L
  obtain ⟨hE, w, a, c, v, ⟨h1, h2, h3, h4, h5, h6, h7, e0, e1, e2, e3⟩, h8, h9, hp⟩ := ck_G L g hg
  have hwN := cg_weightN (N := N) (g := g) (by omega) hE
  obtain ⟨q, hq, eq⟩ : ∃ q, q ≤ 300 ∧ cg_weight (cg_G M t g) = nI q := by
    refine ⟨a + v / 10, by omega, ?_⟩
    unfold cg_weight
    rw [e1, e3, show (10 : Int32) = nI 10 from rfl, pk_div (by omega) (by omega) (by omega), nI_add]
  rw [eq] at hwN ⊢
  have I : ∀ (r12 : cl_M → Nat → Int32 → Int32 → Option (Int32 × cl_M)) (p : Nat), p ≤ 4 → ∀ j s, s + j = p + 1 → ∀ k, j < k →
      ((∃ s', s ≤ s' ∧ s' ≤ p ∧ s' ≤ y ∧ p - s' ≤ x ∧ q ≤ 20 * (p - s') + 45 * s') → f_X6_fewestPegs_19 r12 k (cl_row N 239 r) 237 (nI g) (nI p) (nI s) = some (nI p, cl_row N 239 r)) ∧
      ((¬ ∃ s', s ≤ s' ∧ s' ≤ p ∧ s' ≤ y ∧ p - s' ≤ x ∧ q ≤ 20 * (p - s') + 45 * s') → f_X6_fewestPegs_19 r12 k (cl_row N 239 r) 237 (nI g) (nI p) (nI s) = r12 (cl_row N 239 r) 237 (nI g) (nI (p + 1))) := by
    intro r12 p hp4 j
    induction j with
    | zero =>
      intro s hs k hk
      obtain ⟨k, rfl, hk⟩ := cu_fuel hk
      refine ⟨fun hh => by obtain ⟨s', z1, z2, z3⟩ := hh; omega, fun _ => ?_⟩
      rw [f_X6_fewestPegs_19, if_pos (nI_lt (by omega) (by omega)), cl_let, nI_1]
    | succ j ih =>
      intro s hs k hk
      obtain ⟨k, rfl, hk⟩ := cu_fuel hk
      obtain ⟨i1, i2⟩ := ih (s + 1) (by omega) k (by omega)
      have hstep : ¬ (s ≤ y ∧ p - s ≤ x ∧ q ≤ 20 * (p - s) + 45 * s) → f_X6_fewestPegs_19 r12 (k + 1) (cl_row N 239 r) 237 (nI g) (nI p) (nI s) = f_X6_fewestPegs_19 r12 k (cl_row N 239 r) 237 (nI g) (nI p) (nI (s + 1)) := by
        intro hno
        rw [f_X6_fewestPegs_19, if_neg (nI_nlt (by omega) (by omega)), cm_now, cm_now, ex, ey, pk_sub (by omega)]
        by_cases c1 : y < s
        · rw [if_pos (nI_lt c1 (by omega)), f_X6_fewestPegs_50, f_X6_fewestPegs_51, if_pos rfl, f_X6_fewestPegs_75, cl_let, nI_1]
        · rw [if_neg (nI_nlt (by omega) (by omega))]
          by_cases c2 : x < p - s
          · rw [if_pos (nI_lt c2 (by omega)), f_X6_fewestPegs_50, f_X6_fewestPegs_51, if_pos rfl, f_X6_fewestPegs_75, cl_let, nI_1]
          · rw [if_neg (nI_nlt (by omega) (by omega)), f_X6_fewestPegs_51, if_neg (show ¬ (1 : Int32) = 0 by decide), hwN, Option.bind_some, pk_sub (by omega), f_X6_holdBy, Option.bind_some, show (20 : Int32) = nI 20 from rfl, show (45 : Int32) = nI 45 from rfl, pk_mul, pk_mul, nI_add, if_pos (nI_lt (by omega) (by omega)), f_X6_fewestPegs_75, cl_let, nI_1]
      constructor
      · rintro ⟨s', z1, z2, z3, z4, z5⟩
        by_cases hc : s ≤ y ∧ p - s ≤ x ∧ q ≤ 20 * (p - s) + 45 * s
        · rw [f_X6_fewestPegs_19, if_neg (nI_nlt (by omega) (by omega)), cm_now, cm_now, ex, ey, pk_sub (by omega), if_neg (nI_nlt hc.1 (by omega)), if_neg (nI_nlt hc.2.1 (by omega)), f_X6_fewestPegs_51, if_neg (show ¬ (1 : Int32) = 0 by decide), hwN, Option.bind_some, pk_sub (by omega), f_X6_holdBy, Option.bind_some, show (20 : Int32) = nI 20 from rfl, show (45 : Int32) = nI 45 from rfl, pk_mul, pk_mul, nI_add, if_neg (nI_nlt hc.2.2 (by omega))]
        · rw [hstep hc]
          refine i1 ⟨s', ?_, z2, z3, z4, z5⟩
          by_cases e : s' = s
          · subst e; exact absurd ⟨z3, z4, z5⟩ hc
          · omega
      · intro hno
        rw [hstep (fun hc => hno ⟨s, Nat.le_refl _, by omega, hc.1, hc.2.1, hc.2.2⟩)]
        exact i2 (fun ⟨s', z1, z2⟩ => hno ⟨s', by omega, z2⟩)
  have H : ∀ j p, p + j = 5 → 1 ≤ p → ∀ k1 k2, j < k1 → j < k2 → ∃ v, f_X5_fewestPegs_29 k1 M (nI q) (r 2) (r 3) (nI p) = some (.ok (v, M)) ∧ f_X6_fewestPegs_12 k2 (cl_row N 239 r) 237 (nI g) (nI p) = some (v, cl_row N 239 r) := by
    intro j
    induction j with
    | zero =>
      intro p hp h1 k1 k2 hk1 hk2
      obtain ⟨k1, rfl, hk1⟩ := cu_fuel hk1
      obtain ⟨k2, rfl, hk2⟩ := cu_fuel hk2
      have hp : p = 5 := by omega
      subst hp
      exact ⟨-1, by rw [f_X5_fewestPegs_29, if_pos (by decide)], by rw [f_X6_fewestPegs_12, if_pos (by decide)]⟩
    | succ j ih =>
      intro p hp h1 k1 k2 hk1 hk2
      obtain ⟨k1, rfl, hk1⟩ := cu_fuel hk1
      obtain ⟨k2, rfl, hk2⟩ := cu_fuel hk2
      have ih := ih (p + 1) (by omega) (by omega) k1 k2 (by omega) (by omega)
      have h4 : ¬ (4 : Int32) < nI p := nI_nlt (a := 4) (by omega) (by omega)
      obtain ⟨i1, i2⟩ := I (f_X6_fewestPegs_12 k2) p (by omega) (p + 1) 0 (by omega) cl_F (by unfold cl_F; omega)
      rw [f_X5_fewestPegs_29, if_neg h4, f_X6_fewestPegs_12, if_neg h4, cu_minf, ey, cu_min_nI (by omega) (by omega), ex]
      simp only [cl_let]
      rw [pk_sub (Nat.min_le_right _ _)]
      by_cases c1 : x < p - min y p
      · rw [if_pos (nI_lt c1 (by omega)), f_X5_fewestPegs_71, cl_let, nI_1]
        rw [show (0 : Int32) = nI 0 from rfl, i2 (fun ⟨s', z1, z2, z3, z4, z5⟩ => by omega)]
        rw [← ex, ← ey]
        exact ih
      · rw [if_neg (nI_nlt (by omega) (by omega)), f_X5_holdOfPegs, Option.bind_some, show (20 : Int32) = nI 20 from rfl, show (45 : Int32) = nI 45 from rfl, pk_mul, pk_mul, nI_add]
        by_cases c2 : (p - min y p) * 20 + min y p * 45 < q
        · rw [if_pos (nI_lt c2 (by omega)), f_X5_fewestPegs_71, cl_let, nI_1]
          rw [show (0 : Int32) = nI 0 from rfl, i2 (fun ⟨s', z1, z2, z3, z4, z5⟩ => by omega)]
          rw [← ex, ← ey]
          exact ih
        · rw [if_neg (nI_nlt (by omega) (by omega))]
          rw [show (0 : Int32) = nI 0 from rfl, i1 ⟨min y p, by omega, by omega, by omega, by omega, by omega⟩]
          exact ⟨_, rfl, rfl⟩
  exact H 4 1 (by omega) (by omega) cl_F cl_F (by unfold cl_F; omega) (by unfold cl_F; omega)
