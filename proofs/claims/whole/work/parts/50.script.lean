/-! a script, command by command: on both sides -/
def ts_f (t : Nat) (M M' N N' : cl_M) : Prop := (∀ x, x ≠ 1 → x ≠ 3 → (x < t ∨ t + 19 ≤ x) → M' x = M x) ∧ (∀ x, x ≠ 237 → x ≠ 239 → x ≠ 245 → N' x = N x) ∧ M' 1 1 = M 1 1 ∧ ∀ k, k ≠ 2 → k ≠ 3 → (k < 14 ∨ 17 < k) → N' 237 k = N 237 k
theorem ts_f_tr {t : Nat} {M M1 M2 N N1 N2 : cl_M} (h1 : ts_f t M M1 N N1) (h2 : ts_f t M1 M2 N1 N2) : ts_f t M M2 N N2 :=
  ⟨fun x a b c => (h2.1 x a b c).trans (h1.1 x a b c), fun x a b c => (h2.2.1 x a b c).trans (h1.2.1 x a b c), h2.2.2.1.trans h1.2.2.1, fun k a b c => (h2.2.2.2 k a b c).trans (h1.2.2.2 k a b c)⟩
theorem ts_f_of {A : Nat → Bool} {t : Nat} {M M' N N' : cl_M} (h : tx_f A M M' N N') : ts_f t M M' N N' := ⟨fun x a b _ => h.1 x a b, fun x a _ c => h.2.1 x a c, h.2.2.1.2, h.2.2.2.2⟩
theorem ts_L {A : Nat → Bool} {t n m : Nat} {M M' N N' : cl_M} (h : tx_f A M M' N N') (ht : 4 ≤ t) (L : cg_L M t (N 239) n m) : cg_L M' t (N' 239) n m :=
  cg_L_cong (fun x h1 _ => h.1 x (by omega) (by omega)) (fun k _ => by rw [h.2.1 239 (by decide) (by decide)]) L
section TS
variable {M N : cl_M} {n : Nat}
theorem tx_K_cong {M' N' : cl_M} (h : tx_K n M N) (h1 : ∀ k, k ≠ 6 → M' 1 k = M 1 k) (h2 : M' 2 = M 2) (h3 : N' 237 = N 237) (h4 : N' 238 = N 238) : tx_K n M' N' := by
  obtain ⟨hB, ⟨r1, q1, ⟨s, e, y1, y2, y3, y4, y5, y6⟩, hk⟩, h8, h9⟩ := h
  refine ⟨lx_B_cong h2 h4 hB, ⟨by rw [h1 1 (by decide), r1], by rw [h3, q1], ⟨s, e, y1, y2, by rw [h1 4 (by decide), y3], by rw [h3, y4], by rw [h1 2 (by decide), y5], by rw [h3, y6]⟩, ?_⟩, ?_, ?_⟩
  · rw [h1 3 (by decide), h1 5 (by decide), h3]; exact hk
  · rw [h1 8 (by decide), h3]; exact h8
  · rw [h1 9 (by decide), h3]; exact h9
theorem tx_kind (h : tx_K n M N) : (M 1 3 = 0 ∧ N 237 15 = 4) ∨ (¬ M 1 3 = 0 ∧ ¬ N 237 15 = 4) := by
  rcases h.2.1.2.2.2 with ⟨a, b⟩ | ⟨a, b⟩ | ⟨a, b, -⟩ | ⟨a, b⟩ | ⟨a, b⟩
  · left; exact ⟨a, b⟩
  all_goals right; rw [a, b]; decide
/-- whether a command finds no place: both answer alike -/
theorem tx_full {t g m q : Nat} (L : cg_L M t (N 239) g m) (hq : q < 10) (h6 : M 1 6 = nI (q + 1)) :
    (f_X3_hasNoPlace M 1 t = some 1 ∧ f_X6_isFull N 237 (nI q) = some 1) ∨ (f_X3_hasNoPlace M 1 t = some 0 ∧ f_X6_isFull N 237 (nI q) = some 0 ∧ (q = 0 → g < 10) ∧ (q = 6 → ∃ z, z < 4 ∧ N 239 5 = nI z) ∧ (q = 7 → ∃ z, z < 4 ∧ N 239 6 = nI z)) := by
  have hg := L.1.1
  have z1 : cl_bz 1 = true := by decide
  have z0 : cl_bz 0 = true := by decide
  obtain ⟨-, -, ⟨c5, q5, e5, -⟩, ⟨c6, q6, e6, -⟩⟩ := L.1.2.2.2.2.2.1
  obtain ⟨-, -, k6, k9, -⟩ := L.1.2.2.2.2.2.2
  rw [cw_xi rfl] at e5 e6
  rw [cw_xi rfl, e5] at k6
  rw [cw_xi rfl, e6] at k9
  rw [f_X3_hasNoPlace, f_X6_isFull, h6, L.1.2.1, k6, k9, show N (237 + 2) 7 = nI g from L.1.2.2.1, show N (237 + 2) 5 = nI c5 from e5, show N (237 + 2) 6 = nI c6 from e6]
  by_cases h0 : q = 0
  · subst h0
    rw [if_pos (show nI (0 + 1) = 1 from rfl), if_pos (show nI 0 = 0 from rfl)]
    by_cases h10 : g = 10
    · left; subst h10
      exact ⟨rfl, rfl⟩
    · right
      have hne : ¬ nI g = 10 := fun z => h10 ((nI_eq (b := 10) (by omega) (by omega)).mp z)
      rw [if_neg hne, if_neg hne]
      exact ⟨rfl, rfl, fun _ => by omega, fun h => by omega, fun h => by omega⟩
  · by_cases hq6 : q = 6
    · subst hq6
      rw [if_neg (show ¬ nI (6 + 1) = 1 by decide), if_pos (show nI (6 + 1) = 7 from rfl), if_neg (show ¬ nI 6 = 0 by decide), if_pos (show nI 6 = 6 from rfl)]
      by_cases h4 : c5 = 4
      · left; subst h4
        exact ⟨rfl, rfl⟩
      · right
        have hne : ¬ nI c5 = 4 := fun z => h4 ((nI_eq (b := 4) (by omega) (by omega)).mp z)
        rw [if_neg hne, if_neg hne]
        exact ⟨rfl, rfl, fun h => by omega, fun _ => ⟨c5, by omega, rfl⟩, fun h => by omega⟩
    · by_cases hq7 : q = 7
      · subst hq7
        rw [if_neg (show ¬ nI (7 + 1) = 1 by decide), if_neg (show ¬ nI (7 + 1) = 7 by decide), if_pos (show nI (7 + 1) = 8 from rfl), if_neg (show ¬ nI 7 = 0 by decide), if_neg (show ¬ nI 7 = 6 by decide), if_pos (show nI 7 = 7 from rfl)]
        by_cases h4 : c6 = 4
        · left; subst h4
          exact ⟨rfl, rfl⟩
        · right
          have hne : ¬ nI c6 = 4 := fun z => h4 ((nI_eq (b := 4) (by omega) (by omega)).mp z)
          rw [if_neg hne, if_neg hne]
          exact ⟨rfl, rfl, fun h => by omega, fun h => by omega, fun _ => ⟨c6, by omega, rfl⟩⟩
      · right
        have d1 : ∀ z : Nat, z < 20 → q + 1 ≠ z → ¬ nI (q + 1) = nI z := fun z hz h e => h ((nI_eq (by omega) (by omega)).mp e)
        have d2 : ∀ z : Nat, z < 20 → q ≠ z → ¬ nI q = nI z := fun z hz h e => h ((nI_eq (by omega) (by omega)).mp e)
        rw [if_neg (show ¬ nI (q + 1) = 1 from d1 1 (by omega) (by omega)), if_neg (show ¬ nI (q + 1) = 7 from d1 7 (by omega) (by omega)), if_neg (show ¬ nI (q + 1) = 8 from d1 8 (by omega) (by omega)), if_neg (show ¬ nI q = 0 from d2 0 (by omega) (by omega)), if_neg (show ¬ nI q = 6 from d2 6 (by omega) (by omega)), if_neg (show ¬ nI q = 7 from d2 7 (by omega) (by omega))]
        exact ⟨rfl, rfl, fun h => by omega, fun h => by omega, fun h => by omega⟩
/-- what a script comes to -/
def ts_out (t b : Nat) (M N : cl_M) (x y : Option (Int32 × cl_M)) : Prop :=
  (∃ M' N', x = some (-1, M') ∧ y = some (-1, N') ∧ tx_E M' N' ∧ ts_f t M M' N N') ∨
  ∃ M' N' d g m, d ≤ 40 ∧ x = some (nI d, M') ∧ y = some (nI d, N') ∧ tx_E M' N' ∧ cg_L M' t (N' 239) g m ∧ m ≤ b ∧ ts_f t M M' N N'
theorem ts_out_f {t b : Nat} {M1 N1 : cl_M} {x y : Option (Int32 × cl_M)} (f : ts_f t M M1 N N1) (h : ts_out t b M1 N1 x y) : ts_out t b M N x y := by
  rcases h with ⟨M', N', a, b, c, d⟩ | ⟨M', N', d, g, m, q, a, b, c, L, hm, e⟩
  · exact Or.inl ⟨M', N', a, b, c, ts_f_tr f d⟩
  · exact Or.inr ⟨M', N', d, g, m, q, a, b, c, L, hm, ts_f_tr f e⟩
theorem ts_loop {t b : Nat} (ht : 4 ≤ t) (ht2 : t + 19 ≤ 237) (hb : b < 2 ^ 30) : ∀ j i, i + j = 40 → ∀ k1 k2, j < k1 → j < k2 → ∀ (M N : cl_M) (g m : Nat), tx_P n M N → cg_L M t (N 239) g m → m + 200 * (j + 1) ≤ b →
    ts_out t b M N (f_X3_readCommands_2 k1 M 1 t (nI i)) (f_X6_commandsText_2 k2 N 237 (nI i)) := by
  intro j
  induction j with
  | zero =>
    intro i hi k1 k2 hk1 hk2 M N g m P L hm
    obtain ⟨k1, rfl, hk1⟩ := cu_fuel hk1
    obtain ⟨k2, rfl, hk2⟩ := cu_fuel hk2
    obtain ⟨M1, a1, K1, f1⟩ := tx_adv P
    have hi : i = 40 := by omega
    subst hi
    rw [f_X3_readCommands_2, if_neg (show ¬ (40 : Int32) < nI 40 by decide), a1, Option.bind_some, f_X6_commandsText_2]
    rcases tx_kind K1 with ⟨e1, e2⟩ | ⟨e1, e2⟩
    · right
      rw [if_pos e1, if_pos e2]
      exact ⟨M1, N, 40, g, m, Nat.le_refl _, rfl, rfl, K1.2.2, ts_L f1 ht L, by omega, ts_f_of f1⟩
    · left
      rw [if_neg e1, if_neg e2]
      obtain ⟨c, mm, u1, u2, u3⟩ := tx_command K1
      have K2 : tx_K n (cl_ms M1 1 6 c) N := tx_K_cong K1 (fun k hk => by rw [cl_ms, cl_row_s, pk_un hk]) (cl_row_n (by decide)) rfl rfl
      have f2 : ts_f t M1 (cl_ms M1 1 6 c) N N := ⟨fun x a _ _ => cl_row_n a, fun _ _ _ _ => rfl, by rw [cl_ms, cl_row_s, pk_un (by decide)], fun _ _ _ _ => rfl⟩
      have g6 : (cl_ms M1 1 6 c) 1 6 = c := by rw [cl_ms, cl_row_s, pk_us]
      have z0 : cl_bz 0 = true := by decide
      rw [f_X3_isCommand, u1, Option.bind_some, cl_let, g6, u2, Option.bind_some]
      rcases u3 with ⟨rfl, rfl⟩ | ⟨q, hq, rfl, rfl⟩
      · obtain ⟨M3, N3, w1, w2, w3, w4⟩ := tx_fail K2 1
        refine ⟨M3, N3, ?_, ?_, w3, ts_f_tr (ts_f_of f1) (ts_f_tr f2 (ts_f_of w4))⟩
        · rw [if_pos rfl, w1, cu_b2, if_pos z0, cu_b2, if_pos rfl]
        · rw [if_pos rfl, w2, cu_b2, f_X6_commandsText_55, if_pos rfl]
      · obtain ⟨M3, N3, w1, w2, w3, w4⟩ := tx_fail K2 4
        refine ⟨M3, N3, ?_, ?_, w3, ts_f_tr (ts_f_of f1) (ts_f_tr f2 (ts_f_of w4))⟩
        · rw [if_neg (nI_ne0 (by omega) (by omega)), if_pos (show nI 40 = 40 from rfl), f_X3_isCommand_35, w1, cu_b2, if_pos z0, cu_b2, if_pos rfl]
        · rw [if_neg (cu_m1 (by omega))]
          have L2 : cg_L (cl_ms M1 1 6 (nI (q + 1))) t (N 239) g m := cg_L_cong (fun x a _ => cp_ms (by omega)) (fun _ _ => rfl) (ts_L f1 ht L)
          rcases tx_full L2 hq g6 with ⟨-, y2⟩ | ⟨-, y2, -⟩
          · rw [y2, Option.bind_some, if_neg (by decide), f_X6_commandsText_42, w2, cu_b2, f_X6_commandsText_55, if_pos rfl]
          · rw [y2, Option.bind_some, if_pos rfl, if_pos (show nI 40 = 40 from rfl), f_X6_commandsText_42, w2, cu_b2, f_X6_commandsText_55, if_pos rfl]
  | succ j ih =>
    intro i hi k1 k2 hk1 hk2 M N g m P L hm
    obtain ⟨k1, rfl, hk1⟩ := cu_fuel hk1
    obtain ⟨k2, rfl, hk2⟩ := cu_fuel hk2
    obtain ⟨M1, a1, K1, f1⟩ := tx_adv P
    have o1 : ¬ (1 : Int32) = 0 := by decide
    rw [f_X3_readCommands_2, if_neg (show ¬ (40 : Int32) < nI i from nI_nlt (a := 40) (by omega) (by omega)), a1, Option.bind_some, f_X6_commandsText_2]
    rcases tx_kind K1 with ⟨e1, e2⟩ | ⟨e1, e2⟩
    · right
      rw [if_pos e1, if_pos e2]
      exact ⟨M1, N, i, g, m, by omega, rfl, rfl, K1.2.2, ts_L f1 ht L, by omega, ts_f_of f1⟩
    · rw [if_neg e1, if_neg e2]
      obtain ⟨c, mm, u1, u2, u3⟩ := tx_command K1
      have K2 : tx_K n (cl_ms M1 1 6 c) N := tx_K_cong K1 (fun k hk => by rw [cl_ms, cl_row_s, pk_un hk]) (cl_row_n (by decide)) rfl rfl
      have f2 : ts_f t M1 (cl_ms M1 1 6 c) N N := ⟨fun x a _ _ => cl_row_n a, fun _ _ _ _ => rfl, by rw [cl_ms, cl_row_s, pk_un (by decide)], fun _ _ _ _ => rfl⟩
      have f12 : ts_f t M (cl_ms M1 1 6 c) N N := ts_f_tr (ts_f_of f1) f2
      have g6 : (cl_ms M1 1 6 c) 1 6 = c := by rw [cl_ms, cl_row_s, pk_us]
      have L2 : cg_L (cl_ms M1 1 6 c) t (N 239) g m := cg_L_cong (fun x a _ => cp_ms (by omega)) (fun _ _ => rfl) (ts_L f1 ht L)
      have z0 : cl_bz 0 = true := by decide
      rw [f_X3_isCommand, u1, Option.bind_some, cl_let, g6, u2, Option.bind_some]
      refine ts_out_f f12 ?_
      rcases u3 with ⟨rfl, rfl⟩ | ⟨q, hq, rfl, rfl⟩
      · left
        obtain ⟨M3, N3, w1, w2, w3, w4⟩ := tx_fail K2 1
        refine ⟨M3, N3, ?_, ?_, w3, ts_f_of w4⟩
        · rw [if_pos rfl, w1, cu_b2, if_pos z0, cu_b2, if_pos rfl]
        · rw [if_pos rfl, w2, cu_b2, f_X6_commandsText_55, if_pos rfl]
      · have hi40 : ¬ nI i = 40 := fun z => by have := (nI_eq (b := 40) (show i < 2 ^ 31 by omega) (by omega)).mp z; omega
        rw [if_neg (nI_ne0 (by omega) (by omega)), if_neg (cu_m1 (by omega)), if_neg hi40]
        generalize cl_ms M1 1 6 (nI (q + 1)) = M2 at K2 g6 L2
        rcases tx_full L2 hq g6 with ⟨y1, y2⟩ | ⟨y1, y2, y3, y4, y5⟩
        · left
          obtain ⟨M3, N3, w1, w2, w3, w4⟩ := tx_fail K2 4
          refine ⟨M3, N3, ?_, ?_, w3, ts_f_of w4⟩
          · rw [y1, Option.bind_some, if_neg o1, f_X3_isCommand_35, w1, cu_b2, if_pos z0, cu_b2, if_pos rfl]
          · rw [y2, Option.bind_some, if_neg o1, f_X6_commandsText_42, w2, cu_b2, f_X6_commandsText_55, if_pos rfl]
        · rw [y1, y2, Option.bind_some, Option.bind_some, if_pos rfl, if_pos rfl, cu_b2, if_neg o1, if_neg hi40]
          obtain ⟨N1, v1, P1, f3⟩ := tx_nxt K2
          obtain ⟨-, ⟨c4, q41, q48, e4, -⟩, -⟩ := L2.1.2.2.2.2.2.1
          rw [cw_xi rfl] at e4
          have L3 := ts_L f3 ht L2
          have e4' : N1 239 4 = nI c4 := by rw [f3.2.1 239 (by decide) (by decide)]; exact e4
          rw [f_X6_commandText, v1, Option.bind_some]
          refine ts_out_f (ts_f_of f3) ?_
          rcases tx_argt P1 hq g6 L3 ht e4' q48 with ⟨M3, N3, w1, w2, w3, w4⟩ | ⟨M3, N3, a, w1, w2, P3, w4, w5, w6⟩
          · left
            refine ⟨M3, N3, ?_, ?_, w3, ts_f_of w4⟩
            · rw [w1, cu_b2, if_pos rfl]
            · rw [w2, cu_b2, if_pos rfl, cu_b2, f_X6_commandsText_55, if_pos rfl]
          · rw [w1, w2, cu_b2, cu_b2, if_neg o1, if_neg o1]
            have L4 := ts_L w6 ht L3
            refine ts_out_f (ts_f_of w6) ?_
            rcases tx_end P3 with ⟨M4, N4, x1, x2, x3, x4⟩ | ⟨M4, x1, x2, x3, K4, x5⟩
            · left
              refine ⟨M4, N4, ?_, ?_, x3, ts_f_of x4⟩
              · rw [x1, cu_b2, if_pos rfl]
              · rw [x2, cu_b2, if_pos rfl, cu_b2, f_X6_commandsText_55, if_pos rfl]
            · rw [x1, x2, cu_b2, cu_b2, if_neg o1, if_neg o1]
              have L5 := ts_L x5 ht L4
              have A4 := tx_keep (k := tx_n q) x5 (fun _ _ => rfl) w4
              have g64 : M4 1 6 = nI (q + 1) := by rw [x5.2.2.1.1, w6.2.2.1.1, f3.2.2.1.1]; exact g6
              have hN3 : N3 239 = N 239 := (w6.2.1 239 (by decide) (by decide)).trans (f3.2.1 239 (by decide) (by decide))
              have e43 : N3 239 4 = nI c4 := by rw [hN3]; exact e4
              refine ts_out_f (ts_f_of x5) ?_
              rcases tx_exec L5 hq g64 A4 w5 e43 q48 y3 (by rw [hN3]; exact y4) (by rw [hN3]; exact y5) (by omega) with ⟨s1, s2⟩ | ⟨M5, u, r', n', m', s1, s2, s3, s4, s5, s6⟩
              · left
                obtain ⟨M6, N6, p1, p2, p3, p4⟩ := tx_fail K4 3
                refine ⟨M6, N6, ?_, ?_, p3, ts_f_of p4⟩
                · rw [s1, cu_b2, if_pos rfl, p1, cu_b2]
                · rw [s2, Option.bind_some, if_pos rfl, p2, cu_b2, if_pos z0, cu_b2, f_X6_commandsText_55, if_pos rfl]
              · have K5 : tx_K n M5 (cl_row N3 239 r') := tx_K_cong K4 (fun k _ => by rw [s6 1 (by omega)]) (s6 2 (by omega)) (cl_row_n (by decide)) (cl_row_n (by decide))
                have t15 : (cl_row N3 239 r') 237 15 = 2 := by rw [cl_row_n (by decide)]; exact x3
                obtain ⟨N6, p1, P6, f6⟩ := tx_nxt K5
                have hsem : f_X6_semicolon (cl_row N3 239 r') 237 = some (1, N6) := by
                  rw [f_X6_semicolon, f_X6_isEnd, if_pos t15, f_X6_isEnd_16, f_X6_isEnd_21, if_pos (show cl_bz 1 = true by decide), cu_b2, if_neg o1, p1, Option.bind_some]
                have f5 : ts_f t M4 M5 N3 (cl_row N3 239 r') := ⟨fun x _ _ h => s6 x h, fun x a b _ => cl_row_n b, by rw [s6 1 (by omega)], fun k _ _ _ => by rw [cl_row_n (show 237 ≠ 239 by decide)]⟩
                have L6 : cg_L M5 t (N6 239) n' m' := by
                  refine ts_L f6 ht ?_
                  rw [cl_row_s]; exact s4
                have hfin := ih (i + 1) (by omega) k1 k2 (by omega) (by omega) M5 N6 n' m' P6 L6 (by omega)
                rw [s1, cu_b2, if_neg o1, cl_let, nI_1, s2, Option.bind_some, if_neg o1, s3, cu_b2, cu_b2, f_X6_commandsText_55, if_neg o1, hsem, cu_b2, if_neg o1, cl_let, nI_1]
                exact ts_out_f (ts_f_tr f5 (ts_f_of f6)) hfin
theorem ts_all {t b g m : Nat} (ht : 4 ≤ t) (ht2 : t + 19 ≤ 237) (P : tx_P n M N) (L : cg_L M t (N 239) g m) (hm : m + 8200 ≤ b) (hb : b < 2 ^ 30) : ts_out t b M N (f_X3_readCommands M 1 t) (f_X6_commandsText N 237) :=
  ts_loop ht ht2 hb 40 0 (by omega) cl_F cl_F (by unfold cl_F; omega) (by unfold cl_F; omega) M N g m P L (by omega)
end TS
