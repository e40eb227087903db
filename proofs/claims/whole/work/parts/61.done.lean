/-! changes, recorded and done, on both sides -/
theorem cx_ok_le {B B' : Nat} {cs : List (Nat × Nat)} {x : Option (Except (Nat × cl_M) (Int32 × cl_M))} {y : cl_M → Option (Int32 × cl_M)} (h : cx_ok B cs x y) (hB : B ≤ B') : cx_ok B' cs x y := by
  rcases h with ⟨v, M1, e, f⟩ | ⟨e, c, M1, w, hm, h, f⟩
  · exact Or.inl ⟨v, M1, e, fun N hN => by
      obtain ⟨M2, a, b, c, R⟩ := f N hN
      exact ⟨M2, a, b, c, cx_R_le R hB⟩⟩
  · exact Or.inr ⟨e, c, M1, w, hm, h, fun N hN => by
      obtain ⟨M2, a, b, c, R⟩ := f N hN
      exact ⟨M2, a, b, c, cx_R_le R hB⟩⟩
theorem cx_P0 {B : Nat} {M N : cl_M} (R : cx_R B M) (h : ∀ c, 237 ≤ c → c ≠ 247 → N c = M c) : cx_P B M (cl_ms N 237 4 0) := by
  have k : ∀ k, k ≠ 4 → (cl_ms N 237 4 0) 237 k = M 237 k := fun k hk => by rw [cl_ms, cl_row_s, pk_un hk, h 237 (by omega) (by omega)]
  exact cx_P_f (cx_PR R) cx_fC_0 ⟨fun x a _ _ _ _ b c => by rw [cp_ms a, h x b c], fun k _ => by rw [cx_t9, h 239 (by omega) (by omega)], k 1 (by decide), k 2 (by decide), k 3 (by decide), k 9 (by decide), k 18 (by decide)⟩
/-- what both do from states alike -/
def cx_do (B : Nat) (M N : cl_M) (x : Option (Except (Nat × cl_M) (Int32 × cl_M))) (y : Option (Int32 × cl_M)) : Prop :=
  ∃ v M2 N2, x = some (.ok (v, M2)) ∧ y = some (v, N2) ∧ (∀ c, 237 ≤ c → M2 c = M c) ∧ (∀ c, c < 237 ∨ c = 247 → N2 c = N c) ∧ N2 237 4 = N 237 4 ∧ cx_P B M2 N2
theorem cx_ok_c {B B' : Nat} {cs : List (Nat × Nat)} {M : cl_M} {x : Option (Except (Nat × cl_M) (Int32 × cl_M))} {y : cl_M → Option (Int32 × cl_M)} (Y : cl_M → Option (Int32 × cl_M)) (R : cx_R B M) (H : ∀ N, cx_P B M N → (∀ c, 237 ≤ c → c ≠ 237 → c ≠ 247 → N c = M c) → cx_do B' M N x (Y N)) (hy : ∀ N, (∀ c, 237 ≤ c → c ≠ 247 → N c = M c) → y N = Y (cl_ms N 237 4 0)) : cx_ok B' cs x y := by
  have hc : ∀ N : cl_M, (∀ c, 237 ≤ c → c ≠ 247 → N c = M c) → ∀ c, 237 ≤ c → c ≠ 237 → c ≠ 247 → (cl_ms N 237 4 0) c = M c := fun N h c a b d => by rw [cp_ms b, h c a d]
  have h0 : ∀ c, 237 ≤ c → c ≠ 247 → M c = M c := fun _ _ _ => rfl
  obtain ⟨v, M2, _, e, -, fM, -⟩ := H (cl_ms M 237 4 0) (cx_P0 R h0) (hc M h0)
  refine Or.inl ⟨v, M2, e, fun N hN => ?_⟩
  have hN' : ∀ c, 237 ≤ c → c ≠ 247 → N c = M c := fun c a b => by rw [hN c b, fM c a]
  obtain ⟨v', M2', N2, e', eN, fM', fN, t, P⟩ := H (cl_ms N 237 4 0) (cx_P0 R hN') (hc N hN')
  obtain ⟨rfl, rfl⟩ := cx_inj e e'
  have q : ∀ c, c < 237 → N2 c = M2' c := fun c hc => by rw [fN c (Or.inl hc), cp_ms (by omega), hN c (by omega)]
  exact ⟨N2, (hy N hN').trans eN, t.trans cx_t4, by rw [fN 247 (Or.inr rfl), cx_t7], cx_RP (cx_P_f P ⟨fun x _ a _ _ => q x a, by rw [q 1 (by omega)], by rw [q 1 (by omega)], by rw [q 1 (by omega)]⟩ cx_fN_0)⟩
theorem cx_zN {N : cl_M} {n : Nat} (h : N 239 7 = nI n) : (cl_ms N 237 4 0) 239 7 = nI n := by rw [cx_t9, h]
/-- recorded, then a line now -/
theorem cx_rec {B B' : Nat} {M N : cl_M} (hB : B ≤ B') (P : cx_P B M N) : ∃ M1 N1, f_X1_record M 42 4 = some M1 ∧ f_X6_record N 237 = some N1 ∧ (∀ x, x < 42 ∨ 196 ≤ x → M1 x = M x) ∧ N1 239 = N 239 ∧ N1 = cl_row N1 239 (N 239) ∧
    (∀ {n m : Nat}, cg_L M 4 (N 239) n m → cg_L M1 4 (N 239) n m) ∧
    ∀ (x : Option (Except (Nat × cl_M) (Int32 × cl_M))) (y : Option (Int32 × cl_M)) (v : Int32) (M2 : cl_M) (r : Nat → Int32) (n m : Nat), x = some (.ok (v, M2)) → y = some (v, cl_row N1 239 r) → cg_L M2 4 r n m → m ≤ B' → (∀ x, x < 4 ∨ 23 ≤ x → M2 x = M1 x) → cx_do B' M N x y := by
  obtain ⟨M1, N1, e1, e2, f1, f2, f3, P1⟩ := hi_record P
  have h9 : N1 239 = N 239 := f2 239 (by decide) (by decide) (by decide)
  refine ⟨M1, N1, e1, e2, f1, h9, by rw [← h9]; exact cu_rowN N1, fun {n m} L => cg_L_cong (fun x a b => f1 x (by omega)) (fun _ _ => rfl) L, fun x y v M2 r n m hx hy L hm hf => ?_⟩
  refine ⟨v, M2, _, hx, hy, fun c hc => by rw [hf c (by omega), f1 c (by omega)], fun c hc => by rw [cl_row_n (by omega), f2 c (by omega) (by omega) (by omega)], by rw [cl_row_n (by omega), f3 4 (by omega)], ?_⟩
  exact cx_P_line (g := n) (m := m) P1 hB hm (by rw [cl_row_s]; exact L) hf fun x hx => cl_row_n hx
theorem cx_rs1 {M : cl_M} : f_X5_requireState M 1 = some (.ok M) := rfl
theorem cx_rs0 {M : cl_M} : f_X5_requireState M 0 = some (.error (3, M)) := rfl
theorem cx_oc {M M1 : cl_M} {n : Nat} (h : ∀ x, x < 42 → M1 x = M x) (hn : n ≤ 10) : ck_oc M1 4 n = ck_oc M 4 n := cu_it_cong fun k hk y => by rw [cg_G, cg_G, h (4 + 9 + k) (by omega)]
variable {B : Nat} {M : cl_M}
theorem an_takeDown (R : cx_R B M) (a : Int32) : cx_ok B [(2, 1), (3, 2)] (f_X5_takeDown M 0 a) (fun N => f_X6_takeDown N 237 a) := by
  obtain ⟨n, m, hm, L⟩ := R.1
  have hn := L.1.1
  rcases cx_known L a with ⟨g, hg, rfl, h1, h2⟩ | ⟨h1, h2⟩
  · have hI : ∀ N : cl_M, N 239 = M 239 → f_X6_isIn (cl_ms N 237 4 0) 237 (nI g) 1 = some (if M (4 + 9 + g) 6 = 1 then 1 else 0) := fun N h => td_isIn (N := cl_ms N 237 4 0) (M := M) (by rw [cx_t9, h]; exact L) hg
    by_cases h6 : M (4 + 9 + g) 6 = 1
    · refine cx_ok_c (fun N => (f_X6_record N 237).bind (fun M11 => cl_b2 (f_X6_doTake M11 237 (nI g)) (fun v13 M14 => some (v13, M14)))) R (fun N P hN => ?_) fun N hN => ?_
      · have L : cg_L M 4 (N 239) n m := by rw [hN 239 (by omega) (by omega) (by omega)]; exact L
        obtain ⟨M1, N1, e1, e2, f1, -, f3, tr, fin⟩ := cx_rec (B' := B) (Nat.le_refl _) P
        obtain ⟨M2, r2, a1, a2, a3, a4⟩ := ac_take (N := N1) (tr L) hg
        rw [← f3] at a2
        refine fin _ _ (M2 (4 + 9 + g) 3) M2 r2 n m ?_ ?_ a3 hm fun x hx => a4 x (by omega)
        · rw [f_X5_takeDown, h1, cx_x2, if_pos h6, f_X5_takeDown_19, cx_rs1, cx_x1, show 0 + 42 = 42 from rfl, show 0 + 4 = 4 from rfl, e1, Option.bind_some]
          rw [a1, Option.bind_some]
        · show (f_X6_record N 237).bind _ = _
          rw [e2, Option.bind_some, a2, cu_b2]
      · show f_X6_takeDown N 237 (nI g) = (f_X6_record (cl_ms N 237 4 0) 237).bind _
        rw [f_X6_takeDown, h2 N (by rw [hN 239 (by decide) (by decide)]; exact L.1.2.2.1), cu_b2, if_neg (by decide), hI N (hN 239 (by decide) (by decide)), if_pos h6, Option.bind_some, cx_fails1, cu_b2, if_pos rfl]
    · refine cx_ok_e R 3 2 0 (by decide) (by rw [f_X5_takeDown, h1, cx_x2, if_neg h6, f_X5_takeDown_19, cx_rs0, cx_x1e]) fun N hN => ?_
      show f_X6_takeDown N 237 (nI g) = _
      rw [f_X6_takeDown, h2 N (by rw [hN 239 (by decide)]; exact L.1.2.2.1), cu_b2, if_neg (by decide), hI N (hN 239 (by decide)), if_neg h6, Option.bind_some, cx_fails0, cu_b2, if_neg (by decide), cx_tt]
      rfl
  · refine cx_ok_e R 2 1 0 (by decide) (by rw [f_X5_takeDown, h1, cx_x2e]) fun N hN => ?_
    show f_X6_takeDown N 237 a = _
    rw [f_X6_takeDown, h2 N (by rw [hN 239 (by decide)]; exact L.1.2.2.1), cu_b2, if_pos rfl]
theorem an_wash (R : cx_R B M) (a : Int32) : cx_ok B [(2, 1), (3, 2)] (f_X5_wash M 0 a) (fun N => f_X6_wash N 237 a) := by
  obtain ⟨n, m, hm, L⟩ := R.1
  have hn := L.1.1
  rcases cx_known L a with ⟨g, hg, rfl, h1, h2⟩ | ⟨h1, h2⟩
  · have hI : ∀ N : cl_M, N 239 = M 239 → f_X6_isIn (cl_ms N 237 4 0) 237 (nI g) 0 = some (if M (4 + 9 + g) 6 = 0 then 1 else 0) := fun N h => td_isIn (N := cl_ms N 237 4 0) (M := M) (by rw [cx_t9, h]; exact L) hg
    by_cases h6 : M (4 + 9 + g) 6 = 0
    · refine cx_ok_c (fun N => (f_X6_record N 237).bind (fun M11 => cl_b2 (f_X6_doWash M11 237 (nI g)) (fun v13 M14 => some (v13, M14)))) R (fun N P hN => ?_) fun N hN => ?_
      · have L : cg_L M 4 (N 239) n m := by rw [hN 239 (by omega) (by omega) (by omega)]; exact L
        obtain ⟨M1, N1, e1, e2, f1, -, f3, tr, fin⟩ := cx_rec (B' := B) (Nat.le_refl _) P
        obtain ⟨M2, r2, a1, a2, a3, a4⟩ := ac_wash (N := N1) (tr L) hg
        rw [← f3] at a2
        refine fin _ _ (M2 (4 + 9 + g) 3 - M1 (4 + 9 + g) 3) M2 r2 n m ?_ ?_ a3 hm fun x hx => a4 x (by omega)
        · rw [f_X5_wash, h1, cx_x2, if_pos h6, f_X5_wash_18, cx_rs1, cx_x1, show 0 + 42 = 42 from rfl, show 0 + 4 = 4 from rfl, e1, Option.bind_some]
          rw [cl_let, a1, Option.bind_some]
        · show (f_X6_record N 237).bind _ = _
          rw [e2, Option.bind_some, a2, cu_b2]
      · show f_X6_wash N 237 (nI g) = (f_X6_record (cl_ms N 237 4 0) 237).bind _
        rw [f_X6_wash, h2 N (by rw [hN 239 (by decide) (by decide)]; exact L.1.2.2.1), cu_b2, if_neg (by decide), hI N (hN 239 (by decide) (by decide)), if_pos h6, Option.bind_some, cx_fails1, cu_b2, if_pos rfl]
    · refine cx_ok_e R 3 2 0 (by decide) (by rw [f_X5_wash, h1, cx_x2, if_neg h6, f_X5_wash_18, cx_rs0, cx_x1e]) fun N hN => ?_
      show f_X6_wash N 237 (nI g) = _
      rw [f_X6_wash, h2 N (by rw [hN 239 (by decide)]; exact L.1.2.2.1), cu_b2, if_neg (by decide), hI N (hN 239 (by decide)), if_neg h6, Option.bind_some, cx_fails0, cu_b2, if_neg (by decide), cx_tt]
      rfl
  · refine cx_ok_e R 2 1 0 (by decide) (by rw [f_X5_wash, h1, cx_x2e]) fun N hN => ?_
    show f_X6_wash N 237 a = _
    rw [f_X6_wash, h2 N (by rw [hN 239 (by decide)]; exact L.1.2.2.1), cu_b2, if_pos rfl]
theorem an_pickUp (R : cx_R B M) (a : Int32) : cx_ok B [(2, 1), (3, 2)] (f_X5_pickUp M 0 a) (fun N => f_X6_pickUp N 237 a) := by
  obtain ⟨n, m, hm, L⟩ := R.1
  have hn := L.1.1
  rcases cx_known L a with ⟨g, hg, rfl, h1, h2⟩ | ⟨h1, h2⟩
  · have hI : ∀ N : cl_M, N 239 = M 239 → f_X6_isIn (cl_ms N 237 4 0) 237 (nI g) 2 = some (if M (4 + 9 + g) 6 = 2 then 1 else 0) := fun N h => td_isIn (N := cl_ms N 237 4 0) (M := M) (by rw [cx_t9, h]; exact L) hg
    by_cases h6 : M (4 + 9 + g) 6 = 2
    · refine cx_ok_c (fun N => (f_X6_record N 237).bind (fun M11 => cl_b2 (f_X6_doPick M11 237 (nI g)) (fun v13 M14 => some (v13, M14)))) R (fun N P hN => ?_) fun N hN => ?_
      · have L : cg_L M 4 (N 239) n m := by rw [hN 239 (by omega) (by omega) (by omega)]; exact L
        obtain ⟨M1, N1, e1, e2, f1, -, f3, tr, fin⟩ := cx_rec (B' := B) (Nat.le_refl _) P
        obtain ⟨M2, r2, w, a1, b1, b2, a2, a3, a4⟩ := ac_pick (N := N1) (tr L) hg (by rw [f1 (4 + 9 + g) (by omega)]; exact h6)
        rw [← f3] at a2
        refine fin _ _ (cu_bc w) M2 r2 n m ?_ ?_ a3 hm fun x hx => a4 x (by omega)
        · rw [f_X5_pickUp, h1, cx_x2, if_pos h6, f_X5_pickUp_19, cx_rs1, cx_x1, show 0 + 42 = 42 from rfl, show 0 + 4 = 4 from rfl, e1, Option.bind_some]
          rw [a1, Option.bind_some, b1, Option.bind_some, b2, Option.bind_some]
        · show (f_X6_record N 237).bind _ = _
          rw [e2, Option.bind_some, a2, cu_b2]
      · show f_X6_pickUp N 237 (nI g) = (f_X6_record (cl_ms N 237 4 0) 237).bind _
        rw [f_X6_pickUp, h2 N (by rw [hN 239 (by decide) (by decide)]; exact L.1.2.2.1), cu_b2, if_neg (by decide), hI N (hN 239 (by decide) (by decide)), if_pos h6, Option.bind_some, cx_fails1, cu_b2, if_pos rfl]
    · refine cx_ok_e R 3 2 0 (by decide) (by rw [f_X5_pickUp, h1, cx_x2, if_neg h6, f_X5_pickUp_19, cx_rs0, cx_x1e]) fun N hN => ?_
      show f_X6_pickUp N 237 (nI g) = _
      rw [f_X6_pickUp, h2 N (by rw [hN 239 (by decide)]; exact L.1.2.2.1), cu_b2, if_neg (by decide), hI N (hN 239 (by decide)), if_neg h6, Option.bind_some, cx_fails0, cu_b2, if_neg (by decide), cx_tt]
      rfl
  · refine cx_ok_e R 2 1 0 (by decide) (by rw [f_X5_pickUp, h1, cx_x2e]) fun N hN => ?_
    show f_X6_pickUp N 237 a = _
    rw [f_X6_pickUp, h2 N (by rw [hN 239 (by decide)]; exact L.1.2.2.1), cu_b2, if_pos rfl]
