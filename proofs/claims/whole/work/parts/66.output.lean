/-! the line written, on both sides -/
theorem cx_eq_c {B B' : Nat} {M : cl_M} {x : Option (Int32 × cl_M)} {y : cl_M → Option (Int32 × cl_M)} (Y : cl_M → Option (Int32 × cl_M)) (R : cx_R B M) (H : ∀ N, cx_P B M N → (∀ c, 237 ≤ c → c ≠ 237 → c ≠ 247 → N c = M c) → ∃ v M2 N2, x = some (v, M2) ∧ Y N = some (v, N2) ∧ (∀ c, 237 ≤ c → M2 c = M c) ∧ (∀ c, c < 237 → N2 c = N c) ∧ cx_P B' M2 N2) (hy : ∀ N, (∀ c, 237 ≤ c → c ≠ 247 → N c = M c) → y N = Y (cl_ms N 237 4 0)) : cx_eq B' x y := by
  have hc : ∀ N : cl_M, (∀ c, 237 ≤ c → c ≠ 247 → N c = M c) → ∀ c, 237 ≤ c → c ≠ 237 → c ≠ 247 → (cl_ms N 237 4 0) c = M c := fun N h c a b d => by rw [cp_ms b, h c a d]
  have h0 : ∀ c, 237 ≤ c → c ≠ 247 → M c = M c := fun _ _ _ => rfl
  obtain ⟨v, M2, _, e, -, fM, -⟩ := H (cl_ms M 237 4 0) (cx_P0 R h0) (hc M h0)
  have hN' : ∀ c, 237 ≤ c → c ≠ 247 → M2 c = M c := fun c a b => fM c a
  obtain ⟨v', M2', N2, e', eN, fM', fN, P⟩ := H (cl_ms M2 237 4 0) (cx_P0 R hN') (hc M2 hN')
  obtain ⟨rfl, rfl⟩ := Prod.mk.inj (Option.some.inj (e'.symm.trans e))
  have q : ∀ c, c < 237 → N2 c = M2' c := fun c hc => by rw [fN c hc, cp_ms (by omega)]
  exact ⟨v', M2', N2, e, (hy M2' hN').trans eN, cx_RP (cx_P_f P ⟨fun x _ a _ _ => q x a, by rw [q 1 (by omega)], by rw [q 1 (by omega)], by rw [q 1 (by omega)]⟩ cx_fN_0)⟩
theorem ou_line {M N : cl_M} {n m : Nat} {sun : Int32} (L : cg_L M 4 (N 239) n m) (h18 : N 237 18 = nI 24) : ∃ X Y, f_X5_writeLine_20 cl_F M 0 sun 0 = some (nI 24, cl_ms (cl_row M 198 X) 0 7 24) ∧ f_X6_writeLine_24 cl_F N 237 sun 0 = some (nI 24, cl_row N 246 Y) ∧ ∀ q, q < 24 → X q = Y q := by
  have hn := L.1.1
  have H : ∀ j i, i + j = 24 → ∀ k1 k2, j < k1 → j < k2 → ∀ X Y : Nat → Int32, (∀ q, q < i → X q = Y q) → ∃ X' Y', f_X5_writeLine_20 k1 (cl_row M 198 X) 0 sun (nI i) = some (nI 24, cl_ms (cl_row M 198 X') 0 7 24) ∧ f_X6_writeLine_24 k2 (cl_row N 246 Y) 237 sun (nI i) = some (nI 24, cl_row N 246 Y') ∧ ∀ q, q < 24 → X' q = Y' q := by
    intro j
    induction j with
    | zero =>
      intro i hi k1 k2 hk1 hk2 X Y hXY
      obtain ⟨k1, rfl, hk1⟩ := cu_fuel hk1
      obtain ⟨k2, rfl, hk2⟩ := cu_fuel hk2
      have hi : i = 24 := by omega
      subst hi
      refine ⟨X, Y, ?_, ?_, hXY⟩
      · rw [f_X5_writeLine_20, if_pos (by decide), cl_let]
        rfl
      · rw [f_X6_writeLine_24, if_pos (by decide), cl_row_n (show 237 ≠ 246 by decide), h18]
    | succ j ih =>
      intro i hi k1 k2 hk1 hk2 X Y hXY
      obtain ⟨k1, rfl, hk1⟩ := cu_fuel hk1
      obtain ⟨k2, rfl, hk2⟩ := cu_fuel hk2
      have L' : cg_L (cl_row M 198 X) 4 ((cl_row N 246 Y) 239) n m := cg_L_cong (fun x a b => cl_row_n (by omega)) (fun k _ => by rw [cl_row_n (by decide)]) L
      have hge : ¬ (24 : Int32) ≤ nI i := nI_ge (b := 24) (by omega) (by omega)
      have o1 := cq_onC (M := cl_row M 198 X) (t := 4) (s := nI i) hn L'.1.2.1
      have o2 := cq_onN (N := cl_row N 246 Y) (s := nI i) hn L'.1.2.2.1 (ck_G L')
      rw [cu_rself] at o2
      have oe : cq_on (fun k => (cl_row M 198 X) (4 + 8 + 1 + k)) (nI i) n 0 = cq_on (cg_G (cl_row M 198 X) 4) (nI i) n 0 := rfl
      rw [oe] at o1
      generalize cq_on (cg_G (cl_row M 198 X) 4) (nI i) n 0 = v at o1 o2
      have go : ∀ b : Int32, ∃ X' Y', f_X5_writeLine_75 (f_X5_writeLine_20 k1) (cl_row M 198 (upd X i b)) 0 sun (nI i) = some (nI 24, cl_ms (cl_row M 198 X') 0 7 24) ∧ f_X6_writeLine_68 (f_X6_writeLine_24 k2) (cl_row N 246 Y) 237 sun (nI i) b (nI i) 246 = some (nI 24, cl_row N 246 Y') ∧ ∀ q, q < 24 → X' q = Y' q := by
        intro b
        obtain ⟨X', Y', e1, e2, e3⟩ := ih (i + 1) (by omega) k1 k2 (by omega) (by omega) (upd X i b) (upd Y i b) (fun q hq => by
          by_cases h : q = i
          · rw [h, pk_us, pk_us]
          · rw [pk_un h, pk_un h]
            exact hXY q (by omega))
        refine ⟨X', Y', ?_, ?_, e3⟩
        · rw [f_X5_writeLine_75, cl_let, nI_1]
          exact e1
        · rw [f_X6_writeLine_68, if_pos (cu_inb (by omega) (by omega)), nI_clamp (by omega), cl_let, cl_let, nI_1, cu_tt]
          exact e2
      have w74 : ∀ b : Int32, f_X5_writeLine_74 (f_X5_writeLine_20 k1) (cl_row M 198 X) 0 sun (nI i) b (nI i) 198 = f_X5_writeLine_75 (f_X5_writeLine_20 k1) (cl_row M 198 (upd X i b)) 0 sun (nI i) := fun b => by
        rw [f_X5_writeLine_74, if_pos (cu_inb (by omega) (by omega)), nI_clamp (by omega), cl_let, cu_tt]
      rw [f_X5_writeLine_20, if_neg hge, show 0 + 4 = 4 from rfl, o1, Option.bind_some, show 0 + 198 = 198 from rfl, f_X6_writeLine_24, if_neg hge, o2, Option.bind_some, show 237 + 9 = 246 from rfl]
      by_cases hv : v = -1
      · rw [if_pos hv, if_pos hv, cq_hasN, Option.bind_some]
        by_cases hb : (sun >>> (nI i &&& 31)) &&& 1 = 1
        · rw [if_pos hb, if_pos hb, if_neg (show ¬ (1 : Int32) = 0 by decide), w74]
          exact go 42
        · rw [if_neg hb, if_neg hb, if_pos rfl, w74]
          exact go 45
      · rw [if_neg hv, if_neg hv, if_pos (cu_inb (by omega) (by omega)), nI_clamp (by omega), cl_let, cu_tt]
        exact go (48 + v)
  obtain ⟨X, Y, e1, e2, e3⟩ := H 24 0 rfl cl_F cl_F (by decide) (by decide) (M 198) (N 246) (fun q hq => absurd hq (by omega))
  rw [cu_rself] at e1 e2
  exact ⟨X, Y, e1, e2, e3⟩
variable {B : Nat} {M : cl_M}
theorem an_writeLine (R : cx_R B M) (hB : B < 2 ^ 30) : cx_eq B (f_X5_writeLine M 0) (fun N => f_X6_writeLine N 237) := by
  obtain ⟨n, m, hm, L⟩ := R.1
  obtain ⟨F, C⟩ := cx_F R
  refine cx_eq_c (fun N => f_X6_writeLine_24 cl_F (cl_ms N 237 18 24) 237 (cw_sunny (cw_x (M 239)) m) 0) R (fun N P hN => ?_) fun N hN => ?_
  · have hz : N 239 = M 239 := hN 239 (by omega) (by omega) (by omega)
    obtain ⟨N0, hN0⟩ : ∃ z, z = cl_ms N 237 18 24 := ⟨_, rfl⟩
    have vx : ∀ x, x ≠ 237 → N0 x = N x := fun x hx => by rw [hN0, cp_ms hx]
    have vk : ∀ k, k ≠ 18 → N0 237 k = N 237 k := fun k hk => by rw [hN0, cl_ms, cl_row_s, pk_un hk]
    have v18 : N0 237 18 = nI 24 := by rw [hN0, cl_ms, cl_row_s, pk_us]; rfl
    obtain ⟨X, Y, e1, e2, e3⟩ := ou_line (sun := cw_sunny (cw_x (M 239)) m) (show cg_L M 4 (N0 239) n m by rw [vx 239 (by decide), hz]; exact L) v18
    refine ⟨nI 24, cl_ms (cl_row M 198 X) 0 7 24, cl_row N0 246 Y, ?_, by show f_X6_writeLine_24 cl_F (cl_ms N 237 18 24) 237 _ 0 = _; rw [← hN0]; exact e2, fun c hc => by rw [cp_ms (by omega), cl_row_n (by omega)], fun c hc => by rw [cl_row_n (by omega), vx c (by omega)], ?_⟩
    · have e5 : f_X4_sunnyAt M (0 + 4 + 1) (M (0 + 4) 2) = some (cw_sunny (cw_x (M 239)) m) := by
        rw [show 0 + 4 + 1 = 5 from rfl, show 0 + 4 = 4 from rfl, L.1.2.2.2.1]
        exact cw_sunnyC F C (by omega)
      rw [f_X5_writeLine, e5, Option.bind_some]
      exact e1
    · obtain ⟨⟨g, m, hm, L⟩, ⟨n, hB, r1, q1⟩, ⟨e8, e9⟩, ⟨h, q, h8, q8, w1, w2, w3, w4⟩, hs', ho⟩ := P
      have hM : ∀ x, x ≠ 0 → x ≠ 198 → (cl_ms (cl_row M 198 X) 0 7 24) x = M x := fun x a b => by rw [cp_ms a, cl_row_n b]
      have hN' : ∀ x, x ≠ 237 → x ≠ 246 → (cl_row N0 246 Y) x = N x := fun x a b => by rw [cl_row_n b, vx x a]
      have hk : ∀ k, k ≠ 18 → (cl_row N0 246 Y) 237 k = N 237 k := fun k hk => by rw [cl_row_n (by decide), vk k hk]
      refine ⟨⟨g, m, hm, cg_L_cong (fun x a b => hM x (by omega) (by omega)) (fun k _ => by rw [hN' 239 (by decide) (by decide)]) L⟩, ⟨n, lx_B_cong (hM 2 (by omega) (by omega)) (hN' 238 (by decide) (by decide)) hB, by rw [hM 1 (by omega) (by omega), r1], by rw [hk 1 (by decide), q1]⟩, ⟨by rw [hM 1 (by omega) (by omega), hk 2 (by decide), e8], by rw [hM 1 (by omega) (by omega), hk 3 (by decide), e9]⟩, ⟨h, q, h8, q8, by rw [hM 42 (by omega) (by omega), w1], by rw [hk 9 (by decide), w2], by rw [hM 42 (by omega) (by omega), w3], fun i hi => ?_⟩, fun u hu => ?_, Or.inr ⟨by rw [cl_ms, cl_row_s, pk_us]; rfl, by rw [cl_row_n (by decide), v18], fun j hj => by rw [cp_ms (by decide), cl_row_s, cl_row_s]; exact e3 j hj⟩⟩
      · obtain ⟨g, m, hm, L⟩ := w4 i hi
        have hlt : (q + 8 - h + i) % 8 < 8 := Nat.mod_lt _ (by omega)
        exact ⟨g, m, hm, cg_L_cong (fun x a b => hM x (by omega) (by omega)) (fun k _ => by rw [hN' 242 (by decide) (by decide)]) L⟩
      · rw [hM 197 (by omega) (by omega), hN' 244 (by decide) (by decide)]
        obtain ⟨z1, z2⟩ := hs' u hu
        refine ⟨z1, ?_⟩
        rcases z2 with z2 | ⟨z2, g, m, hm, L⟩
        · exact Or.inl z2
        · exact Or.inr ⟨z2, g, m, hm, cg_L_cong (fun x a b => hM x (by omega) (by omega)) (fun k hk => by rw [hN' 243 (by decide) (by decide)]) L⟩
  · show f_X6_writeLine N 237 = f_X6_writeLine_24 cl_F (cl_ms (cl_ms N 237 4 0) 237 18 24) 237 _ 0
    have hz : (cl_ms N 237 4 0) 239 = M 239 := by rw [cx_t9, hN 239 (by decide) (by decide)]
    have e := cw_sunnyN (N := cl_ms N 237 4 0) F (by rw [hz]) (m := m) (by omega)
    rw [f_X6_writeLine, cl_let, show 237 + 2 = 239 from rfl, hz, L.1.2.2.2.2.1, e, Option.bind_some, cl_let]
theorem an_outputByte (R : cx_R B M) (a : Int32) : cx_e0 B M (f_X5_outputByte M 0 a) (fun N => f_X6_outputByte N 237 a) := by
  have ho := R.2.2.2.2.2
  have v18 : (cl_ms M 237 4 0) 237 18 = M 237 18 := by rw [cl_ms, cl_row_s, pk_un (by decide)]
  have v246 : (cl_ms M 237 4 0) (237 + 9) = M 246 := by rw [show 237 + 9 = 246 from rfl, cp_ms (by decide)]
  rcases ho with ⟨h1, h2⟩ | ⟨h1, h2, h3⟩
  · refine cx_e0_p R (-1) ?_ ?_
    · rw [f_X5_outputByte, h1]
      by_cases h : a < 0
      · rw [if_pos h]
        rfl
      · rw [if_neg h, if_neg h]
        rfl
    · show f_X6_outputByte M 237 a = _
      have hr : f_X6_inRange (cl_ms M 237 4 0) a 0 (0 - 1) = some 0 := by
        rw [cx_range]
        by_cases h : a < 0
        · rw [if_pos h]
        · have h2 : (0 - 1 : Int32) < a := by
            rw [fa_lt] at h ⊢
            have : (0 : Int32).toInt = 0 := by decide
            have : (0 - 1 : Int32).toInt = -1 := by decide
            omega
          rw [if_neg h, if_pos h2]
      rw [f_X6_outputByte, cl_let, v18, h2, hr, Option.bind_some, if_pos rfl, f_X6_outputByte_29]
  · rcases cx_idx a (c := 24) (by omega) (by omega) with ⟨i, hi, rfl, h4⟩ | ⟨h4, h5⟩
    · refine cx_e0_p R (M 198 i) ?_ ?_
      · rw [f_X5_outputByte, h1, if_neg (nI_pos (by omega)), if_pos (nI_lt hi (by omega)), if_pos (cu_inb (by omega) (by omega)), nI_clamp (by omega)]
        rfl
      · show f_X6_outputByte M 237 (nI i) = _
        rw [f_X6_outputByte, cl_let, v18, h2, h4, Option.bind_some, if_neg (by decide), if_pos (cu_inb (by omega) (by omega)), nI_clamp (by omega), f_X6_outputByte_29, v246, h3 i hi]
    · refine cx_e0_p R (-1) ?_ ?_
      · rw [f_X5_outputByte, h1]
        rcases h4 with h4 | ⟨h4, h6⟩
        · rw [if_pos h4]
          rfl
        · rw [if_neg h4, if_neg h6]
          rfl
      · show f_X6_outputByte M 237 a = _
        rw [f_X6_outputByte, cl_let, v18, h2, h5, Option.bind_some, if_pos rfl, f_X6_outputByte_29]
