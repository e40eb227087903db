/-! save, restore, on both sides -/
variable {B : Nat} {M : cl_M}
theorem hi_nar1 : vp_nar .boolean 1 = 1 := by decide
theorem hi_nar0 : vp_nar .boolean 0 = 0 := by decide
theorem hi_saveN {N : cl_M} {s : Nat} (hs : s < 2) : f_X6_save_23 cl_F N 237 (nI s) 0 = some (N 239 0, cl_ms (cl_row N 243 (hi_to (N 239) (N 243) (149 * s) 149)) 244 s 1) := by
  have H : ∀ j i, i + j = 149 → ∀ k, j < k → f_X6_save_23 k (cl_row N 243 (hi_to (N 239) (N 243) (149 * s) i)) 237 (nI s) (nI i) = some (N 239 0, cl_ms (cl_row N 243 (hi_to (N 239) (N 243) (149 * s) 149)) 244 s 1) := by
    intro j
    induction j with
    | zero =>
      intro i hi k hk
      obtain ⟨k, rfl, hk⟩ := cu_fuel hk
      have hi : i = 149 := by omega
      subst hi
      rw [f_X6_save_23, if_pos (by decide), if_pos (cu_inb (by omega) (by omega)), nI_clamp (by omega), cl_let, hi_nar1, show 237 + 7 = 244 from rfl, show 237 + 2 = 239 from rfl, cp_ms (by decide), cl_row_n (by decide)]
    | succ j ih =>
      intro i hi k hk
      obtain ⟨k, rfl, hk⟩ := cu_fuel hk
      have ih := ih (i + 1) (by omega) k (by omega)
      rw [f_X6_save_23, if_neg (show ¬ (149 : Int32) ≤ nI i from nI_ge (b := 149) (by omega) (by omega)), if_pos (cu_inb (by omega) (by omega)), hi_ix, if_pos (cu_inb (by omega) (by omega)), nI_clamp (by omega), nI_clamp (by omega), cl_let, cl_let, nI_1]
      rw [show 237 + 6 = 243 from rfl, show 237 + 2 = 239 from rfl, cu_tt, cl_row_n (show 239 ≠ 243 by decide), hi_to_s]
      exact ih
  have := H 149 0 rfl cl_F (by decide)
  rw [hi_to_0, cu_rself] at this
  exact this
theorem hi_restN {N : cl_M} {s : Nat} (hs : s < 2) : f_X6_restore_37 cl_F N 237 (nI s) 0 = some (N 243 (149 * s), cl_ms (cl_row N 239 (fa_fill (fun q => N 243 (149 * s + q)) (N 239) 149)) 237 9 0) := by
  have H : ∀ j i, i + j = 149 → ∀ k, j < k → f_X6_restore_37 k (cl_row N 239 (fa_fill (fun q => N 243 (149 * s + q)) (N 239) i)) 237 (nI s) (nI i) = some (N 243 (149 * s), cl_ms (cl_row N 239 (fa_fill (fun q => N 243 (149 * s + q)) (N 239) 149)) 237 9 0) := by
    intro j
    induction j with
    | zero =>
      intro i hi k hk
      obtain ⟨k, rfl, hk⟩ := cu_fuel hk
      have hi : i = 149 := by omega
      subst hi
      rw [f_X6_restore_37, if_pos (by decide), cl_let, show 237 + 2 = 239 from rfl, cp_ms (by decide), cl_row_s, fa_fill_in (by omega), Nat.add_zero]
    | succ j ih =>
      intro i hi k hk
      obtain ⟨k, rfl, hk⟩ := cu_fuel hk
      have ih := ih (i + 1) (by omega) k (by omega)
      rw [f_X6_restore_37, if_neg (show ¬ (149 : Int32) ≤ nI i from nI_ge (b := 149) (by omega) (by omega)), hi_ix, if_pos (cu_inb (by omega) (by omega)), if_pos (cu_inb (by omega) (by omega)), nI_clamp (by omega), nI_clamp (by omega), cl_let, cl_let, nI_1]
      rw [show 237 + 6 = 243 from rfl, show 237 + 2 = 239 from rfl, cu_tt, cl_row_n (show 243 ≠ 239 by decide), fa_fill_succ (fun q => N 243 (149 * s + q))]
      exact ih
  have := H 149 0 rfl cl_F (by decide)
  rw [fa_fill_0, cu_rself] at this
  exact this
theorem an_save (R : cx_R B M) (a : Int32) : cx_ok B [(1, 1)] (f_X5_save M 0 a) (fun N => f_X6_save N 237 a) := by
  rcases cx_req (M := M) (a := a) (b := 0) (c := 1) with ⟨j1, j2, h3, h4⟩ | ⟨h3, h4⟩
  · obtain ⟨s, hs, rfl⟩ := cx_nat (n := 1) (by omega) j1 j2
    have hs : s < 2 := by omega
    refine cx_ok_c (fun N => f_X6_save_23 cl_F N 237 (nI s) 0) R (fun N P hN => ?_) fun N hN => ?_
    · obtain ⟨⟨g, m, hm, L⟩, ⟨n, hB, r1, q1⟩, ⟨e8, e9⟩, ⟨h, q, h8, q8, w1, w2, w3, w4⟩, hs', ho⟩ := P
      obtain ⟨M0, z1, L1, f1⟩ := cp_line (t := 196 + 3 + 19 * s) L (by omega)
      obtain ⟨M1, hM1⟩ : ∃ z, z = cl_ms M0 197 s 1 := ⟨_, rfl⟩
      obtain ⟨N1, hN1⟩ : ∃ z, z = cl_ms (cl_row N 243 (hi_to (N 239) (N 243) (149 * s) 149)) 244 s 1 := ⟨_, rfl⟩
      have hM : ∀ x, (x < 199 + 19 * s ∨ 199 + 19 * s + 19 ≤ x) → x ≠ 197 → M1 x = M x := fun x a b => by rw [hM1, cp_ms b, f1 x (by omega)]
      have hN' : ∀ x, x ≠ 243 → x ≠ 244 → N1 x = N x := fun x a b => by rw [hN1, cp_ms b, cl_row_n a]
      have m0 : M0 197 = M 197 := f1 197 (by omega)
      have L1' : cg_L M1 (199 + 19 * s) (fun k => N1 243 (149 * s + k)) g m := by
        rw [show 199 + 19 * s = 196 + 3 + 19 * s by omega]
        refine cg_L_cong (M := M0) (r := N 239) (fun x a b => by rw [hM1, cp_ms (by omega)]) (fun k hk => ?_) L1
        rw [hN1, cp_ms (by decide), cl_row_s, hi_to_i hk]
      have a4 : M1 4 2 = N 239 0 := by rw [hM 4 (by omega) (by omega), L.1.2.2.2.1, L.1.2.2.2.2.1]
      refine ⟨N 239 0, M1, N1, ?_, by show f_X6_save_23 cl_F N 237 (nI s) 0 = _; rw [hN1]; exact hi_saveN hs, fun c hc => hM c (by omega) (by omega), fun c hc => hN' c (by omega) (by omega), by rw [hN' 237 (by decide) (by decide)], ?_⟩
      · rw [f_X5_save, h3, cx_x1, if_pos (cu_inb (by omega) (by omega)), nI_clamp (by omega), show 0 + 196 + 3 + 19 * s = 196 + 3 + 19 * s by omega, show 0 + 4 = 4 from rfl, show 0 + 197 = 197 from rfl, z1, Option.bind_some, if_pos (cu_inb (by omega) (by omega)), cl_let, hi_nar1, ← hM1, a4]
      · refine ⟨⟨g, m, hm, cg_L_cong (fun x a b => hM x (by omega) (by omega)) (fun k _ => by rw [hN' 239 (by decide) (by decide)]) L⟩, ⟨n, lx_B_cong (hM 2 (by omega) (by omega)) (hN' 238 (by decide) (by decide)) hB, by rw [hM 1 (by omega) (by omega), r1], by rw [hN' 237 (by decide) (by decide), q1]⟩, ⟨by rw [hM 1 (by omega) (by omega), hN' 237 (by decide) (by decide), e8], by rw [hM 1 (by omega) (by omega), hN' 237 (by decide) (by decide), e9]⟩, ⟨h, q, h8, q8, by rw [hM 42 (by omega) (by omega), w1], by rw [hN' 237 (by decide) (by decide), w2], by rw [hM 42 (by omega) (by omega), w3], fun i hi => ?_⟩, fun u hu => ?_, ?_⟩
        · obtain ⟨g, m, hm, L⟩ := w4 i hi
          have hlt : (q + 8 - h + i) % 8 < 8 := Nat.mod_lt _ (by omega)
          exact ⟨g, m, hm, cg_L_cong (fun x a b => hM x (by omega) (by omega)) (fun k _ => by rw [hN' 242 (by decide) (by decide)]) L⟩
        · by_cases hus : u = s
          · subst hus
            have c1 : M1 197 u = 1 := by rw [hM1, cl_ms, cl_row_s, pk_us]
            have c2 : N1 244 u = 1 := by rw [hN1, cl_ms, cl_row_s, pk_us]
            exact ⟨c1.trans c2.symm, Or.inr ⟨c1, g, m, hm, L1'⟩⟩
          · have c1 : M1 197 u = M 197 u := by rw [hM1, cl_ms, cl_row_s, pk_un hus, m0]
            have c2 : N1 244 u = N 244 u := by rw [hN1, cl_ms, cl_row_s, pk_un hus, cl_row_n (by decide)]
            obtain ⟨z1, z2⟩ := hs' u hu
            rw [c1, c2]
            refine ⟨z1, ?_⟩
            rcases z2 with z2 | ⟨z2, g, m, hm, L⟩
            · exact Or.inl z2
            · exact Or.inr ⟨z2, g, m, hm, cg_L_cong (fun x a b => hM x (by omega) (by omega)) (fun k hk => by rw [hN1, cp_ms (by decide), cl_row_s, hi_to_o (by omega)]) L⟩
        · rw [hM 0 (by omega) (by omega), hN' 237 (by decide) (by decide), hM 198 (by omega) (by omega), hN' 246 (by decide) (by decide)]
          exact ho
    · show f_X6_save N 237 (nI s) = f_X6_save_23 cl_F (cl_ms N 237 4 0) 237 (nI s) 0
      rw [f_X6_save, cl_let, h4, Option.bind_some, cx_fails1, cu_b2, if_pos rfl]
  · refine cx_ok_e R 1 1 0 (by decide) (by rw [f_X5_save, h3, cx_x1e]) fun N hN => ?_
    show f_X6_save N 237 a = _
    rw [f_X6_save, cl_let, h4, Option.bind_some, cx_fails0, cu_b2, if_neg (by decide), cx_tt]
    rfl
theorem an_restore (R : cx_R B M) (a : Int32) : cx_ok B [(1, 1), (4, 2)] (f_X5_restore M 0 a) (fun N => f_X6_restore N 237 a) := by
  rcases cx_req (M := M) (a := a) (b := 0) (c := 1) with ⟨j1, j2, h3, h4⟩ | ⟨h3, h4⟩
  · obtain ⟨s, hs, rfl⟩ := cx_nat (n := 1) (by omega) j1 j2
    have hs : s < 2 := by omega
    obtain ⟨u1, u2⟩ := R.2.2.2.2.1 s hs
    have n4 : ∀ N : cl_M, N 244 = M 244 → (cl_ms N 237 4 0) (237 + 7) s = M 197 s := fun N h => by rw [show 237 + 7 = 244 from rfl, cp_ms (by decide), h, u1]
    by_cases hz : M 197 s = 0
    · refine cx_ok_e R 4 2 0 (by decide) (by rw [f_X5_restore, h3, cx_x1, if_pos (cu_inb (by omega) (by omega)), nI_clamp (by omega), show 0 + 197 = 197 from rfl, if_pos hz]) fun N hN => ?_
      show f_X6_restore N 237 (nI s) = _
      rw [f_X6_restore, cl_let, h4, Option.bind_some, cx_fails1, cu_b2, if_pos rfl, if_pos (cu_inb (by omega) (by omega)), nI_clamp (by omega), n4 N (hN 244 (by decide)), hz, cx_fails0, cu_b2, if_neg (by decide), cx_tt]
      rfl
    · have h1 : M 197 s = 1 := by
        rcases u2 with u2 | u2
        · exact absurd u2 hz
        · exact u2.1
      refine cx_ok_c (fun N => f_X6_restore_37 cl_F N 237 (nI s) 0) R (fun N P hN => ?_) fun N hN => ?_
      · obtain ⟨⟨g0, m0, hm0, L0⟩, ⟨n, hB, r1, q1⟩, ⟨e8, e9⟩, ⟨h, q, h8, q8, w1, w2, w3, w4⟩, hs', ho⟩ := P
        obtain ⟨g, m, hm, L⟩ : ∃ g m, m ≤ B ∧ cg_L M (196 + 3 + 19 * s) (fun k => N 243 (149 * s + k)) g m := by
          rcases (hs' s hs).2 with z | ⟨-, g, m, hm, L⟩
          · exact absurd z hz
          · exact ⟨g, m, hm, by rw [show 196 + 3 + 19 * s = 199 + 19 * s by omega]; exact L⟩
        obtain ⟨M0, z1, L1, f1⟩ := cp_line (t := 4) L (by omega)
        obtain ⟨M1, hM1⟩ : ∃ z, z = cl_ms M0 42 2 0 := ⟨_, rfl⟩
        obtain ⟨N1, hN1⟩ : ∃ z, z = cl_ms (cl_row N 239 (fa_fill (fun q => N 243 (149 * s + q)) (N 239) 149)) 237 9 0 := ⟨_, rfl⟩
        have hM : ∀ x, (x < 4 ∨ 23 ≤ x) → x ≠ 42 → M1 x = M x := fun x a b => by rw [hM1, cp_ms b, f1 x (by omega)]
        have m42 : M0 42 = M 42 := f1 42 (by omega)
        have hN' : ∀ x, x ≠ 237 → x ≠ 239 → N1 x = N x := fun x a b => by rw [hN1, cp_ms a, cl_row_n b]
        have hk : ∀ k, k ≠ 9 → N1 237 k = N 237 k := fun k hk => by rw [hN1, cl_ms, cl_row_s, pk_un hk, cl_row_n (by decide)]
        have a4 : M1 4 2 = N 243 (149 * s) := by
          rw [hM1, cp_ms (by decide), L1.1.2.2.2.1]
          exact L.1.2.2.2.2.1.symm
        refine ⟨N 243 (149 * s), M1, N1, ?_, by show f_X6_restore_37 cl_F N 237 (nI s) 0 = _; rw [hN1]; exact hi_restN hs, fun c hc => hM c (by omega) (by omega), fun c hc => hN' c (by omega) (by omega), hk 4 (by decide), ?_⟩
        · rw [f_X5_restore, h3, cx_x1, if_pos (cu_inb (by omega) (by omega)), nI_clamp (by omega), show 0 + 197 = 197 from rfl, if_neg hz, if_pos (cu_inb (by omega) (by omega)), show 0 + 196 + 3 + 19 * s = 196 + 3 + 19 * s by omega, show 0 + 4 = 4 from rfl, show 0 + 42 = 42 from rfl, z1, Option.bind_some, f_X1_clear, cl_let, Option.bind_some, ← hM1, a4]
        · refine ⟨⟨g, m, hm, cg_L_cong (M := M0) (fun x a b => by rw [hM1, cp_ms (by omega)]) (fun k hk => by rw [hN1, cp_ms (by decide), cl_row_s, fa_fill_in hk]) L1⟩, ⟨n, lx_B_cong (hM 2 (by omega) (by omega)) (hN' 238 (by decide) (by decide)) hB, by rw [hM 1 (by omega) (by omega), r1], by rw [hk 1 (by decide), q1]⟩, ⟨by rw [hM 1 (by omega) (by omega), hk 2 (by decide), e8], by rw [hM 1 (by omega) (by omega), hk 3 (by decide), e9]⟩, ⟨0, q, by omega, q8, by rw [hM1, cl_ms, cl_row_s, pk_us]; rfl, by rw [hN1, cl_ms, cl_row_s, pk_us]; rfl, by rw [hM1, cl_ms, cl_row_s, pk_un (by decide), m42, w3], fun i hi => absurd hi (by omega)⟩, fun u hu => ?_, ?_⟩
          · rw [hM 197 (by omega) (by omega), hN' 244 (by decide) (by decide)]
            obtain ⟨z1, z2⟩ := hs' u hu
            refine ⟨z1, ?_⟩
            rcases z2 with z2 | ⟨z2, g, m, hm, L⟩
            · exact Or.inl z2
            · exact Or.inr ⟨z2, g, m, hm, cg_L_cong (fun x a b => hM x (by omega) (by omega)) (fun k hk => by rw [hN' 243 (by decide) (by decide)]) L⟩
          · rw [hM 0 (by omega) (by omega), hk 18 (by decide), hM 198 (by omega) (by omega), hN' 246 (by decide) (by decide)]
            exact ho
      · show f_X6_restore N 237 (nI s) = f_X6_restore_37 cl_F (cl_ms N 237 4 0) 237 (nI s) 0
        rw [f_X6_restore, cl_let, h4, Option.bind_some, cx_fails1, cu_b2, if_pos rfl, if_pos (cu_inb (by omega) (by omega)), nI_clamp (by omega), n4 N (hN 244 (by decide) (by decide)), h1, cx_fails1, cu_b2, if_pos rfl]
  · refine cx_ok_e R 1 1 0 (by decide) (by rw [f_X5_restore, h3, cx_x1e]) fun N hN => ?_
    show f_X6_restore N 237 a = _
    rw [f_X6_restore, cl_let, h4, Option.bind_some, cx_fails0, cu_b2, if_neg (by decide), cx_tt]
    rfl
