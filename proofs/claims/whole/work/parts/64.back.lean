/-! undo, save, restore, on both sides -/
variable {B : Nat} {M : cl_M}
theorem hi_undoN {N : cl_M} {h : Nat} (h8 : h < 8) (e : N 237 9 = nI h) : f_X6_undo_39 cl_F N 237 0 = some (nI h, cl_row N 239 (fa_fill (fun q => N 242 (149 * h + q)) (N 239) 149)) := by
  have H : ∀ j i, i + j = 149 → ∀ k, j < k → f_X6_undo_39 k (cl_row N 239 (fa_fill (fun q => N 242 (149 * h + q)) (N 239) i)) 237 (nI i) = some (nI h, cl_row N 239 (fa_fill (fun q => N 242 (149 * h + q)) (N 239) 149)) := by
    intro j
    induction j with
    | zero =>
      intro i hi k hk
      obtain ⟨k, rfl, hk⟩ := cu_fuel hk
      have hi : i = 149 := by omega
      subst hi
      rw [f_X6_undo_39, if_pos (by decide), cl_row_n (show 237 ≠ 239 by decide), e]
    | succ j ih =>
      intro i hi k hk
      obtain ⟨k, rfl, hk⟩ := cu_fuel hk
      have ih := ih (i + 1) (by omega) k (by omega)
      rw [f_X6_undo_39, if_neg (show ¬ (149 : Int32) ≤ nI i from nI_ge (b := 149) (by omega) (by omega)), cl_row_n (show 237 ≠ 239 by decide), e, hi_ix, if_pos (cu_inb (by omega) (by omega)), if_pos (cu_inb (by omega) (by omega)), nI_clamp (by omega), nI_clamp (by omega), cl_let, cl_let, nI_1]
      rw [show 237 + 5 = 242 from rfl, show 237 + 2 = 239 from rfl, cu_tt, cl_row_n (show 242 ≠ 239 by decide), fa_fill_succ (fun q => N 242 (149 * h + q))]
      exact ih
  have := H 149 0 rfl cl_F (by decide)
  rw [fa_fill_0, cu_rself] at this
  exact this
theorem an_undo (R : cx_R B M) : cx_ok B [(3, 1)] (f_X5_undo M 0) (fun N => f_X6_undo N 237) := by
  obtain ⟨h, q, h8, q8, y1, y2, y3, y4⟩ := R.2.2.2.1
  have z9 : ∀ N : cl_M, N 237 = M 237 → (cl_ms N 237 4 0) 237 9 = nI h := fun N hz => by rw [cl_ms, cl_row_s, pk_un (by decide), hz, y2]
  by_cases h0 : h = 0
  · subst h0
    refine cx_ok_e R 3 1 0 (by decide) (by rw [f_X5_undo, show 0 + 42 = 42 from rfl, y1, if_pos (by decide), f_X5_undo_15, cx_rs0, cx_x1e]) fun N hN => ?_
    show f_X6_undo N 237 = _
    rw [f_X6_undo, cl_let, z9 N (hN 237 (by decide)), if_pos (by decide), f_X6_undo_18, cx_fails0, cu_b2, if_neg (by decide), cx_tt]
    rfl
  · obtain ⟨j, rfl⟩ : ∃ j, h = j + 1 := ⟨h - 1, by omega⟩
    have hle : ¬ nI (j + 1) ≤ 0 := by simp (disch := omega) only [cl_let, Option.bind_some, cl_b2, nI_add, pk_mul, nI_leI, nI_ltI, nI_eq, nI_clamp, cu_inb, if_pos, if_neg, eq_self, ite_true, ite_false, if_true, if_false, cu_0, cu_1, cu_2, cu_3, cu_4, cu_5, cu_6, cu_7, cu_8, cu_9, cu_10, cu_11, cu_12, cu_16, cu_19, cu_20, cu_23, cu_24, cu_26, cu_30, cu_31, cu_32, cu_39, cu_40, cu_42, cu_45, cu_48, cu_57, cu_59, cu_60, cu_97, cu_99, cu_100, cu_122, cu_149, cu_200, cu_500, cu_700, cu_999, cu_9999, cu_99999, cu_100000, cu_1192, cu_298, ]; omega
    have hs : nI (j + 1) - 1 = nI j := by rw [show (1 : Int32) = nI 1 from rfl, ← nI_add j 1, Int32.add_sub_cancel]
    refine cx_ok_c (fun N => f_X6_undo_39 cl_F (cl_ms N 237 9 (N 237 9 - 1)) 237 0) R (fun N P hN => ?_) fun N hN => ?_
    · obtain ⟨⟨g0, m0, hm0, L0⟩, ⟨n, hB, r1, q1⟩, ⟨e8, e9⟩, ⟨h', q', h8', q8', w1, w2, w3, w4⟩, hs', ho⟩ := P
      have hh : h' = j + 1 := by
        have := y1.symm.trans w1
        revert this
        simp (disch := omega) only [cl_let, Option.bind_some, cl_b2, nI_add, pk_mul, nI_leI, nI_ltI, nI_eq, nI_clamp, cu_inb, if_pos, if_neg, eq_self, ite_true, ite_false, if_true, if_false, cu_0, cu_1, cu_2, cu_3, cu_4, cu_5, cu_6, cu_7, cu_8, cu_9, cu_10, cu_11, cu_12, cu_16, cu_19, cu_20, cu_23, cu_24, cu_26, cu_30, cu_31, cu_32, cu_39, cu_40, cu_42, cu_45, cu_48, cu_57, cu_59, cu_60, cu_97, cu_99, cu_100, cu_122, cu_149, cu_200, cu_500, cu_700, cu_999, cu_9999, cu_99999, cu_100000, cu_1192, cu_298, ]
        omega
      have hq : q' = q := by
        have := y3.symm.trans w3
        revert this
        simp (disch := omega) only [cl_let, Option.bind_some, cl_b2, nI_add, pk_mul, nI_leI, nI_ltI, nI_eq, nI_clamp, cu_inb, if_pos, if_neg, eq_self, ite_true, ite_false, if_true, if_false, cu_0, cu_1, cu_2, cu_3, cu_4, cu_5, cu_6, cu_7, cu_8, cu_9, cu_10, cu_11, cu_12, cu_16, cu_19, cu_20, cu_23, cu_24, cu_26, cu_30, cu_31, cu_32, cu_39, cu_40, cu_42, cu_45, cu_48, cu_57, cu_59, cu_60, cu_97, cu_99, cu_100, cu_122, cu_149, cu_200, cu_500, cu_700, cu_999, cu_9999, cu_99999, cu_100000, cu_1192, cu_298, ]
        omega
      subst hh
      subst hq
      obtain ⟨g, m, hm, L⟩ := w4 j (by omega)
      have es : (q' + 8 - (j + 1) + j) % 8 = (q' + 7) % 8 := by omega
      have q7 : (q' + 7) % 8 < 8 := Nat.mod_lt _ (by omega)
      rw [es] at L
      obtain ⟨M0, hM0⟩ : ∃ z, z = cl_ms (cl_ms M 42 1 (nI ((q' + 7) % 8))) 42 2 (nI j) := ⟨_, rfl⟩
      have f0 : ∀ x, x ≠ 42 → M0 x = M x := fun x a => by rw [hM0, cp_ms a, cp_ms a]
      have L' : cg_L M0 (42 + 1 + 1 + 19 * ((q' + 7) % 8)) (fun k => N 242 (149 * j + k)) g m := by
        rw [show 42 + 1 + 1 + 19 * ((q' + 7) % 8) = 44 + 19 * ((q' + 7) % 8) by omega]
        exact cg_L_cong (fun x a b => f0 x (by omega)) (fun _ _ => rfl) L
      obtain ⟨M1, z1, L1, f1⟩ := cp_line (t := 4) L' (by omega)
      have k1 : M1 42 = M0 42 := f1 42 (by omega)
      have k2 : M0 42 1 = nI ((q' + 7) % 8) := by rw [hM0, cl_ms, cl_row_s, pk_un (by decide), cl_ms, cl_row_s, pk_us]
      have k3 : M0 42 2 = nI j := by rw [hM0, cl_ms, cl_row_s, pk_us]
      have hM : ∀ x, (x < 4 ∨ 23 ≤ x) → x ≠ 42 → M1 x = M x := fun x a b => by rw [f1 x (by omega), f0 x b]
      obtain ⟨N0, hN0⟩ : ∃ z, z = cl_ms N 237 9 (N 237 9 - 1) := ⟨_, rfl⟩
      have v9 : N0 237 9 = nI j := by rw [hN0, cl_ms, cl_row_s, pk_us, w2, hs]
      have vk : ∀ k, k ≠ 9 → N0 237 k = N 237 k := fun k hk => by rw [hN0, cl_ms, cl_row_s, pk_un hk]
      have vx : ∀ x, x ≠ 237 → N0 x = N x := fun x hx => by rw [hN0, cp_ms hx]
      have eN := hi_undoN (by omega) v9
      obtain ⟨N1, hN1⟩ : ∃ z, z = cl_row N0 239 (fa_fill (fun q => N0 242 (149 * j + q)) (N0 239) 149) := ⟨_, rfl⟩
      rw [← hN1] at eN
      have wx : ∀ x, x ≠ 239 → N1 x = N0 x := fun x hx => by rw [hN1, cl_row_n hx]
      have w239 : ∀ k, k < 149 → N1 239 k = N 242 (149 * j + k) := fun k hk => by rw [hN1, cl_row_s, fa_fill_in hk, vx 242 (by decide)]
      refine ⟨nI j, M1, N1, ?_, by show f_X6_undo_39 cl_F (cl_ms N 237 9 (N 237 9 - 1)) 237 0 = _; rw [← hN0]; exact eN, fun c hc => hM c (by omega) (by omega), fun c hc => by rw [wx c (by omega), vx c (by omega)], by rw [wx 237 (by decide), vk 4 (by decide)], ?_⟩
      · have t1 : (cl_ms M 42 1 (nI ((q' + 7) % 8))) 42 2 - 1 = nI j := by rw [cl_ms, cl_row_s, pk_un (by decide), w1, hs]
        rw [f_X5_undo, show 0 + 42 = 42 from rfl, y1, if_neg hle, f_X5_undo_15, cx_rs1, cx_x1, show 0 + 42 = 42 from rfl, show 0 + 4 = 4 from rfl, f_X1_takeBack, w3, hi_q7 q' q8, cl_let, t1, cl_let, ← hM0, k2, if_pos (cu_inb (by omega) (by omega)), nI_clamp (by omega), z1, Option.bind_some, Option.bind_some, k1, k3]
      · refine ⟨⟨g, m, hm, cg_L_cong (fun _ _ _ => rfl) (fun k hk => w239 k hk) L1⟩, ⟨n, lx_B_cong (hM 2 (by omega) (by omega)) (by rw [wx 238 (by decide), vx 238 (by decide)]) hB, by rw [hM 1 (by omega) (by omega), r1], by rw [wx 237 (by decide), vk 1 (by decide), q1]⟩, ⟨by rw [hM 1 (by omega) (by omega), wx 237 (by decide), vk 2 (by decide), e8], by rw [hM 1 (by omega) (by omega), wx 237 (by decide), vk 3 (by decide), e9]⟩, ⟨j, (q' + 7) % 8, by omega, q7, by rw [k1, k3], by rw [wx 237 (by decide), v9], by rw [k1, k2], fun i hi => ?_⟩, fun s hs2 => ?_, ?_⟩
        · obtain ⟨g, m, hm, L⟩ := w4 i (by omega)
          have es : ((q' + 7) % 8 + 8 - j + i) % 8 = (q' + 8 - (j + 1) + i) % 8 := by omega
          rw [es]
          exact ⟨g, m, hm, cg_L_cong (fun x a b => hM x (by omega) (by omega)) (fun k _ => by rw [wx 242 (by decide), vx 242 (by decide)]) L⟩
        · rw [hM 197 (by omega) (by omega), wx 244 (by decide), vx 244 (by decide)]
          obtain ⟨z1, z2⟩ := hs' s hs2
          refine ⟨z1, ?_⟩
          rcases z2 with z2 | ⟨z2, g, m, hm, L⟩
          · exact Or.inl z2
          · exact Or.inr ⟨z2, g, m, hm, cg_L_cong (fun x a b => hM x (by omega) (by omega)) (fun k _ => by rw [wx 243 (by decide), vx 243 (by decide)]) L⟩
        · rw [hM 0 (by omega) (by omega), wx 237 (by decide), vk 18 (by decide), hM 198 (by omega) (by omega), wx 246 (by decide), vx 246 (by decide)]
          exact ho
    · show f_X6_undo N 237 = f_X6_undo_39 cl_F (cl_ms (cl_ms N 237 4 0) 237 9 ((cl_ms N 237 4 0) 237 9 - 1)) 237 0
      rw [f_X6_undo, cl_let, z9 N (hN 237 (by decide) (by decide)), if_neg hle, f_X6_undo_18, cx_fails1, cu_b2, if_pos rfl, cl_let, z9 N (hN 237 (by decide) (by decide))]
