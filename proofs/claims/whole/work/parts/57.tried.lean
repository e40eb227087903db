/-! what lies ahead, on both sides -/
variable {B : Nat} {M : cl_M}
/-- a line tried on a copy leaves everything as it was -/
theorem cx_tried {N M' N' : cl_M} (R : cx_R B M) (hM : ∀ x, x < 23 ∨ 42 ≤ x → M' x = M x) (hN : cx_n M' N) (f : ∀ x, x ≠ 239 → x ≠ 241 → N' x = (cl_ms N 237 4 0) x) (k : ∀ k, k < 149 → N' 239 k = (cl_ms N 237 4 0) 239 k) : N' 237 4 = nI 0 ∧ N' 247 = N 247 ∧ cx_R B N' := by
  have h1 : cx_s M M' := ⟨fun x a _ _ _ => hM x (by
      by_cases h : x < 23
      · exact Or.inl h
      · by_cases h' : 42 ≤ x
        · exact Or.inr h'
        · exfalso
          have : cx_c x = true := by
            simp only [cx_c, decide_eq_true (show 23 ≤ x by omega), decide_eq_true (show x < 42 by omega), Bool.true_and, Bool.or_true, Bool.true_or]
          rw [this] at a
          cases a), fun k _ => by rw [hM 239 (by omega)], ⟨by rw [hM 1 (by omega)], by rw [hM 1 (by omega)], by rw [hM 1 (by omega)]⟩, by rw [hM 237 (by omega)], by rw [hM 237 (by omega)], by rw [hM 237 (by omega)], by rw [hM 237 (by omega)], by rw [hM 237 (by omega)]⟩
  have h2 := cx_s_tr (cx_s_tr h1 (cx_n_s hN)) (cx_t (v := 0))
  have h3 : cx_s (cl_ms N 237 4 0) N' := ⟨fun x a _ _ c => f x c (fun e => by rw [e] at a; exact absurd a (by decide)), k, ⟨by rw [f 1 (by decide) (by decide)], by rw [f 1 (by decide) (by decide)], by rw [f 1 (by decide) (by decide)]⟩, by rw [f 237 (by decide) (by decide)], by rw [f 237 (by decide) (by decide)], by rw [f 237 (by decide) (by decide)], by rw [f 237 (by decide) (by decide)], by rw [f 237 (by decide) (by decide)]⟩
  exact ⟨by rw [f 237 (by decide) (by decide), cx_t4]; rfl, by rw [f 247 (by decide) (by decide), cx_t7], cx_R_s R (cx_s_tr h2 h3)⟩
theorem cx_L0 {N M' : cl_M} {n m : Nat} (L : cg_L M 4 (M 239) n m) (hM : ∀ x, x < 23 ∨ 42 ≤ x → M' x = M x) (hN : cx_n M' N) : cg_L M 4 ((cl_ms N 237 4 0) 239) n m := by
  rw [cx_t9, hN 239 (by decide), hM 239 (by omega)]
  exact L
theorem cx_ok_t {cs : List (Nat × Nat)} {M' : cl_M} {x : Option (Except (Nat × cl_M) (Int32 × cl_M))} {y : cl_M → Option (Int32 × cl_M)} (R : cx_R B M) (v : Int32) (h : x = some (.ok (v, M'))) (hM : ∀ x, x < 23 ∨ 42 ≤ x → M' x = M x) (hy : ∀ N, cx_n M' N → ∃ N', y N = some (v, N') ∧ pr_F M M' (cl_ms N 237 4 0) N') : cx_ok B cs x y :=
  Or.inl ⟨v, M', h, fun N hN => by
    obtain ⟨N', e, f⟩ := hy N hN
    exact ⟨N', e, cx_tried R hM hN f.2.1 f.2.2⟩⟩
theorem cx_inj {v v' : Int32} {M1 M2 : cl_M} {x : Option (Except (Nat × cl_M) (Int32 × cl_M))} (h : x = some (.ok (v, M1))) (h' : x = some (.ok (v', M2))) : v' = v ∧ M2 = M1 := by
  have := Prod.mk.inj (Except.ok.inj (Option.some.inj (h'.symm.trans h)))
  exact this
theorem an_waterAfter (R : cx_R B M) (hB : B + 501 < 2 ^ 30) (a s : Int32) : cx_ok B [(2, 1), (1, 2)] (f_X5_waterAfter M 0 a s) (fun N => f_X6_waterAfter N 237 a s) := by
  obtain ⟨n, m, hm, L⟩ := R.1
  rcases cx_known L a with ⟨g, hg, rfl, h1, h2⟩ | ⟨h1, h2⟩
  · rcases cx_req (M := M) (a := s) (b := 0) (c := 500) with ⟨i1, i2, h3, h4⟩ | ⟨h3, h4⟩
    · obtain ⟨x, hx, rfl⟩ := cx_nat (n := 500) (by omega) i1 i2
      obtain ⟨v, M', _, e1, -, f⟩ := pr_after (N := M) L hg hx (by omega)
      refine cx_ok_t R v ?_ f.1 fun N hN => ?_
      · rw [f_X5_waterAfter, h1, cx_x2, h3, cx_x1]
        exact e1
      · obtain ⟨v', M2, N', e1', e2, f2⟩ := pr_after (N := cl_ms N 237 4 0) (cx_L0 L f.1 hN) hg hx (by omega)
        obtain ⟨rfl, rfl⟩ := cx_inj e1 e1'
        refine ⟨N', ?_, f2⟩
        show f_X6_waterAfter N 237 (nI g) (nI x) = _
        rw [f_X6_waterAfter, h2 N (by rw [hN 239 (by decide), f.1 239 (by omega)]; exact L.1.2.2.1), cu_b2, if_neg (by decide), h4, Option.bind_some, cx_fails1, cu_b2, if_pos rfl]
        exact e2
    · refine cx_ok_e R 1 2 0 (by decide) (by rw [f_X5_waterAfter, h1, cx_x2, h3, cx_x1e]) fun N hN => ?_
      show f_X6_waterAfter N 237 (nI g) s = _
      rw [f_X6_waterAfter, h2 N (by rw [hN 239 (by decide)]; exact L.1.2.2.1), cu_b2, if_neg (by decide), h4, Option.bind_some, cx_fails0, cu_b2, if_neg (by decide), cx_tt]
      rfl
  · refine cx_ok_e R 2 1 0 (by decide) (by rw [f_X5_waterAfter, h1, cx_x2e]) fun N hN => ?_
    show f_X6_waterAfter N 237 a s = _
    rw [f_X6_waterAfter, h2 N (by rw [hN 239 (by decide)]; exact L.1.2.2.1), cu_b2, if_pos rfl]
