/-! fewest pegs -/
variable {B : Nat} {M : cl_M}
theorem an_fewestPegs (R : cx_R B M) (a : Int32) : cx_ok B [(2, 1)] (f_X5_fewestPegs M 0 a) (fun N => f_X6_fewestPegs N 237 a) := by
  obtain ⟨n, m, hm, L⟩ := R.1
  have hn := L.1.1
  rcases cx_known L a with ⟨g, hg, rfl, h1, h2⟩ | ⟨h1, h2⟩
  · obtain ⟨v, e1, -⟩ := pr_pegs (N := M) L hg
    refine cx_ok_p R v ?_ fun N hN => ?_
    · rw [f_X5_fewestPegs, h1, cx_x2, cg_weightC, Option.bind_some, show 0 + 4 = 4 from rfl, ck_wood L, Option.bind_some, ck_steel L, Option.bind_some]
      exact e1
    · obtain ⟨v', e1', e2⟩ := pr_pegs (N := cl_ms N 237 4 0) L hg
      have := e1'.symm.trans e1
      have : v' = v := (Prod.mk.inj (Except.ok.inj (Option.some.inj this))).1
      subst this
      rw [← cx_zr hN] at e2
      show f_X6_fewestPegs N 237 (nI g) = _
      rw [f_X6_fewestPegs, h2 N (by rw [hN 239 (by decide)]; exact L.1.2.2.1), cu_b2, if_neg (by decide), e2]
  · refine cx_ok_e R 2 1 0 (by decide) (by rw [f_X5_fewestPegs, h1, cx_x2e]) fun N hN => ?_
    show f_X6_fewestPegs N 237 a = _
    rw [f_X6_fewestPegs, h2 N (by rw [hN 239 (by decide)]; exact L.1.2.2.1), cu_b2, if_pos rfl]
