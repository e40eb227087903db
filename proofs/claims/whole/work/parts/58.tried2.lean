/-! what lies ahead, on both sides -/
variable {B : Nat} {M : cl_M}
theorem an_minutesToDry (R : cx_R B M) (hB : B + 501 < 2 ^ 30) (a : Int32) : cx_ok B [(2, 1)] (f_X5_minutesToDry M 0 a) (fun N => f_X6_minutesToDry N 237 a) := by
  obtain ⟨n, m, hm, L⟩ := R.1
  rcases cx_known L a with ⟨g, hg, rfl, h1, h2⟩ | ⟨h1, h2⟩
  · obtain ⟨v, M', _, e1, -, f⟩ := pr_dry (N := M) L hg (by omega)
    refine cx_ok_t R v ?_ f.1 fun N hN => ?_
    · rw [f_X5_minutesToDry, h1, cx_x2]
      exact e1
    · obtain ⟨v', M2, N', e1', e2, f2⟩ := pr_dry (N := cl_ms N 237 4 0) (cx_L0 L f.1 hN) hg (by omega)
      obtain ⟨rfl, rfl⟩ := cx_inj e1 e1'
      refine ⟨N', ?_, f2⟩
      show f_X6_minutesToDry N 237 (nI g) = _
      rw [f_X6_minutesToDry, h2 N (by rw [hN 239 (by decide), f.1 239 (by omega)]; exact L.1.2.2.1), cu_b2, if_neg (by decide)]
      exact e2
  · refine cx_ok_e R 2 1 0 (by decide) (by rw [f_X5_minutesToDry, h1, cx_x2e]) fun N hN => ?_
    show f_X6_minutesToDry N 237 a = _
    rw [f_X6_minutesToDry, h2 N (by rw [hN 239 (by decide)]; exact L.1.2.2.1), cu_b2, if_pos rfl]
theorem an_minutesToFall (R : cx_R B M) (hB : B + 501 < 2 ^ 30) (a : Int32) : cx_ok B [(2, 1)] (f_X5_minutesToFall M 0 a) (fun N => f_X6_minutesToFall N 237 a) := by
  obtain ⟨n, m, hm, L⟩ := R.1
  rcases cx_known L a with ⟨g, hg, rfl, h1, h2⟩ | ⟨h1, h2⟩
  · obtain ⟨v, M', _, e1, -, f⟩ := pr_fall (N := M) L hg (by omega)
    refine cx_ok_t R v ?_ f.1 fun N hN => ?_
    · rw [f_X5_minutesToFall, h1, cx_x2]
      exact e1
    · obtain ⟨v', M2, N', e1', e2, f2⟩ := pr_fall (N := cl_ms N 237 4 0) (cx_L0 L f.1 hN) hg (by omega)
      obtain ⟨rfl, rfl⟩ := cx_inj e1 e1'
      refine ⟨N', ?_, f2⟩
      show f_X6_minutesToFall N 237 (nI g) = _
      rw [f_X6_minutesToFall, h2 N (by rw [hN 239 (by decide), f.1 239 (by omega)]; exact L.1.2.2.1), cu_b2, if_neg (by decide)]
      exact e2
  · refine cx_ok_e R 2 1 0 (by decide) (by rw [f_X5_minutesToFall, h1, cx_x2e]) fun N hN => ?_
    show f_X6_minutesToFall N 237 a = _
    rw [f_X6_minutesToFall, h2 N (by rw [hN 239 (by decide)]; exact L.1.2.2.1), cu_b2, if_pos rfl]
theorem an_bestSpot (R : cx_R B M) (hB : B + 501 < 2 ^ 30) (a : Int32) : cx_ok B [(2, 1)] (f_X5_bestSpot M 0 a) (fun N => f_X6_bestSpot N 237 a) := by
  obtain ⟨n, m, hm, L⟩ := R.1
  rcases cx_known L a with ⟨g, hg, rfl, h1, h2⟩ | ⟨h1, h2⟩
  · obtain ⟨v, M', _, e1, -, f⟩ := bs_best (N := M) L hg (by omega)
    refine cx_ok_t R v ?_ f.1 fun N hN => ?_
    · rw [f_X5_bestSpot, h1, cx_x2]
      exact e1
    · obtain ⟨v', M2, N', e1', e2, f2⟩ := bs_best (N := cl_ms N 237 4 0) (cx_L0 L f.1 hN) hg (by omega)
      obtain ⟨rfl, rfl⟩ := cx_inj e1 e1'
      refine ⟨N', ?_, f2⟩
      show f_X6_bestSpot N 237 (nI g) = _
      rw [f_X6_bestSpot, h2 N (by rw [hN 239 (by decide), f.1 239 (by omega)]; exact L.1.2.2.1), cu_b2, if_neg (by decide)]
      exact e2
  · refine cx_ok_e R 2 1 0 (by decide) (by rw [f_X5_bestSpot, h1, cx_x2e]) fun N hN => ?_
    show f_X6_bestSpot N 237 a = _
    rw [f_X6_bestSpot, h2 N (by rw [hN 239 (by decide)]; exact L.1.2.2.1), cu_b2, if_pos rfl]
theorem an_garmentsAtRisk (R : cx_R B M) (hB : B + 501 < 2 ^ 30) : cx_eq B (f_X5_garmentsAtRisk M 0) (fun N => f_X6_garmentsAtRisk N 237) := by
  obtain ⟨n, m, hm, L⟩ := R.1
  obtain ⟨v, M', _, e1, -, f⟩ := pr_risk (N := M) L (by omega)
  have hN : cx_n M' M' := fun _ _ => rfl
  obtain ⟨v', M2, N', e1', e2, f2⟩ := pr_risk (N := cl_ms M' 237 4 0) (cx_L0 L f.1 hN) (by omega)
  have := Prod.mk.inj (Option.some.inj (e1'.symm.trans e1))
  obtain ⟨rfl, rfl⟩ := this
  refine ⟨v', M2, N', e1, ?_, (cx_tried R f.1 hN f2.2.1 f2.2.2).2.2⟩
  show f_X6_garmentsAtRisk M2 237 = _
  rw [f_X6_garmentsAtRisk, cl_let]
  exact e2
