/-! may a garment be asked for, on both sides -/
theorem cx_xi {v : Int32} {M : cl_M} {f : Int32 → cl_M → Option (Except (Nat × cl_M) (Int32 × cl_M))} : cl_x2 (some (.ok (v, M))) f = f v M := rfl
theorem cx_xie {e : Nat} {M : cl_M} {f : Int32 → cl_M → Option (Except (Nat × cl_M) (Int32 × cl_M))} : cl_x2 (some (.error (e, M))) f = some (.error (e, M)) := rfl
theorem cx_can {M : cl_M} {n m : Nat} (L : cg_L M 4 (M 239) n m) (a s p q : Int32) :
    (∃ g t x y, g < n ∧ t < 24 ∧ x ≤ 4 ∧ y ≤ 4 ∧ a = nI g ∧ s = nI t ∧ p = nI x ∧ q = nI y ∧ f_X5_known M 0 (nI g) = some (.ok (4 + 9 + g, M)) ∧ f_X5_hangObstacle M 0 a s p q = (f_X2_obstacle M 4 (4 + 9 + g) s p q).bind (fun v => some (.ok (v, M))) ∧ ∀ N, N 239 7 = nI n → f_X6_canAsk N 237 a s p q = some (1, cl_ms N 237 4 0)) ∨
    (∃ e c, ((e = 2 ∧ c = 1) ∨ (e = 1 ∧ c = 2)) ∧ f_X5_hangObstacle M 0 a s p q = some (.error (e, M)) ∧ ∀ N, N 239 7 = nI n → f_X6_canAsk N 237 a s p q = some (0, cl_ms N 237 4 (nI c))) := by
  have z0 : cl_bz 0 = true := by decide
  have z1 : cl_bz 1 = true := by decide
  rcases cx_known L a with ⟨g, hg, rfl, h1, h2⟩ | ⟨h1, h2⟩
  · have hb : ∀ N : cl_M, f_X6_canAsk_42 (cl_ms N 237 4 0) 237 = some (0, cl_ms N 237 4 (nI 2)) := fun N => by
      rw [f_X6_canAsk_42, f_X6_canAsk_43, cx_fails0, cu_b2, if_neg (by decide), f_X6_canAsk_55, if_pos z0, cx_tt]
      rfl
    rcases cx_req (M := M) (a := s) (b := 0) (c := 23) with ⟨i1, i2, h3, h4⟩ | ⟨h3, h4⟩
    · rcases cx_req (M := M) (a := p) (b := 0) (c := 4) with ⟨j1, j2, h5, h6⟩ | ⟨h5, h6⟩
      · rcases cx_req (M := M) (a := q) (b := 0) (c := 4) with ⟨k1, k2, h7, h8⟩ | ⟨h7, h8⟩
        · obtain ⟨t, ht, rfl⟩ := cx_nat (n := 23) (by omega) i1 i2
          obtain ⟨x, hx, rfl⟩ := cx_nat (n := 4) (by omega) j1 j2
          obtain ⟨y, hy, rfl⟩ := cx_nat (n := 4) (by omega) k1 k2
          refine Or.inl ⟨g, t, x, y, hg, by omega, hx, hy, rfl, rfl, rfl, rfl, h1, ?_, fun N hN => ?_⟩
          · rw [f_X5_hangObstacle, h1, cx_x2, h3, cx_x1, h5, cx_x1, h7, cx_x1]
          · rw [f_X6_canAsk, h2 N hN, cu_b2, if_neg (by decide), h4, Option.bind_some, if_neg (by decide), h6, Option.bind_some, if_neg (by decide), h8, Option.bind_some, if_neg (by decide), f_X6_canAsk_43, cx_fails1, cu_b2, if_pos rfl, f_X6_canAsk_55, if_pos z1]
        · refine Or.inr ⟨1, 2, Or.inr ⟨rfl, rfl⟩, by rw [f_X5_hangObstacle, h1, cx_x2, h3, cx_x1, h5, cx_x1, h7, cx_x1e], fun N hN => ?_⟩
          rw [f_X6_canAsk, h2 N hN, cu_b2, if_neg (by decide), h4, Option.bind_some, if_neg (by decide), h6, Option.bind_some, if_neg (by decide), h8, Option.bind_some, if_pos rfl, hb N]
      · refine Or.inr ⟨1, 2, Or.inr ⟨rfl, rfl⟩, by rw [f_X5_hangObstacle, h1, cx_x2, h3, cx_x1, h5, cx_x1e], fun N hN => ?_⟩
        rw [f_X6_canAsk, h2 N hN, cu_b2, if_neg (by decide), h4, Option.bind_some, if_neg (by decide), h6, Option.bind_some, if_pos rfl, hb N]
    · refine Or.inr ⟨1, 2, Or.inr ⟨rfl, rfl⟩, by rw [f_X5_hangObstacle, h1, cx_x2, h3, cx_x1e], fun N hN => ?_⟩
      rw [f_X6_canAsk, h2 N hN, cu_b2, if_neg (by decide), h4, Option.bind_some, if_pos rfl, hb N]
  · refine Or.inr ⟨2, 1, Or.inl ⟨rfl, rfl⟩, by rw [f_X5_hangObstacle, h1, cx_x2e], fun N hN => ?_⟩
    rw [f_X6_canAsk, h2 N hN, cu_b2, if_pos rfl, f_X6_canAsk_55, if_pos z0]
theorem an_hangObstacle {B : Nat} {M : cl_M} (R : cx_R B M) (a s p q : Int32) : cx_ok B [(2, 1), (1, 2)] (f_X5_hangObstacle M 0 a s p q) (fun N => f_X6_hangObstacle N 237 a s p q) := by
  obtain ⟨n, m, hm, L⟩ := R.1
  rcases cx_can L a s p q with ⟨g, t, x, y, hg, ht, hx, hy, rfl, rfl, rfl, rfl, -, h1, h2⟩ | ⟨e, c, hc, h1, h2⟩
  · obtain ⟨v, e1, -, -⟩ := ck_obst (N := M) L (s := nI t) hg hx hy
    refine cx_ok_p R v (by rw [h1, e1, Option.bind_some]) fun N hN => ?_
    obtain ⟨v', e1', e2, -⟩ := ck_obst (N := cl_ms N 237 4 0) L (s := nI t) hg hx hy
    have : v' = v := Option.some.inj (e1'.symm.trans e1)
    subst this
    rw [← cx_zr hN] at e2
    show f_X6_hangObstacle N 237 (nI g) (nI t) (nI x) (nI y) = _
    rw [f_X6_hangObstacle, h2 N (by rw [hN 239 (by decide)]; exact L.1.2.2.1), cu_b2, if_neg (by decide), e2, Option.bind_some, f_X6_hangObstacle_25]
  · refine cx_ok_e R e c 0 (by rcases hc with ⟨rfl, rfl⟩ | ⟨rfl, rfl⟩ <;> decide) h1 fun N hN => ?_
    show f_X6_hangObstacle N 237 a s p q = _
    rw [f_X6_hangObstacle, h2 N (by rw [hN 239 (by decide)]; exact L.1.2.2.1), cu_b2, if_pos rfl, f_X6_hangObstacle_25]
