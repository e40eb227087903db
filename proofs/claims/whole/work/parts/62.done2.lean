/-! changes of places, of the sky and of time, recorded and done, on both sides -/
theorem cx_kn {M : cl_M} {r : Nat → Int32} {n m g : Nat} (L : cg_L M 4 r n m) (hg : g < n) : f_X5_known M 0 (nI g) = some (.ok (4 + 9 + g, M)) := by
  have hn := L.1.1
  have h3 : M (0 + 4) 3 = nI n := L.1.2.1
  rw [f_X5_known, if_neg (nI_pos (by omega)), h3, if_pos (nI_lt hg (by omega)), if_pos (cu_inb (by omega) (by omega)), nI_clamp (by omega)]
theorem cx_nat1 {a : Int32} {n : Nat} (hn : n < 2 ^ 31) (h : ¬ a < 1) (h2 : ¬ nI n < a) : ∃ j, 1 ≤ j ∧ j ≤ n ∧ a = nI j := by
  have h0 : ¬ a < 0 := fun z => h (by
    rw [fa_lt] at z ⊢
    have : (0 : Int32).toInt = 0 := by decide
    have : (1 : Int32).toInt = 1 := by decide
    omega)
  obtain ⟨j, hj, rfl⟩ := cx_nat hn h0 h2
  by_cases hj0 : j = 0
  · subst hj0
    exact absurd (by decide) h
  · exact ⟨j, by omega, hj, rfl⟩
theorem cx_idx (a : Int32) {c : Nat} (hc : 1 ≤ c) (hc8 : c ≤ 100) : (∃ i, i < c ∧ a = nI i ∧ ∀ N, f_X6_inRange N a 0 (nI c - 1) = some 1) ∨ ((a < 0 ∨ (¬ a < 0 ∧ ¬ a < nI c)) ∧ ∀ N, f_X6_inRange N a 0 (nI c - 1) = some 0) := by
  have hi : (nI c - 1).toInt = (c : Int) - 1 := pk_sub_toInt (b := 1) (by omega) (by omega)
  rcases pk_ix a (n := c) (by omega) with h | h | ⟨g, hg, e⟩
  · exact Or.inr ⟨Or.inl h, fun N => by rw [cx_range, if_pos h]⟩
  · have h0 : ¬ a < 0 := fun z => by
      rw [fa_lt] at z
      rw [fa_le, nI_toInt (by omega)] at h
      have : (0 : Int32).toInt = 0 := by decide
      omega
    have h1 : ¬ a < nI c := fun z => (fa_of_lt z).2.1 h
    have h2 : nI c - 1 < a := by
      rw [fa_lt, hi]
      rw [fa_le, nI_toInt (by omega)] at h
      omega
    exact Or.inr ⟨Or.inr ⟨h0, h1⟩, fun N => by rw [cx_range, if_neg h0, if_pos h2]⟩
  · subst e
    have h2 : ¬ nI c - 1 < nI g := by
      rw [fa_lt, hi, nI_toInt (by omega)]
      omega
    exact Or.inl ⟨g, hg, rfl, fun N => by rw [cx_range, if_neg (nI_pos (by omega)), if_neg h2]⟩
variable {B : Nat} {M : cl_M}
theorem an_hang (R : cx_R B M) (a s p q : Int32) : cx_ok B [(2, 1), (1, 2), (3, 3)] (f_X5_hang M 0 a s p q) (fun N => f_X6_hang N 237 a s p q) := by
  obtain ⟨n, m, hm, L⟩ := R.1
  have hn := L.1.1
  have h7 : ∀ N : cl_M, N 239 = M 239 → N 239 7 = nI n := fun N h => by rw [h]; exact L.1.2.2.1
  rcases cx_can L a s p q with ⟨g, t, x, y, hg, ht, hx, hy, rfl, rfl, rfl, rfl, h0, h1, h2⟩ | ⟨e, c, hc, h1, h2⟩
  · obtain ⟨v, e1, -, ev⟩ := ck_obst (N := M) L (s := nI t) hg hx hy
    have hO : ∀ N : cl_M, N 239 = M 239 → f_X6_obstacle (cl_ms N 237 4 0) 237 (nI g) (nI t) (nI x) (nI y) = some v := by
      intro N h
      obtain ⟨v', e1', e2, -⟩ := ck_obst (N := cl_ms N 237 4 0) L (s := nI t) hg hx hy
      have hv : v' = v := Option.some.inj (e1'.symm.trans e1)
      have z := cu_rowN (cl_ms N 237 4 0)
      rw [cx_t9, h] at z
      rw [← z, hv] at e2
      exact e2
    by_cases hv : v = 0
    · obtain ⟨b6, b0, bo, bx, by'⟩ := ev hv
      subst hv
      refine cx_ok_c (fun N => (f_X6_record N 237).bind (fun M12 => cl_b2 (f_X6_doHang M12 237 (nI g) (nI t) (nI x) (nI y)) (fun v14 M15 => some (v14, M15)))) R (fun N P hN => ?_) fun N hN => ?_
      · have hz : N 239 = M 239 := hN 239 (by omega) (by omega) (by omega)
        have L : cg_L M 4 (N 239) n m := by rw [hz]; exact L
        obtain ⟨M1, N1, e1', e2, f1, -, f3, tr, fin⟩ := cx_rec (B' := B) (Nat.le_refl _) P
        have k : M1 (4 + 9 + g) = M (4 + 9 + g) := f1 _ (Or.inl (by omega))
        obtain ⟨M2, r2, a1, a2, a3, a4⟩ := ac_hang (N := N1) (tr L) hg ht hx hy (by rw [k]; exact b6) (by rw [k]; exact b0) (by rw [k, cx_oc (fun x h => f1 x (Or.inl h)) hn]; exact bo) (by rw [hz]; exact bx) (by rw [hz]; exact by')
        rw [← f3] at a2
        refine fin _ _ (cg_hold (M2 (4 + 9 + g))) M2 r2 n m ?_ ?_ a3 hm fun x hx => a4 x (by omega)
        · rw [f_X5_hang, h1, e1, Option.bind_some, cx_xi, if_pos rfl, f_X5_hang_17, cx_rs1, cx_x1, show 0 + 42 = 42 from rfl, show 0 + 4 = 4 from rfl, e1', Option.bind_some, cx_kn (tr L) hg, cx_x2, a1, Option.bind_some, cg_holdC, Option.bind_some]
        · show (f_X6_record N 237).bind _ = _
          rw [e2, Option.bind_some, a2, cu_b2]
      · show f_X6_hang N 237 (nI g) (nI t) (nI x) (nI y) = (f_X6_record (cl_ms N 237 4 0) 237).bind _
        have hz : N 239 = M 239 := hN 239 (by decide) (by decide)
        rw [f_X6_hang, h2 N (h7 N hz), cu_b2, if_neg (by decide), hO N hz, Option.bind_some, if_pos rfl, f_X6_hang_30, cx_fails1, cu_b2, if_pos rfl]
    · refine cx_ok_e R 3 3 0 (by decide) (by rw [f_X5_hang, h1, e1, Option.bind_some, cx_xi, if_neg hv, f_X5_hang_17, cx_rs0, cx_x1e]) fun N hN => ?_
      show f_X6_hang N 237 (nI g) (nI t) (nI x) (nI y) = _
      have hz : N 239 = M 239 := hN 239 (by decide)
      rw [f_X6_hang, h2 N (h7 N hz), cu_b2, if_neg (by decide), hO N hz, Option.bind_some, if_neg hv, f_X6_hang_30, cx_fails0, cu_b2, if_neg (by decide), cx_tt]
      rfl
  · refine cx_ok_e R e c 0 (by rcases hc with ⟨rfl, rfl⟩ | ⟨rfl, rfl⟩ <;> decide) (by rw [f_X5_hang, h1, cx_xie]) fun N hN => ?_
    show f_X6_hang N 237 a s p q = _
    rw [f_X6_hang, h2 N (h7 N (hN 239 (by decide))), cu_b2, if_pos rfl]
theorem an_shift (R : cx_R B M) (a s : Int32) : cx_ok B [(2, 1), (1, 2), (3, 3)] (f_X5_shift M 0 a s) (fun N => f_X6_shift N 237 a s) := by
  obtain ⟨n, m, hm, L⟩ := R.1
  have hn := L.1.1
  have z0 : cl_bz 0 = true := by decide
  have z1 : cl_bz 1 = true := by decide
  have h7 : ∀ N : cl_M, N 239 = M 239 → N 239 7 = nI n := fun N h => by rw [h]; exact L.1.2.2.1
  rcases cx_known L a with ⟨g, hg, rfl, h1, h2⟩ | ⟨h1, h2⟩
  · rcases cx_req (M := M) (a := s) (b := 0) (c := 23) with ⟨i1, i2, h3, h4⟩ | ⟨h3, h4⟩
    · obtain ⟨t, ht, rfl⟩ := cx_nat (n := 23) (by omega) i1 i2
      obtain ⟨v, hv01, e1, -, ev⟩ := ck_shift (N := M) L (s := nI t) hg
      have hO : ∀ N : cl_M, N 239 = M 239 → f_X6_canShift (cl_ms N 237 4 0) 237 (nI g) (nI t) = some v := by
        intro N h
        obtain ⟨v', -, e1', e2, -⟩ := ck_shift (N := cl_ms N 237 4 0) L (s := nI t) hg
        have hv : v' = v := Option.some.inj (e1'.symm.trans e1)
        have z := cu_rowN (cl_ms N 237 4 0)
        rw [cx_t9, h] at z
        rw [← z, hv] at e2
        exact e2
      have hS : ∀ N : cl_M, f_X6_isSpot (cl_ms N 237 4 0) 237 (nI t) 2 = some (1, cl_ms N 237 4 0) := fun N => by
        rw [f_X6_isSpot, h4, Option.bind_some, cx_fails1, cu_b2, if_pos rfl, f_X6_isSpot_20, if_pos z1]
      rcases hv01 with rfl | rfl
      · refine cx_ok_e R 3 3 0 (by decide) (by rw [f_X5_shift, h1, cx_x2, h3, cx_x1, show 0 + 4 = 4 from rfl, e1, Option.bind_some, cx_rs0, cx_x1e]) fun N hN => ?_
        show f_X6_shift N 237 (nI g) (nI t) = _
        have hz : N 239 = M 239 := hN 239 (by decide)
        rw [f_X6_shift, h2 N (h7 N hz), cu_b2, if_neg (by decide), hS N, cu_b2, if_neg (by decide), hO N hz, Option.bind_some, cx_fails0, cu_b2, if_neg (by decide), cx_tt]
        rfl
      · obtain ⟨b6, b0, bo⟩ := ev (by decide)
        refine cx_ok_c (fun N => (f_X6_record N 237).bind (fun M12 => cl_b2 (f_X6_doShift M12 237 (nI g) (nI t)) (fun v14 M15 => some (v14, M15)))) R (fun N P hN => ?_) fun N hN => ?_
        · have hz : N 239 = M 239 := hN 239 (by omega) (by omega) (by omega)
          have L : cg_L M 4 (N 239) n m := by rw [hz]; exact L
          obtain ⟨M1, N1, e1', e2, f1, -, f3, tr, fin⟩ := cx_rec (B' := B) (Nat.le_refl _) P
          have k : M1 (4 + 9 + g) = M (4 + 9 + g) := f1 _ (Or.inl (by omega))
          obtain ⟨M2, r2, a1, a2, a3, a4⟩ := ac_move (N := N1) (tr L) hg (s := t) (by omega) (by rw [k]; exact b6) (by rw [k]; exact b0) (by rw [k, cx_oc (fun x h => f1 x (Or.inl h)) hn]; exact bo)
          rw [← f3] at a2
          refine fin _ _ (M1 (4 + 9 + g) 7) M2 r2 n m ?_ ?_ a3 hm fun x hx => a4 x (by omega)
          · rw [f_X5_shift, h1, cx_x2, h3, cx_x1, show 0 + 4 = 4 from rfl, e1, Option.bind_some, cx_rs1, cx_x1, show 0 + 42 = 42 from rfl, e1', Option.bind_some, cl_let, a1, Option.bind_some]
          · show (f_X6_record N 237).bind _ = _
            rw [e2, Option.bind_some, a2, cu_b2]
        · show f_X6_shift N 237 (nI g) (nI t) = (f_X6_record (cl_ms N 237 4 0) 237).bind _
          have hz : N 239 = M 239 := hN 239 (by decide) (by decide)
          rw [f_X6_shift, h2 N (h7 N hz), cu_b2, if_neg (by decide), hS N, cu_b2, if_neg (by decide), hO N hz, Option.bind_some, cx_fails1, cu_b2, if_pos rfl]
    · refine cx_ok_e R 1 2 0 (by decide) (by rw [f_X5_shift, h1, cx_x2, h3, cx_x1e]) fun N hN => ?_
      show f_X6_shift N 237 (nI g) s = _
      rw [f_X6_shift, h2 N (h7 N (hN 239 (by decide))), cu_b2, if_neg (by decide), f_X6_isSpot, h4, Option.bind_some, cx_fails0, cu_b2, if_neg (by decide), f_X6_isSpot_20, if_pos z0, cu_b2, if_pos rfl, cx_tt]
      rfl
  · refine cx_ok_e R 2 1 0 (by decide) (by rw [f_X5_shift, h1, cx_x2e]) fun N hN => ?_
    show f_X6_shift N 237 a s = _
    rw [f_X6_shift, h2 N (h7 N (hN 239 (by decide))), cu_b2, if_pos rfl]
