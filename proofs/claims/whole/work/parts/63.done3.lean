/-! changes of the sky, of the garments' number and of time, recorded and done, on both sides -/
variable {B : Nat} {M : cl_M}
theorem an_addShower (R : cx_R B M) (a s p : Int32) : cx_ok B [(1, 1), (3, 2)] (f_X5_addShower M 0 a s p) (fun N => f_X6_addShower N 237 a s p) := by
  obtain ⟨n, m, hm, L⟩ := R.1
  have hn := L.1.1
  obtain ⟨F, C⟩ := cx_F R
  obtain ⟨-, -, ⟨c, hc, w5, -⟩, -⟩ := F
  have r5 : M 239 5 = nI c := w5
  have c6 : M 5 6 = nI c := C.2.2.1.trans w5
  have hb : ∀ N : cl_M, f_X6_addShower_42 (cl_ms N 237 4 0) 237 a s p 0 = some (0, cl_ms N 237 4 (nI 1)) := fun N => by
    rw [f_X6_addShower_42, cx_fails0, cu_b2, if_neg (by decide), cx_tt]
    rfl
  rcases cx_req (M := M) (a := a) (b := 0) (c := 9999) with ⟨i1, i2, h1, h2⟩ | ⟨h1, h2⟩
  · rcases cx_req (M := M) (a := s) (b := 1) (c := 200) with ⟨j1, j2, h3, h4⟩ | ⟨h3, h4⟩
    · rcases cx_req (M := M) (a := p) (b := 1) (c := 20) with ⟨k1, k2, h5, h6⟩ | ⟨h5, h6⟩
      · by_cases hc4 : c < 4
        · obtain ⟨x, hx, rfl⟩ := cx_nat (n := 9999) (by omega) i1 i2
          obtain ⟨y, hy, hy2, rfl⟩ := cx_nat1 (n := 200) (by omega) j1 j2
          obtain ⟨z, hz1, hz2, rfl⟩ := cx_nat1 (n := 20) (by omega) k1 k2
          have hq : ¬ (4 : Int32) ≤ nI c := nI_ge (b := 4) (by omega) (by omega)
          refine cx_ok_c (fun N => (f_X6_record N 237).bind (fun M12 => cl_b2 (f_X6_doShower M12 237 (nI x) (nI y) (nI z)) (fun v14 M15 => some (v14, M15)))) R (fun N P hN => ?_) fun N hN => ?_
          · have hz : N 239 = M 239 := hN 239 (by omega) (by omega) (by omega)
            have L : cg_L M 4 (N 239) n m := by rw [hz]; exact L
            obtain ⟨M1, N1, e1', e2, f1, -, f3, tr, fin⟩ := cx_rec (B' := B) (Nat.le_refl _) P
            obtain ⟨M2, r2, a1, b1, a2, a3, a4⟩ := ac_shower (N := N1) (tr L) (by rw [hz]; exact r5) hc4 hx hy hy2 hz1 hz2
            rw [← f3] at a2
            refine fin _ _ (nI (c + 1)) M2 r2 n m ?_ ?_ a3 hm fun x hx => a4 x (by omega)
            · rw [f_X5_addShower, h1, cx_x1, h3, cx_x1, h5, cx_x1, show 0 + 4 + 1 = 5 from rfl, c6, if_neg hq, f_X5_addShower_42, cx_rs1, cx_x1, show 0 + 42 = 42 from rfl, show 0 + 4 = 4 from rfl, e1', Option.bind_some, a1, Option.bind_some, b1]
            · show (f_X6_record N 237).bind _ = _
              rw [e2, Option.bind_some, a2, cu_b2]
          · show f_X6_addShower N 237 (nI x) (nI y) (nI z) = (f_X6_record (cl_ms N 237 4 0) 237).bind _
            have hz : (cl_ms N 237 4 0) (237 + 2) 5 = nI c := by rw [show 237 + 2 = 239 from rfl, cx_t9, hN 239 (by decide) (by decide), r5]
            rw [f_X6_addShower, cl_let, h2, Option.bind_some, if_neg (by decide), h4, Option.bind_some, if_neg (by decide), h6, Option.bind_some, if_neg (by decide), f_X6_addShower_42, cx_fails1, cu_b2, if_pos rfl, hz, if_neg hq, f_X6_addShower_70, cx_fails1, cu_b2, if_pos rfl]
        · have hq : (4 : Int32) ≤ nI c := by
            have : c = 4 := by omega
            subst this
            decide
          refine cx_ok_e R 3 2 0 (by decide) (by rw [f_X5_addShower, h1, cx_x1, h3, cx_x1, h5, cx_x1, show 0 + 4 + 1 = 5 from rfl, c6, if_pos hq, f_X5_addShower_42, cx_rs0, cx_x1e]) fun N hN => ?_
          have hz : (cl_ms N 237 4 0) (237 + 2) 5 = nI c := by rw [show 237 + 2 = 239 from rfl, cx_t9, hN 239 (by decide), r5]
          show f_X6_addShower N 237 a s p = _
          rw [f_X6_addShower, cl_let, h2, Option.bind_some, if_neg (by decide), h4, Option.bind_some, if_neg (by decide), h6, Option.bind_some, if_neg (by decide), f_X6_addShower_42, cx_fails1, cu_b2, if_pos rfl, hz, if_pos hq, f_X6_addShower_70, cx_fails0, cu_b2, if_neg (by decide), cx_tt]
          rfl
      · refine cx_ok_e R 1 1 0 (by decide) (by rw [f_X5_addShower, h1, cx_x1, h3, cx_x1, h5, cx_x1e]) fun N hN => ?_
        show f_X6_addShower N 237 a s p = _
        rw [f_X6_addShower, cl_let, h2, Option.bind_some, if_neg (by decide), h4, Option.bind_some, if_neg (by decide), h6, Option.bind_some, if_pos rfl, f_X6_addShower_41, hb]
    · refine cx_ok_e R 1 1 0 (by decide) (by rw [f_X5_addShower, h1, cx_x1, h3, cx_x1e]) fun N hN => ?_
      show f_X6_addShower N 237 a s p = _
      rw [f_X6_addShower, cl_let, h2, Option.bind_some, if_neg (by decide), h4, Option.bind_some, if_pos rfl, f_X6_addShower_41, hb]
  · refine cx_ok_e R 1 1 0 (by decide) (by rw [f_X5_addShower, h1, cx_x1e]) fun N hN => ?_
    show f_X6_addShower N 237 a s p = _
    rw [f_X6_addShower, cl_let, h2, Option.bind_some, if_pos rfl, f_X6_addShower_41, hb]
theorem an_addSmoke (R : cx_R B M) (a s : Int32) : cx_ok B [(1, 1), (3, 2)] (f_X5_addSmoke M 0 a s) (fun N => f_X6_addSmoke N 237 a s) := by
  obtain ⟨n, m, hm, L⟩ := R.1
  have hn := L.1.1
  obtain ⟨F, C⟩ := cx_F R
  obtain ⟨-, -, -, c, hc, w6, -⟩ := F
  have r6 : M 239 6 = nI c := w6
  have c9 : M 5 9 = nI c := C.2.2.2.1.trans w6
  have hb : ∀ N : cl_M, f_X6_addSmoke_33 (cl_ms N 237 4 0) 237 a s 0 237 = some (0, cl_ms N 237 4 (nI 1)) := fun N => by
    rw [f_X6_addSmoke_33, cx_fails0, cu_b2, if_neg (by decide), cx_tt]
    rfl
  rcases cx_req (M := M) (a := a) (b := 0) (c := 9999) with ⟨i1, i2, h1, h2⟩ | ⟨h1, h2⟩
  · rcases cx_req (M := M) (a := s) (b := a) (c := 9999) with ⟨j1, j2, h3, h4⟩ | ⟨h3, h4⟩
    · by_cases hc4 : c < 4
      · obtain ⟨x, hx, rfl⟩ := cx_nat (n := 9999) (by omega) i1 i2
        have js : ¬ s < 0 := fun z => j1 (by
          rw [fa_lt] at z ⊢
          rw [nI_toInt (by omega)]
          have : (0 : Int32).toInt = 0 := by decide
          omega)
        obtain ⟨y, hy, rfl⟩ := cx_nat (n := 9999) (by omega) js j2
        have hxy : x ≤ y := by
          rw [fa_lt, nI_toInt (by omega), nI_toInt (by omega)] at j1
          omega
        have hq : ¬ (4 : Int32) ≤ nI c := nI_ge (b := 4) (by omega) (by omega)
        refine cx_ok_c (fun N => (f_X6_record N 237).bind (fun M12 => cl_b2 (f_X6_doSmoke M12 237 (nI x) (nI y)) (fun v14 M15 => some (v14, M15)))) R (fun N P hN => ?_) fun N hN => ?_
        · have hz : N 239 = M 239 := hN 239 (by omega) (by omega) (by omega)
          have L : cg_L M 4 (N 239) n m := by rw [hz]; exact L
          obtain ⟨M1, N1, e1', e2, f1, -, f3, tr, fin⟩ := cx_rec (B' := B) (Nat.le_refl _) P
          obtain ⟨M2, r2, a1, b1, a2, a3, a4⟩ := ac_smoke (N := N1) (tr L) (by rw [hz]; exact r6) hc4 hxy hy
          rw [← f3] at a2
          refine fin _ _ (nI (c + 1)) M2 r2 n m ?_ ?_ a3 hm fun x hx => a4 x (by omega)
          · rw [f_X5_addSmoke, h1, cx_x1, h3, cx_x1, show 0 + 4 + 1 = 5 from rfl, c9, if_neg hq, f_X5_addSmoke_35, cx_rs1, cx_x1, show 0 + 42 = 42 from rfl, show 0 + 4 = 4 from rfl, e1', Option.bind_some, a1, Option.bind_some, b1]
          · show (f_X6_record N 237).bind _ = _
            rw [e2, Option.bind_some, a2, cu_b2]
        · show f_X6_addSmoke N 237 (nI x) (nI y) = (f_X6_record (cl_ms N 237 4 0) 237).bind _
          have hz : (cl_ms N 237 4 0) (237 + 2) 6 = nI c := by rw [show 237 + 2 = 239 from rfl, cx_t9, hN 239 (by decide) (by decide), r6]
          rw [f_X6_addSmoke, cl_let, h2, Option.bind_some, if_neg (by decide), h4, Option.bind_some, if_neg (by decide), f_X6_addSmoke_33, cx_fails1, cu_b2, if_pos rfl, hz, if_neg hq, f_X6_addSmoke_57, cx_fails1, cu_b2, if_pos rfl]
      · have hq : (4 : Int32) ≤ nI c := by
          have : c = 4 := by omega
          subst this
          decide
        refine cx_ok_e R 3 2 0 (by decide) (by rw [f_X5_addSmoke, h1, cx_x1, h3, cx_x1, show 0 + 4 + 1 = 5 from rfl, c9, if_pos hq, f_X5_addSmoke_35, cx_rs0, cx_x1e]) fun N hN => ?_
        have hz : (cl_ms N 237 4 0) (237 + 2) 6 = nI c := by rw [show 237 + 2 = 239 from rfl, cx_t9, hN 239 (by decide), r6]
        show f_X6_addSmoke N 237 a s = _
        rw [f_X6_addSmoke, cl_let, h2, Option.bind_some, if_neg (by decide), h4, Option.bind_some, if_neg (by decide), f_X6_addSmoke_33, cx_fails1, cu_b2, if_pos rfl, hz, if_pos hq, f_X6_addSmoke_57, cx_fails0, cu_b2, if_neg (by decide), cx_tt]
        rfl
    · refine cx_ok_e R 1 1 0 (by decide) (by rw [f_X5_addSmoke, h1, cx_x1, h3, cx_x1e]) fun N hN => ?_
      show f_X6_addSmoke N 237 a s = _
      rw [f_X6_addSmoke, cl_let, h2, Option.bind_some, if_neg (by decide), h4, Option.bind_some, if_pos rfl, f_X6_addSmoke_32, hb]
  · refine cx_ok_e R 1 1 0 (by decide) (by rw [f_X5_addSmoke, h1, cx_x1e]) fun N hN => ?_
    show f_X6_addSmoke N 237 a s = _
    rw [f_X6_addSmoke, cl_let, h2, Option.bind_some, if_pos rfl, f_X6_addSmoke_32, hb]
theorem an_setWind (R : cx_R B M) (a s : Int32) : cx_ok B [(2, 1), (1, 2)] (f_X5_setWind M 0 a s) (fun N => f_X6_setWind N 237 a s) := by
  obtain ⟨n, m, hm, L⟩ := R.1
  have hn := L.1.1
  obtain ⟨F, C⟩ := cx_F R
  obtain ⟨-, ⟨c, hc, hc8, w4, -⟩, -⟩ := F
  have r4 : M 239 4 = nI c := w4
  have c2 : M (0 + 4 + 1) 2 = nI c := C.2.1.trans w4
  have hz : ∀ N : cl_M, N 239 = M 239 → (cl_ms N 237 4 0) (237 + 2) 4 - 1 = nI c - 1 := fun N h => by rw [show 237 + 2 = 239 from rfl, cx_t9, h, r4]
  rcases cx_idx a hc (by omega) with ⟨i, hi, rfl, h2⟩ | ⟨h1, h2⟩
  · have p1 : ¬ nI i < 0 := nI_pos (by omega)
    have p2 : nI i < nI c := nI_lt hi (by omega)
    rcases cx_req (M := M) (a := s) (b := 0) (c := 5) with ⟨j1, j2, h3, h4⟩ | ⟨h3, h4⟩
    · obtain ⟨x, hx, rfl⟩ := cx_nat (n := 5) (by omega) j1 j2
      refine cx_ok_c (fun N => (f_X6_record N 237).bind (fun M12 => cl_b2 (f_X6_doWind M12 237 (nI i) (nI x)) (fun v14 M15 => some (v14, M15)))) R (fun N P hN => ?_) fun N hN => ?_
      · have hz : N 239 = M 239 := hN 239 (by omega) (by omega) (by omega)
        have L : cg_L M 4 (N 239) n m := by rw [hz]; exact L
        obtain ⟨M1, N1, e1', e2, f1, -, f3, tr, fin⟩ := cx_rec (B' := B) (Nat.le_refl _) P
        obtain ⟨r2, a1, a2, a3⟩ := ac_wind (N := N1) (tr L) (by rw [hz]; exact r4) hc8 hi hx
        rw [← f3] at a2
        refine fin _ _ (N 239 (11 + i)) (cl_ms M1 (4 + 1 + 1) i (nI x)) r2 n m ?_ ?_ a3 hm fun x hx => cp_ms (by omega)
        · rw [f_X5_setWind, if_neg p1, c2, if_pos p2, h3, cx_x1, show 0 + 42 = 42 from rfl, show 0 + 4 = 4 from rfl, e1', Option.bind_some, if_pos (cu_inb (by omega) (by omega)), cl_let, if_pos (cu_inb (by omega) (by omega)), nI_clamp (by omega), cl_let, a1]
        · show (f_X6_record N 237).bind _ = _
          rw [e2, Option.bind_some, a2, cu_b2]
      · show f_X6_setWind N 237 (nI i) (nI x) = (f_X6_record (cl_ms N 237 4 0) 237).bind _
        rw [f_X6_setWind, cl_let, hz N (hN 239 (by decide) (by decide)), h2, Option.bind_some, cx_fails1, cu_b2, if_pos rfl, h4, Option.bind_some, cx_fails1, cu_b2, if_pos rfl]
    · refine cx_ok_e R 1 2 0 (by decide) (by rw [f_X5_setWind, if_neg p1, c2, if_pos p2, h3, cx_x1e]) fun N hN => ?_
      show f_X6_setWind N 237 (nI i) s = _
      rw [f_X6_setWind, cl_let, hz N (hN 239 (by decide)), h2, Option.bind_some, cx_fails1, cu_b2, if_pos rfl, h4, Option.bind_some, cx_fails0, cu_b2, if_neg (by decide), cx_tt]
      rfl
  · refine cx_ok_e R 2 1 0 (by decide) ?_ fun N hN => ?_
    · rw [f_X5_setWind]
      rcases h1 with h1 | ⟨h1, h1'⟩
      · rw [if_pos h1]
        rfl
      · rw [if_neg h1, c2, if_neg h1']
        rfl
    · show f_X6_setWind N 237 a s = _
      rw [f_X6_setWind, cl_let, hz N (hN 239 (by decide)), h2, Option.bind_some, cx_fails0, cu_b2, if_neg (by decide), cx_tt]
      rfl
theorem an_passMinutes (R : cx_R B M) (hB : B + 200 < 2 ^ 30) (a : Int32) : cx_ok (B + 200) [(1, 1)] (f_X5_passMinutes M 0 a) (fun N => f_X6_passMinutes N 237 a) := by
  obtain ⟨n, m, hm, L⟩ := R.1
  have hn := L.1.1
  rcases cx_req (M := M) (a := a) (b := 1) (c := 200) with ⟨j1, j2, h3, h4⟩ | ⟨h3, h4⟩
  · obtain ⟨x, hx, hx2, rfl⟩ := cx_nat1 (n := 200) (by omega) j1 j2
    refine cx_ok_c (fun N => (f_X6_record N 237).bind (fun M12 => cl_b2 (f_X6_passAll M12 237 (nI x)) (fun v14 M15 => some (v14, M15)))) R (fun N P hN => ?_) fun N hN => ?_
    · have hz : N 239 = M 239 := hN 239 (by omega) (by omega) (by omega)
      have L : cg_L M 4 (N 239) n m := by rw [hz]; exact L
      obtain ⟨M1, N1, e1', e2, f1, -, f3, tr, fin⟩ := cx_rec (B' := B + 200) (by omega) P
      obtain ⟨v, M2, r2, a1, a2, a3, a4⟩ := cg_L_pass (N := N1) (a := x) (tr L) (by omega) (by omega)
      rw [← f3] at a2
      refine fin _ _ v M2 r2 n (m + x) ?_ ?_ a3 (by omega) fun x hx => a4 x (by omega)
      · rw [f_X5_passMinutes, h3, cx_x1, show 0 + 42 = 42 from rfl, show 0 + 4 = 4 from rfl, e1', Option.bind_some, a1, cu_b2]
      · show (f_X6_record N 237).bind _ = _
        rw [e2, Option.bind_some, a2, cu_b2]
    · show f_X6_passMinutes N 237 (nI x) = (f_X6_record (cl_ms N 237 4 0) 237).bind _
      rw [f_X6_passMinutes, cl_let, h4, Option.bind_some, cx_fails1, cu_b2, if_pos rfl]
  · refine cx_ok_le (B := B) (cx_ok_e R 1 1 0 (by decide) (by rw [f_X5_passMinutes, h3, cx_x1e]) fun N hN => ?_) (by omega)
    show f_X6_passMinutes N 237 a = _
    rw [f_X6_passMinutes, cl_let, h4, Option.bind_some, cx_fails0, cu_b2, if_neg (by decide), cx_tt]
    rfl
theorem an_addGarment (R : cx_R B M) (a s p q : Int32) : cx_ok B [(1, 1), (3, 2)] (f_X5_addGarment M 0 a s p q) (fun N => f_X6_addGarment N 237 a s p q) := by
  obtain ⟨n, m, hm, L⟩ := R.1
  have hn := L.1.1
  have c3 : M (0 + 4) 3 = nI n := L.1.2.1
  have h7 : ∀ N : cl_M, N 239 = M 239 → (cl_ms N 237 4 0) (237 + 2) 7 = nI n := fun N h => by rw [show 237 + 2 = 239 from rfl, cx_t9, h]; exact L.1.2.2.1
  have hb : ∀ N : cl_M, f_X6_addGarment_50 (cl_ms N 237 4 0) 237 a s p q = some (0, cl_ms N 237 4 (nI 1)) := fun N => by
    rw [f_X6_addGarment_50, f_X6_addGarment_51, cx_fails0, cu_b2, if_neg (by decide), cx_tt]
    rfl
  rcases cx_req (M := M) (a := a) (b := 1) (c := 6) with ⟨i1, i2, h1, h2⟩ | ⟨h1, h2⟩
  · rcases cx_req (M := M) (a := s) (b := 1) (c := 99) with ⟨j1, j2, h3, h4⟩ | ⟨h3, h4⟩
    · rcases cx_req (M := M) (a := p) (b := 1) (c := 999) with ⟨k1, k2, h5, h6⟩ | ⟨h5, h6⟩
      · rcases cx_req (M := M) (a := q) (b := 0) (c := p) with ⟨l1, l2, h8, h9⟩ | ⟨h8, h9⟩
        · by_cases hc4 : n < 10
          · obtain ⟨x, hx, hx2, rfl⟩ := cx_nat1 (n := 6) (by omega) i1 i2
            obtain ⟨y, hy, hy2, rfl⟩ := cx_nat1 (n := 99) (by omega) j1 j2
            obtain ⟨z, hz1, hz2, rfl⟩ := cx_nat1 (n := 999) (by omega) k1 k2
            obtain ⟨w, hw, rfl⟩ := cx_nat (n := z) (by omega) l1 l2
            have hq : ¬ (10 : Int32) ≤ nI n := nI_ge (b := 10) (by omega) (by omega)
            refine cx_ok_c (fun N => (f_X6_record N 237).bind (fun M12 => cl_b2 (f_X6_doGarment M12 237 (nI x) (nI y) (nI z) (nI w)) (fun v14 M15 => some (v14, M15)))) R (fun N P hN => ?_) fun N hN => ?_
            · have hz : N 239 = M 239 := hN 239 (by omega) (by omega) (by omega)
              have L : cg_L M 4 (N 239) n m := by rw [hz]; exact L
              obtain ⟨M1, N1, e1', e2, f1, -, f3, tr, fin⟩ := cx_rec (B' := B) (Nat.le_refl _) P
              obtain ⟨M2, r2, a1, a2, a3, a4⟩ := ac_append (N := N1) (tr L) hc4 hx hx2 hy hy2 hz1 hz2 hw
              rw [← f3] at a2
              refine fin _ _ (nI n) M2 r2 (n + 1) m ?_ ?_ a3 hm fun x hx => a4 x (by omega) (by omega)
              · have a5 : M2 4 3 - 1 = nI n := by
                  rw [a3.1.2.1, show (1 : Int32) = nI 1 from rfl, ← nI_add n 1, Int32.add_sub_cancel]
                rw [f_X5_addGarment, h1, cx_x1, h3, cx_x1, h5, cx_x1, h8, cx_x1, c3, if_neg hq, f_X5_addGarment_46, cx_rs1, cx_x1, show 0 + 42 = 42 from rfl, show 0 + 4 = 4 from rfl, e1', Option.bind_some, a1, Option.bind_some, a5]
              · show (f_X6_record N 237).bind _ = _
                rw [e2, Option.bind_some, a2, cu_b2]
            · show f_X6_addGarment N 237 (nI x) (nI y) (nI z) (nI w) = (f_X6_record (cl_ms N 237 4 0) 237).bind _
              rw [f_X6_addGarment, cl_let, h2, Option.bind_some, if_neg (by decide), h4, Option.bind_some, if_neg (by decide), h6, Option.bind_some, if_neg (by decide), h9, Option.bind_some, if_neg (by decide), f_X6_addGarment_51, cx_fails1, cu_b2, if_pos rfl, h7 N (hN 239 (by decide) (by decide)), if_neg hq, f_X6_addGarment_81, cx_fails1, cu_b2, if_pos rfl]
          · have hq : (10 : Int32) ≤ nI n := by
              have : n = 10 := by omega
              subst this
              decide
            refine cx_ok_e R 3 2 0 (by decide) (by rw [f_X5_addGarment, h1, cx_x1, h3, cx_x1, h5, cx_x1, h8, cx_x1, c3, if_pos hq, f_X5_addGarment_46, cx_rs0, cx_x1e]) fun N hN => ?_
            show f_X6_addGarment N 237 a s p q = _
            rw [f_X6_addGarment, cl_let, h2, Option.bind_some, if_neg (by decide), h4, Option.bind_some, if_neg (by decide), h6, Option.bind_some, if_neg (by decide), h9, Option.bind_some, if_neg (by decide), f_X6_addGarment_51, cx_fails1, cu_b2, if_pos rfl, h7 N (hN 239 (by decide)), if_pos hq, f_X6_addGarment_81, cx_fails0, cu_b2, if_neg (by decide), cx_tt]
            rfl
        · refine cx_ok_e R 1 1 0 (by decide) (by rw [f_X5_addGarment, h1, cx_x1, h3, cx_x1, h5, cx_x1, h8, cx_x1e]) fun N hN => ?_
          show f_X6_addGarment N 237 a s p q = _
          rw [f_X6_addGarment, cl_let, h2, Option.bind_some, if_neg (by decide), h4, Option.bind_some, if_neg (by decide), h6, Option.bind_some, if_neg (by decide), h9, Option.bind_some, if_pos rfl, hb]
      · refine cx_ok_e R 1 1 0 (by decide) (by rw [f_X5_addGarment, h1, cx_x1, h3, cx_x1, h5, cx_x1e]) fun N hN => ?_
        show f_X6_addGarment N 237 a s p q = _
        rw [f_X6_addGarment, cl_let, h2, Option.bind_some, if_neg (by decide), h4, Option.bind_some, if_neg (by decide), h6, Option.bind_some, if_pos rfl, hb]
    · refine cx_ok_e R 1 1 0 (by decide) (by rw [f_X5_addGarment, h1, cx_x1, h3, cx_x1e]) fun N hN => ?_
      show f_X6_addGarment N 237 a s p q = _
      rw [f_X6_addGarment, cl_let, h2, Option.bind_some, if_neg (by decide), h4, Option.bind_some, if_pos rfl, hb]
  · refine cx_ok_e R 1 1 0 (by decide) (by rw [f_X5_addGarment, h1, cx_x1e]) fun N hN => ?_
    show f_X6_addGarment N 237 a s p q = _
    rw [f_X6_addGarment, cl_let, h2, Option.bind_some, if_pos rfl, hb]
