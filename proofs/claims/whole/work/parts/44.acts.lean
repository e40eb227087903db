/-! what is done to a line: garments, on both sides -/
theorem cu_as (a b c : Int32) : a + (b - c) = a + b - c := by rw [Int32.sub_eq_add_neg, Int32.sub_eq_add_neg, Int32.add_assoc]
theorem cu_peg {x p q : Nat} (h : q ≤ x + p) : nI x + (nI p - nI q) = nI (x + p - q) := by rw [cu_as, nI_add, pk_sub h]
theorem cu_sm_upd {f h : Nat → Int32} {i : Nat} (he : ∀ k, k ≠ i → h k = f k) : ∀ {n : Nat}, i < n → cu_sm h n = cu_sm f n + (h i - f i)
  | 0, q => absurd q (Nat.not_lt_zero i)
  | n + 1, q => by
    rw [cu_sm, cu_sm]
    by_cases e : i = n
    · subst e
      rw [cu_sm_cong (n := i) (fun k hk => he k (by omega)), Int32.add_assoc, cu_as, Int32.add_comm (f i), Int32.add_sub_cancel]
    · rw [cu_sm_upd he (show i < n by omega), he n (by omega), Int32.add_assoc, Int32.add_assoc, Int32.add_comm (h i - f i)]
/-- a garment of a line changed -/
theorem cg_L_upd {M : cl_M} {t n m g : Nat} {r r' G' : Nat → Int32} (L : cg_L M t r n m) (hg : g < n) (W' : cg_W G') (hS : cg_S (cg_G M t g) r g G' r')
    (h9 : cN (G' 9) ≤ cN (r 2) + cN (cg_G M t g 9)) (h10 : cN (G' 10) ≤ cN (r 3) + cN (cg_G M t g 10)) (hd : ∀ k, k < n → k ≠ g → G' 8 &&& cg_G M t k 8 = 0) : cg_L (cl_row M (t + 9 + g) G') t r' n m := by
  obtain ⟨⟨hn, h3, h7, h2, h0, F, C⟩, hG, hD, ⟨s8, s9, s10⟩, a, b, x, y, ⟨ha, hb, ea, eb, ex, ey⟩, px, py⟩ := L
  have hw : cw_x r' = cw_x r := cg_S_x hS rfl (by omega)
  have gi : cg_G (cl_row M (t + 9 + g) G') t g = G' := cl_row_s
  have go : ∀ k, k ≠ g → cg_G (cl_row M (t + 9 + g) G') t k = cg_G M t k := fun k hk => cl_row_n (by omega)
  have ho : ∀ x, x < t + 9 → (cl_row M (t + 9 + g) G') x = M x := fun x hx => cl_row_n (by omega)
  obtain ⟨w9, w9', w10, w10'⟩ := cg_W_9 (hG g hg).2
  obtain ⟨v9, v9', v10, v10'⟩ := cg_W_9 W'
  have hcx : cN (r 2) = x := by rw [ex]; exact cN_nI (by omega)
  have hcy : cN (r 3) = y := by rw [ey]; exact cN_nI (by omega)
  refine ⟨⟨hn, by rw [ho t (by omega), h3], (cg_S_at hS (by omega)).trans h7, by rw [ho t (by omega), h2], (cg_S_at hS (by omega)).trans h0, by rw [hw]; exact F, by rw [hw]; exact cw_C_cong (fun x h1 h2 => ho x (by omega)) C⟩, fun k hk => ?_, fun j k h1 h2 => ?_, ⟨?_, ?_, ?_⟩, a, b, x + cN (cg_G M t g 9) - cN (G' 9), y + cN (cg_G M t g 10) - cN (G' 10), ⟨ha, hb, by rw [ho t (by omega), ea], by rw [ho t (by omega), eb], ?_, ?_⟩, ?_, ?_⟩
  · by_cases e : k = g
    · subst e
      rw [gi]; exact ⟨hS.1, W'⟩
    · rw [go k e]; exact ⟨cg_S_E hS e (hG k hk).1, (hG k hk).2⟩
  · by_cases e : j = g
    · subst e
      rw [gi, go k (by omega)]; exact hd k h2 (by omega)
    · rw [go j e]
      by_cases e2 : k = g
      · subst e2
        rw [gi, Int32.and_comm]; exact hd j (by omega) e
      · rw [go k e2]; exact hD j k h1 h2
  · rw [hS.2.2.1, s8, cu_sm_upd (f := fun k => cg_G M t k 12) (h := fun k => cg_G (cl_row M (t + 9 + g) G') t k 12) (i := g) (fun k hk => congrFun (go k hk) 12) hg, gi]
  · rw [hS.2.2.2.1, s9, cu_sm_upd (f := fun k => cg_G M t k 13) (h := fun k => cg_G (cl_row M (t + 9 + g) G') t k 13) (i := g) (fun k hk => congrFun (go k hk) 13) hg, gi]
  · rw [hS.2.2.2.2.1, s10, cu_sm_upd (f := fun k => cg_G M t k 14) (h := fun k => cg_G (cl_row M (t + 9 + g) G') t k 14) (i := g) (fun k hk => congrFun (go k hk) 14) hg, gi]
  · rw [hS.2.2.2.2.2.1, ex, w9, v9, cu_peg (by omega)]
    rw [cN_nI (n := cN (cg_G M t g 9)) (by omega), cN_nI (n := cN (G' 9)) (by omega)]
  · rw [hS.2.2.2.2.2.2, ey, w10, v10, cu_peg (by omega)]
    rw [cN_nI (n := cN (cg_G M t g 10)) (by omega), cN_nI (n := cN (G' 10)) (by omega)]
  · have := cu_ns_upd (f := fun k => cN (cg_G M t k 9)) (h := fun k => cN (cg_G (cl_row M (t + 9 + g) G') t k 9)) (i := g) (fun k hk => by rw [go k hk]) hg
    simp only [gi] at this
    omega
  · have := cu_ns_upd (f := fun k => cN (cg_G M t k 10)) (h := fun k => cN (cg_G (cl_row M (t + 9 + g) G') t k 10)) (i := g) (fun k hk => by rw [go k hk]) hg
    simp only [gi] at this
    omega
theorem cu_orz {M : cl_M} {t n : Nat} {x : Int32} (h : x &&& ck_oc M t n = 0) {k : Nat} (hk : k < n) : x &&& cg_G M t k 8 = 0 := by
  have H : ∀ j, k < j → j ≤ n → ∀ z : Int32, x &&& cu_it (fun i y => y ||| cg_G M t i 8) j z = 0 → x &&& cg_G M t k 8 = 0 := by
    intro j
    induction j with
    | zero => intro h; omega
    | succ j ih =>
      intro h1 h2 z hz
      rw [cu_it, Int32.and_comm, cu_dist] at hz
      have e1 : cu_it (fun i y => y ||| cg_G M t i 8) j z &&& x = 0 := by
        apply b_ext
        intro i hi
        have q := congrArg (fun v => bt v i) hz
        simp only [b_or, b_0, Bool.or_eq_false_iff] at q
        rw [b_0]; exact q.1
      have e2 : cg_G M t j 8 &&& x = 0 := by
        apply b_ext
        intro i hi
        have q := congrArg (fun v => bt v i) hz
        simp only [b_or, b_0, Bool.or_eq_false_iff] at q
        rw [b_0]; exact q.2
      by_cases e : k = j
      · subst e; rw [Int32.and_comm]; exact e2
      · exact ih (by omega) (by omega) z (by rw [Int32.and_comm]; exact e1)
  exact H n hk (Nat.le_refl _) 0 h
section AC
variable {M N : cl_M} {t n m : Nat} {r : Nat → Int32}
theorem ac_cell (M : cl_M) (x : Nat) : M = cl_row M x (M x) := (cu_rself M x).symm
/-- hanging up -/
theorem ac_hang (L : cg_L M t r n m) {g s a b : Nat} (hg : g < n) (hs : s < 24) (ha : a ≤ 4) (hb : b ≤ 4) (h6 : M (t + 9 + g) 6 = 0) (h0 : nI s + M (t + 9 + g) 0 ≤ 24) (ho : ((((1 : Int32) <<< (M (t + 9 + g) 0 &&& 31)) - 1) <<< (nI s &&& 31)) &&& ck_oc M t n = 0) (hx : nI a ≤ r 2) (hy : nI b ≤ r 3) :
    ∃ M' r', f_X0_hangUp M (t + 9 + g) (nI s) (nI a) (nI b) = some M' ∧ f_X6_doHang (cl_row N 239 r) 237 (nI g) (nI s) (nI a) (nI b) = some (cg_hold (M' (t + 9 + g)), cl_row N 239 r') ∧ cg_L M' t r' n m ∧ ∀ x, x ≠ t + 9 + g → M' x = M x := by
  have hn := L.1.1
  obtain ⟨hE, hW⟩ := ck_G L g hg
  obtain ⟨x, y, hx30, hy30, ex, ey⟩ := ck_pegs L
  have hE0 := hE
  obtain ⟨wd, wa, c, v, ⟨i1, i2, i3, i4, i5, i6, i7, e0, e1, e2, e3⟩, ⟨sm, hsm, e4⟩, ⟨e5, -⟩, hp⟩ := id hW
  obtain ⟨b6, b7, b8, b9, b10⟩ : cg_G M t g 6 = 0 ∧ cg_G M t g 7 = -1 ∧ cg_G M t g 8 = 0 ∧ cg_G M t g 9 = 0 ∧ cg_G M t g 10 = 0 := by
    rcases hp with ⟨q6, -⟩ | ⟨q6, q7, q8, q9, q10⟩
    · have : M (t + 9 + g) 6 = 1 := q6
      rw [h6] at this; exact absurd this (by decide)
    · exact ⟨h6, q7, q8, q9, q10⟩
  have hp : s + wd ≤ 24 := by
    have : nI s + cg_G M t g 0 ≤ 24 := h0
    rw [e0, nI_add] at this
    exact (nI_leI (b := 24) (by omega) (by omega)).mp this
  have W' : cg_W (cg_hang (cg_G M t g) (nI s) (nI a) (nI b)) := by
    unfold cg_hang
    refine ⟨wd, wa, c, v, ⟨i1, i2, i3, i4, i5, i6, i7, ?_, ?_, ?_, ?_⟩, ⟨sm, hsm, ?_⟩, ⟨?_, ⟨a, by omega, ?_⟩, ⟨b, by omega, ?_⟩⟩, Or.inl ⟨?_, s, hp, ?_, ?_⟩⟩
    all_goals simp (disch := omega) only [cl_let, Option.bind_some, cl_b2, nI_add, pk_mul, nI_leI, nI_ltI, nI_eq, nI_clamp, cu_inb, if_pos, if_neg, eq_self, ite_true, ite_false, if_true, if_false, pk_us, pk_un, e0, e1, e2, e3, e4]
    · exact e5
    · rfl
  rw [ex] at hx
  rw [ey] at hy
  have hax : a ≤ x := (nI_leI (by omega) (by omega)).mp hx
  have hby : b ≤ y := (nI_leI (by omega) (by omega)).mp hy
  have hS : cg_S (cg_G M t g) r g (cg_hang (cg_G M t g) (nI s) (nI a) (nI b)) (upd (upd (upd (upd (upd (upd r (39 + 11 * g + 6) 1) (39 + 11 * g + 7) (nI s)) (39 + 11 * g + 8) (nI a)) (39 + 11 * g + 9) (nI b)) 2 (r 2 - nI a)) 3 (r 3 - nI b)) := by
    obtain ⟨⟨a0, a1, a2, a3, a4, a5⟩, a6, a7, a8, a9, a10⟩ := hE
    have hz : ∀ u z : Int32, u + (0 - z) = u - z := fun u z => by rw [Int32.zero_sub, Int32.sub_eq_add_neg]
    unfold cg_S cg_E cg_hang
    refine ⟨⟨⟨?_, ?_, ?_, ?_, ?_, ?_⟩, ?_, ?_, ?_, ?_, ?_⟩, fun k q1 q2 q3 q4 q5 q6 => ?_, ?_, ?_, ?_, ?_, ?_⟩
    all_goals simp (disch := omega) only [cl_let, Option.bind_some, cl_b2, nI_add, pk_mul, nI_leI, nI_ltI, nI_eq, nI_clamp, cu_inb, if_pos, if_neg, eq_self, ite_true, ite_false, if_true, if_false, pk_us, pk_un, a0, a1, a2, a3, a4, a5, a6, a7, a8, a9, a10, cu_s0, b9, b10, hz]
  refine ⟨cl_row M (t + 9 + g) (cg_hang (cg_G M t g) (nI s) (nI a) (nI b)), _, ?_, ?_, cg_L_upd L hg W' hS ?_ ?_ ?_, fun x hx => cl_row_n hx⟩
  · conv => lhs; rw [ac_cell M (t + 9 + g)]
    exact cg_hangC
  · have hho := cg_holdN (N := N) (g := g) (by omega) hS.1
    rw [f_X6_doHang]
    simp (disch := omega) only [cl_let, Option.bind_some, cl_b2, nI_add, pk_mul, nI_leI, nI_ltI, nI_eq, nI_clamp, cu_inb, if_pos, if_neg, eq_self, ite_true, ite_false, if_true, if_false, cm_put6, cm_put7, cm_put8, cm_put9, cm_set, cm_now, pk_un, hho, cl_row_s]
  · rw [show cg_hang (cg_G M t g) (nI s) (nI a) (nI b) 9 = nI a by unfold cg_hang; simp (disch := omega) only [cl_let, Option.bind_some, cl_b2, nI_add, pk_mul, nI_leI, nI_ltI, nI_eq, nI_clamp, cu_inb, if_pos, if_neg, eq_self, ite_true, ite_false, if_true, if_false, pk_us, pk_un], ex, cN_nI (n := a) (by omega), cN_nI (n := x) (by omega)]; omega
  · rw [show cg_hang (cg_G M t g) (nI s) (nI a) (nI b) 10 = nI b by unfold cg_hang; simp (disch := omega) only [cl_let, Option.bind_some, cl_b2, nI_add, pk_mul, nI_leI, nI_ltI, nI_eq, nI_clamp, cu_inb, if_pos, if_neg, eq_self, ite_true, ite_false, if_true, if_false, pk_us, pk_un], ey, cN_nI (n := b) (by omega), cN_nI (n := y) (by omega)]; omega
  · intro k hk hne
    rw [show cg_hang (cg_G M t g) (nI s) (nI a) (nI b) 8 = ((((1 : Int32) <<< (M (t + 9 + g) 0 &&& 31)) - 1) <<< (nI s &&& 31)) by unfold cg_hang; rw [pk_us]]
    exact cu_orz ho hk
theorem ac_putW {G : Nat → Int32} (W : cg_W G) : cg_W (cg_put G 0) := by
  obtain ⟨wd, wa, c, v, ⟨i1, i2, i3, i4, i5, i6, i7, e0, e1, e2, e3⟩, ⟨sm, hsm, e4⟩, ⟨e5, -⟩, hp⟩ := W
  unfold cg_put
  refine ⟨wd, wa, c, v, ⟨i1, i2, i3, i4, i5, i6, i7, ?_, ?_, ?_, ?_⟩, ⟨sm, hsm, ?_⟩, ⟨?_, ⟨0, by omega, ?_⟩, ⟨0, by omega, ?_⟩⟩, Or.inr ⟨Or.inl ?_, ?_, ?_, ?_, ?_⟩⟩
  all_goals simp (disch := omega) only [cl_let, Option.bind_some, cl_b2, nI_add, pk_mul, nI_leI, nI_ltI, nI_eq, nI_clamp, cu_inb, if_pos, if_neg, eq_self, ite_true, ite_false, if_true, if_false, pk_us, pk_un, e0, e1, e2, e3, e4, nI_0]
  exact e5
theorem ac_put (L : cg_L M t r n m) {g : Nat} (hg : g < n) {r' : Nat → Int32} (hS : cg_S (cg_G M t g) r g (cg_put (cg_G M t g) 0) r') :
    f_X0_putInto M (t + 9 + g) 0 = some (cl_row M (t + 9 + g) (cg_put (cg_G M t g) 0)) ∧ cg_L (cl_row M (t + 9 + g) (cg_put (cg_G M t g) 0)) t r' n m := by
  have hW := (ck_G L g hg).2
  have z9 : cg_put (cg_G M t g) 0 9 = nI 0 := by unfold cg_put; simp (disch := omega) only [cl_let, Option.bind_some, cl_b2, nI_add, pk_mul, nI_leI, nI_ltI, nI_eq, nI_clamp, cu_inb, if_pos, if_neg, eq_self, ite_true, ite_false, if_true, if_false, pk_us, pk_un]; rfl
  have z10 : cg_put (cg_G M t g) 0 10 = nI 0 := by unfold cg_put; simp (disch := omega) only [cl_let, Option.bind_some, cl_b2, nI_add, pk_mul, nI_leI, nI_ltI, nI_eq, nI_clamp, cu_inb, if_pos, if_neg, eq_self, ite_true, ite_false, if_true, if_false, pk_us, pk_un]; rfl
  have z8 : cg_put (cg_G M t g) 0 8 = 0 := by unfold cg_put; simp (disch := omega) only [cl_let, Option.bind_some, cl_b2, nI_add, pk_mul, nI_leI, nI_ltI, nI_eq, nI_clamp, cu_inb, if_pos, if_neg, eq_self, ite_true, ite_false, if_true, if_false, pk_us, pk_un]
  refine ⟨?_, cg_L_upd L hg (ac_putW hW) hS ?_ ?_ ?_⟩
  · conv => lhs; rw [ac_cell M (t + 9 + g)]
    exact cg_putC
  · rw [z9, cN_nI (by omega)]; omega
  · rw [z10, cN_nI (by omega)]; omega
  · intro k hk hne
    rw [z8]; exact Int32.zero_and
/-- taking down -/
theorem ac_take (L : cg_L M t r n m) {g : Nat} (hg : g < n) :
    ∃ M' r', f_X0_putInto M (t + 9 + g) 0 = some M' ∧ f_X6_doTake (cl_row N 239 r) 237 (nI g) = some (M' (t + 9 + g) 3, cl_row N 239 r') ∧ cg_L M' t r' n m ∧ ∀ x, x ≠ t + 9 + g → M' x = M x := by
  have hn := L.1.1
  obtain ⟨hE, hW⟩ := ck_G L g hg
  obtain ⟨r1, z1, y1⟩ := cg_freeN (N := N) (g := g) (by omega) hE
  have hS : cg_S (cg_G M t g) r g (cg_put (cg_G M t g) 0) (upd r1 (39 + 11 * g + 6) 0) := by
    refine cg_S_tr y1 ?_
    obtain ⟨⟨⟨a0, a1, a2, a3, a4, a5⟩, a6, a7, a8, a9, a10⟩, -⟩ := y1
    unfold cg_S cg_E cg_put
    refine ⟨⟨⟨?_, ?_, ?_, ?_, ?_, ?_⟩, ?_, ?_, ?_, ?_, ?_⟩, fun k q1 q2 q3 q4 q5 q6 => ?_, ?_, ?_, ?_, ?_, ?_⟩
    all_goals simp (disch := omega) only [cl_let, Option.bind_some, cl_b2, nI_add, pk_mul, nI_leI, nI_ltI, nI_eq, nI_clamp, cu_inb, if_pos, if_neg, eq_self, ite_true, ite_false, if_true, if_false, pk_us, pk_un, a0, a1, a2, a3, a4, a5, a6, a7, a8, a9, a10, cu_s0]
  obtain ⟨p1, p2⟩ := ac_put L hg hS
  refine ⟨_, _, p1, ?_, p2, fun x hx => cl_row_n hx⟩
  rw [f_X6_doTake, z1, Option.bind_some, cm_put6 (by omega), Option.bind_some, cm_of3 (by omega), Option.bind_some, hS.1.1.2.2.2.1, cl_row_s]
/-- picking up -/
theorem ac_pick (L : cg_L M t r n m) {g : Nat} (hg : g < n) (h6 : M (t + 9 + g) 6 = 2) :
    ∃ M' r' v, f_X0_putInto M (t + 9 + g) 0 = some M' ∧ f_X2_setInState M' t 2 = some v ∧ f_J6_bitCount_0f7a4 M' v = some (cu_bc v) ∧ f_X6_doPick (cl_row N 239 r) 237 (nI g) = some (cu_bc v, cl_row N 239 r') ∧ cg_L M' t r' n m ∧ ∀ x, x ≠ t + 9 + g → M' x = M x := by
  have hn := L.1.1
  obtain ⟨hE, hW⟩ := ck_G L g hg
  obtain ⟨wd, wa, c, v, -, -, -, hp⟩ := id hW
  obtain ⟨b7, b8, b9, b10⟩ : cg_G M t g 7 = -1 ∧ cg_G M t g 8 = 0 ∧ cg_G M t g 9 = 0 ∧ cg_G M t g 10 = 0 := by
    rcases hp with ⟨q6, -⟩ | ⟨q6, q7, q8, q9, q10⟩
    · have : M (t + 9 + g) 6 = 1 := q6
      rw [h6] at this; exact absurd this (by decide)
    · exact ⟨q7, q8, q9, q10⟩
  have hS : cg_S (cg_G M t g) r g (cg_put (cg_G M t g) 0) (upd r (39 + 11 * g + 6) 0) := by
    obtain ⟨⟨a0, a1, a2, a3, a4, a5⟩, a6, a7, a8, a9, a10⟩ := hE
    unfold cg_S cg_E cg_put
    refine ⟨⟨⟨?_, ?_, ?_, ?_, ?_, ?_⟩, ?_, ?_, ?_, ?_, ?_⟩, fun k q1 q2 q3 q4 q5 q6 => ?_, ?_, ?_, ?_, ?_, ?_⟩
    all_goals simp (disch := omega) only [cl_let, Option.bind_some, cl_b2, nI_add, pk_mul, nI_leI, nI_ltI, nI_eq, nI_clamp, cu_inb, if_pos, if_neg, eq_self, ite_true, ite_false, if_true, if_false, pk_us, pk_un, a0, a1, a2, a3, a4, a5, a6, a7, a8, a9, a10, cu_s0, b7, b8, b9, b10]
  obtain ⟨p1, p2⟩ := ac_put L hg hS
  have q1 := cq_state (a := 2) hn p2.1.2.1
  have q2 := cq_stateN (N := N) (a := 2) hn p2.1.2.2.1 (ck_G p2)
  obtain ⟨v, hv⟩ : ∃ v, v = cu_it (fun i x => if cg_G (cl_row M (t + 9 + g) (cg_put (cg_G M t g) 0)) t i 6 = 2 then x ||| (1 <<< (nI i &&& 31)) else x) n 0 := ⟨_, rfl⟩
  have hmn : cu_mn v 24 = cu_bc v := by
    have hlt : ∀ k, k ≤ 10 → ∃ q, q < 2 ^ k ∧ cu_it (fun i x => if cg_G (cl_row M (t + 9 + g) (cg_put (cg_G M t g) 0)) t i 6 = 2 then x ||| (1 <<< (nI i &&& 31)) else x) k 0 = nI q := by
      intro k
      induction k with
      | zero => intro _; exact ⟨0, by omega, rfl⟩
      | succ k ih =>
        intro hk
        obtain ⟨q, hq, e⟩ := ih (by omega)
        rw [cu_it, e]
        have hp : (2 : Nat) ^ (k + 1) = 2 ^ k + 2 ^ k := by rw [Nat.pow_succ]; omega
        by_cases z : cg_G (cl_row M (t + 9 + g) (cg_put (cg_G M t g) 0)) t k 6 = 2
        · rw [if_pos z, show (1 : Int32) <<< (nI k &&& 31) = nI (2 ^ k) from (by decide +kernel : ∀ k, k < 10 → (1 : Int32) <<< (nI k &&& 31) = nI (2 ^ k)) k (by omega), fa_or]
          exact ⟨q ||| 2 ^ k, Nat.or_lt_two_pow (by omega) (by omega), rfl⟩
        · rw [if_neg z]; exact ⟨q, by omega, rfl⟩
    obtain ⟨q, hq, e⟩ := hlt n hn
    have h10 : 2 ^ n ≤ 2 ^ 10 := Nat.pow_le_pow_right (by omega) hn
    rw [hv, e]
    exact (cu_bc_mn0 q (by omega)).1.symm
  refine ⟨_, _, v, p1, ?_, cu_bc_e _ _, ?_, p2, fun x hx => cl_row_n hx⟩
  · rw [hv]; exact q1
  · rw [f_X6_doPick, cm_put6 (by omega), Option.bind_some, q2, Option.bind_some, cu_mn_e, Option.bind_some, ← hmn, hv]
/-- washing -/
theorem ac_wash (L : cg_L M t r n m) {g : Nat} (hg : g < n) :
    ∃ M' r', f_X0_soak M (t + 9 + g) = some M' ∧ f_X6_doWash (cl_row N 239 r) 237 (nI g) = some (M' (t + 9 + g) 3 - M (t + 9 + g) 3, cl_row N 239 r') ∧ cg_L M' t r' n m ∧ ∀ x, x ≠ t + 9 + g → M' x = M x := by
  have hn := L.1.1
  obtain ⟨hE, hW⟩ := ck_G L g hg
  obtain ⟨wd, wa, c, v, ⟨i1, i2, i3, i4, i5, i6, i7, e0, e1, e2, e3⟩, ⟨sm, hsm, e4⟩, ⟨e5, q9, q10⟩, hp⟩ := id hW
  obtain ⟨k9, k9', k10, k10'⟩ := cg_W_9 hW
  obtain ⟨G', hG'⟩ : ∃ z, z = upd (upd (upd (upd (cg_G M t g) 12 (cg_G M t g 12 + (cg_G M t g 2 - cg_G M t g 3))) 3 (cg_G M t g 2)) 4 0) 5 0 := ⟨_, rfl⟩
  have hk : ∀ k, k ≠ 12 → k ≠ 3 → k ≠ 4 → k ≠ 5 → G' k = cg_G M t g k := fun k h1 h2 h3 h4 => by rw [hG', pk_un h4, pk_un h3, pk_un h2, pk_un h1]
  have W' : cg_W G' := by
    refine ⟨wd, wa, c, c, ⟨i1, i2, i3, i4, i5, i6, Nat.le_refl _, ?_, ?_, ?_, ?_⟩, ⟨0, by omega, ?_⟩, ⟨Or.inl ?_, ?_, ?_⟩, ?_⟩
    · rw [hk 0 (by omega) (by omega) (by omega) (by omega), e0]
    · rw [hk 1 (by omega) (by omega) (by omega) (by omega), e1]
    · rw [hk 2 (by omega) (by omega) (by omega) (by omega), e2]
    · rw [hG', pk_un (by decide), pk_un (by decide), pk_us, e2]
    · rw [hG', pk_un (by decide), pk_us]; rfl
    · rw [hG', pk_us]
    · rw [hk 9 (by omega) (by omega) (by omega) (by omega)]; exact q9
    · rw [hk 10 (by omega) (by omega) (by omega) (by omega)]; exact q10
    · rw [hk 6 (by omega) (by omega) (by omega) (by omega), hk 7 (by omega) (by omega) (by omega) (by omega), hk 8 (by omega) (by omega) (by omega) (by omega), hk 9 (by omega) (by omega) (by omega) (by omega), hk 10 (by omega) (by omega) (by omega) (by omega)]
      exact hp
  have hS : cg_S (cg_G M t g) r g G' (upd (upd (upd (upd r (39 + 11 * g + 3) (cg_G M t g 3 + (cg_G M t g 2 - cg_G M t g 3))) 8 (r 8 + (cg_G M t g 2 - cg_G M t g 3))) (39 + 11 * g + 4) 0) (39 + 11 * g + 5) 0) := by
    obtain ⟨⟨a0, a1, a2, a3, a4, a5⟩, a6, a7, a8, a9, a10⟩ := hE
    have hc : ∀ u z : Int32, u + (z - u) = z := fun u z => by rw [cu_as, Int32.add_comm, Int32.add_sub_cancel]
    rw [hG']
    unfold cg_S cg_E
    refine ⟨⟨⟨?_, ?_, ?_, ?_, ?_, ?_⟩, ?_, ?_, ?_, ?_, ?_⟩, fun k q1 q2 q3 q4 q5 q6 => ?_, ?_, ?_, ?_, ?_, ?_⟩
    all_goals simp (disch := omega) only [cl_let, Option.bind_some, cl_b2, nI_add, pk_mul, nI_leI, nI_ltI, nI_eq, nI_clamp, cu_inb, if_pos, if_neg, eq_self, ite_true, ite_false, if_true, if_false, pk_us, pk_un, a0, a1, a2, a3, a4, a5, a6, a7, a8, a9, a10, cu_s0, cu_sf, hc]
  refine ⟨cl_row M (t + 9 + g) G', _, ?_, ?_, cg_L_upd L hg W' hS ?_ ?_ ?_, fun x hx => cl_row_n hx⟩
  · conv => lhs; rw [ac_cell M (t + 9 + g)]
    rw [hG']
    simp (disch := omega) only [cl_let, Option.bind_some, cl_b2, nI_add, pk_mul, nI_leI, nI_ltI, nI_eq, nI_clamp, cu_inb, if_pos, if_neg, eq_self, ite_true, ite_false, if_true, if_false, f_X0_soak, cu_tt, cl_row_s, pk_un]
  · obtain ⟨⟨a0, a1, a2, a3, a4, a5⟩, a6, a7, a8, a9, a10⟩ := hE
    have h3 : G' 3 = cg_G M t g 2 := by rw [hG', pk_un (by decide), pk_un (by decide), pk_us]
    rw [f_X6_doWash, cm_of2 (by omega), Option.bind_some, cm_of3 (by omega), Option.bind_some, a2, a3]
    simp (disch := omega) only [cl_let, Option.bind_some, cl_b2, nI_add, pk_mul, nI_leI, nI_ltI, nI_eq, nI_clamp, cu_inb, if_pos, if_neg, eq_self, ite_true, ite_false, if_true, if_false, f_X6_add, cm_of3, cm_put3, cm_put4, cm_put5, cm_set, cm_now, pk_us, pk_un, a3, cl_row_s, h3]
  · rw [hk 9 (by omega) (by omega) (by omega) (by omega)]; omega
  · rw [hk 10 (by omega) (by omega) (by omega) (by omega)]; omega
  · intro k hk2 hne
    rw [hk 8 (by omega) (by omega) (by omega) (by omega)]
    rcases Nat.lt_or_ge g k with q | q
    · exact L.2.2.1 g k q hk2
    · rw [Int32.and_comm]; exact L.2.2.1 k g (by omega) hg
/-- moving along the line -/
theorem ac_move (L : cg_L M t r n m) {g s : Nat} (hg : g < n) (hs : s < 24) (h6 : M (t + 9 + g) 6 = 1) (h0 : nI s + M (t + 9 + g) 0 ≤ 24) (ho : ((((1 : Int32) <<< (M (t + 9 + g) 0 &&& 31)) - 1) <<< (nI s &&& 31)) &&& (ck_oc M t n &&& (M (t + 9 + g) 8 ^^^ (-1))) = 0) :
    ∃ M' r', f_X0_moveTo M (t + 9 + g) (nI s) = some M' ∧ f_X6_doShift (cl_row N 239 r) 237 (nI g) (nI s) = some (M (t + 9 + g) 7, cl_row N 239 r') ∧ cg_L M' t r' n m ∧ ∀ x, x ≠ t + 9 + g → M' x = M x := by
  have hn := L.1.1
  obtain ⟨hE, hW⟩ := ck_G L g hg
  obtain ⟨wd, wa, c, v, ⟨i1, i2, i3, i4, i5, i6, i7, e0, e1, e2, e3⟩, ⟨sm, hsm, e4⟩, ⟨e5, q9, q10⟩, hp⟩ := id hW
  have hp : s + wd ≤ 24 := by
    have : nI s + cg_G M t g 0 ≤ 24 := h0
    rw [e0, nI_add] at this
    exact (nI_leI (b := 24) (by omega) (by omega)).mp this
  obtain ⟨G', hG'⟩ : ∃ z, z = upd (upd (cg_G M t g) 7 (nI s)) 8 ((((1 : Int32) <<< (cg_G M t g 0 &&& 31)) - 1) <<< (nI s &&& 31)) := ⟨_, rfl⟩
  have hk : ∀ k, k ≠ 7 → k ≠ 8 → G' k = cg_G M t g k := fun k h1 h2 => by rw [hG', pk_un h2, pk_un h1]
  have W' : cg_W G' := by
    refine ⟨wd, wa, c, v, ⟨i1, i2, i3, i4, i5, i6, i7, ?_, ?_, ?_, ?_⟩, ⟨sm, hsm, ?_⟩, ⟨?_, ?_, ?_⟩, Or.inl ⟨?_, s, hp, ?_, ?_⟩⟩
    · rw [hk 0 (by omega) (by omega), e0]
    · rw [hk 1 (by omega) (by omega), e1]
    · rw [hk 2 (by omega) (by omega), e2]
    · rw [hk 3 (by omega) (by omega), e3]
    · rw [hk 4 (by omega) (by omega), e4]
    · rw [hk 5 (by omega) (by omega)]; exact e5
    · rw [hk 9 (by omega) (by omega)]; exact q9
    · rw [hk 10 (by omega) (by omega)]; exact q10
    · rw [hk 6 (by omega) (by omega)]; exact h6
    · rw [hG', pk_un (by decide), pk_us]
    · rw [hG', pk_us, e0]; rfl
  have hS : cg_S (cg_G M t g) r g G' (upd r (39 + 11 * g + 7) (nI s)) := by
    obtain ⟨⟨a0, a1, a2, a3, a4, a5⟩, a6, a7, a8, a9, a10⟩ := hE
    rw [hG']
    unfold cg_S cg_E
    refine ⟨⟨⟨?_, ?_, ?_, ?_, ?_, ?_⟩, ?_, ?_, ?_, ?_, ?_⟩, fun k q1 q2 q3 q4 q5 q6 => ?_, ?_, ?_, ?_, ?_, ?_⟩
    all_goals simp (disch := omega) only [cl_let, Option.bind_some, cl_b2, nI_add, pk_mul, nI_leI, nI_ltI, nI_eq, nI_clamp, cu_inb, if_pos, if_neg, eq_self, ite_true, ite_false, if_true, if_false, pk_us, pk_un, a0, a1, a2, a3, a4, a5, a6, a7, a8, a9, a10, cu_s0]
  refine ⟨cl_row M (t + 9 + g) G', _, ?_, ?_, cg_L_upd L hg W' hS ?_ ?_ ?_, fun x hx => cl_row_n hx⟩
  · conv => lhs; rw [ac_cell M (t + 9 + g)]
    rw [hG']
    simp (disch := omega) only [cl_let, Option.bind_some, cl_b2, nI_add, pk_mul, nI_leI, nI_ltI, nI_eq, nI_clamp, cu_inb, if_pos, if_neg, eq_self, ite_true, ite_false, if_true, if_false, f_X0_moveTo, f_X5_spotSet, cu_tt, cl_row_s, pk_un]
  · rw [f_X6_doShift, cm_of7 (by omega), Option.bind_some, cm_put7 (by omega), Option.bind_some, hE.2.2.1]
  · rw [hk 9 (by omega) (by omega)]; omega
  · rw [hk 10 (by omega) (by omega)]; omega
  · intro k hk2 hne
    have h8 : G' 8 = ((((1 : Int32) <<< (M (t + 9 + g) 0 &&& 31)) - 1) <<< (nI s &&& 31)) := by rw [hG', pk_us]
    rw [h8]
    have hdk : cg_G M t k 8 &&& M (t + 9 + g) 8 = 0 := by
      rcases Nat.lt_or_ge k g with q | q
      · exact L.2.2.1 k g q hg
      · rw [Int32.and_comm]; exact L.2.2.1 g k (by omega) hk2
    generalize ((((1 : Int32) <<< (M (t + 9 + g) 0 &&& 31)) - 1) <<< (nI s &&& 31)) = X at ho
    apply b_ext
    intro i hi
    rw [b_and, b_0]
    cases hx : bt X i with
    | false => rfl
    | true =>
      rw [Bool.true_and]
      cases hy : bt (cg_G M t k 8) i with
      | false => rfl
      | true =>
        exfalso
        have hz : bt (M (t + 9 + g) 8) i = false := by
          have q : bt (cg_G M t k 8 &&& M (t + 9 + g) 8) i = false := by rw [hdk, b_0]
          rw [b_and, hy, Bool.true_and] at q
          exact q
        have q : bt (X &&& (ck_oc M t n &&& (M (t + 9 + g) 8 ^^^ (-1)))) i = false := by rw [ho, b_0]
        rw [b_and, hx, Bool.true_and, b_and, b_xor, b_m1 i hi, hz] at q
        have hoc : bt (ck_oc M t n) i = true := by
          have H : ∀ j, k < j → bt (cu_it (fun i y => y ||| cg_G M t i 8) j 0) i = true := by
            intro j
            induction j with
            | zero => intro h; omega
            | succ j ih =>
              intro h
              rw [cu_it, b_or]
              by_cases e : k = j
              · subst e; rw [hy, Bool.or_true]
              · rw [ih (by omega), Bool.true_or]
          exact H n hk2
        rw [hoc] at q
        cases q
end AC
