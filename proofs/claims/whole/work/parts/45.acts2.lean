/-! what is done to a line: new garments, showers, smoke, wind -/
section AD
variable {M N : cl_M} {t n m : Nat} {r : Nat → Int32}
/-- a line under another weather -/
theorem cg_L_w {M' : cl_M} {r' : Nat → Int32} (L : cg_L M t r n m) (hM : ∀ x, x = t ∨ (t + 9 ≤ x ∧ x < t + 19) → M' x = M x) (hr : ∀ k, k < 149 → cw_i k = false → r' k = r k) (F' : cw_F (cw_x r')) (C' : cw_C M' (t + 1) (cw_x r')) : cg_L M' t r' n m := by
  obtain ⟨⟨hn, h3, h7, h2, h0, F, C⟩, hG, hD, ⟨s8, s9, s10⟩, a, b, x, y, ⟨ha, hb, ea, eb, ex, ey⟩, px, py⟩ := L
  have hg : ∀ k, k < n → cg_G M' t k = cg_G M t k := fun k hk => hM _ (by omega)
  have ht := hM t (Or.inl rfl)
  have hi : ∀ k, 39 ≤ k → cw_i k = false := fun k hk => by
    simp only [cw_i, Bool.or_eq_false_iff, Bool.and_eq_false_iff, decide_eq_false_iff_not, beq_eq_false_iff_ne, ne_eq]; omega
  refine ⟨⟨hn, by rw [ht, h3], by rw [hr 7 (by omega) rfl, h7], by rw [ht, h2], by rw [hr 0 (by omega) rfl, h0], F', C'⟩, fun k hk => ?_, fun j k h1 h2 => ?_, ⟨?_, ?_, ?_⟩, a, b, x, y, ⟨ha, hb, by rw [ht, ea], by rw [ht, eb], by rw [hr 2 (by omega) rfl, ex], by rw [hr 3 (by omega) rfl, ey]⟩, ?_, ?_⟩
  · rw [hg k hk]
    exact ⟨cg_E_cong (fun _ _ => rfl) (fun q hq => hr _ (by omega) (hi _ (by omega))) (hG k hk).1, (hG k hk).2⟩
  · rw [hg j (by omega), hg k h2]
    exact hD j k h1 h2
  · rw [hr 8 (by omega) rfl, s8]; exact cu_sm_cong fun k hk => by rw [hg k hk]
  · rw [hr 9 (by omega) rfl, s9]; exact cu_sm_cong fun k hk => by rw [hg k hk]
  · rw [hr 10 (by omega) rfl, s10]; exact cu_sm_cong fun k hk => by rw [hg k hk]
  · rw [← px]; congr 1; exact cu_ns_cong fun k hk => by rw [hg k hk]
  · rw [← py]; congr 1; exact cu_ns_cong fun k hk => by rw [hg k hk]
theorem cw_xi {r : Nat → Int32} {k : Nat} (h : cw_i k = true) : cw_x r k = r k := by rw [cw_x, if_pos h]
theorem cw_if {k : Nat} (h : k < 39) (h1 : k ≠ 1) (h2 : k < 4 ∨ 6 < k) (h3 : k < 11) : cw_i k = false := by
  simp only [cw_i, Bool.or_eq_false_iff, Bool.and_eq_false_iff, decide_eq_false_iff_not, beq_eq_false_iff_ne, ne_eq]; omega
/-- one more shower -/
theorem ac_shower (L : cg_L M t r n m) {c a l v : Nat} (hc : r 5 = nI c) (hc4 : c < 4) (ha : a ≤ 9999) (hl : 1 ≤ l) (hl2 : l ≤ 200) (hv : 1 ≤ v) (hv2 : v ≤ 20) :
    ∃ M' r', f_X4_appendShower M (t + 1) (nI a) (nI l) (nI v) = some M' ∧ M' (t + 1) 6 = nI (c + 1) ∧ f_X6_doShower (cl_row N 239 r) 237 (nI a) (nI l) (nI v) = some (nI (c + 1), cl_row N 239 r') ∧ cg_L M' t r' n m ∧ ∀ x, x < t + 1 ∨ t + 8 ≤ x → M' x = M x := by
  obtain ⟨F1, F4, ⟨c', q1, q2, q3⟩, F6⟩ := L.1.2.2.2.2.2.1
  obtain ⟨k0, k2, k6, k9, k11, k19, k31⟩ := L.1.2.2.2.2.2.2
  have hcc : c' = c := by
    rw [cw_xi rfl, hc] at q2
    exact ((nI_eq (by omega) (by omega)).mp q2).symm
  subst hcc
  rw [q2, cN_nI (by omega)] at k19
  have h6 : M (t + 1) 6 = nI c' := by rw [k6, q2]
  obtain ⟨r', hr'⟩ : ∃ z, z = upd (upd (upd (upd r (19 + 3 * c') (nI a)) (19 + 3 * c' + 1) (nI l)) (19 + 3 * c' + 2) (nI v)) 5 (nI (c' + 1)) := ⟨_, rfl⟩
  obtain ⟨M', hM'⟩ : ∃ z, z = cl_ms (cl_ms (cl_ms (cl_ms M (t + 1 + 2) c' (nI a)) (t + 1 + 3) c' (nI (a + l))) (t + 1 + 4) c' (nI v)) (t + 1) 6 (nI (c' + 1)) := ⟨_, rfl⟩
  have hi : ∀ k, k ≠ 5 → k ≠ 19 + 3 * c' → k ≠ 19 + 3 * c' + 1 → k ≠ 19 + 3 * c' + 2 → cw_x r' k = cw_x r k := fun k h1 h2 h3 h4 => by
    unfold cw_x
    rw [hr', pk_un h1, pk_un h4, pk_un h3, pk_un h2]
  have x5 : cw_x r' 5 = nI (c' + 1) := by rw [cw_xi rfl, hr', pk_us]
  have xa : cw_x r' (19 + 3 * c') = nI a := by
    rw [cw_xi (show cw_i (19 + 3 * c') = true from cw_sho (n := 0) hc4 (by omega)), hr']; simp (disch := omega) only [cl_let, Option.bind_some, cl_b2, nI_add, pk_mul, nI_leI, nI_ltI, nI_eq, nI_clamp, cu_inb, if_pos, if_neg, eq_self, ite_true, ite_false, if_true, if_false, pk_us, pk_un]
  have xl : cw_x r' (19 + 3 * c' + 1) = nI l := by
    rw [cw_xi (cw_sho (n := 1) hc4 (by omega)), hr']; simp (disch := omega) only [cl_let, Option.bind_some, cl_b2, nI_add, pk_mul, nI_leI, nI_ltI, nI_eq, nI_clamp, cu_inb, if_pos, if_neg, eq_self, ite_true, ite_false, if_true, if_false, pk_us, pk_un]
  have xv : cw_x r' (19 + 3 * c' + 2) = nI v := by
    rw [cw_xi (cw_sho (n := 2) hc4 (by omega)), hr']; simp (disch := omega) only [cl_let, Option.bind_some, cl_b2, nI_add, pk_mul, nI_leI, nI_ltI, nI_eq, nI_clamp, cu_inb, if_pos, if_neg, eq_self, ite_true, ite_false, if_true, if_false, pk_us, pk_un]
  have hz1 : ∀ x, x ≠ t + 1 → x ≠ t + 3 → x ≠ t + 4 → x ≠ t + 5 → M' x = M x := fun x h1 h2 h3 h4 => by
    rw [hM']; simp (disch := omega) only [cl_let, Option.bind_some, cl_b2, nI_add, pk_mul, nI_leI, nI_ltI, nI_eq, nI_clamp, cu_inb, if_pos, if_neg, eq_self, ite_true, ite_false, if_true, if_false, cl_ms, cl_row_n]
  have ht1 : M' (t + 1) = upd (M (t + 1)) 6 (nI (c' + 1)) := by rw [hM']; simp (disch := omega) only [cl_let, Option.bind_some, cl_b2, nI_add, pk_mul, nI_leI, nI_ltI, nI_eq, nI_clamp, cu_inb, if_pos, if_neg, eq_self, ite_true, ite_false, if_true, if_false, cl_ms, cl_row_s, cl_row_n]
  have ht3 : M' (t + 1 + 2) = upd (M (t + 1 + 2)) c' (nI a) := by rw [hM']; simp (disch := omega) only [cl_let, Option.bind_some, cl_b2, nI_add, pk_mul, nI_leI, nI_ltI, nI_eq, nI_clamp, cu_inb, if_pos, if_neg, eq_self, ite_true, ite_false, if_true, if_false, cl_ms, cl_row_s, cl_row_n]
  have ht4 : M' (t + 1 + 3) = upd (M (t + 1 + 3)) c' (nI (a + l)) := by rw [hM']; simp (disch := omega) only [cl_let, Option.bind_some, cl_b2, nI_add, pk_mul, nI_leI, nI_ltI, nI_eq, nI_clamp, cu_inb, if_pos, if_neg, eq_self, ite_true, ite_false, if_true, if_false, cl_ms, cl_row_s, cl_row_n]
  have ht5 : M' (t + 1 + 4) = upd (M (t + 1 + 4)) c' (nI v) := by rw [hM']; simp (disch := omega) only [cl_let, Option.bind_some, cl_b2, nI_add, pk_mul, nI_leI, nI_ltI, nI_eq, nI_clamp, cu_inb, if_pos, if_neg, eq_self, ite_true, ite_false, if_true, if_false, cl_ms, cl_row_s, cl_row_n]
  have c4 := F4
  obtain ⟨c4, -, c48, e4, -⟩ := c4
  obtain ⟨c6, c64, e6, -⟩ := id F6
  refine ⟨M', r', ?_, by rw [ht1, pk_us], ?_, cg_L_w L (fun x hx => hz1 x (by omega) (by omega) (by omega) (by omega)) (fun k hk hik => ?_) ⟨?_, ?_, ?_, ?_⟩ ⟨?_, ?_, ?_, ?_, ?_, ?_, ?_⟩, fun x hx => hz1 x (by omega) (by omega) (by omega) (by omega)⟩
  · rw [f_X4_appendShower, h6, if_neg (show ¬ (4 : Int32) ≤ nI c' from nI_ge (b := 4) (by omega) (by omega)), if_pos (cu_inb (by omega) (by omega)), nI_clamp (by omega), cl_let]
    have e1 : (cl_ms M (t + 1 + 2) c' (nI a)) (t + 1) 6 = nI c' := by simp (disch := omega) only [cl_let, Option.bind_some, cl_b2, nI_add, pk_mul, nI_leI, nI_ltI, nI_eq, nI_clamp, cu_inb, if_pos, if_neg, eq_self, ite_true, ite_false, if_true, if_false, cl_ms, cl_row_n, h6]
    rw [e1, if_pos (cu_inb (by omega) (by omega)), nI_clamp (by omega), cl_let, nI_add]
    have e2 : (cl_ms (cl_ms M (t + 1 + 2) c' (nI a)) (t + 1 + 3) c' (nI (a + l))) (t + 1) 6 = nI c' := by simp (disch := omega) only [cl_let, Option.bind_some, cl_b2, nI_add, pk_mul, nI_leI, nI_ltI, nI_eq, nI_clamp, cu_inb, if_pos, if_neg, eq_self, ite_true, ite_false, if_true, if_false, cl_ms, cl_row_n, h6]
    rw [e2, if_pos (cu_inb (by omega) (by omega)), nI_clamp (by omega), cl_let]
    have e3 : (cl_ms (cl_ms (cl_ms M (t + 1 + 2) c' (nI a)) (t + 1 + 3) c' (nI (a + l))) (t + 1 + 4) c' (nI v)) (t + 1) 6 = nI c' := by simp (disch := omega) only [cl_let, Option.bind_some, cl_b2, nI_add, pk_mul, nI_leI, nI_ltI, nI_eq, nI_clamp, cu_inb, if_pos, if_neg, eq_self, ite_true, ite_false, if_true, if_false, cl_ms, cl_row_n, h6]
    rw [e3, nI_1, cl_let, hM']
  · have i0 : (19 : Int32) + 3 * nI c' = nI (19 + 3 * c') := by rw [show (19 : Int32) = nI 19 from rfl, show (3 : Int32) = nI 3 from rfl, pk_mul, nI_add]
    have i2 : nI (19 + 3 * c') + 2 = nI (19 + 3 * c' + 2) := nI_add _ 2
    rw [f_X6_doShower, cm_now, hc, i0, hr']
    simp (disch := omega) only [cl_let, Option.bind_some, cl_b2, nI_add, pk_mul, nI_leI, nI_ltI, nI_eq, nI_clamp, cu_inb, if_pos, if_neg, eq_self, ite_true, ite_false, if_true, if_false, cm_set, cm_now, nI_1, i2, pk_us, pk_un, hc]
  · rw [hr']
    have hne : ∀ q, cw_i q = true → k ≠ q := fun q hq e => by rw [e, hq] at hik; cases hik
    rw [pk_un (hne 5 rfl), pk_un (hne _ (cw_sho hc4 (by omega))), pk_un (hne _ (cw_sho hc4 (by omega))), pk_un (hne (19 + 3 * c') (cw_sho (n := 0) hc4 (by omega)))]
  · rw [hi 1 (by omega) (by omega) (by omega) (by omega)]; exact F1
  · obtain ⟨c4, p1, p2, p3, p4⟩ := F4
    refine ⟨c4, p1, p2, by rw [hi 4 (by omega) (by omega) (by omega) (by omega), p3], fun j hj => ?_⟩
    rw [hi _ (by omega) (by omega) (by omega) (by omega)]; exact p4 j hj
  · refine ⟨c' + 1, by omega, x5, fun j hj => ?_⟩
    by_cases e : j = c'
    · subst e
      exact ⟨a, l, v, ha, hl, hl2, hv, hv2, xa, xl, xv⟩
    · rw [hi _ (by omega) (by omega) (by omega) (by omega), hi _ (by omega) (by omega) (by omega) (by omega), hi _ (by omega) (by omega) (by omega) (by omega)]
      exact q3 j (by omega)
  · obtain ⟨c6, p1, p2, p3⟩ := F6
    refine ⟨c6, p1, by rw [hi 6 (by omega) (by omega) (by omega) (by omega), p2], fun j hj => ?_⟩
    rw [hi _ (by omega) (by omega) (by omega) (by omega), hi _ (by omega) (by omega) (by omega) (by omega)]; exact p3 j hj
  · rw [ht1, pk_un (by decide), k0, hi 1 (by omega) (by omega) (by omega) (by omega)]
  · rw [ht1, pk_un (by decide), k2, hi 4 (by omega) (by omega) (by omega) (by omega)]
  · rw [ht1, pk_us, x5]
  · rw [ht1, pk_un (by decide), k9, hi 6 (by omega) (by omega) (by omega) (by omega)]
  · intro j hj
    rw [hi 4 (by omega) (by omega) (by omega) (by omega)] at hj
    have : j < 8 := by rw [e4, cN_nI (by omega)] at hj; omega
    rw [hz1 _ (by omega) (by omega) (by omega) (by omega), hi _ (by omega) (by omega) (by omega) (by omega)]
    exact k11 j hj
  · intro j hj
    rw [x5, cN_nI (by omega)] at hj
    rw [ht3, ht4, ht5]
    by_cases e : j = c'
    · subst e
      rw [pk_us, pk_us, pk_us, xa, xl, xv, nI_add]
      exact ⟨rfl, rfl, rfl⟩
    · rw [pk_un e, pk_un e, pk_un e, hi _ (by omega) (by omega) (by omega) (by omega), hi _ (by omega) (by omega) (by omega) (by omega), hi _ (by omega) (by omega) (by omega) (by omega)]
      exact k19 j (by omega)
  · intro j hj
    rw [hi 6 (by omega) (by omega) (by omega) (by omega)] at hj
    have : j < 4 := by rw [e6, cN_nI (by omega)] at hj; omega
    rw [hz1 _ (by omega) (by omega) (by omega) (by omega), hz1 _ (by omega) (by omega) (by omega) (by omega), hi _ (by omega) (by omega) (by omega) (by omega), hi _ (by omega) (by omega) (by omega) (by omega)]
    exact k31 j hj
/-- one more smoke time -/
theorem ac_smoke (L : cg_L M t r n m) {c a z : Nat} (hc : r 6 = nI c) (hc4 : c < 4) (ha : a ≤ z) (hz : z ≤ 9999) :
    ∃ M' r', f_X4_appendSmoke M (t + 1) (nI a) (nI z) = some M' ∧ M' (t + 1) 9 = nI (c + 1) ∧ f_X6_doSmoke (cl_row N 239 r) 237 (nI a) (nI z) = some (nI (c + 1), cl_row N 239 r') ∧ cg_L M' t r' n m ∧ ∀ x, x < t + 1 ∨ t + 8 ≤ x → M' x = M x := by
  obtain ⟨F1, F4, F5, ⟨c', q1, q2, q3⟩⟩ := L.1.2.2.2.2.2.1
  obtain ⟨k0, k2, k6, k9, k11, k19, k31⟩ := L.1.2.2.2.2.2.2
  have hcc : c' = c := by
    rw [cw_xi rfl, hc] at q2
    exact ((nI_eq (by omega) (by omega)).mp q2).symm
  subst hcc
  rw [q2, cN_nI (by omega)] at k31
  have h9 : M (t + 1) 9 = nI c' := by rw [k9, q2]
  obtain ⟨r', hr'⟩ : ∃ q, q = upd (upd (upd r (31 + 2 * c') (nI a)) (31 + 2 * c' + 1) (nI z)) 6 (nI (c' + 1)) := ⟨_, rfl⟩
  obtain ⟨M', hM'⟩ : ∃ q, q = cl_ms (cl_ms (cl_ms M (t + 1 + 5) c' (nI a)) (t + 1 + 6) c' (nI z)) (t + 1) 9 (nI (c' + 1)) := ⟨_, rfl⟩
  have hi : ∀ k, k ≠ 6 → k ≠ 31 + 2 * c' → k ≠ 31 + 2 * c' + 1 → cw_x r' k = cw_x r k := fun k h1 h2 h3 => by
    unfold cw_x
    rw [hr', pk_un h1, pk_un h3, pk_un h2]
  have x6 : cw_x r' 6 = nI (c' + 1) := by rw [cw_xi rfl, hr', pk_us]
  have xa : cw_x r' (31 + 2 * c') = nI a := by
    rw [cw_xi (show cw_i (31 + 2 * c') = true from cw_smo (n := 0) hc4 (by omega)), hr']; simp (disch := omega) only [cl_let, Option.bind_some, cl_b2, nI_add, pk_mul, nI_leI, nI_ltI, nI_eq, nI_clamp, cu_inb, if_pos, if_neg, eq_self, ite_true, ite_false, if_true, if_false, pk_us, pk_un]
  have xz : cw_x r' (31 + 2 * c' + 1) = nI z := by
    rw [cw_xi (cw_smo (n := 1) hc4 (by omega)), hr']; simp (disch := omega) only [cl_let, Option.bind_some, cl_b2, nI_add, pk_mul, nI_leI, nI_ltI, nI_eq, nI_clamp, cu_inb, if_pos, if_neg, eq_self, ite_true, ite_false, if_true, if_false, pk_us, pk_un]
  have hz1 : ∀ x, x ≠ t + 1 → x ≠ t + 6 → x ≠ t + 7 → M' x = M x := fun x h1 h2 h3 => by
    rw [hM']; simp (disch := omega) only [cl_let, Option.bind_some, cl_b2, nI_add, pk_mul, nI_leI, nI_ltI, nI_eq, nI_clamp, cu_inb, if_pos, if_neg, eq_self, ite_true, ite_false, if_true, if_false, cl_ms, cl_row_n]
  have ht1 : M' (t + 1) = upd (M (t + 1)) 9 (nI (c' + 1)) := by rw [hM']; simp (disch := omega) only [cl_let, Option.bind_some, cl_b2, nI_add, pk_mul, nI_leI, nI_ltI, nI_eq, nI_clamp, cu_inb, if_pos, if_neg, eq_self, ite_true, ite_false, if_true, if_false, cl_ms, cl_row_s, cl_row_n]
  have ht3 : M' (t + 1 + 5) = upd (M (t + 1 + 5)) c' (nI a) := by rw [hM']; simp (disch := omega) only [cl_let, Option.bind_some, cl_b2, nI_add, pk_mul, nI_leI, nI_ltI, nI_eq, nI_clamp, cu_inb, if_pos, if_neg, eq_self, ite_true, ite_false, if_true, if_false, cl_ms, cl_row_s, cl_row_n]
  have ht4 : M' (t + 1 + 6) = upd (M (t + 1 + 6)) c' (nI z) := by rw [hM']; simp (disch := omega) only [cl_let, Option.bind_some, cl_b2, nI_add, pk_mul, nI_leI, nI_ltI, nI_eq, nI_clamp, cu_inb, if_pos, if_neg, eq_self, ite_true, ite_false, if_true, if_false, cl_ms, cl_row_s, cl_row_n]
  obtain ⟨c4, -, c48, e4, -⟩ := id F4
  obtain ⟨c5, c54, e5, -⟩ := id F5
  refine ⟨M', r', ?_, by rw [ht1, pk_us], ?_, cg_L_w L (fun x hx => hz1 x (by omega) (by omega) (by omega)) (fun k hk hik => ?_) ⟨?_, ?_, ?_, ?_⟩ ⟨?_, ?_, ?_, ?_, ?_, ?_, ?_⟩, fun x hx => hz1 x (by omega) (by omega) (by omega)⟩
  · rw [f_X4_appendSmoke, h9, if_neg (show ¬ (4 : Int32) ≤ nI c' from nI_ge (b := 4) (by omega) (by omega)), if_pos (cu_inb (by omega) (by omega)), nI_clamp (by omega), cl_let]
    have e1 : (cl_ms M (t + 1 + 5) c' (nI a)) (t + 1) 9 = nI c' := by simp (disch := omega) only [cl_let, Option.bind_some, cl_b2, nI_add, pk_mul, nI_leI, nI_ltI, nI_eq, nI_clamp, cu_inb, if_pos, if_neg, eq_self, ite_true, ite_false, if_true, if_false, cl_ms, cl_row_n, h9]
    rw [e1, if_pos (cu_inb (by omega) (by omega)), nI_clamp (by omega), cl_let]
    have e2 : (cl_ms (cl_ms M (t + 1 + 5) c' (nI a)) (t + 1 + 6) c' (nI z)) (t + 1) 9 = nI c' := by simp (disch := omega) only [cl_let, Option.bind_some, cl_b2, nI_add, pk_mul, nI_leI, nI_ltI, nI_eq, nI_clamp, cu_inb, if_pos, if_neg, eq_self, ite_true, ite_false, if_true, if_false, cl_ms, cl_row_n, h9]
    rw [e2, nI_1, cl_let, hM']
  · have i0 : (31 : Int32) + 2 * nI c' = nI (31 + 2 * c') := by rw [show (31 : Int32) = nI 31 from rfl, show (2 : Int32) = nI 2 from rfl, pk_mul, nI_add]
    rw [f_X6_doSmoke, cm_now, hc, i0, hr']
    simp (disch := omega) only [cl_let, Option.bind_some, cl_b2, nI_add, pk_mul, nI_leI, nI_ltI, nI_eq, nI_clamp, cu_inb, if_pos, if_neg, eq_self, ite_true, ite_false, if_true, if_false, cm_set, cm_now, nI_1, pk_us, pk_un, hc]
  · rw [hr']
    have hne : ∀ q, cw_i q = true → k ≠ q := fun q hq e => by rw [e, hq] at hik; cases hik
    rw [pk_un (hne 6 rfl), pk_un (hne _ (cw_smo hc4 (by omega))), pk_un (hne (31 + 2 * c') (cw_smo (n := 0) hc4 (by omega)))]
  · rw [hi 1 (by omega) (by omega) (by omega)]; exact F1
  · obtain ⟨c4, p1, p2, p3, p4⟩ := F4
    refine ⟨c4, p1, p2, by rw [hi 4 (by omega) (by omega) (by omega), p3], fun j hj => ?_⟩
    rw [hi _ (by omega) (by omega) (by omega)]; exact p4 j hj
  · obtain ⟨c5, p1, p2, p3⟩ := F5
    refine ⟨c5, p1, by rw [hi 5 (by omega) (by omega) (by omega), p2], fun j hj => ?_⟩
    rw [hi _ (by omega) (by omega) (by omega), hi _ (by omega) (by omega) (by omega), hi _ (by omega) (by omega) (by omega)]; exact p3 j hj
  · refine ⟨c' + 1, by omega, x6, fun j hj => ?_⟩
    by_cases e : j = c'
    · subst e
      exact ⟨a, z, ha, hz, xa, xz⟩
    · rw [hi _ (by omega) (by omega) (by omega), hi _ (by omega) (by omega) (by omega)]
      exact q3 j (by omega)
  · rw [ht1, pk_un (by decide), k0, hi 1 (by omega) (by omega) (by omega)]
  · rw [ht1, pk_un (by decide), k2, hi 4 (by omega) (by omega) (by omega)]
  · rw [ht1, pk_un (by decide), k6, hi 5 (by omega) (by omega) (by omega)]
  · rw [ht1, pk_us, x6]
  · intro j hj
    rw [hi 4 (by omega) (by omega) (by omega)] at hj
    have : j < 8 := by rw [e4, cN_nI (by omega)] at hj; omega
    rw [hz1 _ (by omega) (by omega) (by omega), hi _ (by omega) (by omega) (by omega)]
    exact k11 j hj
  · intro j hj
    rw [hi 5 (by omega) (by omega) (by omega)] at hj
    have : j < 4 := by rw [e5, cN_nI (by omega)] at hj; omega
    rw [hz1 _ (by omega) (by omega) (by omega), hz1 _ (by omega) (by omega) (by omega), hz1 _ (by omega) (by omega) (by omega), hi _ (by omega) (by omega) (by omega), hi _ (by omega) (by omega) (by omega), hi _ (by omega) (by omega) (by omega)]
    exact k19 j hj
  · intro j hj
    rw [x6, cN_nI (by omega)] at hj
    rw [ht3, ht4]
    by_cases e : j = c'
    · subst e
      rw [pk_us, pk_us, xa, xz]
      exact ⟨rfl, rfl⟩
    · rw [pk_un e, pk_un e, hi _ (by omega) (by omega) (by omega), hi _ (by omega) (by omega) (by omega)]
      exact k31 j (by omega)
/-- another wind -/
theorem ac_wind (L : cg_L M t r n m) {c i v : Nat} (hc : r 4 = nI c) (hc8 : c ≤ 8) (hi : i < c) (hv : v ≤ 5) :
    ∃ r', M (t + 1 + 1) i = r (11 + i) ∧ f_X6_doWind (cl_row N 239 r) 237 (nI i) (nI v) = some (r (11 + i), cl_row N 239 r') ∧ cg_L (cl_ms M (t + 1 + 1) i (nI v)) t r' n m := by
  obtain ⟨F1, ⟨c', q1, q8, q2, q3⟩, F5, F6⟩ := L.1.2.2.2.2.2.1
  obtain ⟨k0, k2, k6, k9, k11, k19, k31⟩ := L.1.2.2.2.2.2.2
  have hcc : c' = c := by
    rw [cw_xi rfl, hc] at q2
    exact ((nI_eq (by omega) (by omega)).mp q2).symm
  subst hcc
  rw [q2, cN_nI (by omega)] at k11
  have hx : ∀ k, k ≠ 11 + i → cw_x (upd r (11 + i) (nI v)) k = cw_x r k := fun k h => by
    unfold cw_x
    rw [pk_un h]
  have xv : cw_x (upd r (11 + i) (nI v)) (11 + i) = nI v := by rw [cw_xi (cw_win (by omega)), pk_us]
  have hM : ∀ x, x ≠ t + 1 + 1 → (cl_ms M (t + 1 + 1) i (nI v)) x = M x := fun x h => cl_row_n h
  have hM2 : (cl_ms M (t + 1 + 1) i (nI v)) (t + 1 + 1) = upd (M (t + 1 + 1)) i (nI v) := cl_row_s
  obtain ⟨c5, c54, e5, -⟩ := id F5
  obtain ⟨c6, c64, e6, -⟩ := id F6
  refine ⟨upd r (11 + i) (nI v), ?_, ?_, cg_L_w L (fun x hx => hM x (by omega)) (fun k hk hik => ?_) ⟨?_, ?_, ?_, ?_⟩ ⟨?_, ?_, ?_, ?_, ?_, ?_, ?_⟩⟩
  · rw [k11 i hi, cw_xi (cw_win (by omega))]
  · have i0 : (11 : Int32) + nI i = nI (11 + i) := nI_add 11 i
    rw [f_X6_doWind, i0]
    simp (disch := omega) only [cl_let, Option.bind_some, cl_b2, nI_add, pk_mul, nI_leI, nI_ltI, nI_eq, nI_clamp, cu_inb, if_pos, if_neg, eq_self, ite_true, ite_false, if_true, if_false, cm_set, cm_now]
  · exact pk_un (fun e => by rw [e, cw_win (by omega)] at hik; cases hik)
  · rw [hx 1 (by omega)]; exact F1
  · refine ⟨c', q1, q8, by rw [hx 4 (by omega), q2], fun j hj => ?_⟩
    by_cases e : j = i
    · subst e; exact ⟨v, hv, xv⟩
    · rw [hx _ (by omega)]; exact q3 j hj
  · obtain ⟨c5, p1, p2, p3⟩ := F5
    refine ⟨c5, p1, by rw [hx 5 (by omega), p2], fun j hj => ?_⟩
    rw [hx _ (by omega), hx _ (by omega), hx _ (by omega)]; exact p3 j hj
  · obtain ⟨c6, p1, p2, p3⟩ := F6
    refine ⟨c6, p1, by rw [hx 6 (by omega), p2], fun j hj => ?_⟩
    rw [hx _ (by omega), hx _ (by omega)]; exact p3 j hj
  · rw [hM _ (by omega), hx 1 (by omega)]; exact k0
  · rw [hM _ (by omega), hx 4 (by omega)]; exact k2
  · rw [hM _ (by omega), hx 5 (by omega)]; exact k6
  · rw [hM _ (by omega), hx 6 (by omega)]; exact k9
  · intro j hj
    rw [hx 4 (by omega), q2, cN_nI (by omega)] at hj
    rw [hM2]
    by_cases e : j = i
    · subst e; rw [pk_us, xv]
    · rw [pk_un e, hx _ (by omega)]; exact k11 j hj
  · intro j hj
    rw [hx 5 (by omega)] at hj
    rw [hM _ (by omega), hM _ (by omega), hM _ (by omega), hx _ (by omega), hx _ (by omega), hx _ (by omega)]
    exact k19 j hj
  · intro j hj
    rw [hx 6 (by omega)] at hj
    rw [hM _ (by omega), hM _ (by omega), hx _ (by omega), hx _ (by omega)]
    exact k31 j hj
/-- one more garment -/
def ac_new (w a c v : Int32) (G : Nat → Int32) : Nat → Int32 := cg_put (upd (upd (upd (upd (upd (upd (upd (upd (upd (upd G 0 w) 1 a) 2 c) 3 v) 4 0) 5 0) 11 0) 12 v) 13 0) 14 0) 0
theorem ac_newC {M : cl_M} {t : Nat} {r : Nat → Int32} {w a c v : Int32} : f_X0_makeNew (cl_row M t r) t w a c v = some (cl_row M t (ac_new w a c v r)) := by
  simp only [f_X0_makeNew, cl_let, cu_tt, cg_putC, Option.bind_some, ac_new]
def ac_clr (r : Nat → Int32) (g i : Nat) : Nat → Int32 := fun k => if 39 + 11 * g ≤ k ∧ k < 39 + 11 * g + i then 0 else r k
theorem ac_clr_s {r : Nat → Int32} {g i : Nat} : upd (ac_clr r g i) (39 + 11 * g + i) 0 = ac_clr r g (i + 1) := by
  funext k
  by_cases e : k = 39 + 11 * g + i
  · subst e
    rw [pk_us, ac_clr, if_pos (by omega)]
  · rw [pk_un e, ac_clr, ac_clr]
    by_cases q : 39 + 11 * g ≤ k ∧ k < 39 + 11 * g + i
    · rw [if_pos q, if_pos (by omega)]
    · rw [if_neg q, if_neg (by omega)]
theorem ac_append (L : cg_L M t r n m) (hn9 : n < 10) {w a c v : Nat} (hw : 1 ≤ w) (hw6 : w ≤ 6) (ha : 1 ≤ a) (ha9 : a ≤ 99) (hc : 1 ≤ c) (hc9 : c ≤ 999) (hv : v ≤ c) :
    ∃ M' r', f_X2_append M t (nI w) (nI a) (nI c) (nI v) = some M' ∧ f_X6_doGarment (cl_row N 239 r) 237 (nI w) (nI a) (nI c) (nI v) = some (nI n, cl_row N 239 r') ∧ cg_L M' t r' (n + 1) m ∧ ∀ x, x ≠ t → x ≠ t + 9 + n → M' x = M x := by
  obtain ⟨⟨hn, h3, h7, h2, h0, F, C⟩, hG, hD, ⟨s8, s9, s10⟩, pa, pb, x, y, ⟨hpa, hpb, ea, eb, ex, ey⟩, px, py⟩ := L
  obtain ⟨G', hG'⟩ : ∃ z, z = ac_new (nI w) (nI a) (nI c) (nI v) (M (t + 9 + n)) := ⟨_, rfl⟩
  obtain ⟨r', hr'⟩ : ∃ z, z = upd (upd (upd (upd (upd (upd (upd (ac_clr r n 11) (39 + 11 * n) (nI w)) (39 + 11 * n + 1) (nI a)) (39 + 11 * n + 2) (nI c)) (39 + 11 * n + 7) (-1)) 7 (nI (n + 1))) (39 + 11 * n + 3) (nI v)) 8 (r 8 + nI v) := ⟨_, rfl⟩
  have hz : ∀ j, j < 11 → ac_clr r n 11 (39 + 11 * n + j) = 0 := fun j hj => by rw [ac_clr, if_pos (by omega)]
  have hz0 : ac_clr r n 11 (39 + 11 * n) = 0 := hz 0 (by omega)
  have hcl : ∀ k, (k < 39 + 11 * n ∨ 39 + 11 * n + 11 ≤ k) → ac_clr r n 11 k = r k := fun k hk => by rw [ac_clr, if_neg (by omega)]
  have hro : ∀ k, k ≠ 7 → k ≠ 8 → (k < 39 + 11 * n ∨ 39 + 11 * n + 11 ≤ k) → r' k = r k := fun k h1 h2 h3 => by
    rw [hr', pk_un h2, pk_un (by omega), pk_un h1, pk_un (by omega), pk_un (by omega), pk_un (by omega), pk_un (by omega), hcl k h3]
  have hxx : cw_x r' = cw_x r := by
    funext k
    unfold cw_x
    by_cases q : cw_i k = true
    · rw [if_pos q, if_pos q]
      simp only [cw_i, Bool.or_eq_true, Bool.and_eq_true, decide_eq_true_eq, beq_iff_eq] at q
      exact hro k (by omega) (by omega) (by omega)
    · rw [if_neg q, if_neg q]
  obtain ⟨M', hM'⟩ : ∃ z, z = cl_ms (cl_row M (t + 9 + n) G') t 3 (nI (n + 1)) := ⟨_, rfl⟩
  have hf : ∀ x, x ≠ t → x ≠ t + 9 + n → M' x = M x := fun x h1 h2 => by rw [hM', cl_ms, cl_row_n h1, cl_row_n h2]
  have ht : M' t = upd (M t) 3 (nI (n + 1)) := by rw [hM', cl_ms, cl_row_s, cl_row_n (by omega)]
  have hgn : M' (t + 9 + n) = G' := by rw [hM', cl_ms, cl_row_n (by omega), cl_row_s]
  have hgo : ∀ k, k < n → cg_G M' t k = cg_G M t k := fun k hk => hf _ (by omega) (by omega)
  have hgn' : cg_G M' t n = G' := hgn
  have g12 : G' 12 = nI v ∧ G' 13 = 0 ∧ G' 14 = 0 ∧ G' 8 = 0 ∧ G' 9 = 0 ∧ G' 10 = 0 := by
    rw [hG']; unfold ac_new cg_put
    refine ⟨?_, ?_, ?_, ?_, ?_, ?_⟩ <;> simp (disch := omega) only [cl_let, Option.bind_some, cl_b2, nI_add, pk_mul, nI_leI, nI_ltI, nI_eq, nI_clamp, cu_inb, if_pos, if_neg, eq_self, ite_true, ite_false, if_true, if_false, pk_us, pk_un]
  obtain ⟨g12, g13, g14, g8, g9, g10⟩ := g12
  have W' : cg_W G' := by
    rw [hG']; unfold ac_new cg_put
    refine ⟨w, a, c, v, ⟨hw, hw6, ha, ha9, hc, hc9, hv, ?_, ?_, ?_, ?_⟩, ⟨0, by omega, ?_⟩, ⟨Or.inl ?_, ⟨0, by omega, ?_⟩, ⟨0, by omega, ?_⟩⟩, Or.inr ⟨Or.inl ?_, ?_, ?_, ?_, ?_⟩⟩
    all_goals simp (disch := omega) only [cl_let, Option.bind_some, cl_b2, nI_add, pk_mul, nI_leI, nI_ltI, nI_eq, nI_clamp, cu_inb, if_pos, if_neg, eq_self, ite_true, ite_false, if_true, if_false, pk_us, pk_un, nI_0]
  have E' : cg_E G' r' n := by
    rw [hG', hr']; unfold ac_new cg_put
    refine ⟨⟨?_, ?_, ?_, ?_, ?_, ?_⟩, ?_, ?_, ?_, ?_, ?_⟩
    all_goals simp (disch := omega) only [cl_let, Option.bind_some, cl_b2, nI_add, pk_mul, nI_leI, nI_ltI, nI_eq, nI_clamp, cu_inb, if_pos, if_neg, eq_self, ite_true, ite_false, if_true, if_false, pk_us, pk_un, hz]
  refine ⟨M', r', ?_, ?_, ⟨⟨by omega, by rw [ht, pk_us], ?_, by rw [ht, pk_un (by decide), h2], by rw [hro 0 (by omega) (by omega) (by omega), h0], by rw [hxx]; exact F, by rw [hxx]; exact cw_C_cong (fun x h1 h2 => hf x (by omega) (by omega)) C⟩, fun k hk => ?_, fun j k h1 h2 => ?_, ⟨?_, ?_, ?_⟩, pa, pb, x, y, ⟨hpa, hpb, by rw [ht, pk_un (by decide), ea], by rw [ht, pk_un (by decide), eb], by rw [hro 2 (by omega) (by omega) (by omega), ex], by rw [hro 3 (by omega) (by omega) (by omega), ey]⟩, ?_, ?_⟩, hf⟩
  · have e1 : f_X0_makeNew M (t + 8 + 1 + n) (nI w) (nI a) (nI c) (nI v) = some (cl_row M (t + 9 + n) G') := by
      conv => lhs; rw [ac_cell M (t + 8 + 1 + n)]
      rw [hG']
      exact ac_newC
    rw [f_X2_append, h3, if_neg (show ¬ (10 : Int32) ≤ nI n from nI_ge (b := 10) (by omega) (by omega)), if_pos (cu_inb (by omega) (by omega)), nI_clamp (by omega), e1, Option.bind_some, cl_let, cl_row_n (by omega), h3, nI_1, hM']
  · have H : ∀ j i, i + j = 11 → ∀ k, j < k → f_X6_doGarment_12 k (cl_row N 239 (ac_clr r n i)) 237 (nI w) (nI a) (nI c) (nI v) (nI n) (nI i) = some (nI n, cl_row N 239 r') := by
      intro j
      induction j with
      | zero =>
        intro i hi k hk
        obtain ⟨k, rfl, hk⟩ := cu_fuel hk
        have hi : i = 11 := by omega
        subst hi
        have hz3 := hz 3 (by omega)
        have h7' : ac_clr r n 11 7 = nI n := (hcl 7 (by omega)).trans h7
        have h8' : ac_clr r n 11 8 = r 8 := hcl 8 (by omega)
        rw [f_X6_doGarment_12, if_pos (show (11 : Int32) ≤ nI 11 by decide), hr']
        simp (disch := omega) only [cl_let, Option.bind_some, cl_b2, nI_add, pk_mul, nI_leI, nI_ltI, nI_eq, nI_clamp, cu_inb, if_pos, if_neg, eq_self, ite_true, ite_false, if_true, if_false, cm_put0, cm_put1, cm_put2, cm_put7, cm_set, cm_now, f_X6_add, cm_of3, cm_put3, pk_us, pk_un, hz3, h7', h8', nI_1, Int32.zero_add]
      | succ j ih =>
        intro i hi k hk
        obtain ⟨k, rfl, hk⟩ := cu_fuel hk
        have hp : f_X6_put (cl_row N 239 (ac_clr r n i)) 237 (nI n) (nI i) 0 = some (cl_row N 239 (ac_clr r n (i + 1))) := by
          rw [f_X6_put, cm_ix, if_pos (cu_inb (by omega) (by omega)), nI_clamp (by omega), cl_let, cm_set, ac_clr_s]
        rw [f_X6_doGarment_12, if_neg (show ¬ (11 : Int32) ≤ nI i from nI_ge (b := 11) (by omega) (by omega)), hp, Option.bind_some, cl_let, nI_1]
        exact ih (i + 1) (by omega) k (by omega)
    have h00 : ac_clr r n 0 = r := by
      funext k
      rw [ac_clr, if_neg (by omega)]
    have := H 11 0 (by omega) cl_F (by unfold cl_F; omega)
    rw [h00] at this
    rw [f_X6_doGarment, cl_let, cm_now, h7]
    exact this
  · rw [hr', pk_un (by decide), pk_un (by omega), pk_us]
  · by_cases e : k = n
    · subst e; rw [hgn']; exact ⟨E', W'⟩
    · have hk' : k < n := by omega
      rw [hgo k hk']
      exact ⟨cg_E_cong (fun _ _ => rfl) (fun q hq => hro _ (by omega) (by omega) (by omega)) (hG k hk').1, (hG k hk').2⟩
  · rw [hgo j (by omega)]
    by_cases e : k = n
    · subst e; rw [hgn', g8]; exact Int32.and_zero
    · rw [hgo k (by omega)]; exact hD j k h1 (by omega)
  · rw [cu_sm, hgn', g12, cu_sm_cong (n := n) (h := fun k => cg_G M t k 12) (fun k hk => by rw [hgo k hk]), ← s8, hr', pk_us]
  · rw [cu_sm, hgn', g13, cu_sm_cong (n := n) (h := fun k => cg_G M t k 13) (fun k hk => by rw [hgo k hk]), ← s9, Int32.add_zero, hro 9 (by omega) (by omega) (by omega)]
  · rw [cu_sm, hgn', g14, cu_sm_cong (n := n) (h := fun k => cg_G M t k 14) (fun k hk => by rw [hgo k hk]), ← s10, Int32.add_zero, hro 10 (by omega) (by omega) (by omega)]
  · rw [cu_ns, hgn', g9, cu_ns_cong (n := n) (h := fun k => cN (cg_G M t k 9)) (fun k hk => by rw [hgo k hk])]
    have : cN 0 = 0 := rfl
    omega
  · rw [cu_ns, hgn', g10, cu_ns_cong (n := n) (h := fun k => cN (cg_G M t k 10)) (fun k hk => by rw [hgo k hk])]
    have : cN 0 = 0 := rfl
    omega
end AD
