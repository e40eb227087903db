/-! a garment in one minute: smell, fall, the step; what a garment is stays so -/
theorem cu_max0 (x : Int32) : (if 0 < x then x else 0) = (if x < 0 then 0 else x) := by
  by_cases h : x < 0
  · rw [if_pos h, if_neg (fa_of_lt h).2.2.1]
  · rw [if_neg h]
    by_cases h2 : 0 < x
    · rw [if_pos h2]
    · rw [if_neg h2]
      rcases fa_three x 0 with q | q | q
      · exact absurd q h
      · exact q.symm
      · exact absurd q h2
theorem cu_min99 (x : Int32) : (if x < 99 then x else 99) = (if 99 < x then 99 else x) := by
  rcases fa_three x 99 with q | q | q
  · rw [if_pos q, if_neg (fa_of_lt q).2.2.1]
  · rw [q]
  · rw [if_pos q, if_neg (fa_of_lt q).2.2.1]
theorem cu_min_nI {a b : Nat} (ha : a < 2 ^ 31) (hb : b < 2 ^ 31) : cu_min (nI a) (nI b) = nI (min a b) := by
  unfold cu_min
  by_cases h : a < b
  · rw [if_pos (nI_lt h hb), Nat.min_eq_left (by omega)]
  · rw [if_neg (nI_nlt (by omega) ha), Nat.min_eq_right (by omega)]
section CI
variable {N : cl_M} {r w G : Nat → Int32} {g m : Nat}
theorem cg_smellN (hg : g < 10) (hE : cg_E G r g) (hW : cg_W G) (F : cw_F w) (hw : cw_x r = w) (hm : m < 2 ^ 30) : ∃ r1, f_X6_smell (cl_row N 239 r) 237 (nI g) (nI m) = some (cl_row N 239 r1) ∧ cg_S G r g (cg_smell G (cw_smoky w m) (nI (cw_wind w m))) r1 := by
  have hsp := cg_spotsN (N := N) hg hE hW
  have hE0 := hE
  obtain ⟨-, -, -, -, -, hw5, -⟩ := cw_wind_e F m
  obtain ⟨⟨a0, a1, a2, a3, a4, a5⟩, a6, a7, a8, a9, a10⟩ := hE
  rw [f_X6_smell, cm_of4 hg, Option.bind_some, cw_smokyN (N := cl_row N 239 r) F (cm_wx hw) hm, Option.bind_some, hsp, Option.bind_some, a4]
  unfold cg_smell
  by_cases h : cw_smoky w m &&& G 8 = 0
  · rw [if_pos h, if_pos h, cw_windN (N := cl_row N 239 r) F (cm_wx hw) hm, Option.bind_some]
    by_cases h2 : cw_wind w m = 0
    · rw [h2, if_pos (show nI 0 ≤ 0 by decide), if_pos (show nI 0 = 0 from rfl)]
      exact ⟨r, rfl, cg_S_0 hE0⟩
    · rw [if_neg (nI_nle (by omega) (by omega)), if_neg (nI_ne0 (by omega) (by omega)), cm_put4 hg, Option.bind_some]
      refine ⟨_, rfl, ?_⟩
      rw [cu_max0]
      unfold cg_S cg_E
      refine ⟨⟨⟨?_, ?_, ?_, ?_, ?_, ?_⟩, ?_, ?_, ?_, ?_, ?_⟩, fun k q1 q2 q3 q4 q5 q6 => ?_, ?_, ?_, ?_, ?_, ?_⟩
      all_goals simp (disch := omega) only [cl_let, Option.bind_some, cl_b2, nI_add, pk_mul, nI_leI, nI_ltI, nI_eq, nI_clamp, cu_inb, if_pos, if_neg, eq_self, ite_true, ite_false, if_true, if_false, pk_us, pk_un, a0, a1, a2, a3, a4, a5, a6, a7, a8, a9, a10, cu_s0, cu_sf]
  · rw [if_neg h, if_neg h, cm_put4 hg, Option.bind_some]
    refine ⟨_, rfl, ?_⟩
    rw [cu_min99]
    unfold cg_S cg_E
    refine ⟨⟨⟨?_, ?_, ?_, ?_, ?_, ?_⟩, ?_, ?_, ?_, ?_, ?_⟩, fun k q1 q2 q3 q4 q5 q6 => ?_, ?_, ?_, ?_, ?_, ?_⟩
    all_goals simp (disch := omega) only [cl_let, Option.bind_some, cl_b2, nI_add, pk_mul, nI_leI, nI_ltI, nI_eq, nI_clamp, cu_inb, if_pos, if_neg, eq_self, ite_true, ite_false, if_true, if_false, pk_us, pk_un, a0, a1, a2, a3, a4, a5, a6, a7, a8, a9, a10, cu_s0, cu_sf]
theorem cg_weightN (hg : g < 10) (hE : cg_E G r g) : f_X6_weight (cl_row N 239 r) 237 (nI g) = some (cg_weight G) := by
  rw [f_X6_weight, cm_of1 hg, Option.bind_some, cm_of3 hg, Option.bind_some, hE.1.2.1, hE.1.2.2.2.1]
  rfl
theorem cg_holdN (hg : g < 10) (hE : cg_E G r g) : f_X6_hold (cl_row N 239 r) 237 (nI g) = some (cg_hold G) := by
  rw [f_X6_hold, cm_of8 hg, Option.bind_some, cm_of9 hg, Option.bind_some, hE.2.2.2.1, hE.2.2.2.2.1, f_X6_holdBy, Option.bind_some, Int32.mul_comm 20, Int32.mul_comm 45]
  rfl
theorem cg_freeN (hg : g < 10) (hE : cg_E G r g) : ∃ r1, f_X6_freePegs (cl_row N 239 r) 237 (nI g) = some (cl_row N 239 r1) ∧ cg_S G r g (upd (upd (upd (upd G 7 (-1)) 8 0) 9 0) 10 0) r1 := by
  obtain ⟨⟨a0, a1, a2, a3, a4, a5⟩, a6, a7, a8, a9, a10⟩ := hE
  refine ⟨upd (upd (upd (upd (upd r 2 (r 2 + G 9)) 3 (r 3 + G 10)) (39 + 11 * g + 8) 0) (39 + 11 * g + 9) 0) (39 + 11 * g + 7) (-1), ?_, ?_⟩
  · simp (disch := omega) only [cl_let, Option.bind_some, cl_b2, nI_add, pk_mul, nI_leI, nI_ltI, nI_eq, nI_clamp, cu_inb, if_pos, if_neg, eq_self, ite_true, ite_false, if_true, if_false, f_X6_freePegs, cm_of8 hg, cm_of9 hg, cm_put8 hg, cm_put9 hg, cm_put7 hg, cm_set, cm_now, pk_us, pk_un, a8, a9]
  · unfold cg_S cg_E
    refine ⟨⟨⟨?_, ?_, ?_, ?_, ?_, ?_⟩, ?_, ?_, ?_, ?_, ?_⟩, fun k q1 q2 q3 q4 q5 q6 => ?_, ?_, ?_, ?_, ?_, ?_⟩
    all_goals simp (disch := omega) only [cl_let, Option.bind_some, cl_b2, nI_add, pk_mul, nI_leI, nI_ltI, nI_eq, nI_clamp, cu_inb, if_pos, if_neg, eq_self, ite_true, ite_false, if_true, if_false, pk_us, pk_un, a0, a1, a2, a3, a4, a5, a6, a7, a8, a9, a10, cu_s0, cu_sf, cu_sz]
theorem cg_fallsN (hg : g < 10) (hE : cg_E G r g) : ∃ r1, f_X6_falls (cl_row N 239 r) 237 (nI g) = some (if cg_weight G ≤ cg_hold G then 0 else 1, cl_row N 239 r1) ∧ cg_S G r g (if cg_weight G ≤ cg_hold G then G else cg_fall G) r1 := by
  rw [f_X6_falls, cg_weightN hg hE, Option.bind_some, cg_holdN hg hE, Option.bind_some]
  by_cases h : cg_weight G ≤ cg_hold G
  · rw [if_pos h, if_pos h, if_neg (fun q => (fa_of_lt q).2.1 h)]
    exact ⟨r, rfl, cg_S_0 hE⟩
  · obtain ⟨r1, z1, z2⟩ := cg_freeN (N := N) hg hE
    rw [if_neg h, if_neg h, if_pos (fa_of_nle h), z1, Option.bind_some]
    have z3 := z2
    obtain ⟨⟨⟨a0, a1, a2, a3, a4, a5⟩, a6, a7, a8, a9, a10⟩, hk, h8, h9, h10, h2, h3⟩ := z2
    refine ⟨upd (upd (upd r1 (39 + 11 * g + 6) 2) (39 + 11 * g + 5) 1) (39 + 11 * g + 10) (r1 (39 + 11 * g + 10) + 1), ?_, cg_S_tr z3 ?_⟩
    · simp (disch := omega) only [cl_let, Option.bind_some, cl_b2, nI_add, pk_mul, nI_leI, nI_ltI, nI_eq, nI_clamp, cu_inb, if_pos, if_neg, eq_self, ite_true, ite_false, if_true, if_false, cm_put6 hg, cm_put5 hg, cm_of10 hg, cm_put10 hg, pk_us, pk_un]
    · rw [a10]
      unfold cg_S cg_E cg_fall cg_put
      refine ⟨⟨⟨?_, ?_, ?_, ?_, ?_, ?_⟩, ?_, ?_, ?_, ?_, ?_⟩, fun k q1 q2 q3 q4 q5 q6 => ?_, ?_, ?_, ?_, ?_, ?_⟩
      all_goals simp (disch := omega) only [cl_let, Option.bind_some, cl_b2, nI_add, pk_mul, nI_leI, nI_ltI, nI_eq, nI_clamp, cu_inb, if_pos, if_neg, eq_self, ite_true, ite_false, if_true, if_false, pk_us, pk_un, a0, a1, a2, a3, a4, a5, a6, a7, a8, a9, a10, cu_s0, cu_sf, cu_sz]
end CI
/-- what a garment is stays so where its water alone changes -/
theorem cg_W_v {G G' : Nat → Int32} (h : cg_W G) (hk : ∀ j, j < 11 → j ≠ 3 → j ≠ 4 → G' j = G j) (h3 : ∃ v : Nat, G' 3 = nI v ∧ ∀ c : Nat, c ≤ 999 → G 2 = nI c → v ≤ c) (h4 : ∃ q, q ≤ 99 ∧ G' 4 = nI q) : cg_W G' := by
  obtain ⟨w, a, c, v, ⟨h1, h2, h3', h4', h5, h6, h7, e0, e1, e2, e3⟩, h8, h9, hp⟩ := h
  obtain ⟨v', ev, hv⟩ := h3
  refine ⟨w, a, c, v', ⟨h1, h2, h3', h4', h5, h6, hv c h6 e2, ?_, ?_, ?_, ev⟩, h4, ?_, ?_⟩
  · rw [hk 0 (by omega) (by omega) (by omega), e0]
  · rw [hk 1 (by omega) (by omega) (by omega), e1]
  · rw [hk 2 (by omega) (by omega) (by omega), e2]
  · rw [hk 5 (by omega) (by omega) (by omega), hk 9 (by omega) (by omega) (by omega), hk 10 (by omega) (by omega) (by omega)]; exact h9
  · rw [hk 6 (by omega) (by omega) (by omega), hk 7 (by omega) (by omega) (by omega), hk 8 (by omega) (by omega) (by omega), hk 9 (by omega) (by omega) (by omega), hk 10 (by omega) (by omega) (by omega)]
    exact hp
theorem cg_W_bits {G : Nat → Int32} (h : cg_W G) (x : Int32) : ∃ q, q ≤ 24 ∧ cu_bc (x &&& G 8) = nI q := by
  obtain ⟨w, a, c, v, ⟨h1, h2, h3', h4', h5, h6, h7, e0, e1, e2, e3⟩, h8, h9, hp⟩ := h
  rcases hp with ⟨q6, p, q7, q8, q9⟩ | ⟨q6, q7, q8, q9, q10⟩
  · rw [q9]; exact (cu_bits x h2 q7 h1).2
  · rw [q8, Int32.and_zero]; exact ⟨0, by omega, by decide +kernel⟩
theorem cg_W_dry {G : Nat → Int32} (h : cg_W G) (x : Int32) {d : Nat} (hd : d ≤ 5) : cg_W (cg_dry G x (nI d)) := by
  obtain ⟨q, hq, eq⟩ := cg_W_bits h x
  refine cg_W_v h (fun j h1 h2 h3 => ?_) ?_ ?_
  · unfold cg_dry; simp (disch := omega) only [cl_let, Option.bind_some, cl_b2, nI_add, pk_mul, nI_leI, nI_ltI, nI_eq, nI_clamp, cu_inb, if_pos, if_neg, eq_self, ite_true, ite_false, if_true, if_false, pk_un]
  · obtain ⟨w, a, c, v, ⟨h1, h2, h3', h4', h5, h6, h7, e0, e1, e2, e3⟩, h8, h9, hp⟩ := h
    refine ⟨v - min v q - min (v - min v q) d, ?_, fun c' hc e => ?_⟩
    · unfold cg_dry cg_sv cg_vv
      rw [pk_un (by decide), pk_us, e3, eq, cu_min_nI (by omega) (by omega), pk_sub (Nat.min_le_left _ _), cu_min_nI (by omega) (by omega), pk_sub (Nat.min_le_left _ _)]
    · have : c = c' := (nI_eq (by omega) (by omega)).mp (e2.symm.trans e)
      omega
  · obtain ⟨w, a, c, v, h1, ⟨q, h8, h9⟩, hp⟩ := h
    refine ⟨q, h8, ?_⟩
    unfold cg_dry
    simp (disch := omega) only [cl_let, Option.bind_some, cl_b2, nI_add, pk_mul, nI_leI, nI_ltI, nI_eq, nI_clamp, cu_inb, if_pos, if_neg, eq_self, ite_true, ite_false, if_true, if_false, pk_un, h9]
theorem cg_W_wet {G : Nat → Int32} (h : cg_W G) {n : Nat} (hn : n ≤ 80) : cg_W (cg_wet G (nI n)) := by
  refine cg_W_v h (fun j h1 h2 h3 => ?_) ?_ ?_
  · unfold cg_wet; simp (disch := omega) only [cl_let, Option.bind_some, cl_b2, nI_add, pk_mul, nI_leI, nI_ltI, nI_eq, nI_clamp, cu_inb, if_pos, if_neg, eq_self, ite_true, ite_false, if_true, if_false, pk_un]
  · obtain ⟨w, a, c, v, ⟨h1, h2, h3', h4', h5, h6, h7, e0, e1, e2, e3⟩, h8, h9, hp⟩ := h
    have hb : n * w ≤ 480 := Nat.le_trans (Nat.mul_le_mul hn h2) (by omega)
    refine ⟨v + min (c - v) (n * w), ?_, fun c' hc e => ?_⟩
    · unfold cg_wet cg_wv
      rw [pk_un (by decide), pk_us, e0, e2, e3, pk_sub h7, pk_mul, cu_min_nI (by omega) (by omega), nI_add]
    · have : c = c' := (nI_eq (by omega) (by omega)).mp (e2.symm.trans e)
      omega
  · obtain ⟨w, a, c, v, h1, ⟨q, h8, h9⟩, hp⟩ := h
    refine ⟨q, h8, ?_⟩
    unfold cg_wet
    simp (disch := omega) only [cl_let, Option.bind_some, cl_b2, nI_add, pk_mul, nI_leI, nI_ltI, nI_eq, nI_clamp, cu_inb, if_pos, if_neg, eq_self, ite_true, ite_false, if_true, if_false, pk_un, h9]
theorem cg_W_smell {G : Nat → Int32} (h : cg_W G) (x y : Int32) : cg_W (cg_smell G x y) := by
  have h3 : ∀ z : Int32, ∃ v : Nat, (upd G 4 z) 3 = nI v ∧ ∀ c : Nat, c ≤ 999 → G 2 = nI c → v ≤ c := fun z => by
    obtain ⟨w, a, c, v, ⟨h1, h2, h3', h4', h5, h6, h7, e0, e1, e2, e3⟩, h8, h9, hp⟩ := h
    exact ⟨v, by rw [pk_un (by decide), e3], fun c' hc e => by
      have : c = c' := (nI_eq (by omega) (by omega)).mp (e2.symm.trans e)
      omega⟩
  have hk : ∀ z : Int32, ∀ j, j < 11 → j ≠ 3 → j ≠ 4 → (upd G 4 z) j = G j := fun z j _ _ q => pk_un q
  obtain ⟨q, hq, e4⟩ : ∃ q, q ≤ 99 ∧ G 4 = nI q := by
    obtain ⟨w, a, c, v, h1, h8, hp⟩ := h
    exact h8
  unfold cg_smell
  by_cases c1 : x &&& G 8 = 0
  · rw [if_pos c1]
    by_cases c2 : y = 0
    · rw [if_pos c2]; exact h
    · rw [if_neg c2]
      refine cg_W_v h (hk _) (h3 _) ⟨q - 1, by omega, ?_⟩
      rw [pk_us, e4]
      by_cases z : q = 0
      · rw [z]; decide
      · rw [show (1 : Int32) = nI 1 from rfl, pk_sub (by omega), if_neg (nI_pos (by omega))]
  · rw [if_neg c1]
    refine cg_W_v h (hk _) (h3 _) ⟨min (q + 1) 99, by omega, ?_⟩
    rw [pk_us, e4, nI_1]
    by_cases z : 99 < q + 1
    · rw [if_pos (show (99 : Int32) < nI (q + 1) from nI_lt (a := 99) z (by omega)), Nat.min_eq_right (by omega)]; rfl
    · rw [if_neg (show ¬ (99 : Int32) < nI (q + 1) from nI_nlt (a := 99) (by omega) (by omega)), Nat.min_eq_left (by omega)]
theorem cg_W_fall {G : Nat → Int32} (h : cg_W G) : cg_W (cg_fall G) := by
  obtain ⟨w, a, c, v, ⟨h1, h2, h3', h4', h5, h6, h7, e0, e1, e2, e3⟩, ⟨q, hq, e4⟩, h9, hp⟩ := h
  unfold cg_fall cg_put
  refine ⟨w, a, c, v, ⟨h1, h2, h3', h4', h5, h6, h7, ?_, ?_, ?_, ?_⟩, ⟨q, hq, ?_⟩, ⟨Or.inr ?_, ⟨0, by omega, ?_⟩, ⟨0, by omega, ?_⟩⟩, Or.inr ⟨Or.inr ?_, ?_, ?_, ?_, ?_⟩⟩
  all_goals simp (disch := omega) only [cl_let, Option.bind_some, cl_b2, nI_add, pk_mul, nI_leI, nI_ltI, nI_eq, nI_clamp, cu_inb, if_pos, if_neg, eq_self, ite_true, ite_false, if_true, if_false, pk_us, pk_un, e0, e1, e2, e3, e4, nI_0]
theorem cg_W_step {G : Nat → Int32} (h : cg_W G) {n d : Nat} (hn : n ≤ 80) (hd : d ≤ 5) (x y : Int32) : cg_W (cg_step (nI n) (nI d) x y G) := by
  have hm : cg_W (cg_mid (nI n) (nI d) x y G) := by
    unfold cg_mid
    by_cases q : nI n ≤ 0
    · rw [if_pos q]; exact cg_W_smell (cg_W_dry h x hd) _ _
    · rw [if_neg q]; exact cg_W_smell (cg_W_wet h hn) _ _
  unfold cg_step
  by_cases c1 : G 6 = 1
  · rw [if_pos c1]
    by_cases c2 : cg_weight (cg_mid (nI n) (nI d) x y G) ≤ cg_hold (cg_mid (nI n) (nI d) x y G)
    · rw [if_pos c2]; exact hm
    · rw [if_neg c2]; exact cg_W_fall hm
  · rw [if_neg c1]; exact h
