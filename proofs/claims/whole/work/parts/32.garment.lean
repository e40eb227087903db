/-! a garment in one minute, on both sides -/
def cg_put (G : Nat → Int32) (st : Int32) : Nat → Int32 := upd (upd (upd (upd (upd G 6 st) 7 (-1)) 8 0) 9 0) 10 0
def cu_min (a b : Int32) : Int32 := if a < b then a else b
theorem cu_minf {a b : Int32} : (if a < b then a else b) = cu_min a b := rfl
def cg_wv (G : Nat → Int32) (rain : Int32) : Int32 := cu_min (G 2 - G 3) (rain * G 0)
def cg_wet (G : Nat → Int32) (rain : Int32) : Nat → Int32 := upd (upd G 3 (G 3 + cg_wv G rain)) 12 (G 12 + cg_wv G rain)
def cg_sv (G : Nat → Int32) (sunny : Int32) : Int32 := cu_min (G 3) (cu_bc (sunny &&& G 8))
def cg_vv (x wind : Int32) : Int32 := cu_min x wind
def cg_dry (G : Nat → Int32) (sunny wind : Int32) : Nat → Int32 := upd (upd (upd (upd G 3 (G 3 - cg_sv G sunny)) 13 (G 13 + cg_sv G sunny)) 3 (G 3 - cg_sv G sunny - cg_vv (G 3 - cg_sv G sunny) wind)) 14 (G 14 + cg_vv (G 3 - cg_sv G sunny) wind)
def cg_smell (G : Nat → Int32) (smoky wind : Int32) : Nat → Int32 := if smoky &&& G 8 = 0 then (if wind = 0 then G else upd G 4 (if G 4 - 1 < 0 then 0 else G 4 - 1)) else upd G 4 (if 99 < G 4 + 1 then 99 else G 4 + 1)
def cg_fall (G : Nat → Int32) : Nat → Int32 := upd (upd (cg_put G 2) 5 1) 11 (G 11 + 1)
def cg_weight (G : Nat → Int32) : Int32 := G 1 + G 3 / 10
def cg_hold (G : Nat → Int32) : Int32 := G 9 * 20 + G 10 * 45
def cg_mid (rain wind sunny smoky : Int32) (G : Nat → Int32) : Nat → Int32 := cg_smell (if rain ≤ 0 then cg_dry G sunny wind else cg_wet G rain) smoky wind
/-- a garment behind one minute, and whether it fell -/
def cg_step (rain wind sunny smoky : Int32) (G : Nat → Int32) : Nat → Int32 := if G 6 = 1 then (if cg_weight (cg_mid rain wind sunny smoky G) ≤ cg_hold (cg_mid rain wind sunny smoky G) then cg_mid rain wind sunny smoky G else cg_fall (cg_mid rain wind sunny smoky G)) else G
def cg_fell (rain wind sunny smoky : Int32) (G : Nat → Int32) : Int32 := if G 6 = 1 then (if cg_weight (cg_mid rain wind sunny smoky G) ≤ cg_hold (cg_mid rain wind sunny smoky G) then 0 else 1) else 0
theorem cu_tt {M : cl_M} {t : Nat} {r : Nat → Int32} {k : Nat} {v : Int32} : cl_ms (cl_row M t r) t k v = cl_row M t (upd r k v) := by rw [cl_ms, cl_row_s, cu_rr]
theorem cg_putC {M : cl_M} {t : Nat} {r : Nat → Int32} {st : Int32} : f_X0_putInto (cl_row M t r) t st = some (cl_row M t (cg_put r st)) := by
  simp only [f_X0_putInto, cl_let, cu_tt, cg_put]
theorem cg_wetC {M : cl_M} {t : Nat} {r : Nat → Int32} {a : Int32} : f_X0_getWet (cl_row M t r) t a = some (cl_row M t (cg_wet r a)) := by
  simp only [f_X0_getWet, ↓cu_minf]
  simp (disch := omega) only [cl_let, Option.bind_some, cl_b2, nI_add, pk_mul, nI_leI, nI_ltI, nI_eq, nI_clamp, cu_inb, if_pos, if_neg, eq_self, ite_true, ite_false, if_true, if_false, cu_tt, cl_row_s, pk_us, pk_un, cg_wet, cg_wv]
theorem cg_dryC {M : cl_M} {t : Nat} {r : Nat → Int32} {a b : Int32} : f_X0_getDry (cl_row M t r) t a b = some (cl_row M t (cg_dry r a b)) := by
  simp only [f_X0_getDry, ↓cu_minf]
  simp (disch := omega) only [cl_let, Option.bind_some, cl_b2, nI_add, pk_mul, nI_leI, nI_ltI, nI_eq, nI_clamp, cu_inb, if_pos, if_neg, eq_self, ite_true, ite_false, if_true, if_false, cu_tt, cl_row_s, pk_us, pk_un, cg_dry, cg_sv, cg_vv, cu_bc_e]
theorem cg_smellC {M : cl_M} {t : Nat} {r : Nat → Int32} {a b : Int32} : f_X0_takeSmell (cl_row M t r) t a b = some (cl_row M t (cg_smell r a b)) := by
  rw [f_X0_takeSmell, cg_smell]
  simp only [cl_row_s, cl_let, cu_tt]
  by_cases h : a &&& r 8 = 0
  · rw [if_pos h, if_pos h]
    by_cases h2 : b = 0
    · rw [if_pos h2, if_pos h2]
    · rw [if_neg h2, if_neg h2]
  · rw [if_neg h, if_neg h]
theorem cg_fallC {M : cl_M} {t : Nat} {r : Nat → Int32} : f_X0_fall (cl_row M t r) t = some (cl_row M t (cg_fall r)) := by
  simp (disch := omega) only [cl_let, Option.bind_some, cl_b2, nI_add, pk_mul, nI_leI, nI_ltI, nI_eq, nI_clamp, cu_inb, if_pos, if_neg, eq_self, ite_true, ite_false, if_true, if_false, f_X0_fall, cg_putC, cu_tt, cl_row_s, pk_us, pk_un, cg_fall, cg_put]
theorem cg_weightC {M : cl_M} {t : Nat} : f_X0_weight M t = some (cg_weight (M t)) := rfl
theorem cg_holdC {M : cl_M} {t : Nat} : f_X0_hold M t = some (cg_hold (M t)) := rfl
/-- the reference's eleven numbers of a garment are the class's -/
def cg_E (G r : Nat → Int32) (g : Nat) : Prop :=
  (r (39 + 11 * g) = G 0 ∧ r (39 + 11 * g + 1) = G 1 ∧ r (39 + 11 * g + 2) = G 2 ∧ r (39 + 11 * g + 3) = G 3 ∧ r (39 + 11 * g + 4) = G 4 ∧ r (39 + 11 * g + 5) = G 5) ∧
  r (39 + 11 * g + 6) = G 6 ∧ r (39 + 11 * g + 7) = G 7 ∧ r (39 + 11 * g + 8) = G 9 ∧ r (39 + 11 * g + 9) = G 10 ∧ r (39 + 11 * g + 10) = G 11
/-- what a garment is: its measures, its place -/
def cg_W (G : Nat → Int32) : Prop := ∃ w a c v : Nat, (1 ≤ w ∧ w ≤ 6 ∧ 1 ≤ a ∧ a ≤ 99 ∧ 1 ≤ c ∧ c ≤ 999 ∧ v ≤ c ∧ G 0 = nI w ∧ G 1 = nI a ∧ G 2 = nI c ∧ G 3 = nI v) ∧
  (∃ q, q ≤ 99 ∧ G 4 = nI q) ∧ ((G 5 = 0 ∨ G 5 = 1) ∧ (∃ q, q ≤ 5 ∧ G 9 = nI q) ∧ ∃ q, q ≤ 5 ∧ G 10 = nI q) ∧
  ((G 6 = 1 ∧ ∃ p, p + w ≤ 24 ∧ G 7 = nI p ∧ G 8 = cu_set p w) ∨ ((G 6 = 0 ∨ G 6 = 2) ∧ G 7 = -1 ∧ G 8 = 0 ∧ G 9 = 0 ∧ G 10 = 0))
/-- from G, r to G', r' at the garment g: the reference's sums move as the garment's own accounts do -/
def cg_S (G r : Nat → Int32) (g : Nat) (G' r' : Nat → Int32) : Prop :=
  cg_E G' r' g ∧ (∀ k, k ≠ 2 → k ≠ 3 → k ≠ 8 → k ≠ 9 → k ≠ 10 → (k < 39 + 11 * g ∨ 39 + 11 * g + 11 ≤ k) → r' k = r k) ∧
  r' 8 = r 8 + (G' 12 - G 12) ∧ r' 9 = r 9 + (G' 13 - G 13) ∧ r' 10 = r 10 + (G' 14 - G 14) ∧ r' 2 = r 2 + (G 9 - G' 9) ∧ r' 3 = r 3 + (G 10 - G' 10)
theorem cu_tr (r a b c : Int32) : r + (b - a) + (c - b) = r + (c - a) := by
  apply Int32.toBitVec_inj.mp
  simp only [Int32.toBitVec_add, Int32.toBitVec_sub]
  bv_omega
theorem cu_sf (r a b : Int32) : r + (a + b - a) = r + b := by
  apply Int32.toBitVec_inj.mp
  simp only [Int32.toBitVec_add, Int32.toBitVec_sub]
  bv_omega
theorem cu_s0 (r a : Int32) : r + (a - a) = r := by
  apply Int32.toBitVec_inj.mp
  simp only [Int32.toBitVec_add, Int32.toBitVec_sub]
  bv_omega
theorem cu_sz (r a : Int32) : r + (a - 0) = r + a := by rw [Int32.sub_zero]
theorem cu_tr2 (r a b c : Int32) : r + (a - b) + (b - c) = r + (a - c) := by
  rw [Int32.add_assoc, Int32.add_comm (a - b), ← Int32.add_assoc, cu_tr]
theorem cg_S_tr {G r G1 r1 G2 r2 : Nat → Int32} {g : Nat} (h1 : cg_S G r g G1 r1) (h2 : cg_S G1 r1 g G2 r2) : cg_S G r g G2 r2 := by
  obtain ⟨-, b1, c1, d1, e1, f1, g1⟩ := h1
  obtain ⟨a2, b2, c2, d2, e2, f2, g2⟩ := h2
  refine ⟨a2, fun k q1 q2 q3 q4 q5 q6 => (b2 k q1 q2 q3 q4 q5 q6).trans (b1 k q1 q2 q3 q4 q5 q6), ?_, ?_, ?_, ?_, ?_⟩
  · rw [c2, c1, cu_tr]
  · rw [d2, d1, cu_tr]
  · rw [e2, e1, cu_tr]
  · rw [f2, f1, cu_tr2]
  · rw [g2, g1, cu_tr2]
theorem cg_S_0 {G r : Nat → Int32} {g : Nat} (h : cg_E G r g) : cg_S G r g G r := ⟨h, fun _ _ _ _ _ _ _ => rfl, (cu_s0 _ _).symm, (cu_s0 _ _).symm, (cu_s0 _ _).symm, (cu_s0 _ _).symm, (cu_s0 _ _).symm⟩
theorem cg_S_x {G r G1 r1 w : Nat → Int32} {g : Nat} (h : cg_S G r g G1 r1) (hw : cw_x r = w) (hg : g < 10) : cw_x r1 = w := by
  rw [← hw]
  funext k
  unfold cw_x
  by_cases q : cw_i k = true
  · rw [if_pos q, if_pos q]
    simp only [cw_i, Bool.or_eq_true, Bool.and_eq_true, decide_eq_true_eq, beq_iff_eq] at q
    exact h.2.1 k (by omega) (by omega) (by omega) (by omega) (by omega) (by omega)
  · rw [if_neg q, if_neg q]
theorem cg_S_at {G r G1 r1 : Nat → Int32} {g k : Nat} (h : cg_S G r g G1 r1) (hk : k < 2 ∨ (3 < k ∧ k < 8) ∨ (10 < k ∧ k < 39)) : r1 k = r k := h.2.1 k (by omega) (by omega) (by omega) (by omega) (by omega) (by omega)
theorem cg_S_E {G r G1 r1 G2 : Nat → Int32} {g g2 : Nat} (h : cg_S G r g G1 r1) (hne : g2 ≠ g) (h2 : cg_E G2 r g2) : cg_E G2 r1 g2 := by
  have z : ∀ j, j < 11 → r1 (39 + 11 * g2 + j) = r (39 + 11 * g2 + j) := fun j hj => h.2.1 _ (by omega) (by omega) (by omega) (by omega) (by omega) (by omega)
  obtain ⟨⟨a0, a1, a2, a3, a4, a5⟩, a6, a7, a8, a9, a10⟩ := h2
  exact ⟨⟨(z 0 (by omega)).trans a0, (z 1 (by omega)).trans a1, (z 2 (by omega)).trans a2, (z 3 (by omega)).trans a3, (z 4 (by omega)).trans a4, (z 5 (by omega)).trans a5⟩, (z 6 (by omega)).trans a6, (z 7 (by omega)).trans a7, (z 8 (by omega)).trans a8, (z 9 (by omega)).trans a9, (z 10 (by omega)).trans a10⟩
section CG
variable {N : cl_M} {r w G : Nat → Int32} {g : Nat}
theorem cg_inN {q : Int32} (hg : g < 10) (hE : cg_E G r g) : f_X6_isIn (cl_row N 239 r) 237 (nI g) q = some (if G 6 = q then 1 else 0) := by
  have z1 : cl_bz 1 = true := by decide
  have z0 : cl_bz 0 = true := by decide
  rw [f_X6_isIn, cm_of6 hg, Option.bind_some, hE.2.1]
  by_cases h : G 6 = q
  · rw [if_pos h, if_pos h, f_X6_isIn_16, if_pos z1]
  · rw [if_neg h, if_neg h, f_X6_isIn_16, if_pos z0]
theorem cg_fromN {a : Int32} (hg : g < 10) (hE : cg_E G r g) : f_X6_spotsFrom (cl_row N 239 r) 237 (nI g) a = some (((1 <<< (G 0 &&& 31)) - 1) <<< (a &&& 31)) := by
  rw [f_X6_spotsFrom, cm_of0 hg, Option.bind_some, hE.1.1]
theorem cg_spotsN (hg : g < 10) (hE : cg_E G r g) (hW : cg_W G) : f_X6_spotsOf (cl_row N 239 r) 237 (nI g) = some (G 8) := by
  obtain ⟨w, a, c, v, ⟨h1, h2, h3, h4, h5, h6, h7, e0, e1, e2, e3⟩, h8, h9, hp⟩ := hW
  rw [f_X6_spotsOf, cg_inN hg hE, Option.bind_some]
  rcases hp with ⟨q6, p, q7, q8, q9⟩ | ⟨q6, q7, q8, q9, q10⟩
  · rw [if_pos q6, if_neg (by decide), cm_of7 hg, Option.bind_some, cg_fromN hg hE, Option.bind_some, hE.2.2.1, q8, q9, e0]
    rfl
  · have hn : ¬ G 6 = 1 := by rcases q6 with q | q <;> (rw [q]; decide)
    rw [if_neg hn, if_pos rfl, q8]
    rfl
end CG
section CH
variable {N : cl_M} {r w G : Nat → Int32} {g m : Nat}
/-- rain or sun and wind: the reference's way on one garment -/
theorem cg_waterN (hg : g < 10) (hE : cg_E G r g) (hW : cg_W G) (F : cw_F w) (hw : cw_x r = w) (hm : m < 2 ^ 30) : ∃ r1, f_X6_water (cl_row N 239 r) 237 (nI g) (nI m) = some (cl_row N 239 r1) ∧ cg_S G r g (if nI (cw_rain w m) ≤ 0 then cg_dry G (cw_sunny w m) (nI (cw_wind w m)) else cg_wet G (nI (cw_rain w m))) r1 := by
  have hsp := cg_spotsN (N := N) hg hE hW
  have hbits : ∀ a : Int32, cu_mn (a &&& G 8) 24 = cu_bc (a &&& G 8) := by
    obtain ⟨w, a, c, v, ⟨h1, h2, h3, h4, h5, h6, h7, e0, e1, e2, e3⟩, h8, h9, hp⟩ := hW
    intro x
    rcases hp with ⟨q6, p, q7, q8, q9⟩ | ⟨q6, q7, q8, q9, q10⟩
    · rw [q9]; exact (cu_bits x h2 q7 h1).1.symm
    · rw [q8, Int32.and_zero]; decide +kernel
  obtain ⟨⟨a0, a1, a2, a3, a4, a5⟩, a6, a7, a8, a9, a10⟩ := hE
  rw [f_X6_water, cw_rainN (N := cl_row N 239 r) F (cm_wx hw) hm, Option.bind_some]
  by_cases hr : nI (cw_rain w m) ≤ 0
  · rw [if_pos hr, if_pos hr, cw_sunnyN (N := cl_row N 239 r) F (cm_wx hw) hm, Option.bind_some, hsp, Option.bind_some, cu_mn_e, Option.bind_some, hbits]
    have e1 : f_X6_dry (cl_row N 239 r) 237 (nI g) (cu_bc (cw_sunny w m &&& G 8)) 9 = some (cl_row N 239 (upd (upd r (39 + 11 * g + 3) (G 3 - cg_sv G (cw_sunny w m))) 9 (r 9 + cg_sv G (cw_sunny w m)))) := by
      have i9 : cl_inb 9 149 = true := by decide
      have c9 : (9 : Int32).toNatClampNeg = 9 := by decide
      simp only [f_X6_dry, ↓cu_minf]
      simp (disch := omega) only [cl_let, Option.bind_some, cl_b2, nI_add, pk_mul, nI_leI, nI_ltI, nI_eq, nI_clamp, cu_inb, if_pos, if_neg, eq_self, ite_true, ite_false, if_true, if_false, cm_of3 hg, cm_put3 hg, i9, c9, cm_set, cm_now, a3, pk_un, cg_sv]
    have hE1 : cg_E G (upd (upd r (39 + 11 * g + 3) (G 3 - cg_sv G (cw_sunny w m))) 9 (r 9 + cg_sv G (cw_sunny w m))) g → True := fun _ => trivial
    rw [e1, Option.bind_some]
    have hx : cw_x (upd (upd r (39 + 11 * g + 3) (G 3 - cg_sv G (cw_sunny w m))) 9 (r 9 + cg_sv G (cw_sunny w m))) = w := by
      rw [← hw]
      funext k
      unfold cw_x
      by_cases q : cw_i k = true
      · rw [if_pos q, if_pos q]
        simp only [cw_i, Bool.or_eq_true, Bool.and_eq_true, decide_eq_true_eq, beq_iff_eq] at q
        rw [pk_un (by omega), pk_un (by omega)]
      · rw [if_neg q, if_neg q]
    rw [cw_windN (N := cl_row N 239 (upd (upd r (39 + 11 * g + 3) (G 3 - cg_sv G (cw_sunny w m))) 9 (r 9 + cg_sv G (cw_sunny w m)))) F (cm_wx hx) hm, Option.bind_some]
    have i9 : cl_inb 10 149 = true := by decide
    have c9 : (10 : Int32).toNatClampNeg = 10 := by decide
    refine ⟨upd (upd (upd (upd r (39 + 11 * g + 3) (G 3 - cg_sv G (cw_sunny w m))) 9 (r 9 + cg_sv G (cw_sunny w m))) (39 + 11 * g + 3) (G 3 - cg_sv G (cw_sunny w m) - cg_vv (G 3 - cg_sv G (cw_sunny w m)) (nI (cw_wind w m)))) 10 (r 10 + cg_vv (G 3 - cg_sv G (cw_sunny w m)) (nI (cw_wind w m))), ?_, ?_⟩
    · simp only [f_X6_dry, ↓cu_minf]
      simp (disch := omega) only [cl_let, Option.bind_some, cl_b2, nI_add, pk_mul, nI_leI, nI_ltI, nI_eq, nI_clamp, cu_inb, if_pos, if_neg, eq_self, ite_true, ite_false, if_true, if_false, cm_of3 hg, cm_put3 hg, i9, c9, cm_set, cm_now, pk_us, pk_un, cg_vv]
    · unfold cg_S cg_E cg_dry
      refine ⟨⟨⟨?_, ?_, ?_, ?_, ?_, ?_⟩, ?_, ?_, ?_, ?_, ?_⟩, fun k q1 q2 q3 q4 q5 q6 => ?_, ?_, ?_, ?_, ?_, ?_⟩
      all_goals simp (disch := omega) only [cl_let, Option.bind_some, cl_b2, nI_add, pk_mul, nI_leI, nI_ltI, nI_eq, nI_clamp, cu_inb, if_pos, if_neg, eq_self, ite_true, ite_false, if_true, if_false, pk_us, pk_un, a0, a1, a2, a3, a4, a5, a6, a7, a8, a9, a10, cu_s0, cu_sf]
  · rw [if_neg hr, if_neg hr, cm_of0 hg, Option.bind_some, cm_of2 hg, Option.bind_some, cm_of3 hg, Option.bind_some, a0, a2, a3, cu_minf]
    refine ⟨upd (upd r (39 + 11 * g + 3) (G 3 + cg_wv G (nI (cw_rain w m)))) 8 (r 8 + cg_wv G (nI (cw_rain w m))), ?_, ?_⟩
    · simp (disch := omega) only [cl_let, Option.bind_some, cl_b2, nI_add, pk_mul, nI_leI, nI_ltI, nI_eq, nI_clamp, cu_inb, if_pos, if_neg, eq_self, ite_true, ite_false, if_true, if_false, f_X6_add, cm_of3 hg, cm_put3 hg, cm_set, cm_now, pk_us, pk_un, a3, cg_wv]
    · unfold cg_S cg_E cg_wet
      refine ⟨⟨⟨?_, ?_, ?_, ?_, ?_, ?_⟩, ?_, ?_, ?_, ?_, ?_⟩, fun k q1 q2 q3 q4 q5 q6 => ?_, ?_, ?_, ?_, ?_, ?_⟩
      all_goals simp (disch := omega) only [cl_let, Option.bind_some, cl_b2, nI_add, pk_mul, nI_leI, nI_ltI, nI_eq, nI_clamp, cu_inb, if_pos, if_neg, eq_self, ite_true, ite_false, if_true, if_false, pk_us, pk_un, a0, a1, a2, a3, a4, a5, a6, a7, a8, a9, a10, cu_s0, cu_sf]
end CH
