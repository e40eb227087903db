/-! one minute, many minutes, on both sides -/
def cg_st (w : Nat → Int32) (m : Nat) (G : Nat → Int32) : Nat → Int32 := cg_step (nI (cw_rain w m)) (nI (cw_wind w m)) (cw_sunny w m) (cw_smoky w m) G
def cg_fl (w : Nat → Int32) (m : Nat) (G : Nat → Int32) : Int32 := cg_fell (nI (cw_rain w m)) (nI (cw_wind w m)) (cw_sunny w m) (cw_smoky w m) G
theorem cw_rain_le {w : Nat → Int32} (F : cw_F w) (m : Nat) : cw_rain w m ≤ 80 := by
  have h := cw_ra_le F m _ (Nat.le_refl _)
  obtain ⟨sc, hsc, e5, -⟩ := F.2.2.1
  rw [cw_rain]
  rw [e5, cN_nI (by omega)] at h ⊢
  omega
theorem cg_st_W {w G : Nat → Int32} (F : cw_F w) (m : Nat) (h : cg_W G) : cg_W (cg_st w m G) := by
  obtain ⟨-, -, -, -, -, hw5, -⟩ := cw_wind_e F m
  exact cg_W_step h (cw_rain_le F m) hw5 _ _
def cu_sm (f : Nat → Int32) : Nat → Int32
  | 0 => 0
  | n + 1 => cu_sm f n + f n
theorem cu_sm_cong {f h : Nat → Int32} : ∀ {n : Nat}, (∀ k, k < n → f k = h k) → cu_sm f n = cu_sm h n
  | 0, _ => rfl
  | n + 1, q => by rw [cu_sm, cu_sm, cu_sm_cong (fun k hk => q k (by omega)), q n (by omega)]
theorem cu_a4 (a b c d : Int32) : (a + b) + (c - d) = (a + c) + (b - d) := by
  rw [Int32.sub_eq_add_neg, Int32.sub_eq_add_neg, Int32.add_assoc, Int32.add_assoc, ← Int32.add_assoc b c, Int32.add_comm b c, Int32.add_assoc c b]
theorem cu_sm_sub (f h : Nat → Int32) : ∀ n, cu_sm f n + cu_sm (fun k => h k - f k) n = cu_sm h n
  | 0 => rfl
  | n + 1 => by
    have e := cu_sm_sub f h n
    show cu_sm f n + f n + (cu_sm (fun k => h k - f k) n + (h n - f n)) = cu_sm h n + h n
    rw [← e, ← Int32.add_assoc, Int32.add_assoc (cu_sm f n) (f n), Int32.add_comm (f n), ← Int32.add_assoc, Int32.add_assoc _ (f n) (h n - f n), Int32.add_comm (f n) (h n - f n), Int32.sub_add_cancel]
section CP
variable {N : cl_M} {r w G : Nat → Int32} {g m : Nat}
theorem cg_oneN (hg : g < 10) (hE : cg_E G r g) (hW : cg_W G) (F : cw_F w) (hw : cw_x r = w) (hm : m < 2 ^ 30) (h6 : G 6 = 1) : ∃ r1 r2 r3, f_X6_water (cl_row N 239 r) 237 (nI g) (nI m) = some (cl_row N 239 r1) ∧ f_X6_smell (cl_row N 239 r1) 237 (nI g) (nI m) = some (cl_row N 239 r2) ∧ f_X6_falls (cl_row N 239 r2) 237 (nI g) = some (cg_fl w m G, cl_row N 239 r3) ∧ cg_S G r g (cg_st w m G) r3 := by
  obtain ⟨-, -, -, -, -, hw5, -⟩ := cw_wind_e F m
  obtain ⟨r1, z1, y1⟩ := cg_waterN (N := N) hg hE hW F hw hm
  have hW1 : cg_W (if nI (cw_rain w m) ≤ 0 then cg_dry G (cw_sunny w m) (nI (cw_wind w m)) else cg_wet G (nI (cw_rain w m))) := by
    by_cases q : nI (cw_rain w m) ≤ 0
    · rw [if_pos q]; exact cg_W_dry hW _ hw5
    · rw [if_neg q]; exact cg_W_wet hW (cw_rain_le F m)
  obtain ⟨r2, z2, y2⟩ := cg_smellN (N := N) hg y1.1 hW1 F (cg_S_x y1 hw hg) hm
  obtain ⟨r3, z3, y3⟩ := cg_fallsN (N := N) hg y2.1
  refine ⟨r1, r2, r3, z1, z2, ?_, ?_⟩
  · rw [z3, cg_fl, cg_fell, if_pos h6]
    rfl
  · rw [cg_st, cg_step, if_pos h6]
    exact cg_S_tr (cg_S_tr y1 y2) y3
theorem cg_passN {Gs : Nat → Nat → Int32} {n : Nat} (hn : n ≤ 10) (h7 : r 7 = nI n) (h0 : r 0 = nI m) (hm : m < 2 ^ 30) (F : cw_F w) (hw : cw_x r = w) (hG : ∀ k, k < n → cg_E (Gs k) r k ∧ cg_W (Gs k)) :
    ∃ r', f_X6_passMinute (cl_row N 239 r) 237 = some (cu_sm (fun k => cg_fl w m (Gs k)) n, cl_row N 239 r') ∧ (∀ k, k < n → cg_E (cg_st w m (Gs k)) r' k) ∧ cw_x r' = w ∧ r' 0 = nI (m + 1) ∧ r' 7 = nI n ∧
      r' 8 = r 8 + cu_sm (fun k => cg_st w m (Gs k) 12 - Gs k 12) n ∧ r' 9 = r 9 + cu_sm (fun k => cg_st w m (Gs k) 13 - Gs k 13) n ∧ r' 10 = r 10 + cu_sm (fun k => cg_st w m (Gs k) 14 - Gs k 14) n ∧
      r' 2 = r 2 + cu_sm (fun k => Gs k 9 - cg_st w m (Gs k) 9) n ∧ r' 3 = r 3 + cu_sm (fun k => Gs k 10 - cg_st w m (Gs k) 10) n := by
  have H : ∀ j i, i + j = n → ∀ k, j < k → ∀ ri : Nat → Int32, (∀ q, q < n → cg_E (if q < i then cg_st w m (Gs q) else Gs q) ri q) → cw_x ri = w → ri 0 = nI m → ri 7 = nI n →
      ri 8 = r 8 + cu_sm (fun k => cg_st w m (Gs k) 12 - Gs k 12) i → ri 9 = r 9 + cu_sm (fun k => cg_st w m (Gs k) 13 - Gs k 13) i → ri 10 = r 10 + cu_sm (fun k => cg_st w m (Gs k) 14 - Gs k 14) i →
      ri 2 = r 2 + cu_sm (fun k => Gs k 9 - cg_st w m (Gs k) 9) i → ri 3 = r 3 + cu_sm (fun k => Gs k 10 - cg_st w m (Gs k) 10) i →
      ∃ r', f_X6_passMinute_11 k (cl_row N 239 ri) 237 (cu_sm (fun k => cg_fl w m (Gs k)) i) (nI m) (nI i) = some (cu_sm (fun k => cg_fl w m (Gs k)) n, cl_row N 239 r') ∧ (∀ k, k < n → cg_E (cg_st w m (Gs k)) r' k) ∧ cw_x r' = w ∧ r' 0 = nI (m + 1) ∧ r' 7 = nI n ∧
      r' 8 = r 8 + cu_sm (fun k => cg_st w m (Gs k) 12 - Gs k 12) n ∧ r' 9 = r 9 + cu_sm (fun k => cg_st w m (Gs k) 13 - Gs k 13) n ∧ r' 10 = r 10 + cu_sm (fun k => cg_st w m (Gs k) 14 - Gs k 14) n ∧
      r' 2 = r 2 + cu_sm (fun k => Gs k 9 - cg_st w m (Gs k) 9) n ∧ r' 3 = r 3 + cu_sm (fun k => Gs k 10 - cg_st w m (Gs k) 10) n := by
    intro j
    induction j with
    | zero =>
      intro i hi k hk ri hE hx r0 r7 r8 r9 r10 r2 r3
      obtain ⟨k, rfl, hk⟩ := cu_fuel hk
      have hi : i = n := by omega
      subst hi
      refine ⟨upd ri 0 (nI (m + 1)), ?_, fun k hk => ?_, ?_, pk_us, ?_, ?_, ?_, ?_, ?_, ?_⟩
      · rw [f_X6_passMinute_11, cm_now, r7, if_pos (nI_le (Nat.le_refl _) (by omega)), cl_let, cm_now, r0, nI_1, cm_set]
      · have := hE k hk
        rw [if_pos hk] at this
        obtain ⟨⟨a0, a1, a2, a3, a4, a5⟩, a6, a7, a8, a9, a10⟩ := this
        refine ⟨⟨?_, ?_, ?_, ?_, ?_, ?_⟩, ?_, ?_, ?_, ?_, ?_⟩
        all_goals simp (disch := omega) only [cl_let, Option.bind_some, cl_b2, nI_add, pk_mul, nI_leI, nI_ltI, nI_eq, nI_clamp, cu_inb, if_pos, if_neg, eq_self, ite_true, ite_false, if_true, if_false, pk_un, a0, a1, a2, a3, a4, a5, a6, a7, a8, a9, a10]
      · rw [← hx]
        funext k
        unfold cw_x
        by_cases q : cw_i k = true
        · rw [if_pos q, if_pos q]
          simp only [cw_i, Bool.or_eq_true, Bool.and_eq_true, decide_eq_true_eq, beq_iff_eq] at q
          rw [pk_un (by omega)]
        · rw [if_neg q, if_neg q]
      · rw [pk_un (by decide), r7]
      · rw [pk_un (by decide), r8]
      · rw [pk_un (by decide), r9]
      · rw [pk_un (by decide), r10]
      · rw [pk_un (by decide), r2]
      · rw [pk_un (by decide), r3]
    | succ j ih =>
      intro i hi k hk ri hE hx r0 r7 r8 r9 r10 r2 r3
      obtain ⟨k, rfl, hk⟩ := cu_fuel hk
      have hEi := hE i (by omega)
      rw [if_neg (by omega)] at hEi
      have hWi := (hG i (by omega)).2
      have ih := ih (i + 1) (by omega) k (by omega)
      rw [f_X6_passMinute_11, cm_now, r7, if_neg (nI_ge (by omega) (by omega)), cg_inN (by omega) hEi, Option.bind_some]
      by_cases h6 : Gs i 6 = 1
      · obtain ⟨q1, q2, q3, z1, z2, z3, hS⟩ := cg_oneN (N := N) (by omega) hEi hWi F hx hm h6
        rw [if_pos h6, if_neg (by decide), z1, Option.bind_some, z2, Option.bind_some, z3]
        have hfl : f_X6_flag (cl_row N 239 q3) (cg_fl w m (Gs i)) = some (cg_fl w m (Gs i)) := by
          rw [cg_fl, cg_fell, if_pos h6]
          by_cases z : cg_weight (cg_mid (nI (cw_rain w m)) (nI (cw_wind w m)) (cw_sunny w m) (cw_smoky w m) (Gs i)) ≤ cg_hold (cg_mid (nI (cw_rain w m)) (nI (cw_wind w m)) (cw_sunny w m) (cw_smoky w m) (Gs i))
          · rw [if_pos z]; rfl
          · rw [if_neg z]; rfl
        simp only [cl_b2, hfl, Option.bind_some, cl_let, f_X6_passMinute_54, nI_1]
        obtain ⟨s1, s2, s3, s4, s5, s6, s7⟩ := id hS
        refine ih q3 (fun q hq => ?_) (cg_S_x hS hx (by omega)) ((cg_S_at hS (by omega)).trans r0) ((cg_S_at hS (by omega)).trans r7) ?_ ?_ ?_ ?_ ?_
        · by_cases e : q = i
          · subst e
            rw [if_pos (by omega)]
            exact s1
          · have := hE q hq
            by_cases z : q < i
            · rw [if_pos z] at this
              rw [if_pos (by omega)]
              exact cg_S_E hS e this
            · rw [if_neg z] at this
              rw [if_neg (by omega)]
              exact cg_S_E hS e this
        · rw [s3, r8, Int32.add_assoc]; rfl
        · rw [s4, r9, Int32.add_assoc]; rfl
        · rw [s5, r10, Int32.add_assoc]; rfl
        · rw [s6, r2, Int32.add_assoc]; rfl
        · rw [s7, r3, Int32.add_assoc]; rfl
      · have hst : cg_st w m (Gs i) = Gs i := by rw [cg_st, cg_step, if_neg h6]
        have hfl : cg_fl w m (Gs i) = 0 := by rw [cg_fl, cg_fell, if_neg h6]
        rw [if_neg h6, if_pos rfl]
        simp only [cl_let, f_X6_passMinute_54, nI_1]
        have hz : ∀ a b : Int32, a + (b + 0) = a + b := fun a b => by rw [Int32.add_zero]
        have := ih ri (fun q hq => ?_) hx r0 r7 ?_ ?_ ?_ ?_ ?_
        · rw [show cu_sm (fun k => cg_fl w m (Gs k)) (i + 1) = cu_sm (fun k => cg_fl w m (Gs k)) i from by
            show _ + cg_fl w m (Gs i) = _
            rw [hfl, Int32.add_zero]] at this
          exact this
        · by_cases e : q = i
          · subst e
            rw [if_pos (by omega), hst]
            exact hEi
          · have := hE q hq
            by_cases z : q < i
            · rw [if_pos z] at this
              rw [if_pos (by omega)]
              exact this
            · rw [if_neg z] at this
              rw [if_neg (by omega)]
              exact this
        all_goals
          rw [cu_sm, hst, Int32.sub_self, Int32.add_zero]
          assumption
  have := H n 0 (by omega) cl_F (by unfold cl_F; omega) r (fun q hq => by rw [if_neg (by omega)]; exact (hG q hq).1) hw h0 h7 (Int32.add_zero _).symm (Int32.add_zero _).symm (Int32.add_zero _).symm (Int32.add_zero _).symm (Int32.add_zero _).symm
  rw [f_X6_passMinute, cl_let, cm_now, h0]
  exact this
end CP
/-- the garments of a line, the first i of them changed -/
def cg_map (f : (Nat → Int32) → Nat → Int32) (M : cl_M) (t i : Nat) : cl_M := fun x => if t + 9 ≤ x ∧ x < t + 9 + i then f (M x) else M x
theorem cg_map_s {f : (Nat → Int32) → Nat → Int32} {M : cl_M} {t i : Nat} : cl_row (cg_map f M t i) (t + 8 + 1 + i) (f (M (t + 8 + 1 + i))) = cg_map f M t (i + 1) := by
  funext x
  by_cases h : x = t + 8 + 1 + i
  · subst h
    rw [cl_row_s, cg_map, if_pos (by omega)]
  · rw [cl_row_n h, cg_map, cg_map]
    by_cases q : t + 9 ≤ x ∧ x < t + 9 + i
    · rw [if_pos q, if_pos (by omega)]
    · rw [if_neg q, if_neg (by omega)]
theorem cg_map_o {f : (Nat → Int32) → Nat → Int32} {M : cl_M} {t i x : Nat} (h : x < t + 9 ∨ t + 9 + i ≤ x) : cg_map f M t i x = M x := by rw [cg_map, if_neg (by omega)]
theorem cg_map_i {f : (Nat → Int32) → Nat → Int32} {M : cl_M} {t i k : Nat} (h : k < i) : cg_map f M t i (t + 9 + k) = f (M (t + 9 + k)) := by rw [cg_map, if_pos (by omega)]
theorem cw_C_cong {M M' : cl_M} {t : Nat} {w : Nat → Int32} (h : ∀ x, t ≤ x → x < t + 8 → M' x = M x) (C : cw_C M t w) : cw_C M' t w := by
  unfold cw_C
  rw [h t (by omega) (by omega), h (t + 1) (by omega) (by omega), h (t + 2) (by omega) (by omega), h (t + 3) (by omega) (by omega), h (t + 4) (by omega) (by omega), h (t + 5) (by omega) (by omega), h (t + 6) (by omega) (by omega)]
  exact C
/-- a minute of the class's line -/
def cg_minC (w : Nat → Int32) (m n : Nat) (M : cl_M) (t : Nat) : cl_M := cl_ms (cg_map (cg_st w m) M t n) t 2 (nI (m + 1))
theorem cg_passC {M : cl_M} {t n m : Nat} {w : Nat → Int32} (hn : n ≤ 10) (h3 : M t 3 = nI n) (h2 : M t 2 = nI m) (hm : m < 2 ^ 30) (F : cw_F w) (C : cw_C M (t + 1) w) :
    f_X2_passOne M t = some (cu_sm (fun k => cg_fl w m (M (t + 9 + k))) n, cg_minC w m n M t) := by
  have H : ∀ j i, i + j = n → ∀ k, j < k → f_X2_passOne_55 k (cg_map (cg_st w m) M t i) t (nI (cw_rain w m)) (nI (cw_wind w m)) (cw_sunny w m) (cw_smoky w m) (cu_sm (fun k => cg_fl w m (M (t + 9 + k))) i) (nI i) = some (cu_sm (fun k => cg_fl w m (M (t + 9 + k))) n, cg_minC w m n M t) := by
    intro j
    induction j with
    | zero =>
      intro i hi k hk
      obtain ⟨k, rfl, hk⟩ := cu_fuel hk
      have hi : i = n := by omega
      subst hi
      rw [f_X2_passOne_55, cg_map_o (by omega), h3, if_pos (nI_le (Nat.le_refl _) (by omega)), cl_let, h2, nI_1]
      rfl
    | succ j ih =>
      intro i hi k hk
      obtain ⟨k, rfl, hk⟩ := cu_fuel hk
      have ih := ih (i + 1) (by omega) k (by omega)
      have hc : cg_map (cg_st w m) M t i (t + 8 + 1 + i) = M (t + 8 + 1 + i) := cg_map_o (by omega)
      have hsf : cg_map (cg_st w m) M t i = cl_row (cg_map (cg_st w m) M t i) (t + 8 + 1 + i) (M (t + 8 + 1 + i)) := by rw [← hc, cu_rself]
      rw [f_X2_passOne_55, cg_map_o (x := t) (by omega), h3, if_neg (nI_ge (by omega) (by omega)), if_pos (cu_inb (by omega) (by omega)), cl_let, nI_clamp (by omega), hc]
      have h99 : M (t + 8 + 1 + i) = M (t + 9 + i) := rfl
      have hsm : ∀ G, M (t + 8 + 1 + i) = G → cu_sm (fun k => cg_fl w m (M (t + 9 + k))) (i + 1) = cu_sm (fun k => cg_fl w m (M (t + 9 + k))) i + cg_fl w m G := fun G e => by rw [← e, h99]; rfl
      generalize hG : M (t + 8 + 1 + i) = G at hsf
      have hsm := hsm G hG
      by_cases h6 : G 6 = 1
      · rw [if_pos h6, hsf]
        have hend : (f_X0_takeSmell (cl_row (cg_map (cg_st w m) M t i) (t + 8 + 1 + i) (if nI (cw_rain w m) ≤ 0 then cg_dry G (cw_sunny w m) (nI (cw_wind w m)) else cg_wet G (nI (cw_rain w m)))) (t + 8 + 1 + i) (cw_smoky w m) (nI (cw_wind w m))) = some (cl_row (cg_map (cg_st w m) M t i) (t + 8 + 1 + i) (cg_mid (nI (cw_rain w m)) (nI (cw_wind w m)) (cw_sunny w m) (cw_smoky w m) G)) := by
          rw [cg_smellC]
          rfl
        have hfin : f_X2_passOne_102 (f_X2_passOne_55 k) (cl_row (cg_map (cg_st w m) M t i) (t + 8 + 1 + i) (if nI (cw_rain w m) ≤ 0 then cg_dry G (cw_sunny w m) (nI (cw_wind w m)) else cg_wet G (nI (cw_rain w m)))) t (nI (cw_rain w m)) (nI (cw_wind w m)) (cw_sunny w m) (cw_smoky w m) (cu_sm (fun k => cg_fl w m (M (t + 9 + k))) i) (nI i) (t + 8 + 1 + i) = some (cu_sm (fun k => cg_fl w m (M (t + 9 + k))) n, cg_minC w m n M t) := by
          rw [f_X2_passOne_102, hend, Option.bind_some, cg_weightC, Option.bind_some, cg_holdC, Option.bind_some, cl_row_s]
          have hmap : cl_row (cg_map (cg_st w m) M t i) (t + 8 + 1 + i) (cg_st w m G) = cg_map (cg_st w m) M t (i + 1) := by rw [← hG]; exact cg_map_s
          by_cases z : cg_weight (cg_mid (nI (cw_rain w m)) (nI (cw_wind w m)) (cw_sunny w m) (cw_smoky w m) G) ≤ cg_hold (cg_mid (nI (cw_rain w m)) (nI (cw_wind w m)) (cw_sunny w m) (cw_smoky w m) G)
          · have e1 : cg_st w m G = cg_mid (nI (cw_rain w m)) (nI (cw_wind w m)) (cw_sunny w m) (cw_smoky w m) G := by rw [cg_st, cg_step, if_pos h6, if_pos z]
            have e2 : cg_fl w m G = 0 := by rw [cg_fl, cg_fell, if_pos h6, if_pos z]
            rw [if_pos z, ← e1, hmap, f_X2_passOne_131, cl_let, nI_1]
            rw [hsm, e2, Int32.add_zero] at ih
            exact ih
          · have e1 : cg_st w m G = cg_fall (cg_mid (nI (cw_rain w m)) (nI (cw_wind w m)) (cw_sunny w m) (cw_smoky w m) G) := by rw [cg_st, cg_step, if_pos h6, if_neg z]
            have e2 : cg_fl w m G = 1 := by rw [cg_fl, cg_fell, if_pos h6, if_neg z]
            rw [if_neg z, cg_fallC, Option.bind_some, ← e1, hmap, cl_let, f_X2_passOne_131, cl_let, nI_1]
            rw [hsm, e2] at ih
            exact ih
        by_cases q : nI (cw_rain w m) ≤ 0
        · rw [if_pos q] at hfin ⊢
          rw [cg_dryC, Option.bind_some]
          exact hfin
        · rw [if_neg q] at hfin ⊢
          rw [cg_wetC, Option.bind_some]
          exact hfin
      · have e1 : cg_st w m G = G := by rw [cg_st, cg_step, if_neg h6]
        have e2 : cg_fl w m G = 0 := by rw [cg_fl, cg_fell, if_neg h6]
        have hmap : cg_map (cg_st w m) M t i = cg_map (cg_st w m) M t (i + 1) := by
          rw [← cg_map_s, hG, e1, ← hsf]
        rw [if_neg h6, f_X2_passOne_131, cl_let, nI_1, hmap]
        rw [hsm, e2, Int32.add_zero] at ih
        exact ih
  rw [f_X2_passOne, h2, cw_rainC F C hm, Option.bind_some, cw_windC F C hm, Option.bind_some, cw_sunnyC F C hm, Option.bind_some, cw_smokyC F C hm, Option.bind_some]
  have h0 : cg_map (cg_st w m) M t 0 = M := by
    funext x
    rw [cg_map, if_neg (by omega)]
  have := H n 0 (by omega) cl_F (by unfold cl_F; omega)
  rw [h0] at this
  exact this
