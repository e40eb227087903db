/-! a script run, on both sides -/
def hi_H (B : Nat) (M N : cl_M) : Prop := ∃ h q, h ≤ 8 ∧ q < 8 ∧ M 42 2 = nI h ∧ N 237 9 = nI h ∧ M 42 1 = nI q ∧ ∀ j, j < h → ∃ g m, m ≤ B ∧ cg_L M (44 + 19 * ((q + 8 - h + j) % 8)) (fun k => N 242 (149 * j + k)) g m
theorem hi_H_f {B B' : Nat} {M N M' N' : cl_M} (H : hi_H B M N) (hB : B ≤ B') (hM : ∀ x, 42 ≤ x → x < 196 → M' x = M x) (h1 : N' 242 = N 242) (h2 : N' 237 9 = N 237 9) : hi_H B' M' N' := by
  obtain ⟨h, q, h8, q8, w1, w2, w3, w4⟩ := H
  refine ⟨h, q, h8, q8, by rw [hM 42 (by omega) (by omega), w1], by rw [h2, w2], by rw [hM 42 (by omega) (by omega), w3], fun i hi => ?_⟩
  obtain ⟨g, m, hm, L⟩ := w4 i hi
  have hlt : (q + 8 - h + i) % 8 < 8 := Nat.mod_lt _ (by omega)
  exact ⟨g, m, by omega, cg_L_cong (fun x a b => hM x (by omega) (by omega)) (fun k _ => by rw [h1]) L⟩
theorem cx_P_H {B : Nat} {M N : cl_M} (P : cx_P B M N) : hi_H B M N := P.2.2.2.1
theorem cx_P_mk {B B' : Nat} {M N M' N' : cl_M} {g m n : Nat} (P : cx_P B M N) (hB : B ≤ B') (hM : ∀ x, x = 0 ∨ (197 ≤ x ∧ x < 237) → M' x = M x) (hN : ∀ x, x = 243 ∨ x = 244 ∨ x = 246 → N' x = N x) (k18 : N' 237 18 = N 237 18) (hH : hi_H B' M' N') (hm : m ≤ B') (L : cg_L M' 4 (N' 239) g m) (hr : lx_B n M' N' ∧ M' 1 1 = nI n ∧ N' 237 1 = nI n) (hE : tx_E M' N') : cx_P B' M' N' := by
  obtain ⟨-, -, -, -, hs', ho⟩ := P
  refine ⟨⟨g, m, hm, L⟩, ⟨n, hr⟩, hE, hH, fun u hu => ?_, ?_⟩
  · rw [hM 197 (by omega), hN 244 (by omega)]
    obtain ⟨z1, z2⟩ := hs' u hu
    refine ⟨z1, ?_⟩
    rcases z2 with z2 | ⟨z2, g, m, hm, L⟩
    · exact Or.inl z2
    · exact Or.inr ⟨z2, g, m, by omega, cg_L_cong (fun x a b => hM x (by omega)) (fun k hk => by rw [hN 243 (by omega)]) L⟩
  · rw [hM 0 (by omega), k18, hM 198 (by omega), hN 246 (by omega)]
    exact ho
theorem hi_core {B : Nat} {M N : cl_M} {g m : Nat} {r : Nat → Int32} (L : cg_L M 4 r g m) (hm : m ≤ B) (hr : ∀ k, k < 149 → N 240 k = r k) (H : hi_H B M N) : ∃ M1 N1, f_X1_record M 42 4 = some M1 ∧ f_X6_pushAside N 237 = some N1 ∧ (∀ x, x < 42 ∨ 196 ≤ x → M1 x = M x) ∧ (∀ x, x ≠ 237 → x ≠ 242 → N1 x = N x) ∧ (∀ k, k ≠ 9 → N1 237 k = N 237 k) ∧ hi_H B M1 N1 := by
  obtain ⟨h, q, h8, q8, y1, y2, y3, y4⟩ := H
  obtain ⟨M1, z1, L1, f1⟩ := cp_line (t := 42 + 1 + 1 + 19 * q) L (by omega)
  obtain ⟨N1, p1, hn, hk, p4, p5, p6⟩ := hi_push h8 y2
  have hM : ∀ x, x ≠ 42 → (x < 44 + 19 * q ∨ 44 + 19 * q + 19 ≤ x) → (cl_ms (cl_ms M1 42 1 (nI ((q + 1) % 8))) 42 2 (nI (min (h + 1) 8))) x = M x := fun x a b => by rw [cp_ms a, cp_ms a, f1 x (by omega)]
  have c0 : M1 42 = M 42 := f1 42 (by omega)
  refine ⟨cl_ms (cl_ms M1 42 1 (nI ((q + 1) % 8))) 42 2 (nI (min (h + 1) 8)), N1, ?_, p1, fun x hx => hM x (by omega) (by omega), hn, hk, ?_⟩
  · rw [f_X1_record, y3, if_pos (cu_inb (by omega) (by omega)), nI_clamp (by omega), z1, Option.bind_some, cl_let, c0, y3, hi_q1 q q8, cl_let]
    have : (cl_ms M1 42 1 (nI ((q + 1) % 8))) 42 2 = nI h := by rw [cl_ms, cl_row_s, pk_un (by decide), c0, y1]
    rw [this, hi_h1 h h8]
  · have hq1 : (q + 1) % 8 < 8 := Nat.mod_lt _ (by omega)
    refine ⟨min (h + 1) 8, (q + 1) % 8, by omega, hq1, by rw [cl_ms, cl_row_s, pk_us], p4, by rw [cl_ms, cl_row_s, pk_un (by decide), cl_ms, cl_row_s, pk_us], fun j hj => ?_⟩
    by_cases hj7 : j < min h 7
    · obtain ⟨g, m, hm, L⟩ := y4 (j + (h - min h 7)) (by omega)
      have es : ((q + 1) % 8 + 8 - min (h + 1) 8 + j) % 8 = (q + 8 - h + (j + (h - min h 7))) % 8 := by omega
      have hlt : (q + 8 - h + (j + (h - min h 7))) % 8 < 8 := Nat.mod_lt _ (by omega)
      have hne : (q + 8 - h + (j + (h - min h 7))) % 8 ≠ q := by omega
      rw [es]
      exact ⟨g, m, hm, cg_L_cong (fun x a b => hM x (by omega) (by omega)) (fun k hk => p5 j k hj7 hk) L⟩
    · have hj' : j = min h 7 := by omega
      have es : ((q + 1) % 8 + 8 - min (h + 1) 8 + j) % 8 = q := by omega
      rw [es]
      refine ⟨g, m, hm, cg_L_cong (M := M1) (r := r) (fun x a b => by rw [cp_ms (by omega), cp_ms (by omega)]) (fun k hk => ?_) (by rw [show 44 + 19 * q = 42 + 1 + 1 + 19 * q by omega]; exact L1)⟩
      show N1 242 (149 * j + k) = r k
      rw [hj', p6 k hk, hr k hk]
theorem rs_copyN {N : cl_M} {v : Int32} : f_X6_runScript_35 cl_F N 237 v 0 = (f_X6_pushAside (cl_row N 240 (fa_fill (N 241) (N 240) 149)) 237).bind (fun M12 => some (v, M12)) := by
  have H : ∀ j i, i + j = 149 → ∀ k, j < k → f_X6_runScript_35 k (cl_row N 240 (fa_fill (N 241) (N 240) i)) 237 v (nI i) = (f_X6_pushAside (cl_row N 240 (fa_fill (N 241) (N 240) 149)) 237).bind (fun M12 => some (v, M12)) := by
    intro j
    induction j with
    | zero =>
      intro i hi k hk
      obtain ⟨k, rfl, hk⟩ := cu_fuel hk
      have hi : i = 149 := by omega
      subst hi
      rw [f_X6_runScript_35, if_pos (by decide)]
    | succ j ih =>
      intro i hi k hk
      obtain ⟨k, rfl, hk⟩ := cu_fuel hk
      have ih := ih (i + 1) (by omega) k (by omega)
      rw [f_X6_runScript_35, if_neg (show ¬ (149 : Int32) ≤ nI i from nI_ge (b := 149) (by omega) (by omega)), if_pos (cu_inb (by omega) (by omega)), if_pos (cu_inb (by omega) (by omega)), nI_clamp (by omega), cl_let, cl_let, nI_1]
      rw [show 237 + 3 = 240 from rfl, show 237 + 4 = 241 from rfl, cu_tt, cl_row_n (show 241 ≠ 240 by decide), fa_fill_succ]
      exact ih
  have := H 149 0 rfl cl_F (by decide)
  rw [fa_fill_0, cu_rself] at this
  exact this
def rs_Y (N : cl_M) : Option (Int32 × cl_M) := (f_X6_startTrial N 237).bind (fun M2 => (f_X6_startText M2 237).bind (fun M4 => cl_b2 (f_X6_commandsText M4 237) (fun v6 M7 => cl_let (cl_ms M7 237 1 0) (fun M9 => if 0 ≤ v6 then f_X6_runScript_35 cl_F M9 237 v6 0 else cl_b2 (f_X6_putBack M9 237 (-1)) (fun v18 M19 => some (v18, M19))))))
theorem rs_do {B : Nat} {M N : cl_M} (hB : B + 8200 < 2 ^ 30) (P : cx_P B M N) : ∃ v M2 N2, f_X5_runScript M 0 = some (v, M2) ∧ rs_Y N = some (v, N2) ∧ (∀ c, 237 ≤ c → M2 c = M c) ∧ (∀ c, c < 237 → N2 c = N c) ∧ cx_P (B + 8200) M2 N2 := by
  have P' := P
  obtain ⟨⟨g, m, hm, L⟩, ⟨n, hb, r1, q1⟩, hE, hH, hs', ho⟩ := P
  obtain ⟨M1, z1, L1, f1⟩ := cp_line (t := 23) L (by omega)
  obtain ⟨N2, hN2⟩ : ∃ z, z = cl_row N 241 (fa_fill (N 239) (N 241) 149) := ⟨_, rfl⟩
  have n2 : ∀ x, x ≠ 241 → N2 x = N x := fun x hx => by rw [hN2, cl_row_n hx]
  obtain ⟨M3, N4, e3, e4, P3, f3⟩ := st_begin (M := M1) (N := N2) (n := n) (lx_B_cong (f1 2 (by omega)) (n2 238 (by decide)) hb) (by rw [f1 1 (by omega), r1]) (by rw [n2 237 (by decide), q1])
  have L3 : cg_L M3 23 (N4 239) g m := ts_L f3 (by omega) (by rw [n2 239 (by decide)]; exact L1)
  have o := ts_all (t := 23) (b := B + 8200) (by omega) (by omega) P3 L3 (by omega) hB
  have eY : rs_Y N = cl_b2 (f_X6_commandsText N4 237) (fun v6 M7 => cl_let (cl_ms M7 237 1 0) (fun M9 => if 0 ≤ v6 then f_X6_runScript_35 cl_F M9 237 v6 0 else cl_b2 (f_X6_putBack M9 237 (-1)) (fun v18 M19 => some (v18, M19)))) := by
    rw [rs_Y, cp_start, Option.bind_some, ← hN2, e4, Option.bind_some]
  have eC : f_X5_runScript M 0 = cl_b2 (f_X3_readCommands M3 1 23) (fun v5 M6 => (f_X3_clear M6 1).bind (fun M8 => if v5 = (-1) then some ((-1), M8) else (f_X1_record M8 42 4).bind (fun M11 => (f_X2_copyFrom M11 4 23).bind (fun M13 => some (v5, M13))))) := by
    rw [f_X5_runScript, show 0 + 23 = 23 from rfl, show 0 + 4 = 4 from rfl, show 0 + 1 = 1 from rfl, show 0 + 42 = 42 from rfl, z1, Option.bind_some, e3, Option.bind_some]
  rw [eY, eC]
  rcases o with ⟨M6, N7, a1, a2, aE, af⟩ | ⟨M6, N7, d, g', m', hd, a1, a2, aE, L6, hm', af⟩
  all_goals
    have gM : ∀ x, x ≠ 1 → x ≠ 3 → (x < 23 ∨ 42 ≤ x) → M6 x = M x := fun x a b c => by rw [af.1 x a b (by omega), f3.1 x a b, f1 x c]
    have gN : ∀ x, x ≠ 237 → x ≠ 239 → x ≠ 241 → x ≠ 245 → N7 x = N x := fun x a b c d => by rw [af.2.1 x a b d, f3.2.1 x a d, n2 x c]
    have g239 : N4 239 = N 239 := by rw [f3.2.1 239 (by decide) (by decide), n2 239 (by decide)]
    have g241 : ∀ k, k < 149 → N7 241 k = N 239 k := fun k hk => by rw [af.2.1 241 (by decide) (by decide) (by decide), f3.2.1 241 (by decide) (by decide), hN2, cl_row_s, fa_fill_in hk]
    have gk : ∀ k, k ≠ 2 → k ≠ 3 → (k < 14 ∨ 17 < k) → N7 237 k = N 237 k := fun k a b c => by rw [af.2.2.2 k a b c, f3.2.2.2.2 k a b c, n2 237 (by decide)]
    obtain ⟨M8, hM8⟩ : ∃ z, z = cl_ms M6 1 1 0 := ⟨_, rfl⟩
    obtain ⟨N9, hN9⟩ : ∃ z, z = cl_ms N7 237 1 0 := ⟨_, rfl⟩
    have iM : ∀ x, x ≠ 1 → M8 x = M6 x := fun x hx => by rw [hM8, cp_ms hx]
    have iN : ∀ x, x ≠ 237 → N9 x = N7 x := fun x hx => by rw [hN9, cp_ms hx]
    have ik : ∀ k, k ≠ 1 → N9 237 k = N7 237 k := fun k hk => by rw [hN9, cl_ms, cl_row_s, pk_un hk]
    have jk : ∀ k, k ≠ 1 → M8 1 k = M6 1 k := fun k hk => by rw [hM8, cl_ms, cl_row_s, pk_un hk]
    have i0 : N9 237 1 = nI 0 := by rw [hN9, cl_ms, cl_row_s, pk_us]; rfl
    have j0 : M8 1 1 = nI 0 := by rw [hM8, cl_ms, cl_row_s, pk_us]; rfl
    rw [a1, a2, cu_b2, cu_b2, f_X3_clear, cl_let, Option.bind_some, cl_let, ← hM8, ← hN9]
  · rw [if_pos rfl, if_neg (show ¬ (0 : Int32) ≤ -1 by decide), cp_back, cu_b2]
    obtain ⟨N10, hN10⟩ : ∃ z, z = cl_row N9 239 (fa_fill (N9 241) (N9 239) 149) := ⟨_, rfl⟩
    rw [← hN10]
    have kN : ∀ x, x ≠ 239 → N10 x = N9 x := fun x hx => by rw [hN10, cl_row_n hx]
    have k239 : ∀ k, k < 149 → N10 239 k = N 239 k := fun k hk => by rw [hN10, cl_row_s, fa_fill_in hk, iN 241 (by decide), g241 k hk]
    refine ⟨-1, M8, N10, rfl, rfl, fun c hc => by rw [iM c (by omega), gM c (by omega) (by omega) (by omega)], fun c hc => by rw [kN c (by omega), iN c (by omega), gN c (by omega) (by omega) (by omega) (by omega)], ?_⟩
    refine cx_P_mk (g := g) (m := m) (n := 0) P' (by omega) (fun x hx => by rw [iM x (by omega), gM x (by omega) (by omega) (by omega)]) (fun x hx => by rw [kN x (by omega), iN x (by omega), gN x (by omega) (by omega) (by omega) (by omega)]) (by rw [kN 237 (by decide), ik 18 (by decide), gk 18 (by decide) (by decide) (by omega)]) (hi_H_f hH (by omega) (fun x a b => by rw [iM x (by omega), gM x (by omega) (by omega) (by omega)]) (by rw [kN 242 (by decide), iN 242 (by decide), gN 242 (by decide) (by decide) (by decide) (by decide)]) (by rw [kN 237 (by decide), ik 9 (by decide), gk 9 (by decide) (by decide) (by omega)])) (by omega) (cg_L_cong (fun x a b => by rw [iM x (by omega), gM x (by omega) (by omega) (by omega)]) k239 L) ⟨⟨by omega, fun j hj => absurd hj (by omega)⟩, j0, by rw [kN 237 (by decide), i0]⟩ ⟨by rw [jk 8 (by decide), kN 237 (by decide), ik 2 (by decide), aE.1], by rw [jk 9 (by decide), kN 237 (by decide), ik 3 (by decide), aE.2]⟩
  · have hd1 : ¬ nI d = -1 := cu_m1 (by omega)
    have hd0 : (0 : Int32) ≤ nI d := (nI_leI (a := 0) (b := d) (by omega) (by omega)).mpr (by omega)
    rw [if_neg hd1, if_pos hd0, rs_copyN]
    obtain ⟨N10, hN10⟩ : ∃ z, z = cl_row N9 240 (fa_fill (N9 241) (N9 240) 149) := ⟨_, rfl⟩
    rw [← hN10]
    have kN : ∀ x, x ≠ 240 → N10 x = N9 x := fun x hx => by rw [hN10, cl_row_n hx]
    have k240 : ∀ k, k < 149 → N10 240 k = N 239 k := fun k hk => by rw [hN10, cl_row_s, fa_fill_in hk, iN 241 (by decide), g241 k hk]
    have L8 : cg_L M8 4 (N 239) g m := cg_L_cong (fun x a b => by rw [iM x (by omega), gM x (by omega) (by omega) (by omega)]) (fun _ _ => rfl) L
    have H8 : hi_H B M8 N10 := hi_H_f hH (by omega) (fun x a b => by rw [iM x (by omega), gM x (by omega) (by omega) (by omega)]) (by rw [kN 242 (by decide), iN 242 (by decide), gN 242 (by decide) (by decide) (by decide) (by decide)]) (by rw [kN 237 (by decide), ik 9 (by decide), gk 9 (by decide) (by decide) (by omega)])
    obtain ⟨M11, N11, c1, c2, c3, c4, c5, H11⟩ := hi_core L8 hm k240 H8
    have L11 : cg_L M11 23 (N7 239) g' m' := cg_L_cong (fun x a b => by rw [c3 x (by omega), iM x (by omega)]) (fun _ _ => rfl) L6
    obtain ⟨M13, y1, L13, f13⟩ := cp_line (t := 4) L11 (by omega)
    have mM : ∀ x, x ≠ 1 → x ≠ 3 → (x < 4 ∨ 196 ≤ x) → M13 x = M x := fun x a b c => by rw [f13 x (by omega), c3 x (by omega), iM x a, gM x a b (by omega)]
    have mN : ∀ x, x ≠ 237 → x ≠ 239 → x ≠ 240 → x ≠ 241 → x ≠ 242 → x ≠ 245 → N11 x = N x := fun x a b c d e f => by rw [c4 x a e, kN x c, iN x a, gN x a b d f]
    have m1 : M13 1 = M8 1 := by rw [f13 1 (by omega), c3 1 (by omega)]
    have n1 : ∀ k, k ≠ 1 → k ≠ 9 → N11 237 k = N7 237 k := fun k a b => by rw [c5 k b, kN 237 (by decide), ik k a]
    refine ⟨nI d, M13, N11, by rw [c1, Option.bind_some, y1, Option.bind_some], by rw [c2, Option.bind_some], fun c hc => mM c (by omega) (by omega) (by omega), fun c hc => mN c (by omega) (by omega) (by omega) (by omega) (by omega) (by omega), ?_⟩
    refine cx_P_mk (g := g') (m := m') (n := 0) P' (by omega) (fun x hx => mM x (by omega) (by omega) (by omega)) (fun x hx => mN x (by omega) (by omega) (by omega) (by omega) (by omega) (by omega)) (by rw [n1 18 (by decide) (by decide), gk 18 (by decide) (by decide) (by omega)]) (hi_H_f H11 (by omega) (fun x a b => f13 x (by omega)) rfl rfl) hm' (cg_L_cong (fun _ _ _ => rfl) (fun k _ => by rw [c4 239 (by decide) (by decide), kN 239 (by decide), iN 239 (by decide)]) L13) ⟨⟨by omega, fun j hj => absurd hj (by omega)⟩, by rw [m1, j0], by rw [c5 1 (by decide), kN 237 (by decide), i0]⟩ ⟨by rw [m1, jk 8 (by decide), n1 2 (by decide) (by decide), aE.1], by rw [m1, jk 9 (by decide), n1 3 (by decide) (by decide), aE.2]⟩
theorem an_runScript {B : Nat} {M : cl_M} (R : cx_R B M) (hB : B + 8200 < 2 ^ 30) : cx_eq (B + 8200) (f_X5_runScript M 0) (fun N => f_X6_runScript N 237) :=
  cx_eq_c rs_Y R (fun N P _ => rs_do hB P) fun N _ => by
    show f_X6_runScript N 237 = _
    rw [f_X6_runScript, cl_let, rs_Y]
