/-! a setup loaded, on both sides -/
theorem lo_flags {M : cl_M} : f_X5_loadSetup_68 cl_F M 0 0 = some (M 4 3, cl_ms (cl_ms M 197 0 0) 197 1 0) := by
  obtain ⟨k, hk⟩ : ∃ k, cl_F = k + 3 := ⟨cl_F - 3, by decide⟩
  rw [hk, f_X5_loadSetup_68, if_neg (by decide), if_pos (by decide), cl_let, cl_let, f_X5_loadSetup_68, if_neg (by decide), if_pos (by decide), cl_let, cl_let, f_X5_loadSetup_68, if_pos (by decide), hi_nar0, show 0 + 197 = 197 from rfl, show 0 + 4 = 4 from rfl]
  rw [cp_ms (by decide), cp_ms (by decide)]
  rfl
def lo_Z (N : cl_M) : cl_M := cl_row N 239 (fa_fill (fun _ => 0) (N 239) 149)
def lo_K (N : cl_M) : Option (Int32 × cl_M) := (f_X6_startText N 237).bind (fun M5 => cl_b2 (f_X6_setupText M5 237) (fun v7 M8 => cl_let (cl_ms M8 237 1 0) (fun M10 => if v7 = 0 then cl_b2 (f_X6_putBack M10 237 (-1)) (fun v15 M16 => some (v15, M16)) else cl_let (cl_ms M10 237 9 0) (fun M12 => cl_let (cl_ms M12 (237 + 7) 0 (vp_nar .boolean 0)) (fun M13 => cl_let (cl_ms M13 (237 + 7) 1 (vp_nar .boolean 0)) (fun M14 => some (M14 (237 + 2) 7, M14)))))))
theorem lo_zero {N : cl_M} : f_X6_loadSetup_11 cl_F N 237 0 = lo_K (lo_Z N) := by
  have H : ∀ j i, i + j = 149 → ∀ k, j < k → f_X6_loadSetup_11 k (cl_row N 239 (fa_fill (fun _ => 0) (N 239) i)) 237 (nI i) = lo_K (lo_Z N) := by
    intro j
    induction j with
    | zero =>
      intro i hi k hk
      obtain ⟨k, rfl, hk⟩ := cu_fuel hk
      have hi : i = 149 := by omega
      subst hi
      rw [f_X6_loadSetup_11, if_pos (by decide), lo_K, lo_Z]
    | succ j ih =>
      intro i hi k hk
      obtain ⟨k, rfl, hk⟩ := cu_fuel hk
      have ih := ih (i + 1) (by omega) k (by omega)
      rw [f_X6_loadSetup_11, if_neg (show ¬ (149 : Int32) ≤ nI i from nI_ge (b := 149) (by omega) (by omega)), if_pos (cu_inb (by omega) (by omega)), nI_clamp (by omega), cl_let, cl_let, nI_1]
      rw [show 237 + 2 = 239 from rfl, cu_tt, fa_fill_succ (fun _ => 0)]
      exact ih
  have := H 149 0 rfl cl_F (by decide)
  rw [fa_fill_0, cu_rself] at this
  exact this
theorem lo_bind {α β γ : Type} {x : Option α} {f : α → Option (β × cl_M)} {h : β → cl_M → Option γ} : (x.bind fun a => cl_b2 (f a) h) = cl_b2 (x.bind f) h := by
  cases x with
  | none => rfl
  | some a => rfl
def lo_Y (N : cl_M) : Option (Int32 × cl_M) := (f_X6_startTrial N 237).bind (fun M2 => f_X6_loadSetup_11 cl_F M2 237 0)
theorem lo_do {B : Nat} {M N : cl_M} (hB : B + 8200 < 2 ^ 30) (P : cx_P B M N) : ∃ v M2 N2, f_X5_loadSetup M 0 = some (v, M2) ∧ lo_Y N = some (v, N2) ∧ (∀ c, 237 ≤ c → M2 c = M c) ∧ (∀ c, c < 237 → N2 c = N c) ∧ cx_P (B + 8200) M2 N2 := by
  have P' := P
  obtain ⟨⟨g, m, hm, L⟩, ⟨n, hb, r1, q1⟩, hE, hH, hs', ho⟩ := P
  obtain ⟨N2, hN2⟩ : ∃ z, z = cl_row N 241 (fa_fill (N 239) (N 241) 149) := ⟨_, rfl⟩
  obtain ⟨N3, hN3⟩ : ∃ z, z = lo_Z N2 := ⟨_, rfl⟩
  have n2 : ∀ x, x ≠ 241 → N2 x = N x := fun x hx => by rw [hN2, cl_row_n hx]
  have n3 : ∀ x, x ≠ 239 → N3 x = N2 x := fun x hx => by rw [hN3, lo_Z, cl_row_n hx]
  have n30 : ∀ k, k < 149 → N3 239 k = 0 := fun k hk => by rw [hN3, lo_Z, cl_row_s, fa_fill_in hk]
  have o := su_setup (t := 23) (b := B + 8200) (M := M) (N := N3) (n := n) (by omega) (by omega) (by omega) hB (lx_B_cong rfl (by rw [n3 238 (by decide), n2 238 (by decide)]) hb) r1 (by rw [n3 237 (by decide), n2 237 (by decide), q1]) n30
  have eY : lo_Y N = cl_b2 ((f_X6_startText N3 237).bind (fun M5 => f_X6_setupText M5 237)) (fun v7 M8 => cl_let (cl_ms M8 237 1 0) (fun M10 => if v7 = 0 then cl_b2 (f_X6_putBack M10 237 (-1)) (fun v15 M16 => some (v15, M16)) else cl_let (cl_ms M10 237 9 0) (fun M12 => cl_let (cl_ms M12 (237 + 7) 0 (vp_nar .boolean 0)) (fun M13 => cl_let (cl_ms M13 (237 + 7) 1 (vp_nar .boolean 0)) (fun M14 => some (M14 (237 + 2) 7, M14)))))) := by
    rw [lo_Y, cp_start, Option.bind_some, ← hN2, lo_zero, ← hN3, lo_K, lo_bind]
  have eC : f_X5_loadSetup M 0 = cl_b2 (f_X3_readHead M 1 23) (fun v1 M2 => if v1 = 0 then f_X5_loadSetup_34 M2 0 0 else cl_b2 (f_X3_readCommands M2 1 23) (fun v16 M17 => if v16 = (-1) then f_X5_loadSetup_34 M17 0 0 else f_X5_loadSetup_34 M17 0 1)) := rfl
  rw [eY, eC]
  have bad : ∀ M6 N7 : cl_M, tx_E M6 N7 → ts_f 23 M M6 N3 N7 → ∃ v M2 N2', f_X5_loadSetup_34 M6 0 0 = some (v, M2) ∧ cl_b2 (some ((0 : Int32), N7)) (fun v7 M8 => cl_let (cl_ms M8 237 1 0) (fun M10 => if v7 = 0 then cl_b2 (f_X6_putBack M10 237 (-1)) (fun v15 M16 => some (v15, M16)) else cl_let (cl_ms M10 237 9 0) (fun M12 => cl_let (cl_ms M12 (237 + 7) 0 (vp_nar .boolean 0)) (fun M13 => cl_let (cl_ms M13 (237 + 7) 1 (vp_nar .boolean 0)) (fun M14 => some (M14 (237 + 2) 7, M14)))))) = some (v, N2') ∧ (∀ c, 237 ≤ c → M2 c = M c) ∧ (∀ c, c < 237 → N2' c = N c) ∧ cx_P (B + 8200) M2 N2' := by
    intro M6 N7 aE af
    have gM : ∀ x, x ≠ 1 → x ≠ 3 → (x < 23 ∨ 42 ≤ x) → M6 x = M x := fun x a b c => af.1 x a b (by omega)
    have gN : ∀ x, x ≠ 237 → x ≠ 239 → x ≠ 241 → x ≠ 245 → N7 x = N x := fun x a b c d => by rw [af.2.1 x a b d, n3 x b, n2 x c]
    have g241 : ∀ k, k < 149 → N7 241 k = N 239 k := fun k hk => by rw [af.2.1 241 (by decide) (by decide) (by decide), n3 241 (by decide), hN2, cl_row_s, fa_fill_in hk]
    have gk : ∀ k, k ≠ 2 → k ≠ 3 → (k < 14 ∨ 17 < k) → N7 237 k = N 237 k := fun k a b c => by rw [af.2.2.2 k a b c, n3 237 (by decide), n2 237 (by decide)]
    obtain ⟨M8, hM8⟩ : ∃ z, z = cl_ms M6 1 1 0 := ⟨_, rfl⟩
    obtain ⟨N9, hN9⟩ : ∃ z, z = cl_ms N7 237 1 0 := ⟨_, rfl⟩
    have iM : ∀ x, x ≠ 1 → M8 x = M6 x := fun x hx => by rw [hM8, cp_ms hx]
    have iN : ∀ x, x ≠ 237 → N9 x = N7 x := fun x hx => by rw [hN9, cp_ms hx]
    have ik : ∀ k, k ≠ 1 → N9 237 k = N7 237 k := fun k hk => by rw [hN9, cl_ms, cl_row_s, pk_un hk]
    have jk : ∀ k, k ≠ 1 → M8 1 k = M6 1 k := fun k hk => by rw [hM8, cl_ms, cl_row_s, pk_un hk]
    have i0 : N9 237 1 = nI 0 := by rw [hN9, cl_ms, cl_row_s, pk_us]; rfl
    have j0 : M8 1 1 = nI 0 := by rw [hM8, cl_ms, cl_row_s, pk_us]; rfl
    rw [cu_b2, f_X5_loadSetup_34, show 0 + 1 = 1 from rfl, f_X3_clear, cl_let, Option.bind_some, if_pos rfl, cl_let, if_pos rfl, ← hM8, ← hN9, cp_back, cu_b2]
    obtain ⟨N10, hN10⟩ : ∃ z, z = cl_row N9 239 (fa_fill (N9 241) (N9 239) 149) := ⟨_, rfl⟩
    rw [← hN10]
    have kN : ∀ x, x ≠ 239 → N10 x = N9 x := fun x hx => by rw [hN10, cl_row_n hx]
    have k239 : ∀ k, k < 149 → N10 239 k = N 239 k := fun k hk => by rw [hN10, cl_row_s, fa_fill_in hk, iN 241 (by decide), g241 k hk]
    refine ⟨-1, M8, N10, rfl, rfl, fun c hc => by rw [iM c (by omega), gM c (by omega) (by omega) (by omega)], fun c hc => by rw [kN c (by omega), iN c (by omega), gN c (by omega) (by omega) (by omega) (by omega)], ?_⟩
    exact cx_P_mk (g := g) (m := m) (n := 0) P' (by omega) (fun x hx => by rw [iM x (by omega), gM x (by omega) (by omega) (by omega)]) (fun x hx => by rw [kN x (by omega), iN x (by omega), gN x (by omega) (by omega) (by omega) (by omega)]) (by rw [kN 237 (by decide), ik 18 (by decide), gk 18 (by decide) (by decide) (by omega)]) (hi_H_f hH (by omega) (fun x a b => by rw [iM x (by omega), gM x (by omega) (by omega) (by omega)]) (by rw [kN 242 (by decide), iN 242 (by decide), gN 242 (by decide) (by decide) (by decide) (by decide)]) (by rw [kN 237 (by decide), ik 9 (by decide), gk 9 (by decide) (by decide) (by omega)])) (by omega) (cg_L_cong (fun x a b => by rw [iM x (by omega), gM x (by omega) (by omega) (by omega)]) k239 L) ⟨⟨by omega, fun j hj => absurd hj (by omega)⟩, j0, by rw [kN 237 (by decide), i0]⟩ ⟨by rw [jk 8 (by decide), kN 237 (by decide), ik 2 (by decide), aE.1], by rw [jk 9 (by decide), kN 237 (by decide), ik 3 (by decide), aE.2]⟩
  rcases o with ⟨M6, N7, a1, a2, aE, af⟩ | ⟨M5, M6, N7, a1, a3, a2, aE, af⟩ | ⟨M5, M6, N7, d, g', m', a1, a3, hd, a2, aE, L6, hm', af⟩
  · rw [a1, a2, cu_b2, if_pos rfl]
    exact bad M6 N7 aE af
  · have a3 : f_X3_readCommands M5 1 23 = some (-1, M6) := a3
    rw [a1, a2, cu_b2, if_neg (by decide), a3, cu_b2, if_pos rfl]
    exact bad M6 N7 aE af
  · have a3 : f_X3_readCommands M5 1 23 = some (nI d, M6) := a3
    have hd1 : ¬ nI d = -1 := cu_m1 (by omega)
    rw [a1, a2, cu_b2, if_neg (by decide), a3, cu_b2, if_neg hd1, cu_b2]
    have gM : ∀ x, x ≠ 1 → x ≠ 3 → (x < 23 ∨ 42 ≤ x) → M6 x = M x := fun x a b c => af.1 x a b (by omega)
    have gN : ∀ x, x ≠ 237 → x ≠ 239 → x ≠ 241 → x ≠ 245 → N7 x = N x := fun x a b c d => by rw [af.2.1 x a b d, n3 x b, n2 x c]
    have gk : ∀ k, k ≠ 2 → k ≠ 3 → (k < 14 ∨ 17 < k) → N7 237 k = N 237 k := fun k a b c => by rw [af.2.2.2 k a b c, n3 237 (by decide), n2 237 (by decide)]
    obtain ⟨M8, hM8⟩ : ∃ z, z = cl_ms M6 1 1 0 := ⟨_, rfl⟩
    have iM : ∀ x, x ≠ 1 → M8 x = M6 x := fun x hx => by rw [hM8, cp_ms hx]
    have jk : ∀ k, k ≠ 1 → M8 1 k = M6 1 k := fun k hk => by rw [hM8, cl_ms, cl_row_s, pk_un hk]
    have j0 : M8 1 1 = nI 0 := by rw [hM8, cl_ms, cl_row_s, pk_us]; rfl
    have L8 : cg_L M8 23 (N7 239) g' m' := cg_L_cong (fun x a b => by rw [iM x (by omega)]) (fun _ _ => rfl) L6
    obtain ⟨M11, y1, L11, f11⟩ := cp_line (t := 4) L8 (by omega)
    obtain ⟨M12, hM12⟩ : ∃ z, z = cl_ms (cl_ms (cl_ms M11 42 2 0) 197 0 0) 197 1 0 := ⟨_, rfl⟩
    obtain ⟨N9, hN9⟩ : ∃ z, z = cl_ms (cl_ms (cl_ms (cl_ms N7 237 1 0) 237 9 0) 244 0 0) 244 1 0 := ⟨_, rfl⟩
    have mM : ∀ x, x ≠ 42 → x ≠ 197 → M12 x = M11 x := fun x a b => by rw [hM12, cp_ms b, cp_ms b, cp_ms a]
    have mX : ∀ x, x ≠ 1 → x ≠ 3 → x ≠ 42 → x ≠ 197 → (x < 4 ∨ 42 ≤ x) → M12 x = M x := fun x a b c d e => by rw [mM x c d, f11 x (by omega), iM x a, gM x a b (by omega)]
    have m1 : M12 1 = M8 1 := by rw [mM 1 (by decide) (by decide), f11 1 (by omega)]
    have m42 : M12 42 2 = nI 0 := by rw [hM12, cp_ms (by decide), cp_ms (by decide), cl_ms, cl_row_s, pk_us]; rfl
    have m421 : M12 42 1 = M 42 1 := by rw [hM12, cp_ms (by decide), cp_ms (by decide), cl_ms, cl_row_s, pk_un (by decide), f11 42 (by omega), iM 42 (by decide), gM 42 (by decide) (by decide) (by omega)]
    have nN : ∀ x, x ≠ 237 → x ≠ 244 → N9 x = N7 x := fun x a b => by rw [hN9, cp_ms b, cp_ms b, cp_ms a, cp_ms a]
    have nk : ∀ k, k ≠ 1 → k ≠ 9 → N9 237 k = N7 237 k := fun k a b => by rw [hN9, cp_ms (by decide), cp_ms (by decide), cl_ms, cl_row_s, pk_un b, cl_ms, cl_row_s, pk_un a]
    have n91 : N9 237 1 = nI 0 := by rw [hN9, cp_ms (by decide), cp_ms (by decide), cl_ms, cl_row_s, pk_un (by decide), cl_ms, cl_row_s, pk_us]; rfl
    have n99 : N9 237 9 = nI 0 := by rw [hN9, cp_ms (by decide), cp_ms (by decide), cl_ms, cl_row_s, pk_us]; rfl
    obtain ⟨h, q, h8, q8, w1, w2, w3, w4⟩ := hH
    have s0 : ∀ u, u < 2 → M12 197 u = 0 ∧ N9 244 u = 0 := fun u hu => by
      have : u = 0 ∨ u = 1 := by omega
      rcases this with rfl | rfl
      · exact ⟨by rw [hM12, cl_ms, cl_row_s, pk_un (by decide), cl_ms, cl_row_s, pk_us], by rw [hN9, cl_ms, cl_row_s, pk_un (by decide), cl_ms, cl_row_s, pk_us]⟩
      · exact ⟨by rw [hM12, cl_ms, cl_row_s, pk_us], by rw [hN9, cl_ms, cl_row_s, pk_us]⟩
    have c3 : M11 4 3 = N7 239 7 := by rw [L11.1.2.1, L11.1.2.2.1]
    refine ⟨N7 239 7, M12, N9, ?_, ?_, fun c hc => mX c (by omega) (by omega) (by omega) (by omega) (by omega), fun c hc => by rw [nN c (by omega) (by omega), gN c (by omega) (by omega) (by omega) (by omega)], ?_⟩
    · rw [f_X5_loadSetup_34, show 0 + 1 = 1 from rfl, show 0 + 4 = 4 from rfl, show 0 + 23 = 23 from rfl, show 0 + 42 = 42 from rfl, f_X3_clear, cl_let, Option.bind_some, if_neg (by decide), ← hM8, y1, Option.bind_some, f_X1_clear, cl_let, Option.bind_some, lo_flags, cp_ms (by decide), ← hM12, c3]
    · rw [cl_let, if_neg (by decide), cl_let, cl_let, cl_let, hi_nar0, show 237 + 7 = 244 from rfl, show 237 + 2 = 239 from rfl, ← hN9, nN 239 (by decide) (by decide)]
    · refine ⟨⟨g', m', hm', cg_L_cong (fun x a b => mM x (by omega) (by omega)) (fun k _ => by rw [nN 239 (by decide) (by decide)]) L11⟩, ⟨0, ⟨by omega, fun j hj => absurd hj (by omega)⟩, by rw [m1, j0], n91⟩, ⟨by rw [m1, jk 8 (by decide), nk 2 (by decide) (by decide), aE.1], by rw [m1, jk 9 (by decide), nk 3 (by decide) (by decide), aE.2]⟩, ⟨0, q, by omega, q8, m42, n99, by rw [m421, w3], fun i hi => absurd hi (by omega)⟩, fun u hu => ⟨(s0 u hu).1.trans (s0 u hu).2.symm, Or.inl (s0 u hu).1⟩, ?_⟩
      rw [mX 0 (by omega) (by omega) (by omega) (by omega) (by omega), nk 18 (by decide) (by decide), gk 18 (by decide) (by decide) (by omega), mX 198 (by omega) (by omega) (by omega) (by omega) (by omega), nN 246 (by decide) (by decide), gN 246 (by decide) (by decide) (by decide) (by decide)]
      exact ho
theorem an_loadSetup {B : Nat} {M : cl_M} (R : cx_R B M) (hB : B + 8200 < 2 ^ 30) : cx_eq (B + 8200) (f_X5_loadSetup M 0) (fun N => f_X6_loadSetup N 237) :=
  cx_eq_c lo_Y R (fun N P _ => lo_do hB P) fun N _ => by
    show f_X6_loadSetup N 237 = _
    rw [f_X6_loadSetup, cl_let, lo_Y]
