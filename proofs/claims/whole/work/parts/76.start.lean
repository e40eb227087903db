/-! where the law's loop starts: both sides alike -/
theorem fi_start {Ma N : cl_M} (hA : f_X3_appendText fi_M0 1 22 = some Ma) (hB : lx_B (cl_sl 22) Ma N) (q1 : N 237 1 = nI (cl_sl 22)) (k18 : N 237 18 = 0) :
    ∃ Mb Mc N1 v w, f_X3_readHead Ma 1 4 = some (1, Mb) ∧ f_X3_readCommands Mb 1 4 = some (v, Mc) ∧ f_X6_loadSetup N 237 = some (w, N1) ∧ (∀ x, 23 ≤ x → Mc x = fi_M0 x) ∧ (∀ x, x < 237 ∨ x = 247 → N1 x = N x) ∧ cx_P 8200 (cl_ms Mc 1 1 0) N1 := by
  obtain ⟨Ma', hA', m11, -, mx, mk⟩ := fi_text (M := fi_M0) (by decide)
  have he : Ma' = Ma := Option.some.inj (hA'.symm.trans hA)
  rw [he] at m11 mx mk
  have ok := fi_ok
  rw [hA, Option.bind_some, fi_run] at ok
  obtain ⟨N0, hN0⟩ : ∃ z, z = cl_ms N 237 4 0 := ⟨_, rfl⟩
  obtain ⟨N2, hN2⟩ : ∃ z, z = cl_row N0 241 (fa_fill (N0 239) (N0 241) 149) := ⟨_, rfl⟩
  obtain ⟨N3, hN3⟩ : ∃ z, z = lo_Z N2 := ⟨_, rfl⟩
  have n0 : ∀ x, x ≠ 237 → N0 x = N x := fun x hx => by rw [hN0, cp_ms hx]
  have n0k : ∀ k, k ≠ 4 → N0 237 k = N 237 k := fun k hk => by rw [hN0, cl_ms, cl_row_s, pk_un hk]
  have n2 : ∀ x, x ≠ 241 → N2 x = N0 x := fun x hx => by rw [hN2, cl_row_n hx]
  have n3 : ∀ x, x ≠ 239 → N3 x = N2 x := fun x hx => by rw [hN3, lo_Z, cl_row_n hx]
  have n30 : ∀ k, k < 149 → N3 239 k = 0 := fun k hk => by rw [hN3, lo_Z, cl_row_s, fa_fill_in hk]
  have o := su_setup (t := 4) (b := 8200) (M := Ma) (N := N3) (n := cl_sl 22) (by omega) (by omega) (by omega) (by omega) (lx_B_cong rfl (by rw [n3 238 (by decide), n2 238 (by decide), n0 238 (by decide)]) hB) m11 (by rw [n3 237 (by decide), n2 237 (by decide), n0k 1 (by decide), q1]) n30
  have eY : f_X6_loadSetup N 237 = cl_b2 ((f_X6_startText N3 237).bind (fun M5 => f_X6_setupText M5 237)) (fun v7 M8 => cl_let (cl_ms M8 237 1 0) (fun M10 => if v7 = 0 then cl_b2 (f_X6_putBack M10 237 (-1)) (fun v15 M16 => some (v15, M16)) else cl_let (cl_ms M10 237 9 0) (fun M12 => cl_let (cl_ms M12 (237 + 7) 0 (vp_nar .boolean 0)) (fun M13 => cl_let (cl_ms M13 (237 + 7) 1 (vp_nar .boolean 0)) (fun M14 => some (M14 (237 + 2) 7, M14)))))) := by
    rw [f_X6_loadSetup, cl_let, ← hN0, cp_start, Option.bind_some, ← hN2, lo_zero, ← hN3, lo_K, lo_bind]
  rcases o with ⟨M6, N7, a1, a2, aE, af⟩ | ⟨M5, M6, N7, a1, a3, a2, aE, af⟩ | ⟨M5, M6, N7, d, g', m', a1, a3, hd, a2, aE, L6, hm', af⟩
  · rw [a1, cu_b2, if_pos rfl] at ok
    cases ok
  · have a3 : f_X3_readCommands M5 1 4 = some (-1, M6) := a3
    rw [a1, cu_b2, if_neg (by decide), a3] at ok
    exact absurd (show decide ((0 : Int32) ≤ -1) = true from ok) (by decide)
  · have a3 : f_X3_readCommands M5 1 4 = some (nI d, M6) := a3
    obtain ⟨N9, hN9⟩ : ∃ z, z = cl_ms (cl_ms (cl_ms (cl_ms N7 237 1 0) 237 9 0) 244 0 0) 244 1 0 := ⟨_, rfl⟩
    obtain ⟨M8, hM8⟩ : ∃ z, z = cl_ms M6 1 1 0 := ⟨_, rfl⟩
    have iM : ∀ x, x ≠ 1 → M8 x = M6 x := fun x hx => by rw [hM8, cp_ms hx]
    have jk : ∀ k, k ≠ 1 → M8 1 k = M6 1 k := fun k hk => by rw [hM8, cl_ms, cl_row_s, pk_un hk]
    have j0 : M8 1 1 = nI 0 := by rw [hM8, cl_ms, cl_row_s, pk_us]; rfl
    have gM : ∀ x, x ≠ 1 → x ≠ 2 → x ≠ 3 → (x < 4 ∨ 23 ≤ x) → M6 x = fi_M0 x := fun x a b c e => by rw [af.1 x a c (by omega), mx x a b]
    have gN : ∀ x, x ≠ 237 → x ≠ 239 → x ≠ 241 → x ≠ 245 → N7 x = N x := fun x a b c e => by rw [af.2.1 x a b e, n3 x b, n2 x c, n0 x a]
    have nN : ∀ x, x ≠ 237 → x ≠ 244 → N9 x = N7 x := fun x a b => by rw [hN9, cp_ms b, cp_ms b, cp_ms a, cp_ms a]
    have nk : ∀ k, k ≠ 1 → k ≠ 9 → N9 237 k = N7 237 k := fun k a b => by rw [hN9, cp_ms (by decide), cp_ms (by decide), cl_ms, cl_row_s, pk_un b, cl_ms, cl_row_s, pk_un a]
    have n91 : N9 237 1 = nI 0 := by rw [hN9, cp_ms (by decide), cp_ms (by decide), cl_ms, cl_row_s, pk_un (by decide), cl_ms, cl_row_s, pk_us]; rfl
    have n99 : N9 237 9 = nI 0 := by rw [hN9, cp_ms (by decide), cp_ms (by decide), cl_ms, cl_row_s, pk_us]; rfl
    have s0 : ∀ u, u < 2 → M8 197 u = 0 ∧ N9 244 u = 0 := fun u hu => by
      have : u = 0 ∨ u = 1 := by omega
      rcases this with rfl | rfl
      · exact ⟨by rw [iM 197 (by decide), gM 197 (by decide) (by decide) (by decide) (by omega)]; decide, by rw [hN9, cl_ms, cl_row_s, pk_un (by decide), cl_ms, cl_row_s, pk_us]⟩
      · exact ⟨by rw [iM 197 (by decide), gM 197 (by decide) (by decide) (by decide) (by omega)]; decide, by rw [hN9, cl_ms, cl_row_s, pk_us]⟩
    refine ⟨M5, M6, N9, nI d, N7 239 7, a1, a3, ?_, fun x hx => gM x (by omega) (by omega) (by omega) (by omega), fun x hx => by rw [nN x (by omega) (by omega), gN x (by omega) (by omega) (by omega) (by omega)], ?_⟩
    · rw [eY, a2, cu_b2, cl_let, if_neg (by decide), cl_let, cl_let, cl_let, hi_nar0, show 237 + 7 = 244 from rfl, show 237 + 2 = 239 from rfl, ← hN9, nN 239 (by decide) (by decide)]
    · rw [← hM8]
      refine ⟨⟨g', m', hm', cg_L_cong (fun x a b => iM x (by omega)) (fun k _ => by rw [nN 239 (by decide) (by decide)]) L6⟩, ⟨0, ⟨by omega, fun j hj => absurd hj (by omega)⟩, j0, n91⟩, ⟨by rw [jk 8 (by decide), nk 2 (by decide) (by decide), aE.1], by rw [jk 9 (by decide), nk 3 (by decide) (by decide), aE.2]⟩, ⟨0, 0, by omega, by omega, by rw [iM 42 (by decide), gM 42 (by decide) (by decide) (by decide) (by omega)]; decide, n99, by rw [iM 42 (by decide), gM 42 (by decide) (by decide) (by decide) (by omega)]; decide, fun i hi => absurd hi (by omega)⟩, fun u hu => ⟨(s0 u hu).1.trans (s0 u hu).2.symm, Or.inl (s0 u hu).1⟩, Or.inl ⟨by rw [iM 0 (by decide), gM 0 (by decide) (by decide) (by decide) (by omega)]; decide, ?_⟩⟩
      rw [nk 18 (by decide) (by decide), af.2.2.2 18 (by decide) (by decide) (by omega), n3 237 (by decide), n2 237 (by decide), n0k 18 (by decide), k18]
