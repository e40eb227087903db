/-! text fed, on both sides: the method -/
def fe_w (a b c d e : Int32) (w : Nat) : Int32 := if w = 0 then a else if w = 1 then b else if w = 2 then c else if w = 3 then d else e
variable {B : Nat} {M : cl_M}
theorem fe_do {A : Nat → Int32} {N : cl_M} (P : cx_P B M N) : ∃ v M2 N2, f_X5_feed M 0 (A 0) (A 1) (A 2) (A 3) (A 4) = some (v, M2) ∧ f_X6_feed_11 cl_F N 237 (A 0) (A 1) (A 2) (A 3) (A 4) 0 0 = some (v, N2) ∧ (∀ c, 237 ≤ c → M2 c = M c) ∧ (∀ c, c < 237 → N2 c = N c) ∧ cx_P B M2 N2 := by
  have P' := P
  obtain ⟨⟨g, m, hm, L⟩, ⟨n, hB, r1, q1⟩, ⟨e8, e9⟩, ⟨h, q, h8, q8, w1, w2, w3, w4⟩, hs', ho⟩ := P
  have hn := hB.1
  have c4 := fe_c_m (A := A) (q := 0) 4
  have c8 := fe_c_m (A := A) (q := 4) 4
  have c12 := fe_c_m (A := A) (q := 8) 4
  have c16 := fe_c_m (A := A) (q := 12) 4
  have c20 := fe_c_m (A := A) (q := 16) 4
  have c0 : fe_c A 0 = 0 := rfl
  simp only [Nat.reduceAdd] at c4 c8 c12 c16 c20
  have s : nI (fe_c A (4 * 0 + 4) - fe_c A (4 * 0)) + nI (fe_c A (4 * 1 + 4) - fe_c A (4 * 1)) + nI (fe_c A (4 * 2 + 4) - fe_c A (4 * 2)) + nI (fe_c A (4 * 3 + 4) - fe_c A (4 * 3)) + nI (fe_c A (4 * 4 + 4) - fe_c A (4 * 4)) = nI (fe_c A 20) := by
    show nI (fe_c A 4 - fe_c A 0) + nI (fe_c A 8 - fe_c A 4) + nI (fe_c A 12 - fe_c A 8) + nI (fe_c A 16 - fe_c A 12) + nI (fe_c A 20 - fe_c A 16) = nI (fe_c A 20)
    rw [nI_add, nI_add, nI_add, nI_add]
    congr 1
    omega
  have cl : f_X5_feed M 0 (A 0) (A 1) (A 2) (A 3) (A 4) = cl_b2 (if nI n + nI (fe_c A 20) ≤ 700 then (f_X3_appendBytes M 1 (A 0)).bind (fun M13 => (f_X3_appendBytes M13 1 (A 1)).bind (fun M15 => (f_X3_appendBytes M15 1 (A 2)).bind (fun M17 => (f_X3_appendBytes M17 1 (A 3)).bind (fun M19 => (f_X3_appendBytes M19 1 (A 4)).bind (fun M21 => some (M21 1 1, M21)))))) else some ((-1), M)) (fun v1 M2 => some (v1, M2)) := by
    rw [f_X5_feed, show 0 + 1 = 1 from rfl, f_X3_append, fe_inC, Option.bind_some, fe_inC, Option.bind_some, fe_inC, Option.bind_some, fe_inC, Option.bind_some, fe_inC, Option.bind_some, cl_let, s, r1]
  rw [cl, fe_cntN, q1, nI_add]
  by_cases hf : n + fe_c A 20 ≤ 700
  · have p0 : f_X3_appendBytes M 1 (A 0) = some (fe_a A n 1 M 4) := fe_appC (w := 0) r1 (by omega) hf
    have p1 : f_X3_appendBytes (fe_a A n 1 M 4) 1 (A 1) = some (fe_a A n 1 M 8) := fe_appC (w := 1) r1 (by omega) hf
    have p2 : f_X3_appendBytes (fe_a A n 1 M 8) 1 (A 2) = some (fe_a A n 1 M 12) := fe_appC (w := 2) r1 (by omega) hf
    have p3 : f_X3_appendBytes (fe_a A n 1 M 12) 1 (A 3) = some (fe_a A n 1 M 16) := fe_appC (w := 3) r1 (by omega) hf
    have p4 : f_X3_appendBytes (fe_a A n 1 M 16) 1 (A 4) = some (fe_a A n 1 M 20) := fe_appC (w := 4) r1 (by omega) hf
    have hle : nI (n + fe_c A 20) ≤ 700 := (nI_leI (b := 700) (by omega) (by omega)).mpr hf
    have hM : ∀ x, x ≠ 1 → x ≠ 2 → fe_a A n 1 M 20 x = M x := fun x a b => fe_a_x a b 20
    have hN' : ∀ x, x ≠ 237 → x ≠ 238 → fe_a A n 237 N 20 x = N x := fun x a b => fe_a_x a b 20
    have hk : ∀ k, k ≠ 1 → fe_a A n 237 N 20 237 k = N 237 k := fun k hk => fe_a_k hk 20
    have hkC : ∀ k, k ≠ 1 → fe_a A n 1 M 20 1 k = M 1 k := fun k hk => fe_a_k hk 20
    rw [if_pos hle, if_pos hle]
    refine ⟨nI (n + fe_c A 20), fe_a A n 1 M 20, fe_a A n 237 N 20, ?_, fe_putN q1 hf, fun c hc => hM c (by omega) (by omega), fun c hc => hN' c (by omega) (by omega), ?_⟩
    · rw [p0, Option.bind_some, p1, Option.bind_some, p2, Option.bind_some, p3, Option.bind_some, p4, Option.bind_some, cu_b2, fe_a_1 r1]
    · refine ⟨⟨g, m, hm, cg_L_cong (fun x a b => hM x (by omega) (by omega)) (fun k _ => by rw [hN' 239 (by decide) (by decide)]) L⟩, ⟨n + fe_c A 20, ⟨hf, fun j hj => fe_a_e (t := 1) (u := 237) hB.2 20 j hj⟩, fe_a_1 r1 20, fe_a_1 q1 20⟩, ⟨by rw [hkC 8 (by decide), hk 2 (by decide), e8], by rw [hkC 9 (by decide), hk 3 (by decide), e9]⟩, ⟨h, q, h8, q8, by rw [hM 42 (by omega) (by omega), w1], by rw [hk 9 (by decide), w2], by rw [hM 42 (by omega) (by omega), w3], fun i hi => ?_⟩, fun u hu => ?_, ?_⟩
      · obtain ⟨g, m, hm, L⟩ := w4 i hi
        exact ⟨g, m, hm, cg_L_cong (fun x a b => hM x (by omega) (by omega)) (fun k _ => by rw [hN' 242 (by decide) (by decide)]) L⟩
      · rw [hM 197 (by omega) (by omega), hN' 244 (by decide) (by decide)]
        obtain ⟨z1, z2⟩ := hs' u hu
        refine ⟨z1, ?_⟩
        rcases z2 with z2 | ⟨z2, g, m, hm, L⟩
        · exact Or.inl z2
        · exact Or.inr ⟨z2, g, m, hm, cg_L_cong (fun x a b => hM x (by omega) (by omega)) (fun k hk => by rw [hN' 243 (by decide) (by decide)]) L⟩
      · rw [hM 0 (by omega) (by omega), hk 18 (by decide), hM 198 (by omega) (by omega), hN' 246 (by decide) (by decide)]
        exact ho
  · have hle : ¬ nI (n + fe_c A 20) ≤ 700 := fun z => hf ((nI_leI (b := 700) (by omega) (by omega)).mp z)
    rw [if_neg hle, if_neg hle]
    exact ⟨-1, M, N, rfl, rfl, fun _ _ => rfl, fun _ _ => rfl, P'⟩
theorem an_feed (R : cx_R B M) (a b c d e : Int32) : cx_eq B (f_X5_feed M 0 a b c d e) (fun N => f_X6_feed N 237 a b c d e) :=
  cx_eq_c (fun N => f_X6_feed_11 cl_F N 237 a b c d e 0 0) R (fun N P _ => fe_do (A := fe_w a b c d e) P) fun N _ => by
    show f_X6_feed N 237 a b c d e = f_X6_feed_11 cl_F (cl_ms N 237 4 0) 237 a b c d e 0 0
    rw [f_X6_feed, cl_let]
