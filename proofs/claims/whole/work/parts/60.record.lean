/-! what was before, recorded on both sides -/
theorem hi_q1 : ∀ q, q < 8 → (nI q + 1) - (nI q + 1) / 8 * 8 = nI ((q + 1) % 8) := by decide
theorem hi_q7 : ∀ q, q < 8 → (nI q + 8 - 1) - (nI q + 8 - 1) / 8 * 8 = nI ((q + 7) % 8) := by decide
theorem hi_h1 : ∀ h, h ≤ 8 → (if 8 < nI h + 1 then 8 else nI h + 1) = nI (min (h + 1) 8) := by decide
theorem hi_record {B : Nat} {M N : cl_M} (P : cx_P B M N) : ∃ M1 N1, f_X1_record M 42 4 = some M1 ∧ f_X6_record N 237 = some N1 ∧ (∀ x, x < 42 ∨ 196 ≤ x → M1 x = M x) ∧ (∀ x, x ≠ 237 → x ≠ 240 → x ≠ 242 → N1 x = N x) ∧ (∀ k, k ≠ 9 → N1 237 k = N 237 k) ∧ cx_P B M1 N1 := by
  obtain ⟨⟨g, m, hm, L⟩, ⟨n, hB, r1, q1⟩, ⟨e8, e9⟩, ⟨h, q, h8, q8, y1, y2, y3, y4⟩, hs, ho⟩ := P
  obtain ⟨M1, z1, L1, f1⟩ := cp_line (t := 42 + 1 + 1 + 19 * q) L (by omega)
  have hz : (cl_row N 240 (fa_fill (N 239) (N 240) 149)) 237 9 = nI h := by rw [cl_row_n (by decide), y2]
  obtain ⟨N1, p1, p2, p3, p4, p5, p6⟩ := hi_push h8 hz
  have hn : ∀ x, x ≠ 237 → x ≠ 240 → x ≠ 242 → N1 x = N x := fun x a b c => by rw [p2 x a c, cl_row_n b]
  have hk : ∀ k, k ≠ 9 → N1 237 k = N 237 k := fun k hk => by rw [p3 k hk, cl_row_n (by decide)]
  rw [cl_row_n (show 242 ≠ 240 by decide)] at p5
  rw [cl_row_s] at p6
  have hM : ∀ x, x ≠ 42 → (x < 44 + 19 * q ∨ 44 + 19 * q + 19 ≤ x) → (cl_ms (cl_ms M1 42 1 (nI ((q + 1) % 8))) 42 2 (nI (min (h + 1) 8))) x = M x := fun x a b => by rw [cp_ms a, cp_ms a, f1 x (by omega)]
  have c0 : M1 42 = M 42 := f1 42 (by omega)
  refine ⟨cl_ms (cl_ms M1 42 1 (nI ((q + 1) % 8))) 42 2 (nI (min (h + 1) 8)), N1, ?_, (hi_recN N).trans p1, fun x hx => hM x (by omega) (by omega), hn, hk, ?_⟩
  · rw [f_X1_record, y3, if_pos (cu_inb (by omega) (by omega)), nI_clamp (by omega), z1, Option.bind_some, cl_let, c0, y3, hi_q1 q q8, cl_let]
    have : (cl_ms M1 42 1 (nI ((q + 1) % 8))) 42 2 = nI h := by rw [cl_ms, cl_row_s, pk_un (by decide), c0, y1]
    rw [this, hi_h1 h h8]
  · have hq1 : (q + 1) % 8 < 8 := Nat.mod_lt _ (by omega)
    refine ⟨⟨g, m, hm, ?_⟩, ⟨n, lx_B_cong (hM 2 (by omega) (by omega)) (hn 238 (by omega) (by omega) (by omega)) hB, by rw [hM 1 (by omega) (by omega), r1], by rw [hk 1 (by omega), q1]⟩, ⟨by rw [hM 1 (by omega) (by omega), hk 2 (by omega), e8], by rw [hM 1 (by omega) (by omega), hk 3 (by omega), e9]⟩, ⟨min (h + 1) 8, (q + 1) % 8, by omega, hq1, by rw [cl_ms, cl_row_s, pk_us], p4, by rw [cl_ms, cl_row_s, pk_un (by decide), cl_ms, cl_row_s, pk_us], fun j hj => ?_⟩, fun s hs2 => ?_, ?_⟩
    · rw [hn 239 (by decide) (by decide) (by decide)]
      exact cg_L_cong (fun x a b => hM x (by omega) (by omega)) (fun _ _ => rfl) L
    · by_cases hj7 : j < min h 7
      · obtain ⟨g, m, hm, L⟩ := y4 (j + (h - min h 7)) (by omega)
        have es : ((q + 1) % 8 + 8 - min (h + 1) 8 + j) % 8 = (q + 8 - h + (j + (h - min h 7))) % 8 := by omega
        have hlt : (q + 8 - h + (j + (h - min h 7))) % 8 < 8 := Nat.mod_lt _ (by omega)
        have hne : (q + 8 - h + (j + (h - min h 7))) % 8 ≠ q := by omega
        rw [es]
        exact ⟨g, m, hm, cg_L_cong (fun x a b => hM x (by omega) (by omega)) (fun k hk => p5 j k hj7 hk) L⟩
      · have hj' : j = min h 7 := by omega
        have es : ((q + 1) % 8 + 8 - min (h + 1) 8 + j) % 8 = q := by omega
        rw [es]
        refine ⟨g, m, hm, cg_L_cong (M := M1) (r := N 239) (fun x a b => by rw [cp_ms (by omega), cp_ms (by omega)]) (fun k hk => ?_) (by rw [show 44 + 19 * q = 42 + 1 + 1 + 19 * q by omega]; exact L1)⟩
        rw [hj', p6 k hk, fa_fill_in hk]
    · rw [hM 197 (by omega) (by omega), hn 244 (by omega) (by omega) (by omega)]
      obtain ⟨z1, z2⟩ := hs s hs2
      refine ⟨z1, ?_⟩
      rcases z2 with z2 | ⟨z2, g, m, hm, L⟩
      · exact Or.inl z2
      · exact Or.inr ⟨z2, g, m, hm, cg_L_cong (fun x a b => hM x (by omega) (by omega)) (fun k _ => by rw [hn 243 (by omega) (by omega) (by omega)]) L⟩
    · rw [hM 0 (by omega) (by omega), hk 18 (by omega), hM 198 (by omega) (by omega), hn 246 (by omega) (by omega) (by omega)]
      exact ho
