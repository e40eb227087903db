/-! the class on M beside the reference on N, and what was before -/
def cx_P (B : Nat) (M N : cl_M) : Prop :=
  (∃ g m, m ≤ B ∧ cg_L M 4 (N 239) g m) ∧ (∃ n, lx_B n M N ∧ M 1 1 = nI n ∧ N 237 1 = nI n) ∧ tx_E M N ∧
  (∃ h q, h ≤ 8 ∧ q < 8 ∧ M 42 2 = nI h ∧ N 237 9 = nI h ∧ M 42 1 = nI q ∧ ∀ j, j < h → ∃ g m, m ≤ B ∧ cg_L M (44 + 19 * ((q + 8 - h + j) % 8)) (fun k => N 242 (149 * j + k)) g m) ∧
  (∀ s, s < 2 → M 197 s = N 244 s ∧ (M 197 s = 0 ∨ (M 197 s = 1 ∧ ∃ g m, m ≤ B ∧ cg_L M (199 + 19 * s) (fun k => N 243 (149 * s + k)) g m))) ∧
  ((M 0 7 = 0 ∧ N 237 18 = 0) ∨ (M 0 7 = nI 24 ∧ N 237 18 = nI 24 ∧ ∀ j, j < 24 → M 198 j = N 246 j))
theorem cx_PR {B : Nat} {M : cl_M} (R : cx_R B M) : cx_P B M M := R
theorem cx_RP {B : Nat} {M : cl_M} (R : cx_P B M M) : cx_R B M := R
/-- alike in what the reference keeps -/
def cx_fN (N N' : cl_M) : Prop := (∀ x, x ≠ 237 → x ≠ 239 → x ≠ 240 → x ≠ 241 → x ≠ 245 → 237 ≤ x → x ≠ 247 → N' x = N x) ∧ (∀ k, k < 149 → N' 239 k = N 239 k) ∧ N' 237 1 = N 237 1 ∧ N' 237 2 = N 237 2 ∧ N' 237 3 = N 237 3 ∧ N' 237 9 = N 237 9 ∧ N' 237 18 = N 237 18
/-- alike in what the class keeps -/
def cx_fC (M M' : cl_M) : Prop := (∀ x, x < 23 ∨ 42 ≤ x → x < 237 → x ≠ 1 → x ≠ 3 → M' x = M x) ∧ M' 1 1 = M 1 1 ∧ M' 1 8 = M 1 8 ∧ M' 1 9 = M 1 9
theorem cx_P_f {B : Nat} {M N M' N' : cl_M} (P : cx_P B M N) (fC : cx_fC M M') (fN : cx_fN N N') : cx_P B M' N' := by
  obtain ⟨⟨g, m, hm, L⟩, ⟨n, hB, r1, q1⟩, ⟨e8, e9⟩, ⟨h, q, h8, q8, y1, y2, y3, y4⟩, hs, ho⟩ := P
  obtain ⟨a, c1, d1, f1⟩ := fC
  obtain ⟨z, b1, g1, i1, j1, k1, l1⟩ := fN
  have ca : ∀ x, (x < 23 ∨ (42 ≤ x ∧ x < 237)) → x ≠ 1 → x ≠ 3 → M' x = M x := fun x p p1 p3 => a x (by omega) (by omega) p1 p3
  have cz : ∀ x, (x = 238 ∨ x = 242 ∨ x = 243 ∨ x = 244 ∨ x = 246) → N' x = N x := fun x p => z x (by omega) (by omega) (by omega) (by omega) (by omega) (by omega) (by omega)
  refine ⟨⟨g, m, hm, cg_L_cong (fun x p1 p2 => ca x (by omega) (by omega) (by omega)) b1 L⟩, ⟨n, lx_B_cong (ca 2 (by omega) (by omega) (by omega)) (cz 238 (by omega)) hB, c1.trans r1, g1.trans q1⟩, ⟨by rw [d1, i1, e8], by rw [f1, j1, e9]⟩, ⟨h, q, h8, q8, by rw [ca 42 (by omega) (by omega) (by omega), y1], by rw [k1, y2], by rw [ca 42 (by omega) (by omega) (by omega), y3], fun j hj => ?_⟩, fun s hs2 => ?_, ?_⟩
  · obtain ⟨g, m, hm, L⟩ := y4 j hj
    have hlt : (q + 8 - h + j) % 8 < 8 := Nat.mod_lt _ (by omega)
    exact ⟨g, m, hm, cg_L_cong (fun x p1 p2 => ca x (by omega) (by omega) (by omega)) (fun k _ => by rw [cz 242 (by omega)]) L⟩
  · rw [ca 197 (by omega) (by omega) (by omega), cz 244 (by omega)]
    obtain ⟨z1, z2⟩ := hs s hs2
    refine ⟨z1, ?_⟩
    rcases z2 with z2 | ⟨z2, g, m, hm, L⟩
    · exact Or.inl z2
    · exact Or.inr ⟨z2, g, m, hm, cg_L_cong (fun x p1 p2 => ca x (by omega) (by omega) (by omega)) (fun k _ => by rw [cz 243 (by omega)]) L⟩
  · rw [ca 0 (by omega) (by omega) (by omega), l1, ca 198 (by omega) (by omega) (by omega), cz 246 (by omega)]
    exact ho
theorem cx_fN_0 {N : cl_M} : cx_fN N N := ⟨fun _ _ _ _ _ _ _ _ => rfl, fun _ _ => rfl, rfl, rfl, rfl, rfl, rfl⟩
theorem cx_fC_0 {N : cl_M} : cx_fC N N := ⟨fun _ _ _ _ _ => rfl, rfl, rfl, rfl⟩
theorem cx_P_le {B B' : Nat} {M N : cl_M} (P : cx_P B M N) (h : B ≤ B') : cx_P B' M N := by
  obtain ⟨⟨g, m, hm, L⟩, r2, r3, ⟨h', q, h8, q8, y1, y2, y3, y4⟩, hs, ho⟩ := P
  refine ⟨⟨g, m, by omega, L⟩, r2, r3, ⟨h', q, h8, q8, y1, y2, y3, fun j hj => ?_⟩, fun s hs2 => ?_, ho⟩
  · obtain ⟨g, m, hm, L⟩ := y4 j hj
    exact ⟨g, m, by omega, L⟩
  · obtain ⟨z1, z2⟩ := hs s hs2
    refine ⟨z1, ?_⟩
    rcases z2 with z2 | ⟨z2, g, m, hm, L⟩
    · exact Or.inl z2
    · exact Or.inr ⟨z2, g, m, by omega, L⟩
/-- another line now -/
theorem cx_P_line {B B' : Nat} {M N M' N' : cl_M} {g m : Nat} (P : cx_P B M N) (hB : B ≤ B') (hm : m ≤ B') (L : cg_L M' 4 (N' 239) g m) (hM : ∀ x, x < 4 ∨ 23 ≤ x → M' x = M x) (hN : ∀ x, x ≠ 239 → N' x = N x) : cx_P B' M' N' := by
  obtain ⟨-, ⟨n, hB', r1, q1⟩, ⟨e8, e9⟩, ⟨h, q, h8, q8, y1, y2, y3, y4⟩, hs, ho⟩ := cx_P_le P hB
  refine ⟨⟨g, m, hm, L⟩, ⟨n, lx_B_cong (hM 2 (by omega)) (hN 238 (by omega)) hB', by rw [hM 1 (by omega), r1], by rw [hN 237 (by omega), q1]⟩, ⟨by rw [hM 1 (by omega), hN 237 (by omega), e8], by rw [hM 1 (by omega), hN 237 (by omega), e9]⟩, ⟨h, q, h8, q8, by rw [hM 42 (by omega), y1], by rw [hN 237 (by omega), y2], by rw [hM 42 (by omega), y3], fun j hj => ?_⟩, fun s hs2 => ?_, ?_⟩
  · obtain ⟨g, m, hm, L⟩ := y4 j hj
    exact ⟨g, m, hm, cg_L_cong (fun x p1 p2 => hM x (by omega)) (fun k _ => by rw [hN 242 (by omega)]) L⟩
  · rw [hM 197 (by omega), hN 244 (by omega)]
    obtain ⟨z1, z2⟩ := hs s hs2
    refine ⟨z1, ?_⟩
    rcases z2 with z2 | ⟨z2, g, m, hm, L⟩
    · exact Or.inl z2
    · exact Or.inr ⟨z2, g, m, hm, cg_L_cong (fun x p1 p2 => hM x (by omega)) (fun k _ => by rw [hN 243 (by omega)]) L⟩
  · rw [hM 0 (by omega), hN 237 (by omega), hM 198 (by omega), hN 246 (by omega)]
    exact ho
/-- a stretch of a row written from another's start -/
def hi_to (f g : Nat → Int32) (o i : Nat) : Nat → Int32 := fun k => if o ≤ k ∧ k < o + i then f (k - o) else g k
theorem hi_to_0 {f g : Nat → Int32} {o : Nat} : hi_to f g o 0 = g := funext fun k => if_neg (by omega)
theorem hi_to_s {f g : Nat → Int32} {o i : Nat} : upd (hi_to f g o i) (o + i) (f i) = hi_to f g o (i + 1) := by
  funext k
  by_cases h : k = o + i
  · subst h
    rw [pk_us, hi_to, if_pos (by omega), Nat.add_sub_cancel_left]
  · rw [pk_un h, hi_to, hi_to]
    by_cases h2 : o ≤ k ∧ k < o + i
    · rw [if_pos h2, if_pos (by omega)]
    · rw [if_neg h2, if_neg (by omega)]
theorem hi_to_i {f g : Nat → Int32} {o i k : Nat} (h : k < i) : hi_to f g o i (o + k) = f k := by rw [hi_to, if_pos (by omega), Nat.add_sub_cancel_left]
theorem hi_to_o {f g : Nat → Int32} {o i k : Nat} (h : k < o ∨ o + i ≤ k) : hi_to f g o i k = g k := by rw [hi_to, if_neg (by omega)]
theorem hi_ix {h i : Nat} : (149 : Int32) * nI h + nI i = nI (149 * h + i) := by
  simp (disch := omega) only [cl_let, Option.bind_some, cl_b2, nI_add, pk_mul, nI_leI, nI_ltI, nI_eq, nI_clamp, cu_inb, if_pos, if_neg, eq_self, ite_true, ite_false, if_true, if_false, cu_0, cu_1, cu_2, cu_3, cu_4, cu_5, cu_6, cu_7, cu_8, cu_9, cu_10, cu_11, cu_12, cu_16, cu_19, cu_20, cu_23, cu_24, cu_26, cu_30, cu_31, cu_32, cu_39, cu_40, cu_42, cu_45, cu_48, cu_57, cu_59, cu_60, cu_97, cu_99, cu_100, cu_122, cu_149, cu_200, cu_500, cu_700, cu_999, cu_9999, cu_99999, cu_100000, cu_1192, cu_298, ]
/-- the reference's stack after a push: what stays, the new one on top -/
theorem hi_push {N : cl_M} {h : Nat} (h8 : h ≤ 8) (e : N 237 9 = nI h) : ∃ N', f_X6_pushAside N 237 = some N' ∧ (∀ x, x ≠ 237 → x ≠ 242 → N' x = N x) ∧ (∀ k, k ≠ 9 → N' 237 k = N 237 k) ∧ N' 237 9 = nI (min (h + 1) 8) ∧
    (∀ j k, j < min h 7 → k < 149 → N' 242 (149 * j + k) = N 242 (149 * (j + (h - min h 7)) + k)) ∧ ∀ k, k < 149 → N' 242 (149 * min h 7 + k) = N 240 k := by
  have H : ∀ (N : cl_M) (h : Nat), h < 8 → N 237 9 = nI h → f_X6_pushAside_50 N 237 = some (cl_ms (cl_row N 242 (hi_to (N 240) (N 242) (149 * h) 149)) 237 9 (nI (h + 1))) := by
    intro N h h8 e
    have H : ∀ j i, i + j = 149 → ∀ k, j < k → f_X6_pushAside_52 k (cl_row N 242 (hi_to (N 240) (N 242) (149 * h) i)) 237 (nI i) = some (cl_ms (cl_row N 242 (hi_to (N 240) (N 242) (149 * h) 149)) 237 9 (nI (h + 1))) := by
      intro j
      induction j with
      | zero =>
        intro i hi k hk
        obtain ⟨k, rfl, hk⟩ := cu_fuel hk
        have hi : i = 149 := by omega
        subst hi
        rw [f_X6_pushAside_52, if_pos (by decide), cl_let, cl_row_n (show 237 ≠ 242 by decide), e, nI_1]
      | succ j ih =>
        intro i hi k hk
        obtain ⟨k, rfl, hk⟩ := cu_fuel hk
        have ih := ih (i + 1) (by omega) k (by omega)
        rw [f_X6_pushAside_52, if_neg (show ¬ (149 : Int32) ≤ nI i from nI_ge (b := 149) (by omega) (by omega)), if_pos (cu_inb (by omega) (by omega)), cl_row_n (show 237 ≠ 242 by decide), e, hi_ix, if_pos (cu_inb (by omega) (by omega)), nI_clamp (by omega), nI_clamp (by omega), cl_let, cl_let, nI_1]
        rw [show 237 + 5 = 242 from rfl, show 237 + 3 = 240 from rfl, cu_tt, cl_row_n (show 240 ≠ 242 by decide), hi_to_s]
        exact ih
    have := H 149 0 rfl cl_F (by decide)
    rw [hi_to_0, cu_rself] at this
    rw [f_X6_pushAside_50]
    exact this
  by_cases h7 : h < 8
  · have hm : min h 7 = h := by omega
    have hm1 : min (h + 1) 8 = h + 1 := by omega
    refine ⟨_, by rw [f_X6_pushAside, e, if_neg (show ¬ nI h = 8 by simp (disch := omega) only [cl_let, Option.bind_some, cl_b2, nI_add, pk_mul, nI_leI, nI_ltI, nI_eq, nI_clamp, cu_inb, if_pos, if_neg, eq_self, ite_true, ite_false, if_true, if_false, cu_0, cu_1, cu_2, cu_3, cu_4, cu_5, cu_6, cu_7, cu_8, cu_9, cu_10, cu_11, cu_12, cu_16, cu_19, cu_20, cu_23, cu_24, cu_26, cu_30, cu_31, cu_32, cu_39, cu_40, cu_42, cu_45, cu_48, cu_57, cu_59, cu_60, cu_97, cu_99, cu_100, cu_122, cu_149, cu_200, cu_500, cu_700, cu_999, cu_9999, cu_99999, cu_100000, cu_1192, cu_298, ]; omega)]; exact H N h h7 e, fun x a b => by rw [cp_ms a, cl_row_n b], fun k hk => ?_, ?_, fun j k hj hk => ?_, fun k hk => ?_⟩
    · rw [cl_ms, cl_row_s, pk_un hk, cl_row_n (show 237 ≠ 242 by decide)]
    · rw [cl_ms, cl_row_s, pk_us, hm1]
    · rw [cp_ms (by decide), cl_row_s, hi_to_o (by omega), hm, show h - h = 0 by omega, Nat.add_zero]
    · rw [cp_ms (by decide), cl_row_s, hm, hi_to_i hk]
  · have h8 : h = 8 := by omega
    subst h8
    have H2 : ∀ j i, i + j = 1043 → ∀ k, j < k → f_X6_pushAside_11 k (cl_row N 242 (fa_fill (fun q => N 242 (q + 149)) (N 242) i)) 237 (nI i) = f_X6_pushAside_50 (cl_ms (cl_row N 242 (fa_fill (fun q => N 242 (q + 149)) (N 242) 1043)) 237 9 (nI 7)) 237 := by
      intro j
      induction j with
      | zero =>
        intro i hi k hk
        obtain ⟨k, rfl, hk⟩ := cu_fuel hk
        have hi : i = 1043 := by omega
        subst hi
        rw [f_X6_pushAside_11, if_pos (by decide), cl_let, cl_row_n (show 237 ≠ 242 by decide), e]
        rfl
      | succ j ih =>
        intro i hi k hk
        obtain ⟨k, rfl, hk⟩ := cu_fuel hk
        have ih := ih (i + 1) (by omega) k (by omega)
        rw [f_X6_pushAside_11, if_neg (show ¬ (1043 : Int32) ≤ nI i from nI_ge (b := 1043) (by omega) (by omega)), show (nI i + 149 : Int32) = nI (i + 149) from nI_add i 149, if_pos (cu_inb (by omega) (by omega)), if_pos (cu_inb (by omega) (by omega)), nI_clamp (by omega), nI_clamp (by omega), cl_let, cl_let, nI_1]
        rw [show 237 + 5 = 242 from rfl, cu_tt, cl_row_s, fa_fill_out (show i ≤ i + 149 by omega), fa_fill_succ (fun q => N 242 (q + 149))]
        exact ih
    have h2 := H2 1043 0 rfl cl_F (by decide)
    rw [fa_fill_0, cu_rself] at h2
    generalize hN1 : cl_ms (cl_row N 242 (fa_fill (fun q => N 242 (q + 149)) (N 242) 1043)) 237 9 (nI 7) = N1 at h2
    have e1 : N1 237 9 = nI 7 := by rw [← hN1, cl_ms, cl_row_s, pk_us]
    have f1 : ∀ x, x ≠ 237 → x ≠ 242 → N1 x = N x := fun x a b => by rw [← hN1, cp_ms a, cl_row_n b]
    have g1 : ∀ k, k ≠ 9 → N1 237 k = N 237 k := fun k hk => by rw [← hN1, cl_ms, cl_row_s, pk_un hk, cl_row_n (show 237 ≠ 242 by decide)]
    have i1 : N1 242 = fa_fill (fun q => N 242 (q + 149)) (N 242) 1043 := by rw [← hN1, cp_ms (by decide), cl_row_s]
    refine ⟨_, by rw [f_X6_pushAside, e, if_pos (by decide)]; exact h2.trans (H N1 7 (by omega) e1), fun x a b => by rw [cp_ms a, cl_row_n b, f1 x a b], fun k hk => ?_, ?_, fun j k hj hk => ?_, fun k hk => ?_⟩
    · rw [cl_ms, cl_row_s, pk_un hk, cl_row_n (show 237 ≠ 242 by decide), g1 k hk]
    · rw [cl_ms, cl_row_s, pk_us]
      rfl
    · rw [cp_ms (by decide), cl_row_s, hi_to_o (by omega), i1, fa_fill_in (by omega)]
      show N 242 (149 * j + k + 149) = N 242 (149 * (j + 1) + k)
      rw [show 149 * j + k + 149 = 149 * (j + 1) + k by omega]
    · rw [cp_ms (by decide), cl_row_s, show 149 * min 8 7 + k = 149 * 7 + k from rfl, hi_to_i hk, f1 240 (by decide) (by decide)]
theorem hi_recN (N : cl_M) : f_X6_record N 237 = f_X6_pushAside (cl_row N 240 (fa_fill (N 239) (N 240) 149)) 237 := by
  have H : ∀ j i, i + j = 149 → ∀ k, j < k → f_X6_record_2 k (cl_row N 240 (fa_fill (N 239) (N 240) i)) 237 (nI i) = f_X6_pushAside (cl_row N 240 (fa_fill (N 239) (N 240) 149)) 237 := by
    intro j
    induction j with
    | zero =>
      intro i hi k hk
      obtain ⟨k, rfl, hk⟩ := cu_fuel hk
      have hi : i = 149 := by omega
      subst hi
      rw [f_X6_record_2, if_pos (by decide)]
      cases f_X6_pushAside (cl_row N 240 (fa_fill (N 239) (N 240) 149)) 237 with
      | none => rfl
      | some _ => rfl
    | succ j ih =>
      intro i hi k hk
      obtain ⟨k, rfl, hk⟩ := cu_fuel hk
      have ih := ih (i + 1) (by omega) k (by omega)
      rw [f_X6_record_2, if_neg (show ¬ (149 : Int32) ≤ nI i from nI_ge (b := 149) (by omega) (by omega)), if_pos (cu_inb (by omega) (by omega)), if_pos (cu_inb (by omega) (by omega)), nI_clamp (by omega), cl_let, cl_let, nI_1]
      rw [show 237 + 3 = 240 from rfl, show 237 + 2 = 239 from rfl, cu_tt, cl_row_n (show 239 ≠ 240 by decide), fa_fill_succ]
      exact ih
  have := H 149 0 rfl cl_F (by decide)
  rw [fa_fill_0, cu_rself] at this
  rw [f_X6_record]
  exact this
