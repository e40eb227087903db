/-! the whole state on both sides -/
def cx_R (B : Nat) (M : cl_M) : Prop :=
  (∃ g m, m ≤ B ∧ cg_L M 4 (M 239) g m) ∧ (∃ n, lx_B n M M ∧ M 1 1 = nI n ∧ M 237 1 = nI n) ∧ tx_E M M ∧
  (∃ h q, h ≤ 8 ∧ q < 8 ∧ M 42 2 = nI h ∧ M 237 9 = nI h ∧ M 42 1 = nI q ∧ ∀ j, j < h → ∃ g m, m ≤ B ∧ cg_L M (44 + 19 * ((q + 8 - h + j) % 8)) (fun k => M 242 (149 * j + k)) g m) ∧
  (∀ s, s < 2 → M 197 s = M 244 s ∧ (M 197 s = 0 ∨ (M 197 s = 1 ∧ ∃ g m, m ≤ B ∧ cg_L M (199 + 19 * s) (fun k => M 243 (149 * s + k)) g m))) ∧
  ((M 0 7 = 0 ∧ M 237 18 = 0) ∨ (M 0 7 = nI 24 ∧ M 237 18 = nI 24 ∧ ∀ j, j < 24 → M 198 j = M 246 j))
/-- the cells that hold nothing between calls -/
def cx_c (x : Nat) : Bool := x == 3 || (decide (23 ≤ x) && decide (x < 42)) || x == 240 || x == 241 || x == 245 || x == 247
/-- alike but for what holds nothing between calls -/
def cx_s (M M' : cl_M) : Prop :=
  (∀ x, cx_c x = false → x ≠ 1 → x ≠ 237 → x ≠ 239 → M' x = M x) ∧ (∀ k, k < 149 → M' 239 k = M 239 k) ∧ (M' 1 1 = M 1 1 ∧ M' 1 8 = M 1 8 ∧ M' 1 9 = M 1 9) ∧
  (M' 237 1 = M 237 1 ∧ M' 237 2 = M 237 2 ∧ M' 237 3 = M 237 3 ∧ M' 237 9 = M 237 9 ∧ M' 237 18 = M 237 18)
theorem cx_s_0 {M : cl_M} : cx_s M M := ⟨fun _ _ _ _ _ => rfl, fun _ _ => rfl, ⟨rfl, rfl, rfl⟩, rfl, rfl, rfl, rfl, rfl⟩
theorem cx_s_tr {M M1 M2 : cl_M} (h1 : cx_s M M1) (h2 : cx_s M1 M2) : cx_s M M2 := by
  obtain ⟨a1, b1, ⟨c1, d1, e1⟩, f1, g1, i1, j1, k1⟩ := h1
  obtain ⟨a2, b2, ⟨c2, d2, e2⟩, f2, g2, i2, j2, k2⟩ := h2
  exact ⟨fun x p q r s => (a2 x p q r s).trans (a1 x p q r s), fun k hk => (b2 k hk).trans (b1 k hk), ⟨c2.trans c1, d2.trans d1, e2.trans e1⟩, f2.trans f1, g2.trans g1, i2.trans i1, j2.trans j1, k2.trans k1⟩
theorem cx_cf {x : Nat} (h : x ≠ 3) (h1 : x < 23 ∨ 42 ≤ x) (h2 : x ≠ 240) (h3 : x ≠ 241) (h4 : x ≠ 245) (h5 : x ≠ 247) : cx_c x = false := by
  simp only [cx_c, Bool.or_eq_false_iff, Bool.and_eq_false_iff, decide_eq_false_iff_not, beq_eq_false_iff_ne, ne_eq]; omega
theorem cx_R_s {B : Nat} {M M' : cl_M} (R : cx_R B M) (S : cx_s M M') : cx_R B M' := by
  obtain ⟨⟨g, m, hm, L⟩, ⟨n, hB, r1, q1⟩, ⟨e8, e9⟩, ⟨h, q, h8, q8, y1, y2, y3, y4⟩, hs, ho⟩ := R
  obtain ⟨a1, b1, ⟨c1, d1, f1⟩, g1, i1, j1, k1, l1⟩ := S
  have ca : ∀ x, (x < 23 ∨ (42 ≤ x ∧ x < 237) ∨ x = 238 ∨ x = 242 ∨ x = 243 ∨ x = 244 ∨ x = 246) → x ≠ 1 → x ≠ 3 → M' x = M x := fun x p p1 p3 => a1 x (cx_cf p3 (by omega) (by omega) (by omega) (by omega) (by omega)) p1 (by omega) (by omega)
  refine ⟨⟨g, m, hm, cg_L_cong (fun x p1 p2 => ca x (by omega) (by omega) (by omega)) b1 L⟩, ⟨n, lx_B_cong (ca 2 (by omega) (by omega) (by omega)) (ca 238 (by omega) (by omega) (by omega)) hB, c1.trans r1, g1.trans q1⟩, ⟨by rw [d1, i1, e8], by rw [f1, j1, e9]⟩, ⟨h, q, h8, q8, by rw [ca 42 (by omega) (by omega) (by omega), y1], by rw [k1, y2], by rw [ca 42 (by omega) (by omega) (by omega), y3], fun j hj => ?_⟩, fun s hs2 => ?_, ?_⟩
  · obtain ⟨g, m, hm, L⟩ := y4 j hj
    have hlt : (q + 8 - h + j) % 8 < 8 := Nat.mod_lt _ (by omega)
    exact ⟨g, m, hm, cg_L_cong (fun x p1 p2 => ca x (by omega) (by omega) (by omega)) (fun k _ => by rw [ca 242 (by omega) (by omega) (by omega)]) L⟩
  · rw [ca 197 (by omega) (by omega) (by omega), ca 244 (by omega) (by omega) (by omega)]
    obtain ⟨z1, z2⟩ := hs s hs2
    refine ⟨z1, ?_⟩
    rcases z2 with z2 | ⟨z2, g, m, hm, L⟩
    · exact Or.inl z2
    · exact Or.inr ⟨z2, g, m, hm, cg_L_cong (fun x p1 p2 => ca x (by omega) (by omega) (by omega)) (fun k _ => by rw [ca 243 (by omega) (by omega) (by omega)]) L⟩
  · rw [ca 0 (by omega) (by omega) (by omega), l1, ca 198 (by omega) (by omega) (by omega), ca 246 (by omega) (by omega) (by omega)]
    exact ho
theorem cx_R_le {B B' : Nat} {M : cl_M} (R : cx_R B M) (h : B ≤ B') : cx_R B' M := by
  obtain ⟨⟨g, m, hm, L⟩, r2, r3, ⟨h', q, h8, q8, y1, y2, y3, y4⟩, hs, ho⟩ := R
  refine ⟨⟨g, m, by omega, L⟩, r2, r3, ⟨h', q, h8, q8, y1, y2, y3, fun j hj => ?_⟩, fun s hs2 => ?_, ho⟩
  · obtain ⟨g, m, hm, L⟩ := y4 j hj
    exact ⟨g, m, by omega, L⟩
  · obtain ⟨z1, z2⟩ := hs s hs2
    refine ⟨z1, ?_⟩
    rcases z2 with z2 | ⟨z2, g, m, hm, L⟩
    · exact Or.inl z2
    · exact Or.inr ⟨z2, g, m, by omega, L⟩
/-- N is M1, but for the long that the law keeps -/
def cx_n (M1 N : cl_M) : Prop := ∀ q, q ≠ 247 → N q = M1 q
theorem cx_n_s {M N : cl_M} (h : cx_n M N) : cx_s M N :=
  ⟨fun x a _ _ _ => h x (fun e => by rw [e] at a; exact absurd a (by decide)), fun k _ => by rw [h 239 (by decide)], ⟨by rw [h 1 (by decide)], by rw [h 1 (by decide)], by rw [h 1 (by decide)]⟩, by rw [h 237 (by decide)], by rw [h 237 (by decide)], by rw [h 237 (by decide)], by rw [h 237 (by decide)], by rw [h 237 (by decide)]⟩
/-- what the reference makes of it: its answer w, what it says it throws -/
def cx_y (B : Nat) (y : cl_M → Option (Int32 × cl_M)) (M1 : cl_M) (v : Int32) (c : Nat) : Prop := ∀ N, cx_n M1 N → ∃ M2, y N = some (v, M2) ∧ M2 237 4 = nI c ∧ M2 247 = N 247 ∧ cx_R B M2
/-- both answer alike, where the class may throw: the exceptions' numbers beside the reference's -/
def cx_ok (B : Nat) (cs : List (Nat × Nat)) (x : Option (Except (Nat × cl_M) (Int32 × cl_M))) (y : cl_M → Option (Int32 × cl_M)) : Prop :=
  (∃ v M1, x = some (.ok (v, M1)) ∧ cx_y B y M1 v 0) ∨ ∃ e c M1 w, (e, c) ∈ cs ∧ x = some (.error (e, M1)) ∧ cx_y B y M1 w c
/-- both answer alike, where the class throws nothing -/
def cx_eq (B : Nat) (x : Option (Int32 × cl_M)) (y : cl_M → Option (Int32 × cl_M)) : Prop := ∃ v M1 M2, x = some (v, M1) ∧ y M1 = some (v, M2) ∧ cx_R B M2
/-- .. and changes nothing -/
def cx_e0 (B : Nat) (M : cl_M) (x : Option Int32) (y : cl_M → Option (Int32 × cl_M)) : Prop := ∃ v M2, x = some v ∧ y M = some (v, M2) ∧ cx_R B M2
theorem cx_t {M : cl_M} {v : Int32} : cx_s M (cl_ms M 237 4 v) :=
  ⟨fun x _ _ a _ => cl_row_n a, fun k _ => by rw [cp_ms (by decide)], ⟨by rw [cp_ms (by decide)], by rw [cp_ms (by decide)], by rw [cp_ms (by decide)]⟩, by simp (disch := omega) only [cl_let, Option.bind_some, cl_b2, nI_add, pk_mul, nI_leI, nI_ltI, nI_eq, nI_clamp, cu_inb, if_pos, if_neg, eq_self, ite_true, ite_false, if_true, if_false, cl_ms, cl_row_s, pk_un], by simp (disch := omega) only [cl_let, Option.bind_some, cl_b2, nI_add, pk_mul, nI_leI, nI_ltI, nI_eq, nI_clamp, cu_inb, if_pos, if_neg, eq_self, ite_true, ite_false, if_true, if_false, cl_ms, cl_row_s, pk_un], by simp (disch := omega) only [cl_let, Option.bind_some, cl_b2, nI_add, pk_mul, nI_leI, nI_ltI, nI_eq, nI_clamp, cu_inb, if_pos, if_neg, eq_self, ite_true, ite_false, if_true, if_false, cl_ms, cl_row_s, pk_un], by simp (disch := omega) only [cl_let, Option.bind_some, cl_b2, nI_add, pk_mul, nI_leI, nI_ltI, nI_eq, nI_clamp, cu_inb, if_pos, if_neg, eq_self, ite_true, ite_false, if_true, if_false, cl_ms, cl_row_s, pk_un], by simp (disch := omega) only [cl_let, Option.bind_some, cl_b2, nI_add, pk_mul, nI_leI, nI_ltI, nI_eq, nI_clamp, cu_inb, if_pos, if_neg, eq_self, ite_true, ite_false, if_true, if_false, cl_ms, cl_row_s, pk_un]⟩
theorem cx_t4 {M : cl_M} {v : Int32} : (cl_ms M 237 4 v) 237 4 = v := by rw [cl_ms, cl_row_s, pk_us]
theorem cx_tt {M : cl_M} {v u : Int32} : cl_ms (cl_ms M 237 4 v) 237 4 u = cl_ms M 237 4 u := by rw [cl_ms, cl_ms, cu_rr, cl_row_s, fa_upd_twice, cl_ms]
theorem cx_t7 {M : cl_M} {v : Int32} : (cl_ms M 237 4 v) 247 = M 247 := cl_row_n (by decide)
theorem cx_t9 {M : cl_M} {v : Int32} : (cl_ms M 237 4 v) 239 = M 239 := cl_row_n (by decide)
/-- an answer behind which the reference's state is N, but for what it throws -/
theorem cx_y_q {B : Nat} {M : cl_M} {y : cl_M → Option (Int32 × cl_M)} {v : Int32} {c : Nat} (R : cx_R B M) (h : ∀ N, cx_n M N → y N = some (v, cl_ms N 237 4 (nI c))) : cx_y B y M v c :=
  fun N hN => ⟨_, h N hN, cx_t4, cx_t7, cx_R_s R (cx_s_tr (cx_n_s hN) cx_t)⟩
theorem cx_plain (N : cl_M) (v : Int32) : f_X6_plain N 237 v = some (v, cl_ms N 237 4 0) := rfl
theorem cx_range {N : cl_M} {a b c : Int32} : f_X6_inRange N a b c = some (if a < b then 0 else if c < a then 0 else 1) := by
  unfold f_X6_inRange f_X6_inRange_15
  by_cases h : a < b
  · rw [if_pos h, if_pos h]; rfl
  · rw [if_neg h, if_neg h]
    by_cases h2 : c < a
    · rw [if_pos h2, if_pos h2]; rfl
    · rw [if_neg h2, if_neg h2]; rfl
theorem cx_fails1 {N : cl_M} {c : Int32} : f_X6_fails N 237 1 c = some (0, N) := rfl
theorem cx_fails0 {N : cl_M} {c : Int32} : f_X6_fails N 237 0 c = some (1, cl_ms N 237 4 c) := rfl
/-- an int against bounds, on both sides -/
theorem cx_req {M : cl_M} {a b c : Int32} : (¬ a < b ∧ ¬ c < a ∧ f_X5_requireRange M a b c = some (.ok M) ∧ (∀ N, f_X6_inRange N a b c = some 1)) ∨ (f_X5_requireRange M a b c = some (.error (1, M)) ∧ ∀ N, f_X6_inRange N a b c = some 0) := by
  by_cases h : a < b
  · right
    exact ⟨by rw [f_X5_requireRange, if_pos h]; rfl, fun N => by rw [cx_range, if_pos h]⟩
  · by_cases h2 : c < a
    · right
      exact ⟨by rw [f_X5_requireRange, if_neg h, if_neg (fa_of_lt h2).2.1]; rfl, fun N => by rw [cx_range, if_neg h, if_pos h2]⟩
    · left
      exact ⟨h, h2, by rw [f_X5_requireRange, if_neg h, if_pos (fa_of_nlt h2)], fun N => by rw [cx_range, if_neg h, if_neg h2]⟩
theorem cx_nat {a : Int32} {n : Nat} (hn : n < 2 ^ 31) (h : ¬ a < 0) (h2 : ¬ nI n < a) : ∃ j, j ≤ n ∧ a = nI j := nI_of2 (M := nI n) (n := n) (nI_toInt hn) h (fa_of_nlt h2)
/-- a garment asked for, on both sides -/
theorem cx_known {M : cl_M} {n m : Nat} (L : cg_L M 4 (M 239) n m) (a : Int32) :
    (∃ g, g < n ∧ a = nI g ∧ f_X5_known M 0 a = some (.ok (4 + 9 + g, M)) ∧ ∀ N, N 239 7 = nI n → f_X6_isGarment N 237 a = some (1, cl_ms N 237 4 0)) ∨
    (f_X5_known M 0 a = some (.error (2, M)) ∧ ∀ N, N 239 7 = nI n → f_X6_isGarment N 237 a = some (0, cl_ms N 237 4 (nI 1))) := by
  have hn := L.1.1
  have h3 : M (0 + 4) 3 = nI n := L.1.2.1
  have z1 : cl_bz 1 = true := by decide
  have z0 : cl_bz 0 = true := by decide
  have hd : ∀ N : cl_M, N 239 7 = nI n → (cl_ms N 237 4 0) (237 + 2) 7 - 1 = nI n - 1 := fun N h => by rw [show 237 + 2 = 239 from rfl, cx_t9, h]
  have hi : (nI n - 1).toInt = (n : Int) - 1 := pk_sub_toInt (b := 1) (by omega) (by omega)
  rcases pk_ix a (n := n) (by omega) with h | h | ⟨g, hg, e⟩
  · right
    refine ⟨by rw [f_X5_known, if_pos h]; rfl, fun N h7 => ?_⟩
    rw [f_X6_isGarment, cl_let, hd N h7, cx_range, if_pos h, Option.bind_some, cx_fails0, cu_b2, if_neg (by decide), f_X6_isGarment_32, if_pos z0, cx_tt]
    rfl
  · right
    have h0 : ¬ a < 0 := fun z => by
      rw [fa_lt] at z
      rw [fa_le, nI_toInt (by omega)] at h
      have : (0 : Int32).toInt = 0 := by decide
      omega
    have h1 : ¬ a < nI n := fun z => (fa_of_lt z).2.1 h
    have h2 : nI n - 1 < a := by
      rw [fa_lt, hi]
      rw [fa_le, nI_toInt (by omega)] at h
      omega
    refine ⟨by rw [f_X5_known, if_neg h0, h3, if_neg h1]; rfl, fun N h7 => ?_⟩
    rw [f_X6_isGarment, cl_let, hd N h7, cx_range, if_neg h0, if_pos h2, Option.bind_some, cx_fails0, cu_b2, if_neg (by decide), f_X6_isGarment_32, if_pos z0, cx_tt]
    rfl
  · left
    subst e
    have h2 : ¬ nI n - 1 < nI g := by
      rw [fa_lt, hi, nI_toInt (by omega)]
      omega
    refine ⟨g, hg, rfl, ?_, fun N h7 => ?_⟩
    · rw [f_X5_known, if_neg (nI_pos (by omega)), h3, if_pos (nI_lt hg (by omega)), if_pos (cu_inb (by omega) (by omega)), nI_clamp (by omega)]
    · rw [f_X6_isGarment, cl_let, hd N h7, cx_range, if_neg (nI_pos (by omega)), if_neg h2, Option.bind_some, cx_fails1, cu_b2, if_pos rfl, f_X6_isGarment_32, if_pos z1]
