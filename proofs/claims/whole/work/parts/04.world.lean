/-! the cells of the run lie at fixed places behind the start: b + 0 the line, b + 237 the reference, b + 247 the one long; the ints of all of them are one memory -/
abbrev cl_M : Type := Nat → Nat → Int32
def cl_row (M : cl_M) (t : Nat) (r : Nat → Int32) : cl_M := fun x => if x = t then r else M x
def cl_ms (M : cl_M) (t j : Nat) (v : Int32) : cl_M := cl_row M t (upd (M t) j v)
abbrev cl_cls : List vw_C := [(RX0, TX0, 15), (RX1, TX1, 3), (RX2, TX2, 6), (RX3, TX3, 10), (RX4, TX4, 10), (RX5, TX5, 8), (RX6, TX6, 19)]
/-- class numbers and slots, array class numbers, the texts' cells, their bytes' cells -/
abbrev cl_D : Type := va_G × (Nat → ClassId) × (Nat → Nat) × (Nat → Nat)
def cl_tys (dd : cl_D) : List (ClassId × FieldType) := [(dd.2.1 0, .int), (dd.2.1 1, .boolean), (dd.2.1 2, .object RX0), (dd.2.1 3, .object RX2), (dd.2.1 4, .long)]
def cl_SH : List Nat := [5, 3, 7, 7, 2, 4, 7, 7, 7, 7, 7, 7, 9, 0, 0, 0, 0, 0, 0, 0, 0, 0, 0, 2, 4, 7, 7, 7, 7, 7, 7, 9, 0, 0, 0, 0, 0, 0, 0, 0, 0, 0, 1, 10, 2, 4, 7, 7, 7, 7, 7, 7, 9, 0, 0, 0, 0, 0, 0, 0, 0, 0, 0, 2, 4, 7, 7, 7, 7, 7, 7, 9, 0, 0, 0, 0, 0, 0, 0, 0, 0, 0, 2, 4, 7, 7, 7, 7, 7, 7, 9, 0, 0, 0, 0, 0, 0, 0, 0, 0, 0, 2, 4, 7, 7, 7, 7, 7, 7, 9, 0, 0, 0, 0, 0, 0, 0, 0, 0, 0, 2, 4, 7, 7, 7, 7, 7, 7, 9, 0, 0, 0, 0, 0, 0, 0, 0, 0, 0, 2, 4, 7, 7, 7, 7, 7, 7, 9, 0, 0, 0, 0, 0, 0, 0, 0, 0, 0, 2, 4, 7, 7, 7, 7, 7, 7, 9, 0, 0, 0, 0, 0, 0, 0, 0, 0, 0, 2, 4, 7, 7, 7, 7, 7, 7, 9, 0, 0, 0, 0, 0, 0, 0, 0, 0, 0, 11, 8, 7, 2, 4, 7, 7, 7, 7, 7, 7, 9, 0, 0, 0, 0, 0, 0, 0, 0, 0, 0, 2, 4, 7, 7, 7, 7, 7, 7, 9, 0, 0, 0, 0, 0, 0, 0, 0, 0, 0, 6, 7, 7, 7, 7, 7, 7, 8, 7, 7, 12]
def cl_LN : List Nat := [0, 0, 700, 4, 0, 0, 8, 4, 4, 4, 4, 4, 10, 0, 0, 0, 0, 0, 0, 0, 0, 0, 0, 0, 0, 8, 4, 4, 4, 4, 4, 10, 0, 0, 0, 0, 0, 0, 0, 0, 0, 0, 0, 8, 0, 0, 8, 4, 4, 4, 4, 4, 10, 0, 0, 0, 0, 0, 0, 0, 0, 0, 0, 0, 0, 8, 4, 4, 4, 4, 4, 10, 0, 0, 0, 0, 0, 0, 0, 0, 0, 0, 0, 0, 8, 4, 4, 4, 4, 4, 10, 0, 0, 0, 0, 0, 0, 0, 0, 0, 0, 0, 0, 8, 4, 4, 4, 4, 4, 10, 0, 0, 0, 0, 0, 0, 0, 0, 0, 0, 0, 0, 8, 4, 4, 4, 4, 4, 10, 0, 0, 0, 0, 0, 0, 0, 0, 0, 0, 0, 0, 8, 4, 4, 4, 4, 4, 10, 0, 0, 0, 0, 0, 0, 0, 0, 0, 0, 0, 0, 8, 4, 4, 4, 4, 4, 10, 0, 0, 0, 0, 0, 0, 0, 0, 0, 0, 0, 0, 8, 4, 4, 4, 4, 4, 10, 0, 0, 0, 0, 0, 0, 0, 0, 0, 0, 2, 2, 24, 0, 0, 8, 4, 4, 4, 4, 4, 10, 0, 0, 0, 0, 0, 0, 0, 0, 0, 0, 0, 0, 8, 4, 4, 4, 4, 4, 10, 0, 0, 0, 0, 0, 0, 0, 0, 0, 0, 0, 700, 149, 149, 149, 1192, 298, 2, 4, 24, 1]
/-- how many cells there are: the class alone, with the reference, with the long too -/
def cl_K (dd : cl_D) : Nat := if dd.2.2.2 999 = 0 then 237 else if dd.2.2.2 999 = 1 then 247 else 248
theorem cl_K_of (dd : cl_D) : cl_K dd = 237 ∨ cl_K dd = 247 ∨ cl_K dd = 248 := by
  unfold cl_K
  by_cases h : dd.2.2.2 999 = 0
  · rw [if_pos h]; exact Or.inl rfl
  · rw [if_neg h]
    by_cases h2 : dd.2.2.2 999 = 1
    · rw [if_pos h2]; exact Or.inr (Or.inl rfl)
    · rw [if_neg h2]; exact Or.inr (Or.inr rfl)
def cl_s0 (t : Nat) : Nat := cl_SH.getD t 99
def cl_sh (dd : cl_D) (t : Nat) : Nat := if t < cl_K dd then cl_s0 t else 99
def cl_ln (t : Nat) : Nat := cl_LN.getD t 0
def cl_f0 (b t : Nat) (r : Nat → Int32) : List Value := [.int (r 0), .int (r 1), .int (r 2), .int (r 3), .int (r 4), .int (r 5), .int (r 6), .int (r 7), .int (r 8), .int (r 9), .int (r 10), .int (r 11), .int (r 12), .int (r 13), .int (r 14)]
def cl_f1 (b t : Nat) (r : Nat → Int32) : List Value := [.ref (b + (t + 1)), .int (r 1), .int (r 2)]
def cl_f2 (b t : Nat) (r : Nat → Int32) : List Value := [.int (r 0), .int (r 1), .int (r 2), .int (r 3), .ref (b + (t + 1)), .ref (b + (t + 8))]
def cl_f3 (b t : Nat) (r : Nat → Int32) : List Value := [.ref (b + (t + 1)), .int (r 1), .int (r 2), .int (r 3), .int (r 4), .int (r 5), .int (r 6), .ref (b + (t + 2)), .int (r 8), .int (r 9)]
def cl_f4 (b t : Nat) (r : Nat → Int32) : List Value := [.int (r 0), .ref (b + (t + 1)), .int (r 2), .ref (b + (t + 2)), .ref (b + (t + 3)), .ref (b + (t + 4)), .int (r 6), .ref (b + (t + 5)), .ref (b + (t + 6)), .int (r 9)]
def cl_f5 (b t : Nat) (r : Nat → Int32) : List Value := [.ref (b + (t + 1)), .ref (b + (t + 4)), .ref (b + (t + 23)), .ref (b + (t + 42)), .ref (b + (t + 196)), .ref (b + (t + 197)), .ref (b + (t + 198)), .int (r 7)]
def cl_f6 (b t : Nat) (r : Nat → Int32) : List Value := [.ref (b + (t + 1)), .int (r 1), .int (r 2), .int (r 3), .int (r 4), .ref (b + (t + 2)), .ref (b + (t + 3)), .ref (b + (t + 4)), .ref (b + (t + 5)), .int (r 9), .ref (b + (t + 6)), .ref (b + (t + 7)), .ref (b + (t + 8)), .ref (b + (t + 9)), .int (r 14), .int (r 15), .int (r 16), .int (r 17), .int (r 18)]
def cl_ent (dd : cl_D) (b t : Nat) (r : Nat → Int32) : va_E := match cl_sh dd t with
  | 0 => .inr (0, cl_f0 b t r)
  | 1 => .inr (1, cl_f1 b t r)
  | 2 => .inr (2, cl_f2 b t r)
  | 3 => .inr (3, cl_f3 b t r)
  | 4 => .inr (4, cl_f4 b t r)
  | 5 => .inr (5, cl_f5 b t r)
  | 6 => .inr (6, cl_f6 b t r)
  | 7 => .inl (dd.2.1 0, cl_ln t, .inl r)
  | 8 => .inl (dd.2.1 1, cl_ln t, .inl r)
  | 9 => .inl (dd.2.1 2, cl_ln t, .inr (.inr (.inr (.inr (fun j => some (b + (t + 1 + j)))))))
  | 10 => .inl (dd.2.1 3, cl_ln t, .inr (.inr (.inr (.inr (fun j => some (b + (t + 1 + 19 * j)))))))
  | 11 => .inl (dd.2.1 3, cl_ln t, .inr (.inr (.inr (.inr (fun j => some (b + (t + 3 + 19 * j)))))))
  | _ => .inl (dd.2.1 4, 1, .inr (.inl (fun j => (r j).toInt64)))
def cl_w (dd : cl_D) (b : Nat) (M : cl_M) : va_W := (List.range (cl_K dd)).map (fun k => (b + k, cl_ent dd b k (M k)))
theorem cl_w_get (dd : cl_D) (b : Nat) (M : cl_M) {t : Nat} (h : t < (cl_K dd)) : (cl_w dd b M)[t]? = some (b + t, cl_ent dd b t (M t)) := by
  simp [cl_w, List.getElem?_map, List.getElem?_range h]
theorem cl_w_len (dd : cl_D) (b : Nat) (M : cl_M) : (cl_w dd b M).length = (cl_K dd) := by simp [cl_w]
theorem cl_w_at {dd : cl_D} {b : Nat} {M : cl_M} {k : Nat} {q : Nat × va_E} (h : (cl_w dd b M)[k]? = some q) : k < (cl_K dd) ∧ q = (b + k, cl_ent dd b k (M k)) := by
  have hk : k < (cl_K dd) := by
    have := (List.getElem?_eq_some_iff.mp h).1
    rw [cl_w_len] at this
    exact this
  rw [cl_w_get dd b M hk] at h
  exact ⟨hk, (Option.some.inj h).symm⟩
theorem cl_row_s {M : cl_M} {t : Nat} {r : Nat → Int32} : cl_row M t r t = r := by simp [cl_row]
theorem cl_row_n {M : cl_M} {t x : Nat} {r : Nat → Int32} (h : x ≠ t) : cl_row M t r x = M x := by simp [cl_row, h]
theorem cl_w_set (dd : cl_D) (b : Nat) (M : cl_M) {t : Nat} (h : t < (cl_K dd)) (r : Nat → Int32) : (cl_w dd b M).set t (b + t, cl_ent dd b t r) = cl_w dd b (cl_row M t r) := by
  apply List.ext_getElem?
  intro k
  by_cases hk : k < (cl_K dd)
  · rw [cl_w_get dd b _ hk]
    by_cases e : k = t
    · subst e
      rw [List.getElem?_set_self (by rw [cl_w_len]; exact hk), cl_row_s]
    · rw [List.getElem?_set_ne (Ne.symm e), cl_w_get dd b M hk, cl_row_n e]
  · rw [List.getElem?_eq_none (by rw [List.length_set, cl_w_len]; omega), List.getElem?_eq_none (by rw [cl_w_len]; omega)]
def cl_A (b : Nat) : Nat → Prop := fun q => b ≤ q
theorem cl_w_D (dd : cl_D) (b : Nat) (M : cl_M) : va_D (cl_A b) (cl_w dd b M) := by
  refine ⟨fun i j x y hi hj hxy => ?_, fun k q hk => ?_⟩
  · obtain ⟨-, rfl⟩ := cl_w_at hi
    obtain ⟨-, rfl⟩ := cl_w_at hj
    exact Nat.add_left_cancel hxy
  · obtain ⟨-, rfl⟩ := cl_w_at hk
    exact Nat.le_add_right _ _
theorem cl_lt {dd : cl_D} {t k : Nat} (h : cl_sh dd t = k) (hk : k ≠ 99) : t < cl_K dd := by
  by_cases q : t < cl_K dd
  · exact q
  · exfalso
    apply hk
    rw [← h, cl_sh, if_neg q]
theorem cl_s_of {dd : cl_D} {t : Nat} (h : t < cl_K dd) : cl_sh dd t = cl_s0 t := if_pos h
theorem cl_dec {dd : cl_D} (P : Nat → Nat → Bool) (h : ([237, 247, 248] : List Nat).all (fun K => (List.range K).all (P K)) = true) {t : Nat} (ht : t < cl_K dd) : P (cl_K dd) t = true := by
  have hm : cl_K dd ∈ ([237, 247, 248] : List Nat) := by
    rcases cl_K_of dd with z | z | z
    · rw [z]; decide
    · rw [z]; decide
    · rw [z]; decide
  exact List.all_eq_true.mp (List.all_eq_true.mp h _ hm) t (List.mem_range.mpr ht)
theorem cl_e0 {dd : cl_D} {b t : Nat} {r : Nat → Int32} (h : cl_sh dd t = 0) : cl_ent dd b t r = .inr (0, cl_f0 b t r) := by unfold cl_ent; rw [h]; rfl
theorem cl_e1 {dd : cl_D} {b t : Nat} {r : Nat → Int32} (h : cl_sh dd t = 1) : cl_ent dd b t r = .inr (1, cl_f1 b t r) := by unfold cl_ent; rw [h]; rfl
theorem cl_e2 {dd : cl_D} {b t : Nat} {r : Nat → Int32} (h : cl_sh dd t = 2) : cl_ent dd b t r = .inr (2, cl_f2 b t r) := by unfold cl_ent; rw [h]; rfl
theorem cl_e3 {dd : cl_D} {b t : Nat} {r : Nat → Int32} (h : cl_sh dd t = 3) : cl_ent dd b t r = .inr (3, cl_f3 b t r) := by unfold cl_ent; rw [h]; rfl
theorem cl_e4 {dd : cl_D} {b t : Nat} {r : Nat → Int32} (h : cl_sh dd t = 4) : cl_ent dd b t r = .inr (4, cl_f4 b t r) := by unfold cl_ent; rw [h]; rfl
theorem cl_e5 {dd : cl_D} {b t : Nat} {r : Nat → Int32} (h : cl_sh dd t = 5) : cl_ent dd b t r = .inr (5, cl_f5 b t r) := by unfold cl_ent; rw [h]; rfl
theorem cl_e6 {dd : cl_D} {b t : Nat} {r : Nat → Int32} (h : cl_sh dd t = 6) : cl_ent dd b t r = .inr (6, cl_f6 b t r) := by unfold cl_ent; rw [h]; rfl
theorem cl_e7 {dd : cl_D} {b t : Nat} {r : Nat → Int32} (h : cl_sh dd t = 7) : cl_ent dd b t r = .inl (dd.2.1 0, cl_ln t, .inl r) := by unfold cl_ent; rw [h]; rfl
theorem cl_e8 {dd : cl_D} {b t : Nat} {r : Nat → Int32} (h : cl_sh dd t = 8) : cl_ent dd b t r = .inl (dd.2.1 1, cl_ln t, .inl r) := by unfold cl_ent; rw [h]; rfl
theorem cl_e9 {dd : cl_D} {b t : Nat} {r : Nat → Int32} (h : cl_sh dd t = 9) : cl_ent dd b t r = .inl (dd.2.1 2, cl_ln t, .inr (.inr (.inr (.inr (fun j => some (b + (t + 1 + j))))))) := by unfold cl_ent; rw [h]; rfl
theorem cl_e10 {dd : cl_D} {b t : Nat} {r : Nat → Int32} (h : cl_sh dd t = 10) : cl_ent dd b t r = .inl (dd.2.1 3, cl_ln t, .inr (.inr (.inr (.inr (fun j => some (b + (t + 1 + 19 * j))))))) := by unfold cl_ent; rw [h]; rfl
theorem cl_e11 {dd : cl_D} {b t : Nat} {r : Nat → Int32} (h : cl_sh dd t = 11) : cl_ent dd b t r = .inl (dd.2.1 3, cl_ln t, .inr (.inr (.inr (.inr (fun j => some (b + (t + 3 + 19 * j))))))) := by unfold cl_ent; rw [h]; rfl
theorem cl_e12 {dd : cl_D} {b t : Nat} {r : Nat → Int32} (h : cl_sh dd t = 12) : cl_ent dd b t r = .inl (dd.2.1 4, 1, .inr (.inl (fun j => (r j).toInt64))) := by unfold cl_ent; rw [h]; rfl
theorem sh_1_0 {dd : cl_D} {t : Nat} (h : cl_sh dd t = 1) : cl_sh dd (t + 1) = 10 ∧ cl_ln (t + 1) = 8 := by
  have ht := cl_lt h (by decide)
  have := cl_dec (fun K t => !(cl_s0 t == 1) || (decide (t + 1 < K) && (cl_s0 (t + 1) == 10 && cl_ln (t + 1) == 8))) (by decide +kernel) ht
  rw [cl_s_of ht] at h
  simp only [h, beq_self_eq_true, Bool.not_true, Bool.false_or, Bool.and_eq_true, beq_iff_eq, decide_eq_true_eq] at this
  exact ⟨(cl_s_of this.1).trans this.2.1, this.2.2⟩
theorem sh_2_4 {dd : cl_D} {t : Nat} (h : cl_sh dd t = 2) : cl_sh dd (t + 1) = 4 ∧ cl_ln (t + 1) = 0 := by
  have ht := cl_lt h (by decide)
  have := cl_dec (fun K t => !(cl_s0 t == 2) || (decide (t + 1 < K) && (cl_s0 (t + 1) == 4 && cl_ln (t + 1) == 0))) (by decide +kernel) ht
  rw [cl_s_of ht] at h
  simp only [h, beq_self_eq_true, Bool.not_true, Bool.false_or, Bool.and_eq_true, beq_iff_eq, decide_eq_true_eq] at this
  exact ⟨(cl_s_of this.1).trans this.2.1, this.2.2⟩
theorem sh_2_5 {dd : cl_D} {t : Nat} (h : cl_sh dd t = 2) : cl_sh dd (t + 8) = 9 ∧ cl_ln (t + 8) = 10 := by
  have ht := cl_lt h (by decide)
  have := cl_dec (fun K t => !(cl_s0 t == 2) || (decide (t + 8 < K) && (cl_s0 (t + 8) == 9 && cl_ln (t + 8) == 10))) (by decide +kernel) ht
  rw [cl_s_of ht] at h
  simp only [h, beq_self_eq_true, Bool.not_true, Bool.false_or, Bool.and_eq_true, beq_iff_eq, decide_eq_true_eq] at this
  exact ⟨(cl_s_of this.1).trans this.2.1, this.2.2⟩
theorem sh_3_0 {dd : cl_D} {t : Nat} (h : cl_sh dd t = 3) : cl_sh dd (t + 1) = 7 ∧ cl_ln (t + 1) = 700 := by
  have ht := cl_lt h (by decide)
  have := cl_dec (fun K t => !(cl_s0 t == 3) || (decide (t + 1 < K) && (cl_s0 (t + 1) == 7 && cl_ln (t + 1) == 700))) (by decide +kernel) ht
  rw [cl_s_of ht] at h
  simp only [h, beq_self_eq_true, Bool.not_true, Bool.false_or, Bool.and_eq_true, beq_iff_eq, decide_eq_true_eq] at this
  exact ⟨(cl_s_of this.1).trans this.2.1, this.2.2⟩
theorem sh_3_7 {dd : cl_D} {t : Nat} (h : cl_sh dd t = 3) : cl_sh dd (t + 2) = 7 ∧ cl_ln (t + 2) = 4 := by
  have ht := cl_lt h (by decide)
  have := cl_dec (fun K t => !(cl_s0 t == 3) || (decide (t + 2 < K) && (cl_s0 (t + 2) == 7 && cl_ln (t + 2) == 4))) (by decide +kernel) ht
  rw [cl_s_of ht] at h
  simp only [h, beq_self_eq_true, Bool.not_true, Bool.false_or, Bool.and_eq_true, beq_iff_eq, decide_eq_true_eq] at this
  exact ⟨(cl_s_of this.1).trans this.2.1, this.2.2⟩
theorem sh_4_1 {dd : cl_D} {t : Nat} (h : cl_sh dd t = 4) : cl_sh dd (t + 1) = 7 ∧ cl_ln (t + 1) = 8 := by
  have ht := cl_lt h (by decide)
  have := cl_dec (fun K t => !(cl_s0 t == 4) || (decide (t + 1 < K) && (cl_s0 (t + 1) == 7 && cl_ln (t + 1) == 8))) (by decide +kernel) ht
  rw [cl_s_of ht] at h
  simp only [h, beq_self_eq_true, Bool.not_true, Bool.false_or, Bool.and_eq_true, beq_iff_eq, decide_eq_true_eq] at this
  exact ⟨(cl_s_of this.1).trans this.2.1, this.2.2⟩
theorem sh_4_3 {dd : cl_D} {t : Nat} (h : cl_sh dd t = 4) : cl_sh dd (t + 2) = 7 ∧ cl_ln (t + 2) = 4 := by
  have ht := cl_lt h (by decide)
  have := cl_dec (fun K t => !(cl_s0 t == 4) || (decide (t + 2 < K) && (cl_s0 (t + 2) == 7 && cl_ln (t + 2) == 4))) (by decide +kernel) ht
  rw [cl_s_of ht] at h
  simp only [h, beq_self_eq_true, Bool.not_true, Bool.false_or, Bool.and_eq_true, beq_iff_eq, decide_eq_true_eq] at this
  exact ⟨(cl_s_of this.1).trans this.2.1, this.2.2⟩
theorem sh_4_4 {dd : cl_D} {t : Nat} (h : cl_sh dd t = 4) : cl_sh dd (t + 3) = 7 ∧ cl_ln (t + 3) = 4 := by
  have ht := cl_lt h (by decide)
  have := cl_dec (fun K t => !(cl_s0 t == 4) || (decide (t + 3 < K) && (cl_s0 (t + 3) == 7 && cl_ln (t + 3) == 4))) (by decide +kernel) ht
  rw [cl_s_of ht] at h
  simp only [h, beq_self_eq_true, Bool.not_true, Bool.false_or, Bool.and_eq_true, beq_iff_eq, decide_eq_true_eq] at this
  exact ⟨(cl_s_of this.1).trans this.2.1, this.2.2⟩
theorem sh_4_5 {dd : cl_D} {t : Nat} (h : cl_sh dd t = 4) : cl_sh dd (t + 4) = 7 ∧ cl_ln (t + 4) = 4 := by
  have ht := cl_lt h (by decide)
  have := cl_dec (fun K t => !(cl_s0 t == 4) || (decide (t + 4 < K) && (cl_s0 (t + 4) == 7 && cl_ln (t + 4) == 4))) (by decide +kernel) ht
  rw [cl_s_of ht] at h
  simp only [h, beq_self_eq_true, Bool.not_true, Bool.false_or, Bool.and_eq_true, beq_iff_eq, decide_eq_true_eq] at this
  exact ⟨(cl_s_of this.1).trans this.2.1, this.2.2⟩
theorem sh_4_7 {dd : cl_D} {t : Nat} (h : cl_sh dd t = 4) : cl_sh dd (t + 5) = 7 ∧ cl_ln (t + 5) = 4 := by
  have ht := cl_lt h (by decide)
  have := cl_dec (fun K t => !(cl_s0 t == 4) || (decide (t + 5 < K) && (cl_s0 (t + 5) == 7 && cl_ln (t + 5) == 4))) (by decide +kernel) ht
  rw [cl_s_of ht] at h
  simp only [h, beq_self_eq_true, Bool.not_true, Bool.false_or, Bool.and_eq_true, beq_iff_eq, decide_eq_true_eq] at this
  exact ⟨(cl_s_of this.1).trans this.2.1, this.2.2⟩
theorem sh_4_8 {dd : cl_D} {t : Nat} (h : cl_sh dd t = 4) : cl_sh dd (t + 6) = 7 ∧ cl_ln (t + 6) = 4 := by
  have ht := cl_lt h (by decide)
  have := cl_dec (fun K t => !(cl_s0 t == 4) || (decide (t + 6 < K) && (cl_s0 (t + 6) == 7 && cl_ln (t + 6) == 4))) (by decide +kernel) ht
  rw [cl_s_of ht] at h
  simp only [h, beq_self_eq_true, Bool.not_true, Bool.false_or, Bool.and_eq_true, beq_iff_eq, decide_eq_true_eq] at this
  exact ⟨(cl_s_of this.1).trans this.2.1, this.2.2⟩
theorem sh_5_0 {dd : cl_D} {t : Nat} (h : cl_sh dd t = 5) : cl_sh dd (t + 1) = 3 ∧ cl_ln (t + 1) = 0 := by
  have ht := cl_lt h (by decide)
  have := cl_dec (fun K t => !(cl_s0 t == 5) || (decide (t + 1 < K) && (cl_s0 (t + 1) == 3 && cl_ln (t + 1) == 0))) (by decide +kernel) ht
  rw [cl_s_of ht] at h
  simp only [h, beq_self_eq_true, Bool.not_true, Bool.false_or, Bool.and_eq_true, beq_iff_eq, decide_eq_true_eq] at this
  exact ⟨(cl_s_of this.1).trans this.2.1, this.2.2⟩
theorem sh_5_1 {dd : cl_D} {t : Nat} (h : cl_sh dd t = 5) : cl_sh dd (t + 4) = 2 ∧ cl_ln (t + 4) = 0 := by
  have ht := cl_lt h (by decide)
  have := cl_dec (fun K t => !(cl_s0 t == 5) || (decide (t + 4 < K) && (cl_s0 (t + 4) == 2 && cl_ln (t + 4) == 0))) (by decide +kernel) ht
  rw [cl_s_of ht] at h
  simp only [h, beq_self_eq_true, Bool.not_true, Bool.false_or, Bool.and_eq_true, beq_iff_eq, decide_eq_true_eq] at this
  exact ⟨(cl_s_of this.1).trans this.2.1, this.2.2⟩
theorem sh_5_2 {dd : cl_D} {t : Nat} (h : cl_sh dd t = 5) : cl_sh dd (t + 23) = 2 ∧ cl_ln (t + 23) = 0 := by
  have ht := cl_lt h (by decide)
  have := cl_dec (fun K t => !(cl_s0 t == 5) || (decide (t + 23 < K) && (cl_s0 (t + 23) == 2 && cl_ln (t + 23) == 0))) (by decide +kernel) ht
  rw [cl_s_of ht] at h
  simp only [h, beq_self_eq_true, Bool.not_true, Bool.false_or, Bool.and_eq_true, beq_iff_eq, decide_eq_true_eq] at this
  exact ⟨(cl_s_of this.1).trans this.2.1, this.2.2⟩
theorem sh_5_3 {dd : cl_D} {t : Nat} (h : cl_sh dd t = 5) : cl_sh dd (t + 42) = 1 ∧ cl_ln (t + 42) = 0 := by
  have ht := cl_lt h (by decide)
  have := cl_dec (fun K t => !(cl_s0 t == 5) || (decide (t + 42 < K) && (cl_s0 (t + 42) == 1 && cl_ln (t + 42) == 0))) (by decide +kernel) ht
  rw [cl_s_of ht] at h
  simp only [h, beq_self_eq_true, Bool.not_true, Bool.false_or, Bool.and_eq_true, beq_iff_eq, decide_eq_true_eq] at this
  exact ⟨(cl_s_of this.1).trans this.2.1, this.2.2⟩
theorem sh_5_4 {dd : cl_D} {t : Nat} (h : cl_sh dd t = 5) : cl_sh dd (t + 196) = 11 ∧ cl_ln (t + 196) = 2 := by
  have ht := cl_lt h (by decide)
  have := cl_dec (fun K t => !(cl_s0 t == 5) || (decide (t + 196 < K) && (cl_s0 (t + 196) == 11 && cl_ln (t + 196) == 2))) (by decide +kernel) ht
  rw [cl_s_of ht] at h
  simp only [h, beq_self_eq_true, Bool.not_true, Bool.false_or, Bool.and_eq_true, beq_iff_eq, decide_eq_true_eq] at this
  exact ⟨(cl_s_of this.1).trans this.2.1, this.2.2⟩
theorem sh_5_5 {dd : cl_D} {t : Nat} (h : cl_sh dd t = 5) : cl_sh dd (t + 197) = 8 ∧ cl_ln (t + 197) = 2 := by
  have ht := cl_lt h (by decide)
  have := cl_dec (fun K t => !(cl_s0 t == 5) || (decide (t + 197 < K) && (cl_s0 (t + 197) == 8 && cl_ln (t + 197) == 2))) (by decide +kernel) ht
  rw [cl_s_of ht] at h
  simp only [h, beq_self_eq_true, Bool.not_true, Bool.false_or, Bool.and_eq_true, beq_iff_eq, decide_eq_true_eq] at this
  exact ⟨(cl_s_of this.1).trans this.2.1, this.2.2⟩
theorem sh_5_6 {dd : cl_D} {t : Nat} (h : cl_sh dd t = 5) : cl_sh dd (t + 198) = 7 ∧ cl_ln (t + 198) = 24 := by
  have ht := cl_lt h (by decide)
  have := cl_dec (fun K t => !(cl_s0 t == 5) || (decide (t + 198 < K) && (cl_s0 (t + 198) == 7 && cl_ln (t + 198) == 24))) (by decide +kernel) ht
  rw [cl_s_of ht] at h
  simp only [h, beq_self_eq_true, Bool.not_true, Bool.false_or, Bool.and_eq_true, beq_iff_eq, decide_eq_true_eq] at this
  exact ⟨(cl_s_of this.1).trans this.2.1, this.2.2⟩
theorem sh_6_0 {dd : cl_D} {t : Nat} (h : cl_sh dd t = 6) : cl_sh dd (t + 1) = 7 ∧ cl_ln (t + 1) = 700 := by
  have ht := cl_lt h (by decide)
  have := cl_dec (fun K t => !(cl_s0 t == 6) || (decide (t + 1 < K) && (cl_s0 (t + 1) == 7 && cl_ln (t + 1) == 700))) (by decide +kernel) ht
  rw [cl_s_of ht] at h
  simp only [h, beq_self_eq_true, Bool.not_true, Bool.false_or, Bool.and_eq_true, beq_iff_eq, decide_eq_true_eq] at this
  exact ⟨(cl_s_of this.1).trans this.2.1, this.2.2⟩
theorem sh_6_5 {dd : cl_D} {t : Nat} (h : cl_sh dd t = 6) : cl_sh dd (t + 2) = 7 ∧ cl_ln (t + 2) = 149 := by
  have ht := cl_lt h (by decide)
  have := cl_dec (fun K t => !(cl_s0 t == 6) || (decide (t + 2 < K) && (cl_s0 (t + 2) == 7 && cl_ln (t + 2) == 149))) (by decide +kernel) ht
  rw [cl_s_of ht] at h
  simp only [h, beq_self_eq_true, Bool.not_true, Bool.false_or, Bool.and_eq_true, beq_iff_eq, decide_eq_true_eq] at this
  exact ⟨(cl_s_of this.1).trans this.2.1, this.2.2⟩
theorem sh_6_6 {dd : cl_D} {t : Nat} (h : cl_sh dd t = 6) : cl_sh dd (t + 3) = 7 ∧ cl_ln (t + 3) = 149 := by
  have ht := cl_lt h (by decide)
  have := cl_dec (fun K t => !(cl_s0 t == 6) || (decide (t + 3 < K) && (cl_s0 (t + 3) == 7 && cl_ln (t + 3) == 149))) (by decide +kernel) ht
  rw [cl_s_of ht] at h
  simp only [h, beq_self_eq_true, Bool.not_true, Bool.false_or, Bool.and_eq_true, beq_iff_eq, decide_eq_true_eq] at this
  exact ⟨(cl_s_of this.1).trans this.2.1, this.2.2⟩
theorem sh_6_7 {dd : cl_D} {t : Nat} (h : cl_sh dd t = 6) : cl_sh dd (t + 4) = 7 ∧ cl_ln (t + 4) = 149 := by
  have ht := cl_lt h (by decide)
  have := cl_dec (fun K t => !(cl_s0 t == 6) || (decide (t + 4 < K) && (cl_s0 (t + 4) == 7 && cl_ln (t + 4) == 149))) (by decide +kernel) ht
  rw [cl_s_of ht] at h
  simp only [h, beq_self_eq_true, Bool.not_true, Bool.false_or, Bool.and_eq_true, beq_iff_eq, decide_eq_true_eq] at this
  exact ⟨(cl_s_of this.1).trans this.2.1, this.2.2⟩
theorem sh_6_8 {dd : cl_D} {t : Nat} (h : cl_sh dd t = 6) : cl_sh dd (t + 5) = 7 ∧ cl_ln (t + 5) = 1192 := by
  have ht := cl_lt h (by decide)
  have := cl_dec (fun K t => !(cl_s0 t == 6) || (decide (t + 5 < K) && (cl_s0 (t + 5) == 7 && cl_ln (t + 5) == 1192))) (by decide +kernel) ht
  rw [cl_s_of ht] at h
  simp only [h, beq_self_eq_true, Bool.not_true, Bool.false_or, Bool.and_eq_true, beq_iff_eq, decide_eq_true_eq] at this
  exact ⟨(cl_s_of this.1).trans this.2.1, this.2.2⟩
theorem sh_6_10 {dd : cl_D} {t : Nat} (h : cl_sh dd t = 6) : cl_sh dd (t + 6) = 7 ∧ cl_ln (t + 6) = 298 := by
  have ht := cl_lt h (by decide)
  have := cl_dec (fun K t => !(cl_s0 t == 6) || (decide (t + 6 < K) && (cl_s0 (t + 6) == 7 && cl_ln (t + 6) == 298))) (by decide +kernel) ht
  rw [cl_s_of ht] at h
  simp only [h, beq_self_eq_true, Bool.not_true, Bool.false_or, Bool.and_eq_true, beq_iff_eq, decide_eq_true_eq] at this
  exact ⟨(cl_s_of this.1).trans this.2.1, this.2.2⟩
theorem sh_6_11 {dd : cl_D} {t : Nat} (h : cl_sh dd t = 6) : cl_sh dd (t + 7) = 8 ∧ cl_ln (t + 7) = 2 := by
  have ht := cl_lt h (by decide)
  have := cl_dec (fun K t => !(cl_s0 t == 6) || (decide (t + 7 < K) && (cl_s0 (t + 7) == 8 && cl_ln (t + 7) == 2))) (by decide +kernel) ht
  rw [cl_s_of ht] at h
  simp only [h, beq_self_eq_true, Bool.not_true, Bool.false_or, Bool.and_eq_true, beq_iff_eq, decide_eq_true_eq] at this
  exact ⟨(cl_s_of this.1).trans this.2.1, this.2.2⟩
theorem sh_6_12 {dd : cl_D} {t : Nat} (h : cl_sh dd t = 6) : cl_sh dd (t + 8) = 7 ∧ cl_ln (t + 8) = 4 := by
  have ht := cl_lt h (by decide)
  have := cl_dec (fun K t => !(cl_s0 t == 6) || (decide (t + 8 < K) && (cl_s0 (t + 8) == 7 && cl_ln (t + 8) == 4))) (by decide +kernel) ht
  rw [cl_s_of ht] at h
  simp only [h, beq_self_eq_true, Bool.not_true, Bool.false_or, Bool.and_eq_true, beq_iff_eq, decide_eq_true_eq] at this
  exact ⟨(cl_s_of this.1).trans this.2.1, this.2.2⟩
theorem sh_6_13 {dd : cl_D} {t : Nat} (h : cl_sh dd t = 6) : cl_sh dd (t + 9) = 7 ∧ cl_ln (t + 9) = 24 := by
  have ht := cl_lt h (by decide)
  have := cl_dec (fun K t => !(cl_s0 t == 6) || (decide (t + 9 < K) && (cl_s0 (t + 9) == 7 && cl_ln (t + 9) == 24))) (by decide +kernel) ht
  rw [cl_s_of ht] at h
  simp only [h, beq_self_eq_true, Bool.not_true, Bool.false_or, Bool.and_eq_true, beq_iff_eq, decide_eq_true_eq] at this
  exact ⟨(cl_s_of this.1).trans this.2.1, this.2.2⟩
theorem sh_el_9 {dd : cl_D} {t j : Nat} (h : cl_sh dd t = 9) (hj : j < 10) : cl_sh dd (t + 1 + j) = 0 := by
  have ht := cl_lt h (by decide)
  have := cl_dec (fun K t => !(cl_s0 t == 9) || (List.range 10).all (fun j => decide (t + 1 + j < K) && cl_s0 (t + 1 + j) == 0)) (by decide +kernel) ht
  rw [cl_s_of ht] at h
  simp only [h, beq_self_eq_true, Bool.not_true, Bool.false_or] at this
  have := List.all_eq_true.mp this j (List.mem_range.mpr hj)
  simp only [Bool.and_eq_true, beq_iff_eq, decide_eq_true_eq] at this
  exact (cl_s_of this.1).trans this.2
theorem ln_el_9 {dd : cl_D} {t : Nat} (h : cl_sh dd t = 9) : cl_ln t = 10 := by
  have ht := cl_lt h (by decide)
  have := cl_dec (fun _ t => !(cl_s0 t == 9) || cl_ln t == 10) (by decide +kernel) ht
  rw [cl_s_of ht] at h
  simp only [h, beq_self_eq_true, Bool.not_true, Bool.false_or, beq_iff_eq] at this
  exact this
theorem sh_el_10 {dd : cl_D} {t j : Nat} (h : cl_sh dd t = 10) (hj : j < 8) : cl_sh dd (t + 1 + 19 * j) = 2 := by
  have ht := cl_lt h (by decide)
  have := cl_dec (fun K t => !(cl_s0 t == 10) || (List.range 8).all (fun j => decide (t + 1 + 19 * j < K) && cl_s0 (t + 1 + 19 * j) == 2)) (by decide +kernel) ht
  rw [cl_s_of ht] at h
  simp only [h, beq_self_eq_true, Bool.not_true, Bool.false_or] at this
  have := List.all_eq_true.mp this j (List.mem_range.mpr hj)
  simp only [Bool.and_eq_true, beq_iff_eq, decide_eq_true_eq] at this
  exact (cl_s_of this.1).trans this.2
theorem ln_el_10 {dd : cl_D} {t : Nat} (h : cl_sh dd t = 10) : cl_ln t = 8 := by
  have ht := cl_lt h (by decide)
  have := cl_dec (fun _ t => !(cl_s0 t == 10) || cl_ln t == 8) (by decide +kernel) ht
  rw [cl_s_of ht] at h
  simp only [h, beq_self_eq_true, Bool.not_true, Bool.false_or, beq_iff_eq] at this
  exact this
theorem sh_el_11 {dd : cl_D} {t j : Nat} (h : cl_sh dd t = 11) (hj : j < 2) : cl_sh dd (t + 3 + 19 * j) = 2 := by
  have ht := cl_lt h (by decide)
  have := cl_dec (fun K t => !(cl_s0 t == 11) || (List.range 2).all (fun j => decide (t + 3 + 19 * j < K) && cl_s0 (t + 3 + 19 * j) == 2)) (by decide +kernel) ht
  rw [cl_s_of ht] at h
  simp only [h, beq_self_eq_true, Bool.not_true, Bool.false_or] at this
  have := List.all_eq_true.mp this j (List.mem_range.mpr hj)
  simp only [Bool.and_eq_true, beq_iff_eq, decide_eq_true_eq] at this
  exact (cl_s_of this.1).trans this.2
theorem ln_el_11 {dd : cl_D} {t : Nat} (h : cl_sh dd t = 11) : cl_ln t = 2 := by
  have ht := cl_lt h (by decide)
  have := cl_dec (fun _ t => !(cl_s0 t == 11) || cl_ln t == 2) (by decide +kernel) ht
  rw [cl_s_of ht] at h
  simp only [h, beq_self_eq_true, Bool.not_true, Bool.false_or, beq_iff_eq] at this
  exact this
def cl_st : List (String × Nat × String) := [("ClothesLine$TextReader", 54, "line"), ("ClothesLine$TextReader", 74, "wind"), ("ClothesLine$TextReader", 147, "garment"), ("ClothesLine$TextReader", 149, "hang"), ("ClothesLine$TextReader", 151, "take"), ("ClothesLine$TextReader", 153, "pick"), ("ClothesLine$TextReader", 155, "wash"), ("ClothesLine$TextReader", 157, "shift"), ("ClothesLine$TextReader", 159, "shower"), ("ClothesLine$TextReader", 161, "smoke"), ("ClothesLine$TextReader", 163, "minutes"), ("ClothesLineModel", 199, "line"), ("ClothesLineModel", 210, "wind"), ("ClothesLineModel", 215, "garment"), ("ClothesLineModel", 217, "hang"), ("ClothesLineModel", 219, "take"), ("ClothesLineModel", 221, "pick"), ("ClothesLineModel", 223, "wash"), ("ClothesLineModel", 225, "shift"), ("ClothesLineModel", 227, "shower"), ("ClothesLineModel", 229, "smoke"), ("ClothesLineModel", 231, "minutes"), ("ClothesLine", 45, "line 8 3 6; wind 1 0 3; garment 3 12 200 180; garment 1 4 60 60; garment 5 40 600 500; garment 2 9 90 0; shower 100 20 2; smoke 30 70; hang 0 2 2 0; hang 1 8 1 0; hang 2 12 1 2; minutes 25;"), ("ClothesLine", 304, "no such wind"), ("ClothesLine", 316, "no state is saved there"), ("ClothesLine", 324, "out of range"), ("ClothesLine", 329, "not possible in this state"), ("ClothesLine", 332, "no such garment"), ("ClothesLineModel", 42, "line 8 3 6; wind 1 0 3; garment 3 12 200 180; garment 1 4 60 60; garment 5 40 600 500; garment 2 9 90 0; shower 100 20 2; smoke 30 70; hang 0 2 2 0; hang 1 8 1 0; hang 2 12 1 2; minutes 25;")]
def cl_byt : List (List Int32) := [[108, 105, 110, 101], [119, 105, 110, 100], [103, 97, 114, 109, 101, 110, 116], [104, 97, 110, 103], [116, 97, 107, 101], [112, 105, 99, 107], [119, 97, 115, 104], [115, 104, 105, 102, 116], [115, 104, 111, 119, 101, 114], [115, 109, 111, 107, 101], [109, 105, 110, 117, 116, 101, 115], [108, 105, 110, 101], [119, 105, 110, 100], [103, 97, 114, 109, 101, 110, 116], [104, 97, 110, 103], [116, 97, 107, 101], [112, 105, 99, 107], [119, 97, 115, 104], [115, 104, 105, 102, 116], [115, 104, 111, 119, 101, 114], [115, 109, 111, 107, 101], [109, 105, 110, 117, 116, 101, 115], [108, 105, 110, 101, 32, 56, 32, 51, 32, 54, 59, 32, 119, 105, 110, 100, 32, 49, 32, 48, 32, 51, 59, 32, 103, 97, 114, 109, 101, 110, 116, 32, 51, 32, 49, 50, 32, 50, 48, 48, 32, 49, 56, 48, 59, 32, 103, 97, 114, 109, 101, 110, 116, 32, 49, 32, 52, 32, 54, 48, 32, 54, 48, 59, 32, 103, 97, 114, 109, 101, 110, 116, 32, 53, 32, 52, 48, 32, 54, 48, 48, 32, 53, 48, 48, 59, 32, 103, 97, 114, 109, 101, 110, 116, 32, 50, 32, 57, 32, 57, 48, 32, 48, 59, 32, 115, 104, 111, 119, 101, 114, 32, 49, 48, 48, 32, 50, 48, 32, 50, 59, 32, 115, 109, 111, 107, 101, 32, 51, 48, 32, 55, 48, 59, 32, 104, 97, 110, 103, 32, 48, 32, 50, 32, 50, 32, 48, 59, 32, 104, 97, 110, 103, 32, 49, 32, 56, 32, 49, 32, 48, 59, 32, 104, 97, 110, 103, 32, 50, 32, 49, 50, 32, 49, 32, 50, 59, 32, 109, 105, 110, 117, 116, 101, 115, 32, 50, 53, 59], [110, 111, 32, 115, 117, 99, 104, 32, 119, 105, 110, 100], [110, 111, 32, 115, 116, 97, 116, 101, 32, 105, 115, 32, 115, 97, 118, 101, 100, 32, 116, 104, 101, 114, 101], [111, 117, 116, 32, 111, 102, 32, 114, 97, 110, 103, 101], [110, 111, 116, 32, 112, 111, 115, 115, 105, 98, 108, 101, 32, 105, 110, 32, 116, 104, 105, 115, 32, 115, 116, 97, 116, 101], [110, 111, 32, 115, 117, 99, 104, 32, 103, 97, 114, 109, 101, 110, 116], [108, 105, 110, 101, 32, 56, 32, 51, 32, 54, 59, 32, 119, 105, 110, 100, 32, 49, 32, 48, 32, 51, 59, 32, 103, 97, 114, 109, 101, 110, 116, 32, 51, 32, 49, 50, 32, 50, 48, 48, 32, 49, 56, 48, 59, 32, 103, 97, 114, 109, 101, 110, 116, 32, 49, 32, 52, 32, 54, 48, 32, 54, 48, 59, 32, 103, 97, 114, 109, 101, 110, 116, 32, 53, 32, 52, 48, 32, 54, 48, 48, 32, 53, 48, 48, 59, 32, 103, 97, 114, 109, 101, 110, 116, 32, 50, 32, 57, 32, 57, 48, 32, 48, 59, 32, 115, 104, 111, 119, 101, 114, 32, 49, 48, 48, 32, 50, 48, 32, 50, 59, 32, 115, 109, 111, 107, 101, 32, 51, 48, 32, 55, 48, 59, 32, 104, 97, 110, 103, 32, 48, 32, 50, 32, 50, 32, 48, 59, 32, 104, 97, 110, 103, 32, 49, 32, 56, 32, 49, 32, 48, 59, 32, 104, 97, 110, 103, 32, 50, 32, 49, 50, 32, 49, 32, 50, 59, 32, 109, 105, 110, 117, 116, 101, 115, 32, 50, 53, 59]]
/-- the char at a place of a text -/
def cl_ch (i k : Nat) : Int32 := (cl_byt.getD i []).getD k 0
def cl_sl (i : Nat) : Nat := (cl_byt.getD i []).length
theorem cl_byt_ok : ∀ i, i < 29 → cl_sl i < 4096 ∧ ∀ b ∈ cl_byt.getD i [], b.toInt8.toInt32 = b ∧ b &&& 255 = b ∧ (b.toUInt32 % 65536).toInt32 = b ∧ narrow .char (.int b) = .int b := by decide +kernel
/-- what lies ahead of the run and stays: the texts, and the statics that the JDK's methods read -/
def cl_E (dd : cl_D) (b : Nat) (U : State) (H : Heap) : Prop :=
  (∀ i : Nat, i < 29 → va_O "java/lang/String" (dd.2.2.1 i) (cl_A b) U H ∧ va_OF "java/lang/String" "coder" "B" (.int 0) (dd.2.2.1 i) (cl_A b) U H ∧ va_OF "java/lang/String" "value" "[B" (.ref (dd.2.2.2 i)) (dd.2.2.1 i) (cl_A b) U H ∧ va_T .byte (dd.2.2.2 i) (cl_sl i) (fun j => .int (cl_ch i j)) (cl_A b) U H) ∧
  va_Z "java/lang/String" "COMPACT_STRINGS" "Z" (.int 1) (cl_A b) U H ∧ va_Zq "jdk/internal/util/Preconditions" "SIOOBE_FORMATTER" "Ljava/util/function/BiFunction;" (cl_A b) U H ∧ vx_Zq Bundle.tN "UNASSIGNED_STACK" Bundle.steD (cl_A b) U H ∧ vx_Zq Bundle.tN "SUPPRESSED_SENTINEL" Bundle.listD (cl_A b) U H
theorem cl_E.moved {dd : cl_D} {b : Nat} {u U : State} {H : Heap} (hvm : u.vm.Alike U.vm) (h : cl_E dd b u H) : cl_E dd b U H :=
  ⟨fun i hi => ⟨va_O.moved hvm (h.1 i hi).1, va_OF.moved hvm (h.1 i hi).2.1, va_OF.moved hvm (h.1 i hi).2.2.1, va_T.moved hvm (h.1 i hi).2.2.2⟩, va_Z.moved hvm h.2.1, va_Zq.moved hvm h.2.2.1, vx_Zq.moved hvm h.2.2.2.1, vx_Zq.moved hvm h.2.2.2.2⟩
theorem cl_E.kept {dd : cl_D} {b : Nat} {U : State} {H H1 : Heap} (h : cl_E dd b U H) (hq : ∀ a : Nat, a < H.size → ¬ cl_A b a → H1[a]? = H[a]?) : cl_E dd b U H1 :=
  ⟨fun i hi => ⟨(h.1 i hi).1.kept hq, (h.1 i hi).2.1.kept hq, (h.1 i hi).2.2.1.kept hq, (h.1 i hi).2.2.2.kept hq⟩, h.2.1.kept hq, h.2.2.1.kept hq, h.2.2.2.1.kept hq, h.2.2.2.2.kept hq⟩
/-- words of the tables that stay, though not among those that a call pays -/
def cl_nx : Cond → Bool
  | .castable .. => true
  | .declares _ => true
  | .fieldLinkNest .. => true
  | .methodLinkNest .. => true
  | _ => false
def cl_N : List Cond := lw_tbl.filter cl_nx
theorem cl_N_in {w : Cond} (k : Nat) (h : lw_tbl[k]? = some w) (g : cl_nx w = true) : w ∈ cl_N := List.mem_filter.mpr ⟨List.mem_of_getElem? h, g⟩
theorem cl_N_on {w : Cond} (h : cl_nx w = true) : w.onTables = true := by
  cases w <;> first | rfl | cases h
def cl_Nx (U : State) : Prop := ∀ w ∈ cl_N, va_Nw w U
theorem cl_Nx.warm {s U : State} (hW : s.WarmedH U.vm) (h : cl_Nx s) : cl_Nx U := fun w hw => by
  have q := (List.mem_filter.mp hw).2
  have z := h w hw
  cases w <;> first
    | exact va_Nw.warmC hW z
    | exact va_Nw.warmD hW z
    | exact va_Nw.warmF hW z
    | exact va_Nw.warmM hW z
    | cases q
def cl_Rr (dd : cl_D) (U : State) : Prop := (∀ (i : Nat) (q : String × Nat × String), cl_st[i]? = some q → vk_R q.1 q.2.1 q.2.2 (dd.2.2.1 i) U) ∧ cl_Nx U
theorem cl_Rr.warm {dd : cl_D} {s U : State} (hW : s.WarmedH U.vm) (h : cl_Rr dd s) : cl_Rr dd U := ⟨fun i q hi => vk_R.warm hW (h.1 i q hi), h.2.warm hW⟩
/-- the words that the tables give for every method -/
def cl_W : List Cond := lw_tbl.filter goodWord
theorem cl_W_all : cl_W.all goodWord = true := List.all_eq_true.mpr fun w hw => (List.mem_filter.mp hw).2
theorem cl_W_in {w : Cond} (k : Nat) (h : lw_tbl[k]? = some w) (g : goodWord w = true) : w ∈ cl_W := List.mem_filter.mpr ⟨List.mem_of_getElem? h, g⟩
theorem cl_good {w0 : Cond} (h : w0 ∈ cl_W) : GoodIn cl_W (w0 :: cl_W) := fun w hw => by
  rcases List.mem_cons.mp hw with rfl | hw
  · exact ⟨h, good_of_word (List.mem_filter.mp h).2⟩
  · exact ⟨hw, good_of_word (List.mem_filter.mp hw).2⟩
/-- a state that holds the memory M -/
def cl_I (dd : cl_D) (b : Nat) (M : cl_M) (U : State) : Prop := va_P dd.1 cl_cls (cl_w dd b M) U.heap ∧ va_K dd.1 cl_cls (cl_tys dd) U ∧ cl_E dd b U U.heap ∧ cl_Rr dd U
/-- what stays while a method runs -/
def cl_C (p : Program) (l : Launch) (s : State) (m : MethodId) (args : Array Value) (meth : Method) (c : Code) (cc : ByteArray) (own : String) (nL : Nat) (ret : Option FieldType) (dd : cl_D) (b : Nat) : Prop :=
  p.tables.exec = Jvm.exec ∧ c.code = cc ∧ c.maxLocals = nL ∧ s.vm.findClass own = some m.cls ∧ (∀ w ∈ cl_W, w.before args s = true) ∧ meth.locks = false ∧ meth.sig.returnType = ret ∧ va_K dd.1 cl_cls (cl_tys dd) s ∧ cl_E dd b s s.heap ∧ cl_Rr dd s ∧ l.stackTraces = false
/-- the heap in the middle of a method -/
def cl_H (dd : cl_D) (b : Nat) (M : cl_M) (s : State) (H : Heap) (locs : List Loc) : Prop := va_P dd.1 cl_cls (cl_w dd b M) H ∧ va_S (cl_A b) s.heap H locs
theorem cl_inW0 : ∀ w ∈ u_ws RX0 TX0 15, w ∈ cl_W := fun w hw => List.mem_filter.mpr ⟨(by decide +kernel : ∀ w ∈ u_ws RX0 TX0 15, w ∈ lw_tbl) w hw, (by decide +kernel : ∀ w ∈ u_ws RX0 TX0 15, goodWord w = true) w hw⟩
theorem cl_inW1 : ∀ w ∈ u_ws RX1 TX1 3, w ∈ cl_W := fun w hw => List.mem_filter.mpr ⟨(by decide +kernel : ∀ w ∈ u_ws RX1 TX1 3, w ∈ lw_tbl) w hw, (by decide +kernel : ∀ w ∈ u_ws RX1 TX1 3, goodWord w = true) w hw⟩
theorem cl_inW2 : ∀ w ∈ u_ws RX2 TX2 6, w ∈ cl_W := fun w hw => List.mem_filter.mpr ⟨(by decide +kernel : ∀ w ∈ u_ws RX2 TX2 6, w ∈ lw_tbl) w hw, (by decide +kernel : ∀ w ∈ u_ws RX2 TX2 6, goodWord w = true) w hw⟩
theorem cl_inW3 : ∀ w ∈ u_ws RX3 TX3 10, w ∈ cl_W := fun w hw => List.mem_filter.mpr ⟨(by decide +kernel : ∀ w ∈ u_ws RX3 TX3 10, w ∈ lw_tbl) w hw, (by decide +kernel : ∀ w ∈ u_ws RX3 TX3 10, goodWord w = true) w hw⟩
theorem cl_inW4 : ∀ w ∈ u_ws RX4 TX4 10, w ∈ cl_W := fun w hw => List.mem_filter.mpr ⟨(by decide +kernel : ∀ w ∈ u_ws RX4 TX4 10, w ∈ lw_tbl) w hw, (by decide +kernel : ∀ w ∈ u_ws RX4 TX4 10, goodWord w = true) w hw⟩
theorem cl_inW5 : ∀ w ∈ u_ws RX5 TX5 8, w ∈ cl_W := fun w hw => List.mem_filter.mpr ⟨(by decide +kernel : ∀ w ∈ u_ws RX5 TX5 8, w ∈ lw_tbl) w hw, (by decide +kernel : ∀ w ∈ u_ws RX5 TX5 8, goodWord w = true) w hw⟩
theorem cl_inW6 : ∀ w ∈ u_ws RX6 TX6 19, w ∈ cl_W := fun w hw => List.mem_filter.mpr ⟨(by decide +kernel : ∀ w ∈ u_ws RX6 TX6 19, w ∈ lw_tbl) w hw, (by decide +kernel : ∀ w ∈ u_ws RX6 TX6 19, goodWord w = true) w hw⟩
