/-! the first setup, on the class's side: accepted, by evaluation -/
/-- what the constructors leave: zeros, but where a garment hangs, and where the errors were -/
def fi_M0 : cl_M := fun x k => if x = 1 ∧ k = 9 then -1 else if x = 237 ∧ k = 3 then -1 else if cl_s0 x = 0 ∧ k = 7 then -1 else 0
def fi_run (M : cl_M) : Option (Int32 × cl_M) := cl_b2 (f_X3_readHead M 1 4) (fun v M2 => if v = 0 then none else f_X3_readCommands M2 1 4)
def fi_good (x : Option (Int32 × cl_M)) : Bool := match x with
  | some (v, _) => decide (0 ≤ v)
  | none => false
set_option maxRecDepth 100000 in
theorem fi_ok : fi_good ((f_X3_appendText fi_M0 1 22).bind fi_run) = true := by decide +kernel
theorem fi_len : cl_sl 22 ≤ 700 ∧ ∀ j, j < cl_sl 22 → ¬ cl_ch 22 j = 0 := by decide +kernel
/-- a text appended to an empty reader -/
theorem fi_text {M : cl_M} (h : M 1 1 = 0) : ∃ M', f_X3_appendText M 1 22 = some M' ∧ M' 1 1 = nI (cl_sl 22) ∧ (∀ j, j < cl_sl 22 → M' 2 j = cl_ch 22 j) ∧ (∀ x, x ≠ 1 → x ≠ 2 → M' x = M x) ∧ ∀ k, k ≠ 1 → M' 1 k = M 1 k := by
  obtain ⟨hl, hz⟩ := fi_len
  have H : ∀ j i, i + j = cl_sl 22 → ∀ k, j < k → ∀ M : cl_M, M 1 1 = nI i → (∀ q, q < i → M 2 q = cl_ch 22 q) → ∃ M', f_X3_appendText_2 k M 1 22 (nI i) = some M' ∧ M' 1 1 = nI (cl_sl 22) ∧ (∀ j, j < cl_sl 22 → M' 2 j = cl_ch 22 j) ∧ (∀ x, x ≠ 1 → x ≠ 2 → M' x = M x) ∧ ∀ k, k ≠ 1 → M' 1 k = M 1 k := by
    intro j
    induction j with
    | zero =>
      intro i hi k hk M h1 h2
      obtain ⟨k, rfl, hk⟩ := cu_fuel hk
      have hi : i = cl_sl 22 := by omega
      exact ⟨M, by rw [f_X3_appendText_2, if_pos ((nI_leI (by omega) (by omega)).mpr (Nat.le_of_eq hi.symm))], by rw [← hi]; exact h1, fun j hj => h2 j (by omega), fun _ _ _ => rfl, fun _ _ => rfl⟩
    | succ j ih =>
      intro i hi k hk M h1 h2
      obtain ⟨k, rfl, hk⟩ := cu_fuel hk
      have e1 : (cl_ms M (1 + 1) i (cl_ch 22 i)) 1 1 = nI i := by rw [cp_ms (by decide), h1]
      obtain ⟨M', p1, p2, p3, p4, p5⟩ := ih (i + 1) (by omega) k (by omega) (cl_ms (cl_ms M (1 + 1) i (cl_ch 22 i)) 1 1 (nI (i + 1))) (by rw [cl_ms, cl_row_s, pk_us]) (fun q hq => by
        rw [cp_ms (by decide), cl_ms, cl_row_s]
        by_cases hqi : q = i
        · rw [hqi, pk_us]
        · rw [pk_un hqi]
          exact h2 q (by omega))
      refine ⟨M', ?_, p2, p3, fun x a b => ?_, fun k hk => ?_⟩
      · rw [f_X3_appendText_2, if_neg (nI_ge (by omega) (by omega)), if_pos (cu_inb (by omega) (by omega)), nI_clamp (by omega), f_X3_appendByte, if_neg (hz i (by omega)), h1, if_neg (show ¬ (700 : Int32) ≤ nI i from nI_ge (b := 700) (by omega) (by omega)), if_pos (cu_inb (by omega) (by omega)), nI_clamp (by omega), cl_let, e1, cl_let, Option.bind_some, cl_let, nI_1]
        exact p1
      · rw [p4 x a b, cp_ms a, cp_ms b]
      · rw [p5 k hk, cl_ms, cl_row_s, pk_un hk, cp_ms (by decide)]
  exact H (cl_sl 22) 0 (by omega) cl_F (Nat.lt_of_le_of_lt hl (by decide)) M h (fun q hq => absurd hq (by omega))
