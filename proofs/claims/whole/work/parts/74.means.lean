/-! the mean and the share, on both sides -/
theorem db_set {f : Nat → Prop} [∀ i, Decidable (f i)] {n : Nat} (hn : n ≤ 10) : cu_bc (cu_it (fun i x => if f i then x ||| (1 <<< (nI i &&& 31)) else x) n 0) = cu_mn (cu_it (fun i x => if f i then x ||| (1 <<< (nI i &&& 31)) else x) n 0) 24 := by
  have hlt : ∀ k, k ≤ 10 → ∃ q, q < 2 ^ k ∧ cu_it (fun i x => if f i then x ||| (1 <<< (nI i &&& 31)) else x) k 0 = nI q := by
    intro k
    induction k with
    | zero => intro _; exact ⟨0, by omega, rfl⟩
    | succ k ih =>
      intro hk
      obtain ⟨q, hq, e⟩ := ih (by omega)
      rw [cu_it, e]
      have hp : (2 : Nat) ^ (k + 1) = 2 ^ k + 2 ^ k := by rw [Nat.pow_succ]; omega
      by_cases z : f k
      · rw [if_pos z, show (1 : Int32) <<< (nI k &&& 31) = nI (2 ^ k) from (by decide +kernel : ∀ k, k < 10 → (1 : Int32) <<< (nI k &&& 31) = nI (2 ^ k)) k (by omega), fa_or]
        exact ⟨q ||| 2 ^ k, Nat.or_lt_two_pow (by omega) (by omega), rfl⟩
      · rw [if_neg z]; exact ⟨q, by omega, rfl⟩
  obtain ⟨q, hq, e⟩ := hlt n hn
  have h10 : 2 ^ n ≤ 2 ^ 10 := Nat.pow_le_pow_right (by omega) hn
  rw [e]
  exact (cu_bc_mn0 q (by omega)).1
variable {B : Nat} {M : cl_M}
theorem an_meanWater (R : cx_R B M) : ∃ r M2, f_X5_meanWater M 0 = some r ∧ f_X6_meanWater M 237 = some (r, M2) ∧ FP.Core.dIsNaN r = false ∧ cx_R B M2 := by
  obtain ⟨n, m, hm, L⟩ := R.1
  have h7 : (cl_ms M 237 4 0) (237 + 2) 7 = nI n := by rw [show 237 + 2 = 239 from rfl, cx_t9, L.1.2.2.1]
  have h3 : M (0 + 4) 3 = nI n := L.1.2.1
  by_cases h0 : nI n = 0
  · refine ⟨FP.dconst0, cl_ms M 237 4 0, ?_, ?_, by decide, cx_R_s R cx_t⟩
    · rw [f_X5_meanWater, h3, if_pos h0]
    · rw [f_X6_meanWater, cl_let, h7, if_pos h0]
  · have e1 := cq_water (M := M) (t := 0) L.1.1 h3
    have e := cq_waterN (N := cl_ms M 237 4 0) L.1.1 L.1.2.2.1 (ck_G L)
    have hh : ∀ i, M (4 + 9 + i) = M (0 + 4 + 8 + 1 + i) := fun i => by rw [show 4 + 9 + i = 0 + 4 + 8 + 1 + i by omega]
    simp only [cg_G, hh] at e
    rw [← cx_z0] at e
    refine ⟨FP.ddiv (FP.i2d (cu_it (fun i x => x + M (0 + 4 + 8 + 1 + i) 3) n 0)) (FP.i2d (nI n)), cl_ms M 237 4 0, ?_, ?_, db_div h0, cx_R_s R cx_t⟩
    · rw [f_X5_meanWater, h3, if_neg h0, e1, Option.bind_some]
    · rw [f_X6_meanWater, cl_let, h7, if_neg h0, e, Option.bind_some]
theorem an_dryShare (R : cx_R B M) : ∃ r M2, f_X5_dryShare M 0 = some r ∧ f_X6_dryShare M 237 = some (r, M2) ∧ FP.Core.fIsNaN r = false ∧ cx_R B M2 := by
  obtain ⟨n, m, hm, L⟩ := R.1
  have h7 : (cl_ms M 237 4 0) (237 + 2) 7 = nI n := by rw [show 237 + 2 = 239 from rfl, cx_t9, L.1.2.2.1]
  have h3 : M (0 + 4) 3 = nI n := L.1.2.1
  by_cases h0 : nI n = 0
  · refine ⟨FP.fconst0, cl_ms M 237 4 0, ?_, ?_, by decide, cx_R_s R cx_t⟩
    · rw [f_X5_dryShare, h3, if_pos h0]
    · rw [f_X6_dryShare, cl_let, h7, if_pos h0]
  · have e1 := cq_dry (M := M) (t := 0) L.1.1 h3
    have e := cq_dryN (N := cl_ms M 237 4 0) L.1.1 L.1.2.2.1 (ck_G L)
    have hh : ∀ i, M (4 + 9 + i) = M (0 + 4 + 8 + 1 + i) := fun i => by rw [show 4 + 9 + i = 0 + 4 + 8 + 1 + i by omega]
    simp only [cg_G, hh] at e
    rw [← cx_z0] at e
    have hb := db_set (f := fun i => M (0 + 4 + 8 + 1 + i) 3 = 0) L.1.1
    generalize cu_it (fun i x => if M (0 + 4 + 8 + 1 + i) 3 = 0 then x ||| (1 <<< (nI i &&& 31)) else x) n 0 = w at e1 e hb
    refine ⟨FP.fdiv (FP.i2f (cu_bc w)) (FP.i2f (nI n)), cl_ms M 237 4 0, ?_, ?_, db_fdiv h0, cx_R_s R cx_t⟩
    · rw [f_X5_dryShare, h3, if_neg h0, e1, Option.bind_some, cu_bc_e, Option.bind_some]
    · rw [f_X6_dryShare, cl_let, h7, if_neg h0, e, Option.bind_some, cu_mn_e, Option.bind_some, hb]
