/-! loops over the garments of a line -/
def cu_it (f : Nat → Int32 → Int32) : Nat → Int32 → Int32
  | 0, x => x
  | n + 1, x => f n (cu_it f n x)
theorem cu_it_cong {f h : Nat → Int32 → Int32} {x : Int32} : ∀ {n : Nat}, (∀ k, k < n → ∀ y, f k y = h k y) → cu_it f n x = cu_it h n x
  | 0, _ => rfl
  | n + 1, q => by rw [cu_it, cu_it, cu_it_cong (fun k hk => q k (by omega)), q n (by omega)]
theorem cu_it_sm (f : Nat → Int32) : ∀ n, cu_it (fun k x => x + f k) n 0 = cu_sm f n
  | 0 => rfl
  | n + 1 => by rw [cu_it, cu_sm, cu_it_sm f n]
theorem cu_it_sub (f : Nat → Int32) (a : Int32) : ∀ n, cu_it (fun k x => x - f k) n (a + cu_sm f n) = a
  | 0 => Int32.add_zero _
  | n + 1 => by
    have h : ∀ (m : Nat) (b c : Int32), cu_it (fun k x => x - f k) m (b + c) = cu_it (fun k x => x - f k) m b + c := by
      intro m
      induction m with
      | zero => intro b c; rfl
      | succ m ih =>
        intro b c
        rw [cu_it, cu_it, ih]
        rw [Int32.sub_eq_add_neg, Int32.sub_eq_add_neg, Int32.add_assoc, Int32.add_comm c, Int32.add_assoc]
    rw [cu_it, cu_sm, ← Int32.add_assoc, h, cu_it_sub f a n, Int32.add_sub_cancel]
theorem cq_wood0 {M : cl_M} {t n : Nat} (hn : n ≤ 10) (h3 : M t 3 = nI n) : f_X2_woodenInBag M t = some (cu_it (fun i x => x - M (t + 8 + 1 + i) 9) n (M t 0)) := by
  have H : ∀ j i, i + j = n → ∀ k, j < k → f_X2_woodenInBag_7 k M t (cu_it (fun i x => x - M (t + 8 + 1 + i) 9) i (M t 0)) (nI i) = some (cu_it (fun i x => x - M (t + 8 + 1 + i) 9) n (M t 0)) := by
    intro j
    induction j with
    | zero =>
      intro i hi k hk
      obtain ⟨k, rfl, hk⟩ := cu_fuel hk
      have hi : i = n := by omega
      subst hi
      rw [f_X2_woodenInBag_7, h3, if_pos (nI_le (Nat.le_refl _) (by omega))]
    | succ j ih =>
      intro i hi k hk
      obtain ⟨k, rfl, hk⟩ := cu_fuel hk
      have ih := ih (i + 1) (by omega) k (by omega)
      rw [cu_it] at ih
      rw [f_X2_woodenInBag_7, h3, if_neg (nI_ge (by omega) (by omega)), if_pos (cu_inb (by omega) (by omega))]
      simp only [cl_let, nI_clamp (show i < 2 ^ 31 by omega), nI_1]
      exact ih
  exact H n 0 (by omega) cl_F (by unfold cl_F; omega)
theorem cq_steel0 {M : cl_M} {t n : Nat} (hn : n ≤ 10) (h3 : M t 3 = nI n) : f_X2_steelInBag M t = some (cu_it (fun i x => x - M (t + 8 + 1 + i) 10) n (M t 1)) := by
  have H : ∀ j i, i + j = n → ∀ k, j < k → f_X2_steelInBag_7 k M t (cu_it (fun i x => x - M (t + 8 + 1 + i) 10) i (M t 1)) (nI i) = some (cu_it (fun i x => x - M (t + 8 + 1 + i) 10) n (M t 1)) := by
    intro j
    induction j with
    | zero =>
      intro i hi k hk
      obtain ⟨k, rfl, hk⟩ := cu_fuel hk
      have hi : i = n := by omega
      subst hi
      rw [f_X2_steelInBag_7, h3, if_pos (nI_le (Nat.le_refl _) (by omega))]
    | succ j ih =>
      intro i hi k hk
      obtain ⟨k, rfl, hk⟩ := cu_fuel hk
      have ih := ih (i + 1) (by omega) k (by omega)
      rw [cu_it] at ih
      rw [f_X2_steelInBag_7, h3, if_neg (nI_ge (by omega) (by omega)), if_pos (cu_inb (by omega) (by omega))]
      simp only [cl_let, nI_clamp (show i < 2 ^ 31 by omega), nI_1]
      exact ih
  exact H n 0 (by omega) cl_F (by unfold cl_F; omega)
theorem cq_occ {M : cl_M} {t n : Nat} (hn : n ≤ 10) (h3 : M t 3 = nI n) : f_X2_occupied M t = some (cu_it (fun i x => x ||| M (t + 8 + 1 + i) 8) n 0) := by
  have H : ∀ j i, i + j = n → ∀ k, j < k → f_X2_occupied_4 k M t (cu_it (fun i x => x ||| M (t + 8 + 1 + i) 8) i 0) (nI i) = some (cu_it (fun i x => x ||| M (t + 8 + 1 + i) 8) n 0) := by
    intro j
    induction j with
    | zero =>
      intro i hi k hk
      obtain ⟨k, rfl, hk⟩ := cu_fuel hk
      have hi : i = n := by omega
      subst hi
      rw [f_X2_occupied_4, h3, if_pos (nI_le (Nat.le_refl _) (by omega))]
    | succ j ih =>
      intro i hi k hk
      obtain ⟨k, rfl, hk⟩ := cu_fuel hk
      have ih := ih (i + 1) (by omega) k (by omega)
      rw [cu_it] at ih
      rw [f_X2_occupied_4, h3, if_neg (nI_ge (by omega) (by omega)), if_pos (cu_inb (by omega) (by omega))]
      simp only [cl_let, nI_clamp (show i < 2 ^ 31 by omega), nI_1]
      exact ih
  exact H n 0 (by omega) cl_F (by unfold cl_F; omega)
theorem cq_state {M : cl_M} {t n : Nat} {a : Int32} (hn : n ≤ 10) (h3 : M t 3 = nI n) : f_X2_setInState M t a = some (cu_it (fun i x => if M (t + 8 + 1 + i) 6 = a then x ||| (1 <<< (nI i &&& 31)) else x) n 0) := by
  have H : ∀ j i, i + j = n → ∀ k, j < k → f_X2_setInState_4 k M t a (cu_it (fun i x => if M (t + 8 + 1 + i) 6 = a then x ||| (1 <<< (nI i &&& 31)) else x) i 0) (nI i) = some (cu_it (fun i x => if M (t + 8 + 1 + i) 6 = a then x ||| (1 <<< (nI i &&& 31)) else x) n 0) := by
    intro j
    induction j with
    | zero =>
      intro i hi k hk
      obtain ⟨k, rfl, hk⟩ := cu_fuel hk
      have hi : i = n := by omega
      subst hi
      rw [f_X2_setInState_4, h3, if_pos (nI_le (Nat.le_refl _) (by omega))]
    | succ j ih =>
      intro i hi k hk
      obtain ⟨k, rfl, hk⟩ := cu_fuel hk
      have ih := ih (i + 1) (by omega) k (by omega)
      rw [cu_it] at ih
      rw [f_X2_setInState_4, h3, if_neg (nI_ge (by omega) (by omega)), if_pos (cu_inb (by omega) (by omega))]
      simp only [cl_let, nI_clamp (show i < 2 ^ 31 by omega), nI_1, f_X2_setInState_31]
      by_cases q : M (t + 8 + 1 + i) 6 = a
      · rw [if_pos q] at ih ⊢
        exact ih
      · rw [if_neg q] at ih ⊢
        exact ih
  exact H n 0 (by omega) cl_F (by unfold cl_F; omega)
theorem cq_dry {M : cl_M} {t n : Nat} (hn : n ≤ 10) (h3 : M (t + 4) 3 = nI n) : f_X5_dryGarments M t = some (cu_it (fun i x => if M (t + 4 + 8 + 1 + i) 3 = 0 then x ||| (1 <<< (nI i &&& 31)) else x) n 0) := by
  have H : ∀ j i, i + j = n → ∀ k, j < k → f_X5_dryGarments_4 k M t (cu_it (fun i x => if M (t + 4 + 8 + 1 + i) 3 = 0 then x ||| (1 <<< (nI i &&& 31)) else x) i 0) (nI i) = some (cu_it (fun i x => if M (t + 4 + 8 + 1 + i) 3 = 0 then x ||| (1 <<< (nI i &&& 31)) else x) n 0) := by
    intro j
    induction j with
    | zero =>
      intro i hi k hk
      obtain ⟨k, rfl, hk⟩ := cu_fuel hk
      have hi : i = n := by omega
      subst hi
      rw [f_X5_dryGarments_4, h3, if_pos (nI_le (Nat.le_refl _) (by omega))]
    | succ j ih =>
      intro i hi k hk
      obtain ⟨k, rfl, hk⟩ := cu_fuel hk
      have ih := ih (i + 1) (by omega) k (by omega)
      rw [cu_it] at ih
      rw [f_X5_dryGarments_4, h3, if_neg (nI_ge (by omega) (by omega)), if_pos (cu_inb (by omega) (by omega))]
      simp only [cl_let, nI_clamp (show i < 2 ^ 31 by omega), nI_1, f_X5_dryGarments_36]
      by_cases q : M (t + 4 + 8 + 1 + i) 3 = 0
      · rw [if_pos q] at ih ⊢
        exact ih
      · rw [if_neg q] at ih ⊢
        exact ih
  exact H n 0 (by omega) cl_F (by unfold cl_F; omega)
theorem cq_water {M : cl_M} {t n : Nat} (hn : n ≤ 10) (h3 : M (t + 4) 3 = nI n) : f_X5_waterInAll M t = some (cu_it (fun i x => x + M (t + 4 + 8 + 1 + i) 3) n 0) := by
  have H : ∀ j i, i + j = n → ∀ k, j < k → f_X5_waterInAll_4 k M t (cu_it (fun i x => x + M (t + 4 + 8 + 1 + i) 3) i 0) (nI i) = some (cu_it (fun i x => x + M (t + 4 + 8 + 1 + i) 3) n 0) := by
    intro j
    induction j with
    | zero =>
      intro i hi k hk
      obtain ⟨k, rfl, hk⟩ := cu_fuel hk
      have hi : i = n := by omega
      subst hi
      rw [f_X5_waterInAll_4, h3, if_pos (nI_le (Nat.le_refl _) (by omega))]
    | succ j ih =>
      intro i hi k hk
      obtain ⟨k, rfl, hk⟩ := cu_fuel hk
      have ih := ih (i + 1) (by omega) k (by omega)
      rw [cu_it] at ih
      rw [f_X5_waterInAll_4, h3, if_neg (nI_ge (by omega) (by omega)), if_pos (cu_inb (by omega) (by omega))]
      simp only [cl_let, nI_clamp (show i < 2 ^ 31 by omega), nI_1]
      exact ih
  exact H n 0 (by omega) cl_F (by unfold cl_F; omega)
theorem cq_came {M : cl_M} {t n : Nat} (hn : n ≤ 10) (h3 : M (t + 4) 3 = nI n) : f_X5_waterCame M t = some (cu_it (fun i x => x + M (t + 4 + 8 + 1 + i) 12) n 0) := by
  have H : ∀ j i, i + j = n → ∀ k, j < k → f_X5_waterCame_4 k M t (cu_it (fun i x => x + M (t + 4 + 8 + 1 + i) 12) i 0) (nI i) = some (cu_it (fun i x => x + M (t + 4 + 8 + 1 + i) 12) n 0) := by
    intro j
    induction j with
    | zero =>
      intro i hi k hk
      obtain ⟨k, rfl, hk⟩ := cu_fuel hk
      have hi : i = n := by omega
      subst hi
      rw [f_X5_waterCame_4, h3, if_pos (nI_le (Nat.le_refl _) (by omega))]
    | succ j ih =>
      intro i hi k hk
      obtain ⟨k, rfl, hk⟩ := cu_fuel hk
      have ih := ih (i + 1) (by omega) k (by omega)
      rw [cu_it] at ih
      rw [f_X5_waterCame_4, h3, if_neg (nI_ge (by omega) (by omega)), if_pos (cu_inb (by omega) (by omega))]
      simp only [cl_let, nI_clamp (show i < 2 ^ 31 by omega), nI_1]
      exact ih
  exact H n 0 (by omega) cl_F (by unfold cl_F; omega)
theorem cq_sun {M : cl_M} {t n : Nat} (hn : n ≤ 10) (h3 : M (t + 4) 3 = nI n) : f_X5_driedBySun M t = some (cu_it (fun i x => x + M (t + 4 + 8 + 1 + i) 13) n 0) := by
  have H : ∀ j i, i + j = n → ∀ k, j < k → f_X5_driedBySun_4 k M t (cu_it (fun i x => x + M (t + 4 + 8 + 1 + i) 13) i 0) (nI i) = some (cu_it (fun i x => x + M (t + 4 + 8 + 1 + i) 13) n 0) := by
    intro j
    induction j with
    | zero =>
      intro i hi k hk
      obtain ⟨k, rfl, hk⟩ := cu_fuel hk
      have hi : i = n := by omega
      subst hi
      rw [f_X5_driedBySun_4, h3, if_pos (nI_le (Nat.le_refl _) (by omega))]
    | succ j ih =>
      intro i hi k hk
      obtain ⟨k, rfl, hk⟩ := cu_fuel hk
      have ih := ih (i + 1) (by omega) k (by omega)
      rw [cu_it] at ih
      rw [f_X5_driedBySun_4, h3, if_neg (nI_ge (by omega) (by omega)), if_pos (cu_inb (by omega) (by omega))]
      simp only [cl_let, nI_clamp (show i < 2 ^ 31 by omega), nI_1]
      exact ih
  exact H n 0 (by omega) cl_F (by unfold cl_F; omega)
theorem cq_bywind {M : cl_M} {t n : Nat} (hn : n ≤ 10) (h3 : M (t + 4) 3 = nI n) : f_X5_driedByWind M t = some (cu_it (fun i x => x + M (t + 4 + 8 + 1 + i) 14) n 0) := by
  have H : ∀ j i, i + j = n → ∀ k, j < k → f_X5_driedByWind_4 k M t (cu_it (fun i x => x + M (t + 4 + 8 + 1 + i) 14) i 0) (nI i) = some (cu_it (fun i x => x + M (t + 4 + 8 + 1 + i) 14) n 0) := by
    intro j
    induction j with
    | zero =>
      intro i hi k hk
      obtain ⟨k, rfl, hk⟩ := cu_fuel hk
      have hi : i = n := by omega
      subst hi
      rw [f_X5_driedByWind_4, h3, if_pos (nI_le (Nat.le_refl _) (by omega))]
    | succ j ih =>
      intro i hi k hk
      obtain ⟨k, rfl, hk⟩ := cu_fuel hk
      have ih := ih (i + 1) (by omega) k (by omega)
      rw [cu_it] at ih
      rw [f_X5_driedByWind_4, h3, if_neg (nI_ge (by omega) (by omega)), if_pos (cu_inb (by omega) (by omega))]
      simp only [cl_let, nI_clamp (show i < 2 ^ 31 by omega), nI_1]
      exact ih
  exact H n 0 (by omega) cl_F (by unfold cl_F; omega)
theorem cq_takenN {N : cl_M} {r : Nat → Int32} {Gs : Nat → Nat → Int32} {n : Nat} {a : Int32} (hn : n ≤ 10) (h7 : r 7 = nI n) (hG : ∀ k, k < n → cg_E (Gs k) r k ∧ cg_W (Gs k)) : f_X6_taken (cl_row N 239 r) 237 a = some (cu_it (fun i x => if nI i = a then x else x ||| Gs i 8) n 0) := by
  have H : ∀ j i, i + j = n → ∀ k, j < k → f_X6_taken_4 k (cl_row N 239 r) 237 a (cu_it (fun i x => if nI i = a then x else x ||| Gs i 8) i 0) (nI i) = some (cu_it (fun i x => if nI i = a then x else x ||| Gs i 8) n 0) := by
    intro j
    induction j with
    | zero =>
      intro i hi k hk
      obtain ⟨k, rfl, hk⟩ := cu_fuel hk
      have hi : i = n := by omega
      subst hi
      rw [f_X6_taken_4, cm_now, h7, if_pos (nI_le (Nat.le_refl _) (by omega))]
    | succ j ih =>
      intro i hi k hk
      obtain ⟨k, rfl, hk⟩ := cu_fuel hk
      obtain ⟨hE, hW⟩ := hG i (by omega)
      have ih := ih (i + 1) (by omega) k (by omega)
      rw [cu_it] at ih
      rw [f_X6_taken_4, cm_now, h7, if_neg (nI_ge (by omega) (by omega))]
      by_cases q : nI i = a
      · rw [if_pos q] at ih ⊢
        simp only [f_X6_taken_30, cl_let, nI_1, Int32.or_zero]
        exact ih
      · rw [if_neg q] at ih ⊢
        rw [cg_spotsN (by omega) hE hW, Option.bind_some]
        simp only [f_X6_taken_30, cl_let, nI_1]
        exact ih
  exact H n 0 (by omega) cl_F (by unfold cl_F; omega)
theorem cq_stateN {N : cl_M} {r : Nat → Int32} {Gs : Nat → Nat → Int32} {n : Nat} {a : Int32} (hn : n ≤ 10) (h7 : r 7 = nI n) (hG : ∀ k, k < n → cg_E (Gs k) r k ∧ cg_W (Gs k)) : f_X6_setIn (cl_row N 239 r) 237 a = some (cu_it (fun i x => if Gs i 6 = a then x ||| (1 <<< (nI i &&& 31)) else x) n 0) := by
  have H : ∀ j i, i + j = n → ∀ k, j < k → f_X6_setIn_4 k (cl_row N 239 r) 237 a (cu_it (fun i x => if Gs i 6 = a then x ||| (1 <<< (nI i &&& 31)) else x) i 0) (nI i) = some (cu_it (fun i x => if Gs i 6 = a then x ||| (1 <<< (nI i &&& 31)) else x) n 0) := by
    intro j
    induction j with
    | zero =>
      intro i hi k hk
      obtain ⟨k, rfl, hk⟩ := cu_fuel hk
      have hi : i = n := by omega
      subst hi
      rw [f_X6_setIn_4, cm_now, h7, if_pos (nI_le (Nat.le_refl _) (by omega))]
    | succ j ih =>
      intro i hi k hk
      obtain ⟨k, rfl, hk⟩ := cu_fuel hk
      obtain ⟨hE, hW⟩ := hG i (by omega)
      have ih := ih (i + 1) (by omega) k (by omega)
      rw [cu_it] at ih
      rw [f_X6_setIn_4, cm_now, h7, if_neg (nI_ge (by omega) (by omega))]
      rw [cg_inN (by omega) hE, Option.bind_some]
      by_cases q : Gs i 6 = a
      · rw [if_pos q] at ih ⊢
        rw [if_neg (by decide)]
        simp only [f_X6_setIn_32, cl_let, nI_1]
        exact ih
      · rw [if_neg q] at ih ⊢
        rw [if_pos rfl]
        simp only [f_X6_setIn_32, cl_let, nI_1, Int32.or_zero]
        exact ih
  exact H n 0 (by omega) cl_F (by unfold cl_F; omega)
theorem cq_dryN {N : cl_M} {r : Nat → Int32} {Gs : Nat → Nat → Int32} {n : Nat} (hn : n ≤ 10) (h7 : r 7 = nI n) (hG : ∀ k, k < n → cg_E (Gs k) r k ∧ cg_W (Gs k)) : f_X6_drySet (cl_row N 239 r) 237 = some (cu_it (fun i x => if Gs i 3 = 0 then x ||| (1 <<< (nI i &&& 31)) else x) n 0) := by
  have H : ∀ j i, i + j = n → ∀ k, j < k → f_X6_drySet_4 k (cl_row N 239 r) 237 (cu_it (fun i x => if Gs i 3 = 0 then x ||| (1 <<< (nI i &&& 31)) else x) i 0) (nI i) = some (cu_it (fun i x => if Gs i 3 = 0 then x ||| (1 <<< (nI i &&& 31)) else x) n 0) := by
    intro j
    induction j with
    | zero =>
      intro i hi k hk
      obtain ⟨k, rfl, hk⟩ := cu_fuel hk
      have hi : i = n := by omega
      subst hi
      rw [f_X6_drySet_4, cm_now, h7, if_pos (nI_le (Nat.le_refl _) (by omega))]
    | succ j ih =>
      intro i hi k hk
      obtain ⟨k, rfl, hk⟩ := cu_fuel hk
      obtain ⟨hE, hW⟩ := hG i (by omega)
      have ih := ih (i + 1) (by omega) k (by omega)
      rw [cu_it] at ih
      rw [f_X6_drySet_4, cm_now, h7, if_neg (nI_ge (by omega) (by omega))]
      rw [cm_of3 (by omega), Option.bind_some, hE.1.2.2.2.1]
      by_cases q : Gs i 3 = 0
      · rw [if_pos q] at ih ⊢
        simp only [f_X6_drySet_32, cl_let, nI_1]
        exact ih
      · rw [if_neg q] at ih ⊢
        simp only [f_X6_drySet_32, cl_let, nI_1, Int32.or_zero]
        exact ih
  exact H n 0 (by omega) cl_F (by unfold cl_F; omega)
theorem cq_waterN {N : cl_M} {r : Nat → Int32} {Gs : Nat → Nat → Int32} {n : Nat} (hn : n ≤ 10) (h7 : r 7 = nI n) (hG : ∀ k, k < n → cg_E (Gs k) r k ∧ cg_W (Gs k)) : f_X6_allWater (cl_row N 239 r) 237 = some (cu_it (fun i x => x + Gs i 3) n 0) := by
  have H : ∀ j i, i + j = n → ∀ k, j < k → f_X6_allWater_4 k (cl_row N 239 r) 237 (cu_it (fun i x => x + Gs i 3) i 0) (nI i) = some (cu_it (fun i x => x + Gs i 3) n 0) := by
    intro j
    induction j with
    | zero =>
      intro i hi k hk
      obtain ⟨k, rfl, hk⟩ := cu_fuel hk
      have hi : i = n := by omega
      subst hi
      rw [f_X6_allWater_4, cm_now, h7, if_pos (nI_le (Nat.le_refl _) (by omega))]
    | succ j ih =>
      intro i hi k hk
      obtain ⟨k, rfl, hk⟩ := cu_fuel hk
      obtain ⟨hE, hW⟩ := hG i (by omega)
      have ih := ih (i + 1) (by omega) k (by omega)
      rw [cu_it] at ih
      rw [f_X6_allWater_4, cm_now, h7, if_neg (nI_ge (by omega) (by omega))]
      rw [cm_of3 (by omega), Option.bind_some, hE.1.2.2.2.1]
      simp only [cl_let, nI_1]
      exact ih
  exact H n 0 (by omega) cl_F (by unfold cl_F; omega)
/-- the first garment on a spot -/
def cq_on (Gs : Nat → Nat → Int32) (s : Int32) : Nat → Nat → Int32
  | 0, _ => -1
  | j + 1, i => if ((Gs i 8) >>> (s &&& 31)) &&& 1 = 1 then nI i else cq_on Gs s j (i + 1)
theorem cq_onC {M : cl_M} {t n : Nat} {s : Int32} (hn : n ≤ 10) (h3 : M t 3 = nI n) : f_X2_occupant M t s = some (cq_on (fun k => M (t + 8 + 1 + k)) s n 0) := by
  have H : ∀ j i, i + j = n → ∀ k, j < k → f_X2_occupant_2 k M t s (nI i) = some (cq_on (fun k => M (t + 8 + 1 + k)) s j i) := by
    intro j
    induction j with
    | zero =>
      intro i hi k hk
      obtain ⟨k, rfl, hk⟩ := cu_fuel hk
      have hi : i = n := by omega
      subst hi
      rw [f_X2_occupant_2, h3, if_pos (nI_le (Nat.le_refl _) (by omega))]
      rfl
    | succ j ih =>
      intro i hi k hk
      obtain ⟨k, rfl, hk⟩ := cu_fuel hk
      have ih := ih (i + 1) (by omega) k (by omega)
      rw [f_X2_occupant_2, h3, if_neg (nI_ge (by omega) (by omega)), if_pos (cu_inb (by omega) (by omega)), nI_clamp (by omega), cq_on]
      by_cases q : ((M (t + 8 + 1 + i) 8) >>> (s &&& 31)) &&& 1 = 1
      · rw [if_pos q, if_pos q]
      · rw [if_neg q, if_neg q, cl_let, nI_1]
        exact ih
  exact H n 0 (by omega) cl_F (by unfold cl_F; omega)
theorem cq_hasN (N : cl_M) (x s : Int32) : f_X6_has N x s = some (if (x >>> (s &&& 31)) &&& 1 = 1 then 1 else 0) := by
  have z1 : cl_bz 1 = true := by decide
  have z0 : cl_bz 0 = true := by decide
  rw [f_X6_has]
  by_cases q : (x >>> (s &&& 31)) &&& 1 = 1
  · rw [if_pos q, if_pos q, f_X6_has_14, if_pos z1]
  · rw [if_neg q, if_neg q, f_X6_has_14, if_pos z0]
theorem cq_onN {N : cl_M} {r : Nat → Int32} {Gs : Nat → Nat → Int32} {n : Nat} {s : Int32} (hn : n ≤ 10) (h7 : r 7 = nI n) (hG : ∀ k, k < n → cg_E (Gs k) r k ∧ cg_W (Gs k)) : f_X6_onSpot (cl_row N 239 r) 237 s = some (cq_on Gs s n 0) := by
  have H : ∀ j i, i + j = n → ∀ k, j < k → f_X6_onSpot_2 k (cl_row N 239 r) 237 s (nI i) = some (cq_on Gs s j i) := by
    intro j
    induction j with
    | zero =>
      intro i hi k hk
      obtain ⟨k, rfl, hk⟩ := cu_fuel hk
      have hi : i = n := by omega
      subst hi
      rw [f_X6_onSpot_2, cm_now, h7, if_pos (nI_le (Nat.le_refl _) (by omega))]
      rfl
    | succ j ih =>
      intro i hi k hk
      obtain ⟨k, rfl, hk⟩ := cu_fuel hk
      obtain ⟨hE, hW⟩ := hG i (by omega)
      have ih := ih (i + 1) (by omega) k (by omega)
      rw [f_X6_onSpot_2, cm_now, h7, if_neg (nI_ge (by omega) (by omega)), cg_spotsN (by omega) hE hW, Option.bind_some, cq_hasN, Option.bind_some, cq_on]
      by_cases q : ((Gs i 8) >>> (s &&& 31)) &&& 1 = 1
      · rw [if_pos q, if_pos q, if_neg (by decide)]
      · rw [if_neg q, if_neg q, if_pos rfl, cl_let, nI_1]
        exact ih
  exact H n 0 (by omega) cl_F (by unfold cl_F; omega)
