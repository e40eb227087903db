/-! commands done: on both sides -/
section TD
variable {M N : cl_M}
theorem tx_bzv {v : Int32} (h : v = 0 ∨ v = 1) : cl_bz v = true := by rcases h with rfl | rfl <;> decide
theorem td_isIn {t n m g : Nat} {q : Int32} (L : cg_L M t (N 239) n m) (hg : g < n) : f_X6_isIn N 237 (nI g) q = some (if M (t + 9 + g) 6 = q then 1 else 0) := by
  have hn := L.1.1
  rw [cu_rowN N]
  exact cg_inN (by omega) (ck_G L g hg).1
theorem tx_exec {t n m q c : Nat} {a : Nat → Nat} (L : cg_L M t (N 239) n m) (hq : q < 10) (h6 : M 1 6 = nI (q + 1)) (hA : tx_as M N (tx_n q) a) (hok : tx_ok q n c a) (hc : N 239 4 = nI c) (hc8 : c ≤ 8)
    (f0 : q = 0 → n < 10) (f6 : q = 6 → ∃ z, z < 4 ∧ N 239 5 = nI z) (f7 : q = 7 → ∃ z, z < 4 ∧ N 239 6 = nI z) (hm : m + 200 < 2 ^ 30) :
    (f_X3_execute M 1 t = some (0, M) ∧ f_X6_isPossible N 237 (nI q) = some 0) ∨
    ∃ M' u r' n' m', f_X3_execute M 1 t = some (1, M') ∧ f_X6_isPossible N 237 (nI q) = some 1 ∧ f_X6_does N 237 (nI q) = some (u, cl_row N 239 r') ∧ cg_L M' t r' n' m' ∧ m' ≤ m + 200 ∧ ∀ x, x < t ∨ t + 19 ≤ x → M' x = M x := by
  have hn := L.1.1
  have z1 : cl_bz 1 = true := by decide
  have z0 : cl_bz 0 = true := by decide
  have o1 : ¬ (1 : Int32) = 0 := by decide
  have hr := cu_rowN N
  rcases (show q = 0 ∨ q = 1 ∨ q = 2 ∨ q = 3 ∨ q = 4 ∨ q = 5 ∨ q = 6 ∨ q = 7 ∨ q = 8 ∨ q = 9 by omega) with rfl | rfl | rfl | rfl | rfl | rfl | rfl | rfl | rfl | rfl
  · right
    have m0 : M (1 + 2) 0 = nI (a 0) := (hA 0 (by decide)).1
    have n0 : N (237 + 8) 0 = nI (a 0) := (hA 0 (by decide)).2
    have m1 : M (1 + 2) 1 = nI (a 1) := (hA 1 (by decide)).1
    have n1 : N (237 + 8) 1 = nI (a 1) := (hA 1 (by decide)).2
    have m2 : M (1 + 2) 2 = nI (a 2) := (hA 2 (by decide)).1
    have n2 : N (237 + 8) 2 = nI (a 2) := (hA 2 (by decide)).2
    have m3 : M (1 + 2) 3 = nI (a 3) := (hA 3 (by decide)).1
    have n3 : N (237 + 8) 3 = nI (a 3) := (hA 3 (by decide)).2
    obtain ⟨k1, k2, k3, k4, k5, k6, k7⟩ : 1 ≤ a 0 ∧ a 0 ≤ 6 ∧ 1 ≤ a 1 ∧ a 1 ≤ 99 ∧ 1 ≤ a 2 ∧ a 2 ≤ 999 ∧ a 3 ≤ a 2 := hok
    have hn9 : n < 10 := f0 rfl
    clear f0 f6 f7
    obtain ⟨M', r', y1, y2, y3, y4⟩ := ac_append (N := N) L hn9 k1 k2 k3 k4 k5 k6 k7
    rw [← hr] at y2
    refine ⟨M', nI n, r', n + 1, m, ?_, ?_, ?_, y3, by omega, fun x hx => y4 x (by omega) (by omega)⟩
    · rw [f_X3_execute, h6, if_pos (show nI (0 + 1) = 1 from rfl), m0, m1, m2, m3, y1, Option.bind_some]
    · rw [f_X6_isPossible, if_neg (show ¬ nI 0 = 1 by decide), if_neg (show ¬ nI 0 = 2 by decide), if_neg (show ¬ nI 0 = 3 by decide), if_neg (show ¬ nI 0 = 4 by decide), if_neg (show ¬ nI 0 = 5 by decide)]
    · rw [f_X6_does, if_pos (show nI 0 = 0 from rfl), n0, n1, n2, n3, y2, cu_b2]
  · have hqq := hA
    have m0 : M (1 + 2) 0 = nI (a 0) := (hA 0 (by decide)).1
    have n0 : N (237 + 8) 0 = nI (a 0) := (hA 0 (by decide)).2
    have m1 : M (1 + 2) 1 = nI (a 1) := (hA 1 (by decide)).1
    have n1 : N (237 + 8) 1 = nI (a 1) := (hA 1 (by decide)).2
    have m2 : M (1 + 2) 2 = nI (a 2) := (hA 2 (by decide)).1
    have n2 : N (237 + 8) 2 = nI (a 2) := (hA 2 (by decide)).2
    have m3 : M (1 + 2) 3 = nI (a 3) := (hA 3 (by decide)).1
    have n3 : N (237 + 8) 3 = nI (a 3) := (hA 3 (by decide)).2
    obtain ⟨k1, k2, k3, k4⟩ : a 0 < n ∧ a 1 ≤ 23 ∧ a 2 ≤ 4 ∧ a 3 ≤ 4 := hok
    obtain ⟨v, y1, y2, y3⟩ := ck_obst (N := N) L (s := nI (a 1)) k1 k3 k4
    rw [← hr] at y2
    have y1 : f_X2_obstacle M t (t + 8 + 1 + a 0) (nI (a 1)) (nI (a 2)) (nI (a 3)) = some v := y1
    by_cases hv : v = 0
    · right
      obtain ⟨w1, w2, w3, w4, w5⟩ := y3 hv
      obtain ⟨M', r', u1, u2, u3, u4⟩ := ac_hang (N := N) L k1 (show a 1 < 24 by omega) k3 k4 w1 w2 w3 w4 w5
      rw [← hr] at u2
      have u1 : f_X0_hangUp M (t + 8 + 1 + a 0) (nI (a 1)) (nI (a 2)) (nI (a 3)) = some M' := u1
      refine ⟨M', cg_hold (M' (t + 9 + a 0)), r', n, m, ?_, ?_, ?_, u3, by omega, fun x hx => u4 x (by omega)⟩
      · rw [f_X3_execute, h6, if_neg (show ¬ nI (1 + 1) = 1 by decide), if_pos (show nI (1 + 1) = 2 from rfl), f_X3_execute_173, m0, if_pos (cu_inb (by omega) (by omega)), nI_clamp (by omega), f_X3_handle, h6, if_pos (show nI (1 + 1) = 2 from rfl), m1, m2, m3, y1, Option.bind_some, if_pos hv, u1, Option.bind_some, cu_b2, if_pos z1]
      · rw [f_X6_isPossible, if_pos (show nI 1 = 1 from rfl), n0, n1, n2, n3, y2, Option.bind_some, if_pos hv, f_X6_isPossible_72, if_pos z1]
      · rw [f_X6_does, if_neg (show ¬ nI 1 = 0 by decide), if_pos (show nI 1 = 1 from rfl), n0, n1, n2, n3, u2, cu_b2]
    · left
      constructor
      · rw [f_X3_execute, h6, if_neg (show ¬ nI (1 + 1) = 1 by decide), if_pos (show nI (1 + 1) = 2 from rfl), f_X3_execute_173, m0, if_pos (cu_inb (by omega) (by omega)), nI_clamp (by omega), f_X3_handle, h6, if_pos (show nI (1 + 1) = 2 from rfl), m1, m2, m3, y1, Option.bind_some, if_neg hv, cu_b2, if_pos z0]
      · rw [f_X6_isPossible, if_pos (show nI 1 = 1 from rfl), n0, n1, n2, n3, y2, Option.bind_some, if_neg hv, f_X6_isPossible_72, if_pos z0]
  · have hqq := hA
    have m0 : M (1 + 2) 0 = nI (a 0) := (hA 0 (by decide)).1
    have n0 : N (237 + 8) 0 = nI (a 0) := (hA 0 (by decide)).2
    have k1 : a 0 < n := hok
    by_cases hs : M (t + 9 + a 0) 6 = 1
    · right
      have hs' : M (t + 8 + 1 + a 0) 6 = 1 := hs
      obtain ⟨M', r', u1, u2, u3, u4⟩ := ac_take (N := N) L k1
      rw [← hr] at u2
      have u1 : f_X0_putInto M (t + 8 + 1 + a 0) 0 = some M' := u1
      refine ⟨M', M' (t + 9 + a 0) 3, r', n, m, ?_, ?_, ?_, u3, by omega, fun x hx => u4 x (by omega)⟩
      · rw [f_X3_execute, h6, if_neg (show ¬ nI (2 + 1) = 1 by decide), if_neg (show ¬ nI (2 + 1) = 2 by decide), if_pos (show nI (2 + 1) = 3 from rfl), f_X3_execute_173, m0, if_pos (cu_inb (by omega) (by omega)), nI_clamp (by omega), f_X3_handle, h6, if_neg (show ¬ nI (2 + 1) = 2 by decide), if_pos (show nI (2 + 1) = 3 from rfl), f_X3_handle_135, h6, if_pos (show nI (2 + 1) = 3 from rfl), f_X3_handle_152, if_pos hs', u1, Option.bind_some, cu_b2, if_pos z1]
      · rw [f_X6_isPossible, if_neg (show ¬ nI 2 = 1 by decide), if_pos (show nI 2 = 2 from rfl), n0, td_isIn L k1, Option.bind_some, if_pos hs, if_pos z1]
      · rw [f_X6_does, if_neg (show ¬ nI 2 = 0 by decide), if_neg (show ¬ nI 2 = 1 by decide), if_pos (show nI 2 = 2 from rfl), n0, u2, cu_b2]
    · left
      have hs' : ¬ M (t + 8 + 1 + a 0) 6 = 1 := hs
      constructor
      · rw [f_X3_execute, h6, if_neg (show ¬ nI (2 + 1) = 1 by decide), if_neg (show ¬ nI (2 + 1) = 2 by decide), if_pos (show nI (2 + 1) = 3 from rfl), f_X3_execute_173, m0, if_pos (cu_inb (by omega) (by omega)), nI_clamp (by omega), f_X3_handle, h6, if_neg (show ¬ nI (2 + 1) = 2 by decide), if_pos (show nI (2 + 1) = 3 from rfl), f_X3_handle_135, h6, if_pos (show nI (2 + 1) = 3 from rfl), f_X3_handle_152, if_neg hs', cu_b2, if_pos z0]
      · rw [f_X6_isPossible, if_neg (show ¬ nI 2 = 1 by decide), if_pos (show nI 2 = 2 from rfl), n0, td_isIn L k1, Option.bind_some, if_neg hs, if_pos z0]
  · have hqq := hA
    have m0 : M (1 + 2) 0 = nI (a 0) := (hA 0 (by decide)).1
    have n0 : N (237 + 8) 0 = nI (a 0) := (hA 0 (by decide)).2
    have k1 : a 0 < n := hok
    by_cases hs : M (t + 9 + a 0) 6 = 2
    · right
      have hs' : M (t + 8 + 1 + a 0) 6 = 2 := hs
      obtain ⟨M', r', v, u1, -, -, u2, u3, u4⟩ := ac_pick (N := N) L k1 hs
      rw [← hr] at u2
      have u1 : f_X0_putInto M (t + 8 + 1 + a 0) 0 = some M' := u1
      refine ⟨M', cu_bc v, r', n, m, ?_, ?_, ?_, u3, by omega, fun x hx => u4 x (by omega)⟩
      · rw [f_X3_execute, h6, if_neg (show ¬ nI (3 + 1) = 1 by decide), if_neg (show ¬ nI (3 + 1) = 2 by decide), if_neg (show ¬ nI (3 + 1) = 3 by decide), if_pos (show nI (3 + 1) = 4 from rfl), f_X3_execute_173, m0, if_pos (cu_inb (by omega) (by omega)), nI_clamp (by omega), f_X3_handle, h6, if_neg (show ¬ nI (3 + 1) = 2 by decide), if_neg (show ¬ nI (3 + 1) = 3 by decide), if_pos (show nI (3 + 1) = 4 from rfl), f_X3_handle_135, h6, if_neg (show ¬ nI (3 + 1) = 3 by decide), f_X3_handle_152, if_pos hs', u1, Option.bind_some, cu_b2, if_pos z1]
      · rw [f_X6_isPossible, if_neg (show ¬ nI 3 = 1 by decide), if_neg (show ¬ nI 3 = 2 by decide), if_pos (show nI 3 = 3 from rfl), n0, td_isIn L k1, Option.bind_some, if_pos hs, if_pos z1]
      · rw [f_X6_does, if_neg (show ¬ nI 3 = 0 by decide), if_neg (show ¬ nI 3 = 1 by decide), if_neg (show ¬ nI 3 = 2 by decide), if_pos (show nI 3 = 3 from rfl), n0, u2, cu_b2]
    · left
      have hs' : ¬ M (t + 8 + 1 + a 0) 6 = 2 := hs
      constructor
      · rw [f_X3_execute, h6, if_neg (show ¬ nI (3 + 1) = 1 by decide), if_neg (show ¬ nI (3 + 1) = 2 by decide), if_neg (show ¬ nI (3 + 1) = 3 by decide), if_pos (show nI (3 + 1) = 4 from rfl), f_X3_execute_173, m0, if_pos (cu_inb (by omega) (by omega)), nI_clamp (by omega), f_X3_handle, h6, if_neg (show ¬ nI (3 + 1) = 2 by decide), if_neg (show ¬ nI (3 + 1) = 3 by decide), if_pos (show nI (3 + 1) = 4 from rfl), f_X3_handle_135, h6, if_neg (show ¬ nI (3 + 1) = 3 by decide), f_X3_handle_152, if_neg hs', cu_b2, if_pos z0]
      · rw [f_X6_isPossible, if_neg (show ¬ nI 3 = 1 by decide), if_neg (show ¬ nI 3 = 2 by decide), if_pos (show nI 3 = 3 from rfl), n0, td_isIn L k1, Option.bind_some, if_neg hs, if_pos z0]
  · have hqq := hA
    have m0 : M (1 + 2) 0 = nI (a 0) := (hA 0 (by decide)).1
    have n0 : N (237 + 8) 0 = nI (a 0) := (hA 0 (by decide)).2
    have k1 : a 0 < n := hok
    by_cases hs : M (t + 9 + a 0) 6 = 0
    · right
      have hs' : M (t + 8 + 1 + a 0) 6 = 0 := hs
      obtain ⟨M', r', u1, u2, u3, u4⟩ := ac_wash (N := N) L k1
      rw [← hr] at u2
      have u1 : f_X0_soak M (t + 8 + 1 + a 0) = some M' := u1
      refine ⟨M', M' (t + 9 + a 0) 3 - M (t + 9 + a 0) 3, r', n, m, ?_, ?_, ?_, u3, by omega, fun x hx => u4 x (by omega)⟩
      · rw [f_X3_execute, h6, if_neg (show ¬ nI (4 + 1) = 1 by decide), if_neg (show ¬ nI (4 + 1) = 2 by decide), if_neg (show ¬ nI (4 + 1) = 3 by decide), if_neg (show ¬ nI (4 + 1) = 4 by decide), if_pos (show nI (4 + 1) = 5 from rfl), f_X3_execute_173, m0, if_pos (cu_inb (by omega) (by omega)), nI_clamp (by omega), f_X3_handle, h6, if_neg (show ¬ nI (4 + 1) = 2 by decide), if_neg (show ¬ nI (4 + 1) = 3 by decide), if_neg (show ¬ nI (4 + 1) = 4 by decide), if_pos (show nI (4 + 1) = 5 from rfl), if_pos hs', u1, Option.bind_some, cu_b2, if_pos z1]
      · rw [f_X6_isPossible, if_neg (show ¬ nI 4 = 1 by decide), if_neg (show ¬ nI 4 = 2 by decide), if_neg (show ¬ nI 4 = 3 by decide), if_pos (show nI 4 = 4 from rfl), n0, td_isIn L k1, Option.bind_some, if_pos hs, if_pos z1]
      · rw [f_X6_does, if_neg (show ¬ nI 4 = 0 by decide), if_neg (show ¬ nI 4 = 1 by decide), if_neg (show ¬ nI 4 = 2 by decide), if_neg (show ¬ nI 4 = 3 by decide), if_pos (show nI 4 = 4 from rfl), n0, u2, cu_b2]
    · left
      have hs' : ¬ M (t + 8 + 1 + a 0) 6 = 0 := hs
      constructor
      · rw [f_X3_execute, h6, if_neg (show ¬ nI (4 + 1) = 1 by decide), if_neg (show ¬ nI (4 + 1) = 2 by decide), if_neg (show ¬ nI (4 + 1) = 3 by decide), if_neg (show ¬ nI (4 + 1) = 4 by decide), if_pos (show nI (4 + 1) = 5 from rfl), f_X3_execute_173, m0, if_pos (cu_inb (by omega) (by omega)), nI_clamp (by omega), f_X3_handle, h6, if_neg (show ¬ nI (4 + 1) = 2 by decide), if_neg (show ¬ nI (4 + 1) = 3 by decide), if_neg (show ¬ nI (4 + 1) = 4 by decide), if_pos (show nI (4 + 1) = 5 from rfl), if_neg hs', cu_b2, if_pos z0]
      · rw [f_X6_isPossible, if_neg (show ¬ nI 4 = 1 by decide), if_neg (show ¬ nI 4 = 2 by decide), if_neg (show ¬ nI 4 = 3 by decide), if_pos (show nI 4 = 4 from rfl), n0, td_isIn L k1, Option.bind_some, if_neg hs, if_pos z0]
  · have hqq := hA
    have m0 : M (1 + 2) 0 = nI (a 0) := (hA 0 (by decide)).1
    have n0 : N (237 + 8) 0 = nI (a 0) := (hA 0 (by decide)).2
    have m1 : M (1 + 2) 1 = nI (a 1) := (hA 1 (by decide)).1
    have n1 : N (237 + 8) 1 = nI (a 1) := (hA 1 (by decide)).2
    obtain ⟨k1, k2⟩ : a 0 < n ∧ a 1 ≤ 23 := hok
    obtain ⟨v, hv01, y1, y2, y3⟩ := ck_shift (N := N) L (s := nI (a 1)) k1
    rw [← hr] at y2
    have y1 : f_X2_canShift M t (t + 8 + 1 + a 0) (nI (a 1)) = some v := y1
    by_cases hv : v = 0
    · left
      constructor
      · rw [f_X3_execute, h6, if_neg (show ¬ nI (5 + 1) = 1 by decide), if_neg (show ¬ nI (5 + 1) = 2 by decide), if_neg (show ¬ nI (5 + 1) = 3 by decide), if_neg (show ¬ nI (5 + 1) = 4 by decide), if_neg (show ¬ nI (5 + 1) = 5 by decide), if_pos (show nI (5 + 1) = 6 from rfl), f_X3_execute_173, m0, if_pos (cu_inb (by omega) (by omega)), nI_clamp (by omega), f_X3_handle, h6, if_neg (show ¬ nI (5 + 1) = 2 by decide), if_neg (show ¬ nI (5 + 1) = 3 by decide), if_neg (show ¬ nI (5 + 1) = 4 by decide), if_neg (show ¬ nI (5 + 1) = 5 by decide), if_pos (show nI (5 + 1) = 6 from rfl), m1, y1, Option.bind_some, if_pos hv, cu_b2, if_pos z0]
      · rw [f_X6_isPossible, if_neg (show ¬ nI 5 = 1 by decide), if_neg (show ¬ nI 5 = 2 by decide), if_neg (show ¬ nI 5 = 3 by decide), if_neg (show ¬ nI 5 = 4 by decide), if_pos (show nI 5 = 5 from rfl), n0, n1, y2, Option.bind_some, if_pos (tx_bzv hv01), hv]
    · right
      obtain ⟨w1, w2, w3⟩ := y3 hv
      obtain ⟨M', r', u1, u2, u3, u4⟩ := ac_move (N := N) L k1 (show a 1 < 24 by omega) w1 w2 w3
      rw [← hr] at u2
      have u1 : f_X0_moveTo M (t + 8 + 1 + a 0) (nI (a 1)) = some M' := u1
      refine ⟨M', M (t + 9 + a 0) 7, r', n, m, ?_, ?_, ?_, u3, by omega, fun x hx => u4 x (by omega)⟩
      · rw [f_X3_execute, h6, if_neg (show ¬ nI (5 + 1) = 1 by decide), if_neg (show ¬ nI (5 + 1) = 2 by decide), if_neg (show ¬ nI (5 + 1) = 3 by decide), if_neg (show ¬ nI (5 + 1) = 4 by decide), if_neg (show ¬ nI (5 + 1) = 5 by decide), if_pos (show nI (5 + 1) = 6 from rfl), f_X3_execute_173, m0, if_pos (cu_inb (by omega) (by omega)), nI_clamp (by omega), f_X3_handle, h6, if_neg (show ¬ nI (5 + 1) = 2 by decide), if_neg (show ¬ nI (5 + 1) = 3 by decide), if_neg (show ¬ nI (5 + 1) = 4 by decide), if_neg (show ¬ nI (5 + 1) = 5 by decide), if_pos (show nI (5 + 1) = 6 from rfl), m1, y1, Option.bind_some, if_neg hv, u1, Option.bind_some, cu_b2, if_pos z1]
      · rw [f_X6_isPossible, if_neg (show ¬ nI 5 = 1 by decide), if_neg (show ¬ nI 5 = 2 by decide), if_neg (show ¬ nI 5 = 3 by decide), if_neg (show ¬ nI 5 = 4 by decide), if_pos (show nI 5 = 5 from rfl), n0, n1, y2, Option.bind_some, if_pos (tx_bzv hv01), hv01.resolve_left hv]
      · rw [f_X6_does, if_neg (show ¬ nI 5 = 0 by decide), if_neg (show ¬ nI 5 = 1 by decide), if_neg (show ¬ nI 5 = 2 by decide), if_neg (show ¬ nI 5 = 3 by decide), if_neg (show ¬ nI 5 = 4 by decide), if_pos (show nI 5 = 5 from rfl), n0, n1, u2, cu_b2]
  · right
    have m0 : M (1 + 2) 0 = nI (a 0) := (hA 0 (by decide)).1
    have n0 : N (237 + 8) 0 = nI (a 0) := (hA 0 (by decide)).2
    have m1 : M (1 + 2) 1 = nI (a 1) := (hA 1 (by decide)).1
    have n1 : N (237 + 8) 1 = nI (a 1) := (hA 1 (by decide)).2
    have m2 : M (1 + 2) 2 = nI (a 2) := (hA 2 (by decide)).1
    have n2 : N (237 + 8) 2 = nI (a 2) := (hA 2 (by decide)).2
    obtain ⟨k1, k2, k3, k4, k5⟩ : a 0 ≤ 9999 ∧ 1 ≤ a 1 ∧ a 1 ≤ 200 ∧ 1 ≤ a 2 ∧ a 2 ≤ 20 := hok
    obtain ⟨z, hz, ez⟩ := f6 rfl
    obtain ⟨M', r', y1, -, y2, y3, y4⟩ := ac_shower (N := N) L ez hz k1 k2 k3 k4 k5
    rw [← hr] at y2
    refine ⟨M', nI (z + 1), r', n, m, ?_, ?_, ?_, y3, by omega, fun x hx => y4 x (by omega)⟩
    · rw [f_X3_execute, h6, if_neg (show ¬ nI (6 + 1) = 1 by decide), if_neg (show ¬ nI (6 + 1) = 2 by decide), if_neg (show ¬ nI (6 + 1) = 3 by decide), if_neg (show ¬ nI (6 + 1) = 4 by decide), if_neg (show ¬ nI (6 + 1) = 5 by decide), if_neg (show ¬ nI (6 + 1) = 6 by decide), if_pos (show nI (6 + 1) = 7 from rfl), m0, m1, m2, y1, Option.bind_some]
    · rw [f_X6_isPossible, if_neg (show ¬ nI 6 = 1 by decide), if_neg (show ¬ nI 6 = 2 by decide), if_neg (show ¬ nI 6 = 3 by decide), if_neg (show ¬ nI 6 = 4 by decide), if_neg (show ¬ nI 6 = 5 by decide)]
    · rw [f_X6_does, if_neg (show ¬ nI 6 = 0 by decide), if_neg (show ¬ nI 6 = 1 by decide), if_neg (show ¬ nI 6 = 2 by decide), if_neg (show ¬ nI 6 = 3 by decide), if_neg (show ¬ nI 6 = 4 by decide), if_neg (show ¬ nI 6 = 5 by decide), if_pos (show nI 6 = 6 from rfl), n0, n1, n2, y2, cu_b2]
  · right
    have m0 : M (1 + 2) 0 = nI (a 0) := (hA 0 (by decide)).1
    have n0 : N (237 + 8) 0 = nI (a 0) := (hA 0 (by decide)).2
    have m1 : M (1 + 2) 1 = nI (a 1) := (hA 1 (by decide)).1
    have n1 : N (237 + 8) 1 = nI (a 1) := (hA 1 (by decide)).2
    obtain ⟨k1, k2⟩ : a 0 ≤ a 1 ∧ a 1 ≤ 9999 := hok
    obtain ⟨z, hz, ez⟩ := f7 rfl
    obtain ⟨M', r', y1, -, y2, y3, y4⟩ := ac_smoke (N := N) L ez hz k1 k2
    rw [← hr] at y2
    refine ⟨M', nI (z + 1), r', n, m, ?_, ?_, ?_, y3, by omega, fun x hx => y4 x (by omega)⟩
    · rw [f_X3_execute, h6, if_neg (show ¬ nI (7 + 1) = 1 by decide), if_neg (show ¬ nI (7 + 1) = 2 by decide), if_neg (show ¬ nI (7 + 1) = 3 by decide), if_neg (show ¬ nI (7 + 1) = 4 by decide), if_neg (show ¬ nI (7 + 1) = 5 by decide), if_neg (show ¬ nI (7 + 1) = 6 by decide), if_neg (show ¬ nI (7 + 1) = 7 by decide), if_pos (show nI (7 + 1) = 8 from rfl), m0, m1, y1, Option.bind_some]
    · rw [f_X6_isPossible, if_neg (show ¬ nI 7 = 1 by decide), if_neg (show ¬ nI 7 = 2 by decide), if_neg (show ¬ nI 7 = 3 by decide), if_neg (show ¬ nI 7 = 4 by decide), if_neg (show ¬ nI 7 = 5 by decide)]
    · rw [f_X6_does, if_neg (show ¬ nI 7 = 0 by decide), if_neg (show ¬ nI 7 = 1 by decide), if_neg (show ¬ nI 7 = 2 by decide), if_neg (show ¬ nI 7 = 3 by decide), if_neg (show ¬ nI 7 = 4 by decide), if_neg (show ¬ nI 7 = 5 by decide), if_neg (show ¬ nI 7 = 6 by decide), if_pos (show nI 7 = 7 from rfl), n0, n1, y2, cu_b2]
  · right
    have m0 : M (1 + 2) 0 = nI (a 0) := (hA 0 (by decide)).1
    have n0 : N (237 + 8) 0 = nI (a 0) := (hA 0 (by decide)).2
    have m1 : M (1 + 2) 1 = nI (a 1) := (hA 1 (by decide)).1
    have n1 : N (237 + 8) 1 = nI (a 1) := (hA 1 (by decide)).2
    obtain ⟨k1, k2⟩ : a 0 < c ∧ a 1 ≤ 5 := hok
    obtain ⟨r', -, y2, y3⟩ := ac_wind (N := N) L hc hc8 k1 k2
    rw [← hr] at y2
    refine ⟨cl_ms M (t + 1 + 1) (a 0) (nI (a 1)), N 239 (11 + a 0), r', n, m, ?_, ?_, ?_, y3, by omega, fun x hx => cp_ms (by omega)⟩
    · rw [f_X3_execute, h6, if_neg (show ¬ nI (8 + 1) = 1 by decide), if_neg (show ¬ nI (8 + 1) = 2 by decide), if_neg (show ¬ nI (8 + 1) = 3 by decide), if_neg (show ¬ nI (8 + 1) = 4 by decide), if_neg (show ¬ nI (8 + 1) = 5 by decide), if_neg (show ¬ nI (8 + 1) = 6 by decide), if_neg (show ¬ nI (8 + 1) = 7 by decide), if_neg (show ¬ nI (8 + 1) = 8 by decide), if_pos (show nI (8 + 1) = 9 from rfl), m0, if_pos (cu_inb (by omega) (by omega)), nI_clamp (by omega), m1, cl_let]
    · rw [f_X6_isPossible, if_neg (show ¬ nI 8 = 1 by decide), if_neg (show ¬ nI 8 = 2 by decide), if_neg (show ¬ nI 8 = 3 by decide), if_neg (show ¬ nI 8 = 4 by decide), if_neg (show ¬ nI 8 = 5 by decide)]
    · rw [f_X6_does, if_neg (show ¬ nI 8 = 0 by decide), if_neg (show ¬ nI 8 = 1 by decide), if_neg (show ¬ nI 8 = 2 by decide), if_neg (show ¬ nI 8 = 3 by decide), if_neg (show ¬ nI 8 = 4 by decide), if_neg (show ¬ nI 8 = 5 by decide), if_neg (show ¬ nI 8 = 6 by decide), if_neg (show ¬ nI 8 = 7 by decide), if_pos (show nI 8 = 8 from rfl), n0, n1, y2, cu_b2]
  · right
    have m0 : M (1 + 2) 0 = nI (a 0) := (hA 0 (by decide)).1
    have n0 : N (237 + 8) 0 = nI (a 0) := (hA 0 (by decide)).2
    obtain ⟨k1, k2⟩ : 1 ≤ a 0 ∧ a 0 ≤ 200 := hok
    obtain ⟨v, M', r', y1, y2, y3, y4⟩ := cg_L_pass (N := N) (a := a 0) L (by omega) (by omega)
    rw [← hr] at y2
    refine ⟨M', v, r', n, m + a 0, ?_, ?_, ?_, y3, by omega, fun x hx => y4 x hx⟩
    · rw [f_X3_execute, h6, if_neg (show ¬ nI (9 + 1) = 1 by decide), if_neg (show ¬ nI (9 + 1) = 2 by decide), if_neg (show ¬ nI (9 + 1) = 3 by decide), if_neg (show ¬ nI (9 + 1) = 4 by decide), if_neg (show ¬ nI (9 + 1) = 5 by decide), if_neg (show ¬ nI (9 + 1) = 6 by decide), if_neg (show ¬ nI (9 + 1) = 7 by decide), if_neg (show ¬ nI (9 + 1) = 8 by decide), if_neg (show ¬ nI (9 + 1) = 9 by decide), if_pos (show nI (9 + 1) = 10 from rfl), m0, y1, cu_b2]
    · rw [f_X6_isPossible, if_neg (show ¬ nI 9 = 1 by decide), if_neg (show ¬ nI 9 = 2 by decide), if_neg (show ¬ nI 9 = 3 by decide), if_neg (show ¬ nI 9 = 4 by decide), if_neg (show ¬ nI 9 = 5 by decide)]
    · rw [f_X6_does, if_neg (show ¬ nI 9 = 0 by decide), if_neg (show ¬ nI 9 = 1 by decide), if_neg (show ¬ nI 9 = 2 by decide), if_neg (show ¬ nI 9 = 3 by decide), if_neg (show ¬ nI 9 = 4 by decide), if_neg (show ¬ nI 9 = 5 by decide), if_neg (show ¬ nI 9 = 6 by decide), if_neg (show ¬ nI 9 = 7 by decide), if_neg (show ¬ nI 9 = 8 by decide), n0, y2, cu_b2]
end TD
