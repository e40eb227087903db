/-! questions to a line, on both sides -/
section CK
variable {M N : cl_M} {t n m : Nat} {r : Nat → Int32}
theorem ck_G (L : cg_L M t r n m) : ∀ k, k < n → cg_E (cg_G M t k) r k ∧ cg_W (cg_G M t k) := L.2.1
theorem cu_sm_peg {f : Nat → Int32} (h : ∀ k, k < n → f k = nI (cN (f k))) : cu_sm f n = nI (cu_ns (fun k => cN (f k)) n) := cu_sm_nI h
theorem ck_wood (L : cg_L M t r n m) : f_X2_woodenInBag M t = some (r 2) := by
  obtain ⟨⟨hn, h3, -⟩, hG, -, -, a, b, x, y, ⟨-, -, ea, -, ex, -⟩, px, -⟩ := L
  rw [cq_wood0 hn h3]
  have e : M t 0 = r 2 + cu_sm (fun k => cg_G M t k 9) n := by
    rw [ea, ex, cu_sm_peg (f := fun k => cg_G M t k 9) (fun k hk => (cg_W_9 (hG k hk).2).1), nI_add, px]
  rw [e]
  congr 1
  exact cu_it_sub _ _ _
theorem ck_steel (L : cg_L M t r n m) : f_X2_steelInBag M t = some (r 3) := by
  obtain ⟨⟨hn, h3, -⟩, hG, -, -, a, b, x, y, ⟨-, -, -, eb, -, ey⟩, -, py⟩ := L
  rw [cq_steel0 hn h3]
  have e : M t 1 = r 3 + cu_sm (fun k => cg_G M t k 10) n := by
    rw [eb, ey, cu_sm_peg (f := fun k => cg_G M t k 10) (fun k hk => (cg_W_9 (hG k hk).2).2.2.1), nI_add, py]
  rw [e]
  congr 1
  exact cu_it_sub _ _ _
theorem ck_pegs (L : cg_L M t r n m) : ∃ x y, x ≤ 30 ∧ y ≤ 30 ∧ r 2 = nI x ∧ r 3 = nI y := by
  obtain ⟨-, -, -, -, a, b, x, y, ⟨ha, hb, -, -, ex, ey⟩, px, py⟩ := L
  exact ⟨x, y, by omega, by omega, ex, ey⟩
def ck_oc (M : cl_M) (t n : Nat) : Int32 := cu_it (fun i x => x ||| cg_G M t i 8) n 0
theorem ck_occ (L : cg_L M t r n m) : f_X2_occupied M t = some (ck_oc M t n) := cq_occ L.1.1 L.1.2.1
theorem ck_taken (L : cg_L M t r n m) : f_X6_taken (cl_row N 239 r) 237 (-1) = some (ck_oc M t n) := by
  rw [cq_takenN (Gs := cg_G M t) L.1.1 L.1.2.2.1 (ck_G L)]
  congr 1
  exact cu_it_cong fun k hk y => by
    rw [if_neg]
    intro e
    have h : (nI k).toInt = (-1 : Int32).toInt := by rw [e]
    rw [nI_toInt (by have := L.1.1; omega)] at h
    have : (-1 : Int32).toInt = -1 := by decide
    omega
theorem cu_dj {a b : Int32} (h : a &&& b = 0) : a &&& (b ^^^ (-1)) = a := by
  apply b_ext
  intro i hi
  have q : bt (a &&& b) i = false := by rw [h, b_0]
  rw [b_and] at q
  rw [b_and, b_xor, b_m1 i hi]
  cases h1 : bt a i <;> cases h2 : bt b i <;> simp_all
theorem cu_dist (x y z : Int32) : (x ||| y) &&& z = (x &&& z) ||| (y &&& z) := by
  apply b_ext
  intro i hi
  rw [b_or, b_and, b_and, b_and, b_or]
  cases bt x i <;> cases bt y i <;> cases bt z i <;> rfl
theorem cu_own (x : Int32) : x &&& (x ^^^ (-1)) = 0 := by
  apply b_ext
  intro i hi
  rw [b_and, b_xor, b_m1 i hi, b_0]
  cases bt x i <;> rfl
theorem ck_without (L : cg_L M t r n m) {g : Nat} (hg : g < n) : f_X6_taken (cl_row N 239 r) 237 (nI g) = some (ck_oc M t n &&& (cg_G M t g 8 ^^^ (-1))) := by
  have hn := L.1.1
  rw [cq_takenN (Gs := cg_G M t) hn L.1.2.2.1 (ck_G L)]
  congr 1
  have hD := L.2.2.1
  have H : ∀ k, k ≤ n → cu_it (fun i x => if nI i = nI g then x else x ||| cg_G M t i 8) k 0 = cu_it (fun i x => x ||| cg_G M t i 8) k 0 &&& (cg_G M t g 8 ^^^ (-1)) := by
    intro k
    induction k with
    | zero => intro _; rw [cu_it, cu_it, Int32.zero_and]
    | succ k ih =>
      intro hk
      rw [cu_it, cu_it, ih (by omega), cu_dist]
      by_cases e : k = g
      · subst e
        rw [if_pos rfl, cu_own, Int32.or_zero]
      · rw [if_neg (fun q => e ((nI_eq (by omega) (by omega)).mp q))]
        have hd : cg_G M t k 8 &&& cg_G M t g 8 = 0 := by
          rcases Nat.lt_or_ge k g with q | q
          · exact hD k g q hg
          · rw [Int32.and_comm]; exact hD g k (by omega) (by omega)
        rw [cu_dj hd]
  exact H n (Nat.le_refl _)
theorem ck_spot {g : Nat} (hg : g < n) (L : cg_L M t r n m) : f_X6_spotsOf (cl_row N 239 r) 237 (nI g) = some (cg_G M t g 8) := cg_spotsN (by have := L.1.1; omega) (ck_G L g hg).1 (ck_G L g hg).2
theorem cu_reaches {g : Nat} (hg : g < n) (L : cg_L M t r n m) {a : Int32} : f_X6_reaches (cl_row N 239 r) 237 (nI g) a = some (if a + cg_G M t g 0 ≤ 24 then 1 else 0) := by
  have z1 : cl_bz 1 = true := by decide
  have z0 : cl_bz 0 = true := by decide
  have hn := L.1.1
  rw [f_X6_reaches, cm_of0 (by omega), Option.bind_some, (ck_G L g hg).1.1.1]
  by_cases q : a + cg_G M t g 0 ≤ 24
  · rw [if_pos q, if_neg (fun z => (fa_of_lt z).2.1 q), f_X6_reaches_18, if_pos z1]
  · rw [if_neg q, if_pos (fa_of_nle q), f_X6_reaches_18, if_pos z0]
theorem ck_hold (N : cl_M) (a b : Int32) : f_X6_holdBy N a b = f_X5_holdOfPegs N a b := by
  rw [f_X6_holdBy, f_X5_holdOfPegs, Int32.mul_comm 20, Int32.mul_comm 45]
/-- what keeps a garment from hanging: both answer alike -/
theorem ck_obst (L : cg_L M t r n m) {g a b : Nat} {s : Int32} (hg : g < n) (ha : a ≤ 4) (hb : b ≤ 4) : ∃ v, f_X2_obstacle M t (t + 9 + g) s (nI a) (nI b) = some v ∧ f_X6_obstacle (cl_row N 239 r) 237 (nI g) s (nI a) (nI b) = some v ∧
    (v = 0 → M (t + 9 + g) 6 = 0 ∧ s + M (t + 9 + g) 0 ≤ 24 ∧ ((((1 : Int32) <<< (M (t + 9 + g) 0 &&& 31)) - 1) <<< (s &&& 31)) &&& ck_oc M t n = 0 ∧ nI a ≤ r 2 ∧ nI b ≤ r 3) := by
  have hn := L.1.1
  obtain ⟨hE, hW⟩ := ck_G L g hg
  have hsw := ck_wood L
  have hss := ck_steel L
  have hoc := ck_occ L
  have htk := ck_taken (N := N) L
  rw [f_X2_obstacle, f_X6_obstacle, cg_inN (by omega) hE, Option.bind_some]
  show ∃ v, (if cg_G M t g 6 = 0 then _ else _) = some v ∧ _ ∧ _
  by_cases h6 : cg_G M t g 6 = 0
  · rw [if_pos h6, if_pos h6, if_neg (show ¬ (1 : Int32) = 0 by decide), cu_reaches hg L, Option.bind_some]
    show ∃ v, (if s + cg_G M t g 0 ≤ 24 then _ else _) = some v ∧ _ ∧ _
    by_cases h0 : s + cg_G M t g 0 ≤ 24
    · rw [if_pos h0, if_pos h0, if_neg (show ¬ (1 : Int32) = 0 by decide), cg_fromN (by omega) hE, Option.bind_some, htk, Option.bind_some, hoc, f_X5_spotSet, Option.bind_some, Option.bind_some]
      show ∃ v, (if ((((1 : Int32) <<< (cg_G M t g 0 &&& 31)) - 1) <<< (s &&& 31)) &&& ck_oc M t n = 0 then _ else _) = some v ∧ _ ∧ _
      by_cases h1 : ((((1 : Int32) <<< (cg_G M t g 0 &&& 31)) - 1) <<< (s &&& 31)) &&& ck_oc M t n = 0
      · rw [if_pos h1, if_pos h1, nI_add, show (1 : Int32) = nI 1 from rfl, show (4 : Int32) = nI 4 from rfl, cu_inRange (by omega) (by omega) (by omega), Option.bind_some]
        by_cases h2 : a + b = 0
        · rw [if_neg (show ¬ (1 ≤ a + b ∧ a + b ≤ 4) by omega), if_pos (show nI (a + b) = 0 by rw [h2]; rfl), if_pos rfl]
          exact ⟨_, rfl, rfl, fun h => absurd h (by decide)⟩
        · rw [if_neg (nI_ne0 (by omega) (by omega))]
          by_cases h3 : a + b ≤ 4
          · rw [if_pos (nI_le h3 (by omega)), if_pos (show 1 ≤ a + b ∧ a + b ≤ 4 by omega), if_neg (show ¬ (1 : Int32) = 0 by decide), hsw, Option.bind_some, cm_now, cm_now]
            by_cases h4 : r 2 < nI a
            · rw [if_pos h4, if_pos h4]
              exact ⟨_, rfl, rfl, fun h => absurd h (by decide)⟩
            · rw [if_neg h4, if_neg h4, hss, Option.bind_some]
              by_cases h5 : nI b ≤ r 3
              · rw [if_pos h5, if_pos h5, cg_weightC, Option.bind_some, cg_weightN (by omega) hE, Option.bind_some, ck_hold, f_X5_holdOfPegs, Option.bind_some, f_X5_holdOfPegs, Option.bind_some]
                show ∃ v, (if cg_weight (cg_G M t g) ≤ _ then _ else _) = some v ∧ _ ∧ _
                by_cases h7 : cg_weight (cg_G M t g) ≤ nI a * 20 + nI b * 45
                · rw [if_pos h7, if_pos h7]
                  exact ⟨_, rfl, rfl, fun _ => ⟨h6, h0, h1, fa_of_nlt h4, h5⟩⟩
                · rw [if_neg h7, if_neg h7]
                  exact ⟨_, rfl, rfl, fun h => absurd h (by decide)⟩
              · rw [if_neg h5, if_neg h5]
                exact ⟨_, rfl, rfl, fun h => absurd h (by decide)⟩
          · rw [if_neg (nI_ge (by omega) (by omega)), if_neg (show ¬ (1 ≤ a + b ∧ a + b ≤ 4) by omega), if_pos rfl]
            exact ⟨_, rfl, rfl, fun h => absurd h (by decide)⟩
      · rw [if_neg h1, if_neg h1]
        exact ⟨_, rfl, rfl, fun h => absurd h (by decide)⟩
    · rw [if_neg h0, if_neg h0, if_pos rfl]
      exact ⟨_, rfl, rfl, fun h => absurd h (by decide)⟩
  · rw [if_neg h6, if_neg h6, if_pos rfl]
    exact ⟨_, rfl, rfl, fun h => absurd h (by decide)⟩
/-- whether a garment can be moved: both answer alike -/
theorem ck_shift (L : cg_L M t r n m) {g : Nat} {s : Int32} (hg : g < n) : ∃ v, (v = 0 ∨ v = 1) ∧ f_X2_canShift M t (t + 9 + g) s = some v ∧ f_X6_canShift (cl_row N 239 r) 237 (nI g) s = some v ∧
    (¬ v = 0 → M (t + 9 + g) 6 = 1 ∧ s + M (t + 9 + g) 0 ≤ 24 ∧ ((((1 : Int32) <<< (M (t + 9 + g) 0 &&& 31)) - 1) <<< (s &&& 31)) &&& (ck_oc M t n &&& (M (t + 9 + g) 8 ^^^ (-1))) = 0) := by
  have hn := L.1.1
  obtain ⟨hE, hW⟩ := ck_G L g hg
  have z1 : cl_bz 1 = true := by decide
  have z0 : cl_bz 0 = true := by decide
  rw [f_X2_canShift, f_X6_canShift, cg_inN (by omega) hE, Option.bind_some]
  show ∃ v, _ ∧ (if cg_G M t g 6 = 1 then _ else _) = some v ∧ _ ∧ _
  by_cases h6 : cg_G M t g 6 = 1
  · rw [if_pos h6, if_pos h6, if_neg (show ¬ (1 : Int32) = 0 by decide), cu_reaches hg L, Option.bind_some]
    show ∃ v, _ ∧ (if s + cg_G M t g 0 ≤ 24 then _ else _) = some v ∧ _ ∧ _
    by_cases h0 : s + cg_G M t g 0 ≤ 24
    · rw [if_pos h0, if_pos h0, if_neg (show ¬ (1 : Int32) = 0 by decide), cg_fromN (by omega) hE, Option.bind_some, ck_without L hg, Option.bind_some, ck_occ L, Option.bind_some, cl_let, f_X5_spotSet, Option.bind_some]
      show ∃ v, _ ∧ (if ((((1 : Int32) <<< (cg_G M t g 0 &&& 31)) - 1) <<< (s &&& 31)) &&& (ck_oc M t n &&& (cg_G M t g 8 ^^^ (-1))) = 0 then _ else _) = some v ∧ _ ∧ _
      by_cases h1 : ((((1 : Int32) <<< (cg_G M t g 0 &&& 31)) - 1) <<< (s &&& 31)) &&& (ck_oc M t n &&& (cg_G M t g 8 ^^^ (-1))) = 0
      · rw [if_pos h1, if_pos h1]
        exact ⟨1, Or.inr rfl, by rw [f_X2_canShift_51, if_pos z1], by rw [f_X6_canShift_38, if_pos z1], fun _ => ⟨h6, h0, h1⟩⟩
      · rw [if_neg h1, if_neg h1]
        exact ⟨0, Or.inl rfl, by rw [f_X2_canShift_51, if_pos z0], by rw [f_X6_canShift_38, if_pos z0], fun q => absurd rfl q⟩
    · rw [if_neg h0, if_neg h0, if_pos rfl]
      exact ⟨0, Or.inl rfl, rfl, by rw [f_X6_canShift_38, if_pos z0], fun q => absurd rfl q⟩
  · rw [if_neg h6, if_neg h6, if_pos rfl]
    exact ⟨0, Or.inl rfl, rfl, by rw [f_X6_canShift_38, if_pos z0], fun q => absurd rfl q⟩
end CK
