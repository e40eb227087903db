/-! spots, places, pegs: on both sides -/
theorem cu_b1 : ∀ i, i < 32 → bt 1 i = decide (i = 0) := by decide +kernel
theorem cu_bit (x : Int32) {s : Nat} (hs : s < 32) : (x >>> (nI s &&& 31)) &&& 1 = if bt x s = true then 1 else 0 := by
  apply b_ext
  intro i hi
  rw [b_and, b_sshr s hs x hi, cu_b1 i hi]
  by_cases e : i = 0
  · subst e
    rw [if_pos (by omega)]
    cases h : bt x s <;> simp [h] <;> decide
  · cases h : bt x s
    · simp [e, b_0]
    · simp [e, cu_b1 i hi]
theorem cu_bit1 (x : Int32) {s : Nat} (hs : s < 32) : ((x >>> (nI s &&& 31)) &&& 1 = 1) ↔ bt x s = true := by
  rw [cu_bit x hs]
  cases bt x s <;> simp
theorem cu_bit0 (x : Int32) {s : Nat} (hs : s < 32) : ((x >>> (nI s &&& 31)) &&& 1 = 0) ↔ bt x s = false := by
  rw [cu_bit x hs]
  cases bt x s <;> simp
theorem cu_all : ∀ i, i < 24 → bt 16777215 i = true := by decide +kernel
theorem cu_nb {x : Int32} {s : Nat} (hs : s < 24) : bt (16777215 &&& (x ^^^ (-1))) s = !bt x s := by
  rw [b_and, b_xor, b_m1 s (by omega), cu_all s hs]
  cases bt x s <;> rfl
section CS
variable {M N : cl_M} {t n m : Nat} {r : Nat → Int32}
theorem ck_disj (L : cg_L M t r n m) {j k s : Nat} (hjk : j ≠ k) (hj : j < n) (hk : k < n) (hb : bt (cg_G M t j 8) s = true) : bt (cg_G M t k 8) s = false := by
  have hd : cg_G M t j 8 &&& cg_G M t k 8 = 0 := by
    rcases Nat.lt_or_ge j k with q | q
    · exact L.2.2.1 j k q hk
    · rw [Int32.and_comm]; exact L.2.2.1 k j (by omega) hj
  have q : bt (cg_G M t j 8 &&& cg_G M t k 8) s = false := by rw [hd, b_0]
  rw [b_and, hb, Bool.true_and] at q
  exact q
theorem ck_twice (L : cg_L M t r n m) : f_X2_spotsOccupiedTwice M t = some 0 := by
  have hn := L.1.1
  have h3 := L.1.2.1
  have hD := L.2.2.1
  have Z : ∀ k, k < n → ∀ i, i ≤ k → cu_it (fun i x => x ||| M (t + 8 + 1 + i) 8) i 0 &&& M (t + 8 + 1 + k) 8 = 0 := by
    intro k hk i
    induction i with
    | zero => intro _; exact Int32.zero_and
    | succ i ih =>
      intro hi
      rw [cu_it, cu_dist, ih (by omega)]
      have : M (t + 8 + 1 + i) 8 &&& M (t + 8 + 1 + k) 8 = 0 := hD i k (by omega) hk
      rw [this]; rfl
  have H : ∀ j i, i + j = n → ∀ k, j < k → f_X2_spotsOccupiedTwice_6 k M t (cu_it (fun i x => x ||| M (t + 8 + 1 + i) 8) i 0) 0 (nI i) = some 0 := by
    intro j
    induction j with
    | zero =>
      intro i hi k hk
      obtain ⟨k, rfl, hk⟩ := cu_fuel hk
      have hi : i = n := by omega
      subst hi
      rw [f_X2_spotsOccupiedTwice_6, h3, if_pos (nI_le (Nat.le_refl _) (by omega)), cu_bc_e]
      rfl
    | succ j ih =>
      intro i hi k hk
      obtain ⟨k, rfl, hk⟩ := cu_fuel hk
      have ih := ih (i + 1) (by omega) k (by omega)
      have hz := Z i (by omega) i (Nat.le_refl _)
      rw [f_X2_spotsOccupiedTwice_6, h3, if_neg (nI_ge (by omega) (by omega)), if_pos (cu_inb (by omega) (by omega))]
      simp only [cl_let, nI_clamp (show i < 2 ^ 31 by omega), nI_1]
      rw [if_pos (cu_inb (by omega) (by omega)), hz]
      exact ih
  exact H n 0 (by omega) cl_F (by unfold cl_F; omega)
theorem ck_countN (L : cg_L M t r n m) {a : Int32} : f_X6_consistencyError_39 cl_F (cl_row N 239 r) 237 a 0 = some (a, cl_row N 239 r) := by
  have hn := L.1.1
  have h7 := L.1.2.2.1
  have I : ∀ (r39 : cl_M → Nat → Int32 → Int32 → Option (Int32 × cl_M)) (s : Nat), s < 24 → ∀ j i, i + j = n → ∀ k, j < k → ∀ on : Int32, (on = 0 ∨ (on = 1 ∧ ∀ q, i ≤ q → q < n → bt (cg_G M t q 8) s = false)) → f_X6_consistencyError_50 r39 k (cl_row N 239 r) 237 a (nI s) on (nI i) = r39 (cl_row N 239 r) 237 a (nI (s + 1)) := by
    intro r39 s hs j
    induction j with
    | zero =>
      intro i hi k hk on hon
      obtain ⟨k, rfl, hk⟩ := cu_fuel hk
      have hi : i = n := by omega
      subst hi
      rw [f_X6_consistencyError_50, cm_now, h7, if_pos (nI_le (Nat.le_refl _) (by omega)), if_pos (show on ≤ 1 by rcases hon with e | e <;> (first | rw [e] | rw [e.1]) <;> decide), f_X6_consistencyError_95]
      rw [show f_X6_flag (cl_row N 239 r) 0 = some 0 from rfl, Option.bind_some, cl_let, cl_let, Int32.add_zero, nI_1]
    | succ j ih =>
      intro i hi k hk on hon
      obtain ⟨k, rfl, hk⟩ := cu_fuel hk
      have ih := ih (i + 1) (by omega) k (by omega)
      rw [f_X6_consistencyError_50, cm_now, h7, if_neg (nI_ge (by omega) (by omega)), ck_spot (by omega) L, Option.bind_some, cq_hasN, Option.bind_some]
      by_cases hb : bt (cg_G M t i 8) s = true
      · rcases hon with e | ⟨-, e⟩
        · rw [if_pos ((cu_bit1 _ (by omega)).mpr hb), show f_X6_flag (cl_row N 239 r) 1 = some 1 from rfl, Option.bind_some, cl_let, cl_let, nI_1, e]
          refine ih (0 + 1) (Or.inr ⟨rfl, fun q h1 h2 => ?_⟩)
          exact ck_disj L (by omega) (by omega) h2 hb
        · exact absurd hb (by rw [e i (Nat.le_refl _) (by omega)]; decide)
      · rw [if_neg (fun z => hb ((cu_bit1 _ (by omega)).mp z)), show f_X6_flag (cl_row N 239 r) 0 = some 0 from rfl, Option.bind_some, cl_let, cl_let, nI_1, Int32.add_zero]
        refine ih on ?_
        rcases hon with e | ⟨e1, e2⟩
        · exact Or.inl e
        · exact Or.inr ⟨e1, fun q h1 h2 => e2 q (by omega) h2⟩
  have H : ∀ j s, s + j = 24 → ∀ k, j < k → f_X6_consistencyError_39 k (cl_row N 239 r) 237 a (nI s) = some (a, cl_row N 239 r) := by
    intro j
    induction j with
    | zero =>
      intro s hs k hk
      obtain ⟨k, rfl, hk⟩ := cu_fuel hk
      have hs : s = 24 := by omega
      subst hs
      rw [f_X6_consistencyError_39, if_pos (by decide)]
    | succ j ih =>
      intro s hs k hk
      obtain ⟨k, rfl, hk⟩ := cu_fuel hk
      rw [f_X6_consistencyError_39, if_neg (show ¬ (24 : Int32) ≤ nI s from nI_ge (b := 24) (by omega) (by omega))]
      refine (I _ s (by omega) n 0 (by omega) cl_F (by unfold cl_F; omega) 0 (Or.inl rfl)).trans ?_
      exact ih (s + 1) (by omega) k (by omega)
  exact H 24 0 rfl cl_F (by decide)
theorem ck_gap {x : Int32} : ∃ v, f_X5_longestGap_15 cl_F M x 0 0 0 = some v ∧ f_X6_longestGap_17 cl_F N (16777215 &&& (x ^^^ (-1))) 0 0 0 = some (v, N) := by
  have H : ∀ j s, s + j = 24 → ∀ k1 k2, j < k1 → j < k2 → ∀ a b : Int32, ∃ v, f_X5_longestGap_15 k1 M x a b (nI s) = some v ∧ f_X6_longestGap_17 k2 N (16777215 &&& (x ^^^ (-1))) a b (nI s) = some (v, N) := by
    intro j
    induction j with
    | zero =>
      intro s hs k1 k2 hk1 hk2 a b
      obtain ⟨k1, rfl, hk1⟩ := cu_fuel hk1
      obtain ⟨k2, rfl, hk2⟩ := cu_fuel hk2
      have hs : s = 24 := by omega
      subst hs
      exact ⟨a, by rw [f_X5_longestGap_15, if_pos (by decide)], by rw [f_X6_longestGap_17, if_pos (by decide)]⟩
    | succ j ih =>
      intro s hs k1 k2 hk1 hk2 a b
      obtain ⟨k1, rfl, hk1⟩ := cu_fuel hk1
      obtain ⟨k2, rfl, hk2⟩ := cu_fuel hk2
      have ih := ih (s + 1) (by omega) k1 k2 (by omega) (by omega)
      rw [f_X5_longestGap_15, f_X6_longestGap_17, if_neg (show ¬ (24 : Int32) ≤ nI s from nI_ge (b := 24) (by omega) (by omega)), if_neg (show ¬ (24 : Int32) ≤ nI s from nI_ge (b := 24) (by omega) (by omega)), cq_hasN, Option.bind_some]
      have hnb := cu_nb (x := x) (show s < 24 by omega)
      cases hb : bt x s
      · rw [hb] at hnb
        rw [if_pos ((cu_bit0 x (by omega)).mpr hb), if_pos ((cu_bit1 _ (by omega)).mpr hnb), if_neg (show ¬ (1 : Int32) = 0 by decide)]
        simp only [f_X5_longestGap_38, f_X6_longestGap_40, cl_let, nI_1]
        exact ih _ _
      · rw [hb] at hnb
        rw [if_neg (fun z => by rw [(cu_bit0 x (by omega)).mp z] at hb; cases hb), if_neg (show ¬ ((16777215 &&& (x ^^^ (-1))) >>> (nI s &&& 31)) &&& 1 = 1 from fun z => by rw [(cu_bit1 _ (by omega)).mp z] at hnb; cases hnb), if_pos rfl]
        simp only [f_X5_longestGap_38, f_X6_longestGap_40, cl_let, nI_1]
        exact ih _ _
  exact H 24 0 rfl cl_F cl_F (by decide) (by decide) 0 0
/-- who is on a spot, by bits -/
theorem ck_on (L : cg_L M t r n m) {s : Nat} (hs : s < 24) : (cq_on (cg_G M t) (nI s) n 0 = -1 ∧ ∀ k, k < n → bt (cg_G M t k 8) s = false) ∨ ∃ k, k < n ∧ cq_on (cg_G M t) (nI s) n 0 = nI k ∧ bt (cg_G M t k 8) s = true := by
  have H : ∀ j i, (cq_on (cg_G M t) (nI s) j i = -1 ∧ ∀ k, i ≤ k → k < i + j → bt (cg_G M t k 8) s = false) ∨ ∃ k, i ≤ k ∧ k < i + j ∧ cq_on (cg_G M t) (nI s) j i = nI k ∧ bt (cg_G M t k 8) s = true := by
    intro j
    induction j with
    | zero => intro i; exact Or.inl ⟨rfl, fun k h1 h2 => by omega⟩
    | succ j ih =>
      intro i
      rw [cq_on]
      by_cases hb : bt (cg_G M t i 8) s = true
      · rw [if_pos ((cu_bit1 _ (by omega)).mpr hb)]
        exact Or.inr ⟨i, Nat.le_refl _, by omega, rfl, hb⟩
      · rw [if_neg (fun z => hb ((cu_bit1 _ (by omega)).mp z))]
        rcases ih (i + 1) with ⟨e, h⟩ | ⟨k, h1, h2, e, h⟩
        · refine Or.inl ⟨e, fun k h1 h2 => ?_⟩
          by_cases z : k = i
          · rw [z]; simpa using hb
          · exact h k (by omega) (by omega)
        · exact Or.inr ⟨k, by omega, by omega, e, h⟩
  rcases H n 0 with ⟨e, h⟩ | ⟨k, h1, h2, e, h⟩
  · exact Or.inl ⟨e, fun k hk => h k (by omega) (by omega)⟩
  · exact Or.inr ⟨k, by omega, e, h⟩
theorem cu_set_bt : ∀ w, w < 7 → ∀ p, p < 25 → p + w ≤ 24 → ∀ s, s < 24 → bt (cu_set p w) s = (decide (p ≤ s) && decide (s < p + w)) := by decide +kernel
/-- the spots of a garment on the line: from its own spot on -/
theorem ck_rng (L : cg_L M t r n m) {k : Nat} (hk : k < n) {s : Nat} (hs : s < 24) (hb : bt (cg_G M t k 8) s = true) : ∃ p w, p + w ≤ 24 ∧ w ≤ 6 ∧ r (39 + 11 * k + 7) = nI p ∧ p ≤ s ∧ s < p + w ∧ ∀ q, q < 24 → (bt (cg_G M t k 8) q = true ↔ p ≤ q ∧ q < p + w) := by
  obtain ⟨hE, w, a, c, v, ⟨h1, h2, h3, h4, h5, h6, h7, e0, e1, e2, e3⟩, h8, h9, hp⟩ := ck_G L k hk
  rcases hp with ⟨q6, p, q7, q8, q9⟩ | ⟨q6, q7, q8, q9, q10⟩
  · have hset : ∀ q, q < 24 → (bt (cg_G M t k 8) q = true ↔ p ≤ q ∧ q < p + w) := fun q hq => by
      rw [q9, cu_set_bt w (by omega) p (by omega) q7 q hq]
      simp
    have := (hset s hs).mp hb
    exact ⟨p, w, q7, h2, hE.2.2.1.trans q8, this.1, this.2, hset⟩
  · rw [q8, b_0] at hb
    cases hb
theorem cu_m1 {k : Nat} (hk : k < 2 ^ 31) : ¬ nI k = -1 := by
  intro e
  have h : (nI k).toInt = (-1 : Int32).toInt := by rw [e]
  rw [nI_toInt hk] at h
  have : (-1 : Int32).toInt = -1 := by decide
  omega
theorem cu_sub0 (a b : Int32) : (a - b = 0) ↔ b = a := by
  constructor
  · intro h
    have : a - b + b = 0 + b := by rw [h]
    rw [Int32.sub_add_cancel, Int32.zero_add] at this
    exact this.symm
  · intro h; rw [h, Int32.sub_self]
theorem cu_sub1 (a b : Int32) : a - b + (-1) = a - (b + 1) := by
  rw [Int32.sub_eq_add_neg a b, Int32.sub_eq_add_neg a (b + 1), Int32.neg_add, Int32.sub_eq_add_neg, Int32.add_assoc]
/-- garments in the order of their places: both answer alike -/
theorem ck_place (L : cg_L M 4 r n m) {a : Int32} : ∃ v, f_X5_garmentByPlace M 0 a = some v ∧ f_X6_garmentByPlace_9 cl_F (cl_row N 239 r) 237 a 0 = some (v, cl_row N 239 r) := by
  have hn := L.1.1
  have hoC : ∀ s : Int32, f_X2_occupant M (0 + 4) s = some (cq_on (cg_G M 4) s n 0) := fun s => cq_onC hn L.1.2.1
  have hoN : ∀ s : Int32, f_X6_onSpot (cl_row N 239 r) 237 s = some (cq_on (cg_G M 4) s n 0) := fun s => cq_onN hn L.1.2.2.1 (ck_G L)
  have H : ∀ j s, s + j = 24 → ∀ k1 k2, j < k1 → j < k2 → ∀ c b : Int32, (b = -1 ∨ ∃ k p, k < n ∧ b = nI k ∧ r (39 + 11 * k + 7) = nI p ∧ p < s) → (∀ k, k < n → 0 < s → bt (cg_G M 4 k 8) (s - 1) = true → b = nI k) →
      ∃ v, f_X5_garmentByPlace_7 k1 M 0 a c b (nI s) = some v ∧ f_X6_garmentByPlace_9 k2 (cl_row N 239 r) 237 (a - c) (nI s) = some (v, cl_row N 239 r) := by
    intro j
    induction j with
    | zero =>
      intro s hs k1 k2 hk1 hk2 c b hb1 hb2
      obtain ⟨k1, rfl, hk1⟩ := cu_fuel hk1
      obtain ⟨k2, rfl, hk2⟩ := cu_fuel hk2
      have hs : s = 24 := by omega
      subst hs
      exact ⟨-1, by rw [f_X5_garmentByPlace_7, if_pos (by decide)], by rw [f_X6_garmentByPlace_9, if_pos (by decide)]⟩
    | succ j ih =>
      intro s hs k1 k2 hk1 hk2 c b hb1 hb2
      obtain ⟨k1, rfl, hk1⟩ := cu_fuel hk1
      obtain ⟨k2, rfl, hk2⟩ := cu_fuel hk2
      have ih := ih (s + 1) (by omega) k1 k2 (by omega) (by omega)
      have h24 : ¬ (24 : Int32) ≤ nI s := nI_ge (b := 24) (by omega) (by omega)
      have hb1' : b = -1 ∨ ∃ k p, k < n ∧ b = nI k ∧ r (39 + 11 * k + 7) = nI p ∧ p < s + 1 := by
        rcases hb1 with e | ⟨k, p, e1, e2, e3, e4⟩
        · exact Or.inl e
        · exact Or.inr ⟨k, p, e1, e2, e3, by omega⟩
      rw [f_X5_garmentByPlace_7, if_neg h24, hoC, Option.bind_some, f_X6_garmentByPlace_9, if_neg h24, hoN, Option.bind_some]
      rcases ck_on L (show s < 24 by omega) with ⟨e, hno⟩ | ⟨k, hk, e, hb⟩
      · rw [e, if_pos rfl, if_pos rfl]
        simp only [f_X5_garmentByPlace_51, f_X6_garmentByPlace_50, cl_let, nI_1]
        exact ih c b hb1' (fun k hk _ h => by
          rw [Nat.add_sub_cancel, hno k hk] at h
          cases h)
      · obtain ⟨p, w, q1, q2, q3, q4, q5, q6⟩ := ck_rng L hk (by omega) hb
        have huniq : ∀ k', k' < n → bt (cg_G M 4 k' 8) s = true → k' = k := fun k' hk' h => by
          by_cases z : k' = k
          · exact z
          · have := ck_disj L (j := k) (k := k') (by omega) hk hk' hb
            rw [h] at this; cases this
        rw [e, if_neg (cu_m1 (by omega)), if_neg (cu_m1 (by omega)), cm_of7 (by omega), Option.bind_some, q3]
        by_cases hp : p = s
        · subst hp
          have hbk : ¬ nI k = b := by
            intro z
            rcases hb1 with e1 | ⟨k', p', e1, e2, e3, e4⟩
            · rw [e1] at z; exact cu_m1 (by omega) z
            · have hkk : k = k' := (nI_eq (by omega) (by omega)).mp (z.trans e2)
              subst hkk
              have : p' = p := by
                have h9 := e3.symm.trans q3
                have hr : p' < 24 := by omega
                exact (nI_eq (by omega) (by omega)).mp h9
              omega
          rw [if_neg hbk, if_pos rfl]
          by_cases hc : c = a
          · rw [if_pos hc, if_pos ((cu_sub0 a c).mpr hc)]
            exact ⟨_, rfl, rfl⟩
          · rw [if_neg hc, if_neg (fun z => hc ((cu_sub0 a c).mp z))]
            simp only [f_X5_garmentByPlace_51, f_X6_garmentByPlace_50, cl_let, nI_1, cu_sub1]
            exact ih (c + 1) (nI k) (Or.inr ⟨k, p, hk, rfl, q3, by omega⟩) (fun k' hk' _ h => by
              rw [Nat.add_sub_cancel] at h
              rw [huniq k' hk' h])
        · have hbk : b = nI k := hb2 k hk (by omega) ((q6 (s - 1) (by omega)).mpr (by omega))
          rw [if_pos hbk.symm, if_neg (fun z => hp ((nI_eq (by omega) (by omega)).mp z))]
          simp only [f_X5_garmentByPlace_51, f_X6_garmentByPlace_50, cl_let, nI_1]
          exact ih c b hb1' (fun k' hk' _ h => by
            rw [Nat.add_sub_cancel] at h
            rw [huniq k' hk' h, hbk])
  have := H 24 0 rfl cl_F cl_F (by decide) (by decide) 0 (-1) (Or.inl rfl) (fun k _ h => absurd h (by omega))
  rw [Int32.sub_zero] at this
  exact this
end CS
