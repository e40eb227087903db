/-! the best spot, on: the loop over the spots -/
theorem pr_F_tr {M M1 M2 N N1 N2 : cl_M} (h1 : pr_F M M1 N N1) (h2 : pr_F M1 M2 N1 N2) : pr_F M M2 N N2 :=
  ⟨fun x hx => (h2.1 x hx).trans (h1.1 x hx), fun x a b => (h2.2.1 x a b).trans (h1.2.1 x a b), fun k hk => (h2.2.2 k hk).trans (h1.2.2 k hk)⟩
theorem pr_F_0 {M N : cl_M} : pr_F M M N N := ⟨fun _ _ => rfl, fun _ _ _ => rfl, fun _ _ => rfl⟩
theorem pr_F_L {M M1 N N1 : cl_M} {n m : Nat} (h : pr_F M M1 N N1) (L : cg_L M 4 (N 239) n m) : cg_L M1 4 (N1 239) n m := cg_L_cong (fun x _ h2 => h.1 x (by omega)) h.2.2 L
theorem bs_best {M N : cl_M} {n m g : Nat} (L : cg_L M 4 (N 239) n m) (hg : g < n) (hm : m + 60 < 2 ^ 30) :
    ∃ v M' N', (if M (4 + 9 + g) 6 = 0 then (f_X2_occupied M (0 + 4)).bind (fun v6 => f_X5_bestSpot_32 cl_F M 0 (4 + 9 + g) v6 (-1) 0 0) else some (.ok ((-1), M))) = some (.ok (v, M')) ∧ f_X6_bestSpot_17 cl_F N 237 (nI g) (-1) 0 0 = some (v, N') ∧ pr_F M M' N N' := by
  have hn := L.1.1
  have hisIn : ∀ (M N : cl_M), cg_L M 4 (N 239) n m → f_X6_isIn N 237 (nI g) 0 = some (if M (4 + 9 + g) 6 = 0 then 1 else 0) := by
    intro M N L
    rw [cu_rowN N]
    exact cg_inN (by omega) (ck_G L g hg).1
  by_cases h6 : M (4 + 9 + g) 6 = 0
  · rw [if_pos h6, show f_X2_occupied M (0 + 4) = some (ck_oc M 4 n) from ck_occ L, Option.bind_some]
    have H : ∀ j s, s + j = 24 → ∀ k1 k2, j < k1 → j < k2 → ∀ (M N : cl_M), cg_L M 4 (N 239) n m → M (4 + 9 + g) 6 = 0 → ∀ (oc : Int32), ck_oc M 4 n = oc → ∀ b l : Int32,
        ∃ v M' N', f_X5_bestSpot_32 k1 M 0 (4 + 9 + g) oc b l (nI s) = some (.ok (v, M')) ∧ f_X6_bestSpot_17 k2 N 237 (nI g) b l (nI s) = some (v, N') ∧ pr_F M M' N N' := by
      intro j
      induction j with
      | zero =>
        intro s hs k1 k2 hk1 hk2 M N L h6 oc hoc b l
        obtain ⟨k1, rfl, hk1⟩ := cu_fuel hk1
        obtain ⟨k2, rfl, hk2⟩ := cu_fuel hk2
        have hs : s = 24 := by omega
        subst hs
        obtain ⟨wd, a, c, v, ⟨i1, i2, i3, i4, i5, i6, i7, e0, -⟩, -⟩ := (ck_G L g hg).2
        have e0 : M (4 + 9 + g) 0 = nI wd := e0
        refine ⟨b, M, N, ?_, ?_, pr_F_0⟩
        · rw [f_X5_bestSpot_32, e0, nI_add, if_pos (show (24 : Int32) < nI (24 + wd) from nI_lt (a := 24) (by omega) (by omega))]
        · rw [f_X6_bestSpot_17, if_pos (show (24 : Int32) ≤ nI 24 by decide)]
          rfl
      | succ j ih =>
        intro s hs k1 k2 hk1 hk2 M N L h6 oc hoc b l
        obtain ⟨k1, rfl, hk1⟩ := cu_fuel hk1
        obtain ⟨k2, rfl, hk2⟩ := cu_fuel hk2
        obtain ⟨wd, a, c, v, ⟨i1, i2, i3, i4, i5, i6, i7, e0, -⟩, -⟩ := id (ck_G L g hg).2
        have e0 : M (4 + 9 + g) 0 = nI wd := e0
        have hre : f_X6_reaches N 237 (nI g) (nI s) = some (if nI s + M (4 + 9 + g) 0 ≤ 24 then 1 else 0) := by
          rw [cu_rowN N]
          exact cu_reaches hg L
        have hfr : f_X6_spotsFrom N 237 (nI g) (nI s) = some (((1 <<< (M (4 + 9 + g) 0 &&& 31)) - 1) <<< (nI s &&& 31)) := by
          rw [cu_rowN N]
          exact cg_fromN (by omega) (ck_G L g hg).1
        have htk : f_X6_taken N 237 (-1) = some oc := by
          rw [cu_rowN N, ← hoc]
          exact ck_taken L
        have ih := ih (s + 1) (by omega) k1 k2 (by omega) (by omega)
        rw [f_X5_bestSpot_32, f_X6_bestSpot_17, if_neg (show ¬ (24 : Int32) ≤ nI s from nI_ge (b := 24) (by omega) (by omega)), hisIn M N L, Option.bind_some, if_pos h6, if_neg (show ¬ (1 : Int32) = 0 by decide), hre, Option.bind_some]
        by_cases hw : nI s + M (4 + 9 + g) 0 ≤ 24
        · rw [if_neg (fun z => (fa_of_lt z).2.1 hw), if_pos hw, if_neg (show ¬ (1 : Int32) = 0 by decide), hfr, Option.bind_some, htk, Option.bind_some, f_X5_spotSet, Option.bind_some]
          by_cases ho : (((1 <<< (M (4 + 9 + g) 0 &&& 31)) - 1) <<< (nI s &&& 31)) &&& oc = 0
          · rw [if_pos ho, if_pos ho]
            obtain ⟨v1, M1, N1, z1, z2, z3⟩ := bs_water L hg h6 (show s < 24 by omega) hw hm
            have L1 := pr_F_L z3 L
            have h61 : M1 (4 + 9 + g) 6 = 0 := by rw [z3.1 _ (by omega)]; exact h6
            have hoc1 : ck_oc M1 4 n = oc := by
              rw [← hoc]
              exact cu_it_cong fun k hk y => by rw [cg_G, z3.1 _ (by omega)]
            rw [z1, z2, cu_b2, cu_b2]
            by_cases q : b = -1
            · rw [if_pos q, if_pos q]
              simp only [f_X5_bestSpot_80, f_X5_bestSpot_88, f_X6_bestSpot_79, f_X6_bestSpot_85, cl_let, nI_1]
              obtain ⟨v2, M2, N2, c1, c2, c3⟩ := ih M1 N1 L1 h61 oc hoc1 (nI s) v1
              exact ⟨v2, M2, N2, c1, c2, pr_F_tr z3 c3⟩
            · rw [if_neg q, if_neg q]
              by_cases q2 : l ≤ v1
              · rw [if_pos q2, if_pos q2]
                simp only [f_X5_bestSpot_80, f_X5_bestSpot_88, f_X6_bestSpot_79, f_X6_bestSpot_85, cl_let, nI_1]
                obtain ⟨v2, M2, N2, c1, c2, c3⟩ := ih M1 N1 L1 h61 oc hoc1 b l
                exact ⟨v2, M2, N2, c1, c2, pr_F_tr z3 c3⟩
              · rw [if_neg q2, if_neg q2]
                simp only [f_X5_bestSpot_80, f_X5_bestSpot_88, f_X6_bestSpot_79, f_X6_bestSpot_85, cl_let, nI_1]
                obtain ⟨v2, M2, N2, c1, c2, c3⟩ := ih M1 N1 L1 h61 oc hoc1 (nI s) v1
                exact ⟨v2, M2, N2, c1, c2, pr_F_tr z3 c3⟩
          · rw [if_neg ho, if_neg ho]
            simp only [f_X5_bestSpot_88, f_X6_bestSpot_85, cl_let, nI_1]
            exact ih M N L h6 oc hoc b l
        · rw [if_pos (fa_of_nle hw), if_neg hw, if_pos rfl]
          exact ⟨b, M, N, rfl, rfl, pr_F_0⟩
    exact H 24 0 (by omega) cl_F cl_F (by unfold cl_F; omega) (by unfold cl_F; omega) M N L h6 _ rfl (-1) 0
  · rw [if_neg h6]
    refine ⟨-1, M, N, rfl, ?_, pr_F_0⟩
    obtain ⟨k, hk⟩ : ∃ k, cl_F = k + 1 := ⟨2047, rfl⟩
    rw [hk, f_X6_bestSpot_17, if_neg (show ¬ (24 : Int32) ≤ 0 by decide), hisIn M N L, Option.bind_some, if_neg h6, if_pos rfl]
    rfl
