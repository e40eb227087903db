/-! commands: their words, their places, their numbers, on both sides -/
section TC
variable {M N : cl_M} {n : Nat}
theorem tx_ss : tx_s 0 11 ∧ tx_s 1 12 ∧ tx_s 2 13 ∧ tx_s 3 14 ∧ tx_s 4 15 ∧ tx_s 5 16 ∧ tx_s 6 17 ∧ tx_s 7 18 ∧ tx_s 8 19 ∧ tx_s 9 20 ∧ tx_s 10 21 := by unfold tx_s; decide +kernel
theorem tx_command (h : tx_K n M N) : ∃ c m, f_X3_commandOfToken M 1 = some c ∧ f_X6_commandHere N 237 = some m ∧ ((c = 0 ∧ m = -1) ∨ ∃ q, q < 10 ∧ c = nI (q + 1) ∧ m = nI q) := by
  obtain ⟨-, s1, s2, s3, s4, s5, s6, s7, s8, s9, s10⟩ := tx_ss
  obtain ⟨b1, h1, u1, v1⟩ := tx_word h s2
  obtain ⟨b2, h2, u2, v2⟩ := tx_word h s3
  obtain ⟨b3, h3, u3, v3⟩ := tx_word h s4
  obtain ⟨b4, h4, u4, v4⟩ := tx_word h s5
  obtain ⟨b5, h5, u5, v5⟩ := tx_word h s6
  obtain ⟨b6, h6, u6, v6⟩ := tx_word h s7
  obtain ⟨b7, h7, u7, v7⟩ := tx_word h s8
  obtain ⟨b8, h8, u8, v8⟩ := tx_word h s9
  obtain ⟨b9, h9, u9, v9⟩ := tx_word h s1
  obtain ⟨b10, h10, u10, v10⟩ := tx_word h s10
  have o1 : ¬ (1 : Int32) = 0 := by decide
  have e139 : ∀ a z t : Int32, f_X6_commandHere_139 N a z t = some (if a = -1 then (if z = -1 then t else z) else a) := fun a z t => by
    rw [f_X6_commandHere_139]
    by_cases q : a = -1
    · rw [if_pos q, if_pos q]
      by_cases q2 : z = -1
      · rw [if_pos q2, if_pos q2]; rfl
      · rw [if_neg q2, if_neg q2]; rfl
    · rw [if_neg q, if_neg q]; rfl
  have e95 : ∀ a z : Int32, f_X6_commandHere_95 N 237 a z = some (if a = -1 then (if z = -1 then (if b8 = 0 then (if b9 = 0 then (if b10 = 0 then (-1) else 9) else 8) else 7) else z) else a) := fun a z => by
    rw [f_X6_commandHere_95, v8, Option.bind_some]
    rcases h8 with rfl | rfl
    · rw [if_pos rfl, v9, Option.bind_some, if_pos rfl]
      rcases h9 with rfl | rfl
      · rw [if_pos rfl, v10, Option.bind_some, if_pos rfl]
        rcases h10 with rfl | rfl
        · rw [if_pos rfl, if_pos rfl, e139]
        · rw [if_neg o1, if_neg o1, e139]
      · rw [if_neg o1, if_neg o1, e139]
    · rw [if_neg o1, if_neg o1, e139]
  have e40 : ∀ a : Int32, f_X6_commandHere_40 N 237 a = some (if a = -1 then (if (if b4 = 0 then (if b5 = 0 then (if b6 = 0 then (if b7 = 0 then (-1 : Int32) else 6) else 5) else 4) else 3) = -1 then (if b8 = 0 then (if b9 = 0 then (if b10 = 0 then (-1) else 9) else 8) else 7) else (if b4 = 0 then (if b5 = 0 then (if b6 = 0 then (if b7 = 0 then (-1) else 6) else 5) else 4) else 3)) else a) := fun a => by
    rw [f_X6_commandHere_40, v4, Option.bind_some]
    rcases h4 with rfl | rfl
    · rw [if_pos rfl, v5, Option.bind_some, if_pos rfl]
      rcases h5 with rfl | rfl
      · rw [if_pos rfl, v6, Option.bind_some, if_pos rfl]
        rcases h6 with rfl | rfl
        · rw [if_pos rfl, v7, Option.bind_some, if_pos rfl]
          rcases h7 with rfl | rfl
          · rw [if_pos rfl, if_pos rfl, e95]
          · rw [if_neg o1, if_neg o1, e95]
        · rw [if_neg o1, if_neg o1, e95]
      · rw [if_neg o1, if_neg o1, e95]
    · rw [if_neg o1, if_neg o1, e95]
  rw [f_X3_commandOfToken, f_X6_commandHere, u1, v1, Option.bind_some, Option.bind_some]
  rcases h1 with rfl | rfl
  · rw [if_pos rfl, if_pos rfl, u2, v2, Option.bind_some, Option.bind_some]
    rcases h2 with rfl | rfl
    · rw [if_pos rfl, if_pos rfl, u3, v3, Option.bind_some, Option.bind_some]
      rcases h3 with rfl | rfl
      · rw [if_pos rfl, if_pos rfl, e40, if_pos rfl, u4, Option.bind_some]
        rcases h4 with rfl | rfl
        · simp only [if_true, eq_self]
          rw [u5, Option.bind_some]
          rcases h5 with rfl | rfl
          · simp only [if_true, eq_self]
            rw [u6, Option.bind_some]
            rcases h6 with rfl | rfl
            · simp only [if_true, eq_self]
              rw [u7, Option.bind_some]
              rcases h7 with rfl | rfl
              · simp only [if_true, eq_self]
                rw [u8, Option.bind_some]
                rcases h8 with rfl | rfl
                · simp only [if_true, eq_self]
                  rw [u9, Option.bind_some]
                  rcases h9 with rfl | rfl
                  · simp only [if_true, eq_self]
                    rw [u10, Option.bind_some]
                    rcases h10 with rfl | rfl
                    · exact ⟨0, -1, rfl, rfl, Or.inl ⟨rfl, rfl⟩⟩
                    · exact ⟨10, 9, rfl, rfl, Or.inr ⟨9, by omega, rfl, rfl⟩⟩
                  · exact ⟨9, 8, rfl, rfl, Or.inr ⟨8, by omega, rfl, rfl⟩⟩
                · exact ⟨8, 7, rfl, rfl, Or.inr ⟨7, by omega, rfl, rfl⟩⟩
              · exact ⟨7, 6, rfl, rfl, Or.inr ⟨6, by omega, rfl, rfl⟩⟩
            · exact ⟨6, 5, rfl, rfl, Or.inr ⟨5, by omega, rfl, rfl⟩⟩
          · exact ⟨5, 4, rfl, rfl, Or.inr ⟨4, by omega, rfl, rfl⟩⟩
        · exact ⟨4, 3, rfl, rfl, Or.inr ⟨3, by omega, rfl, rfl⟩⟩
      · rw [if_neg o1, if_neg o1, e40]
        exact ⟨3, 2, rfl, rfl, Or.inr ⟨2, by omega, rfl, rfl⟩⟩
    · rw [if_neg o1, if_neg o1, e40]
      exact ⟨2, 1, rfl, rfl, Or.inr ⟨1, by omega, rfl, rfl⟩⟩
  · rw [if_neg o1, if_neg o1, e40]
    exact ⟨1, 0, rfl, rfl, Or.inr ⟨0, by omega, rfl, rfl⟩⟩
/-- what the numbers of a command are -/
def tx_n (q : Nat) : Nat := match q with | 0 => 4 | 1 => 4 | 2 => 1 | 3 => 1 | 4 => 1 | 5 => 2 | 6 => 3 | 7 => 2 | 8 => 2 | _ => 1
def tx_ok (q g c : Nat) (a : Nat → Nat) : Prop := match q with
  | 0 => 1 ≤ a 0 ∧ a 0 ≤ 6 ∧ 1 ≤ a 1 ∧ a 1 ≤ 99 ∧ 1 ≤ a 2 ∧ a 2 ≤ 999 ∧ a 3 ≤ a 2
  | 1 => a 0 < g ∧ a 1 ≤ 23 ∧ a 2 ≤ 4 ∧ a 3 ≤ 4
  | 2 => a 0 < g
  | 3 => a 0 < g
  | 4 => a 0 < g
  | 5 => a 0 < g ∧ a 1 ≤ 23
  | 6 => a 0 ≤ 9999 ∧ 1 ≤ a 1 ∧ a 1 ≤ 200 ∧ 1 ≤ a 2 ∧ a 2 ≤ 20
  | 7 => a 0 ≤ a 1 ∧ a 1 ≤ 9999
  | 8 => a 0 < c ∧ a 1 ≤ 5
  | _ => 1 ≤ a 0 ∧ a 0 ≤ 200
def tx_as (M N : cl_M) (k : Nat) (a : Nat → Nat) : Prop := ∀ j, j < k → M 3 j = nI (a j) ∧ N 245 j = nI (a j)
def tx_any : Nat → Bool := fun _ => true
theorem tx_lt {v g : Nat} (hv : v ≤ 9999) (hg : g ≤ 9999) (h : nI v ≤ nI g - 1) : v < g := by
  rw [fa_le] at h
  have e1 : (nI v).toInt = v := nI_toInt (by omega)
  have e2 : (nI g - 1).toInt = (g : Int) - 1 := pk_sub_toInt (b := 1) (by omega) (by omega)
  omega
theorem tx_hi {g : Nat} (hg : g ≤ 9999) : nI g - 1 ≤ 9999 := by
  rw [fa_le]
  have e2 : (nI g - 1).toInt = (g : Int) - 1 := pk_sub_toInt (b := 1) (by omega) (by omega)
  have e3 : (9999 : Int32).toInt = 9999 := by decide
  omega
theorem tx_le {v h : Nat} (hv : v ≤ 9999) (hh : h ≤ 9999) (q : nI v ≤ nI h) : v ≤ h := (nI_leI (by omega) (by omega)).mp q
/-- a number, then the rest: as one step -/
def tx_R (n : Nat) (M N : cl_M) (k : Nat) (l : Nat) (hi : Int32) (M' N' : cl_M) (v : Nat) : Prop := (l ≤ v ∧ v ≤ 9999 ∧ nI v ≤ hi ∧ M' 3 k = nI v ∧ N' 245 k = nI v) ∧ tx_P n M' N' ∧ tx_f (fun j => j == k) M M' N N'
theorem tx_keep {A : Nat → Bool} {M M' N N' : cl_M} (f : tx_f A M M' N N') {k : Nat} {a : Nat → Nat} (hA : ∀ j, j < k → A j = false) (h : tx_as M N k a) : tx_as M' N' k a :=
  fun j hj => ⟨(f.2.2.2.1 j (hA j hj)).1.trans (h j hj).1, (f.2.2.2.1 j (hA j hj)).2.trans (h j hj).2⟩
theorem tx_as_1 {M N : cl_M} {k v : Nat} {a : Nat → Nat} (h : tx_as M N k a) (h1 : M 3 k = nI v) (h2 : N 245 k = nI v) : tx_as M N (k + 1) (fun j => if j = k then v else a j) := fun j hj => by
  dsimp only
  by_cases e : j = k
  · subst e; rw [if_pos rfl]; exact ⟨h1, h2⟩
  · rw [if_neg e]; exact h j (by omega)
theorem tx_as_f {A : Nat → Bool} {M M' N N' : cl_M} (f : tx_f A M M' N N') : tx_f tx_any M M' N N' := ⟨f.1, f.2.1, f.2.2.1, fun _ hj => Bool.noConfusion (show true = false from hj), f.2.2.2.2⟩
theorem tx_any_tr {M M1 M2 N N1 N2 : cl_M} (h1 : tx_f tx_any M M1 N N1) (h2 : tx_f tx_any M1 M2 N1 N2) : tx_f tx_any M M2 N N2 := tx_f_tr h1 h2 (fun _ hj => Bool.noConfusion (show true = false from hj))
def tx_bad (M N : cl_M) (x : Option (Int32 × cl_M)) (y : Option (Int32 × cl_M)) : Prop := ∃ M' N', x = some (0, M') ∧ y = some (0, N') ∧ tx_E M' N' ∧ tx_f tx_any M M' N N'
/-- the numbers of a command, read by both -/
theorem tx_argt (P : tx_P n M N) {q g c t m : Nat} (hq : q < 10) (h6 : M 1 6 = nI (q + 1)) (L : cg_L M t (N 239) g m) (ht : 4 ≤ t) (hc : N 239 4 = nI c) (hc8 : c ≤ 8) :
    tx_bad M N (f_X3_readArguments M 1 t) (f_X6_argumentsText N 237 (nI q)) ∨
    ∃ M' N' a, f_X3_readArguments M 1 t = some (1, M') ∧ f_X6_argumentsText N 237 (nI q) = some (1, N') ∧ tx_P n M' N' ∧ tx_as M' N' (tx_n q) a ∧ tx_ok q g c a ∧ tx_f tx_any M M' N N' := by
  have hg := L.1.1
  have h3 : M t 3 = nI g := L.1.2.1
  have h7 : N 239 7 = nI g := L.1.2.2.1
  have hc2 : M (t + 1) 2 = nI c := by
    have := L.1.2.2.2.2.2.2.2.1
    rw [this, cw_xi rfl, hc]
  have z1 : cl_bz 1 = true := by decide
  have z0 : cl_bz 0 = true := by decide
  have o1 : ¬ (1 : Int32) = 0 := by decide
  have gi : ∀ (N1 : cl_M) (b : Int32) (N2 : cl_M), (b = 0 ∨ b = 1) → N1 239 7 = nI g → f_X6_into N1 237 0 0 (nI g - 1) = some (b, N2) → f_X6_garmentInto N1 237 0 = some (b, N2) := by
    intro N1 b N2 hb e7 e
    rw [f_X6_garmentInto, show N1 (237 + 2) 7 = nI g from e7, e, cu_b2]
    rcases hb with rfl | rfl
    · rw [if_pos z0]
    · rw [if_pos z1]
  have e3 : M t 3 - 1 = nI g - 1 := by rw [h3]
  have hone : ∀ (f : Int32 → Option (Int32 × cl_M)), True := fun _ => trivial
  -- one garment's number
  have G1 : tx_bad M N (f_X3_readNumber M 1 0 0 (nI g - 1)) (f_X6_garmentInto N 237 0) ∨ ∃ M' N' v, f_X3_readNumber M 1 0 0 (nI g - 1) = some (1, M') ∧ f_X6_garmentInto N 237 0 = some (1, N') ∧ v < g ∧ tx_P n M' N' ∧ tx_as M' N' 1 (fun j => if j = 0 then v else 0) ∧ tx_f tx_any M M' N N' := by
    rcases tx_num (k := 0) (l := 0) (a := 0) (lo := 0) P rfl (by omega) rfl (by omega) (tx_hi (show g ≤ 9999 by omega)) with ⟨M1, N1, y1, y2, y3, y4⟩ | ⟨M1, N1, v, y1, y2, ⟨x1, x2, x3, x4, x5⟩, y4, y5⟩
    · exact Or.inl ⟨M1, N1, y1, gi N 0 N1 (Or.inl rfl) h7 y2, y3, tx_as_f y4⟩
    · exact Or.inr ⟨M1, N1, v, y1, gi N 1 N1 (Or.inr rfl) h7 y2, tx_lt x2 (by omega) x3, y4, tx_as_1 (a := fun _ => 0) (fun j hj => absurd hj (Nat.not_lt_zero j)) x4 x5, tx_as_f y5⟩
  -- one more number behind others
  have G2 : ∀ (M1 N1 : cl_M) (k l h : Nat) (a lo hi : Int32) (as : Nat → Nat), tx_P n M1 N1 → a = nI k → k < 4 → lo = nI l → l ≤ 9999 → hi = nI h → h ≤ 9999 → tx_as M1 N1 k as → tx_f tx_any M M1 N N1 →
      tx_bad M N (f_X3_readNumber M1 1 a lo hi) (f_X6_into N1 237 a lo hi) ∨ ∃ M' N' v, f_X3_readNumber M1 1 a lo hi = some (1, M') ∧ f_X6_into N1 237 a lo hi = some (1, N') ∧ l ≤ v ∧ v ≤ h ∧ tx_P n M' N' ∧ tx_as M' N' (k + 1) (fun j => if j = k then v else as j) ∧ tx_f tx_any M M' N N' := by
    intro M1 N1 k l h a lo hi as P1 ha hk hlo hl hhi hh hA hf
    have hhi9 : hi ≤ 9999 := by rw [hhi]; exact nI_le (b := 9999) hh (by omega)
    rcases tx_num P1 ha hk hlo hl hhi9 with ⟨M2, N2, y1, y2, y3, y4⟩ | ⟨M2, N2, v, y1, y2, ⟨x1, x2, x3, x4, x5⟩, y4, y5⟩
    · exact Or.inl ⟨M2, N2, y1, y2, y3, tx_any_tr hf (tx_as_f y4)⟩
    · rw [hhi] at x3
      exact Or.inr ⟨M2, N2, v, y1, y2, x1, tx_le x2 hh x3, y4, tx_as_1 (tx_keep y5 (fun j hj => by simp; omega) hA) x4 x5, tx_any_tr hf (tx_as_f y5)⟩
  have hz : tx_as M N 0 (fun _ => 0) := fun j hj => absurd hj (Nat.not_lt_zero j)
  rw [f_X3_readArguments, cl_let, h6, e3, f_X6_argumentsText]
  rcases (show q = 0 ∨ q = 1 ∨ q = 2 ∨ q = 3 ∨ q = 4 ∨ q = 5 ∨ q = 6 ∨ q = 7 ∨ q = 8 ∨ q = 9 by omega) with rfl | rfl | rfl | rfl | rfl | rfl | rfl | rfl | rfl | rfl
  · rw [if_pos (show nI (0 + 1) = 1 from rfl), if_pos (show nI 0 = 0 from rfl)]
    rcases G2 M N 0 1 6 0 1 6 _ P rfl (by omega) rfl (by omega) rfl (by omega) hz tx_f_0 with ⟨M1, N1, y1, y2, y3, y4⟩ | ⟨M1, N1, v0, y1, y2, y3, y4, y5, y6, y7⟩
    · left; exact ⟨M1, N1, by rw [y1, cu_b2, if_pos rfl, f_X3_readArguments_118, if_pos z0], by rw [y2, cu_b2, if_pos rfl, f_X6_argumentsText_110, if_pos z0], y3, y4⟩
    rw [y1, y2, cu_b2, cu_b2, if_neg o1, if_neg o1]
    rcases G2 M1 N1 1 1 99 1 1 99 _ y5 rfl (by omega) rfl (by omega) rfl (by omega) y6 y7 with ⟨M2, N2, w1, w2, w3, w4⟩ | ⟨M2, N2, v1, w1, w2, w3, w4, w5, w6, w7⟩
    · left; exact ⟨M2, N2, by rw [w1, cu_b2, if_pos rfl, f_X3_readArguments_118, if_pos z0], by rw [w2, cu_b2, if_pos rfl, f_X6_argumentsText_110, if_pos z0], w3, w4⟩
    rw [w1, w2, cu_b2, cu_b2, if_neg o1, if_neg o1]
    rcases G2 M2 N2 2 1 999 2 1 999 _ w5 rfl (by omega) rfl (by omega) rfl (by omega) w6 w7 with ⟨M3, N3, x1, x2, x3, x4⟩ | ⟨M3, N3, v2, x1, x2, x3, x4, x5, x6, x7⟩
    · left; exact ⟨M3, N3, by rw [x1, cu_b2, if_pos rfl, f_X3_readArguments_118, if_pos z0], by rw [x2, cu_b2, if_pos rfl, f_X6_argumentsText_110, if_pos z0], x3, x4⟩
    rw [x1, x2, cu_b2, cu_b2, if_neg o1, if_neg o1]
    have a2 : M3 3 2 = nI v2 ∧ N3 245 2 = nI v2 := x6 2 (by omega)
    rw [show M3 (1 + 2) 2 = nI v2 from a2.1, show N3 (237 + 8) 2 = nI v2 from a2.2]
    rcases G2 M3 N3 3 0 v2 3 0 (nI v2) _ x5 rfl (by omega) rfl (by omega) rfl (by omega) x6 x7 with ⟨M4, N4, u1, u2, u3, u4⟩ | ⟨M4, N4, v3, u1, u2, u3, u4, u5, u6, u7⟩
    · left; exact ⟨M4, N4, by rw [u1, cu_b2, if_pos rfl, f_X3_readArguments_118, if_pos z0], by rw [u2, cu_b2, if_pos rfl, f_X6_argumentsText_110, if_pos z0], u3, u4⟩
    right
    refine ⟨M4, N4, _, by rw [u1, cu_b2, if_neg o1, f_X3_readArguments_118, if_pos z1], by rw [u2, cu_b2, if_neg o1, f_X6_argumentsText_110, if_pos z1], u5, u6, ?_, u7⟩
    show 1 ≤ v0 ∧ v0 ≤ 6 ∧ 1 ≤ v1 ∧ v1 ≤ 99 ∧ 1 ≤ v2 ∧ v2 ≤ 999 ∧ v3 ≤ v2
    exact ⟨y3, y4, w3, w4, x3, x4, u4⟩
  · rw [if_neg (show ¬ nI (1 + 1) = 1 by decide), if_pos (show nI (1 + 1) = 2 from rfl), if_neg (show ¬ nI 1 = 0 by decide), if_pos (show nI 1 = 1 from rfl)]
    rcases G1 with ⟨M1, N1, y1, y2, y3, y4⟩ | ⟨M1, N1, v0, y1, y2, y3, y5, y6, y7⟩
    · left; exact ⟨M1, N1, by rw [y1, cu_b2, if_pos rfl, f_X3_readArguments_165, if_pos z0], by rw [y2, cu_b2, if_pos rfl, f_X6_argumentsText_155, if_pos z0], y3, y4⟩
    rw [y1, y2, cu_b2, cu_b2, if_neg o1, if_neg o1]
    rcases G2 M1 N1 1 0 23 1 0 23 _ y5 rfl (by omega) rfl (by omega) rfl (by omega) y6 y7 with ⟨M2, N2, w1, w2, w3, w4⟩ | ⟨M2, N2, v1, w1, w2, w3, w4, w5, w6, w7⟩
    · left; exact ⟨M2, N2, by rw [w1, cu_b2, if_pos rfl, f_X3_readArguments_165, if_pos z0], by rw [w2, cu_b2, if_pos rfl, f_X6_argumentsText_155, if_pos z0], w3, w4⟩
    rw [w1, w2, cu_b2, cu_b2, if_neg o1, if_neg o1]
    rcases G2 M2 N2 2 0 4 2 0 4 _ w5 rfl (by omega) rfl (by omega) rfl (by omega) w6 w7 with ⟨M3, N3, x1, x2, x3, x4⟩ | ⟨M3, N3, v2, x1, x2, x3, x4, x5, x6, x7⟩
    · left; exact ⟨M3, N3, by rw [x1, cu_b2, if_pos rfl, f_X3_readArguments_165, if_pos z0], by rw [x2, cu_b2, if_pos rfl, f_X6_argumentsText_155, if_pos z0], x3, x4⟩
    rw [x1, x2, cu_b2, cu_b2, if_neg o1, if_neg o1]
    rcases G2 M3 N3 3 0 4 3 0 4 _ x5 rfl (by omega) rfl (by omega) rfl (by omega) x6 x7 with ⟨M4, N4, u1, u2, u3, u4⟩ | ⟨M4, N4, v3, u1, u2, u3, u4, u5, u6, u7⟩
    · left; exact ⟨M4, N4, by rw [u1, cu_b2, if_pos rfl, f_X3_readArguments_165, if_pos z0], by rw [u2, cu_b2, if_pos rfl, f_X6_argumentsText_155, if_pos z0], u3, u4⟩
    right
    refine ⟨M4, N4, _, by rw [u1, cu_b2, if_neg o1, f_X3_readArguments_165, if_pos z1], by rw [u2, cu_b2, if_neg o1, f_X6_argumentsText_155, if_pos z1], u5, u6, ?_, u7⟩
    show v0 < g ∧ v1 ≤ 23 ∧ v2 ≤ 4 ∧ v3 ≤ 4
    exact ⟨y3, w4, x4, u4⟩
  · rw [if_neg (show ¬ nI (2 + 1) = 1 by decide), if_neg (show ¬ nI (2 + 1) = 2 by decide), if_pos (show nI (2 + 1) = 3 from rfl), if_neg (show ¬ nI 2 = 0 by decide), if_neg (show ¬ nI 2 = 1 by decide), if_pos (show nI 2 = 2 from rfl), f_X3_readArguments_313, f_X6_argumentsText_300]
    rcases G1 with ⟨M1, N1, y1, y2, y3, y4⟩ | ⟨M1, N1, v0, y1, y2, y3, y5, y6, y7⟩
    · left; exact ⟨M1, N1, by rw [y1, cu_b2, if_pos z0], by rw [y2, cu_b2, if_pos z0], y3, y4⟩
    · right; exact ⟨M1, N1, _, by rw [y1, cu_b2, if_pos z1], by rw [y2, cu_b2, if_pos z1], y5, y6, y3, y7⟩
  · rw [if_neg (show ¬ nI (3 + 1) = 1 by decide), if_neg (show ¬ nI (3 + 1) = 2 by decide), if_neg (show ¬ nI (3 + 1) = 3 by decide), if_pos (show nI (3 + 1) = 4 from rfl), if_neg (show ¬ nI 3 = 0 by decide), if_neg (show ¬ nI 3 = 1 by decide), if_neg (show ¬ nI 3 = 2 by decide), if_pos (show nI 3 = 3 from rfl), f_X3_readArguments_313, f_X6_argumentsText_300]
    rcases G1 with ⟨M1, N1, y1, y2, y3, y4⟩ | ⟨M1, N1, v0, y1, y2, y3, y5, y6, y7⟩
    · left; exact ⟨M1, N1, by rw [y1, cu_b2, if_pos z0], by rw [y2, cu_b2, if_pos z0], y3, y4⟩
    · right; exact ⟨M1, N1, _, by rw [y1, cu_b2, if_pos z1], by rw [y2, cu_b2, if_pos z1], y5, y6, y3, y7⟩
  · rw [if_neg (show ¬ nI (4 + 1) = 1 by decide), if_neg (show ¬ nI (4 + 1) = 2 by decide), if_neg (show ¬ nI (4 + 1) = 3 by decide), if_neg (show ¬ nI (4 + 1) = 4 by decide), if_pos (show nI (4 + 1) = 5 from rfl), if_neg (show ¬ nI 4 = 0 by decide), if_neg (show ¬ nI 4 = 1 by decide), if_neg (show ¬ nI 4 = 2 by decide), if_neg (show ¬ nI 4 = 3 by decide), if_pos (show nI 4 = 4 from rfl), f_X3_readArguments_313, f_X6_argumentsText_300]
    rcases G1 with ⟨M1, N1, y1, y2, y3, y4⟩ | ⟨M1, N1, v0, y1, y2, y3, y5, y6, y7⟩
    · left; exact ⟨M1, N1, by rw [y1, cu_b2, if_pos z0], by rw [y2, cu_b2, if_pos z0], y3, y4⟩
    · right; exact ⟨M1, N1, _, by rw [y1, cu_b2, if_pos z1], by rw [y2, cu_b2, if_pos z1], y5, y6, y3, y7⟩
  · rw [if_neg (show ¬ nI (5 + 1) = 1 by decide), if_neg (show ¬ nI (5 + 1) = 2 by decide), if_neg (show ¬ nI (5 + 1) = 3 by decide), if_neg (show ¬ nI (5 + 1) = 4 by decide), if_neg (show ¬ nI (5 + 1) = 5 by decide), if_pos (show nI (5 + 1) = 6 from rfl), if_neg (show ¬ nI 5 = 0 by decide), if_neg (show ¬ nI 5 = 1 by decide), if_neg (show ¬ nI 5 = 2 by decide), if_neg (show ¬ nI 5 = 3 by decide), if_neg (show ¬ nI 5 = 4 by decide), if_pos (show nI 5 = 5 from rfl)]
    rcases G1 with ⟨M1, N1, y1, y2, y3, y4⟩ | ⟨M1, N1, v0, y1, y2, y3, y5, y6, y7⟩
    · left; exact ⟨M1, N1, by rw [y1, cu_b2, if_pos rfl, f_X3_readArguments_192, if_pos z0], by rw [y2, cu_b2, if_pos rfl, f_X6_argumentsText_180, if_pos z0], y3, y4⟩
    rw [y1, y2, cu_b2, cu_b2, if_neg o1, if_neg o1]
    rcases G2 M1 N1 1 0 23 1 0 23 _ y5 rfl (by omega) rfl (by omega) rfl (by omega) y6 y7 with ⟨M2, N2, w1, w2, w3, w4⟩ | ⟨M2, N2, v1, w1, w2, w3, w4, w5, w6, w7⟩
    · left; exact ⟨M2, N2, by rw [w1, cu_b2, if_pos rfl, f_X3_readArguments_192, if_pos z0], by rw [w2, cu_b2, if_pos rfl, f_X6_argumentsText_180, if_pos z0], w3, w4⟩
    right
    refine ⟨M2, N2, _, by rw [w1, cu_b2, if_neg o1, f_X3_readArguments_192, if_pos z1], by rw [w2, cu_b2, if_neg o1, f_X6_argumentsText_180, if_pos z1], w5, w6, ?_, w7⟩
    show v0 < g ∧ v1 ≤ 23
    exact ⟨y3, w4⟩
  · rw [if_neg (show ¬ nI (6 + 1) = 1 by decide), if_neg (show ¬ nI (6 + 1) = 2 by decide), if_neg (show ¬ nI (6 + 1) = 3 by decide), if_neg (show ¬ nI (6 + 1) = 4 by decide), if_neg (show ¬ nI (6 + 1) = 5 by decide), if_neg (show ¬ nI (6 + 1) = 6 by decide), if_pos (show nI (6 + 1) = 7 from rfl), if_neg (show ¬ nI 6 = 0 by decide), if_neg (show ¬ nI 6 = 1 by decide), if_neg (show ¬ nI 6 = 2 by decide), if_neg (show ¬ nI 6 = 3 by decide), if_neg (show ¬ nI 6 = 4 by decide), if_neg (show ¬ nI 6 = 5 by decide), if_pos (show nI 6 = 6 from rfl)]
    rcases G2 M N 0 0 9999 0 0 9999 _ P rfl (by omega) rfl (by omega) rfl (by omega) hz tx_f_0 with ⟨M1, N1, y1, y2, y3, y4⟩ | ⟨M1, N1, v0, y1, y2, y3, y4, y5, y6, y7⟩
    · left; exact ⟨M1, N1, by rw [y1, cu_b2, if_pos rfl, f_X3_readArguments_233, if_pos z0], by rw [y2, cu_b2, if_pos rfl, f_X6_argumentsText_221, if_pos z0], y3, y4⟩
    rw [y1, y2, cu_b2, cu_b2, if_neg o1, if_neg o1]
    rcases G2 M1 N1 1 1 200 1 1 200 _ y5 rfl (by omega) rfl (by omega) rfl (by omega) y6 y7 with ⟨M2, N2, w1, w2, w3, w4⟩ | ⟨M2, N2, v1, w1, w2, w3, w4, w5, w6, w7⟩
    · left; exact ⟨M2, N2, by rw [w1, cu_b2, if_pos rfl, f_X3_readArguments_233, if_pos z0], by rw [w2, cu_b2, if_pos rfl, f_X6_argumentsText_221, if_pos z0], w3, w4⟩
    rw [w1, w2, cu_b2, cu_b2, if_neg o1, if_neg o1]
    rcases G2 M2 N2 2 1 20 2 1 20 _ w5 rfl (by omega) rfl (by omega) rfl (by omega) w6 w7 with ⟨M3, N3, x1, x2, x3, x4⟩ | ⟨M3, N3, v2, x1, x2, x3, x4, x5, x6, x7⟩
    · left; exact ⟨M3, N3, by rw [x1, cu_b2, if_pos rfl, f_X3_readArguments_233, if_pos z0], by rw [x2, cu_b2, if_pos rfl, f_X6_argumentsText_221, if_pos z0], x3, x4⟩
    right
    refine ⟨M3, N3, _, by rw [x1, cu_b2, if_neg o1, f_X3_readArguments_233, if_pos z1], by rw [x2, cu_b2, if_neg o1, f_X6_argumentsText_221, if_pos z1], x5, x6, ?_, x7⟩
    show v0 ≤ 9999 ∧ 1 ≤ v1 ∧ v1 ≤ 200 ∧ 1 ≤ v2 ∧ v2 ≤ 20
    exact ⟨y4, w3, w4, x3, x4⟩
  · rw [if_neg (show ¬ nI (7 + 1) = 1 by decide), if_neg (show ¬ nI (7 + 1) = 2 by decide), if_neg (show ¬ nI (7 + 1) = 3 by decide), if_neg (show ¬ nI (7 + 1) = 4 by decide), if_neg (show ¬ nI (7 + 1) = 5 by decide), if_neg (show ¬ nI (7 + 1) = 6 by decide), if_neg (show ¬ nI (7 + 1) = 7 by decide), if_pos (show nI (7 + 1) = 8 from rfl), if_neg (show ¬ nI 7 = 0 by decide), if_neg (show ¬ nI 7 = 1 by decide), if_neg (show ¬ nI 7 = 2 by decide), if_neg (show ¬ nI 7 = 3 by decide), if_neg (show ¬ nI 7 = 4 by decide), if_neg (show ¬ nI 7 = 5 by decide), if_neg (show ¬ nI 7 = 6 by decide), if_pos (show nI 7 = 7 from rfl)]
    rcases G2 M N 0 0 9999 0 0 9999 _ P rfl (by omega) rfl (by omega) rfl (by omega) hz tx_f_0 with ⟨M1, N1, y1, y2, y3, y4⟩ | ⟨M1, N1, v0, y1, y2, y3, y4, y5, y6, y7⟩
    · left; exact ⟨M1, N1, by rw [y1, cu_b2, if_pos rfl, f_X3_readArguments_268, if_pos z0], by rw [y2, cu_b2, if_pos rfl, f_X6_argumentsText_256, if_pos z0], y3, y4⟩
    rw [y1, y2, cu_b2, cu_b2, if_neg o1, if_neg o1]
    have a0 : M1 3 0 = nI v0 ∧ N1 245 0 = nI v0 := y6 0 (by omega)
    rw [show M1 (1 + 2) 0 = nI v0 from a0.1, show N1 (237 + 8) 0 = nI v0 from a0.2]
    rcases G2 M1 N1 1 v0 9999 1 (nI v0) 9999 _ y5 rfl (by omega) rfl (by omega) rfl (by omega) y6 y7 with ⟨M2, N2, w1, w2, w3, w4⟩ | ⟨M2, N2, v1, w1, w2, w3, w4, w5, w6, w7⟩
    · left; exact ⟨M2, N2, by rw [w1, cu_b2, if_pos rfl, f_X3_readArguments_268, if_pos z0], by rw [w2, cu_b2, if_pos rfl, f_X6_argumentsText_256, if_pos z0], w3, w4⟩
    right
    refine ⟨M2, N2, _, by rw [w1, cu_b2, if_neg o1, f_X3_readArguments_268, if_pos z1], by rw [w2, cu_b2, if_neg o1, f_X6_argumentsText_256, if_pos z1], w5, w6, ?_, w7⟩
    show v0 ≤ v1 ∧ v1 ≤ 9999
    exact ⟨w3, w4⟩
  · rw [if_neg (show ¬ nI (8 + 1) = 1 by decide), if_neg (show ¬ nI (8 + 1) = 2 by decide), if_neg (show ¬ nI (8 + 1) = 3 by decide), if_neg (show ¬ nI (8 + 1) = 4 by decide), if_neg (show ¬ nI (8 + 1) = 5 by decide), if_neg (show ¬ nI (8 + 1) = 6 by decide), if_neg (show ¬ nI (8 + 1) = 7 by decide), if_neg (show ¬ nI (8 + 1) = 8 by decide), if_pos (show nI (8 + 1) = 9 from rfl), if_neg (show ¬ nI 8 = 0 by decide), if_neg (show ¬ nI 8 = 1 by decide), if_neg (show ¬ nI 8 = 2 by decide), if_neg (show ¬ nI 8 = 3 by decide), if_neg (show ¬ nI 8 = 4 by decide), if_neg (show ¬ nI 8 = 5 by decide), if_neg (show ¬ nI 8 = 6 by decide), if_neg (show ¬ nI 8 = 7 by decide), if_pos (show nI 8 = 8 from rfl), hc2, show N (237 + 2) 4 = nI c from hc]
    rcases tx_num (k := 0) (l := 0) (a := 0) (lo := 0) P rfl (by omega) rfl (by omega) (tx_hi (show c ≤ 9999 by omega)) with ⟨M1, N1, y1, y2, y3, y4⟩ | ⟨M1, N1, v0, y1, y2, ⟨x1, x2, x3, x4, x5⟩, y5, y7⟩
    · left; exact ⟨M1, N1, by rw [y1, cu_b2, if_pos rfl, f_X3_readArguments_302, if_pos z0], by rw [y2, cu_b2, if_pos rfl, f_X6_argumentsText_289, if_pos z0], y3, tx_as_f y4⟩
    rw [y1, y2, cu_b2, cu_b2, if_neg o1, if_neg o1]
    have y6 : tx_as M1 N1 1 (fun j => if j = 0 then v0 else 0) := tx_as_1 (a := fun _ => 0) (fun j hj => absurd hj (Nat.not_lt_zero j)) x4 x5
    rcases G2 M1 N1 1 0 5 1 0 5 _ y5 rfl (by omega) rfl (by omega) rfl (by omega) y6 (tx_as_f y7) with ⟨M2, N2, w1, w2, w3, w4⟩ | ⟨M2, N2, v1, w1, w2, w3, w4, w5, w6, w7⟩
    · left; exact ⟨M2, N2, by rw [w1, cu_b2, if_pos rfl, f_X3_readArguments_302, if_pos z0], by rw [w2, cu_b2, if_pos rfl, f_X6_argumentsText_289, if_pos z0], w3, w4⟩
    right
    refine ⟨M2, N2, _, by rw [w1, cu_b2, if_neg o1, f_X3_readArguments_302, if_pos z1], by rw [w2, cu_b2, if_neg o1, f_X6_argumentsText_289, if_pos z1], w5, w6, ?_, w7⟩
    show v0 < c ∧ v1 ≤ 5
    exact ⟨tx_lt x2 (by omega) x3, w4⟩
  · rw [if_neg (show ¬ nI (9 + 1) = 1 by decide), if_neg (show ¬ nI (9 + 1) = 2 by decide), if_neg (show ¬ nI (9 + 1) = 3 by decide), if_neg (show ¬ nI (9 + 1) = 4 by decide), if_neg (show ¬ nI (9 + 1) = 5 by decide), if_neg (show ¬ nI (9 + 1) = 6 by decide), if_neg (show ¬ nI (9 + 1) = 7 by decide), if_neg (show ¬ nI (9 + 1) = 8 by decide), if_neg (show ¬ nI (9 + 1) = 9 by decide), if_pos (show nI (9 + 1) = 10 from rfl), if_neg (show ¬ nI 9 = 0 by decide), if_neg (show ¬ nI 9 = 1 by decide), if_neg (show ¬ nI 9 = 2 by decide), if_neg (show ¬ nI 9 = 3 by decide), if_neg (show ¬ nI 9 = 4 by decide), if_neg (show ¬ nI 9 = 5 by decide), if_neg (show ¬ nI 9 = 6 by decide), if_neg (show ¬ nI 9 = 7 by decide), if_neg (show ¬ nI 9 = 8 by decide), if_pos (show nI 9 = 9 from rfl)]
    rcases G2 M N 0 1 200 0 1 200 _ P rfl (by omega) rfl (by omega) rfl (by omega) hz tx_f_0 with ⟨M1, N1, y1, y2, y3, y4⟩ | ⟨M1, N1, v0, y1, y2, y3, y4, y5, y6, y7⟩
    · left; exact ⟨M1, N1, by rw [y1, cu_b2, if_pos z0], by rw [y2, cu_b2, if_pos z0], y3, y4⟩
    · right
      refine ⟨M1, N1, _, by rw [y1, cu_b2, if_pos z1], by rw [y2, cu_b2, if_pos z1], y5, y6, ?_, y7⟩
      show 1 ≤ v0 ∧ v0 ≤ 200
      exact ⟨y3, y4⟩
end TC
