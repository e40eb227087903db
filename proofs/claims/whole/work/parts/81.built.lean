/-! from the cells that constructors made to the world of the methods, and back -/
theorem nw_arrV {cA : ClassId} {n : Nat} {f g : Nat → Value} (h : ∀ j, j < n → f j = g j) : arrV cA n f = arrV cA n g := by
  unfold arrV
  congr 1
  congr 1
  funext j
  exact h j.val j.isLt
def nw_X (dd : cl_D) (b : Nat) (M : cl_M) : Nat → va_E := fun k => nw_e dd (cl_s0 k) (cl_ln k) b k (M k)
theorem nw_X_ent {dd : cl_D} {b k : Nat} {M : cl_M} {H : Heap} (hk : k < cl_K dd) : va_at dd.1 cl_cls (b + k, nw_X dd b M k) H ↔ va_at dd.1 cl_cls (b + k, cl_ent dd b k (M k)) H := by
  have e : cl_sh dd k = cl_s0 k := by rw [cl_sh, if_pos hk]
  unfold nw_X nw_e cl_ent
  rw [e]
  generalize cl_s0 k = sh
  rcases (show sh = 0 ∨ sh = 1 ∨ sh = 2 ∨ sh = 3 ∨ sh = 4 ∨ sh = 5 ∨ sh = 6 ∨ sh = 7 ∨ sh = 8 ∨ sh = 9 ∨ sh = 10 ∨ sh = 11 ∨ ∃ q, sh = q + 12 from by
    rcases Nat.lt_or_ge sh 12 with h | h
    · omega
    · exact Or.inr (Or.inr (Or.inr (Or.inr (Or.inr (Or.inr (Or.inr (Or.inr (Or.inr (Or.inr (Or.inr (Or.inr ⟨sh - 12, by omega⟩)))))))))))) with rfl | rfl | rfl | rfl | rfl | rfl | rfl | rfl | rfl | rfl | rfl | rfl | ⟨q, rfl⟩ <;> first
    | exact Iff.rfl
    | (show H[b + k]? = some (vp_cell _ _) ↔ H[b + k]? = some (vp_cell _ _)
       rw [vp_cell_q, vp_cell_q, nw_arrV (fun j hj => by rw [if_pos hj])])
theorem nw_to_w {dd : cl_D} {b n : Nat} {M : cl_M} {H : Heap} (hn : cl_K dd = n) (h : nw_P dd b n (nw_X dd b M) H) : va_P dd.1 cl_cls (cl_w dd b M) H := by
  intro k q hk
  obtain ⟨h1, rfl⟩ := cl_w_at hk
  exact (nw_X_ent h1).mp (h k (by omega))
theorem nw_of_w {dd : cl_D} {b n : Nat} {M : cl_M} {H : Heap} (hn : cl_K dd = n) (h : va_P dd.1 cl_cls (cl_w dd b M) H) : nw_P dd b n (nw_X dd b M) H := by
  intro k hk
  exact (nw_X_ent (by omega)).mpr (h k _ (cl_w_get dd b M (by omega)))
theorem nw_s3 : ∀ k, k < 248 → (cl_s0 k = 3 ↔ k = 1) ∧ (cl_s0 k = 6 ↔ k = 237) := by decide +kernel
theorem nw_fi {k : Nat} (hk : k < 248) : nw_r (cl_s0 k) = fi_M0 k := by
  funext j
  obtain ⟨h3, h6⟩ := nw_s3 k hk
  unfold nw_r fi_M0
  simp only [h3, h6]
  by_cases q1 : k = 1 ∧ j = 9
  · rw [if_pos q1, if_pos (Or.inr (Or.inl q1))]
  · rw [if_neg q1]
    by_cases q2 : k = 237 ∧ j = 3
    · rw [if_pos q2, if_pos (Or.inr (Or.inr q2))]
    · rw [if_neg q2]
      by_cases q3 : cl_s0 k = 0 ∧ j = 7
      · rw [if_pos q3, if_pos (Or.inl q3)]
      · rw [if_neg q3, if_neg (by rintro (h | h | h) <;> contradiction)]
theorem nw_E_X {dd : cl_D} {b k : Nat} (hk : k < 248) : nw_E dd b 0 k = nw_X dd b fi_M0 k := by
  unfold nw_E nw_X
  rw [Nat.zero_add, nw_fi hk]
/-- the phases: the class alone, with the reference, with the long too -/
def nw_dd (g : va_G) (tA : Nat → ClassId) (tS tB : Nat → Nat) (ph : Nat) : cl_D := (g, tA, tS, fun i => if i = 999 then ph else tB i)
theorem nw_K0 {g : va_G} {tA : Nat → ClassId} {tS tB : Nat → Nat} : cl_K (nw_dd g tA tS tB 0) = 237 := rfl
theorem nw_K1 {g : va_G} {tA : Nat → ClassId} {tS tB : Nat → Nat} : cl_K (nw_dd g tA tS tB 1) = 247 := rfl
theorem nw_K2 {g : va_G} {tA : Nat → ClassId} {tS tB : Nat → Nat} : cl_K (nw_dd g tA tS tB 2) = 248 := rfl
theorem nw_X_ph {g : va_G} {tA : Nat → ClassId} {tS tB : Nat → Nat} {i j : Nat} : nw_X (nw_dd g tA tS tB i) = nw_X (nw_dd g tA tS tB j) := rfl
theorem nw_E_ph {g : va_G} {tA : Nat → ClassId} {tS tB : Nat → Nat} {i j b : Nat} {U : State} {H : Heap} (h : cl_E (nw_dd g tA tS tB i) b U H) : cl_E (nw_dd g tA tS tB j) b U H := by
  refine ⟨fun q hq => ?_, h.2⟩
  have e : ∀ x, (nw_dd g tA tS tB x).2.2.2 q = tB q := fun x => if_neg (by omega)
  have := h.1 q hq
  rw [e] at this ⊢
  exact this
