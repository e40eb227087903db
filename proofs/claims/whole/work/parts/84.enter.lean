/-! what the tables and the premises give at the law's entry -/
theorem en_tyc (c : Nat) {args : Array Value} {s : State} (hts : ∀ w ∈ cl_W, w.before args s = true) : ∃ q : ClassId × (Nat → Nat), ∀ z, cl_cls[c]? = some z → u_Kn s z.1 z.2.1 z.2.2 q.1 q.2 := by
  have go : ∀ {C : String} {T : u_T} {N : Nat}, (∀ w ∈ u_ws C T N, w ∈ cl_W) → Cond.instantiable C N ∈ cl_W → cl_cls[c]? = some (C, T, N) → ∃ q : ClassId × (Nat → Nat), ∀ z, cl_cls[c]? = some z → u_Kn s z.1 z.2.1 z.2.2 q.1 q.2 := fun {C T N} h1 h2 h3 => by
    obtain ⟨cC, iS, h⟩ := u_known hts h1 (hts _ h2)
    refine ⟨(cC, iS), fun z hz => ?_⟩
    rw [h3] at hz
    cases hz
    exact h
  rcases (show c = 0 ∨ c = 1 ∨ c = 2 ∨ c = 3 ∨ c = 4 ∨ c = 5 ∨ c = 6 ∨ 7 ≤ c by omega) with rfl | rfl | rfl | rfl | rfl | rfl | rfl | h
  · exact go cl_inW0 is_X0 rfl
  · exact go cl_inW1 is_X1 rfl
  · exact go cl_inW2 is_X2 rfl
  · exact go cl_inW3 is_X3 rfl
  · exact go cl_inW4 is_X4 rfl
  · exact go cl_inW5 is_X5 rfl
  · exact go cl_inW6 is_X6 rfl
  · refine ⟨(0, fun _ => 0), fun z hz => ?_⟩
    rw [List.getElem?_eq_none (by simpa using h)] at hz
    cases hz
def en_ty (k : Nat) : FieldType := match k with
  | 0 => .int
  | 1 => .boolean
  | 2 => .object RX0
  | 3 => .object RX2
  | _ => .long
theorem en_arr {args : Array Value} {s : State} {t : FieldType} (h : (Cond.arrayClass t).before args s = true) (ht : ∀ C, t ≠ .object C) : ∃ cA : ClassId, ArrOfT s cA t ∧ va_RA s cA t := by
  obtain ⟨cA, k, comp, h1, h2, h3⟩ := Cond.arrayClass_spec h
  refine ⟨cA, fun n z => ⟨fun q h => (by cases h), k, h2, comp, h3⟩, ?_⟩
  cases t with
  | object C => exact absurd rfl (ht C)
  | _ => exact h1
theorem en_arq {s : State} {C : String} (h : va_AO C s) : ∃ cA : ClassId, ArrOfT s cA (.object C) ∧ va_RA s cA (.object C) := by
  obtain ⟨comp, c, k, h1, h2, h3, h4, h5⟩ := Cond.arrayOver_spec h
  exact ⟨c, fun n z => ⟨fun q h => (by cases h), k, h3, comp, h4⟩, k, comp, h3, h4, h1, h5⟩
theorem en_K {args : Array Value} {s : State} (hts : ∀ w ∈ cl_W, w.before args s = true) (hA : nw_AO s) : ∃ (g : va_G) (tA : Nat → ClassId), ∀ dd : cl_D, dd.1 = g → dd.2.1 = tA → va_K dd.1 cl_cls (cl_tys dd) s := by
  obtain ⟨f, hf⟩ := Classical.axiomOfChoice (fun c => en_tyc c hts)
  have h0 : ∀ k : Nat, ∃ cA : ClassId, ArrOfT s cA (en_ty k) ∧ va_RA s cA (en_ty k) := fun k => by
    match k with
    | 0 => exact en_arr (hts _ ac_int) (fun C h => by cases h)
    | 1 => exact en_arr (hts _ ac_boolean) (fun C h => by cases h)
    | 2 => exact en_arq hA.1
    | 3 => exact en_arq hA.2
    | k + 4 => exact en_arr (hts _ ac_long) (fun C h => by cases h)
  obtain ⟨tA, hA2⟩ := Classical.axiomOfChoice h0
  refine ⟨(fun c => (f c).1, fun c => (f c).2), tA, fun dd e1 e2 => ?_⟩
  rw [e1]
  refine ⟨fun c q hq => hf c q hq, fun k q hq => ?_⟩
  have hk : k < 5 := by
    have := (List.getElem?_eq_some_iff.mp hq).1
    simpa [cl_tys] using this
  rcases (show k = 0 ∨ k = 1 ∨ k = 2 ∨ k = 3 ∨ k = 4 by omega) with rfl | rfl | rfl | rfl | rfl
  all_goals
    rw [cl_tys, e2] at hq
    cases hq
    exact hA2 _
/-- the texts -/
theorem en_str {args : Array Value} {s : State} {N : Nat} {tm : Nat → Term} {len : List Nat} {byt : List (List Int32)} {A : Nat → Prop} (hN : ∀ i : Nat, i < N → len.getD i 0 < 2 ^ 31) (hex : ∀ i : Nat, i < N → (Cond.exactly (tm i) "java/lang/String").before args s = true) (hco : ∀ i : Nat, i < N → (Cond.eq (.field (tm i) "java/lang/String" "coder" "B") (.int 0)).before args s = true)
    (har : ∀ i : Nat, i < N → (Cond.arrayOf (.field (tm i) "java/lang/String" "value" "[B") .byte).before args s = true) (hle : ∀ i : Nat, i < N → (Cond.eq (.length (.field (tm i) "java/lang/String" "value" "[B")) (.int (Int32.ofNat (len.getD i 0)))).before args s = true)
    (hel : ∀ i : Nat, i < N → ∀ j : Nat, j < len.getD i 0 → (Cond.eq (.elem (.field (tm i) "java/lang/String" "value" "[B") (.int (Int32.ofNat j))) (.int ((byt.getD i []).getD j 0))).before args s = true) (hA : ∀ a : Nat, a < s.heap.size → ¬ A a) :
    ∃ adK adV : Nat → Nat, ∀ i : Nat, i < N → (tm i).eval args s none [] s = some (.ref (adK i)) ∧ va_O "java/lang/String" (adK i) A s s.heap ∧ va_OF "java/lang/String" "coder" "B" (.int 0) (adK i) A s s.heap ∧ va_OF "java/lang/String" "value" "[B" (.ref (adV i)) (adK i) A s s.heap ∧ va_T .byte (adV i) (len.getD i 0) (fun j => .int ((byt.getD i []).getD j 0)) A s s.heap := by
  have h0 : ∀ i : Nat, ∃ q : Nat × Nat, i < N → (tm i).eval args s none [] s = some (.ref q.1) ∧ va_O "java/lang/String" q.1 A s s.heap ∧ va_OF "java/lang/String" "coder" "B" (.int 0) q.1 A s s.heap ∧ va_OF "java/lang/String" "value" "[B" (.ref q.2) q.1 A s s.heap ∧ va_T .byte q.2 (len.getD i 0) (fun j => .int ((byt.getD i []).getD j 0)) A s s.heap := by
    intro i
    by_cases hi : i < N
    · obtain ⟨a, c, cA, kA, q1, q2, q3, q4, q5, q6, -⟩ := Cond.exactly_spec (args := args) (first := s) (o := none) (s := s) (idx := []) (t := tm i) (cls := "java/lang/String") (hex i hi)
      obtain ⟨t, ht, hT⟩ := va_Tof (f := fun j => .int ((byt.getD i []).getD j 0)) (A := A) (hN i hi) (har i hi) (va_eqt (hle i hi)) (fun j hj => va_eqt (hel i hi j hj)) hA
      exact ⟨(a, t), fun _ => ⟨q1, ⟨cA, q3, q5, by rw [q6]; exact q2, hA a (Array.getElem?_eq_some_iff.mp q3).1⟩, vk_OFof q1 (va_eqt (hco i hi)) hA, vk_OFof q1 ht hA, hT⟩⟩
    · exact ⟨(0, 0), fun h => absurd h hi⟩
  obtain ⟨ad, had⟩ := Classical.axiomOfChoice h0
  exact ⟨fun i => (ad i).1, fun i => (ad i).2, had⟩
def en_tm (i : Nat) : Term := Term.string (cl_st.getD i ("", 0, "")).1 (cl_st.getD i ("", 0, "")).2.1
def en_c1 (i : Nat) : Cond := Cond.exactly (en_tm i) "java/lang/String"
def en_c2 (i : Nat) : Cond := Cond.eq (.field (en_tm i) "java/lang/String" "coder" "B") (.int 0)
def en_c3 (i : Nat) : Cond := Cond.arrayOf (.field (en_tm i) "java/lang/String" "value" "[B") .byte
def en_c4 (i : Nat) : Cond := Cond.eq (.length (.field (en_tm i) "java/lang/String" "value" "[B")) (.int (Int32.ofNat (cl_sl i)))
def en_c5 (i j : Nat) : Cond := Cond.eq (.elem (.field (en_tm i) "java/lang/String" "value" "[B") (.int (Int32.ofNat j))) (.int (cl_ch i j))
def en_sub : List Cond → List Cond → Bool
  | [], _ => true
  | _ :: _, [] => false
  | a :: as, b :: bs => if a = b then en_sub as bs else en_sub (a :: as) bs
theorem en_sub_mem : ∀ (bs as : List Cond), en_sub as bs = true → ∀ x ∈ as, x ∈ bs := by
  intro bs
  induction bs with
  | nil =>
    intro as h x hx
    cases as with
    | nil => cases hx
    | cons a as => cases h
  | cons b bs ih =>
    intro as h x hx
    cases as with
    | nil => cases hx
    | cons a as =>
      rw [en_sub] at h
      by_cases q : a = b
      · rw [if_pos q] at h
        rcases List.mem_cons.mp hx with e | e
        · rw [e, q]
          exact List.mem_cons_self
        · exact List.mem_cons_of_mem _ (ih as h x e)
      · rw [if_neg q] at h
        exact List.mem_cons_of_mem _ (ih _ h x hx)
def en_ord : List Nat := [22, 0, 1, 2, 3, 4, 5, 6, 7, 8, 9, 10, 25, 27, 26, 23, 24, 28, 11, 12, 13, 14, 15, 16, 17, 18, 19, 20, 21]
def en_all : List Cond := en_ord.flatMap (fun i => [en_c1 i, en_c2 i, en_c3 i, en_c4 i] ++ (List.range (cl_sl i)).map (en_c5 i))
set_option maxRecDepth 100000 in
theorem en_all_ok : en_sub en_all (flatC (Jvm.Cond.and given_1 narrow_1)) = true := by decide +kernel
theorem en_ord_all : ∀ i, i < 29 → i ∈ en_ord := by decide
theorem en_in {i : Nat} (hi : i < 29) {w : Cond} (h : w ∈ [en_c1 i, en_c2 i, en_c3 i, en_c4 i] ++ (List.range (cl_sl i)).map (en_c5 i)) : w ∈ flatC (Jvm.Cond.and given_1 narrow_1) :=
  en_sub_mem _ _ en_all_ok w (List.mem_flatMap.mpr ⟨i, en_ord_all i hi, h⟩)
theorem en_S {args : Array Value} {s : State} {A : Nat → Prop} (h : (Jvm.Cond.and given_1 narrow_1).before args s = true) (hA : ∀ a : Nat, a < s.heap.size → ¬ A a) :
    ∃ adK adV : Nat → Nat, ∀ i : Nat, i < 29 → (en_tm i).eval args s none [] s = some (.ref (adK i)) ∧ va_O "java/lang/String" (adK i) A s s.heap ∧ va_OF "java/lang/String" "coder" "B" (.int 0) (adK i) A s s.heap ∧ va_OF "java/lang/String" "value" "[B" (.ref (adV i)) (adK i) A s s.heap ∧ va_T .byte (adV i) (cl_sl i) (fun j => .int (cl_ch i j)) A s s.heap := by
  have hf := flat_of_before _ h
  have hl : ∀ i, i < 29 → (cl_byt.map List.length).getD i 0 = cl_sl i := by decide +kernel
  obtain ⟨adK, adV, o⟩ := en_str (args := args) (s := s) (N := 29) (tm := en_tm) (len := cl_byt.map List.length) (byt := cl_byt) (A := A) (fun i hi => by rw [hl i hi]; exact Nat.lt_trans (cl_sl_lt hi) (by decide)) (fun i hi => hf _ (en_in hi (by simp [en_c1]))) (fun i hi => hf _ (en_in hi (by simp [en_c2]))) (fun i hi => hf _ (en_in hi (by simp [en_c3]))) (fun i hi => by rw [hl i hi]; exact hf _ (en_in hi (by simp [en_c4]))) (fun i hi j hj => by rw [hl i hi] at hj; exact hf _ (en_in hi (List.mem_append_right _ (List.mem_map.mpr ⟨j, List.mem_range.mpr hj, rfl⟩)))) hA
  refine ⟨adK, adV, fun i hi => ?_⟩
  have := o i hi
  rw [hl i hi] at this
  exact this
theorem en_str_w : ∀ i, i < 29 → Cond.stringRef (cl_st.getD i ("", 0, "")).1 (cl_st.getD i ("", 0, "")).2.1 (cl_st.getD i ("", 0, "")).2.2 ∈ lw_tbl := by
  have h : cl_st.all (fun q => decide (Cond.stringRef q.1 q.2.1 q.2.2 ∈ lw_tbl)) = true := by decide +kernel
  intro i hi
  have h2 : i < cl_st.length := hi
  rw [List.getD_eq_getElem?_getD, List.getElem?_eq_getElem h2]
  exact of_decide_eq_true (List.all_eq_true.mp h _ (List.getElem_mem h2))
theorem en_st1 {k : Nat} (d : Cond) (h : lw_tbl[k]? = some d) : d ∈ lw_tbl := List.mem_of_getElem? h
theorem en_fl1 {d : Cond} (k : Nat) (h : (flatC (Jvm.Cond.and given_1 narrow_1))[k]? = some d) : d ∈ flatC (Jvm.Cond.and given_1 narrow_1) := List.mem_of_getElem? h
/-- the class's cells lie behind everything: the texts and statics stay -/
theorem en_E {args : Array Value} {s : State} (hts : ∀ w ∈ lw_tbl, w.before args s = true) (h : (Jvm.Cond.and given_1 narrow_1).before args s = true) : ∃ tS tB : Nat → Nat, (∀ dd : cl_D, dd.2.2.1 = tS → (∀ i, i < 29 → dd.2.2.2 i = tB i) → cl_E dd s.heap.size s s.heap) ∧ ∀ i, i < 29 → (en_tm i).eval args s none [] s = some (.ref (tS i)) := by
  have hA : ∀ a : Nat, a < s.heap.size → ¬ cl_A s.heap.size a := fun a h1 h2 => by
    have h2 : s.heap.size ≤ a := h2
    omega
  have hf := flat_of_before _ h
  obtain ⟨adK, adV, o⟩ := en_S h hA
  refine ⟨adK, adV, fun dd e1 e2 => ?_, fun i hi => (o i hi).1⟩
  refine ⟨fun i hi => ?_, ?_, ?_, ?_, ?_⟩
  · rw [e1, e2 i hi]
    exact (o i hi).2
  · exact va_Zof (hts _ (en_st1 (k := 342) _ (by decide +kernel))) (hts _ (en_st1 (k := 94) _ (by decide +kernel))) (va_eqt (hf _ (by decide +kernel))) hA
  · exact va_Zqof (hts _ (en_st1 (k := 358) _ (by decide +kernel))) (hts _ (en_st1 (k := 96) _ (by decide +kernel))) (hf _ (by decide +kernel)) hA
  · exact vx_Zqof (hts _ (en_st1 (k := 858) _ (by decide +kernel))) (hts _ (en_st1 (k := 102) _ (by decide +kernel))) (hf _ (by decide +kernel)) hA
  · exact vx_Zqof (hts _ (en_st1 (k := 860) _ (by decide +kernel))) (hts _ (en_st1 (k := 102) _ (by decide +kernel))) (hf _ (by decide +kernel)) hA
theorem en_Rr {args : Array Value} {s : State} {tS : Nat → Nat} (hts : ∀ w ∈ lw_tbl, w.before args s = true) (h : ∀ i, i < 29 → (en_tm i).eval args s none [] s = some (.ref (tS i))) : ∀ dd : cl_D, dd.2.2.1 = tS → cl_Rr dd s := by
  intro dd e
  refine ⟨fun i q hq => ?_, fun w hw => ?_⟩
  · have hi : i < 29 := (List.getElem?_eq_some_iff.mp hq).1
    have hg : cl_st.getD i ("", 0, "") = q := by rw [List.getD_eq_getElem?_getD, hq]; rfl
    have h1 := en_str_w i hi
    have h2 := h i hi
    unfold en_tm at h2
    rw [hg] at h1 h2
    rw [e]
    exact vk_R.of (hts _ h1) h2
  · have h1 := List.mem_filter.mp hw
    have h2 := hts _ h1.1
    have h3 := h1.2
    cases w <;> first
      | exact h2
      | cases h3
theorem en_AO {args : Array Value} {s : State} (hts : ∀ w ∈ lw_tbl, w.before args s = true) : nw_AO s :=
  ⟨va_AO.of (hts _ (en_st1 (k := 210) _ (by decide +kernel))), va_AO.of (hts _ (en_st1 (k := 315) _ (by decide +kernel)))⟩
