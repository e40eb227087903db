/-! rows over the memory -/
/-- an equation's name for a value -/
def cl_let {α β : Type} (x : α) (f : α → β) : β := f x
theorem cl_let_e {α β : Type} {x : α} {f : α → Option β} {o : β} (h : cl_let x f = some o) : ∃ y, y = x ∧ f y = some o := ⟨x, rfl, h⟩
theorem cl_bind_e {α β : Type} {x : Option α} {f : α → Option β} {o : β} (h : x.bind f = some o) : ∃ y, x = some y ∧ f y = some o := by
  cases x with
  | none => cases h
  | some y => exact ⟨y, rfl, h⟩
theorem cl_grd {β : Type} {c : Prop} [Decidable c] {a : Option β} {o : β} (h : (if c then a else none) = some o) : c ∧ a = some o := by
  by_cases q : c
  · rw [if_pos q] at h; exact ⟨q, h⟩
  · rw [if_neg q] at h; cases h
theorem cl_yes {β : Type} {c : Prop} [Decidable c] {a a' : β} {o : β} (q : c) (h : (if c then a else a') = o) : a = o := by rw [if_pos q] at h; exact h
theorem cl_no {β : Type} {c : Prop} [Decidable c] {a a' : β} {o : β} (q : ¬ c) (h : (if c then a else a') = o) : a' = o := by rw [if_neg q] at h; exact h
/-- an index that lies in a row -/
def cl_inb (i : Int32) (n : Nat) : Bool := decide (0 ≤ i.toInt) && decide (i.toInt < n)
theorem cl_inb_in {i : Int32} {n : Nat} (h : cl_inb i n = true) : vp_in i n := by
  simp only [cl_inb, Bool.and_eq_true, decide_eq_true_eq] at h
  exact vp_in_iff.mpr h
theorem cl_inb_lt {i : Int32} {n : Nat} (h : cl_inb i n = true) : i.toNatClampNeg < n := by
  have q := cl_inb_in h
  exact Nat.not_le.mp fun z => q (Or.inr z)
def cl_bz (x : Int32) : Bool := x == 0 || x == 1
theorem cl_bz_n {x : Int32} (h : cl_bz x = true) : narrow .boolean (.int x) = .int x := by
  simp only [cl_bz, Bool.or_eq_true, beq_iff_eq] at h
  rcases h with rfl | rfl <;> decide
theorem cl_bz_f {x : Int32} (h : cl_bz x = true) : fits .boolean (.int x) = true := by
  simp only [cl_bz, Bool.or_eq_true, beq_iff_eq] at h
  rcases h with rfl | rfl <;> decide
section CLR
variable {p : Program} {l : Launch} {e : Env} {R : Room} {s : State} {m : MethodId} {args : Array Value} {below : List Frame} {meth : Method} {c : Code} {H : Heap} {locs : List Loc} {cells slots : Nat} {Q : State → Prop} {cc : ByteArray} {pc : Nat} {ls : Array Slot} {rest : List Value} {own : String} {nL : Nat} {ret : Option FieldType} {dd : cl_D} {b : Nat} {M : cl_M}
theorem cr_top {x y : Int32} (ex : y = x) (k : W p l e R s m args below meth c H locs cells slots Q (F0 m pc ls (.int y :: rest))) : W p l e R s m args below meth c H locs cells slots Q (F0 m pc ls (.int x :: rest)) := ex ▸ k
theorem cr_get (C : cl_C p l s m args meth c cc own nL ret dd b) (h : cl_H dd b M s H locs) {t ci idx : Nat} {CN : String} {T : u_T} {N : Nat} {fs : List Value} (ht : t < cl_K dd) (he : cl_ent dd b t (M t) = .inr (ci, fs)) (hc : cl_cls[ci]? = some (CN, T, N)) (hin : ∀ w ∈ u_ws CN T N, w ∈ cl_W) (k : Nat) (hk : k < N) (hl : Cond.fieldLink own idx (T k).1 (T k).2.1 (T k).2.2.1 ∈ cl_W) {v : Value} (hv : fs[k]? = some v) (d : decode cc pc = .ok (.getfield idx, 3)) (kk : W p l e R s m args below meth c H locs cells slots Q (F0 m (pc + 3) ls (v :: rest))) : W p l e R s m args below meth c H locs cells slots Q (F0 m pc ls (.ref (b + t) :: rest)) := by
  obtain ⟨hx, hb, hml, hown, hts, hlk, hr, hK, hE, hRr, hlt⟩ := C
  exact va_get hx hb hts hin hown hK h.1 t (by rw [cl_w_get dd b M ht, he]) hc k hk (hts _ hl) (fun _ q => q) hv d kk
theorem cr_getN (C : cl_C p l s m args meth c cc own nL ret dd b) (h : cl_H dd b M s H locs) {t ci idx : Nat} {CN : String} {T : u_T} {N : Nat} {fs : List Value} (ht : t < cl_K dd) (he : cl_ent dd b t (M t) = .inr (ci, fs)) (hc : cl_cls[ci]? = some (CN, T, N)) (hin : ∀ w ∈ u_ws CN T N, w ∈ cl_W) (k : Nat) (hk : k < N) {host : String} (hl : Cond.fieldLinkNest own idx (T k).1 (T k).2.1 (T k).2.2.1 host ∈ cl_N) {v : Value} (hv : fs[k]? = some v) (d : decode cc pc = .ok (.getfield idx, 3)) (kk : W p l e R s m args below meth c H locs cells slots Q (F0 m (pc + 3) ls (v :: rest))) : W p l e R s m args below meth c H locs cells slots Q (F0 m pc ls (.ref (b + t) :: rest)) := by
  obtain ⟨hx, hb, hml, hown, hts, hlk, hr, hK, hE, hRr, hlt⟩ := C
  exact va_getN hx hb hts hin hown hK h.1 t (by rw [cl_w_get dd b M ht, he]) hc k hk (va_Nw.use rfl (hRr.2 _ hl)) (fun _ q => q) hv d kk
theorem cr_put (C : cl_C p l s m args meth c cc own nL ret dd b) (h : cl_H dd b M s H locs) {t ci idx : Nat} {CN : String} {T : u_T} {N : Nat} {fs : List Value} (ht : t < cl_K dd) (he : cl_ent dd b t (M t) = .inr (ci, fs)) (hc : cl_cls[ci]? = some (CN, T, N)) (hin : ∀ w ∈ u_ws CN T N, w ∈ cl_W) (ty0 : Nat → FieldType) (hty : ∀ k, k < N → parseFieldDescriptor (T k).2.2.1 = some (ty0 k)) (hnm : ∀ a, a < N → ∀ b, b < N → a ≠ b → (T a).2.1 ≠ (T b).2.1) (k : Nat) (hk : k < N) {x : Int32} (he' : cl_ent dd b t (upd (M t) k x) = .inr (ci, fs.set k (.int x))) (hl : Cond.fieldLink own idx (T k).1 (T k).2.1 (T k).2.2.1 ∈ cl_W) (hfin : (T k).2.2.2 = false) {ty : FieldType} (hd : parseFieldDescriptor (T k).2.2.1 = some ty) (hn : narrow ty (.int x) = .int x) (hfit : fits ty (.int x) = true) (hlen : k < fs.length) {M' : cl_M} (eM : M' = cl_ms M t k x) (d : decode cc pc = .ok (.putfield idx, 3)) (kk : ∀ (H1 : Heap) (locs1 : List Loc), cl_H dd b M' s H1 locs1 → W p l e R s m args below meth c H1 locs1 cells slots Q (F0 m (pc + 3) ls rest)) : W p l e R s m args below meth c H locs cells slots Q (F0 m pc ls (.int x :: .ref (b + t) :: rest)) := by
  obtain ⟨hx, hb, hml, hown, hts, hlk, hr, hK, hE, hRr, hlt⟩ := C
  refine va_put hx hb hts hin ty0 hty hnm hown hK h.1 (cl_w_D dd b M) h.2 t (by rw [cl_w_get dd b M ht, he]) hc k hk (hts _ hl) (fun _ q => q) hfin hd hn hfit hlen d (fun H1 locs1 hP hD hS => kk H1 locs1 ⟨?_, hS⟩)
  rw [← he', cl_w_set dd b M ht] at hP
  rw [eM]
  exact hP
theorem cr_putN (C : cl_C p l s m args meth c cc own nL ret dd b) (h : cl_H dd b M s H locs) {t ci idx : Nat} {CN : String} {T : u_T} {N : Nat} {fs : List Value} (ht : t < cl_K dd) (he : cl_ent dd b t (M t) = .inr (ci, fs)) (hc : cl_cls[ci]? = some (CN, T, N)) (hin : ∀ w ∈ u_ws CN T N, w ∈ cl_W) (ty0 : Nat → FieldType) (hty : ∀ k, k < N → parseFieldDescriptor (T k).2.2.1 = some (ty0 k)) (hnm : ∀ a, a < N → ∀ b, b < N → a ≠ b → (T a).2.1 ≠ (T b).2.1) (k : Nat) (hk : k < N) {x : Int32} (he' : cl_ent dd b t (upd (M t) k x) = .inr (ci, fs.set k (.int x))) {host : String} (hl : Cond.fieldLinkNest own idx (T k).1 (T k).2.1 (T k).2.2.1 host ∈ cl_N) (hfin : (T k).2.2.2 = false) {ty : FieldType} (hd : parseFieldDescriptor (T k).2.2.1 = some ty) (hn : narrow ty (.int x) = .int x) (hfit : fits ty (.int x) = true) (hlen : k < fs.length) {M' : cl_M} (eM : M' = cl_ms M t k x) (d : decode cc pc = .ok (.putfield idx, 3)) (kk : ∀ (H1 : Heap) (locs1 : List Loc), cl_H dd b M' s H1 locs1 → W p l e R s m args below meth c H1 locs1 cells slots Q (F0 m (pc + 3) ls rest)) : W p l e R s m args below meth c H locs cells slots Q (F0 m pc ls (.int x :: .ref (b + t) :: rest)) := by
  obtain ⟨hx, hb, hml, hown, hts, hlk, hr, hK, hE, hRr, hlt⟩ := C
  refine va_putN hx hb hts hin ty0 hty hnm hown hK h.1 (cl_w_D dd b M) h.2 t (by rw [cl_w_get dd b M ht, he]) hc k hk (va_Nw.use rfl (hRr.2 _ hl)) (fun _ q => q) hfin hd hn hfit hlen d (fun H1 locs1 hP hD hS => kk H1 locs1 ⟨?_, hS⟩)
  rw [← he', cl_w_set dd b M ht] at hP
  rw [eM]
  exact hP
theorem cr_iald (C : cl_C p l s m args meth c cc own nL ret dd b) (h : cl_H dd b M s H locs) {t n : Nat} {i : Int32} (hs : cl_sh dd t = 7) (hn : cl_ln t = n) (hin : cl_inb i n = true) {k : Nat} (hk : i.toNatClampNeg = k) (d : decode cc pc = .ok (.iaload, 1)) (kk : W p l e R s m args below meth c H locs cells slots Q (F0 m (pc + 1) ls (.int (M t k) :: rest))) : W p l e R s m args below meth c H locs cells slots Q (F0 m pc ls (.int i :: .ref (b + t) :: rest)) := by
  subst hk
  obtain ⟨hx, hb, hml, hown, hts, hlk, hr, hK, hE, hRr, hlt⟩ := C
  exact va_iald hx hb hK h.1 t 0 (by rw [cl_w_get dd b M (cl_lt hs (by decide)), cl_e7 hs, hn]) rfl (cl_inb_in hin) d kk
theorem cr_zald (C : cl_C p l s m args meth c cc own nL ret dd b) (h : cl_H dd b M s H locs) {t n : Nat} {i : Int32} (hs : cl_sh dd t = 8) (hn : cl_ln t = n) (hin : cl_inb i n = true) {k : Nat} (hk : i.toNatClampNeg = k) (d : decode cc pc = .ok (.baload, 1)) (kk : W p l e R s m args below meth c H locs cells slots Q (F0 m (pc + 1) ls (.int (M t k) :: rest))) : W p l e R s m args below meth c H locs cells slots Q (F0 m pc ls (.int i :: .ref (b + t) :: rest)) := by
  subst hk
  obtain ⟨hx, hb, hml, hown, hts, hlk, hr, hK, hE, hRr, hlt⟩ := C
  exact va_zald hx hb hK h.1 t 1 (by rw [cl_w_get dd b M (cl_lt hs (by decide)), cl_e8 hs, hn]) rfl (cl_inb_in hin) d kk
theorem cr_iast (C : cl_C p l s m args meth c cc own nL ret dd b) (h : cl_H dd b M s H locs) {t n : Nat} {i x : Int32} (hs : cl_sh dd t = 7) (hn : cl_ln t = n) (hin : cl_inb i n = true) {k : Nat} (hk : i.toNatClampNeg = k) {M' : cl_M} (eM : M' = cl_ms M t k x) (d : decode cc pc = .ok (.iastore, 1)) (kk : ∀ (H1 : Heap) (locs1 : List Loc), cl_H dd b M' s H1 locs1 → W p l e R s m args below meth c H1 locs1 cells slots Q (F0 m (pc + 1) ls rest)) : W p l e R s m args below meth c H locs cells slots Q (F0 m pc ls (.int x :: .int i :: .ref (b + t) :: rest)) := by
  subst hk
  obtain ⟨hx, hb, hml, hown, hts, hlk, hr, hK, hE, hRr, hlt⟩ := C
  have ht := cl_lt hs (by decide)
  refine va_iast hx hb hK h.1 (cl_w_D dd b M) h.2 t 0 (by rw [cl_w_get dd b M ht, cl_e7 hs, hn]) rfl (cl_inb_in hin) d (fun H1 locs1 hP hD hS => kk H1 locs1 ⟨?_, hS⟩)
  rw [← hn, ← cl_e7 (dd := dd) (b := b) hs, cl_w_set dd b M ht] at hP
  rw [eM]
  exact hP
theorem cr_zast (C : cl_C p l s m args meth c cc own nL ret dd b) (h : cl_H dd b M s H locs) {t n : Nat} {i x : Int32} (hs : cl_sh dd t = 8) (hn : cl_ln t = n) (hin : cl_inb i n = true) {k : Nat} (hk : i.toNatClampNeg = k) {M' : cl_M} (eM : M' = cl_ms M t k (vp_nar .boolean x)) (d : decode cc pc = .ok (.bastore, 1)) (kk : ∀ (H1 : Heap) (locs1 : List Loc), cl_H dd b M' s H1 locs1 → W p l e R s m args below meth c H1 locs1 cells slots Q (F0 m (pc + 1) ls rest)) : W p l e R s m args below meth c H locs cells slots Q (F0 m pc ls (.int x :: .int i :: .ref (b + t) :: rest)) := by
  subst hk
  obtain ⟨hx, hb, hml, hown, hts, hlk, hr, hK, hE, hRr, hlt⟩ := C
  have ht := cl_lt hs (by decide)
  refine va_zast hx hb hK h.1 (cl_w_D dd b M) h.2 t 1 (by rw [cl_w_get dd b M ht, cl_e8 hs, hn]) rfl (cl_inb_in hin) d (fun H1 locs1 hP hD hS => kk H1 locs1 ⟨?_, hS⟩)
  rw [← hn, ← cl_e8 (dd := dd) (b := b) hs, cl_w_set dd b M ht] at hP
  rw [eM]
  exact hP
theorem cr_ald9 (C : cl_C p l s m args meth c cc own nL ret dd b) (h : cl_H dd b M s H locs) {t : Nat} {i : Int32} (hs : cl_sh dd t = 9) (hin : cl_inb i 10 = true) {k : Nat} (hk : i.toNatClampNeg = k) (d : decode cc pc = .ok (.aaload, 1)) (kk : W p l e R s m args below meth c H locs cells slots Q (F0 m (pc + 1) ls (.ref (b + (t + 1 + k)) :: rest))) : W p l e R s m args below meth c H locs cells slots Q (F0 m pc ls (.int i :: .ref (b + t) :: rest)) := by
  subst hk
  obtain ⟨hx, hb, hml, hown, hts, hlk, hr, hK, hE, hRr, hlt⟩ := C
  exact va_aldq (f := fun j => some (b + (t + 1 + j))) hx hb hK h.1 t 2 (by rw [cl_w_get dd b M (cl_lt hs (by decide)), cl_e9 hs, ln_el_9 hs]) rfl (cl_inb_in hin) d kk
theorem cr_ald10 (C : cl_C p l s m args meth c cc own nL ret dd b) (h : cl_H dd b M s H locs) {t : Nat} {i : Int32} (hs : cl_sh dd t = 10) (hin : cl_inb i 8 = true) {k : Nat} (hk : i.toNatClampNeg = k) (d : decode cc pc = .ok (.aaload, 1)) (kk : W p l e R s m args below meth c H locs cells slots Q (F0 m (pc + 1) ls (.ref (b + (t + 1 + 19 * k)) :: rest))) : W p l e R s m args below meth c H locs cells slots Q (F0 m pc ls (.int i :: .ref (b + t) :: rest)) := by
  subst hk
  obtain ⟨hx, hb, hml, hown, hts, hlk, hr, hK, hE, hRr, hlt⟩ := C
  exact va_aldq (f := fun j => some (b + (t + 1 + 19 * j))) hx hb hK h.1 t 3 (by rw [cl_w_get dd b M (cl_lt hs (by decide)), cl_e10 hs, ln_el_10 hs]) rfl (cl_inb_in hin) d kk
theorem cr_ald11 (C : cl_C p l s m args meth c cc own nL ret dd b) (h : cl_H dd b M s H locs) {t : Nat} {i : Int32} (hs : cl_sh dd t = 11) (hin : cl_inb i 2 = true) {k : Nat} (hk : i.toNatClampNeg = k) (d : decode cc pc = .ok (.aaload, 1)) (kk : W p l e R s m args below meth c H locs cells slots Q (F0 m (pc + 1) ls (.ref (b + (t + 3 + 19 * k)) :: rest))) : W p l e R s m args below meth c H locs cells slots Q (F0 m pc ls (.int i :: .ref (b + t) :: rest)) := by
  subst hk
  obtain ⟨hx, hb, hml, hown, hts, hlk, hr, hK, hE, hRr, hlt⟩ := C
  exact va_aldq (f := fun j => some (b + (t + 3 + 19 * j))) hx hb hK h.1 t 3 (by rw [cl_w_get dd b M (cl_lt hs (by decide)), cl_e11 hs, ln_el_11 hs]) rfl (cl_inb_in hin) d kk
/-- Math.min, Math.max, Math.abs; System.arraycopy of a whole row of ints -/
theorem cr_min (C : cl_C p l s m args meth c cc own nL ret dd b) {idx : Nat} (w : Cond.methodLink own idx Lib.Math.min.name ∈ cl_W) (w1 : Cond.static Lib.Math.min.name ∈ cl_W) (w2 : Cond.initialized "java/lang/Math" ∈ cl_W) (w3 : Cond.code Lib.Math.min.name Lib.Math.min.code 2 (some .int) ∈ cl_W) (hsz : ls.size = nL) (hR : 1 ≤ R.frames ∧ (rest.map fun v => v.category).sum + 13 ≤ R.locals ∧ cells ≤ R.cells ∧ slots ≤ R.slots) {x y : Int32} (d : decode cc pc = .ok (.invokestatic idx, 3)) (kk : W p l e R s m args below meth c H locs cells slots Q (F0 m (pc + 3) ls (.int (if y < x then y else x) :: rest))) : W p l e R s m args below meth c H locs cells slots Q (F0 m pc ls (.int y :: .int x :: rest)) := by
  obtain ⟨hx, hb, hml, hown, hts, hlk, hr, hK, hE, hRr, hlt⟩ := C
  exact va_mmin hx hb (hml.trans hsz.symm) hown (hts _ w) (hts _ w1) (hts _ w2) (hts _ w3) hR.1 hR.2.1 hR.2.2.1 hR.2.2.2 d kk
theorem cr_max (C : cl_C p l s m args meth c cc own nL ret dd b) {idx : Nat} (w : Cond.methodLink own idx Lib.Math.max.name ∈ cl_W) (w1 : Cond.static Lib.Math.max.name ∈ cl_W) (w2 : Cond.initialized "java/lang/Math" ∈ cl_W) (w3 : Cond.code Lib.Math.max.name Lib.Math.max.code 2 (some .int) ∈ cl_W) (hsz : ls.size = nL) (hR : 1 ≤ R.frames ∧ (rest.map fun v => v.category).sum + 13 ≤ R.locals ∧ cells ≤ R.cells ∧ slots ≤ R.slots) {x y : Int32} (d : decode cc pc = .ok (.invokestatic idx, 3)) (kk : W p l e R s m args below meth c H locs cells slots Q (F0 m (pc + 3) ls (.int (if x < y then y else x) :: rest))) : W p l e R s m args below meth c H locs cells slots Q (F0 m pc ls (.int y :: .int x :: rest)) := by
  obtain ⟨hx, hb, hml, hown, hts, hlk, hr, hK, hE, hRr, hlt⟩ := C
  exact va_mmax hx hb (hml.trans hsz.symm) hown (hts _ w) (hts _ w1) (hts _ w2) (hts _ w3) hR.1 hR.2.1 hR.2.2.1 hR.2.2.2 d kk
theorem cr_abs (C : cl_C p l s m args meth c cc own nL ret dd b) {idx : Nat} (w : Cond.methodLink own idx Lib.Math.abs.name ∈ cl_W) (w1 : Cond.static Lib.Math.abs.name ∈ cl_W) (w2 : Cond.initialized "java/lang/Math" ∈ cl_W) (w3 : Cond.code Lib.Math.abs.name Lib.Math.abs.code 1 (some .int) ∈ cl_W) (hsz : ls.size = nL) (hR : 1 ≤ R.frames ∧ (rest.map fun v => v.category).sum + 13 ≤ R.locals ∧ cells ≤ R.cells ∧ slots ≤ R.slots) {x : Int32} (d : decode cc pc = .ok (.invokestatic idx, 3)) (kk : W p l e R s m args below meth c H locs cells slots Q (F0 m (pc + 3) ls (.int (if 0 ≤ x then x else 0 - x) :: rest))) : W p l e R s m args below meth c H locs cells slots Q (F0 m pc ls (.int x :: rest)) := by
  obtain ⟨hx, hb, hml, hown, hts, hlk, hr, hK, hE, hRr, hlt⟩ := C
  exact va_mabs hx hb (hml.trans hsz.symm) hown (hts _ w) (hts _ w1) (hts _ w2) (hts _ w3) hR.1 hR.2.1 hR.2.2.1 hR.2.2.2 d kk
/-- the first n ints of a row over another row -/
def cl_cpy (M : cl_M) (t0 t1 n : Nat) : cl_M := cl_row M t1 (fun j => if j < n then M t0 j else M t1 j)
theorem cl_cpy_e (f g : Nat → Int32) (n : Nat) : va_cpy f g 0 0 n = fun j => if j < n then f j else g j := by
  funext j
  by_cases h : j < n
  · rw [pk_cpy_in (Nat.zero_le _) (by omega), if_pos h]
    simp
  · rw [pk_cpy_out (Or.inr (by omega)), if_neg h]
theorem cr_copy (C : cl_C p l s m args meth c cc own nL ret dd b) (h : cl_H dd b M s H locs) {idx t0 t1 n0 n1 : Nat} {n : Int32} {k : Nat} (w : Cond.methodLink own idx arraycopyName ∈ cl_W) (w1 : Cond.native arraycopyName ∈ cl_W) (w2 : Cond.static arraycopyName ∈ cl_W) (w3 : Cond.initialized "java/lang/System" ∈ cl_W) (hs0 : cl_sh dd t0 = 7) (hn0 : cl_ln t0 = n0) (hs1 : cl_sh dd t1 = 7) (hn1 : cl_ln t1 = n1) (hk : n.toNatClampNeg = k ∧ ¬ n < 0 ∧ k ≤ n0 ∧ k ≤ n1) (hsz : ls.size = nL) (hR : 1 ≤ R.frames ∧ (rest.map fun v => v.category).sum + (nativeFrameWords "java/lang/System" "arraycopy" 5 + 11) ≤ R.locals) {M' : cl_M} (eM : M' = cl_cpy M t0 t1 k) (d : decode cc pc = .ok (.invokestatic idx, 3)) (kk : ∀ (H1 : Heap) (locs1 : List Loc), cl_H dd b M' s H1 locs1 → W p l e R s m args below meth c H1 locs1 cells slots Q (F0 m (pc + 3) ls rest)) : W p l e R s m args below meth c H locs cells slots Q (F0 m pc ls (.int n :: .int 0 :: .ref (b + t1) :: .int 0 :: .ref (b + t0) :: rest)) := by
  obtain ⟨hx, hb, hml, hown, hts, hlk, hr, hK, hE, hRr, hlt⟩ := C
  obtain ⟨e1, e2, e3, e4⟩ := hk
  have ht0 := cl_lt hs0 (by decide)
  have ht1 := cl_lt hs1 (by decide)
  refine va_copyi hx hb (hml.trans hsz.symm) hown (hts _ w) (hts _ w1) (hts _ w2) (hts _ w3) hK h.1 (cl_w_D dd b M) h.2 t0 t1 0 0 (by rw [cl_w_get dd b M ht0, cl_e7 hs0, hn0]) (by rw [cl_w_get dd b M ht1, cl_e7 hs1, hn1]) rfl rfl rfl (by decide) (by decide) e2 (by rw [e1]; simpa using e3) (by rw [e1]; simpa using e4) (fun _ _ => rfl) hR.1 hR.2 d (fun H1 locs1 hP hD hS => kk H1 locs1 ⟨?_, hS⟩)
  rw [← hn1, ← cl_e7 (dd := dd) (b := b) hs1, cl_w_set dd b M ht1] at hP
  rw [eM, cl_cpy, ← cl_cpy_e, ← e1]
  exact hP
end CLR
/-! contracts over the memory -/
/-- the heap of a state holds the memory M -/
def cl_J (dd : cl_D) (b : Nat) (M : cl_M) (U : State) : Prop := va_P dd.1 cl_cls (cl_w dd b M) U.heap
theorem cl_H.J {dd : cl_D} {b : Nat} {M : cl_M} {s t : State} {H : Heap} {locs : List Loc} (h : cl_H dd b M s H locs) (ht : t.heap = H) : cl_J dd b M t := by
  unfold cl_J
  rw [ht]
  exact h.1
def cl_Mi (l : Launch) (dd : cl_D) (b : Nat) (y : MethodName) (cc : ByteArray) (nL : Nat) (rt : Option FieldType) (fr lo : Nat) (av : List Value) (M : cl_M) (r : Int32) (M' : cl_M) : Prop :=
  Met l y (Cond.code y cc nL rt :: cl_W) { frames := fr, cells := 0, slots := 0, locals := lo } (va_Pc av (cl_I dd b M)) (va_Qi (fun x (_ : Unit) => x = r) (fun _ t => cl_J dd b M' t) (cl_A b)) 0 0 (cl_A b)
def cl_Mv (l : Launch) (dd : cl_D) (b : Nat) (y : MethodName) (cc : ByteArray) (nL : Nat) (rt : Option FieldType) (fr lo : Nat) (av : List Value) (M : cl_M) (M' : cl_M) : Prop :=
  Met l y (Cond.code y cc nL rt :: cl_W) { frames := fr, cells := 0, slots := 0, locals := lo } (va_Pc av (cl_I dd b M)) (va_Qv (fun (_ : Unit) => True) (fun _ t => cl_J dd b M' t) (cl_A b)) 0 0 (cl_A b)
def cl_Mr (l : Launch) (dd : cl_D) (b : Nat) (y : MethodName) (cc : ByteArray) (nL : Nat) (rt : Option FieldType) (fr lo : Nat) (av : List Value) (M : cl_M) (g : Nat) (M' : cl_M) : Prop :=
  Met l y (Cond.code y cc nL rt :: cl_W) { frames := fr, cells := 0, slots := 0, locals := lo } (va_Pc av (cl_I dd b M)) (va_Qr (fun (_ : Unit) => True) (fun _ a t => a = b + g ∧ cl_J dd b M' t) (cl_A b)) 0 0 (cl_A b)
theorem cl_I.blind {dd : cl_D} {b : Nat} {M : cl_M} {av : List Value} : FrameBlind (va_Pc av (cl_I dd b M)) := fun a U g mk q => by
  obtain ⟨e, hP, hK, hE, hR⟩ := q
  exact ⟨e, hP, va_K.moved (u := U) (U := U.calling g mk a) (Vm.Alike.refl U.vm) hK, cl_E.moved (u := U) (U := U.calling g mk a) (Vm.Alike.refl U.vm) hE, ⟨fun i q hi => vk_R.same (u := U) (U := U.calling g mk a) rfl (hR.1 i q hi), fun w hw => va_Nw.same (u := U) (U := U.calling g mk a) (cl_N_on (List.mem_filter.mp hw).2) rfl (hR.2 w hw)⟩⟩
section CLS
variable {p : Program} {l : Launch} {e : Env} {R : Room} {s : State} {m : MethodId} {args : Array Value} {below : List Frame} {meth : Method} {c : Code} {H : Heap} {locs : List Loc} {cells slots : Nat} {Q : State → Prop} {cc : ByteArray} {pc : Nat} {ls : Array Slot} {rest : List Value} {own : String} {nL : Nat} {ret : Option FieldType} {dd : cl_D} {b : Nat} {M : cl_M}
/-- the state in the middle of a method, as a callee sees it -/
theorem cl_in (C : cl_C p l s m args meth c cc own nL ret dd b) (h : cl_H dd b M s H locs) {U : State} (hU : U.heap = H) (hW : s.WarmedH U.vm) : cl_I dd b M U := by
  obtain ⟨hx, hb, hml, hown, hts, hlk, hr, hK, hE, hRr, hlt⟩ := C
  refine ⟨by rw [hU]; exact h.1, va_K.moved hW.alike hK, ?_, hRr.warm hW⟩
  rw [hU]
  exact cl_E.moved hW.alike (hE.kept (fun a h1 h2 => h.2.2.1 a h1 h2))
theorem cl_fix (C : cl_C p l s m args meth c cc own nL ret dd b) : CallFix p m c cc nL s args cl_W own := by
  obtain ⟨hx, hb, hml, hown, hts, hlk, hr, hK, hE, hRr, hlt⟩ := C
  exact ⟨hx, hb, hml, hown, hts⟩
/-- what every call of a method needs of the tables -/
def cl_cy (y : MethodName) (bytes : ByteArray) (maxL : Nat) (rt : Option FieldType) (n : Nat) : Prop :=
  Cond.initialized y.cls ∈ cl_W ∧ Cond.code y bytes maxL rt ∈ cl_W ∧ y.cls ≠ "java/lang/invoke/MethodHandle" ∧ y.cls ≠ "java/lang/invoke/VarHandle" ∧ (parseMethodDescriptor y.desc).map (fun d => d.parameters.length) = some n
def cl_vy (y : MethodName) : Prop := Cond.instanceMethod y ∈ cl_W ∧ Cond.selects y.cls y y ∈ cl_W
theorem cl_cb (C : cl_C p l s m args meth c cc own nL ret dd b) {y : MethodName} {bytes : ByteArray} {maxL n idx mc ms fr lo : Nat} {rt : Option FieldType} (hy : cl_cy y bytes maxL rt n) (w : Cond.methodLink own idx y ∈ cl_W) (hR : fr + 1 ≤ R.frames ∧ 8 + (maxL + 11) + lo ≤ R.locals) : CallB R s args own idx y bytes maxL rt (Cond.code y bytes maxL rt :: cl_W) { frames := fr, cells := mc, slots := ms, locals := lo } mc ms n := by
  obtain ⟨hx, hb, hml, hown, hts, hlk, hr, hK, hE, hRr, hlt⟩ := C
  exact callB_of n hts (cl_good hy.2.1) rfl rfl rfl (hts _ hy.1) (hts _ w) hy.2.2 hR
theorem cl_cn (C : cl_C p l s m args meth c cc own nL ret dd b) {y : MethodName} {host : String} {bytes : ByteArray} {maxL n idx mc ms fr lo : Nat} {rt : Option FieldType} (hy : cl_cy y bytes maxL rt n) (w : Cond.methodLinkNest own idx y host ∈ cl_N) (hR : fr + 1 ≤ R.frames ∧ 8 + (maxL + 11) + lo ≤ R.locals) : va_CN R s args own idx y host bytes maxL rt (Cond.code y bytes maxL rt :: cl_W) { frames := fr, cells := mc, slots := ms, locals := lo } mc ms n := by
  obtain ⟨hx, hb, hml, hown, hts, hlk, hr, hK, hE, hRr, hlt⟩ := C
  exact va_cnB n hts (cl_good hy.2.1) rfl rfl rfl (hRr.2 _ w) (hts _ hy.1) hy.2.2 hR
theorem cl_rcv (C : cl_C p l s m args meth c cc own nL ret dd b) (h : cl_H dd b M s H locs) {t ci : Nat} {q : vw_C} {fs : List Value} (ht : t < cl_K dd) (he : cl_ent dd b t (M t) = .inr (ci, fs)) (hc : cl_cls[ci]? = some q) : ∃ cell : Cell, H[b + t]? = some cell ∧ cell.vm.isStatics = false ∧ s.vm.findClass q.1 = some cell.cls := by
  obtain ⟨hx, hb, hml, hown, hts, hlk, hr, hK, hE, hRr, hlt⟩ := C
  exact va_recv hK h.1 (ci := ci) (q0 := t) hc (by rw [cl_w_get dd b M ht, he])
theorem cl_preV (C : cl_C p l s m args meth c cc own nL ret dd b) (h : cl_H dd b M s H locs) {t ci : Nat} {q : vw_C} {fs : List Value} {CN : String} (ht : t < cl_K dd) (he : cl_ent dd b t (M t) = .inr (ci, fs)) (hc : cl_cls[ci]? = some q) (hq : q.1 = CN) {As : List Value} : PreV s H CN (b + t) (va_Pc (.ref (b + t) :: As) (cl_I dd b M)) As :=
  ⟨cl_I.blind, by rw [← hq]; exact cl_rcv C h ht he hc, fun U hU hW => ⟨rfl, cl_in C h hU hW⟩⟩
theorem cl_preS (C : cl_C p l s m args meth c cc own nL ret dd b) (h : cl_H dd b M s H locs) {As : List Value} : PreS s H (va_Pc As (cl_I dd b M)) As :=
  ⟨cl_I.blind, fun U hU hW => ⟨rfl, cl_in C h hU hW⟩⟩
theorem cl_bk {M' : cl_M} {t : State} {H1 : Heap} {locs1 : List Loc} (ht : t.heap = H1) (hI : cl_J dd b M' t) (hS : va_S (cl_A b) s.heap H1 locs1) : cl_H dd b M' s H1 locs1 := ⟨by rw [← ht]; exact hI, hS⟩
variable {y : MethodName} {bytes : ByteArray} {maxL n idx fr lo : Nat} {rt : Option FieldType} {As st0 : List Value} {M' : cl_M}
theorem cr_Vi (C : cl_C p l s m args meth c cc own nL ret dd b) (h : cl_H dd b M s H locs) {t ci : Nat} {q : vw_C} {fs : List Value} {r : Int32} (hM : cl_Mi l dd b y bytes maxL rt fr lo (.ref (b + t) :: As) M r M') (hy : cl_cy y bytes maxL rt n) (hv : cl_vy y) (w : Cond.methodLink own idx y ∈ cl_W) (ht : t < cl_K dd) (he : cl_ent dd b t (M t) = .inr (ci, fs)) (hc : cl_cls[ci]? = some q) (hq : q.1 = y.cls) (hn : As.length = n) (hsz : ls.size = nL) (hst : st0 = As.reverse ++ .ref (b + t) :: rest) (hR : (fr + 1 ≤ R.frames ∧ 8 + (maxL + 11) + lo ≤ R.locals) ∧ (rest.map fun v => v.category).sum ≤ 8 ∧ cells ≤ R.cells ∧ slots ≤ R.slots) (d : decode cc pc = .ok (.invokevirtual idx, 3)) (kk : ∀ (H1 : Heap) (locs1 : List Loc), cl_H dd b M' s H1 locs1 → W p l e R s m args below meth c H1 locs1 cells slots Q (F0 m (pc + 3) ls (.int r :: rest))) : W p l e R s m args below meth c H locs cells slots Q (F0 m pc ls st0) := by
  refine va_calli (va_runV (rest := rest) (cl_fix C) hM ⟨cl_cb C hy w hR.1, C.2.2.2.2.1 _ hv.1, C.2.2.2.2.1 _ hv.2⟩ (cl_preV C h ht he hc hq) rfl hn hsz hst (lv_room hR.2.1) d ⟨hR.2.2.1, hR.2.2.2⟩) h.2 (fun q _ h => h) (fun q h => h) (fun r' u t' H1 locs1 e1 _ e3 e4 _ _ hS => ?_)
  rw [e3]
  exact kk H1 locs1 (cl_bk e1 e4 hS)
theorem cr_Vv (C : cl_C p l s m args meth c cc own nL ret dd b) (h : cl_H dd b M s H locs) {t ci : Nat} {q : vw_C} {fs : List Value} (hM : cl_Mv l dd b y bytes maxL rt fr lo (.ref (b + t) :: As) M M') (hy : cl_cy y bytes maxL rt n) (hv : cl_vy y) (w : Cond.methodLink own idx y ∈ cl_W) (ht : t < cl_K dd) (he : cl_ent dd b t (M t) = .inr (ci, fs)) (hc : cl_cls[ci]? = some q) (hq : q.1 = y.cls) (hn : As.length = n) (hsz : ls.size = nL) (hst : st0 = As.reverse ++ .ref (b + t) :: rest) (hR : (fr + 1 ≤ R.frames ∧ 8 + (maxL + 11) + lo ≤ R.locals) ∧ (rest.map fun v => v.category).sum ≤ 8 ∧ cells ≤ R.cells ∧ slots ≤ R.slots) (d : decode cc pc = .ok (.invokevirtual idx, 3)) (kk : ∀ (H1 : Heap) (locs1 : List Loc), cl_H dd b M' s H1 locs1 → W p l e R s m args below meth c H1 locs1 cells slots Q (F0 m (pc + 3) ls rest)) : W p l e R s m args below meth c H locs cells slots Q (F0 m pc ls st0) := by
  refine va_callv (va_runV (rest := rest) (cl_fix C) hM ⟨cl_cb C hy w hR.1, C.2.2.2.2.1 _ hv.1, C.2.2.2.2.1 _ hv.2⟩ (cl_preV C h ht he hc hq) rfl hn hsz hst (lv_room hR.2.1) d ⟨hR.2.2.1, hR.2.2.2⟩) h.2 (fun q _ h => h) (fun q h => h) (fun u t' H1 locs1 e1 _ e3 e4 _ _ hS => ?_)
  exact kk H1 locs1 (cl_bk e1 e4 hS)
theorem cr_Vr (C : cl_C p l s m args meth c cc own nL ret dd b) (h : cl_H dd b M s H locs) {t ci g : Nat} {q : vw_C} {fs : List Value} (hM : cl_Mr l dd b y bytes maxL rt fr lo (.ref (b + t) :: As) M g M') (hy : cl_cy y bytes maxL rt n) (hv : cl_vy y) (w : Cond.methodLink own idx y ∈ cl_W) (ht : t < cl_K dd) (he : cl_ent dd b t (M t) = .inr (ci, fs)) (hc : cl_cls[ci]? = some q) (hq : q.1 = y.cls) (hn : As.length = n) (hsz : ls.size = nL) (hst : st0 = As.reverse ++ .ref (b + t) :: rest) (hR : (fr + 1 ≤ R.frames ∧ 8 + (maxL + 11) + lo ≤ R.locals) ∧ (rest.map fun v => v.category).sum ≤ 8 ∧ cells ≤ R.cells ∧ slots ≤ R.slots) (d : decode cc pc = .ok (.invokevirtual idx, 3)) (kk : ∀ (H1 : Heap) (locs1 : List Loc), cl_H dd b M' s H1 locs1 → W p l e R s m args below meth c H1 locs1 cells slots Q (F0 m (pc + 3) ls (.ref (b + g) :: rest))) : W p l e R s m args below meth c H locs cells slots Q (F0 m pc ls st0) := by
  refine va_callr (va_runV (rest := rest) (cl_fix C) hM ⟨cl_cb C hy w hR.1, C.2.2.2.2.1 _ hv.1, C.2.2.2.2.1 _ hv.2⟩ (cl_preV C h ht he hc hq) rfl hn hsz hst (lv_room hR.2.1) d ⟨hR.2.2.1, hR.2.2.2⟩) h.2 (fun q _ h => h) (fun q h => h) (fun u ra t' H1 locs1 e1 _ e3 e4 _ _ hS => ?_)
  rw [e4.1]
  exact kk H1 locs1 (cl_bk e1 e4.2 hS)
theorem cr_Si (C : cl_C p l s m args meth c cc own nL ret dd b) (h : cl_H dd b M s H locs) {r : Int32} (hM : cl_Mi l dd b y bytes maxL rt fr lo As M r M') (hy : cl_cy y bytes maxL rt n) (hv : Cond.static y ∈ cl_W) (w : Cond.methodLink own idx y ∈ cl_W) (hn : As.length = n) (hsz : ls.size = nL) (hst : st0 = As.reverse ++ rest) (hR : (fr + 1 ≤ R.frames ∧ 8 + (maxL + 11) + lo ≤ R.locals) ∧ (rest.map fun v => v.category).sum ≤ 8 ∧ cells ≤ R.cells ∧ slots ≤ R.slots) (d : decode cc pc = .ok (.invokestatic idx, 3)) (kk : ∀ (H1 : Heap) (locs1 : List Loc), cl_H dd b M' s H1 locs1 → W p l e R s m args below meth c H1 locs1 cells slots Q (F0 m (pc + 3) ls (.int r :: rest))) : W p l e R s m args below meth c H locs cells slots Q (F0 m pc ls st0) := by
  refine va_calli (va_runS (rest := rest) (cl_fix C) hM ⟨cl_cb C hy w hR.1, C.2.2.2.2.1 _ hv⟩ (cl_preS C h) rfl hn hsz hst (lv_room hR.2.1) d ⟨hR.2.2.1, hR.2.2.2⟩) h.2 (fun q _ h => h) (fun q h => h) (fun r' u t' H1 locs1 e1 _ e3 e4 _ _ hS => ?_)
  rw [e3]
  exact kk H1 locs1 (cl_bk e1 e4 hS)
theorem cr_Ni (C : cl_C p l s m args meth c cc own nL ret dd b) (h : cl_H dd b M s H locs) {host : String} {r : Int32} (hM : cl_Mi l dd b y bytes maxL rt fr lo As M r M') (hy : cl_cy y bytes maxL rt n) (hv : Cond.static y ∈ cl_W) (w : Cond.methodLinkNest own idx y host ∈ cl_N) (hn : As.length = n) (hsz : ls.size = nL) (hst : st0 = As.reverse ++ rest) (hR : (fr + 1 ≤ R.frames ∧ 8 + (maxL + 11) + lo ≤ R.locals) ∧ (rest.map fun v => v.category).sum ≤ 8 ∧ cells ≤ R.cells ∧ slots ≤ R.slots) (d : decode cc pc = .ok (.invokestatic idx, 3)) (kk : ∀ (H1 : Heap) (locs1 : List Loc), cl_H dd b M' s H1 locs1 → W p l e R s m args below meth c H1 locs1 cells slots Q (F0 m (pc + 3) ls (.int r :: rest))) : W p l e R s m args below meth c H locs cells slots Q (F0 m pc ls st0) := by
  refine va_calli (va_runSN (rest := rest) (cl_fix C) hM ⟨cl_cn C hy w hR.1, C.2.2.2.2.1 _ hv, trivial⟩ (cl_preS C h) rfl hn hsz hst (lv_room hR.2.1) d ⟨hR.2.2.1, hR.2.2.2⟩) h.2 (fun q _ h => h) (fun q h => h) (fun r' u t' H1 locs1 e1 _ e3 e4 _ _ hS => ?_)
  rw [e3]
  exact kk H1 locs1 (cl_bk e1 e4 hS)
/-- ends -/
theorem cr_reti (C : cl_C p l s m args meth c cc own nL (some .int) dd b) (h : cl_H dd b M s H locs) {r : Int32} (d : decode cc pc = .ok (.ireturn, 1)) : W p l e R s m args below meth c H locs cells slots (MQ below (va_Qi (fun x (_ : Unit) => x = r) (fun _ t => cl_J dd b M t) (cl_A b)) args s cells slots (cl_A b)) (F0 m pc ls [.int r]) := by
  have C' := C
  obtain ⟨hx, hb, hml, hown, hts, hlk, hr, hK, hE, hRr, hlt⟩ := C
  exact W.iret (v := r) hx hb hr (fun t ht hW => ⟨⟨r, (), rfl, rfl, h.J ht⟩, h.2.F ht⟩) h.2.2.2 d hlk
theorem cr_retz (C : cl_C p l s m args meth c cc own nL (some .boolean) dd b) (h : cl_H dd b M s H locs) {r : Int32} (hz : cl_bz r = true) (d : decode cc pc = .ok (.ireturn, 1)) : W p l e R s m args below meth c H locs cells slots (MQ below (va_Qi (fun x (_ : Unit) => x = r) (fun _ t => cl_J dd b M t) (cl_A b)) args s cells slots (cl_A b)) (F0 m pc ls [.int r]) := by
  have C' := C
  obtain ⟨hx, hb, hml, hown, hts, hlk, hr, hK, hE, hRr, hlt⟩ := C
  exact W.zret (v := r) hx hb hr (cl_bz_n hz) (fun t ht hW => ⟨⟨r, (), rfl, rfl, h.J ht⟩, h.2.F ht⟩) h.2.2.2 d hlk
theorem cr_retv (C : cl_C p l s m args meth c cc own nL none dd b) (h : cl_H dd b M s H locs) (d : decode cc pc = .ok (.return_, 1)) : W p l e R s m args below meth c H locs cells slots (MQ below (va_Qv (fun (_ : Unit) => True) (fun _ t => cl_J dd b M t) (cl_A b)) args s cells slots (cl_A b)) (F0 m pc ls []) := by
  have C' := C
  obtain ⟨hx, hb, hml, hown, hts, hlk, hr, hK, hE, hRr, hlt⟩ := C
  exact W.vret hx hb hr (fun t ht hW => ⟨⟨(), rfl, trivial, h.J ht⟩, h.2.F ht⟩) h.2.2.2 d hlk
theorem cr_retr (C : cl_C p l s m args meth c cc own nL ret dd b) (h : cl_H dd b M s H locs) {CN : String} {g : Nat} (hrt : ret = some (.object CN)) (d : decode cc pc = .ok (.areturn, 1)) : W p l e R s m args below meth c H locs cells slots (MQ below (va_Qr (fun (_ : Unit) => True) (fun _ a t => a = b + g ∧ cl_J dd b M t) (cl_A b)) args s cells slots (cl_A b)) (F0 m pc ls [.ref (b + g)]) := by
  have C' := C
  obtain ⟨hx, hb, hml, hown, hts, hlk, hr, hK, hE, hRr, hlt⟩ := C
  exact W.aret (v := .ref (b + g)) hx hb (hr.trans hrt) (Or.inl ⟨_, rfl⟩) (Or.inr ⟨_, rfl⟩) (fun t ht hW => ⟨⟨(), b + g, rfl, trivial, rfl, h.J ht⟩, h.2.F ht⟩) h.2.2.2 d hlk
/-- from the body's walk to the contract -/
theorem cl_of {Qc : Array Value → State → Outcome → State → Prop} {av : List Value} {mc ms : Nat} (hlt : l.stackTraces = false) (hp : plainName y.cls = true) (hlen : (lg_sl av).length ≤ maxL) (body : ∀ (p : Program) (e : Env) (s : State) (m : MethodId) (below : List Frame) (meth : Method) (c : Code) (ls : Array Slot), cl_C p l s m av.toArray meth c bytes y.cls maxL rt dd b → cl_H dd b M s s.heap [] → lv_has ls maxL (lv_args 0 av) → W p l e { frames := fr, cells := mc, slots := ms, locals := lo } s m av.toArray below meth c s.heap [] 0 0 (MQ below Qc av.toArray s mc ms (cl_A b)) (F0 m 0 ls [])) : Met l y (Cond.code y bytes maxL rt :: cl_W) { frames := fr, cells := mc, slots := ms, locals := lo } (va_Pc av (cl_I dd b M)) Qc mc ms (cl_A b) := by
  refine Met.ofW (cc := bytes) (maxL := maxL) (ret := rt) hp rfl ?_
  intro p e s m args below meth c s₁ B hml hv
  obtain ⟨rfl, hP, hK, hE, hR⟩ := hv
  have hts := atoms_spec (ws := Cond.code y bytes maxL rt :: cl_W) B.pre
  rw [lg_entry_eq]
  exact body p e s m below meth c _ ⟨B.exec, B.bytes, hml, findClass_of_methodNamed B.named, fun w hw => hts w (List.mem_cons_of_mem _ hw), B.notSynchronized, B.returns, hK, hE, hR, hlt⟩ ⟨hP, va_S.rf⟩ (lv_entry av hlen)
end CLS
