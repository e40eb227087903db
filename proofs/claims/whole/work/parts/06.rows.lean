/-! rows of a second kind: pairs, throws -/
def cl_F : Nat := 2048
theorem cl_pair {α β : Type} {a c : α} {b d : β} (h : some (a, b) = some (c, d)) : c = a ∧ d = b := by
  cases h
  exact ⟨rfl, rfl⟩
theorem cl_grn {β : Type} {c : Prop} [Decidable c] {a : Option β} {o : β} (h : (if c then none else a) = some o) : ¬ c ∧ a = some o := by
  by_cases q : c
  · rw [if_pos q] at h; cases h
  · rw [if_neg q] at h; exact ⟨q, h⟩
def cl_b2 {α β γ : Type} (x : Option (α × β)) (f : α → β → Option γ) : Option γ := match x with
  | none => none
  | some q => f q.1 q.2
theorem cl_b2_e {α β γ : Type} {x : Option (α × β)} {f : α → β → Option γ} {o : γ} (h : cl_b2 x f = some o) : ∃ a b, x = some (a, b) ∧ f a b = some o := by
  cases x with
  | none => cases h
  | some q => exact ⟨q.1, q.2, rfl, h⟩
/-- a call that may throw: what it throws goes on -/
def cl_x2 {ε α β γ : Type} (x : Option (Except ε (α × β))) (f : α → β → Option (Except ε γ)) : Option (Except ε γ) := match x with
  | none => none
  | some (.error k) => some (.error k)
  | some (.ok q) => f q.1 q.2
theorem cl_x2_e {ε α β γ : Type} {x : Option (Except ε (α × β))} {f : α → β → Option (Except ε γ)} {o : Except ε γ} (h : cl_x2 x f = some o) : ∃ o1, x = some o1 ∧ (∀ k, o1 = .error k → o = .error k) ∧ (∀ a b, o1 = .ok (a, b) → f a b = some o) := by
  match x, h with
  | none, h => cases h
  | some (.error k), h => exact ⟨_, rfl, fun k' e => by cases e; cases h; rfl, fun a b e => by cases e⟩
  | some (.ok q), h => exact ⟨_, rfl, fun k' e => by (cases e), fun a b e => by cases e; exact h⟩
def cl_x1 {ε α γ : Type} (x : Option (Except ε α)) (f : α → Option (Except ε γ)) : Option (Except ε γ) := match x with
  | none => none
  | some (.error k) => some (.error k)
  | some (.ok q) => f q
theorem cl_x1_e {ε α γ : Type} {x : Option (Except ε α)} {f : α → Option (Except ε γ)} {o : Except ε γ} (h : cl_x1 x f = some o) : ∃ o1, x = some o1 ∧ (∀ k, o1 = .error k → o = .error k) ∧ (∀ a, o1 = .ok a → f a = some o) := by
  match x, h with
  | none, h => cases h
  | some (.error k), h => exact ⟨_, rfl, fun k' e => by cases e; cases h; rfl, fun a e => by cases e⟩
  | some (.ok q), h => exact ⟨_, rfl, fun k' e => by (cases e), fun a e => by cases e; exact h⟩
/-- the exceptions by their numbers -/
def cl_exn (k : Nat) : String := match k with
  | 1 => "java/lang/IllegalArgumentException"
  | 2 => "java/lang/IndexOutOfBoundsException"
  | 3 => "java/lang/IllegalStateException"
  | _ => "java/util/NoSuchElementException"
abbrev cl_Zi (below : List Frame) (args : Array Value) (s : State) (dd : cl_D) (b : Nat) (r : Int32) (M : cl_M) : State → Prop := MQ below (va_Qi (fun x (_ : Unit) => x = r) (fun _ t => cl_J dd b M t) (cl_A b)) args s 0 0 (cl_A b)
abbrev cl_Zv (below : List Frame) (args : Array Value) (s : State) (dd : cl_D) (b : Nat) (M : cl_M) : State → Prop := MQ below (va_Qv (fun (_ : Unit) => True) (fun _ t => cl_J dd b M t) (cl_A b)) args s 0 0 (cl_A b)
abbrev cl_Zr (below : List Frame) (args : Array Value) (s : State) (dd : cl_D) (b : Nat) (g : Nat) (M : cl_M) : State → Prop := MQ below (va_Qr (fun (_ : Unit) => True) (fun _ a t => a = b + g ∧ cl_J dd b M t) (cl_A b)) args s 0 0 (cl_A b)
abbrev cl_XC {α : Type} (dd : cl_D) (b : Nat) (o : Except (Nat × cl_M) α) : String → State → State → Prop := vx_X (fun q : Nat × cl_M => o = .error q) (fun E q t => E = cl_exn q.1 ∧ cl_J dd b q.2 t) (cl_A b)
abbrev cl_Qi (dd : cl_D) (b : Nat) (o : Except (Nat × cl_M) (Int32 × cl_M)) : Array Value → State → Outcome → State → Prop := va_Qi (fun x M' => o = .ok (x, M')) (fun M' t => cl_J dd b M' t) (cl_A b)
abbrev cl_Qv (dd : cl_D) (b : Nat) (o : Except (Nat × cl_M) cl_M) : Array Value → State → Outcome → State → Prop := va_Qv (fun M' => o = .ok M') (fun M' t => cl_J dd b M' t) (cl_A b)
abbrev cl_Qr (dd : cl_D) (b : Nat) (o : Except (Nat × cl_M) (Nat × cl_M)) : Array Value → State → Outcome → State → Prop := va_Qr (fun q : Nat × cl_M => o = .ok q) (fun q a t => a = b + q.1 ∧ cl_J dd b q.2 t) (cl_A b)
abbrev cl_Yi (below : List Frame) (args : Array Value) (s : State) (dd : cl_D) (b : Nat) (o : Except (Nat × cl_M) (Int32 × cl_M)) (mc : Nat) : State → Prop := vx_MQ below (cl_Qi dd b o) (cl_XC dd b o) args s mc (6 * mc) (cl_A b)
abbrev cl_Yv (below : List Frame) (args : Array Value) (s : State) (dd : cl_D) (b : Nat) (o : Except (Nat × cl_M) cl_M) (mc : Nat) : State → Prop := vx_MQ below (cl_Qv dd b o) (cl_XC dd b o) args s mc (6 * mc) (cl_A b)
abbrev cl_Yr (below : List Frame) (args : Array Value) (s : State) (dd : cl_D) (b : Nat) (o : Except (Nat × cl_M) (Nat × cl_M)) (mc : Nat) : State → Prop := vx_MQ below (cl_Qr dd b o) (cl_XC dd b o) args s mc (6 * mc) (cl_A b)
abbrev cl_Xm (l : Launch) (dd : cl_D) (b : Nat) (y : MethodName) (cc : ByteArray) (nL : Nat) (rt : Option FieldType) (fr lo mc : Nat) (av : List Value) (M : cl_M) (Qc : Array Value → State → Outcome → State → Prop) (XC : String → State → State → Prop) : Prop :=
  vx_Met l y (Cond.code y cc nL rt :: cl_W) { frames := fr, cells := mc, slots := 6 * mc, locals := lo } (va_Pc av (cl_I dd b M)) Qc XC mc (6 * mc) (cl_A b)
def cl_Xi (l : Launch) (dd : cl_D) (b : Nat) (y : MethodName) (cc : ByteArray) (nL : Nat) (rt : Option FieldType) (fr lo mc : Nat) (av : List Value) (M : cl_M) (o : Except (Nat × cl_M) (Int32 × cl_M)) : Prop := cl_Xm l dd b y cc nL rt fr lo mc av M (cl_Qi dd b o) (cl_XC dd b o)
def cl_Xv (l : Launch) (dd : cl_D) (b : Nat) (y : MethodName) (cc : ByteArray) (nL : Nat) (rt : Option FieldType) (fr lo mc : Nat) (av : List Value) (M : cl_M) (o : Except (Nat × cl_M) cl_M) : Prop := cl_Xm l dd b y cc nL rt fr lo mc av M (cl_Qv dd b o) (cl_XC dd b o)
def cl_Xr (l : Launch) (dd : cl_D) (b : Nat) (y : MethodName) (cc : ByteArray) (nL : Nat) (rt : Option FieldType) (fr lo mc : Nat) (av : List Value) (M : cl_M) (o : Except (Nat × cl_M) (Nat × cl_M)) : Prop := cl_Xm l dd b y cc nL rt fr lo mc av M (cl_Qr dd b o) (cl_XC dd b o)
def cl_T (c : Code) : Prop := ∀ x ∈ c.exceptionTable.toList, False
section CLX
variable {p : Program} {l : Launch} {e : Env} {R : Room} {s : State} {m : MethodId} {args : Array Value} {below : List Frame} {meth : Method} {c : Code} {H : Heap} {locs : List Loc} {cells slots : Nat} {Q : State → Prop} {cc : ByteArray} {pc : Nat} {ls : Array Slot} {rest : List Value} {own : String} {nL : Nat} {ret : Option FieldType} {dd : cl_D} {b : Nat} {M : cl_M}
theorem cr_topr {g g' : Nat} (ex : g' = g) (k : W p l e R s m args below meth c H locs cells slots Q (F0 m pc ls (.ref (b + g') :: rest))) : W p l e R s m args below meth c H locs cells slots Q (F0 m pc ls (.ref (b + g) :: rest)) := ex ▸ k
variable {y : MethodName} {bytes : ByteArray} {maxL n idx fr lo mc mk : Nat} {rt : Option FieldType} {As st0 : List Value} {M' : cl_M}
/-- what a callee throws leaves this method too -/
theorem cl_away {α β : Type} {o1 : Except (Nat × cl_M) α} {o : Except (Nat × cl_M) β} {Qc : Array Value → State → Outcome → State → Prop} (C : cl_C p l s m args meth c cc own nL ret dd b) (T : cl_T c) (hx : ∀ k, o1 = .error k → o = .error k) (hc : cells ≤ mc) (hs : slots ≤ 6 * mc) {E : String} {ce : Cell} {q9 : Addr} {u : Nat × cl_M} {t : State} {H1 : Heap} {locs1 : List Loc} (ht : t.heap = H1) (hu : o1 = .error u) (hB : E = cl_exn u.1 ∧ cl_J dd b u.2 t) (hS : va_S (cl_A b) s.heap H1 locs1) (h9 : H1[q9]? = some ce) (hv : ce.vm = .none) (hcl : s.vm.findClass E = some ce.cls) : vx_W p l e R s m args below meth c H1 locs1 cells slots (vx_MQ below Qc (cl_XC dd b o) args s mc (6 * mc) (cl_A b)) (F0 m pc ls rest) q9 := by
  obtain ⟨hx0, hb, hml, hown, hts, hlk, hr, hK, hE, hRr, hlt⟩ := C
  refine vx_out (fun x h => (T x h).elim) hlk h9 hv hcl (fun t' ht' hal' => ⟨u, hx u hu, ⟨hB.1, ?_⟩, hS.F ht'⟩) hS.2.2 hc hs
  unfold cl_J at hB ⊢
  rw [ht', ← ht]
  exact hB.2
variable {mc1 : Nat} {α : Type} {o : Except (Nat × cl_M) α} {Qc : Array Value → State → Outcome → State → Prop}
theorem cr_XVi (C : cl_C p l s m args meth c cc own nL ret dd b) (h : cl_H dd b M s H locs) (TT : cl_T c) {t ci : Nat} {q : vw_C} {fs : List Value} {o1 : Except (Nat × cl_M) (Int32 × cl_M)} (hM : cl_Xi l dd b y bytes maxL rt fr lo mc1 (.ref (b + t) :: As) M o1) (hy : cl_cy y bytes maxL rt n) (hv : cl_vy y) (w : Cond.methodLink own idx y ∈ cl_W) (ht : t < cl_K dd) (he : cl_ent dd b t (M t) = .inr (ci, fs)) (hc : cl_cls[ci]? = some q) (hq : q.1 = y.cls) (hn : As.length = n) (hsz : ls.size = nL) (hst : st0 = As.reverse ++ .ref (b + t) :: rest) (hR : (fr + 1 ≤ R.frames ∧ 8 + (maxL + 11) + lo ≤ R.locals) ∧ (rest.map fun v => v.category).sum ≤ 8 ∧ cells + mc1 ≤ R.cells ∧ slots + 6 * mc1 ≤ R.slots) (hm : cells + mc1 ≤ mc ∧ slots + 6 * mc1 ≤ 6 * mc) (d : decode cc pc = .ok (.invokevirtual idx, 3)) (hx : ∀ k, o1 = .error k → o = .error k) (kk : ∀ (r : Int32) (M1 : cl_M), o1 = .ok (r, M1) → ∀ (H1 : Heap) (locs1 : List Loc), cl_H dd b M1 s H1 locs1 → W p l e R s m args below meth c H1 locs1 (cells + mc1) (slots + 6 * mc1) (vx_MQ below Qc (cl_XC dd b o) args s mc (6 * mc) (cl_A b)) (F0 m (pc + 3) ls (.int r :: rest))) : W p l e R s m args below meth c H locs cells slots (vx_MQ below Qc (cl_XC dd b o) args s mc (6 * mc) (cl_A b)) (F0 m pc ls st0) := by
  refine vx_calli (vx_runV (rest := rest) (cl_fix C) hM ⟨cl_cb C hy w hR.1, C.2.2.2.2.1 _ hv.1, C.2.2.2.2.1 _ hv.2⟩ (cl_preV C h ht he hc hq) rfl hn hsz hst (lv_room hR.2.1) d ⟨hR.2.2.1, hR.2.2.2⟩) h.2 (fun q _ h => h) (fun q h => h) (fun q _ h => h) (fun E ce q9 u t' H1 locs1 e1 _ e3 e4 _ _ hS h9 hv9 hcl => cl_away C TT hx hm.1 hm.2 e1 e3 e4 hS h9 hv9 hcl) (fun r' u t' H1 locs1 e1 _ e3 e4 _ _ hS => ?_)
  exact kk r' u e3 H1 locs1 (cl_bk e1 e4 hS)
theorem cr_XVv (C : cl_C p l s m args meth c cc own nL ret dd b) (h : cl_H dd b M s H locs) (TT : cl_T c) {t ci : Nat} {q : vw_C} {fs : List Value} {o1 : Except (Nat × cl_M) cl_M} (hM : cl_Xv l dd b y bytes maxL rt fr lo mc1 (.ref (b + t) :: As) M o1) (hy : cl_cy y bytes maxL rt n) (hv : cl_vy y) (w : Cond.methodLink own idx y ∈ cl_W) (ht : t < cl_K dd) (he : cl_ent dd b t (M t) = .inr (ci, fs)) (hc : cl_cls[ci]? = some q) (hq : q.1 = y.cls) (hn : As.length = n) (hsz : ls.size = nL) (hst : st0 = As.reverse ++ .ref (b + t) :: rest) (hR : (fr + 1 ≤ R.frames ∧ 8 + (maxL + 11) + lo ≤ R.locals) ∧ (rest.map fun v => v.category).sum ≤ 8 ∧ cells + mc1 ≤ R.cells ∧ slots + 6 * mc1 ≤ R.slots) (hm : cells + mc1 ≤ mc ∧ slots + 6 * mc1 ≤ 6 * mc) (d : decode cc pc = .ok (.invokevirtual idx, 3)) (hx : ∀ k, o1 = .error k → o = .error k) (kk : ∀ (M1 : cl_M), o1 = .ok M1 → ∀ (H1 : Heap) (locs1 : List Loc), cl_H dd b M1 s H1 locs1 → W p l e R s m args below meth c H1 locs1 (cells + mc1) (slots + 6 * mc1) (vx_MQ below Qc (cl_XC dd b o) args s mc (6 * mc) (cl_A b)) (F0 m (pc + 3) ls rest)) : W p l e R s m args below meth c H locs cells slots (vx_MQ below Qc (cl_XC dd b o) args s mc (6 * mc) (cl_A b)) (F0 m pc ls st0) := by
  refine vx_callv (vx_runV (rest := rest) (cl_fix C) hM ⟨cl_cb C hy w hR.1, C.2.2.2.2.1 _ hv.1, C.2.2.2.2.1 _ hv.2⟩ (cl_preV C h ht he hc hq) rfl hn hsz hst (lv_room hR.2.1) d ⟨hR.2.2.1, hR.2.2.2⟩) h.2 (fun q _ h => h) (fun q h => h) (fun q _ h => h) (fun E ce q9 u t' H1 locs1 e1 _ e3 e4 _ _ hS h9 hv9 hcl => cl_away C TT hx hm.1 hm.2 e1 e3 e4 hS h9 hv9 hcl) (fun u t' H1 locs1 e1 _ e3 e4 _ _ hS => ?_)
  exact kk u e3 H1 locs1 (cl_bk e1 e4 hS)
theorem cr_XSv (C : cl_C p l s m args meth c cc own nL ret dd b) (h : cl_H dd b M s H locs) (TT : cl_T c) {o1 : Except (Nat × cl_M) cl_M} (hM : cl_Xv l dd b y bytes maxL rt fr lo mc1 As M o1) (hy : cl_cy y bytes maxL rt n) (hv : Cond.static y ∈ cl_W) (w : Cond.methodLink own idx y ∈ cl_W) (hn : As.length = n) (hsz : ls.size = nL) (hst : st0 = As.reverse ++ rest) (hR : (fr + 1 ≤ R.frames ∧ 8 + (maxL + 11) + lo ≤ R.locals) ∧ (rest.map fun v => v.category).sum ≤ 8 ∧ cells + mc1 ≤ R.cells ∧ slots + 6 * mc1 ≤ R.slots) (hm : cells + mc1 ≤ mc ∧ slots + 6 * mc1 ≤ 6 * mc) (d : decode cc pc = .ok (.invokestatic idx, 3)) (hx : ∀ k, o1 = .error k → o = .error k) (kk : ∀ (M1 : cl_M), o1 = .ok M1 → ∀ (H1 : Heap) (locs1 : List Loc), cl_H dd b M1 s H1 locs1 → W p l e R s m args below meth c H1 locs1 (cells + mc1) (slots + 6 * mc1) (vx_MQ below Qc (cl_XC dd b o) args s mc (6 * mc) (cl_A b)) (F0 m (pc + 3) ls rest)) : W p l e R s m args below meth c H locs cells slots (vx_MQ below Qc (cl_XC dd b o) args s mc (6 * mc) (cl_A b)) (F0 m pc ls st0) := by
  refine vx_callv (vx_runS (rest := rest) (cl_fix C) hM ⟨cl_cb C hy w hR.1, C.2.2.2.2.1 _ hv⟩ (cl_preS C h) rfl hn hsz hst (lv_room hR.2.1) d ⟨hR.2.2.1, hR.2.2.2⟩) h.2 (fun q _ h => h) (fun q h => h) (fun q _ h => h) (fun E ce q9 u t' H1 locs1 e1 _ e3 e4 _ _ hS h9 hv9 hcl => cl_away C TT hx hm.1 hm.2 e1 e3 e4 hS h9 hv9 hcl) (fun u t' H1 locs1 e1 _ e3 e4 _ _ hS => ?_)
  exact kk u e3 H1 locs1 (cl_bk e1 e4 hS)
/-- a call that may throw and hands back a cell -/
theorem cl_callr {S SX : Type} {A0 A1 AX : Nat → Prop} {H0 : Heap} {a : Array Value} {mc9 ms9 : Nat} {free : Addr → Prop} {post : S → Prop} {px : SX → Prop} {B : S → Nat → State → Prop} {BX : String → SX → State → Prop} (hr : vx_Run p l e R s m args below meth c H locs cells slots mc9 ms9 (F0 m pc ls st0) rest (va_Qr post B A1 a) (vx_X px BX AX) free) (hS : va_S A0 H0 H locs) (hA : ∀ q, q < H.size → A1 q → A0 q) (hf : ∀ q, free q → A0 q) (hAX : ∀ q, q < H.size → AX q → A0 q)
    (kx : ∀ (E : String) (ce : Cell) (q9 : Addr) (u : SX) (t : State) (H1 : Heap) (locs1 : List Loc), t.heap = H1 → s.vm.Alike t.vm → px u → BX E u t → H.size ≤ H1.size → (∀ q : Nat, q < H.size → ¬ AX q → H1[q]? = H[q]?) → va_S A0 H0 H1 locs1 → H1[q9]? = some ce → ce.vm = .none → s.vm.findClass E = some ce.cls → vx_W p l e R s m args below meth c H1 locs1 (cells + mc9) (slots + ms9) Q (F0 m pc ls rest) q9)
    (kk : ∀ (u : S) (ra : Nat) (t : State) (H1 : Heap) (locs1 : List Loc), t.heap = H1 → s.vm.Alike t.vm → post u → B u ra t → H.size ≤ H1.size → (∀ q : Nat, q < H.size → ¬ A1 q → H1[q]? = H[q]?) → va_S A0 H0 H1 locs1 → W p l e R s m args below meth c H1 locs1 (cells + mc9) (slots + ms9) Q (F0 m (pc + 3) ls (.ref ra :: rest))) : W p l e R s m args below meth c H locs cells slots Q (F0 m pc ls st0) := by
  intro T hT X
  rcases hr T hT X with ⟨v, st₀, t, T', L, h0, X', hL, e1, e2, ⟨⟨u, ra, hv, hp, hb⟩, hF⟩, st⟩ | ⟨q, st₀, t, T', L, E, ce, h0, X', hL, e1, e2, ⟨u, hp, hb, hF⟩, hce, hcv, hcl, st⟩
  · cases hv
    obtain ⟨k1, k2, k3⟩ := vx_keep h0 e1 hS hA hf hL hF
    obtain ⟨t2, a1, b1⟩ := kk u ra t T'.heap (locs ++ L) e1.symm (by rw [← e2]; exact X'.warmed.alike) hp hb k1 k2 k3 T' rfl X'
    exact ⟨t2, st t2 a1, b1⟩
  · obtain ⟨k1, k2, k3⟩ := vx_keep h0 e1 hS hAX hf hL hF
    obtain ⟨t2, a1, b1⟩ := kx E ce q u t T'.heap (locs ++ L) e1.symm (by rw [← e2]; exact X'.warmed.alike) hp hb k1 k2 k3 (by rw [e1]; exact hce) hcv hcl T' rfl X'
    exact ⟨t2, st.trans a1, b1⟩
theorem cr_XVr (C : cl_C p l s m args meth c cc own nL ret dd b) (h : cl_H dd b M s H locs) (TT : cl_T c) {t ci : Nat} {q : vw_C} {fs : List Value} {o1 : Except (Nat × cl_M) (Nat × cl_M)} (hM : cl_Xr l dd b y bytes maxL rt fr lo mc1 (.ref (b + t) :: As) M o1) (hy : cl_cy y bytes maxL rt n) (hv : cl_vy y) (w : Cond.methodLink own idx y ∈ cl_W) (ht : t < cl_K dd) (he : cl_ent dd b t (M t) = .inr (ci, fs)) (hc : cl_cls[ci]? = some q) (hq : q.1 = y.cls) (hn : As.length = n) (hsz : ls.size = nL) (hst : st0 = As.reverse ++ .ref (b + t) :: rest) (hR : (fr + 1 ≤ R.frames ∧ 8 + (maxL + 11) + lo ≤ R.locals) ∧ (rest.map fun v => v.category).sum ≤ 8 ∧ cells + mc1 ≤ R.cells ∧ slots + 6 * mc1 ≤ R.slots) (hm : cells + mc1 ≤ mc ∧ slots + 6 * mc1 ≤ 6 * mc) (d : decode cc pc = .ok (.invokevirtual idx, 3)) (hx : ∀ k, o1 = .error k → o = .error k) (kk : ∀ (g : Nat) (M1 : cl_M), o1 = .ok (g, M1) → ∀ (H1 : Heap) (locs1 : List Loc), cl_H dd b M1 s H1 locs1 → W p l e R s m args below meth c H1 locs1 (cells + mc1) (slots + 6 * mc1) (vx_MQ below Qc (cl_XC dd b o) args s mc (6 * mc) (cl_A b)) (F0 m (pc + 3) ls (.ref (b + g) :: rest))) : W p l e R s m args below meth c H locs cells slots (vx_MQ below Qc (cl_XC dd b o) args s mc (6 * mc) (cl_A b)) (F0 m pc ls st0) := by
  refine cl_callr (vx_runV (rest := rest) (cl_fix C) hM ⟨cl_cb C hy w hR.1, C.2.2.2.2.1 _ hv.1, C.2.2.2.2.1 _ hv.2⟩ (cl_preV C h ht he hc hq) rfl hn hsz hst (lv_room hR.2.1) d ⟨hR.2.2.1, hR.2.2.2⟩) h.2 (fun q _ h => h) (fun q h => h) (fun q _ h => h) (fun E ce q9 u t' H1 locs1 e1 _ e3 e4 _ _ hS h9 hv9 hcl => cl_away C TT hx hm.1 hm.2 e1 e3 e4 hS h9 hv9 hcl) (fun u ra t' H1 locs1 e1 _ e3 e4 _ _ hS => ?_)
  rw [e4.1]
  exact kk u.1 u.2 e3 H1 locs1 (cl_bk e1 e4.2 hS)
theorem cr_xreti (C : cl_C p l s m args meth c cc own nL (some .int) dd b) (h : cl_H dd b M s H locs) {r : Int32} (d : decode cc pc = .ok (.ireturn, 1)) : W p l e R s m args below meth c H locs mc (6 * mc) (cl_Yi below args s dd b (.ok (r, M)) mc) (F0 m pc ls [.int r]) := by
  obtain ⟨hx, hb, hml, hown, hts, hlk, hr, hK, hE, hRr, hlt⟩ := C
  exact vx_ret (W.iret (v := r) hx hb hr (fun t ht hW => ⟨⟨r, M, rfl, rfl, h.J ht⟩, h.2.F ht⟩) h.2.2.2 d hlk)
theorem cr_xretz (C : cl_C p l s m args meth c cc own nL (some .boolean) dd b) (h : cl_H dd b M s H locs) {r : Int32} (hz : cl_bz r = true) (d : decode cc pc = .ok (.ireturn, 1)) : W p l e R s m args below meth c H locs mc (6 * mc) (cl_Yi below args s dd b (.ok (r, M)) mc) (F0 m pc ls [.int r]) := by
  obtain ⟨hx, hb, hml, hown, hts, hlk, hr, hK, hE, hRr, hlt⟩ := C
  exact vx_ret (W.zret (v := r) hx hb hr (cl_bz_n hz) (fun t ht hW => ⟨⟨r, M, rfl, rfl, h.J ht⟩, h.2.F ht⟩) h.2.2.2 d hlk)
theorem cr_xretv (C : cl_C p l s m args meth c cc own nL none dd b) (h : cl_H dd b M s H locs) (d : decode cc pc = .ok (.return_, 1)) : W p l e R s m args below meth c H locs mc (6 * mc) (cl_Yv below args s dd b (.ok M) mc) (F0 m pc ls []) := by
  obtain ⟨hx, hb, hml, hown, hts, hlk, hr, hK, hE, hRr, hlt⟩ := C
  exact vx_ret (W.vret hx hb hr (fun t ht hW => ⟨⟨M, rfl, rfl, h.J ht⟩, h.2.F ht⟩) h.2.2.2 d hlk)
theorem cr_xretr (C : cl_C p l s m args meth c cc own nL ret dd b) (h : cl_H dd b M s H locs) {CN : String} {g : Nat} (hrt : ret = some (.object CN)) (d : decode cc pc = .ok (.areturn, 1)) : W p l e R s m args below meth c H locs mc (6 * mc) (cl_Yr below args s dd b (.ok (g, M)) mc) (F0 m pc ls [.ref (b + g)]) := by
  obtain ⟨hx, hb, hml, hown, hts, hlk, hr, hK, hE, hRr, hlt⟩ := C
  exact vx_ret (W.aret (v := .ref (b + g)) hx hb (hr.trans hrt) (Or.inl ⟨_, rfl⟩) (Or.inr ⟨_, rfl⟩) (fun t ht hW => ⟨⟨(g, M), b + g, rfl, rfl, rfl, h.J ht⟩, h.2.F ht⟩) h.2.2.2 d hlk)
/-- the words for making an exception of the class cls -/
def cl_tw (own : String) (ic : Nat) (cls : String) : Prop := ∀ w ∈ vx_atS own ic cls ["java/lang/RuntimeException", "java/lang/Exception"], w ∈ cl_W ∨ w ∈ cl_N
theorem cl_tw_of {own cls : String} {ic : Nat} (h : ∀ w ∈ vx_atS own ic cls ["java/lang/RuntimeException", "java/lang/Exception"], w ∈ lw_tbl ∧ (goodWord w || cl_nx w) = true) : cl_tw own ic cls := fun w hw => by
  obtain ⟨h1, h2⟩ := h w hw
  rcases Bool.or_eq_true _ _ |>.mp h2 with g | g
  · exact Or.inl (List.mem_filter.mpr ⟨h1, g⟩)
  · exact Or.inr (List.mem_filter.mpr ⟨h1, g⟩)
theorem cl_ot {w : Cond} (h : w ∈ cl_W ∨ w ∈ cl_N) : vx_ot w = true := by
  unfold vx_ot
  rcases h with h | h
  · rw [(List.mem_filter.mp h).2, Bool.or_true]
  · rw [cl_N_on (List.mem_filter.mp h).2, Bool.true_or]
variable {ik is ic i k : Nat} {cls text : String}
theorem cr_throwW (C : cl_C p l s m args meth c cc own nL ret dd b) (h : cl_H dd b M s H locs) (TT : cl_T c) (hcl : cls = cl_exn k) (hft : Bundle.fit cls = true) (w1 : Cond.classLink own ik cls ∈ cl_W) (w2 : Cond.initialized cls ∈ cl_W) (w3 : cl_tw own ic cls) (hstr : vk_R own is text (dd.2.2.1 i) s) (hsz : ls.size = nL) (hR : 5 < R.frames ∧ (rest.map fun v => v.category).sum + 82 ≤ R.locals ∧ cells + 1 ≤ R.cells ∧ slots + 6 ≤ R.slots) (hm : cells + 1 ≤ mc ∧ slots + 6 ≤ 6 * mc) (d0 : decode cc pc = .ok (.new ik, 3)) (d3 : decode cc (pc + 3) = .ok (.dup, 1)) (d4 : decode cc (pc + 4) = .ok (.ldc_w is, 3)) (d7 : decode cc (pc + 7) = .ok (.invokespecial ic, 3)) (d10 : decode cc (pc + 10) = .ok (.athrow, 1)) : W p l e R s m args below meth c H locs cells slots (vx_MQ below Qc (cl_XC dd b (.error (k, M) : Except (Nat × cl_M) α)) args s mc (6 * mc) (cl_A b)) (F0 m pc ls rest) := by
  obtain ⟨hx, hb, hml, hown, hts, hlk, hr, hK, hE, hRr, hlt⟩ := C
  have hat : ∀ w ∈ vx_atS own ic cls ["java/lang/RuntimeException", "java/lang/Exception"], w.before args s = true := fun w hw => by
    rcases w3 w hw with g | g
    · exact hts w g
    · exact va_Nw.use (cl_N_on (List.mem_filter.mp g).2) (hRr.2 w g)
  have hgood : ∀ w ∈ Cond.classLink own ik cls :: Cond.initialized cls :: vx_atS own ic cls ["java/lang/RuntimeException", "java/lang/Exception"], vx_ot w = true := fun w hw => by
    rcases List.mem_cons.mp hw with rfl | hw
    · exact cl_ot (Or.inl w1)
    · rcases List.mem_cons.mp hw with rfl | hw
      · exact cl_ot (Or.inl w2)
      · exact cl_ot (w3 w hw)
  refine vx_throwSW hx hb hlt hown hft (by decide +kernel) (hts _ w1) (hts _ w2) hstr hat hgood hE.2.2.2.1 hE.2.2.2.2 h.2 (hsz.trans hml.symm) d0 d3 d4 d7 d10 (fun x h => (TT x h).elim) hR.1 hR.2.1 hR.2.2.1 hR.2.2.2 hlk (fun t _ hz hk => ⟨(k, M), rfl, ⟨hcl, ?_⟩, ?_⟩) h.2.2.2 hm.1 hm.2
  · exact va_P.kept h.1 (fun j q hj => hk q.1 (h.1 j q hj).lt)
  · refine ⟨Nat.le_trans h.2.1 hz, fun q h1 h2 => ?_⟩
    rw [hk q (Nat.lt_of_lt_of_le h1 h.2.1)]
    exact h.2.2.1 q h1 h2
end CLX
/-- from the body's walk to the contract, where it may throw -/
theorem cl_ofX {l : Launch} {dd : cl_D} {b : Nat} {M : cl_M} {y : MethodName} {bytes : ByteArray} {maxL fr lo mc ms : Nat} {rt : Option FieldType} {Qc : Array Value → State → Outcome → State → Prop} {XC : String → State → State → Prop} {av : List Value} (hlt : l.stackTraces = false) (hp : plainName y.cls = true) (hlen : (lg_sl av).length ≤ maxL) (body : ∀ (p : Program) (e : Env) (s : State) (m : MethodId) (below : List Frame) (meth : Method) (c : Code) (ls : Array Slot), cl_C p l s m av.toArray meth c bytes y.cls maxL rt dd b → cl_T c → cl_H dd b M s s.heap [] → lv_has ls maxL (lv_args 0 av) → W p l e { frames := fr, cells := mc, slots := ms, locals := lo } s m av.toArray below meth c s.heap [] 0 0 (vx_MQ below Qc XC av.toArray s mc ms (cl_A b)) (F0 m 0 ls [])) : vx_Met l y (Cond.code y bytes maxL rt :: cl_W) { frames := fr, cells := mc, slots := ms, locals := lo } (va_Pc av (cl_I dd b M)) Qc XC mc ms (cl_A b) := by
  refine vx_ofW (cc := bytes) (maxL := maxL) (ret := rt) hp rfl ?_
  intro p e s m args below meth c s₁ B hml hT hv
  obtain ⟨rfl, hP, hK, hE, hR⟩ := hv
  have hts := atoms_spec (ws := Cond.code y bytes maxL rt :: cl_W) B.pre
  rw [lg_entry_eq]
  exact body p e s m below meth c _ ⟨B.exec, B.bytes, hml, findClass_of_methodNamed B.named, fun w hw => hts w (List.mem_cons_of_mem _ hw), B.notSynchronized, B.returns, hK, hE, hR, hlt⟩ hT ⟨hP, va_S.rf⟩ (lv_entry av hlen)
