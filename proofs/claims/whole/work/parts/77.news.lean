/-! constructors: the cells of one run lie behind its own object at a -/
def nw_w (a n : Nat) (E : Nat → va_E) : va_W := (List.range n).map (fun k => (a + k, E k))
theorem nw_get {a n : Nat} {E : Nat → va_E} {k : Nat} (h : k < n) : (nw_w a n E)[k]? = some (a + k, E k) := by
  simp [nw_w, List.getElem?_map, List.getElem?_range h]
theorem nw_at {a n : Nat} {E : Nat → va_E} {k : Nat} {q : Nat × va_E} (h : (nw_w a n E)[k]? = some q) : k < n ∧ q = (a + k, E k) := by
  have hk : k < n := by
    have := (List.getElem?_eq_some_iff.mp h).1
    simpa [nw_w] using this
  rw [nw_get hk] at h
  exact ⟨hk, (Option.some.inj h).symm⟩
theorem nw_set {a n : Nat} {E : Nat → va_E} {t : Nat} (h : t < n) (e : va_E) : (nw_w a n E).set t (a + t, e) = nw_w a n (va_up E t e) := by
  apply List.ext_getElem?
  intro k
  by_cases hk : k < n
  · rw [nw_get hk, List.getElem?_set]
    by_cases q : t = k
    · subst q
      rw [if_pos rfl, if_pos (by simpa [nw_w] using h)]
      simp [va_up]
    · rw [if_neg q, nw_get hk]
      simp [va_up, Ne.symm q]
  · rw [List.getElem?_eq_none (by simpa [nw_w] using hk), List.getElem?_eq_none (by simpa [nw_w] using hk)]
theorem nw_D (a n : Nat) (E : Nat → va_E) : va_D (cl_A a) (nw_w a n E) := by
  refine ⟨fun i j p q hi hj e => ?_, fun k q hk => ?_⟩
  · obtain ⟨_, rfl⟩ := nw_at hi
    obtain ⟨_, rfl⟩ := nw_at hj
    exact Nat.add_left_cancel e
  · obtain ⟨_, rfl⟩ := nw_at hk
    exact Nat.le_add_right a k
def nw_P (dd : cl_D) (a n : Nat) (E : Nat → va_E) (H : Heap) : Prop := ∀ k, k < n → va_at dd.1 cl_cls (a + k, E k) H
theorem nw_P.P {dd : cl_D} {a n : Nat} {E : Nat → va_E} {H : Heap} (h : nw_P dd a n E H) : va_P dd.1 cl_cls (nw_w a n E) H := fun k q hk => by
  obtain ⟨h1, rfl⟩ := nw_at hk
  exact h k h1
theorem nw_P.of {dd : cl_D} {a n : Nat} {E : Nat → va_E} {H : Heap} (h : va_P dd.1 cl_cls (nw_w a n E) H) : nw_P dd a n E H := fun k hk => h k _ (nw_get hk)
theorem nw_P.to {dd : cl_D} {a n : Nat} {E E' : Nat → va_E} {H : Heap} (h : nw_P dd a n E H) (q : ∀ k, k < n → E k = E' k) : nw_P dd a n E' H := fun k hk => by
  rw [← q k hk]
  exact h k hk
def nw_H (dd : cl_D) (a n : Nat) (E : Nat → va_E) (s : State) (H : Heap) (locs : List Loc) : Prop := nw_P dd a n E H ∧ va_S (cl_A a) s.heap H locs
def nw_AO (U : State) : Prop := va_AO RX0 U ∧ va_AO RX2 U
def nw_I (dd : cl_D) (a n : Nat) (E : Nat → va_E) (U : State) : Prop := U.heap.size = a + n ∧ nw_P dd a n E U.heap ∧ va_K dd.1 cl_cls (cl_tys dd) U ∧ cl_E dd a U U.heap ∧ cl_Rr dd U ∧ nw_AO U
theorem nw_AO.moved {u U : State} (hvm : u.vm.Alike U.vm) (h : nw_AO u) : nw_AO U := ⟨va_AO.moved hvm h.1, va_AO.moved hvm h.2⟩
theorem nw_E_up {dd : cl_D} {b a : Nat} (hab : b ≤ a) {U : State} {H : Heap} (h : cl_E dd b U H) : cl_E dd a U H := by
  have up : ∀ q : Nat, cl_A a q → cl_A b q := fun t h1 => Nat.le_trans hab h1
  obtain ⟨h1, h2, h3, h4, h5⟩ := h
  exact ⟨fun i hi => ⟨va_O.narrow (h1 i hi).1 up, va_OF.narrow (h1 i hi).2.1 up, va_OF.narrow (h1 i hi).2.2.1 up, va_T.narrow (h1 i hi).2.2.2 up⟩, va_Z.narrow h2 up, va_Zq.narrow h3 up, vx_Zq.narrow h4 up, vx_Zq.narrow h5 up⟩
theorem nw_I.blind {dd : cl_D} {a n : Nat} {E : Nat → va_E} {av : List Value} : FrameBlind (va_Pc av (nw_I dd a n E)) := fun v U g mk q => by
  obtain ⟨e, hz, hP, hK, hE, hR, hA⟩ := q
  exact ⟨e, hz, hP, va_K.moved (u := U) (U := U.calling g mk v) (Vm.Alike.refl U.vm) hK, cl_E.moved (u := U) (U := U.calling g mk v) (Vm.Alike.refl U.vm) hE, ⟨fun i q hi => vk_R.same (u := U) (U := U.calling g mk v) rfl (hR.1 i q hi), fun w hw => va_Nw.same (u := U) (U := U.calling g mk v) (cl_N_on (List.mem_filter.mp hw).2) rfl (hR.2 w hw)⟩, nw_AO.moved (u := U) (U := U.calling g mk v) (Vm.Alike.refl U.vm) hA⟩
/-- a constructor: from n0 cells to what B says -/
def nw_G (l : Launch) (dd : cl_D) (a : Nat) (y : MethodName) (cc : ByteArray) (nL fr mc ms lo z n0 : Nat) (E0 : Nat → va_E) (B : State → Prop) : Prop :=
  Met l y (Cond.code y cc nL none :: cl_W) { frames := fr, cells := mc, slots := ms, locals := lo } (va_Pc [.ref z] (nw_I dd a n0 E0)) (va_Qv (fun (_ : Unit) => True) (fun _ t => B t) (cl_A a)) mc ms (cl_A a)
/-- from its own new cell to n cells -/
def nw_M (l : Launch) (dd : cl_D) (a : Nat) (y : MethodName) (cc : ByteArray) (nL fr mc ms lo : Nat) (e0 : va_E) (n : Nat) (E : Nat → va_E) : Prop :=
  nw_G l dd a y cc nL fr mc ms lo a 1 (fun _ => e0) (fun t => nw_P dd a n E t.heap)
def nw_app (n : Nat) (E E1 : Nat → va_E) : Nat → va_E := fun k => if k < n then E k else E1 (k - n)
section NWR
variable {p : Program} {l : Launch} {e : Env} {R : Room} {s : State} {m : MethodId} {args : Array Value} {below : List Frame} {meth : Method} {c : Code} {H : Heap} {locs : List Loc} {cells slots : Nat} {Q : State → Prop} {cc : ByteArray} {pc : Nat} {ls : Array Slot} {rest : List Value} {own : String} {nL : Nat} {ret : Option FieldType} {dd : cl_D} {a n : Nat} {E : Nat → va_E}
theorem nw_size {T : State} (X : Stand p l e R s m args below meth c T locs cells slots) (h : nw_H dd a n E s T.heap locs) (hc : s.heap.size + cells = a + n) (h0 : 0 < n ∨ cells = 0) : T.heap.size = a + n := by
  have h1 := X.heapSize
  have h2 := h.2.1
  rcases h0 with h0 | h0
  · have h3 := (h.1 (n - 1) (by omega)).lt
    dsimp only at h3
    omega
  · omega
theorem nw_sz {g : JFrame} (h : nw_H dd a n E s H locs) (hc : s.heap.size + cells = a + n) (h0 : 0 < n ∨ cells = 0) (k : H.size = a + n → W p l e R s m args below meth c H locs cells slots Q g) : W p l e R s m args below meth c H locs cells slots Q g := by
  intro T hT X
  have hz : H.size = a + n := by
    rw [← hT] at h ⊢
    exact nw_size X h hc h0
  exact k hz T hT X
theorem nw_new (C : cl_C p l s m args meth c cc own nL ret dd a) (h : nw_H dd a n E s H locs) (hc : s.heap.size + cells = a + n) (h0 : 0 < n ∨ cells = 0) {ci idx N : Nat} {CN : String} {T : u_T} (hcl : cl_cls[ci]? = some (CN, T, N)) (hin : ∀ w ∈ u_ws CN T N, w ∈ cl_W) (ty0 : Nat → FieldType) (hty : ∀ k, k < N → parseFieldDescriptor (T k).2.2.1 = some (ty0 k)) (w1 : Cond.classLink own idx CN ∈ cl_W) (w2 : Cond.instantiable CN N ∈ cl_W) (w3 : Cond.initialized CN ∈ cl_W) {fs : List Value} (hfs : ∀ j, j < N → defaultValue (ty0 j) = vp_V fs j) (hR : cells + 1 ≤ R.cells ∧ slots + N ≤ R.slots) (d : decode cc pc = .ok (.new idx, 3)) (kk : ∀ H1 : Heap, nw_H dd a (n + 1) (va_up E n (.inr (ci, fs))) s H1 locs → W p l e R s m args below meth c H1 locs (cells + 1) (slots + N) Q (F0 m (pc + 3) ls (.ref (a + n) :: rest))) : W p l e R s m args below meth c H locs cells slots Q (F0 m pc ls rest) := by
  refine nw_sz h hc h0 (fun hz => ?_)
  obtain ⟨hx, hb, hml, hown, hts, hlk, hr, hK, hE, hRr, hlt⟩ := C
  have hKn := hK.1 ci _ hcl
  refine W.newcK hx hb hown (hts _ w1) (hts _ w2) (hts _ w3) rfl d hR.1 hR.2 hKn.2.1 hz fun H1 kC hkC e1 z1 o1 => ?_
  have h2 := h.2.1
  refine kk H1 ⟨fun k hk => ?_, by omega, fun x q1 q2 => (o1 x (by omega)).trans (h.2.2.1 x q1 q2), h.2.2.2⟩
  by_cases q : k = n
  · rw [q, show va_up E n (.inr (ci, fs)) n = .inr (ci, fs) by simp [va_up]]
    exact ⟨_, hcl, (u_born ty0 hts hin hKn hkC e1 hty).to hfs⟩
  · rw [show va_up E n (.inr (ci, fs)) k = E k by simp [va_up, q]]
    exact (h.1 k (by omega)).kept (o1 _ (by dsimp only; omega))
theorem nw_arr {H1 : Heap} {x : va_E} (h : nw_H dd a n E s H locs) (hz : H.size = a + n) (e1 : va_at dd.1 cl_cls (a + n, x) H1) (z1 : H1.size = a + n + 1) (o1 : ∀ q, q < a + n → H1[q]? = H[q]?) : nw_H dd a (n + 1) (va_up E n x) s H1 locs := by
  have h2 := h.2.1
  refine ⟨fun k hk => ?_, by omega, fun y q1 q2 => (o1 y (by omega)).trans (h.2.2.1 y q1 q2), h.2.2.2⟩
  by_cases q : k = n
  · rw [q, show va_up E n x n = x by simp [va_up]]
    exact e1
  · rw [show va_up E n x k = E k by simp [va_up, q]]
    exact (h.1 k (by omega)).kept (o1 _ (by dsimp only; omega))
theorem nw_newi (C : cl_C p l s m args meth c cc own nL ret dd a) (h : nw_H dd a n E s H locs) (hc : s.heap.size + cells = a + n) (h0 : 0 < n ∨ cells = 0) (w : Cond.arrayClass .int ∈ cl_W) {v : Int32} {N : Nat} (hv : ¬ v < 0) (hN : v.toNatClampNeg = N) (hby : N * 4 ≤ 536870912) (hR : cells + 1 ≤ R.cells ∧ slots + N ≤ R.slots) (d : decode cc pc = .ok (.newarray .int, 2)) (kk : ∀ H1 : Heap, nw_H dd a (n + 1) (va_up E n (.inl (dd.2.1 0, N, .inl (fun _ => 0)))) s H1 locs → W p l e R s m args below meth c H1 locs (cells + 1) (slots + N) Q (F0 m (pc + 2) ls (.ref (a + n) :: rest))) : W p l e R s m args below meth c H locs cells slots Q (F0 m pc ls (.int v :: rest)) := by
  refine nw_sz h hc h0 (fun hz => ?_)
  obtain ⟨hx, hb, hml, hown, hts, hlk, hr, hK, hE, hRr, hlt⟩ := C
  refine va_newaK (atype := .int) hx hb (hts _ w) rfl d rfl hv hN hby hR.1 hR.2 hz fun H1 cA e1 z1 o1 hAr hNm => ?_
  have hk : cA = dd.2.1 0 := Option.some.inj (hNm.symm.trans (hK.2 0 (dd.2.1 0, .int) rfl).2)
  subst hk
  exact kk H1 (nw_arr h hz e1 z1 o1)
theorem nw_newz (C : cl_C p l s m args meth c cc own nL ret dd a) (h : nw_H dd a n E s H locs) (hc : s.heap.size + cells = a + n) (h0 : 0 < n ∨ cells = 0) (w : Cond.arrayClass .boolean ∈ cl_W) {v : Int32} {N : Nat} (hv : ¬ v < 0) (hN : v.toNatClampNeg = N) (hby : N * 1 ≤ 536870912) (hR : cells + 1 ≤ R.cells ∧ slots + N ≤ R.slots) (d : decode cc pc = .ok (.newarray .boolean, 2)) (kk : ∀ H1 : Heap, nw_H dd a (n + 1) (va_up E n (.inl (dd.2.1 1, N, .inl (fun _ => 0)))) s H1 locs → W p l e R s m args below meth c H1 locs (cells + 1) (slots + N) Q (F0 m (pc + 2) ls (.ref (a + n) :: rest))) : W p l e R s m args below meth c H locs cells slots Q (F0 m pc ls (.int v :: rest)) := by
  refine nw_sz h hc h0 (fun hz => ?_)
  obtain ⟨hx, hb, hml, hown, hts, hlk, hr, hK, hE, hRr, hlt⟩ := C
  refine va_newaK (atype := .boolean) hx hb (hts _ w) rfl d rfl hv hN hby hR.1 hR.2 hz fun H1 cA e1 z1 o1 hAr hNm => ?_
  have hk : cA = dd.2.1 1 := Option.some.inj (hNm.symm.trans (hK.2 1 (dd.2.1 1, .boolean) rfl).2)
  subst hk
  exact kk H1 (nw_arr h hz e1 z1 o1)
theorem nw_newl (C : cl_C p l s m args meth c cc own nL ret dd a) (h : nw_H dd a n E s H locs) (hc : s.heap.size + cells = a + n) (h0 : 0 < n ∨ cells = 0) (w : Cond.arrayClass .long ∈ cl_W) {v : Int32} {N : Nat} (hv : ¬ v < 0) (hN : v.toNatClampNeg = N) (hby : N * 8 ≤ 536870912) (hR : cells + 1 ≤ R.cells ∧ slots + N ≤ R.slots) (d : decode cc pc = .ok (.newarray .long, 2)) (kk : ∀ H1 : Heap, nw_H dd a (n + 1) (va_up E n (.inl (dd.2.1 4, N, .inr (.inl (fun _ => 0))))) s H1 locs → W p l e R s m args below meth c H1 locs (cells + 1) (slots + N) Q (F0 m (pc + 2) ls (.ref (a + n) :: rest))) : W p l e R s m args below meth c H locs cells slots Q (F0 m pc ls (.int v :: rest)) := by
  refine nw_sz h hc h0 (fun hz => ?_)
  obtain ⟨hx, hb, hml, hown, hts, hlk, hr, hK, hE, hRr, hlt⟩ := C
  refine va_newaK (atype := .long) hx hb (hts _ w) rfl d rfl hv hN hby hR.1 hR.2 hz fun H1 cA e1 z1 o1 hAr hNm => ?_
  have hk : cA = dd.2.1 4 := Option.some.inj (hNm.symm.trans (hK.2 4 (dd.2.1 4, .long) rfl).2)
  subst hk
  exact kk H1 (nw_arr h hz e1 z1 o1)
theorem nw_newq (C : cl_C p l s m args meth c cc own nL ret dd a) (h : nw_H dd a n E s H locs) (hc : s.heap.size + cells = a + n) (h0 : 0 < n ∨ cells = 0) {CN : String} {idx i : Nat} (w : Cond.classLink own idx CN ∈ cl_W) (hA : va_AO CN s) {cA0 : ClassId} (hi : (cl_tys dd)[i]? = some (cA0, .object CN)) {v : Int32} {N : Nat} (hv : ¬ v < 0) (hN : v.toNatClampNeg = N) (hby : N * 4 ≤ 536870912) (hR : cells + 1 ≤ R.cells ∧ slots + N ≤ R.slots) (d : decode cc pc = .ok (.anewarray idx, 3)) (kk : ∀ H1 : Heap, nw_H dd a (n + 1) (va_up E n (.inl (cA0, N, .inr (.inr (.inr (.inr (fun _ => none))))))) s H1 locs → W p l e R s m args below meth c H1 locs (cells + 1) (slots + N) Q (F0 m (pc + 3) ls (.ref (a + n) :: rest))) : W p l e R s m args below meth c H locs cells slots Q (F0 m pc ls (.int v :: rest)) := by
  refine nw_sz h hc h0 (fun hz => ?_)
  subst hN
  obtain ⟨hx, hb, hml, hown, hts, hlk, hr, hK, hE, hRr, hlt⟩ := C
  refine W.anew hx hb hown (hts _ w) (va_AO.use hA) rfl d rfl hv hby hR.1 hR.2 fun cA kA comp f1 f2 f3 f4 => ?_
  obtain ⟨kA', comp', -, -, -, g4⟩ := (hK.2 i _ hi).2
  have hk : cA = cA0 := Option.some.inj (f1.symm.trans g4)
  subst hk
  generalize hH1 : H.push ({ cls := cA, slots := Array.replicate v.toNatClampNeg .null, vm := .none } : Cell) = H1
  have z1 : H1.size = a + n + 1 := by rw [← hH1, Array.size_push, hz]
  have e1 : H1[a + n]? = some (arrV cA v.toNatClampNeg (fun _ => .null)) := by rw [← hH1, ← hz, Array.getElem?_push_size, ← arrV_new]
  have o1 : ∀ q : Nat, q < a + n → H1[q]? = H[q]? := fun q hq => by rw [← hH1, Array.getElem?_push, if_neg (by omega)]
  refine W.eq ?_ (kk H1 (nw_arr h hz e1 z1 o1))
  rw [hz]
/-- a final field of the constructor's own object -/
theorem nw_putF (C : cl_C p l s m args meth c cc own nL ret dd a) (h : nw_H dd a n E s H locs) (hin2 : meth.name = "<init>") {t ci idx N : Nat} {CN : String} {T : u_T} {fs : List Value} (ht : t < n) (he : E t = .inr (ci, fs)) (hcl : cl_cls[ci]? = some (CN, T, N)) (hin : ∀ w ∈ u_ws CN T N, w ∈ cl_W) (ty0 : Nat → FieldType) (hty : ∀ k, k < N → parseFieldDescriptor (T k).2.2.1 = some (ty0 k)) (hnm : ∀ a, a < N → ∀ b, b < N → a ≠ b → (T a).2.1 ≠ (T b).2.1) (k : Nat) (hk : k < N) (hl : Cond.fieldLink own idx (T k).1 (T k).2.1 (T k).2.2.1 ∈ cl_W) (hfin : (T k).2.2.2 = true) (hdecl : (T k).1 = own) {ty : FieldType} {v : Value} (hd : parseFieldDescriptor (T k).2.2.1 = some ty) (hn : narrow ty v = v) (hfit : fits ty v = true) (hlen : k < fs.length) {z : Nat} (hz : z = a + t) (d : decode cc pc = .ok (.putfield idx, 3)) (kk : ∀ (H1 : Heap) (locs1 : List Loc), nw_H dd a n (va_up E t (.inr (ci, fs.set k v))) s H1 locs1 → W p l e R s m args below meth c H1 locs1 cells slots Q (F0 m (pc + 3) ls rest)) : W p l e R s m args below meth c H locs cells slots Q (F0 m pc ls (v :: .ref z :: rest)) := by
  subst hz
  obtain ⟨hx, hb, hml, hown, hts, hlk, hr, hK, hE, hRr, hlt⟩ := C
  refine va_putF hx hb hts hin ty0 hty hnm hown hK h.1.P (nw_D a n E) h.2 t (by rw [nw_get ht, he]) hcl k hk (hts _ hl) (fun _ q => q) hfin hin2 hdecl hd hn hfit hlen d (fun H1 locs1 hP hD hS => kk H1 locs1 ⟨?_, hS⟩)
  rw [nw_set ht] at hP
  exact nw_P.of hP
theorem nw_put (C : cl_C p l s m args meth c cc own nL ret dd a) (h : nw_H dd a n E s H locs) {t ci idx N : Nat} {CN : String} {T : u_T} {fs : List Value} (ht : t < n) (he : E t = .inr (ci, fs)) (hcl : cl_cls[ci]? = some (CN, T, N)) (hin : ∀ w ∈ u_ws CN T N, w ∈ cl_W) (ty0 : Nat → FieldType) (hty : ∀ k, k < N → parseFieldDescriptor (T k).2.2.1 = some (ty0 k)) (hnm : ∀ a, a < N → ∀ b, b < N → a ≠ b → (T a).2.1 ≠ (T b).2.1) (k : Nat) (hk : k < N) (hl : Cond.fieldLink own idx (T k).1 (T k).2.1 (T k).2.2.1 ∈ cl_W) (hfin : (T k).2.2.2 = false) {ty : FieldType} {v : Value} (hd : parseFieldDescriptor (T k).2.2.1 = some ty) (hn : narrow ty v = v) (hfit : fits ty v = true) (hlen : k < fs.length) {z : Nat} (hz : z = a + t) (d : decode cc pc = .ok (.putfield idx, 3)) (kk : ∀ (H1 : Heap) (locs1 : List Loc), nw_H dd a n (va_up E t (.inr (ci, fs.set k v))) s H1 locs1 → W p l e R s m args below meth c H1 locs1 cells slots Q (F0 m (pc + 3) ls rest)) : W p l e R s m args below meth c H locs cells slots Q (F0 m pc ls (v :: .ref z :: rest)) := by
  subst hz
  obtain ⟨hx, hb, hml, hown, hts, hlk, hr, hK, hE, hRr, hlt⟩ := C
  refine va_put hx hb hts hin ty0 hty hnm hown hK h.1.P (nw_D a n E) h.2 t (by rw [nw_get ht, he]) hcl k hk (hts _ hl) (fun _ q => q) hfin hd hn hfit hlen d (fun H1 locs1 hP hD hS => kk H1 locs1 ⟨?_, hS⟩)
  rw [nw_set ht] at hP
  exact nw_P.of hP
theorem nw_getf (C : cl_C p l s m args meth c cc own nL ret dd a) (h : nw_H dd a n E s H locs) {t ci idx N : Nat} {CN : String} {T : u_T} {fs : List Value} (ht : t < n) (he : E t = .inr (ci, fs)) (hcl : cl_cls[ci]? = some (CN, T, N)) (hin : ∀ w ∈ u_ws CN T N, w ∈ cl_W) (k : Nat) (hk : k < N) (hl : Cond.fieldLink own idx (T k).1 (T k).2.1 (T k).2.2.1 ∈ cl_W) {v : Value} (hv : fs[k]? = some v) {z : Nat} (hz : z = a + t) (d : decode cc pc = .ok (.getfield idx, 3)) (kk : W p l e R s m args below meth c H locs cells slots Q (F0 m (pc + 3) ls (v :: rest))) : W p l e R s m args below meth c H locs cells slots Q (F0 m pc ls (.ref z :: rest)) := by
  subst hz
  obtain ⟨hx, hb, hml, hown, hts, hlk, hr, hK, hE, hRr, hlt⟩ := C
  exact va_get hx hb hts hin hown hK h.1.P t (by rw [nw_get ht, he]) hcl k hk (hts _ hl) (fun _ q => q) hv d kk
theorem nw_astq (C : cl_C p l s m args meth c cc own nL ret dd a) (h : nw_H dd a n E s H locs) {t tv i0 ci N : Nat} {cA : ClassId} {r : vw_C} {f : Nat → Option Nat} {vs : List Value} (ht : t < n) (he : E t = .inl (cA, N, .inr (.inr (.inr (.inr f))))) (hi : (cl_tys dd)[i0]? = some (cA, .object r.1)) (htv : tv < n) (hv : E tv = .inr (ci, vs)) (hcl : cl_cls[ci]? = some r) {i : Int32} (hin : vp_in i N) {z zv : Nat} (hz : z = a + t) (hzv : zv = a + tv) (d : decode cc pc = .ok (.aastore, 1)) (kk : ∀ (H1 : Heap) (locs1 : List Loc), nw_H dd a n (va_up E t (.inl (cA, N, .inr (.inr (.inr (.inr (va_up f i.toNatClampNeg (some zv)))))))) s H1 locs1 → W p l e R s m args below meth c H1 locs1 cells slots Q (F0 m (pc + 1) ls rest)) : W p l e R s m args below meth c H locs cells slots Q (F0 m pc ls (.ref zv :: .int i :: .ref z :: rest)) := by
  subst hz
  subst hzv
  obtain ⟨hx, hb, hml, hown, hts, hlk, hr, hK, hE, hRr, hlt⟩ := C
  refine va_astq hx hb hK h.1.P (nw_D a n E) h.2 t i0 tv ci (by rw [nw_get ht, he]) hi (by rw [nw_get htv, hv]) hcl hin d (fun H1 locs1 hP hD hS => kk H1 locs1 ⟨?_, hS⟩)
  rw [nw_set ht] at hP
  exact nw_P.of hP
theorem nw_obj (C : cl_C p l s m args meth c cc own nL ret dd a) {idx : Nat} (w : Cond.methodLink own idx Lib.objectInit ∈ cl_W) (w1 : Cond.instanceMethod Lib.objectInit ∈ cl_W) (w2 : Cond.code Lib.objectInit ⟨#[0xb1]⟩ 1 none ∈ cl_W) (hsz : ls.size = nL) {z : Nat} (hR : 1 ≤ R.frames ∧ (rest.map fun v => v.category).sum + 12 ≤ R.locals) (d : decode cc pc = .ok (.invokespecial idx, 3)) (kk : W p l e R s m args below meth c H locs cells slots Q (F0 m (pc + 3) ls rest)) : W p l e R s m args below meth c H locs cells slots Q (F0 m pc ls (.ref z :: rest)) := by
  obtain ⟨hx, hb, hml, hown, hts, hlk, hr, hK, hE, hRr, hlt⟩ := C
  refine W.objInit hx hb hown (hts _ w) (hts _ w1) (hts _ w2) rfl (by rw [hml]; exact hsz) rfl d hR.1 (by show 2 * 0 + _ + 12 ≤ _; omega) ?_
  exact kk
/-- the state at a call of a constructor, as the callee sees it -/
theorem nw_in (C : cl_C p l s m args meth c cc own nL ret dd a) (hA : nw_AO s) (h : nw_H dd a (n + 1) E s H locs) (hz : H.size = a + (n + 1)) {U : State} (hU : U.heap = H) (hW : s.WarmedH U.vm) : nw_I dd (a + n) 1 (fun _ => E n) U := by
  obtain ⟨hx, hb, hml, hown, hts, hlk, hr, hK, hE, hRr, hlt⟩ := C
  refine ⟨by rw [hU, hz]; omega, ?_, va_K.moved hW.alike hK, ?_, hRr.warm hW, hA.moved hW.alike⟩
  · rw [hU]
    intro k hk
    rw [show k = 0 by omega]
    exact h.1 n (by omega)
  · rw [hU]
    exact nw_E_up (Nat.le_add_right a n) (cl_E.moved hW.alike (hE.kept (fun x h1 h2 => h.2.2.1 x h1 h2)))
theorem nw_bk {n1 : Nat} {E1 : Nat → va_E} {H1 : Heap} {locs1 : List Loc} (h : nw_H dd a (n + 1) E s H locs) (h1 : nw_P dd (a + n) n1 E1 H1) (hk : ∀ q : Nat, q < H.size → ¬ cl_A (a + n) q → H1[q]? = H[q]?) (hS : va_S (cl_A a) s.heap H1 locs1) : nw_H dd a (n + n1) (nw_app n E E1) s H1 locs1 := by
  refine ⟨fun k hk2 => ?_, hS⟩
  by_cases q : k < n
  · rw [show nw_app n E E1 k = E k by simp [nw_app, q]]
    exact (h.1 k (by omega)).kept (hk _ ((h.1 k (by omega)).lt) (by show ¬ (a + n ≤ a + k); omega))
  · rw [show nw_app n E E1 k = E1 (k - n) by simp [nw_app, q], show a + k = a + n + (k - n) by omega]
    exact h1 (k - n) (by omega)
variable {y : MethodName} {bytes : ByteArray} {maxL idx fr lo mc ms : Nat}
theorem nw_cI (C : cl_C p l s m args meth c cc own nL ret dd a) (hA : nw_AO s) (h : nw_H dd a (n + 1) E s H locs) (hc : s.heap.size + cells = a + (n + 1)) {e0 : va_E} {n1 : Nat} {E1 : Nat → va_E} (hM : nw_M l dd (a + n) y bytes maxL fr mc ms lo e0 n1 E1) (he : E n = e0) (hy : cl_cy y bytes maxL none 0) (hyn : y.name = "<init>") (w : Cond.methodLink own idx y ∈ cl_W) (w1 : Cond.instanceMethod y ∈ cl_W) (hsz : ls.size = nL) {z : Nat} (hz : z = a + n) (hR : (fr + 1 ≤ R.frames ∧ 8 + (maxL + 11) + lo ≤ R.locals) ∧ (rest.map fun v => v.category).sum ≤ 8 ∧ cells + mc ≤ R.cells ∧ slots + ms ≤ R.slots) (d : decode cc pc = .ok (.invokespecial idx, 3)) (kk : ∀ (H1 : Heap) (locs1 : List Loc), nw_H dd a (n + n1) (nw_app n E E1) s H1 locs1 → W p l e R s m args below meth c H1 locs1 (cells + mc) (slots + ms) Q (F0 m (pc + 3) ls rest)) : W p l e R s m args below meth c H locs cells slots Q (F0 m pc ls (.ref z :: rest)) := by
  subst hz
  subst he
  refine nw_sz h hc (Or.inl (by omega)) (fun hz => ?_)
  refine va_callv (va_runI (As := []) (rest := rest) (cl_fix C) hM ⟨cl_cb C hy w hR.1, hyn, C.2.2.2.2.1 _ w1⟩ ⟨nw_I.blind, fun U hU hW => ⟨rfl, nw_in C hA h hz hU hW⟩⟩ rfl rfl hsz rfl (lv_room hR.2.1) d ⟨hR.2.2.1, hR.2.2.2⟩) h.2 (fun q _ h => Nat.le_trans (Nat.le_add_right a n) h) (fun q h => Nat.le_trans (Nat.le_add_right a n) h) (fun u t' H1 locs1 e1 _ _ hB _ hk hS => ?_)
  have hB : nw_P dd (a + n) n1 E1 t'.heap := hB
  rw [e1] at hB
  exact kk H1 locs1 (nw_bk h hB hk hS)
theorem nw_cN (C : cl_C p l s m args meth c cc own nL ret dd a) (hA : nw_AO s) (h : nw_H dd a (n + 1) E s H locs) (hc : s.heap.size + cells = a + (n + 1)) {host : String} {e0 : va_E} {n1 : Nat} {E1 : Nat → va_E} (hM : nw_M l dd (a + n) y bytes maxL fr mc ms lo e0 n1 E1) (he : E n = e0) (hy : cl_cy y bytes maxL none 0) (hyn : y.name = "<init>") (w : Cond.methodLinkNest own idx y host ∈ cl_N) (w1 : Cond.instanceMethod y ∈ cl_W) (hsz : ls.size = nL) {z : Nat} (hz : z = a + n) (hR : (fr + 1 ≤ R.frames ∧ 8 + (maxL + 11) + lo ≤ R.locals) ∧ (rest.map fun v => v.category).sum ≤ 8 ∧ cells + mc ≤ R.cells ∧ slots + ms ≤ R.slots) (d : decode cc pc = .ok (.invokespecial idx, 3)) (kk : ∀ (H1 : Heap) (locs1 : List Loc), nw_H dd a (n + n1) (nw_app n E E1) s H1 locs1 → W p l e R s m args below meth c H1 locs1 (cells + mc) (slots + ms) Q (F0 m (pc + 3) ls rest)) : W p l e R s m args below meth c H locs cells slots Q (F0 m pc ls (.ref z :: rest)) := by
  subst hz
  subst he
  refine nw_sz h hc (Or.inl (by omega)) (fun hz => ?_)
  refine va_callv (va_runIN (As := []) (rest := rest) (cl_fix C) hM ⟨cl_cn C hy w hR.1, hyn, C.2.2.2.2.1 _ w1⟩ ⟨nw_I.blind, fun U hU hW => ⟨rfl, nw_in C hA h hz hU hW⟩⟩ rfl rfl hsz rfl (lv_room hR.2.1) d ⟨hR.2.2.1, hR.2.2.2⟩) h.2 (fun q _ h => Nat.le_trans (Nat.le_add_right a n) h) (fun q h => Nat.le_trans (Nat.le_add_right a n) h) (fun u t' H1 locs1 e1 _ _ hB _ hk hS => ?_)
  have hB : nw_P dd (a + n) n1 E1 t'.heap := hB
  rw [e1] at hB
  exact kk H1 locs1 (nw_bk h hB hk hS)
theorem nw_ret {E' : Nat → va_E} (C : cl_C p l s m args meth c cc own nL none dd a) (h : nw_H dd a n E s H locs) (hE : ∀ k, k < n → E k = E' k) (d : decode cc pc = .ok (.return_, 1)) : W p l e R s m args below meth c H locs cells slots (MQ below (va_Qv (fun (_ : Unit) => True) (fun _ t => nw_P dd a n E' t.heap) (cl_A a)) args s cells slots (cl_A a)) (F0 m pc ls []) := by
  have C' := C
  obtain ⟨hx, hb, hml, hown, hts, hlk, hr, hK, hE2, hRr, hlt⟩ := C
  exact W.vret hx hb hr (fun t ht hW => ⟨⟨(), rfl, trivial, by show nw_P dd a n E' t.heap; rw [ht]; exact h.1.to hE⟩, h.2.F ht⟩) h.2.2.2 d hlk
theorem nw_retG {B : State → Prop} (C : cl_C p l s m args meth c cc own nL none dd a) (hS : va_S (cl_A a) s.heap H locs) (hB : ∀ t : State, t.heap = H → B t) (d : decode cc pc = .ok (.return_, 1)) : W p l e R s m args below meth c H locs cells slots (MQ below (va_Qv (fun (_ : Unit) => True) (fun _ t => B t) (cl_A a)) args s cells slots (cl_A a)) (F0 m pc ls []) := by
  obtain ⟨hx, hb, hml, hown, hts, hlk, hr, hK, hE2, hRr, hlt⟩ := C
  exact W.vret hx hb hr (fun t ht hW => ⟨⟨(), rfl, trivial, hB t ht⟩, hS.F ht⟩) hS.2.2 d hlk
theorem nw_ofG {z n0 : Nat} {E0 : Nat → va_E} {B : State → Prop} (hlt : l.stackTraces = false) (hp : plainName y.cls = true) (hyn : y.name = "<init>") (hlen : 1 ≤ maxL) (body : ∀ (p : Program) (e : Env) (s : State) (m : MethodId) (below : List Frame) (meth : Method) (c : Code) (ls : Array Slot), cl_C p l s m [Value.ref z].toArray meth c bytes y.cls maxL none dd a → nw_AO s → meth.name = "<init>" → s.heap.size = a + n0 → nw_H dd a n0 E0 s s.heap [] → lv_has ls maxL [(0, .ref z)] → W p l e { frames := fr, cells := mc, slots := ms, locals := lo } s m [Value.ref z].toArray below meth c s.heap [] 0 0 (MQ below (va_Qv (fun (_ : Unit) => True) (fun _ t => B t) (cl_A a)) [Value.ref z].toArray s mc ms (cl_A a)) (F0 m 0 ls [])) : nw_G l dd a y bytes maxL fr mc ms lo z n0 E0 B := by
  refine Met.ofW (cc := bytes) (maxL := maxL) (ret := none) hp rfl ?_
  intro p e s m args below meth c s₁ B hml hv
  obtain ⟨rfl, hz, hP, hK, hE, hR, hA⟩ := hv
  have hts := atoms_spec (ws := Cond.code y bytes maxL none :: cl_W) B.pre
  rw [lg_entry_eq]
  exact body p e s m below meth c _ ⟨B.exec, B.bytes, hml, findClass_of_methodNamed B.named, fun w hw => hts w (List.mem_cons_of_mem _ hw), B.notSynchronized, B.returns, hK, hE, hR, hlt⟩ hA ((name_of_methodNamed B.named B.method).1.trans hyn) hz ⟨hP, va_S.rf⟩ (lv_entry [Value.ref z] hlen)
theorem nw_of {e0 : va_E} {n1 : Nat} {E1 : Nat → va_E} (hlt : l.stackTraces = false) (hp : plainName y.cls = true) (hyn : y.name = "<init>") (hlen : 1 ≤ maxL) (body : ∀ (p : Program) (e : Env) (s : State) (m : MethodId) (below : List Frame) (meth : Method) (c : Code) (ls : Array Slot), cl_C p l s m [Value.ref a].toArray meth c bytes y.cls maxL none dd a → nw_AO s → meth.name = "<init>" → s.heap.size = a + 1 → nw_H dd a 1 (fun _ => e0) s s.heap [] → lv_has ls maxL [(0, .ref a)] → W p l e { frames := fr, cells := mc, slots := ms, locals := lo } s m [Value.ref a].toArray below meth c s.heap [] 0 0 (MQ below (va_Qv (fun (_ : Unit) => True) (fun _ t => nw_P dd a n1 E1 t.heap) (cl_A a)) [Value.ref a].toArray s mc ms (cl_A a)) (F0 m 0 ls [])) : nw_M l dd a y bytes maxL fr mc ms lo e0 n1 E1 := nw_ofG hlt hp hyn hlen body
/-- a call of a constructor from its own base -/
theorem nw_cG (C : cl_C p l s m args meth c cc own nL ret dd a) (hA : nw_AO s) {n0 z : Nat} {E0 : Nat → va_E} {B : State → Prop} (h : nw_H dd a n0 E0 s H locs) (hc : s.heap.size + cells = a + n0) (h0 : 0 < n0) (hM : nw_G l dd a y bytes maxL fr mc ms lo z n0 E0 B) (hy : cl_cy y bytes maxL none 0) (hyn : y.name = "<init>") (w : Cond.methodLink own idx y ∈ cl_W) (w1 : Cond.instanceMethod y ∈ cl_W) (hsz : ls.size = nL) (hR : (fr + 1 ≤ R.frames ∧ 8 + (maxL + 11) + lo ≤ R.locals) ∧ (rest.map fun v => v.category).sum ≤ 8 ∧ cells + mc ≤ R.cells ∧ slots + ms ≤ R.slots) (d : decode cc pc = .ok (.invokespecial idx, 3)) (kk : ∀ (t : State) (H1 : Heap) (locs1 : List Loc), t.heap = H1 → B t → va_S (cl_A a) s.heap H1 locs1 → W p l e R s m args below meth c H1 locs1 (cells + mc) (slots + ms) Q (F0 m (pc + 3) ls rest)) : W p l e R s m args below meth c H locs cells slots Q (F0 m pc ls (.ref z :: rest)) := by
  refine nw_sz h hc (Or.inl h0) (fun hz => ?_)
  refine va_callv (va_runI (As := []) (rest := rest) (cl_fix C) hM ⟨cl_cb C hy w hR.1, hyn, C.2.2.2.2.1 _ w1⟩ ⟨nw_I.blind, fun U hU hW => ⟨rfl, by rw [hU]; exact hz, by rw [hU]; exact h.1, va_K.moved hW.alike C.2.2.2.2.2.2.2.1, by rw [hU]; exact cl_E.moved hW.alike (C.2.2.2.2.2.2.2.2.1.kept (fun x h1 h2 => h.2.2.1 x h1 h2)), C.2.2.2.2.2.2.2.2.2.1.warm hW, hA.moved hW.alike⟩⟩ rfl rfl hsz rfl (lv_room hR.2.1) d ⟨hR.2.2.1, hR.2.2.2⟩) h.2 (fun q _ h => h) (fun q h => h) (fun u t' H1 locs1 e1 _ _ hB _ hk hS => kk t' H1 locs1 e1 hB hS)
end NWR
