/-! rows of the law: the long, the helpers that catch -/
/-- the exceptions that the law catches: which is not which -/
def lh_NC (U : State) : Prop := ∀ i j : Nat, 1 ≤ i → i ≤ 4 → 1 ≤ j → j ≤ 4 → i ≠ j → va_Nc (cl_exn i) (cl_exn j) U
theorem lh_NC.moved {u U : State} (hvm : u.vm.Alike U.vm) (h : lh_NC u) : lh_NC U := fun i j a b c d e => va_Nc.moved hvm (h i j a b c d e)
def lh_I (dd : cl_D) (b : Nat) (M : cl_M) (U : State) : Prop := cl_I dd b M U ∧ lh_NC U
theorem lh_I.blind {dd : cl_D} {b : Nat} {M : cl_M} {av : List Value} : FrameBlind (va_Pc av (lh_I dd b M)) := fun v U g mk q => by
  obtain ⟨e, ⟨hP, hK, hE, hR⟩, hN⟩ := q
  exact ⟨e, ⟨hP, va_K.moved (u := U) (U := U.calling g mk v) (Vm.Alike.refl U.vm) hK, cl_E.moved (u := U) (U := U.calling g mk v) (Vm.Alike.refl U.vm) hE, ⟨fun i q hi => vk_R.same (u := U) (U := U.calling g mk v) rfl (hR.1 i q hi), fun w hw => va_Nw.same (u := U) (U := U.calling g mk v) (cl_N_on (List.mem_filter.mp hw).2) rfl (hR.2 w hw)⟩⟩, lh_NC.moved (u := U) (U := U.calling g mk v) (Vm.Alike.refl U.vm) hN⟩
/-- a helper of the law: it tells what was thrown, or lays the answer down -/
def lh_Met (l : Launch) (dd : cl_D) (b : Nat) (y : MethodName) (cc : ByteArray) (nL : Nat) (hh : List (Nat × Nat × Nat × Nat)) (fr lo mc : Nat) (av : List Value) (M : cl_M) (r : Int32) (M' : cl_M) : Prop :=
  Met l y (Cond.codeWith y cc nL (some .int) hh :: cl_W) { frames := fr, cells := mc, slots := 6 * mc, locals := lo } (va_Pc av (lh_I dd b M)) (va_Qi (fun x (_ : Unit) => x = r) (fun _ t => cl_J dd b M' t) (cl_A b)) mc (6 * mc) (cl_A b)
def lh_c (cs : List (Nat × Nat)) (k : Nat) : Nat := match cs with
  | [] => 0
  | (k', c) :: r => if k = k' then c else lh_c r k
def lh_r (cs : List (Nat × Nat)) (o : Except (Nat × cl_M) (Int32 × cl_M)) : Int32 := match o with
  | .ok _ => 0
  | .error q => nI (lh_c cs q.1)
def lh_M (o : Except (Nat × cl_M) (Int32 × cl_M)) : cl_M := match o with
  | .ok q => cl_ms q.2 247 0 q.1
  | .error q => q.2
def lh_in (cs : List (Nat × Nat)) (o : Except (Nat × cl_M) (Int32 × cl_M)) : Prop := ∀ q, o = .error q → ∃ c, (q.1, c) ∈ cs
/-- a method that both answer alike, through its helper -/
theorem lh_ok {B : Nat} {cs : List (Nat × Nat)} {x : Option (Except (Nat × cl_M) (Int32 × cl_M))} {y : cl_M → Option (Int32 × cl_M)} (hc : ∀ q ∈ cs, lh_c cs q.1 = q.2 ∧ 0 < q.2 ∧ q.2 < 100) (h : cx_ok B cs x y) :
    ∃ o w M2, x = some o ∧ lh_in cs o ∧ y (lh_M o) = some (w, M2) ∧ M2 237 4 = lh_r cs o ∧ cx_R B M2 ∧ (lh_r cs o = 0 → M2 247 0 = w) := by
  rcases h with ⟨v, M1, e, hy⟩ | ⟨k, c, M1, w, hm, e, hy⟩
  · obtain ⟨M2, h1, h2, h3, h4⟩ := hy (cl_ms M1 247 0 v) (fun q hq => cl_row_n hq)
    refine ⟨.ok (v, M1), v, M2, e, fun q hq => (by cases hq), h1, h2, h4, fun _ => ?_⟩
    rw [h3, cl_ms, cl_row_s, pk_us]
  · obtain ⟨M2, h1, h2, h3, h4⟩ := hy M1 (fun q hq => rfl)
    obtain ⟨c1, c2, c3⟩ := hc _ hm
    have c1 : lh_c cs k = c := c1
    have c2 : 0 < c := c2
    have c3 : c < 100 := c3
    refine ⟨.error (k, M1), w, M2, e, fun q hq => (by cases hq; exact ⟨c, hm⟩), h1, by rw [h2, lh_r, c1], h4, fun z => ?_⟩
    have z : nI (lh_c cs k) = 0 := z
    rw [c1] at z
    exact absurd ((nI_eq (a := c) (b := 0) (by omega) (by omega)).mp z) (by omega)
section LWR
variable {p : Program} {l : Launch} {e : Env} {R : Room} {s : State} {m : MethodId} {args : Array Value} {below : List Frame} {meth : Method} {c : Code} {H : Heap} {locs : List Loc} {cells slots : Nat} {Q : State → Prop} {cc : ByteArray} {pc : Nat} {ls : Array Slot} {rest : List Value} {own : String} {nL : Nat} {ret : Option FieldType} {dd : cl_D} {b : Nat} {M : cl_M}
theorem cl_s247 (hd : cl_K dd = 248) : cl_sh dd 247 = 12 := by rw [cl_sh, if_pos (by omega)]; rfl
theorem cl_s237 (hd : cl_K dd = 248) : cl_sh dd 237 = 6 := by rw [cl_sh, if_pos (by omega)]; rfl
theorem cl_s00 (hd : cl_K dd = 248) : cl_sh dd 0 = 5 := by rw [cl_sh, if_pos (by omega)]; rfl
theorem cr_last (C : cl_C p l s m args meth c cc own nL ret dd b) (h : cl_H dd b M s H locs) (hd : cl_K dd = 248) {x : Int32} {v : Int64} (hv : v = x.toInt64) {z : Nat} (hz : z = b + 247) (d : decode cc pc = .ok (.lastore, 1)) (kk : ∀ (H1 : Heap) (locs1 : List Loc), cl_H dd b (cl_ms M 247 0 x) s H1 locs1 → W p l e R s m args below meth c H1 locs1 cells slots Q (F0 m (pc + 1) ls rest)) : W p l e R s m args below meth c H locs cells slots Q (F0 m pc ls (.long v :: .int 0 :: .ref z :: rest)) := by
  subst hv
  subst hz
  obtain ⟨hx, hb, hml, hown, hts, hlk, hr, hK, hE, hRr, hlt⟩ := C
  have ht : 247 < cl_K dd := by omega
  refine va_last hx hb hK h.1 (cl_w_D dd b M) h.2 247 4 (by rw [cl_w_get dd b M ht, cl_e12 (cl_s247 hd)]) rfl (cl_inb_in (show cl_inb 0 1 = true from rfl)) d (fun H1 locs1 hP hD hS => kk H1 locs1 ⟨?_, hS⟩)
  have e : vp_updL (fun j => (M 247 j).toInt64) (0 : Int32).toNatClampNeg x.toInt64 = fun j => (upd (M 247) 0 x j).toInt64 := by
    funext j
    show (if j = 0 then _ else _) = Int32.toInt64 (if j = 0 then _ else _)
    by_cases q : j = 0
    · rw [if_pos q, if_pos q]
    · rw [if_neg q, if_neg q]
  rw [e, ← cl_e12 (b := b) (cl_s247 hd), cl_w_set dd b M ht] at hP
  exact hP
theorem cr_lald (C : cl_C p l s m args meth c cc own nL ret dd b) (h : cl_H dd b M s H locs) (hd : cl_K dd = 248) {z : Nat} (hz : z = b + 247) (d : decode cc pc = .ok (.laload, 1)) (kk : W p l e R s m args below meth c H locs cells slots Q (F0 m (pc + 1) ls (.long ((M 247 0).toInt64) :: rest))) : W p l e R s m args below meth c H locs cells slots Q (F0 m pc ls (.int 0 :: .ref z :: rest)) := by
  subst hz
  obtain ⟨hx, hb, hml, hown, hts, hlk, hr, hK, hE, hRr, hlt⟩ := C
  exact va_lald (f := fun j => (M 247 j).toInt64) hx hb hK h.1 247 4 (by rw [cl_w_get dd b M (by omega), cl_e12 (cl_s247 hd)]) rfl (cl_inb_in (show cl_inb 0 1 = true from rfl)) d kk
variable {y : MethodName} {bytes : ByteArray} {maxL n idx fr lo mc : Nat} {rt : Option FieldType} {As st0 : List Value} {M' : cl_M} {hh : List (Nat × Nat × Nat × Nat)}
theorem lh_of {av : List Value} {r : Int32} (hlt : l.stackTraces = false) (hp : plainName y.cls = true) (hlen : (lg_sl av).length ≤ maxL) (body : ∀ (p : Program) (e : Env) (s : State) (m : MethodId) (below : List Frame) (meth : Method) (c : Code) (ls : Array Slot), cl_C p l s m av.toArray meth c bytes y.cls maxL (some .int) dd b → lh_NC s → c.exceptionTable.toList = tableOf hh → cl_H dd b M s s.heap [] → lv_has ls maxL (lv_args 0 av) → W p l e { frames := fr, cells := mc, slots := 6 * mc, locals := lo } s m av.toArray below meth c s.heap [] 0 0 (MQ below (va_Qi (fun x (_ : Unit) => x = r) (fun _ t => cl_J dd b M' t) (cl_A b)) av.toArray s mc (6 * mc) (cl_A b)) (F0 m 0 ls [])) : lh_Met l dd b y bytes maxL hh fr lo mc av M r M' := by
  refine va_MetW (cc := bytes) (maxL := maxL) (ret := some .int) (hh := hh) hp rfl ?_
  intro p e s m args below meth c s₁ B hml hv
  obtain ⟨rfl, ⟨hP, hK, hE, hR⟩, hN⟩ := hv
  have hts := atoms_spec (ws := Cond.codeWith y bytes maxL (some .int) hh :: cl_W) B.pre
  rw [lg_entry_eq]
  exact body p e s m below meth c _ ⟨B.exec, B.bytes, hml, findClass_of_methodNamed B.named, fun w hw => hts w (List.mem_cons_of_mem _ hw), B.notSynchronized, B.returns, hK, hE, hR, hlt⟩ hN (vx_table (x := y) B (hts _ List.mem_cons_self)) ⟨hP, va_S.rf⟩ (lv_entry av hlen)
/-- the call of the class's method inside a helper -/
theorem lh_V (C : cl_C p l s m args meth c cc own nL ret dd b) (h : cl_H dd b M s H locs) (hd : cl_K dd = 248) {o1 : Except (Nat × cl_M) (Int32 × cl_M)} (hM : cl_Xi l dd b y bytes maxL rt fr lo mc (.ref (b + 0) :: As) M o1) (hy : cl_cy y bytes maxL rt n) (hv : cl_vy y) (w : Cond.methodLink own idx y ∈ cl_W) (hq : y.cls = RX5) (hn : As.length = n) (hsz : ls.size = nL) (hst : st0 = As.reverse ++ .ref (b + 0) :: rest) (hR : (fr + 1 ≤ R.frames ∧ 8 + (maxL + 11) + lo ≤ R.locals) ∧ (rest.map fun v => v.category).sum ≤ 8 ∧ cells + mc ≤ R.cells ∧ slots + 6 * mc ≤ R.slots) (d : decode cc pc = .ok (.invokevirtual idx, 3))
    (kx : ∀ (q : Nat × cl_M), o1 = .error q → ∀ (ce : Cell) (q9 : Addr) (H1 : Heap) (locs1 : List Loc), cl_H dd b q.2 s H1 locs1 → H1[q9]? = some ce → ce.vm = .none → s.vm.findClass (cl_exn q.1) = some ce.cls → vx_W p l e R s m args below meth c H1 locs1 (cells + mc) (slots + 6 * mc) Q (F0 m pc ls rest) q9)
    (kk : ∀ (r : Int32) (M1 : cl_M), o1 = .ok (r, M1) → ∀ (H1 : Heap) (locs1 : List Loc), cl_H dd b M1 s H1 locs1 → W p l e R s m args below meth c H1 locs1 (cells + mc) (slots + 6 * mc) Q (F0 m (pc + 3) ls (.int r :: rest))) : W p l e R s m args below meth c H locs cells slots Q (F0 m pc ls st0) := by
  refine vx_calli (vx_runV (rest := rest) (cl_fix C) hM ⟨cl_cb C hy w hR.1, C.2.2.2.2.1 _ hv.1, C.2.2.2.2.1 _ hv.2⟩ (cl_preV C h (cl_lt (cl_s00 hd) (by decide)) (cl_e5 (cl_s00 hd)) rfl hq.symm) rfl hn hsz hst (lv_room hR.2.1) d ⟨hR.2.2.1, hR.2.2.2⟩) h.2 (fun q _ h => h) (fun q h => h) (fun q _ h => h) (fun E ce q9 u t' H1 locs1 e1 _ e3 e4 _ _ hS h9 hv9 hcl => ?_) (fun r' u t' H1 locs1 e1 _ e3 e4 _ _ hS => kk r' u e3 H1 locs1 (cl_bk e1 e4 hS))
  rw [e4.1] at hcl
  exact kx u e3 ce q9 H1 locs1 (cl_bk e1 e4.2 hS) h9 hv9 hcl
/-- a call of a helper -/
theorem lh_call (C : cl_C p l s m args meth c cc own nL ret dd b) (hN : lh_NC s) (h : cl_H dd b M s H locs) {r : Int32} (hM : lh_Met l dd b y bytes maxL hh fr lo mc As M r M') (w : Cond.methodLink own idx y ∈ cl_W) (w1 : Cond.static y ∈ cl_W) (w2 : Cond.initialized y.cls ∈ cl_W) (w3 : Cond.codeWith y bytes maxL (some .int) hh ∈ cl_W) (hy : y.cls ≠ "java/lang/invoke/MethodHandle" ∧ y.cls ≠ "java/lang/invoke/VarHandle" ∧ (parseMethodDescriptor y.desc).map (fun d => d.parameters.length) = some n) (hn : As.length = n) (hsz : ls.size = nL) (hst : st0 = As.reverse ++ rest) (hR : (fr + 1 ≤ R.frames ∧ 8 + (maxL + 11) + lo ≤ R.locals) ∧ (rest.map fun v => v.category).sum ≤ 8 ∧ cells + mc ≤ R.cells ∧ slots + 6 * mc ≤ R.slots) (d : decode cc pc = .ok (.invokestatic idx, 3)) (kk : ∀ (H1 : Heap) (locs1 : List Loc), cl_H dd b M' s H1 locs1 → W p l e R s m args below meth c H1 locs1 (cells + mc) (slots + 6 * mc) Q (F0 m (pc + 3) ls (.int r :: rest))) : W p l e R s m args below meth c H locs cells slots Q (F0 m pc ls st0) := by
  have hG : GoodIn cl_W (va_wsS own idx y (Cond.codeWith y bytes maxL (some .int) hh :: cl_W)) := fun z hz => by
    have hz : z ∈ ([.methodLink own idx y, .static y, .initialized y.cls] : List Cond) ++ (Cond.codeWith y bytes maxL (some .int) hh :: cl_W) := hz
    have h1 : z ∈ cl_W := by
      rcases List.mem_append.mp hz with h | h
      · simp only [List.mem_cons, List.not_mem_nil, or_false] at h
        rcases h with rfl | rfl | rfl
        · exact w
        · exact w1
        · exact w2
      · rcases List.mem_cons.mp h with rfl | h
        · exact w3
        · exact h
    exact ⟨h1, good_of_word (List.mem_filter.mp h1).2⟩
  refine va_calli (vx_runSW (rest := rest) (cl_fix C) hM (vx_cwSW n C.2.2.2.2.1 hG rfl rfl rfl hy hR.1) ⟨lh_I.blind, fun U hU hW => ⟨rfl, cl_in C h hU hW, hN.moved hW.alike⟩⟩ rfl hn hsz hst (lv_room hR.2.1) d ⟨hR.2.2.1, hR.2.2.2⟩) h.2 (fun q _ h => h) (fun q h => h) (fun r' u t' H1 locs1 e1 _ e3 e4 _ _ hS => ?_)
  rw [e3]
  exact kk H1 locs1 (cl_bk e1 e4 hS)
end LWR
