/-! the two methods that answer by a division of numbers -/
theorem db_n64 {r : UInt64} (h : FP.Core.dIsNaN r = false) : vf_n64 r := by
  have hn : ¬ (FP.Core.dIsNaN r = true) := by rw [h]; decide
  rw [FP.Core.isNaN_bits] at hn
  show r &&& 0x7fffffffffffffff ≤ 0x7ff0000000000000
  rw [UInt64.le_iff_toNat_le, UInt64.toNat_and]
  have e : (0x7fffffffffffffff : UInt64).toNat = 2 ^ 63 - 1 := by decide
  have e2 : (0x7ff0000000000000 : UInt64).toNat = 9218868437227405312 := by decide
  rw [e, e2, Nat.and_two_pow_sub_one_eq_mod]
  omega
theorem db_n32 {r : UInt32} (h : FP.Core.fIsNaN r = false) : vf_n32 r := by
  have hn : ¬ (FP.Core.fIsNaN r = true) := by rw [h]; decide
  rw [FP.Core.isNaN_bits32] at hn
  show r &&& 0x7fffffff ≤ 0x7f800000
  rw [UInt32.le_iff_toNat_le, UInt32.toNat_and]
  have e : (0x7fffffff : UInt32).toNat = 2 ^ 31 - 1 := by decide
  have e2 : (0x7f800000 : UInt32).toNat = 2139095040 := by decide
  rw [e, e2, Nat.and_two_pow_sub_one_eq_mod]
  omega
theorem db_div {v n : Int32} (h : ¬ n = 0) : FP.Core.dIsNaN (FP.ddiv (FP.i2d v) (FP.i2d n)) = false := by
  rw [FP.ddiv_core, FP.i2d_core]
  exact FP.Core.ddiv_out (FP.Core.i2d_fin v).notNaN (FP.Core.i2d_fin n) (fun z => FP.Core.i2d_ne_zero h ((FP.Core.zero_bits2 _).mp z))
theorem db_fdiv {v n : Int32} (h : ¬ n = 0) : FP.Core.fIsNaN (FP.fdiv (FP.i2f v) (FP.i2f n)) = false :=
  FP.Core.fdiv_out (FP.Core.i2f_fin v).notNaN (FP.Core.i2f_fin n) (fun z => FP.Core.i2f_ne_zero h ((FP.Core.zero_bits232 _).mp z))
def cl_Md (l : Launch) (dd : cl_D) (b : Nat) (y : MethodName) (cc : ByteArray) (nL : Nat) (rt : Option FieldType) (fr lo : Nat) (av : List Value) (M : cl_M) (r : UInt64) (M' : cl_M) : Prop :=
  Met l y (Cond.code y cc nL rt :: cl_W) { frames := fr, cells := 0, slots := 0, locals := lo } (va_Pc av (cl_I dd b M)) (va_Qd (fun x (_ : Unit) => x = r) (fun _ t => cl_J dd b M' t) (cl_A b)) 0 0 (cl_A b)
def cl_Mf (l : Launch) (dd : cl_D) (b : Nat) (y : MethodName) (cc : ByteArray) (nL : Nat) (rt : Option FieldType) (fr lo : Nat) (av : List Value) (M : cl_M) (r : UInt32) (M' : cl_M) : Prop :=
  Met l y (Cond.code y cc nL rt :: cl_W) { frames := fr, cells := 0, slots := 0, locals := lo } (va_Pc av (cl_I dd b M)) (va_Qf (fun x (_ : Unit) => x = r) (fun _ t => cl_J dd b M' t) (cl_A b)) 0 0 (cl_A b)
section DBS
variable {p : Program} {l : Launch} {e : Env} {R : Room} {s : State} {m : MethodId} {args : Array Value} {below : List Frame} {meth : Method} {c : Code} {H : Heap} {locs : List Loc} {cells slots : Nat} {Q : State → Prop} {cc : ByteArray} {pc : Nat} {ls : Array Slot} {rest : List Value} {own : String} {nL : Nat} {ret : Option FieldType} {dd : cl_D} {b : Nat} {M M' : cl_M} {y : MethodName} {bytes : ByteArray} {maxL n idx fr lo : Nat} {rt : Option FieldType} {As st0 : List Value}
theorem cr_Vd (C : cl_C p l s m args meth c cc own nL ret dd b) (h : cl_H dd b M s H locs) {t ci : Nat} {q : vw_C} {fs : List Value} {r : UInt64} (hM : cl_Md l dd b y bytes maxL rt fr lo (.ref (b + t) :: As) M r M') (hy : cl_cy y bytes maxL rt n) (hv : cl_vy y) (w : Cond.methodLink own idx y ∈ cl_W) (ht : t < cl_K dd) (he : cl_ent dd b t (M t) = .inr (ci, fs)) (hc : cl_cls[ci]? = some q) (hq : q.1 = y.cls) (hn : As.length = n) (hsz : ls.size = nL) (hst : st0 = As.reverse ++ .ref (b + t) :: rest) (hR : (fr + 1 ≤ R.frames ∧ 8 + (maxL + 11) + lo ≤ R.locals) ∧ (rest.map fun v => v.category).sum ≤ 8 ∧ cells ≤ R.cells ∧ slots ≤ R.slots) (d : decode cc pc = .ok (.invokevirtual idx, 3)) (kk : ∀ (H1 : Heap) (locs1 : List Loc), cl_H dd b M' s H1 locs1 → W p l e R s m args below meth c H1 locs1 cells slots Q (F0 m (pc + 3) ls (.double r :: rest))) : W p l e R s m args below meth c H locs cells slots Q (F0 m pc ls st0) := by
  refine va_calld (va_runV (rest := rest) (cl_fix C) hM ⟨cl_cb C hy w hR.1, C.2.2.2.2.1 _ hv.1, C.2.2.2.2.1 _ hv.2⟩ (cl_preV C h ht he hc hq) rfl hn hsz hst (lv_room hR.2.1) d ⟨hR.2.2.1, hR.2.2.2⟩) h.2 (fun q _ h => h) (fun q h => h) (fun r' u t' H1 locs1 e1 _ e3 e4 _ _ hS => ?_)
  rw [e3]
  exact kk H1 locs1 (cl_bk e1 e4 hS)
theorem cr_Vf (C : cl_C p l s m args meth c cc own nL ret dd b) (h : cl_H dd b M s H locs) {t ci : Nat} {q : vw_C} {fs : List Value} {r : UInt32} (hM : cl_Mf l dd b y bytes maxL rt fr lo (.ref (b + t) :: As) M r M') (hy : cl_cy y bytes maxL rt n) (hv : cl_vy y) (w : Cond.methodLink own idx y ∈ cl_W) (ht : t < cl_K dd) (he : cl_ent dd b t (M t) = .inr (ci, fs)) (hc : cl_cls[ci]? = some q) (hq : q.1 = y.cls) (hn : As.length = n) (hsz : ls.size = nL) (hst : st0 = As.reverse ++ .ref (b + t) :: rest) (hR : (fr + 1 ≤ R.frames ∧ 8 + (maxL + 11) + lo ≤ R.locals) ∧ (rest.map fun v => v.category).sum ≤ 8 ∧ cells ≤ R.cells ∧ slots ≤ R.slots) (d : decode cc pc = .ok (.invokevirtual idx, 3)) (kk : ∀ (H1 : Heap) (locs1 : List Loc), cl_H dd b M' s H1 locs1 → W p l e R s m args below meth c H1 locs1 cells slots Q (F0 m (pc + 3) ls (.float r :: rest))) : W p l e R s m args below meth c H locs cells slots Q (F0 m pc ls st0) := by
  refine va_callf (va_runV (rest := rest) (cl_fix C) hM ⟨cl_cb C hy w hR.1, C.2.2.2.2.1 _ hv.1, C.2.2.2.2.1 _ hv.2⟩ (cl_preV C h ht he hc hq) rfl hn hsz hst (lv_room hR.2.1) d ⟨hR.2.2.1, hR.2.2.2⟩) h.2 (fun q _ h => h) (fun q h => h) (fun r' u t' H1 locs1 e1 _ e3 e4 _ _ hS => ?_)
  rw [e3]
  exact kk H1 locs1 (cl_bk e1 e4 hS)
theorem cr_retd (C : cl_C p l s m args meth c cc own nL (some .double) dd b) (h : cl_H dd b M s H locs) {r : UInt64} (d : decode cc pc = .ok (.dreturn, 1)) : W p l e R s m args below meth c H locs cells slots (MQ below (va_Qd (fun x (_ : Unit) => x = r) (fun _ t => cl_J dd b M t) (cl_A b)) args s cells slots (cl_A b)) (F0 m pc ls [.double r]) := by
  obtain ⟨hx, hb, hml, hown, hts, hlk, hr, hK, hE, hRr, hlt⟩ := C
  exact W.dret (v := r) hx hb hr (fun t ht hW => ⟨⟨r, (), rfl, rfl, h.J ht⟩, h.2.F ht⟩) h.2.2.2 d hlk
theorem cr_retf (C : cl_C p l s m args meth c cc own nL (some .float) dd b) (h : cl_H dd b M s H locs) {r : UInt32} (d : decode cc pc = .ok (.freturn, 1)) : W p l e R s m args below meth c H locs cells slots (MQ below (va_Qf (fun x (_ : Unit) => x = r) (fun _ t => cl_J dd b M t) (cl_A b)) args s cells slots (cl_A b)) (F0 m pc ls [.float r]) := by
  obtain ⟨hx, hb, hml, hown, hts, hlk, hr, hK, hE, hRr, hlt⟩ := C
  exact W.fret (v := r) hx hb hr (fun t ht hW => ⟨⟨r, (), rfl, rfl, h.J ht⟩, h.2.F ht⟩) h.2.2.2 d hlk
end DBS
def f_X5_meanWater (M : cl_M) (t0 : Nat) : Option UInt64 := if M (t0 + 4) 3 = 0 then some FP.dconst0 else (f_X5_waterInAll M t0).bind (fun v => some (FP.ddiv (FP.i2d v) (FP.i2d (M (t0 + 4) 3))))
set_option maxHeartbeats 4000000 in
set_option maxRecDepth 100000 in
theorem k_X5_meanWater {p : Program} {l : Launch} {e : Env} {s : State} {m : MethodId} {args : Array Value} {below : List Frame} {meth : Method} {c : Code} {dd : cl_D} {b : Nat} (C : cl_C p l s m args meth c cX5_meanWater RX5 1 (some .double) dd b) : ∀ (M : cl_M) (t0 : Nat) (r : UInt64), f_X5_meanWater M t0 = some r → ∀ (H : Heap) (locs : List Loc) (ls : Array Slot), cl_sh dd t0 = 5 → cl_H dd b M s H locs → lv_has ls 1 [(0, .ref (b + t0))] → W p l e { frames := 1, cells := 0, slots := 0, locals := 22 } s m args below meth c H locs 0 0 (MQ below (va_Qd (fun x (_ : Unit) => x = r) (fun _ t => cl_J dd b M t) (cl_A b)) args s 0 0 (cl_A b)) (F0 m 0 ls []) := by
  have hx := C.1
  have hb := C.2.1
  have hlt := C.2.2.2.2.2.2.2.2.2.2
  intro M t0 r hf H locs ls ht0 hw hl
  unfold f_X5_meanWater at hf
  refine lv_aload_n hx hb dX5_meanWater_0 rfl (lv_at hl 0 rfl) ?_
  refine fg_X5_19 C hw ht0 dX5_meanWater_1 ?_
  refine fg_X5_71 C hw (sh_5_1 ht0).1 dX5_meanWater_4 ?_
  refine lv_if_ne (tgt := 12) hx hb dX5_meanWater_7 (by decide) (fun c1 => ?_) (fun c1 => ?_)
  · rw [if_neg c1] at hf
    refine lv_aload_n hx hb dX5_meanWater_12 rfl (lv_at hl 0 rfl) ?_
    obtain ⟨v1, e2, hf⟩ := cl_bind_e hf
    refine cr_Vi C hw (c_X5_waterInAll hlt ht0 e2) cy_X5_waterInAll vy_X5_waterInAll ml_X5_224 (cl_lt ht0 (by decide)) (cl_e5 ht0) rfl rfl (As := []) rfl hl.1 rfl ⟨⟨Nat.le_of_ble_eq_true rfl, Nat.le_of_ble_eq_true rfl⟩, Nat.le_of_ble_eq_true rfl, Nat.le_of_ble_eq_true rfl, Nat.le_of_ble_eq_true rfl⟩ dX5_meanWater_13 (fun H locs hw => ?_)
    refine lv_i2d hx hb dX5_meanWater_16 ?_
    refine lv_aload_n hx hb dX5_meanWater_17 rfl (lv_at hl 0 rfl) ?_
    refine fg_X5_19 C hw ht0 dX5_meanWater_18 ?_
    refine fg_X5_71 C hw (sh_5_1 ht0).1 dX5_meanWater_21 ?_
    refine lv_i2d hx hb dX5_meanWater_24 ?_
    refine lv_ddiv hx hb dX5_meanWater_25 (db_n64 (db_div c1)) ?_
    obtain rfl := Option.some.inj hf
    exact cr_retd C hw dX5_meanWater_26
  · rw [if_pos c1] at hf
    refine lv_dconst0 hx hb dX5_meanWater_10 ?_
    obtain rfl := Option.some.inj hf
    exact cr_retd C hw dX5_meanWater_11
set_option maxRecDepth 100000 in
theorem c_X5_meanWater {l : Launch} {dd : cl_D} {b : Nat} (hlt : l.stackTraces = false) {M : cl_M} {t0 : Nat} {r : UInt64} (ht0 : cl_sh dd t0 = 5) (h : f_X5_meanWater M t0 = some r) : cl_Md l dd b yX5_meanWater cX5_meanWater 1 (some .double) 1 22 [.ref (b + t0)] M r M :=
  cl_of hlt (by decide) (Nat.le_of_ble_eq_true rfl) (fun p e s m below meth c ls C hw hl => k_X5_meanWater C M t0 r h _ _ _ ht0 hw (lv_sub hl [0] rfl))
def f_X6_meanWater (M : cl_M) (t0 : Nat) : Option (UInt64 × cl_M) := cl_let (cl_ms M t0 4 0) (fun M1 => if M1 (t0 + 2) 7 = 0 then some (FP.dconst0, M1) else (f_X6_allWater M1 t0).bind (fun v => some (FP.ddiv (FP.i2d v) (FP.i2d (M1 (t0 + 2) 7)), M1)))
set_option maxHeartbeats 4000000 in
set_option maxRecDepth 100000 in
theorem k_X6_meanWater {p : Program} {l : Launch} {e : Env} {s : State} {m : MethodId} {args : Array Value} {below : List Frame} {meth : Method} {c : Code} {dd : cl_D} {b : Nat} (C : cl_C p l s m args meth c cX6_meanWater RX6 1 (some .double) dd b) : ∀ (M : cl_M) (t0 : Nat) (r : UInt64) (M' : cl_M), f_X6_meanWater M t0 = some (r, M') → ∀ (H : Heap) (locs : List Loc) (ls : Array Slot), cl_sh dd t0 = 6 → cl_H dd b M s H locs → lv_has ls 1 [(0, .ref (b + t0))] → W p l e { frames := 2, cells := 0, slots := 0, locals := 44 } s m args below meth c H locs 0 0 (MQ below (va_Qd (fun x (_ : Unit) => x = r) (fun _ t => cl_J dd b M' t) (cl_A b)) args s 0 0 (cl_A b)) (F0 m 0 ls []) := by
  have hx := C.1
  have hb := C.2.1
  have hlt := C.2.2.2.2.2.2.2.2.2.2
  intro M t0 r M' hf H locs ls ht0 hw hl
  unfold f_X6_meanWater at hf
  refine lv_aload_n hx hb dX6_meanWater_0 rfl (lv_at hl 0 rfl) ?_
  refine lv_iconst (v := 0) hx hb dX6_meanWater_1 (by decide) ?_
  obtain ⟨M1, eM1, hf⟩ := cl_let_e hf
  refine fp_X6_60 C hw ht0 eM1 dX6_meanWater_2 (fun H locs hw => ?_)
  refine lv_aload_n hx hb dX6_meanWater_5 rfl (lv_at hl 0 rfl) ?_
  refine fg_X6_17 C hw ht0 dX6_meanWater_6 ?_
  refine lv_bipush (v := 7) hx hb dX6_meanWater_9 (by decide) ?_
  refine cr_iald C hw (sh_6_5 ht0).1 (sh_6_5 ht0).2 (by decide) (k := 7) rfl dX6_meanWater_11 ?_
  refine lv_if_ne (tgt := 19) hx hb dX6_meanWater_12 (by decide) (fun c1 => ?_) (fun c1 => ?_)
  · rw [if_neg c1] at hf
    refine lv_aload_n hx hb dX6_meanWater_19 rfl (lv_at hl 0 rfl) ?_
    obtain ⟨v1, e2, hf⟩ := cl_bind_e hf
    refine cr_Vi C hw (c_X6_allWater hlt ht0 e2) cy_X6_allWater vy_X6_allWater ml_X6_345 (cl_lt ht0 (by decide)) (cl_e6 ht0) rfl rfl (As := []) rfl hl.1 rfl ⟨⟨Nat.le_of_ble_eq_true rfl, Nat.le_of_ble_eq_true rfl⟩, Nat.le_of_ble_eq_true rfl, Nat.le_of_ble_eq_true rfl, Nat.le_of_ble_eq_true rfl⟩ dX6_meanWater_20 (fun H locs hw => ?_)
    refine lv_i2d hx hb dX6_meanWater_23 ?_
    refine lv_aload_n hx hb dX6_meanWater_24 rfl (lv_at hl 0 rfl) ?_
    refine fg_X6_17 C hw ht0 dX6_meanWater_25 ?_
    refine lv_bipush (v := 7) hx hb dX6_meanWater_28 (by decide) ?_
    refine cr_iald C hw (sh_6_5 ht0).1 (sh_6_5 ht0).2 (by decide) (k := 7) rfl dX6_meanWater_30 ?_
    refine lv_i2d hx hb dX6_meanWater_31 ?_
    refine lv_ddiv hx hb dX6_meanWater_32 (db_n64 (db_div c1)) ?_
    obtain ⟨rfl, rfl⟩ := Prod.mk.inj (Option.some.inj hf)
    exact cr_retd C hw dX6_meanWater_33
  · rw [if_pos c1] at hf
    refine lv_dconst0 hx hb dX6_meanWater_15 ?_
    refine lv_goto (tgt := 33) hx hb dX6_meanWater_16 (by decide) ?_
    obtain ⟨rfl, rfl⟩ := Prod.mk.inj (Option.some.inj hf)
    exact cr_retd C hw dX6_meanWater_33
set_option maxRecDepth 100000 in
theorem c_X6_meanWater {l : Launch} {dd : cl_D} {b : Nat} (hlt : l.stackTraces = false) {M : cl_M} {t0 : Nat} {r : UInt64} {M' : cl_M} (ht0 : cl_sh dd t0 = 6) (h : f_X6_meanWater M t0 = some (r, M')) : cl_Md l dd b yX6_meanWater cX6_meanWater 1 (some .double) 2 44 [.ref (b + t0)] M r M' :=
  cl_of hlt (by decide) (Nat.le_of_ble_eq_true rfl) (fun p e s m below meth c ls C hw hl => k_X6_meanWater C M t0 r M' h _ _ _ ht0 hw (lv_sub hl [0] rfl))
