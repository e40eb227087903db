/-! the share of dry garments: a float -/
theorem ml_X5_233x : Cond.methodLink RX5 233 yX5_dryGarments ∈ cl_W := List.mem_filter.mpr ⟨by decide +kernel, rfl⟩
def f_X5_dryShare (M : cl_M) (t0 : Nat) : Option UInt32 := if M (t0 + 4) 3 = 0 then some FP.fconst0 else (f_X5_dryGarments M t0).bind (fun v => (f_J6_bitCount_0f7a4 M v).bind (fun w => some (FP.fdiv (FP.i2f w) (FP.i2f (M (t0 + 4) 3)))))
set_option maxHeartbeats 4000000 in
set_option maxRecDepth 100000 in
theorem k_X5_dryShare {p : Program} {l : Launch} {e : Env} {s : State} {m : MethodId} {args : Array Value} {below : List Frame} {meth : Method} {c : Code} {dd : cl_D} {b : Nat} (C : cl_C p l s m args meth c cX5_dryShare RX5 1 (some .float) dd b) : ∀ (M : cl_M) (t0 : Nat) (r : UInt32), f_X5_dryShare M t0 = some r → ∀ (H : Heap) (locs : List Loc) (ls : Array Slot), cl_sh dd t0 = 5 → cl_H dd b M s H locs → lv_has ls 1 [(0, .ref (b + t0))] → W p l e { frames := 1, cells := 0, slots := 0, locals := 22 } s m args below meth c H locs 0 0 (MQ below (va_Qf (fun x (_ : Unit) => x = r) (fun _ t => cl_J dd b M t) (cl_A b)) args s 0 0 (cl_A b)) (F0 m 0 ls []) := by
  have hx := C.1
  have hb := C.2.1
  have hlt := C.2.2.2.2.2.2.2.2.2.2
  intro M t0 r hf H locs ls ht0 hw hl
  unfold f_X5_dryShare at hf
  refine lv_aload_n hx hb dX5_dryShare_0 rfl (lv_at hl 0 rfl) ?_
  refine fg_X5_19 C hw ht0 dX5_dryShare_1 ?_
  refine fg_X5_71 C hw (sh_5_1 ht0).1 dX5_dryShare_4 ?_
  refine lv_if_ne (tgt := 12) hx hb dX5_dryShare_7 (by decide) (fun c1 => ?_) (fun c1 => ?_)
  · rw [if_neg c1] at hf
    refine lv_aload_n hx hb dX5_dryShare_12 rfl (lv_at hl 0 rfl) ?_
    obtain ⟨v1, e2, hf⟩ := cl_bind_e hf
    refine cr_Vi C hw (c_X5_dryGarments hlt ht0 e2) cy_X5_dryGarments vy_X5_dryGarments ml_X5_233x (cl_lt ht0 (by decide)) (cl_e5 ht0) rfl rfl (As := []) rfl hl.1 rfl ⟨⟨Nat.le_of_ble_eq_true rfl, Nat.le_of_ble_eq_true rfl⟩, Nat.le_of_ble_eq_true rfl, Nat.le_of_ble_eq_true rfl, Nat.le_of_ble_eq_true rfl⟩ dX5_dryShare_13 (fun H locs hw => ?_)
    obtain ⟨v2, e3, hf⟩ := cl_bind_e hf
    refine cr_Si C hw (c_J6_bitCount_0f7a4 hlt e3) cy_J6_bitCount_0f7a4 st_J6_bitCount_0f7a4 ml_X5_236 (As := [.int v1]) rfl hl.1 rfl ⟨⟨Nat.le_of_ble_eq_true rfl, Nat.le_of_ble_eq_true rfl⟩, Nat.le_of_ble_eq_true rfl, Nat.le_of_ble_eq_true rfl, Nat.le_of_ble_eq_true rfl⟩ dX5_dryShare_16 (fun H locs hw => ?_)
    refine lv_i2f hx hb dX5_dryShare_19 ?_
    refine lv_aload_n hx hb dX5_dryShare_20 rfl (lv_at hl 0 rfl) ?_
    refine fg_X5_19 C hw ht0 dX5_dryShare_21 ?_
    refine fg_X5_71 C hw (sh_5_1 ht0).1 dX5_dryShare_24 ?_
    refine lv_i2f hx hb dX5_dryShare_27 ?_
    refine lv_fdiv hx hb dX5_dryShare_28 (db_n32 (db_fdiv c1)) ?_
    obtain rfl := Option.some.inj hf
    exact cr_retf C hw dX5_dryShare_29
  · rw [if_pos c1] at hf
    refine lv_fconst0 hx hb dX5_dryShare_10 ?_
    obtain rfl := Option.some.inj hf
    exact cr_retf C hw dX5_dryShare_11
set_option maxRecDepth 100000 in
theorem c_X5_dryShare {l : Launch} {dd : cl_D} {b : Nat} (hlt : l.stackTraces = false) {M : cl_M} {t0 : Nat} {r : UInt32} (ht0 : cl_sh dd t0 = 5) (h : f_X5_dryShare M t0 = some r) : cl_Mf l dd b yX5_dryShare cX5_dryShare 1 (some .float) 1 22 [.ref (b + t0)] M r M :=
  cl_of hlt (by decide) (Nat.le_of_ble_eq_true rfl) (fun p e s m below meth c ls C hw hl => k_X5_dryShare C M t0 r h _ _ _ ht0 hw (lv_sub hl [0] rfl))
def f_X6_dryShare (M : cl_M) (t0 : Nat) : Option (UInt32 × cl_M) := cl_let (cl_ms M t0 4 0) (fun M1 => if M1 (t0 + 2) 7 = 0 then some (FP.fconst0, M1) else (f_X6_drySet M1 t0).bind (fun v => (f_X6_many M1 v).bind (fun w => some (FP.fdiv (FP.i2f w) (FP.i2f (M1 (t0 + 2) 7)), M1))))
set_option maxHeartbeats 4000000 in
set_option maxRecDepth 100000 in
theorem k_X6_dryShare {p : Program} {l : Launch} {e : Env} {s : State} {m : MethodId} {args : Array Value} {below : List Frame} {meth : Method} {c : Code} {dd : cl_D} {b : Nat} (C : cl_C p l s m args meth c cX6_dryShare RX6 1 (some .float) dd b) : ∀ (M : cl_M) (t0 : Nat) (r : UInt32) (M' : cl_M), f_X6_dryShare M t0 = some (r, M') → ∀ (H : Heap) (locs : List Loc) (ls : Array Slot), cl_sh dd t0 = 6 → cl_H dd b M s H locs → lv_has ls 1 [(0, .ref (b + t0))] → W p l e { frames := 2, cells := 0, slots := 0, locals := 44 } s m args below meth c H locs 0 0 (MQ below (va_Qf (fun x (_ : Unit) => x = r) (fun _ t => cl_J dd b M' t) (cl_A b)) args s 0 0 (cl_A b)) (F0 m 0 ls []) := by
  have hx := C.1
  have hb := C.2.1
  have hlt := C.2.2.2.2.2.2.2.2.2.2
  intro M t0 r M' hf H locs ls ht0 hw hl
  unfold f_X6_dryShare at hf
  refine lv_aload_n hx hb dX6_dryShare_0 rfl (lv_at hl 0 rfl) ?_
  refine lv_iconst (v := 0) hx hb dX6_dryShare_1 (by decide) ?_
  obtain ⟨M1, eM1, hf⟩ := cl_let_e hf
  refine fp_X6_60 C hw ht0 eM1 dX6_dryShare_2 (fun H locs hw => ?_)
  refine lv_aload_n hx hb dX6_dryShare_5 rfl (lv_at hl 0 rfl) ?_
  refine fg_X6_17 C hw ht0 dX6_dryShare_6 ?_
  refine lv_bipush (v := 7) hx hb dX6_dryShare_9 (by decide) ?_
  refine cr_iald C hw (sh_6_5 ht0).1 (sh_6_5 ht0).2 (by decide) (k := 7) rfl dX6_dryShare_11 ?_
  refine lv_if_ne (tgt := 19) hx hb dX6_dryShare_12 (by decide) (fun c1 => ?_) (fun c1 => ?_)
  · rw [if_neg c1] at hf
    refine lv_aload_n hx hb dX6_dryShare_19 rfl (lv_at hl 0 rfl) ?_
    obtain ⟨v1, e2, hf⟩ := cl_bind_e hf
    refine cr_Vi C hw (c_X6_drySet hlt ht0 e2) cy_X6_drySet vy_X6_drySet ml_X6_338 (cl_lt ht0 (by decide)) (cl_e6 ht0) rfl rfl (As := []) rfl hl.1 rfl ⟨⟨Nat.le_of_ble_eq_true rfl, Nat.le_of_ble_eq_true rfl⟩, Nat.le_of_ble_eq_true rfl, Nat.le_of_ble_eq_true rfl, Nat.le_of_ble_eq_true rfl⟩ dX6_dryShare_20 (fun H locs hw => ?_)
    obtain ⟨v2, e3, hf⟩ := cl_bind_e hf
    refine cr_Si C hw (c_X6_many hlt e3) cy_X6_many st_X6_many ml_X6_117 (As := [.int v1]) rfl hl.1 rfl ⟨⟨Nat.le_of_ble_eq_true rfl, Nat.le_of_ble_eq_true rfl⟩, Nat.le_of_ble_eq_true rfl, Nat.le_of_ble_eq_true rfl, Nat.le_of_ble_eq_true rfl⟩ dX6_dryShare_23 (fun H locs hw => ?_)
    refine lv_i2f hx hb dX6_dryShare_26 ?_
    refine lv_aload_n hx hb dX6_dryShare_27 rfl (lv_at hl 0 rfl) ?_
    refine fg_X6_17 C hw ht0 dX6_dryShare_28 ?_
    refine lv_bipush (v := 7) hx hb dX6_dryShare_31 (by decide) ?_
    refine cr_iald C hw (sh_6_5 ht0).1 (sh_6_5 ht0).2 (by decide) (k := 7) rfl dX6_dryShare_33 ?_
    refine lv_i2f hx hb dX6_dryShare_34 ?_
    refine lv_fdiv hx hb dX6_dryShare_35 (db_n32 (db_fdiv c1)) ?_
    obtain ⟨rfl, rfl⟩ := Prod.mk.inj (Option.some.inj hf)
    exact cr_retf C hw dX6_dryShare_36
  · rw [if_pos c1] at hf
    refine lv_fconst0 hx hb dX6_dryShare_15 ?_
    refine lv_goto (tgt := 36) hx hb dX6_dryShare_16 (by decide) ?_
    obtain ⟨rfl, rfl⟩ := Prod.mk.inj (Option.some.inj hf)
    exact cr_retf C hw dX6_dryShare_36
set_option maxRecDepth 100000 in
theorem c_X6_dryShare {l : Launch} {dd : cl_D} {b : Nat} (hlt : l.stackTraces = false) {M : cl_M} {t0 : Nat} {r : UInt32} {M' : cl_M} (ht0 : cl_sh dd t0 = 6) (h : f_X6_dryShare M t0 = some (r, M')) : cl_Mf l dd b yX6_dryShare cX6_dryShare 1 (some .float) 2 44 [.ref (b + t0)] M r M' :=
  cl_of hlt (by decide) (Nat.le_of_ble_eq_true rfl) (fun p e s m below meth c ls C hw hl => k_X6_dryShare C M t0 r M' h _ _ _ ht0 hw (lv_sub hl [0] rfl))
