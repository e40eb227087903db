def f_X5_feed (M : cl_M) (t0 : Nat) (a1 : Int32) (a2 : Int32) (a3 : Int32) (a4 : Int32) (a5 : Int32) : Option (Int32 × cl_M) := cl_b2 (f_X3_append M (t0 + 1) a1 a2 a3 a4 a5) (fun v1 M2 => some (v1, M2))
set_option maxHeartbeats 4000000 in
set_option maxRecDepth 100000 in
theorem k_X5_feed {p : Program} {l : Launch} {e : Env} {s : State} {m : MethodId} {args : Array Value} {below : List Frame} {meth : Method} {c : Code} {dd : cl_D} {b : Nat} (C : cl_C p l s m args meth c cX5_feed RX5 6 (some .int) dd b) : ∀ (M : cl_M) (t0 : Nat) (a1 : Int32) (a2 : Int32) (a3 : Int32) (a4 : Int32) (a5 : Int32) (r : Int32) (M' : cl_M), f_X5_feed M t0 a1 a2 a3 a4 a5 = some (r, M') → ∀ (H : Heap) (locs : List Loc) (ls : Array Slot), cl_sh dd t0 = 5 → cl_H dd b M s H locs → lv_has ls 6 [(0, .ref (b + t0)), (1, .int a1), (2, .int a2), (3, .int a3), (4, .int a4), (5, .int a5)] → W p l e { frames := 3, cells := 0, slots := 0, locals := 69 } s m args below meth c H locs 0 0 (cl_Zi below args s dd b r M') (F0 m 0 ls []) := by
  have hx := C.1
  have hb := C.2.1
  have hlt := C.2.2.2.2.2.2.2.2.2.2
  have hRr := C.2.2.2.2.2.2.2.2.2.1
  intro M t0 a1 a2 a3 a4 a5 r M' hf H locs ls ht0 hw hl
  unfold f_X5_feed at hf
  refine lv_aload_n hx hb dX5_feed_0 rfl (lv_at hl 0 rfl) ?_
  refine fg_X5_10 C hw ht0 dX5_feed_1 ?_
  refine lv_iload_n hx hb dX5_feed_4 rfl (lv_at hl 1 rfl) ?_
  refine lv_iload_n hx hb dX5_feed_5 rfl (lv_at hl 2 rfl) ?_
  refine lv_iload_n hx hb dX5_feed_6 rfl (lv_at hl 3 rfl) ?_
  refine lv_iload hx hb dX5_feed_7 (lv_at hl 4 rfl) ?_
  refine lv_iload hx hb dX5_feed_9 (lv_at hl 5 rfl) ?_
  obtain ⟨v1, M2, e3, hf⟩ := cl_b2_e hf
  refine cr_Vi C hw (c_X3_append hlt (sh_5_0 ht0).1 e3) cy_X3_append vy_X3_append ml_X5_62 (cl_lt (sh_5_0 ht0).1 (by decide)) (cl_e3 (sh_5_0 ht0).1) rfl rfl (As := [.int a1, .int a2, .int a3, .int a4, .int a5]) rfl hl.1 rfl ⟨⟨Nat.le_of_ble_eq_true rfl, Nat.le_of_ble_eq_true rfl⟩, Nat.le_of_ble_eq_true rfl, Nat.le_of_ble_eq_true rfl, Nat.le_of_ble_eq_true rfl⟩ dX5_feed_11 (fun H locs hw => ?_)
  obtain ⟨rfl, rfl⟩ := cl_pair hf
  exact cr_reti C hw dX5_feed_14
set_option maxRecDepth 100000 in
theorem c_X5_feed {l : Launch} {dd : cl_D} {b : Nat} (hlt : l.stackTraces = false) {M : cl_M} {t0 : Nat} {a1 : Int32} {a2 : Int32} {a3 : Int32} {a4 : Int32} {a5 : Int32}  {r : Int32} {M' : cl_M} (ht0 : cl_sh dd t0 = 5) (h : f_X5_feed M t0 a1 a2 a3 a4 a5 = some (r, M')) : cl_Mi l dd b yX5_feed cX5_feed 6 (some .int) 3 69 [.ref (b + t0), .int a1, .int a2, .int a3, .int a4, .int a5] M r M' :=
  cl_of hlt (by decide) (Nat.le_of_ble_eq_true rfl) (fun p e s m below meth c ls C hw hl => k_X5_feed C M t0 a1 a2 a3 a4 a5 r M' h _ _ _ ht0 hw (lv_sub hl [0, 1, 2, 3, 4, 5] rfl))
theorem cy_X5_feed : cl_cy yX5_feed cX5_feed 6 (some .int) 5 := ⟨in_ClothesLine, cd_X5_feed, by decide +kernel, by decide +kernel, by decide +kernel⟩
theorem vy_X5_feed : cl_vy yX5_feed := ⟨im_X5_feed, se_X5_feed⟩
def f_X5_loadSetup_68 : Nat → cl_M → Nat → Int32 → Option (Int32 × cl_M)
  | 0, _, _, _ => none
  | k + 1, M, t0, a2 => if 2 ≤ a2 then some (M (t0 + 4) 3, M) else if cl_inb a2 2 = true then cl_let (cl_ms M (t0 + 197) (a2).toNatClampNeg (vp_nar .boolean 0)) (fun M14 => cl_let (a2 + 1) (fun v15 => f_X5_loadSetup_68 k M14 t0 v15)) else none
set_option maxHeartbeats 4000000 in
set_option maxRecDepth 100000 in
theorem k_X5_loadSetup_68 {p : Program} {l : Launch} {e : Env} {s : State} {m : MethodId} {args : Array Value} {below : List Frame} {meth : Method} {c : Code} {dd : cl_D} {b : Nat} (C : cl_C p l s m args meth c cX5_loadSetup RX5 3 (some .int) dd b) : ∀ (k : Nat), ∀ (M : cl_M) (t0 : Nat) (a2 : Int32) (r : Int32) (M' : cl_M), f_X5_loadSetup_68 k M t0 a2 = some (r, M') → ∀ (H : Heap) (locs : List Loc) (ls : Array Slot), cl_sh dd t0 = 5 → cl_H dd b M s H locs → lv_has ls 3 [(0, .ref (b + t0)), (2, .int a2)] → W p l e { frames := 8, cells := 0, slots := 0, locals := 171 } s m args below meth c H locs 0 0 (cl_Zi below args s dd b r M') (F0 m 68 ls []) := by
  have hx := C.1
  have hb := C.2.1
  have hlt := C.2.2.2.2.2.2.2.2.2.2
  have hRr := C.2.2.2.2.2.2.2.2.2.1
  intro k
  induction k with
  | zero =>
    intro M t0 a2 r M' hf H locs ls ht0 hw hl
    rw [f_X5_loadSetup_68] at hf
    cases hf
  | succ k ih =>
    intro M t0 a2 r M' hf H locs ls ht0 hw hl
    rw [f_X5_loadSetup_68] at hf
    refine lv_iload_n hx hb dX5_loadSetup_68 rfl (lv_at hl 1 rfl) ?_
    refine lv_iconst (v := 2) hx hb dX5_loadSetup_69 (by decide) ?_
    refine lv_icmp_ge (tgt := 86) hx hb dX5_loadSetup_70 (by decide) (fun c12 => ?_) (fun c12 => ?_)
    · have hf := cl_yes c12 hf
      refine lv_aload_n hx hb dX5_loadSetup_86 rfl (lv_at hl 0 rfl) ?_
      refine fg_X5_19 C hw ht0 dX5_loadSetup_87 ?_
      refine fg_X5_71 C hw (sh_5_1 ht0).1 dX5_loadSetup_90 ?_
      obtain ⟨rfl, rfl⟩ := cl_pair hf
      exact cr_reti C hw dX5_loadSetup_93
    · have hf := cl_no c12 hf
      refine lv_aload_n hx hb dX5_loadSetup_73 rfl (lv_at hl 0 rfl) ?_
      refine fg_X5_37 C hw ht0 dX5_loadSetup_74 ?_
      refine lv_iload_n hx hb dX5_loadSetup_77 rfl (lv_at hl 1 rfl) ?_
      refine lv_iconst (v := 0) hx hb dX5_loadSetup_78 (by decide) ?_
      obtain ⟨q13, hf⟩ := cl_grd hf
      obtain ⟨M14, eM14, hf⟩ := cl_let_e hf
      refine cr_zast C hw (sh_5_5 ht0).1 (sh_5_5 ht0).2 q13 (k := (a2).toNatClampNeg) rfl eM14 dX5_loadSetup_79 (fun H locs hw => ?_)
      obtain ⟨v15, ev15, hf⟩ := cl_let_e hf
      refine lv_iinc (v := v15) (lv' := [(2, .int v15), (0, .ref (b + t0))]) hx hb dX5_loadSetup_80 hl (k := 1) rfl (by rw [ev15]; rfl) (by decide) rfl (fun ls hl => ?_)
      refine lv_goto (tgt := 68) hx hb dX5_loadSetup_83 (by decide) ?_
      exact ih M14 t0 v15 _ _ hf _ _ _ ht0 hw (lv_sub hl [1, 0] rfl)
def f_X5_loadSetup_34 (M : cl_M) (t0 : Nat) (z0 : Int32) : Option (Int32 × cl_M) := (f_X3_clear M (t0 + 1)).bind (fun M5 => if z0 = 0 then some ((-1), M5) else (f_X2_copyFrom M5 (t0 + 4) (t0 + 23)).bind (fun M8 => (f_X1_clear M8 (t0 + 42)).bind (fun M10 => f_X5_loadSetup_68 cl_F M10 t0 0)))
set_option maxHeartbeats 4000000 in
set_option maxRecDepth 100000 in
theorem k_X5_loadSetup_34 {p : Program} {l : Launch} {e : Env} {s : State} {m : MethodId} {args : Array Value} {below : List Frame} {meth : Method} {c : Code} {dd : cl_D} {b : Nat} (C : cl_C p l s m args meth c cX5_loadSetup RX5 3 (some .int) dd b) : ∀ (M : cl_M) (t0 : Nat) (z0 : Int32) (r : Int32) (M' : cl_M), f_X5_loadSetup_34 M t0 z0 = some (r, M') → ∀ (H : Heap) (locs : List Loc) (ls : Array Slot), cl_sh dd t0 = 5 → cl_H dd b M s H locs → lv_has ls 3 [(0, .ref (b + t0))] → W p l e { frames := 8, cells := 0, slots := 0, locals := 171 } s m args below meth c H locs 0 0 (cl_Zi below args s dd b r M') (F0 m 34 ls [.int z0]) := by
  have hx := C.1
  have hb := C.2.1
  have hlt := C.2.2.2.2.2.2.2.2.2.2
  have hRr := C.2.2.2.2.2.2.2.2.2.1
  intro M t0 z0 r M' hf H locs ls ht0 hw hl
  unfold f_X5_loadSetup_34 at hf
  refine lv_istore_n (lv' := [(1, .int z0), (0, .ref (b + t0))]) hx hb dX5_loadSetup_34 rfl hl (by decide) rfl (fun ls hl => ?_)
  refine lv_aload_n hx hb dX5_loadSetup_35 rfl (lv_at hl 1 rfl) ?_
  refine fg_X5_10 C hw ht0 dX5_loadSetup_36 ?_
  obtain ⟨M5, e6, hf⟩ := cl_bind_e hf
  refine cr_Vv C hw (c_X3_clear hlt (sh_5_0 ht0).1 e6) cy_X3_clear vy_X3_clear ml_X5_59 (cl_lt (sh_5_0 ht0).1 (by decide)) (cl_e3 (sh_5_0 ht0).1) rfl rfl (As := []) rfl hl.1 rfl ⟨⟨Nat.le_of_ble_eq_true rfl, Nat.le_of_ble_eq_true rfl⟩, Nat.le_of_ble_eq_true rfl, Nat.le_of_ble_eq_true rfl, Nat.le_of_ble_eq_true rfl⟩ dX5_loadSetup_39 (fun H locs hw => ?_)
  refine lv_iload_n hx hb dX5_loadSetup_42 rfl (lv_at hl 0 rfl) ?_
  refine lv_if_ne (tgt := 48) hx hb dX5_loadSetup_43 (by decide) (fun c7 => ?_) (fun c7 => ?_)
  · have hf := cl_no c7 hf
    refine lv_aload_n hx hb dX5_loadSetup_48 rfl (lv_at hl 1 rfl) ?_
    refine fg_X5_19 C hw ht0 dX5_loadSetup_49 ?_
    refine lv_aload_n hx hb dX5_loadSetup_52 rfl (lv_at hl 1 rfl) ?_
    refine fg_X5_23 C hw ht0 dX5_loadSetup_53 ?_
    obtain ⟨M8, e9, hf⟩ := cl_bind_e hf
    refine cr_Vv C hw (c_X2_copyFrom hlt (sh_5_1 ht0).1 (sh_5_2 ht0).1 e9) cy_X2_copyFrom vy_X2_copyFrom ml_X5_66 (cl_lt (sh_5_1 ht0).1 (by decide)) (cl_e2 (sh_5_1 ht0).1) rfl rfl (As := [.ref (b + (t0 + 23))]) rfl hl.1 rfl ⟨⟨Nat.le_of_ble_eq_true rfl, Nat.le_of_ble_eq_true rfl⟩, Nat.le_of_ble_eq_true rfl, Nat.le_of_ble_eq_true rfl, Nat.le_of_ble_eq_true rfl⟩ dX5_loadSetup_56 (fun H locs hw => ?_)
    refine lv_aload_n hx hb dX5_loadSetup_59 rfl (lv_at hl 1 rfl) ?_
    refine fg_X5_29 C hw ht0 dX5_loadSetup_60 ?_
    obtain ⟨M10, e11, hf⟩ := cl_bind_e hf
    refine cr_Vv C hw (c_X1_clear hlt (sh_5_3 ht0).1 e11) cy_X1_clear vy_X1_clear ml_X5_70 (cl_lt (sh_5_3 ht0).1 (by decide)) (cl_e1 (sh_5_3 ht0).1) rfl rfl (As := []) rfl hl.1 rfl ⟨⟨Nat.le_of_ble_eq_true rfl, Nat.le_of_ble_eq_true rfl⟩, Nat.le_of_ble_eq_true rfl, Nat.le_of_ble_eq_true rfl, Nat.le_of_ble_eq_true rfl⟩ dX5_loadSetup_63 (fun H locs hw => ?_)
    refine lv_iconst (v := 0) hx hb dX5_loadSetup_66 (by decide) ?_
    refine lv_istore_n (lv' := [(2, .int 0), (1, .int z0), (0, .ref (b + t0))]) hx hb dX5_loadSetup_67 rfl hl (by decide) rfl (fun ls hl => ?_)
    exact k_X5_loadSetup_68 C cl_F M10 t0 0 _ _ hf _ _ _ ht0 hw (lv_sub hl [2, 0] rfl)
  · have hf := cl_yes c7 hf
    refine lv_iconst (v := (-1)) hx hb dX5_loadSetup_46 (by decide) ?_
    obtain ⟨rfl, rfl⟩ := cl_pair hf
    exact cr_reti C hw dX5_loadSetup_47
def f_X5_loadSetup_33 (M : cl_M) (t0 : Nat) : Option (Int32 × cl_M) := f_X5_loadSetup_34 M t0 0
set_option maxHeartbeats 4000000 in
set_option maxRecDepth 100000 in
theorem k_X5_loadSetup_33 {p : Program} {l : Launch} {e : Env} {s : State} {m : MethodId} {args : Array Value} {below : List Frame} {meth : Method} {c : Code} {dd : cl_D} {b : Nat} (C : cl_C p l s m args meth c cX5_loadSetup RX5 3 (some .int) dd b) : ∀ (M : cl_M) (t0 : Nat) (r : Int32) (M' : cl_M), f_X5_loadSetup_33 M t0 = some (r, M') → ∀ (H : Heap) (locs : List Loc) (ls : Array Slot), cl_sh dd t0 = 5 → cl_H dd b M s H locs → lv_has ls 3 [(0, .ref (b + t0))] → W p l e { frames := 8, cells := 0, slots := 0, locals := 171 } s m args below meth c H locs 0 0 (cl_Zi below args s dd b r M') (F0 m 33 ls []) := by
  have hx := C.1
  have hb := C.2.1
  have hlt := C.2.2.2.2.2.2.2.2.2.2
  have hRr := C.2.2.2.2.2.2.2.2.2.1
  intro M t0 r M' hf H locs ls ht0 hw hl
  unfold f_X5_loadSetup_33 at hf
  refine lv_iconst (v := 0) hx hb dX5_loadSetup_33 (by decide) ?_
  exact k_X5_loadSetup_34 C M t0 0 _ _ hf _ _ _ ht0 hw (lv_sub hl [0] rfl)
def f_X5_loadSetup (M : cl_M) (t0 : Nat) : Option (Int32 × cl_M) := cl_b2 (f_X3_readHead M (t0 + 1) (t0 + 23)) (fun v1 M2 => if v1 = 0 then f_X5_loadSetup_33 M2 t0 else cl_b2 (f_X3_readCommands M2 (t0 + 1) (t0 + 23)) (fun v16 M17 => if v16 = (-1) then f_X5_loadSetup_33 M17 t0 else f_X5_loadSetup_34 M17 t0 1))
set_option maxHeartbeats 4000000 in
set_option maxRecDepth 100000 in
theorem k_X5_loadSetup {p : Program} {l : Launch} {e : Env} {s : State} {m : MethodId} {args : Array Value} {below : List Frame} {meth : Method} {c : Code} {dd : cl_D} {b : Nat} (C : cl_C p l s m args meth c cX5_loadSetup RX5 3 (some .int) dd b) : ∀ (M : cl_M) (t0 : Nat) (r : Int32) (M' : cl_M), f_X5_loadSetup M t0 = some (r, M') → ∀ (H : Heap) (locs : List Loc) (ls : Array Slot), cl_sh dd t0 = 5 → cl_H dd b M s H locs → lv_has ls 3 [(0, .ref (b + t0))] → W p l e { frames := 8, cells := 0, slots := 0, locals := 171 } s m args below meth c H locs 0 0 (cl_Zi below args s dd b r M') (F0 m 0 ls []) := by
  have hx := C.1
  have hb := C.2.1
  have hlt := C.2.2.2.2.2.2.2.2.2.2
  have hRr := C.2.2.2.2.2.2.2.2.2.1
  intro M t0 r M' hf H locs ls ht0 hw hl
  unfold f_X5_loadSetup at hf
  refine lv_aload_n hx hb dX5_loadSetup_0 rfl (lv_at hl 0 rfl) ?_
  refine fg_X5_10 C hw ht0 dX5_loadSetup_1 ?_
  refine lv_aload_n hx hb dX5_loadSetup_4 rfl (lv_at hl 0 rfl) ?_
  refine fg_X5_23 C hw ht0 dX5_loadSetup_5 ?_
  obtain ⟨v1, M2, e3, hf⟩ := cl_b2_e hf
  refine cr_Vi C hw (c_X3_readHead hlt (sh_5_0 ht0).1 (sh_5_2 ht0).1 e3) cy_X3_readHead vy_X3_readHead ml_X5_51 (cl_lt (sh_5_0 ht0).1 (by decide)) (cl_e3 (sh_5_0 ht0).1) rfl rfl (As := [.ref (b + (t0 + 23))]) rfl hl.1 rfl ⟨⟨Nat.le_of_ble_eq_true rfl, Nat.le_of_ble_eq_true rfl⟩, Nat.le_of_ble_eq_true rfl, Nat.le_of_ble_eq_true rfl, Nat.le_of_ble_eq_true rfl⟩ dX5_loadSetup_8 (fun H locs hw => ?_)
  refine lv_if_eq (tgt := 33) hx hb dX5_loadSetup_11 (by decide) (fun c4 => ?_) (fun c4 => ?_)
  · have hf := cl_yes c4 hf
    exact k_X5_loadSetup_33 C M2 t0 _ _ hf _ _ _ ht0 hw (lv_sub hl [0] rfl)
  · have hf := cl_no c4 hf
    refine lv_aload_n hx hb dX5_loadSetup_14 rfl (lv_at hl 0 rfl) ?_
    refine fg_X5_10 C hw ht0 dX5_loadSetup_15 ?_
    refine lv_aload_n hx hb dX5_loadSetup_18 rfl (lv_at hl 0 rfl) ?_
    refine fg_X5_23 C hw ht0 dX5_loadSetup_19 ?_
    obtain ⟨v16, M17, e18, hf⟩ := cl_b2_e hf
    refine cr_Vi C hw (c_X3_readCommands hlt (sh_5_0 ht0).1 (sh_5_2 ht0).1 e18) cy_X3_readCommands vy_X3_readCommands ml_X5_55 (cl_lt (sh_5_0 ht0).1 (by decide)) (cl_e3 (sh_5_0 ht0).1) rfl rfl (As := [.ref (b + (t0 + 23))]) rfl hl.1 rfl ⟨⟨Nat.le_of_ble_eq_true rfl, Nat.le_of_ble_eq_true rfl⟩, Nat.le_of_ble_eq_true rfl, Nat.le_of_ble_eq_true rfl, Nat.le_of_ble_eq_true rfl⟩ dX5_loadSetup_22 (fun H locs hw => ?_)
    refine lv_iconst (v := (-1)) hx hb dX5_loadSetup_25 (by decide) ?_
    refine lv_icmp_eq (tgt := 33) hx hb dX5_loadSetup_26 (by decide) (fun c19 => ?_) (fun c19 => ?_)
    · have hf := cl_yes c19 hf
      exact k_X5_loadSetup_33 C M17 t0 _ _ hf _ _ _ ht0 hw (lv_sub hl [0] rfl)
    · have hf := cl_no c19 hf
      refine lv_iconst (v := 1) hx hb dX5_loadSetup_29 (by decide) ?_
      refine lv_goto (tgt := 34) hx hb dX5_loadSetup_30 (by decide) ?_
      exact k_X5_loadSetup_34 C M17 t0 1 _ _ hf _ _ _ ht0 hw (lv_sub hl [0] rfl)
set_option maxRecDepth 100000 in
theorem c_X5_loadSetup {l : Launch} {dd : cl_D} {b : Nat} (hlt : l.stackTraces = false) {M : cl_M} {t0 : Nat}  {r : Int32} {M' : cl_M} (ht0 : cl_sh dd t0 = 5) (h : f_X5_loadSetup M t0 = some (r, M')) : cl_Mi l dd b yX5_loadSetup cX5_loadSetup 3 (some .int) 8 171 [.ref (b + t0)] M r M' :=
  cl_of hlt (by decide) (Nat.le_of_ble_eq_true rfl) (fun p e s m below meth c ls C hw hl => k_X5_loadSetup C M t0 r M' h _ _ _ ht0 hw (lv_sub hl [0] rfl))
theorem cy_X5_loadSetup : cl_cy yX5_loadSetup cX5_loadSetup 3 (some .int) 0 := ⟨in_ClothesLine, cd_X5_loadSetup, by decide +kernel, by decide +kernel, by decide +kernel⟩
theorem vy_X5_loadSetup : cl_vy yX5_loadSetup := ⟨im_X5_loadSetup, se_X5_loadSetup⟩
def f_X5_runScript (M : cl_M) (t0 : Nat) : Option (Int32 × cl_M) := (f_X2_copyFrom M (t0 + 23) (t0 + 4)).bind (fun M1 => (f_X3_begin M1 (t0 + 1)).bind (fun M3 => cl_b2 (f_X3_readCommands M3 (t0 + 1) (t0 + 23)) (fun v5 M6 => (f_X3_clear M6 (t0 + 1)).bind (fun M8 => if v5 = (-1) then some ((-1), M8) else (f_X1_record M8 (t0 + 42) (t0 + 4)).bind (fun M11 => (f_X2_copyFrom M11 (t0 + 4) (t0 + 23)).bind (fun M13 => some (v5, M13)))))))
set_option maxHeartbeats 4000000 in
set_option maxRecDepth 100000 in
theorem k_X5_runScript {p : Program} {l : Launch} {e : Env} {s : State} {m : MethodId} {args : Array Value} {below : List Frame} {meth : Method} {c : Code} {dd : cl_D} {b : Nat} (C : cl_C p l s m args meth c cX5_runScript RX5 2 (some .int) dd b) : ∀ (M : cl_M) (t0 : Nat) (r : Int32) (M' : cl_M), f_X5_runScript M t0 = some (r, M') → ∀ (H : Heap) (locs : List Loc) (ls : Array Slot), cl_sh dd t0 = 5 → cl_H dd b M s H locs → lv_has ls 2 [(0, .ref (b + t0))] → W p l e { frames := 8, cells := 0, slots := 0, locals := 171 } s m args below meth c H locs 0 0 (cl_Zi below args s dd b r M') (F0 m 0 ls []) := by
  have hx := C.1
  have hb := C.2.1
  have hlt := C.2.2.2.2.2.2.2.2.2.2
  have hRr := C.2.2.2.2.2.2.2.2.2.1
  intro M t0 r M' hf H locs ls ht0 hw hl
  unfold f_X5_runScript at hf
  refine lv_aload_n hx hb dX5_runScript_0 rfl (lv_at hl 0 rfl) ?_
  refine fg_X5_23 C hw ht0 dX5_runScript_1 ?_
  refine lv_aload_n hx hb dX5_runScript_4 rfl (lv_at hl 0 rfl) ?_
  refine fg_X5_19 C hw ht0 dX5_runScript_5 ?_
  obtain ⟨M1, e2, hf⟩ := cl_bind_e hf
  refine cr_Vv C hw (c_X2_copyFrom hlt (sh_5_2 ht0).1 (sh_5_1 ht0).1 e2) cy_X2_copyFrom vy_X2_copyFrom ml_X5_66 (cl_lt (sh_5_2 ht0).1 (by decide)) (cl_e2 (sh_5_2 ht0).1) rfl rfl (As := [.ref (b + (t0 + 4))]) rfl hl.1 rfl ⟨⟨Nat.le_of_ble_eq_true rfl, Nat.le_of_ble_eq_true rfl⟩, Nat.le_of_ble_eq_true rfl, Nat.le_of_ble_eq_true rfl, Nat.le_of_ble_eq_true rfl⟩ dX5_runScript_8 (fun H locs hw => ?_)
  refine lv_aload_n hx hb dX5_runScript_11 rfl (lv_at hl 0 rfl) ?_
  refine fg_X5_10 C hw ht0 dX5_runScript_12 ?_
  obtain ⟨M3, e4, hf⟩ := cl_bind_e hf
  refine cr_Vv C hw (c_X3_begin hlt (sh_5_0 ht0).1 e4) cy_X3_begin vy_X3_begin ml_X5_75 (cl_lt (sh_5_0 ht0).1 (by decide)) (cl_e3 (sh_5_0 ht0).1) rfl rfl (As := []) rfl hl.1 rfl ⟨⟨Nat.le_of_ble_eq_true rfl, Nat.le_of_ble_eq_true rfl⟩, Nat.le_of_ble_eq_true rfl, Nat.le_of_ble_eq_true rfl, Nat.le_of_ble_eq_true rfl⟩ dX5_runScript_15 (fun H locs hw => ?_)
  refine lv_aload_n hx hb dX5_runScript_18 rfl (lv_at hl 0 rfl) ?_
  refine fg_X5_10 C hw ht0 dX5_runScript_19 ?_
  refine lv_aload_n hx hb dX5_runScript_22 rfl (lv_at hl 0 rfl) ?_
  refine fg_X5_23 C hw ht0 dX5_runScript_23 ?_
  obtain ⟨v5, M6, e7, hf⟩ := cl_b2_e hf
  refine cr_Vi C hw (c_X3_readCommands hlt (sh_5_0 ht0).1 (sh_5_2 ht0).1 e7) cy_X3_readCommands vy_X3_readCommands ml_X5_55 (cl_lt (sh_5_0 ht0).1 (by decide)) (cl_e3 (sh_5_0 ht0).1) rfl rfl (As := [.ref (b + (t0 + 23))]) rfl hl.1 rfl ⟨⟨Nat.le_of_ble_eq_true rfl, Nat.le_of_ble_eq_true rfl⟩, Nat.le_of_ble_eq_true rfl, Nat.le_of_ble_eq_true rfl, Nat.le_of_ble_eq_true rfl⟩ dX5_runScript_26 (fun H locs hw => ?_)
  refine lv_istore_n (lv' := [(1, .int v5), (0, .ref (b + t0))]) hx hb dX5_runScript_29 rfl hl (by decide) rfl (fun ls hl => ?_)
  refine lv_aload_n hx hb dX5_runScript_30 rfl (lv_at hl 1 rfl) ?_
  refine fg_X5_10 C hw ht0 dX5_runScript_31 ?_
  obtain ⟨M8, e9, hf⟩ := cl_bind_e hf
  refine cr_Vv C hw (c_X3_clear hlt (sh_5_0 ht0).1 e9) cy_X3_clear vy_X3_clear ml_X5_59 (cl_lt (sh_5_0 ht0).1 (by decide)) (cl_e3 (sh_5_0 ht0).1) rfl rfl (As := []) rfl hl.1 rfl ⟨⟨Nat.le_of_ble_eq_true rfl, Nat.le_of_ble_eq_true rfl⟩, Nat.le_of_ble_eq_true rfl, Nat.le_of_ble_eq_true rfl, Nat.le_of_ble_eq_true rfl⟩ dX5_runScript_34 (fun H locs hw => ?_)
  refine lv_iload_n hx hb dX5_runScript_37 rfl (lv_at hl 0 rfl) ?_
  refine lv_iconst (v := (-1)) hx hb dX5_runScript_38 (by decide) ?_
  refine lv_icmp_ne (tgt := 44) hx hb dX5_runScript_39 (by decide) (fun c10 => ?_) (fun c10 => ?_)
  · have hf := cl_no c10 hf
    refine lv_aload_n hx hb dX5_runScript_44 rfl (lv_at hl 1 rfl) ?_
    refine fg_X5_29 C hw ht0 dX5_runScript_45 ?_
    refine lv_aload_n hx hb dX5_runScript_48 rfl (lv_at hl 1 rfl) ?_
    refine fg_X5_19 C hw ht0 dX5_runScript_49 ?_
    obtain ⟨M11, e12, hf⟩ := cl_bind_e hf
    refine cr_Vv C hw (c_X1_record hlt (sh_5_3 ht0).1 (sh_5_1 ht0).1 e12) cy_X1_record vy_X1_record ml_X5_78 (cl_lt (sh_5_3 ht0).1 (by decide)) (cl_e1 (sh_5_3 ht0).1) rfl rfl (As := [.ref (b + (t0 + 4))]) rfl hl.1 rfl ⟨⟨Nat.le_of_ble_eq_true rfl, Nat.le_of_ble_eq_true rfl⟩, Nat.le_of_ble_eq_true rfl, Nat.le_of_ble_eq_true rfl, Nat.le_of_ble_eq_true rfl⟩ dX5_runScript_52 (fun H locs hw => ?_)
    refine lv_aload_n hx hb dX5_runScript_55 rfl (lv_at hl 1 rfl) ?_
    refine fg_X5_19 C hw ht0 dX5_runScript_56 ?_
    refine lv_aload_n hx hb dX5_runScript_59 rfl (lv_at hl 1 rfl) ?_
    refine fg_X5_23 C hw ht0 dX5_runScript_60 ?_
    obtain ⟨M13, e14, hf⟩ := cl_bind_e hf
    refine cr_Vv C hw (c_X2_copyFrom hlt (sh_5_1 ht0).1 (sh_5_2 ht0).1 e14) cy_X2_copyFrom vy_X2_copyFrom ml_X5_66 (cl_lt (sh_5_1 ht0).1 (by decide)) (cl_e2 (sh_5_1 ht0).1) rfl rfl (As := [.ref (b + (t0 + 23))]) rfl hl.1 rfl ⟨⟨Nat.le_of_ble_eq_true rfl, Nat.le_of_ble_eq_true rfl⟩, Nat.le_of_ble_eq_true rfl, Nat.le_of_ble_eq_true rfl, Nat.le_of_ble_eq_true rfl⟩ dX5_runScript_63 (fun H locs hw => ?_)
    refine lv_iload_n hx hb dX5_runScript_66 rfl (lv_at hl 0 rfl) ?_
    obtain ⟨rfl, rfl⟩ := cl_pair hf
    exact cr_reti C hw dX5_runScript_67
  · have hf := cl_yes c10 hf
    refine lv_iconst (v := (-1)) hx hb dX5_runScript_42 (by decide) ?_
    obtain ⟨rfl, rfl⟩ := cl_pair hf
    exact cr_reti C hw dX5_runScript_43
set_option maxRecDepth 100000 in
theorem c_X5_runScript {l : Launch} {dd : cl_D} {b : Nat} (hlt : l.stackTraces = false) {M : cl_M} {t0 : Nat}  {r : Int32} {M' : cl_M} (ht0 : cl_sh dd t0 = 5) (h : f_X5_runScript M t0 = some (r, M')) : cl_Mi l dd b yX5_runScript cX5_runScript 2 (some .int) 8 171 [.ref (b + t0)] M r M' :=
  cl_of hlt (by decide) (Nat.le_of_ble_eq_true rfl) (fun p e s m below meth c ls C hw hl => k_X5_runScript C M t0 r M' h _ _ _ ht0 hw (lv_sub hl [0] rfl))
theorem cy_X5_runScript : cl_cy yX5_runScript cX5_runScript 2 (some .int) 0 := ⟨in_ClothesLine, cd_X5_runScript, by decide +kernel, by decide +kernel, by decide +kernel⟩
theorem vy_X5_runScript : cl_vy yX5_runScript := ⟨im_X5_runScript, se_X5_runScript⟩
def f_X5_errorCode (M : cl_M) (t0 : Nat) : Option (Int32) := some (M (t0 + 1) 8)
set_option maxHeartbeats 4000000 in
set_option maxRecDepth 100000 in
theorem k_X5_errorCode {p : Program} {l : Launch} {e : Env} {s : State} {m : MethodId} {args : Array Value} {below : List Frame} {meth : Method} {c : Code} {dd : cl_D} {b : Nat} (C : cl_C p l s m args meth c cX5_errorCode RX5 1 (some .int) dd b) : ∀ (M : cl_M) (t0 : Nat) (r : Int32), f_X5_errorCode M t0 = some r → ∀ (H : Heap) (locs : List Loc) (ls : Array Slot), cl_sh dd t0 = 5 → cl_H dd b M s H locs → lv_has ls 1 [(0, .ref (b + t0))] → W p l e { frames := 0, cells := 0, slots := 0, locals := 0 } s m args below meth c H locs 0 0 (cl_Zi below args s dd b r M) (F0 m 0 ls []) := by
  have hx := C.1
  have hb := C.2.1
  have hlt := C.2.2.2.2.2.2.2.2.2.2
  have hRr := C.2.2.2.2.2.2.2.2.2.1
  intro M t0 r hf H locs ls ht0 hw hl
  unfold f_X5_errorCode at hf
  refine lv_aload_n hx hb dX5_errorCode_0 rfl (lv_at hl 0 rfl) ?_
  refine fg_X5_10 C hw ht0 dX5_errorCode_1 ?_
  refine fg_X5_81 C hw (sh_5_0 ht0).1 dX5_errorCode_4 ?_
  obtain rfl := Option.some.inj hf
  exact cr_reti C hw dX5_errorCode_7
set_option maxRecDepth 100000 in
theorem c_X5_errorCode {l : Launch} {dd : cl_D} {b : Nat} (hlt : l.stackTraces = false) {M : cl_M} {t0 : Nat}  {r : Int32} (ht0 : cl_sh dd t0 = 5) (h : f_X5_errorCode M t0 = some r) : cl_Mi l dd b yX5_errorCode cX5_errorCode 1 (some .int) 0 0 [.ref (b + t0)] M r M :=
  cl_of hlt (by decide) (Nat.le_of_ble_eq_true rfl) (fun p e s m below meth c ls C hw hl => k_X5_errorCode C M t0 r h _ _ _ ht0 hw (lv_sub hl [0] rfl))
theorem cy_X5_errorCode : cl_cy yX5_errorCode cX5_errorCode 1 (some .int) 0 := ⟨in_ClothesLine, cd_X5_errorCode, by decide +kernel, by decide +kernel, by decide +kernel⟩
theorem vy_X5_errorCode : cl_vy yX5_errorCode := ⟨im_X5_errorCode, se_X5_errorCode⟩
def f_X5_errorPosition (M : cl_M) (t0 : Nat) : Option (Int32) := some (M (t0 + 1) 9)
set_option maxHeartbeats 4000000 in
set_option maxRecDepth 100000 in
theorem k_X5_errorPosition {p : Program} {l : Launch} {e : Env} {s : State} {m : MethodId} {args : Array Value} {below : List Frame} {meth : Method} {c : Code} {dd : cl_D} {b : Nat} (C : cl_C p l s m args meth c cX5_errorPosition RX5 1 (some .int) dd b) : ∀ (M : cl_M) (t0 : Nat) (r : Int32), f_X5_errorPosition M t0 = some r → ∀ (H : Heap) (locs : List Loc) (ls : Array Slot), cl_sh dd t0 = 5 → cl_H dd b M s H locs → lv_has ls 1 [(0, .ref (b + t0))] → W p l e { frames := 0, cells := 0, slots := 0, locals := 0 } s m args below meth c H locs 0 0 (cl_Zi below args s dd b r M) (F0 m 0 ls []) := by
  have hx := C.1
  have hb := C.2.1
  have hlt := C.2.2.2.2.2.2.2.2.2.2
  have hRr := C.2.2.2.2.2.2.2.2.2.1
  intro M t0 r hf H locs ls ht0 hw hl
  unfold f_X5_errorPosition at hf
  refine lv_aload_n hx hb dX5_errorPosition_0 rfl (lv_at hl 0 rfl) ?_
  refine fg_X5_10 C hw ht0 dX5_errorPosition_1 ?_
  refine fg_X5_84 C hw (sh_5_0 ht0).1 dX5_errorPosition_4 ?_
  obtain rfl := Option.some.inj hf
  exact cr_reti C hw dX5_errorPosition_7
set_option maxRecDepth 100000 in
theorem c_X5_errorPosition {l : Launch} {dd : cl_D} {b : Nat} (hlt : l.stackTraces = false) {M : cl_M} {t0 : Nat}  {r : Int32} (ht0 : cl_sh dd t0 = 5) (h : f_X5_errorPosition M t0 = some r) : cl_Mi l dd b yX5_errorPosition cX5_errorPosition 1 (some .int) 0 0 [.ref (b + t0)] M r M :=
  cl_of hlt (by decide) (Nat.le_of_ble_eq_true rfl) (fun p e s m below meth c ls C hw hl => k_X5_errorPosition C M t0 r h _ _ _ ht0 hw (lv_sub hl [0] rfl))
theorem cy_X5_errorPosition : cl_cy yX5_errorPosition cX5_errorPosition 1 (some .int) 0 := ⟨in_ClothesLine, cd_X5_errorPosition, by decide +kernel, by decide +kernel, by decide +kernel⟩
theorem vy_X5_errorPosition : cl_vy yX5_errorPosition := ⟨im_X5_errorPosition, se_X5_errorPosition⟩
def f_X5_minute (M : cl_M) (t0 : Nat) : Option (Int32) := some (M (t0 + 4) 2)
set_option maxHeartbeats 4000000 in
set_option maxRecDepth 100000 in
theorem k_X5_minute {p : Program} {l : Launch} {e : Env} {s : State} {m : MethodId} {args : Array Value} {below : List Frame} {meth : Method} {c : Code} {dd : cl_D} {b : Nat} (C : cl_C p l s m args meth c cX5_minute RX5 1 (some .int) dd b) : ∀ (M : cl_M) (t0 : Nat) (r : Int32), f_X5_minute M t0 = some r → ∀ (H : Heap) (locs : List Loc) (ls : Array Slot), cl_sh dd t0 = 5 → cl_H dd b M s H locs → lv_has ls 1 [(0, .ref (b + t0))] → W p l e { frames := 0, cells := 0, slots := 0, locals := 0 } s m args below meth c H locs 0 0 (cl_Zi below args s dd b r M) (F0 m 0 ls []) := by
  have hx := C.1
  have hb := C.2.1
  have hlt := C.2.2.2.2.2.2.2.2.2.2
  have hRr := C.2.2.2.2.2.2.2.2.2.1
  intro M t0 r hf H locs ls ht0 hw hl
  unfold f_X5_minute at hf
  refine lv_aload_n hx hb dX5_minute_0 rfl (lv_at hl 0 rfl) ?_
  refine fg_X5_19 C hw ht0 dX5_minute_1 ?_
  refine fg_X5_87 C hw (sh_5_1 ht0).1 dX5_minute_4 ?_
  obtain rfl := Option.some.inj hf
  exact cr_reti C hw dX5_minute_7
set_option maxRecDepth 100000 in
theorem c_X5_minute {l : Launch} {dd : cl_D} {b : Nat} (hlt : l.stackTraces = false) {M : cl_M} {t0 : Nat}  {r : Int32} (ht0 : cl_sh dd t0 = 5) (h : f_X5_minute M t0 = some r) : cl_Mi l dd b yX5_minute cX5_minute 1 (some .int) 0 0 [.ref (b + t0)] M r M :=
  cl_of hlt (by decide) (Nat.le_of_ble_eq_true rfl) (fun p e s m below meth c ls C hw hl => k_X5_minute C M t0 r h _ _ _ ht0 hw (lv_sub hl [0] rfl))
theorem cy_X5_minute : cl_cy yX5_minute cX5_minute 1 (some .int) 0 := ⟨in_ClothesLine, cd_X5_minute, by decide +kernel, by decide +kernel, by decide +kernel⟩
theorem vy_X5_minute : cl_vy yX5_minute := ⟨im_X5_minute, se_X5_minute⟩
def f_X5_shadowWidth (M : cl_M) (t0 : Nat) : Option (Int32) := some (M ((t0 + 4) + 1) 0)
set_option maxHeartbeats 4000000 in
set_option maxRecDepth 100000 in
theorem k_X5_shadowWidth {p : Program} {l : Launch} {e : Env} {s : State} {m : MethodId} {args : Array Value} {below : List Frame} {meth : Method} {c : Code} {dd : cl_D} {b : Nat} (C : cl_C p l s m args meth c cX5_shadowWidth RX5 1 (some .int) dd b) : ∀ (M : cl_M) (t0 : Nat) (r : Int32), f_X5_shadowWidth M t0 = some r → ∀ (H : Heap) (locs : List Loc) (ls : Array Slot), cl_sh dd t0 = 5 → cl_H dd b M s H locs → lv_has ls 1 [(0, .ref (b + t0))] → W p l e { frames := 0, cells := 0, slots := 0, locals := 0 } s m args below meth c H locs 0 0 (cl_Zi below args s dd b r M) (F0 m 0 ls []) := by
  have hx := C.1
  have hb := C.2.1
  have hlt := C.2.2.2.2.2.2.2.2.2.2
  have hRr := C.2.2.2.2.2.2.2.2.2.1
  intro M t0 r hf H locs ls ht0 hw hl
  unfold f_X5_shadowWidth at hf
  refine lv_aload_n hx hb dX5_shadowWidth_0 rfl (lv_at hl 0 rfl) ?_
  refine fg_X5_19 C hw ht0 dX5_shadowWidth_1 ?_
  refine fg_X5_90 C hw (sh_5_1 ht0).1 dX5_shadowWidth_4 ?_
  refine fg_X5_94 C hw (sh_2_4 (sh_5_1 ht0).1).1 dX5_shadowWidth_7 ?_
  obtain rfl := Option.some.inj hf
  exact cr_reti C hw dX5_shadowWidth_10
set_option maxRecDepth 100000 in
theorem c_X5_shadowWidth {l : Launch} {dd : cl_D} {b : Nat} (hlt : l.stackTraces = false) {M : cl_M} {t0 : Nat}  {r : Int32} (ht0 : cl_sh dd t0 = 5) (h : f_X5_shadowWidth M t0 = some r) : cl_Mi l dd b yX5_shadowWidth cX5_shadowWidth 1 (some .int) 0 0 [.ref (b + t0)] M r M :=
  cl_of hlt (by decide) (Nat.le_of_ble_eq_true rfl) (fun p e s m below meth c ls C hw hl => k_X5_shadowWidth C M t0 r h _ _ _ ht0 hw (lv_sub hl [0] rfl))
theorem cy_X5_shadowWidth : cl_cy yX5_shadowWidth cX5_shadowWidth 1 (some .int) 0 := ⟨in_ClothesLine, cd_X5_shadowWidth, by decide +kernel, by decide +kernel, by decide +kernel⟩
theorem vy_X5_shadowWidth : cl_vy yX5_shadowWidth := ⟨im_X5_shadowWidth, se_X5_shadowWidth⟩
def f_X5_undoCount (M : cl_M) (t0 : Nat) : Option (Int32) := some (M (t0 + 42) 2)
set_option maxHeartbeats 4000000 in
set_option maxRecDepth 100000 in
theorem k_X5_undoCount {p : Program} {l : Launch} {e : Env} {s : State} {m : MethodId} {args : Array Value} {below : List Frame} {meth : Method} {c : Code} {dd : cl_D} {b : Nat} (C : cl_C p l s m args meth c cX5_undoCount RX5 1 (some .int) dd b) : ∀ (M : cl_M) (t0 : Nat) (r : Int32), f_X5_undoCount M t0 = some r → ∀ (H : Heap) (locs : List Loc) (ls : Array Slot), cl_sh dd t0 = 5 → cl_H dd b M s H locs → lv_has ls 1 [(0, .ref (b + t0))] → W p l e { frames := 0, cells := 0, slots := 0, locals := 0 } s m args below meth c H locs 0 0 (cl_Zi below args s dd b r M) (F0 m 0 ls []) := by
  have hx := C.1
  have hb := C.2.1
  have hlt := C.2.2.2.2.2.2.2.2.2.2
  have hRr := C.2.2.2.2.2.2.2.2.2.1
  intro M t0 r hf H locs ls ht0 hw hl
  unfold f_X5_undoCount at hf
  refine lv_aload_n hx hb dX5_undoCount_0 rfl (lv_at hl 0 rfl) ?_
  refine fg_X5_29 C hw ht0 dX5_undoCount_1 ?_
  refine fg_X5_99 C hw (sh_5_3 ht0).1 dX5_undoCount_4 ?_
  obtain rfl := Option.some.inj hf
  exact cr_reti C hw dX5_undoCount_7
set_option maxRecDepth 100000 in
theorem c_X5_undoCount {l : Launch} {dd : cl_D} {b : Nat} (hlt : l.stackTraces = false) {M : cl_M} {t0 : Nat}  {r : Int32} (ht0 : cl_sh dd t0 = 5) (h : f_X5_undoCount M t0 = some r) : cl_Mi l dd b yX5_undoCount cX5_undoCount 1 (some .int) 0 0 [.ref (b + t0)] M r M :=
  cl_of hlt (by decide) (Nat.le_of_ble_eq_true rfl) (fun p e s m below meth c ls C hw hl => k_X5_undoCount C M t0 r h _ _ _ ht0 hw (lv_sub hl [0] rfl))
theorem cy_X5_undoCount : cl_cy yX5_undoCount cX5_undoCount 1 (some .int) 0 := ⟨in_ClothesLine, cd_X5_undoCount, by decide +kernel, by decide +kernel, by decide +kernel⟩
theorem vy_X5_undoCount : cl_vy yX5_undoCount := ⟨im_X5_undoCount, se_X5_undoCount⟩
def f_X5_requireRange_10 (M : cl_M) : Option (Except (Nat × cl_M) (cl_M)) := some (.error (1, M))
set_option maxHeartbeats 4000000 in
set_option maxRecDepth 100000 in
theorem k_X5_requireRange_10 {p : Program} {l : Launch} {e : Env} {s : State} {m : MethodId} {args : Array Value} {below : List Frame} {meth : Method} {c : Code} {dd : cl_D} {b : Nat} (C : cl_C p l s m args meth c cX5_requireRange RX5 3 none dd b) (TT : cl_T c) : ∀ (M : cl_M) (o : Except (Nat × cl_M) (cl_M)), f_X5_requireRange_10 M = some o → ∀ (H : Heap) (locs : List Loc) (ls : Array Slot), cl_H dd b M s H locs → lv_has ls 3 [] → W p l e { frames := 6, cells := 1, slots := 6, locals := 90 } s m args below meth c H locs 0 0 (cl_Yv below args s dd b o 1) (F0 m 10 ls []) := by
  have hx := C.1
  have hb := C.2.1
  have hlt := C.2.2.2.2.2.2.2.2.2.2
  have hRr := C.2.2.2.2.2.2.2.2.2.1
  intro M o hf H locs ls hw hl
  unfold f_X5_requireRange_10 at hf
  obtain rfl := Option.some.inj hf
  exact cr_throwW C hw TT (k := 1) rfl (by decide +kernel) cl_X5_322 in_java_lang_IllegalArgumentException tw_RX5_326 (sr_25 hRr) hl.1 ⟨Nat.le_of_ble_eq_true rfl, Nat.le_of_ble_eq_true rfl, Nat.le_of_ble_eq_true rfl, Nat.le_of_ble_eq_true rfl⟩ ⟨Nat.le_of_ble_eq_true rfl, Nat.le_of_ble_eq_true rfl⟩ dX5_requireRange_10 dX5_requireRange_13 dX5_requireRange_14 dX5_requireRange_17 dX5_requireRange_20
def f_X5_requireRange (M : cl_M) (a0 : Int32) (a1 : Int32) (a2 : Int32) : Option (Except (Nat × cl_M) (cl_M)) := if a0 < a1 then f_X5_requireRange_10 M else if a0 ≤ a2 then some (.ok M) else f_X5_requireRange_10 M
set_option maxHeartbeats 4000000 in
set_option maxRecDepth 100000 in
theorem k_X5_requireRange {p : Program} {l : Launch} {e : Env} {s : State} {m : MethodId} {args : Array Value} {below : List Frame} {meth : Method} {c : Code} {dd : cl_D} {b : Nat} (C : cl_C p l s m args meth c cX5_requireRange RX5 3 none dd b) (TT : cl_T c) : ∀ (M : cl_M) (a0 : Int32) (a1 : Int32) (a2 : Int32) (o : Except (Nat × cl_M) (cl_M)), f_X5_requireRange M a0 a1 a2 = some o → ∀ (H : Heap) (locs : List Loc) (ls : Array Slot), cl_H dd b M s H locs → lv_has ls 3 [(0, .int a0), (1, .int a1), (2, .int a2)] → W p l e { frames := 6, cells := 1, slots := 6, locals := 90 } s m args below meth c H locs 0 0 (cl_Yv below args s dd b o 1) (F0 m 0 ls []) := by
  have hx := C.1
  have hb := C.2.1
  have hlt := C.2.2.2.2.2.2.2.2.2.2
  have hRr := C.2.2.2.2.2.2.2.2.2.1
  intro M a0 a1 a2 o hf H locs ls hw hl
  unfold f_X5_requireRange at hf
  refine lv_iload_n hx hb dX5_requireRange_0 rfl (lv_at hl 0 rfl) ?_
  refine lv_iload_n hx hb dX5_requireRange_1 rfl (lv_at hl 1 rfl) ?_
  refine lv_icmp_lt (tgt := 10) hx hb dX5_requireRange_2 (by decide) (fun c1 => ?_) (fun c1 => ?_)
  · have hf := cl_yes c1 hf
    exact k_X5_requireRange_10 C TT M _ hf _ _ _ hw (lv_sub hl [] rfl)
  · have hf := cl_no c1 hf
    refine lv_iload_n hx hb dX5_requireRange_5 rfl (lv_at hl 0 rfl) ?_
    refine lv_iload_n hx hb dX5_requireRange_6 rfl (lv_at hl 2 rfl) ?_
    refine lv_icmp_le (tgt := 21) hx hb dX5_requireRange_7 (by decide) (fun c2 => ?_) (fun c2 => ?_)
    · have hf := cl_yes c2 hf
      obtain rfl := Option.some.inj hf
      refine W.widen (k := 1) (n := 6) (by decide) (by decide) ?_
      exact cr_xretv C hw dX5_requireRange_21
    · have hf := cl_no c2 hf
      exact k_X5_requireRange_10 C TT M _ hf _ _ _ hw (lv_sub hl [] rfl)
set_option maxRecDepth 100000 in
theorem c_X5_requireRange {l : Launch} {dd : cl_D} {b : Nat} (hlt : l.stackTraces = false) {M : cl_M} {a0 : Int32} {a1 : Int32} {a2 : Int32}  {o : Except (Nat × cl_M) (cl_M)} (h : f_X5_requireRange M a0 a1 a2 = some o) : cl_Xv l dd b yX5_requireRange cX5_requireRange 3 none 6 90 1 [.int a0, .int a1, .int a2] M o :=
  cl_ofX hlt (by decide) (Nat.le_of_ble_eq_true rfl) (fun p e s m below meth c ls C TT hw hl => k_X5_requireRange C TT M a0 a1 a2 o h _ _ _ hw (lv_sub hl [0, 1, 2] rfl))
theorem cy_X5_requireRange : cl_cy yX5_requireRange cX5_requireRange 3 none 3 := ⟨in_ClothesLine, cd_X5_requireRange, by decide +kernel, by decide +kernel, by decide +kernel⟩
def f_X5_windIn (M : cl_M) (t0 : Nat) (a1 : Int32) : Option (Except (Nat × cl_M) (Int32 × cl_M)) := cl_x1 (f_X5_requireRange M a1 0 99999) (fun M4 => (f_X4_windAt M4 ((t0 + 4) + 1) a1).bind (fun v5 => some (.ok (v5, M4))))
set_option maxHeartbeats 4000000 in
set_option maxRecDepth 100000 in
theorem k_X5_windIn {p : Program} {l : Launch} {e : Env} {s : State} {m : MethodId} {args : Array Value} {below : List Frame} {meth : Method} {c : Code} {dd : cl_D} {b : Nat} (C : cl_C p l s m args meth c cX5_windIn RX5 2 (some .int) dd b) (TT : cl_T c) : ∀ (M : cl_M) (t0 : Nat) (a1 : Int32) (o : Except (Nat × cl_M) (Int32 × cl_M)), f_X5_windIn M t0 a1 = some o → ∀ (H : Heap) (locs : List Loc) (ls : Array Slot), cl_sh dd t0 = 5 → cl_H dd b M s H locs → lv_has ls 2 [(0, .ref (b + t0)), (1, .int a1)] → W p l e { frames := 7, cells := 1, slots := 6, locals := 112 } s m args below meth c H locs 0 0 (cl_Yi below args s dd b o 1) (F0 m 0 ls []) := by
  have hx := C.1
  have hb := C.2.1
  have hlt := C.2.2.2.2.2.2.2.2.2.2
  have hRr := C.2.2.2.2.2.2.2.2.2.1
  intro M t0 a1 o hf H locs ls ht0 hw hl
  unfold f_X5_windIn at hf
  refine lv_iload_n hx hb dX5_windIn_0 rfl (lv_at hl 1 rfl) ?_
  refine lv_iconst (v := 0) hx hb dX5_windIn_1 (by decide) ?_
  refine lv_ldc (v := 99999) hx hb C.2.2.2.1 (C.2.2.2.2.1 _ kl_X5_102) dX5_windIn_2 ?_
  obtain ⟨o2, e1, o2x, hf⟩ := cl_x1_e hf
  refine cr_XSv C hw TT (c_X5_requireRange hlt e1) cy_X5_requireRange st_X5_requireRange ml_X5_103 (As := [.int a1, .int 0, .int 99999]) rfl hl.1 rfl ⟨⟨Nat.le_of_ble_eq_true rfl, Nat.le_of_ble_eq_true rfl⟩, Nat.le_of_ble_eq_true rfl, Nat.le_of_ble_eq_true rfl, Nat.le_of_ble_eq_true rfl⟩ ⟨Nat.le_of_ble_eq_true rfl, Nat.le_of_ble_eq_true rfl⟩ dX5_windIn_4 o2x (fun M4 eo2 H locs hw => ?_)
  have hf := hf M4 eo2
  refine lv_aload_n hx hb dX5_windIn_7 rfl (lv_at hl 0 rfl) ?_
  refine fg_X5_19 C hw ht0 dX5_windIn_8 ?_
  refine fg_X5_90 C hw (sh_5_1 ht0).1 dX5_windIn_11 ?_
  refine lv_iload_n hx hb dX5_windIn_14 rfl (lv_at hl 1 rfl) ?_
  obtain ⟨v5, e6, hf⟩ := cl_bind_e hf
  refine cr_Vi C hw (c_X4_windAt hlt (sh_2_4 (sh_5_1 ht0).1).1 e6) cy_X4_windAt vy_X4_windAt ml_X5_107 (cl_lt (sh_2_4 (sh_5_1 ht0).1).1 (by decide)) (cl_e4 (sh_2_4 (sh_5_1 ht0).1).1) rfl rfl (As := [.int a1]) rfl hl.1 rfl ⟨⟨Nat.le_of_ble_eq_true rfl, Nat.le_of_ble_eq_true rfl⟩, Nat.le_of_ble_eq_true rfl, Nat.le_of_ble_eq_true rfl, Nat.le_of_ble_eq_true rfl⟩ dX5_windIn_15 (fun H locs hw => ?_)
  obtain rfl := Option.some.inj hf
  exact cr_xreti C hw dX5_windIn_18
set_option maxRecDepth 100000 in
theorem c_X5_windIn {l : Launch} {dd : cl_D} {b : Nat} (hlt : l.stackTraces = false) {M : cl_M} {t0 : Nat} {a1 : Int32}  {o : Except (Nat × cl_M) (Int32 × cl_M)} (ht0 : cl_sh dd t0 = 5) (h : f_X5_windIn M t0 a1 = some o) : cl_Xi l dd b yX5_windIn cX5_windIn 2 (some .int) 7 112 1 [.ref (b + t0), .int a1] M o :=
  cl_ofX hlt (by decide) (Nat.le_of_ble_eq_true rfl) (fun p e s m below meth c ls C TT hw hl => k_X5_windIn C TT M t0 a1 o h _ _ _ ht0 hw (lv_sub hl [0, 1] rfl))
theorem cy_X5_windIn : cl_cy yX5_windIn cX5_windIn 2 (some .int) 1 := ⟨in_ClothesLine, cd_X5_windIn, by decide +kernel, by decide +kernel, by decide +kernel⟩
theorem vy_X5_windIn : cl_vy yX5_windIn := ⟨im_X5_windIn, se_X5_windIn⟩
def f_X5_rainIn (M : cl_M) (t0 : Nat) (a1 : Int32) : Option (Except (Nat × cl_M) (Int32 × cl_M)) := cl_x1 (f_X5_requireRange M a1 0 99999) (fun M4 => (f_X4_rainAt M4 ((t0 + 4) + 1) a1).bind (fun v5 => some (.ok (v5, M4))))
set_option maxHeartbeats 4000000 in
set_option maxRecDepth 100000 in
theorem k_X5_rainIn {p : Program} {l : Launch} {e : Env} {s : State} {m : MethodId} {args : Array Value} {below : List Frame} {meth : Method} {c : Code} {dd : cl_D} {b : Nat} (C : cl_C p l s m args meth c cX5_rainIn RX5 2 (some .int) dd b) (TT : cl_T c) : ∀ (M : cl_M) (t0 : Nat) (a1 : Int32) (o : Except (Nat × cl_M) (Int32 × cl_M)), f_X5_rainIn M t0 a1 = some o → ∀ (H : Heap) (locs : List Loc) (ls : Array Slot), cl_sh dd t0 = 5 → cl_H dd b M s H locs → lv_has ls 2 [(0, .ref (b + t0)), (1, .int a1)] → W p l e { frames := 7, cells := 1, slots := 6, locals := 112 } s m args below meth c H locs 0 0 (cl_Yi below args s dd b o 1) (F0 m 0 ls []) := by
  have hx := C.1
  have hb := C.2.1
  have hlt := C.2.2.2.2.2.2.2.2.2.2
  have hRr := C.2.2.2.2.2.2.2.2.2.1
  intro M t0 a1 o hf H locs ls ht0 hw hl
  unfold f_X5_rainIn at hf
  refine lv_iload_n hx hb dX5_rainIn_0 rfl (lv_at hl 1 rfl) ?_
  refine lv_iconst (v := 0) hx hb dX5_rainIn_1 (by decide) ?_
  refine lv_ldc (v := 99999) hx hb C.2.2.2.1 (C.2.2.2.2.1 _ kl_X5_102) dX5_rainIn_2 ?_
  obtain ⟨o2, e1, o2x, hf⟩ := cl_x1_e hf
  refine cr_XSv C hw TT (c_X5_requireRange hlt e1) cy_X5_requireRange st_X5_requireRange ml_X5_103 (As := [.int a1, .int 0, .int 99999]) rfl hl.1 rfl ⟨⟨Nat.le_of_ble_eq_true rfl, Nat.le_of_ble_eq_true rfl⟩, Nat.le_of_ble_eq_true rfl, Nat.le_of_ble_eq_true rfl, Nat.le_of_ble_eq_true rfl⟩ ⟨Nat.le_of_ble_eq_true rfl, Nat.le_of_ble_eq_true rfl⟩ dX5_rainIn_4 o2x (fun M4 eo2 H locs hw => ?_)
  have hf := hf M4 eo2
  refine lv_aload_n hx hb dX5_rainIn_7 rfl (lv_at hl 0 rfl) ?_
  refine fg_X5_19 C hw ht0 dX5_rainIn_8 ?_
  refine fg_X5_90 C hw (sh_5_1 ht0).1 dX5_rainIn_11 ?_
  refine lv_iload_n hx hb dX5_rainIn_14 rfl (lv_at hl 1 rfl) ?_
  obtain ⟨v5, e6, hf⟩ := cl_bind_e hf
  refine cr_Vi C hw (c_X4_rainAt hlt (sh_2_4 (sh_5_1 ht0).1).1 e6) cy_X4_rainAt vy_X4_rainAt ml_X5_111 (cl_lt (sh_2_4 (sh_5_1 ht0).1).1 (by decide)) (cl_e4 (sh_2_4 (sh_5_1 ht0).1).1) rfl rfl (As := [.int a1]) rfl hl.1 rfl ⟨⟨Nat.le_of_ble_eq_true rfl, Nat.le_of_ble_eq_true rfl⟩, Nat.le_of_ble_eq_true rfl, Nat.le_of_ble_eq_true rfl, Nat.le_of_ble_eq_true rfl⟩ dX5_rainIn_15 (fun H locs hw => ?_)
  obtain rfl := Option.some.inj hf
  exact cr_xreti C hw dX5_rainIn_18
set_option maxRecDepth 100000 in
theorem c_X5_rainIn {l : Launch} {dd : cl_D} {b : Nat} (hlt : l.stackTraces = false) {M : cl_M} {t0 : Nat} {a1 : Int32}  {o : Except (Nat × cl_M) (Int32 × cl_M)} (ht0 : cl_sh dd t0 = 5) (h : f_X5_rainIn M t0 a1 = some o) : cl_Xi l dd b yX5_rainIn cX5_rainIn 2 (some .int) 7 112 1 [.ref (b + t0), .int a1] M o :=
  cl_ofX hlt (by decide) (Nat.le_of_ble_eq_true rfl) (fun p e s m below meth c ls C TT hw hl => k_X5_rainIn C TT M t0 a1 o h _ _ _ ht0 hw (lv_sub hl [0, 1] rfl))
theorem cy_X5_rainIn : cl_cy yX5_rainIn cX5_rainIn 2 (some .int) 1 := ⟨in_ClothesLine, cd_X5_rainIn, by decide +kernel, by decide +kernel, by decide +kernel⟩
theorem vy_X5_rainIn : cl_vy yX5_rainIn := ⟨im_X5_rainIn, se_X5_rainIn⟩
def f_X5_sunnySpots (M : cl_M) (t0 : Nat) (a1 : Int32) : Option (Except (Nat × cl_M) (Int32 × cl_M)) := cl_x1 (f_X5_requireRange M a1 0 99999) (fun M4 => (f_X4_sunnyAt M4 ((t0 + 4) + 1) a1).bind (fun v5 => some (.ok (v5, M4))))
set_option maxHeartbeats 4000000 in
set_option maxRecDepth 100000 in
theorem k_X5_sunnySpots {p : Program} {l : Launch} {e : Env} {s : State} {m : MethodId} {args : Array Value} {below : List Frame} {meth : Method} {c : Code} {dd : cl_D} {b : Nat} (C : cl_C p l s m args meth c cX5_sunnySpots RX5 2 (some .int) dd b) (TT : cl_T c) : ∀ (M : cl_M) (t0 : Nat) (a1 : Int32) (o : Except (Nat × cl_M) (Int32 × cl_M)), f_X5_sunnySpots M t0 a1 = some o → ∀ (H : Heap) (locs : List Loc) (ls : Array Slot), cl_sh dd t0 = 5 → cl_H dd b M s H locs → lv_has ls 2 [(0, .ref (b + t0)), (1, .int a1)] → W p l e { frames := 7, cells := 1, slots := 6, locals := 112 } s m args below meth c H locs 0 0 (cl_Yi below args s dd b o 1) (F0 m 0 ls []) := by
  have hx := C.1
  have hb := C.2.1
  have hlt := C.2.2.2.2.2.2.2.2.2.2
  have hRr := C.2.2.2.2.2.2.2.2.2.1
  intro M t0 a1 o hf H locs ls ht0 hw hl
  unfold f_X5_sunnySpots at hf
  refine lv_iload_n hx hb dX5_sunnySpots_0 rfl (lv_at hl 1 rfl) ?_
  refine lv_iconst (v := 0) hx hb dX5_sunnySpots_1 (by decide) ?_
  refine lv_ldc (v := 99999) hx hb C.2.2.2.1 (C.2.2.2.2.1 _ kl_X5_102) dX5_sunnySpots_2 ?_
  obtain ⟨o2, e1, o2x, hf⟩ := cl_x1_e hf
  refine cr_XSv C hw TT (c_X5_requireRange hlt e1) cy_X5_requireRange st_X5_requireRange ml_X5_103 (As := [.int a1, .int 0, .int 99999]) rfl hl.1 rfl ⟨⟨Nat.le_of_ble_eq_true rfl, Nat.le_of_ble_eq_true rfl⟩, Nat.le_of_ble_eq_true rfl, Nat.le_of_ble_eq_true rfl, Nat.le_of_ble_eq_true rfl⟩ ⟨Nat.le_of_ble_eq_true rfl, Nat.le_of_ble_eq_true rfl⟩ dX5_sunnySpots_4 o2x (fun M4 eo2 H locs hw => ?_)
  have hf := hf M4 eo2
  refine lv_aload_n hx hb dX5_sunnySpots_7 rfl (lv_at hl 0 rfl) ?_
  refine fg_X5_19 C hw ht0 dX5_sunnySpots_8 ?_
  refine fg_X5_90 C hw (sh_5_1 ht0).1 dX5_sunnySpots_11 ?_
  refine lv_iload_n hx hb dX5_sunnySpots_14 rfl (lv_at hl 1 rfl) ?_
  obtain ⟨v5, e6, hf⟩ := cl_bind_e hf
  refine cr_Vi C hw (c_X4_sunnyAt hlt (sh_2_4 (sh_5_1 ht0).1).1 e6) cy_X4_sunnyAt vy_X4_sunnyAt ml_X5_114 (cl_lt (sh_2_4 (sh_5_1 ht0).1).1 (by decide)) (cl_e4 (sh_2_4 (sh_5_1 ht0).1).1) rfl rfl (As := [.int a1]) rfl hl.1 rfl ⟨⟨Nat.le_of_ble_eq_true rfl, Nat.le_of_ble_eq_true rfl⟩, Nat.le_of_ble_eq_true rfl, Nat.le_of_ble_eq_true rfl, Nat.le_of_ble_eq_true rfl⟩ dX5_sunnySpots_15 (fun H locs hw => ?_)
  obtain rfl := Option.some.inj hf
  exact cr_xreti C hw dX5_sunnySpots_18
set_option maxRecDepth 100000 in
theorem c_X5_sunnySpots {l : Launch} {dd : cl_D} {b : Nat} (hlt : l.stackTraces = false) {M : cl_M} {t0 : Nat} {a1 : Int32}  {o : Except (Nat × cl_M) (Int32 × cl_M)} (ht0 : cl_sh dd t0 = 5) (h : f_X5_sunnySpots M t0 a1 = some o) : cl_Xi l dd b yX5_sunnySpots cX5_sunnySpots 2 (some .int) 7 112 1 [.ref (b + t0), .int a1] M o :=
  cl_ofX hlt (by decide) (Nat.le_of_ble_eq_true rfl) (fun p e s m below meth c ls C TT hw hl => k_X5_sunnySpots C TT M t0 a1 o h _ _ _ ht0 hw (lv_sub hl [0, 1] rfl))
theorem cy_X5_sunnySpots : cl_cy yX5_sunnySpots cX5_sunnySpots 2 (some .int) 1 := ⟨in_ClothesLine, cd_X5_sunnySpots, by decide +kernel, by decide +kernel, by decide +kernel⟩
theorem vy_X5_sunnySpots : cl_vy yX5_sunnySpots := ⟨im_X5_sunnySpots, se_X5_sunnySpots⟩
def f_X5_smokySpots (M : cl_M) (t0 : Nat) (a1 : Int32) : Option (Except (Nat × cl_M) (Int32 × cl_M)) := cl_x1 (f_X5_requireRange M a1 0 99999) (fun M4 => (f_X4_smokyAt M4 ((t0 + 4) + 1) a1).bind (fun v5 => some (.ok (v5, M4))))
set_option maxHeartbeats 4000000 in
set_option maxRecDepth 100000 in
theorem k_X5_smokySpots {p : Program} {l : Launch} {e : Env} {s : State} {m : MethodId} {args : Array Value} {below : List Frame} {meth : Method} {c : Code} {dd : cl_D} {b : Nat} (C : cl_C p l s m args meth c cX5_smokySpots RX5 2 (some .int) dd b) (TT : cl_T c) : ∀ (M : cl_M) (t0 : Nat) (a1 : Int32) (o : Except (Nat × cl_M) (Int32 × cl_M)), f_X5_smokySpots M t0 a1 = some o → ∀ (H : Heap) (locs : List Loc) (ls : Array Slot), cl_sh dd t0 = 5 → cl_H dd b M s H locs → lv_has ls 2 [(0, .ref (b + t0)), (1, .int a1)] → W p l e { frames := 7, cells := 1, slots := 6, locals := 112 } s m args below meth c H locs 0 0 (cl_Yi below args s dd b o 1) (F0 m 0 ls []) := by
  have hx := C.1
  have hb := C.2.1
  have hlt := C.2.2.2.2.2.2.2.2.2.2
  have hRr := C.2.2.2.2.2.2.2.2.2.1
  intro M t0 a1 o hf H locs ls ht0 hw hl
  unfold f_X5_smokySpots at hf
  refine lv_iload_n hx hb dX5_smokySpots_0 rfl (lv_at hl 1 rfl) ?_
  refine lv_iconst (v := 0) hx hb dX5_smokySpots_1 (by decide) ?_
  refine lv_ldc (v := 99999) hx hb C.2.2.2.1 (C.2.2.2.2.1 _ kl_X5_102) dX5_smokySpots_2 ?_
  obtain ⟨o2, e1, o2x, hf⟩ := cl_x1_e hf
  refine cr_XSv C hw TT (c_X5_requireRange hlt e1) cy_X5_requireRange st_X5_requireRange ml_X5_103 (As := [.int a1, .int 0, .int 99999]) rfl hl.1 rfl ⟨⟨Nat.le_of_ble_eq_true rfl, Nat.le_of_ble_eq_true rfl⟩, Nat.le_of_ble_eq_true rfl, Nat.le_of_ble_eq_true rfl, Nat.le_of_ble_eq_true rfl⟩ ⟨Nat.le_of_ble_eq_true rfl, Nat.le_of_ble_eq_true rfl⟩ dX5_smokySpots_4 o2x (fun M4 eo2 H locs hw => ?_)
  have hf := hf M4 eo2
  refine lv_aload_n hx hb dX5_smokySpots_7 rfl (lv_at hl 0 rfl) ?_
  refine fg_X5_19 C hw ht0 dX5_smokySpots_8 ?_
  refine fg_X5_90 C hw (sh_5_1 ht0).1 dX5_smokySpots_11 ?_
  refine lv_iload_n hx hb dX5_smokySpots_14 rfl (lv_at hl 1 rfl) ?_
  obtain ⟨v5, e6, hf⟩ := cl_bind_e hf
  refine cr_Vi C hw (c_X4_smokyAt hlt (sh_2_4 (sh_5_1 ht0).1).1 e6) cy_X4_smokyAt vy_X4_smokyAt ml_X5_117 (cl_lt (sh_2_4 (sh_5_1 ht0).1).1 (by decide)) (cl_e4 (sh_2_4 (sh_5_1 ht0).1).1) rfl rfl (As := [.int a1]) rfl hl.1 rfl ⟨⟨Nat.le_of_ble_eq_true rfl, Nat.le_of_ble_eq_true rfl⟩, Nat.le_of_ble_eq_true rfl, Nat.le_of_ble_eq_true rfl, Nat.le_of_ble_eq_true rfl⟩ dX5_smokySpots_15 (fun H locs hw => ?_)
  obtain rfl := Option.some.inj hf
  exact cr_xreti C hw dX5_smokySpots_18
set_option maxRecDepth 100000 in
theorem c_X5_smokySpots {l : Launch} {dd : cl_D} {b : Nat} (hlt : l.stackTraces = false) {M : cl_M} {t0 : Nat} {a1 : Int32}  {o : Except (Nat × cl_M) (Int32 × cl_M)} (ht0 : cl_sh dd t0 = 5) (h : f_X5_smokySpots M t0 a1 = some o) : cl_Xi l dd b yX5_smokySpots cX5_smokySpots 2 (some .int) 7 112 1 [.ref (b + t0), .int a1] M o :=
  cl_ofX hlt (by decide) (Nat.le_of_ble_eq_true rfl) (fun p e s m below meth c ls C TT hw hl => k_X5_smokySpots C TT M t0 a1 o h _ _ _ ht0 hw (lv_sub hl [0, 1] rfl))
theorem cy_X5_smokySpots : cl_cy yX5_smokySpots cX5_smokySpots 2 (some .int) 1 := ⟨in_ClothesLine, cd_X5_smokySpots, by decide +kernel, by decide +kernel, by decide +kernel⟩
theorem vy_X5_smokySpots : cl_vy yX5_smokySpots := ⟨im_X5_smokySpots, se_X5_smokySpots⟩
def f_X5_minutesToRain (M : cl_M) (t0 : Nat) : Option (Int32) := (f_X4_waitForRain M ((t0 + 4) + 1) (M (t0 + 4) 2)).bind (fun v1 => some v1)
set_option maxHeartbeats 4000000 in
set_option maxRecDepth 100000 in
theorem k_X5_minutesToRain {p : Program} {l : Launch} {e : Env} {s : State} {m : MethodId} {args : Array Value} {below : List Frame} {meth : Method} {c : Code} {dd : cl_D} {b : Nat} (C : cl_C p l s m args meth c cX5_minutesToRain RX5 1 (some .int) dd b) : ∀ (M : cl_M) (t0 : Nat) (r : Int32), f_X5_minutesToRain M t0 = some r → ∀ (H : Heap) (locs : List Loc) (ls : Array Slot), cl_sh dd t0 = 5 → cl_H dd b M s H locs → lv_has ls 1 [(0, .ref (b + t0))] → W p l e { frames := 2, cells := 0, slots := 0, locals := 37 } s m args below meth c H locs 0 0 (cl_Zi below args s dd b r M) (F0 m 0 ls []) := by
  have hx := C.1
  have hb := C.2.1
  have hlt := C.2.2.2.2.2.2.2.2.2.2
  have hRr := C.2.2.2.2.2.2.2.2.2.1
  intro M t0 r hf H locs ls ht0 hw hl
  unfold f_X5_minutesToRain at hf
  refine lv_aload_n hx hb dX5_minutesToRain_0 rfl (lv_at hl 0 rfl) ?_
  refine fg_X5_19 C hw ht0 dX5_minutesToRain_1 ?_
  refine fg_X5_90 C hw (sh_5_1 ht0).1 dX5_minutesToRain_4 ?_
  refine lv_aload_n hx hb dX5_minutesToRain_7 rfl (lv_at hl 0 rfl) ?_
  refine fg_X5_19 C hw ht0 dX5_minutesToRain_8 ?_
  refine fg_X5_87 C hw (sh_5_1 ht0).1 dX5_minutesToRain_11 ?_
  obtain ⟨v1, e2, hf⟩ := cl_bind_e hf
  refine cr_Vi C hw (c_X4_waitForRain hlt (sh_2_4 (sh_5_1 ht0).1).1 e2) cy_X4_waitForRain vy_X4_waitForRain ml_X5_120 (cl_lt (sh_2_4 (sh_5_1 ht0).1).1 (by decide)) (cl_e4 (sh_2_4 (sh_5_1 ht0).1).1) rfl rfl (As := [.int (M (t0 + 4) 2)]) rfl hl.1 rfl ⟨⟨Nat.le_of_ble_eq_true rfl, Nat.le_of_ble_eq_true rfl⟩, Nat.le_of_ble_eq_true rfl, Nat.le_of_ble_eq_true rfl, Nat.le_of_ble_eq_true rfl⟩ dX5_minutesToRain_14 (fun H locs hw => ?_)
  obtain rfl := Option.some.inj hf
  exact cr_reti C hw dX5_minutesToRain_17
set_option maxRecDepth 100000 in
theorem c_X5_minutesToRain {l : Launch} {dd : cl_D} {b : Nat} (hlt : l.stackTraces = false) {M : cl_M} {t0 : Nat}  {r : Int32} (ht0 : cl_sh dd t0 = 5) (h : f_X5_minutesToRain M t0 = some r) : cl_Mi l dd b yX5_minutesToRain cX5_minutesToRain 1 (some .int) 2 37 [.ref (b + t0)] M r M :=
  cl_of hlt (by decide) (Nat.le_of_ble_eq_true rfl) (fun p e s m below meth c ls C hw hl => k_X5_minutesToRain C M t0 r h _ _ _ ht0 hw (lv_sub hl [0] rfl))
theorem cy_X5_minutesToRain : cl_cy yX5_minutesToRain cX5_minutesToRain 1 (some .int) 0 := ⟨in_ClothesLine, cd_X5_minutesToRain, by decide +kernel, by decide +kernel, by decide +kernel⟩
theorem vy_X5_minutesToRain : cl_vy yX5_minutesToRain := ⟨im_X5_minutesToRain, se_X5_minutesToRain⟩
def f_X5_woodenLeft (M : cl_M) (t0 : Nat) : Option (Int32) := (f_X2_woodenInBag M (t0 + 4)).bind (fun v1 => some v1)
set_option maxHeartbeats 4000000 in
set_option maxRecDepth 100000 in
theorem k_X5_woodenLeft {p : Program} {l : Launch} {e : Env} {s : State} {m : MethodId} {args : Array Value} {below : List Frame} {meth : Method} {c : Code} {dd : cl_D} {b : Nat} (C : cl_C p l s m args meth c cX5_woodenLeft RX5 1 (some .int) dd b) : ∀ (M : cl_M) (t0 : Nat) (r : Int32), f_X5_woodenLeft M t0 = some r → ∀ (H : Heap) (locs : List Loc) (ls : Array Slot), cl_sh dd t0 = 5 → cl_H dd b M s H locs → lv_has ls 1 [(0, .ref (b + t0))] → W p l e { frames := 1, cells := 0, slots := 0, locals := 22 } s m args below meth c H locs 0 0 (cl_Zi below args s dd b r M) (F0 m 0 ls []) := by
  have hx := C.1
  have hb := C.2.1
  have hlt := C.2.2.2.2.2.2.2.2.2.2
  have hRr := C.2.2.2.2.2.2.2.2.2.1
  intro M t0 r hf H locs ls ht0 hw hl
  unfold f_X5_woodenLeft at hf
  refine lv_aload_n hx hb dX5_woodenLeft_0 rfl (lv_at hl 0 rfl) ?_
  refine fg_X5_19 C hw ht0 dX5_woodenLeft_1 ?_
  obtain ⟨v1, e2, hf⟩ := cl_bind_e hf
  refine cr_Vi C hw (c_X2_woodenInBag hlt (sh_5_1 ht0).1 e2) cy_X2_woodenInBag vy_X2_woodenInBag ml_X5_123 (cl_lt (sh_5_1 ht0).1 (by decide)) (cl_e2 (sh_5_1 ht0).1) rfl rfl (As := []) rfl hl.1 rfl ⟨⟨Nat.le_of_ble_eq_true rfl, Nat.le_of_ble_eq_true rfl⟩, Nat.le_of_ble_eq_true rfl, Nat.le_of_ble_eq_true rfl, Nat.le_of_ble_eq_true rfl⟩ dX5_woodenLeft_4 (fun H locs hw => ?_)
  obtain rfl := Option.some.inj hf
  exact cr_reti C hw dX5_woodenLeft_7
set_option maxRecDepth 100000 in
theorem c_X5_woodenLeft {l : Launch} {dd : cl_D} {b : Nat} (hlt : l.stackTraces = false) {M : cl_M} {t0 : Nat}  {r : Int32} (ht0 : cl_sh dd t0 = 5) (h : f_X5_woodenLeft M t0 = some r) : cl_Mi l dd b yX5_woodenLeft cX5_woodenLeft 1 (some .int) 1 22 [.ref (b + t0)] M r M :=
  cl_of hlt (by decide) (Nat.le_of_ble_eq_true rfl) (fun p e s m below meth c ls C hw hl => k_X5_woodenLeft C M t0 r h _ _ _ ht0 hw (lv_sub hl [0] rfl))
theorem cy_X5_woodenLeft : cl_cy yX5_woodenLeft cX5_woodenLeft 1 (some .int) 0 := ⟨in_ClothesLine, cd_X5_woodenLeft, by decide +kernel, by decide +kernel, by decide +kernel⟩
theorem vy_X5_woodenLeft : cl_vy yX5_woodenLeft := ⟨im_X5_woodenLeft, se_X5_woodenLeft⟩
def f_X5_steelLeft (M : cl_M) (t0 : Nat) : Option (Int32) := (f_X2_steelInBag M (t0 + 4)).bind (fun v1 => some v1)
set_option maxHeartbeats 4000000 in
set_option maxRecDepth 100000 in
theorem k_X5_steelLeft {p : Program} {l : Launch} {e : Env} {s : State} {m : MethodId} {args : Array Value} {below : List Frame} {meth : Method} {c : Code} {dd : cl_D} {b : Nat} (C : cl_C p l s m args meth c cX5_steelLeft RX5 1 (some .int) dd b) : ∀ (M : cl_M) (t0 : Nat) (r : Int32), f_X5_steelLeft M t0 = some r → ∀ (H : Heap) (locs : List Loc) (ls : Array Slot), cl_sh dd t0 = 5 → cl_H dd b M s H locs → lv_has ls 1 [(0, .ref (b + t0))] → W p l e { frames := 1, cells := 0, slots := 0, locals := 22 } s m args below meth c H locs 0 0 (cl_Zi below args s dd b r M) (F0 m 0 ls []) := by
  have hx := C.1
  have hb := C.2.1
  have hlt := C.2.2.2.2.2.2.2.2.2.2
  have hRr := C.2.2.2.2.2.2.2.2.2.1
  intro M t0 r hf H locs ls ht0 hw hl
  unfold f_X5_steelLeft at hf
  refine lv_aload_n hx hb dX5_steelLeft_0 rfl (lv_at hl 0 rfl) ?_
  refine fg_X5_19 C hw ht0 dX5_steelLeft_1 ?_
  obtain ⟨v1, e2, hf⟩ := cl_bind_e hf
  refine cr_Vi C hw (c_X2_steelInBag hlt (sh_5_1 ht0).1 e2) cy_X2_steelInBag vy_X2_steelInBag ml_X5_127 (cl_lt (sh_5_1 ht0).1 (by decide)) (cl_e2 (sh_5_1 ht0).1) rfl rfl (As := []) rfl hl.1 rfl ⟨⟨Nat.le_of_ble_eq_true rfl, Nat.le_of_ble_eq_true rfl⟩, Nat.le_of_ble_eq_true rfl, Nat.le_of_ble_eq_true rfl, Nat.le_of_ble_eq_true rfl⟩ dX5_steelLeft_4 (fun H locs hw => ?_)
  obtain rfl := Option.some.inj hf
  exact cr_reti C hw dX5_steelLeft_7
set_option maxRecDepth 100000 in
theorem c_X5_steelLeft {l : Launch} {dd : cl_D} {b : Nat} (hlt : l.stackTraces = false) {M : cl_M} {t0 : Nat}  {r : Int32} (ht0 : cl_sh dd t0 = 5) (h : f_X5_steelLeft M t0 = some r) : cl_Mi l dd b yX5_steelLeft cX5_steelLeft 1 (some .int) 1 22 [.ref (b + t0)] M r M :=
  cl_of hlt (by decide) (Nat.le_of_ble_eq_true rfl) (fun p e s m below meth c ls C hw hl => k_X5_steelLeft C M t0 r h _ _ _ ht0 hw (lv_sub hl [0] rfl))
theorem cy_X5_steelLeft : cl_cy yX5_steelLeft cX5_steelLeft 1 (some .int) 0 := ⟨in_ClothesLine, cd_X5_steelLeft, by decide +kernel, by decide +kernel, by decide +kernel⟩
theorem vy_X5_steelLeft : cl_vy yX5_steelLeft := ⟨im_X5_steelLeft, se_X5_steelLeft⟩
def f_X5_freeSpots (M : cl_M) (t0 : Nat) : Option (Int32) := (f_X2_occupied M (t0 + 4)).bind (fun v1 => some (16777215 &&& (v1 ^^^ (-1))))
set_option maxHeartbeats 4000000 in
set_option maxRecDepth 100000 in
theorem k_X5_freeSpots {p : Program} {l : Launch} {e : Env} {s : State} {m : MethodId} {args : Array Value} {below : List Frame} {meth : Method} {c : Code} {dd : cl_D} {b : Nat} (C : cl_C p l s m args meth c cX5_freeSpots RX5 1 (some .int) dd b) : ∀ (M : cl_M) (t0 : Nat) (r : Int32), f_X5_freeSpots M t0 = some r → ∀ (H : Heap) (locs : List Loc) (ls : Array Slot), cl_sh dd t0 = 5 → cl_H dd b M s H locs → lv_has ls 1 [(0, .ref (b + t0))] → W p l e { frames := 1, cells := 0, slots := 0, locals := 22 } s m args below meth c H locs 0 0 (cl_Zi below args s dd b r M) (F0 m 0 ls []) := by
  have hx := C.1
  have hb := C.2.1
  have hlt := C.2.2.2.2.2.2.2.2.2.2
  have hRr := C.2.2.2.2.2.2.2.2.2.1
  intro M t0 r hf H locs ls ht0 hw hl
  unfold f_X5_freeSpots at hf
  refine lv_ldc (v := 16777215) hx hb C.2.2.2.1 (C.2.2.2.2.1 _ kl_X5_130) dX5_freeSpots_0 ?_
  refine lv_aload_n hx hb dX5_freeSpots_2 rfl (lv_at hl 0 rfl) ?_
  refine fg_X5_19 C hw ht0 dX5_freeSpots_3 ?_
  obtain ⟨v1, e2, hf⟩ := cl_bind_e hf
  refine cr_Vi C hw (c_X2_occupied hlt (sh_5_1 ht0).1 e2) cy_X2_occupied vy_X2_occupied ml_X5_131 (cl_lt (sh_5_1 ht0).1 (by decide)) (cl_e2 (sh_5_1 ht0).1) rfl rfl (As := []) rfl hl.1 rfl ⟨⟨Nat.le_of_ble_eq_true rfl, Nat.le_of_ble_eq_true rfl⟩, Nat.le_of_ble_eq_true rfl, Nat.le_of_ble_eq_true rfl, Nat.le_of_ble_eq_true rfl⟩ dX5_freeSpots_6 (fun H locs hw => ?_)
  refine lv_iconst (v := (-1)) hx hb dX5_freeSpots_9 (by decide) ?_
  refine lv_ixor hx hb dX5_freeSpots_10 ?_
  refine lv_iand hx hb dX5_freeSpots_11 ?_
  obtain rfl := Option.some.inj hf
  exact cr_reti C hw dX5_freeSpots_12
set_option maxRecDepth 100000 in
theorem c_X5_freeSpots {l : Launch} {dd : cl_D} {b : Nat} (hlt : l.stackTraces = false) {M : cl_M} {t0 : Nat}  {r : Int32} (ht0 : cl_sh dd t0 = 5) (h : f_X5_freeSpots M t0 = some r) : cl_Mi l dd b yX5_freeSpots cX5_freeSpots 1 (some .int) 1 22 [.ref (b + t0)] M r M :=
  cl_of hlt (by decide) (Nat.le_of_ble_eq_true rfl) (fun p e s m below meth c ls C hw hl => k_X5_freeSpots C M t0 r h _ _ _ ht0 hw (lv_sub hl [0] rfl))
theorem cy_X5_freeSpots : cl_cy yX5_freeSpots cX5_freeSpots 1 (some .int) 0 := ⟨in_ClothesLine, cd_X5_freeSpots, by decide +kernel, by decide +kernel, by decide +kernel⟩
theorem vy_X5_freeSpots : cl_vy yX5_freeSpots := ⟨im_X5_freeSpots, se_X5_freeSpots⟩
def f_X5_longestGap_38 (r15 : cl_M → Int32 → Int32 → Int32 → Int32 → Option (Int32)) (M : cl_M) (a1 : Int32) (a2 : Int32) (a4 : Int32) (z0 : Int32) : Option (Int32) := cl_let (if a2 < z0 then z0 else a2) (fun v5 => cl_let (a4 + 1) (fun v6 => r15 M a1 v5 z0 v6))
set_option maxHeartbeats 4000000 in
set_option maxRecDepth 100000 in
theorem k_X5_longestGap_38 {p : Program} {l : Launch} {e : Env} {s : State} {m : MethodId} {args : Array Value} {below : List Frame} {meth : Method} {c : Code} {dd : cl_D} {b : Nat} (C : cl_C p l s m args meth c cX5_longestGap RX5 5 (some .int) dd b) {r15 : cl_M → Int32 → Int32 → Int32 → Int32 → Option (Int32)} (hr15 : ∀ (M : cl_M) (a1 : Int32) (a2 : Int32) (a3 : Int32) (a4 : Int32) (r : Int32), r15 M a1 a2 a3 a4 = some r → ∀ (H : Heap) (locs : List Loc) (ls : Array Slot), cl_H dd b M s H locs → lv_has ls 5 [(1, .int a1), (2, .int a2), (3, .int a3), (4, .int a4)] → W p l e { frames := 1, cells := 0, slots := 0, locals := 22 } s m args below meth c H locs 0 0 (cl_Zi below args s dd b r M) (F0 m 15 ls [])) : ∀ (M : cl_M) (a1 : Int32) (a2 : Int32) (a4 : Int32) (z0 : Int32) (r : Int32), f_X5_longestGap_38 r15 M a1 a2 a4 z0 = some r → ∀ (H : Heap) (locs : List Loc) (ls : Array Slot), cl_H dd b M s H locs → lv_has ls 5 [(1, .int a1), (2, .int a2), (4, .int a4)] → W p l e { frames := 1, cells := 0, slots := 0, locals := 22 } s m args below meth c H locs 0 0 (cl_Zi below args s dd b r M) (F0 m 38 ls [.int z0]) := by
  have hx := C.1
  have hb := C.2.1
  have hlt := C.2.2.2.2.2.2.2.2.2.2
  have hRr := C.2.2.2.2.2.2.2.2.2.1
  intro M a1 a2 a4 z0 r hf H locs ls hw hl
  unfold f_X5_longestGap_38 at hf
  refine lv_istore_n (lv' := [(3, .int z0), (1, .int a1), (2, .int a2), (4, .int a4)]) hx hb dX5_longestGap_38 rfl hl (by decide) rfl (fun ls hl => ?_)
  refine lv_iload_n hx hb dX5_longestGap_39 rfl (lv_at hl 2 rfl) ?_
  refine lv_iload_n hx hb dX5_longestGap_40 rfl (lv_at hl 0 rfl) ?_
  refine cr_max C ml_X5_134 st_math_max in_math cd_math_max hl.1 ⟨Nat.le_of_ble_eq_true rfl, Nat.le_of_ble_eq_true rfl, Nat.le_of_ble_eq_true rfl, Nat.le_of_ble_eq_true rfl⟩ dX5_longestGap_41 ?_
  obtain ⟨v5, ev5, hf⟩ := cl_let_e hf
  refine cr_top ev5 ?_
  refine lv_istore_n (lv' := [(2, .int v5), (3, .int z0), (1, .int a1), (4, .int a4)]) hx hb dX5_longestGap_44 rfl hl (by decide) rfl (fun ls hl => ?_)
  obtain ⟨v6, ev6, hf⟩ := cl_let_e hf
  refine lv_iinc (v := v6) (lv' := [(4, .int v6), (2, .int v5), (3, .int z0), (1, .int a1)]) hx hb dX5_longestGap_45 hl (k := 3) rfl (by rw [ev6]; rfl) (by decide) rfl (fun ls hl => ?_)
  refine lv_goto (tgt := 15) hx hb dX5_longestGap_48 (by decide) ?_
  exact hr15 M a1 v5 z0 v6 _ hf _ _ _ hw (lv_sub hl [3, 1, 2, 0] rfl)
def f_X5_longestGap_15 : Nat → cl_M → Int32 → Int32 → Int32 → Int32 → Option (Int32)
  | 0, _, _, _, _, _ => none
  | k + 1, M, a1, a2, a3, a4 => if 24 ≤ a4 then some a2 else if ((a1 >>> (a4 &&& 31)) &&& 1) = 0 then f_X5_longestGap_38 (f_X5_longestGap_15 k) M a1 a2 a4 (a3 + 1) else f_X5_longestGap_38 (f_X5_longestGap_15 k) M a1 a2 a4 0
set_option maxHeartbeats 4000000 in
set_option maxRecDepth 100000 in
theorem k_X5_longestGap_15 {p : Program} {l : Launch} {e : Env} {s : State} {m : MethodId} {args : Array Value} {below : List Frame} {meth : Method} {c : Code} {dd : cl_D} {b : Nat} (C : cl_C p l s m args meth c cX5_longestGap RX5 5 (some .int) dd b) : ∀ (k : Nat), ∀ (M : cl_M) (a1 : Int32) (a2 : Int32) (a3 : Int32) (a4 : Int32) (r : Int32), f_X5_longestGap_15 k M a1 a2 a3 a4 = some r → ∀ (H : Heap) (locs : List Loc) (ls : Array Slot), cl_H dd b M s H locs → lv_has ls 5 [(1, .int a1), (2, .int a2), (3, .int a3), (4, .int a4)] → W p l e { frames := 1, cells := 0, slots := 0, locals := 22 } s m args below meth c H locs 0 0 (cl_Zi below args s dd b r M) (F0 m 15 ls []) := by
  have hx := C.1
  have hb := C.2.1
  have hlt := C.2.2.2.2.2.2.2.2.2.2
  have hRr := C.2.2.2.2.2.2.2.2.2.1
  intro k
  induction k with
  | zero =>
    intro M a1 a2 a3 a4 r hf H locs ls hw hl
    rw [f_X5_longestGap_15] at hf
    cases hf
  | succ k ih =>
    intro M a1 a2 a3 a4 r hf H locs ls hw hl
    rw [f_X5_longestGap_15] at hf
    refine lv_iload hx hb dX5_longestGap_15 (lv_at hl 3 rfl) ?_
    refine lv_bipush (v := 24) hx hb dX5_longestGap_17 (by decide) ?_
    refine lv_icmp_ge (tgt := 51) hx hb dX5_longestGap_19 (by decide) (fun c3 => ?_) (fun c3 => ?_)
    · have hf := cl_yes c3 hf
      refine lv_iload_n hx hb dX5_longestGap_51 rfl (lv_at hl 1 rfl) ?_
      obtain rfl := Option.some.inj hf
      exact cr_reti C hw dX5_longestGap_52
    · have hf := cl_no c3 hf
      refine lv_iload_n hx hb dX5_longestGap_22 rfl (lv_at hl 0 rfl) ?_
      refine lv_iload hx hb dX5_longestGap_23 (lv_at hl 3 rfl) ?_
      refine lv_ishr hx hb dX5_longestGap_25 ?_
      refine lv_iconst (v := 1) hx hb dX5_longestGap_26 (by decide) ?_
      refine lv_iand hx hb dX5_longestGap_27 ?_
      refine lv_if_ne (tgt := 37) hx hb dX5_longestGap_28 (by decide) (fun c4 => ?_) (fun c4 => ?_)
      · have hf := cl_no c4 hf
        refine lv_iconst (v := 0) hx hb dX5_longestGap_37 (by decide) ?_
        exact k_X5_longestGap_38 C ih M a1 a2 a4 0 _ hf _ _ _ hw (lv_sub hl [0, 1, 3] rfl)
      · have hf := cl_yes c4 hf
        refine lv_iload_n hx hb dX5_longestGap_31 rfl (lv_at hl 2 rfl) ?_
        refine lv_iconst (v := 1) hx hb dX5_longestGap_32 (by decide) ?_
        refine lv_iadd hx hb dX5_longestGap_33 ?_
        refine lv_goto (tgt := 38) hx hb dX5_longestGap_34 (by decide) ?_
        exact k_X5_longestGap_38 C ih M a1 a2 a4 (a3 + 1) _ hf _ _ _ hw (lv_sub hl [0, 1, 3] rfl)
def f_X5_longestGap (M : cl_M) (t0 : Nat) : Option (Int32) := (f_X2_occupied M (t0 + 4)).bind (fun v1 => f_X5_longestGap_15 cl_F M v1 0 0 0)
set_option maxHeartbeats 4000000 in
set_option maxRecDepth 100000 in
theorem k_X5_longestGap {p : Program} {l : Launch} {e : Env} {s : State} {m : MethodId} {args : Array Value} {below : List Frame} {meth : Method} {c : Code} {dd : cl_D} {b : Nat} (C : cl_C p l s m args meth c cX5_longestGap RX5 5 (some .int) dd b) : ∀ (M : cl_M) (t0 : Nat) (r : Int32), f_X5_longestGap M t0 = some r → ∀ (H : Heap) (locs : List Loc) (ls : Array Slot), cl_sh dd t0 = 5 → cl_H dd b M s H locs → lv_has ls 5 [(0, .ref (b + t0))] → W p l e { frames := 1, cells := 0, slots := 0, locals := 22 } s m args below meth c H locs 0 0 (cl_Zi below args s dd b r M) (F0 m 0 ls []) := by
  have hx := C.1
  have hb := C.2.1
  have hlt := C.2.2.2.2.2.2.2.2.2.2
  have hRr := C.2.2.2.2.2.2.2.2.2.1
  intro M t0 r hf H locs ls ht0 hw hl
  unfold f_X5_longestGap at hf
  refine lv_aload_n hx hb dX5_longestGap_0 rfl (lv_at hl 0 rfl) ?_
  refine fg_X5_19 C hw ht0 dX5_longestGap_1 ?_
  obtain ⟨v1, e2, hf⟩ := cl_bind_e hf
  refine cr_Vi C hw (c_X2_occupied hlt (sh_5_1 ht0).1 e2) cy_X2_occupied vy_X2_occupied ml_X5_131 (cl_lt (sh_5_1 ht0).1 (by decide)) (cl_e2 (sh_5_1 ht0).1) rfl rfl (As := []) rfl hl.1 rfl ⟨⟨Nat.le_of_ble_eq_true rfl, Nat.le_of_ble_eq_true rfl⟩, Nat.le_of_ble_eq_true rfl, Nat.le_of_ble_eq_true rfl, Nat.le_of_ble_eq_true rfl⟩ dX5_longestGap_4 (fun H locs hw => ?_)
  refine lv_istore_n (lv' := [(1, .int v1), (0, .ref (b + t0))]) hx hb dX5_longestGap_7 rfl hl (by decide) rfl (fun ls hl => ?_)
  refine lv_iconst (v := 0) hx hb dX5_longestGap_8 (by decide) ?_
  refine lv_istore_n (lv' := [(2, .int 0), (1, .int v1), (0, .ref (b + t0))]) hx hb dX5_longestGap_9 rfl hl (by decide) rfl (fun ls hl => ?_)
  refine lv_iconst (v := 0) hx hb dX5_longestGap_10 (by decide) ?_
  refine lv_istore_n (lv' := [(3, .int 0), (2, .int 0), (1, .int v1), (0, .ref (b + t0))]) hx hb dX5_longestGap_11 rfl hl (by decide) rfl (fun ls hl => ?_)
  refine lv_iconst (v := 0) hx hb dX5_longestGap_12 (by decide) ?_
  refine lv_istore (lv' := [(4, .int 0), (3, .int 0), (2, .int 0), (1, .int v1), (0, .ref (b + t0))]) hx hb dX5_longestGap_13 hl (by decide) rfl (fun ls hl => ?_)
  exact k_X5_longestGap_15 C cl_F M v1 0 0 0 _ hf _ _ _ hw (lv_sub hl [3, 2, 1, 0] rfl)
set_option maxRecDepth 100000 in
theorem c_X5_longestGap {l : Launch} {dd : cl_D} {b : Nat} (hlt : l.stackTraces = false) {M : cl_M} {t0 : Nat}  {r : Int32} (ht0 : cl_sh dd t0 = 5) (h : f_X5_longestGap M t0 = some r) : cl_Mi l dd b yX5_longestGap cX5_longestGap 5 (some .int) 1 22 [.ref (b + t0)] M r M :=
  cl_of hlt (by decide) (Nat.le_of_ble_eq_true rfl) (fun p e s m below meth c ls C hw hl => k_X5_longestGap C M t0 r h _ _ _ ht0 hw (lv_sub hl [0] rfl))
theorem cy_X5_longestGap : cl_cy yX5_longestGap cX5_longestGap 5 (some .int) 0 := ⟨in_ClothesLine, cd_X5_longestGap, by decide +kernel, by decide +kernel, by decide +kernel⟩
theorem vy_X5_longestGap : cl_vy yX5_longestGap := ⟨im_X5_longestGap, se_X5_longestGap⟩
def f_X5_garmentAt (M : cl_M) (t0 : Nat) (a1 : Int32) : Option (Except (Nat × cl_M) (Int32 × cl_M)) := cl_x1 (f_X5_requireRange M a1 0 23) (fun M4 => (f_X2_occupant M4 (t0 + 4) a1).bind (fun v5 => some (.ok (v5, M4))))
set_option maxHeartbeats 4000000 in
set_option maxRecDepth 100000 in
theorem k_X5_garmentAt {p : Program} {l : Launch} {e : Env} {s : State} {m : MethodId} {args : Array Value} {below : List Frame} {meth : Method} {c : Code} {dd : cl_D} {b : Nat} (C : cl_C p l s m args meth c cX5_garmentAt RX5 2 (some .int) dd b) (TT : cl_T c) : ∀ (M : cl_M) (t0 : Nat) (a1 : Int32) (o : Except (Nat × cl_M) (Int32 × cl_M)), f_X5_garmentAt M t0 a1 = some o → ∀ (H : Heap) (locs : List Loc) (ls : Array Slot), cl_sh dd t0 = 5 → cl_H dd b M s H locs → lv_has ls 2 [(0, .ref (b + t0)), (1, .int a1)] → W p l e { frames := 7, cells := 1, slots := 6, locals := 112 } s m args below meth c H locs 0 0 (cl_Yi below args s dd b o 1) (F0 m 0 ls []) := by
  have hx := C.1
  have hb := C.2.1
  have hlt := C.2.2.2.2.2.2.2.2.2.2
  have hRr := C.2.2.2.2.2.2.2.2.2.1
  intro M t0 a1 o hf H locs ls ht0 hw hl
  unfold f_X5_garmentAt at hf
  refine lv_iload_n hx hb dX5_garmentAt_0 rfl (lv_at hl 1 rfl) ?_
  refine lv_iconst (v := 0) hx hb dX5_garmentAt_1 (by decide) ?_
  refine lv_bipush (v := 23) hx hb dX5_garmentAt_2 (by decide) ?_
  obtain ⟨o2, e1, o2x, hf⟩ := cl_x1_e hf
  refine cr_XSv C hw TT (c_X5_requireRange hlt e1) cy_X5_requireRange st_X5_requireRange ml_X5_103 (As := [.int a1, .int 0, .int 23]) rfl hl.1 rfl ⟨⟨Nat.le_of_ble_eq_true rfl, Nat.le_of_ble_eq_true rfl⟩, Nat.le_of_ble_eq_true rfl, Nat.le_of_ble_eq_true rfl, Nat.le_of_ble_eq_true rfl⟩ ⟨Nat.le_of_ble_eq_true rfl, Nat.le_of_ble_eq_true rfl⟩ dX5_garmentAt_4 o2x (fun M4 eo2 H locs hw => ?_)
  have hf := hf M4 eo2
  refine lv_aload_n hx hb dX5_garmentAt_7 rfl (lv_at hl 0 rfl) ?_
  refine fg_X5_19 C hw ht0 dX5_garmentAt_8 ?_
  refine lv_iload_n hx hb dX5_garmentAt_11 rfl (lv_at hl 1 rfl) ?_
  obtain ⟨v5, e6, hf⟩ := cl_bind_e hf
  refine cr_Vi C hw (c_X2_occupant hlt (sh_5_1 ht0).1 e6) cy_X2_occupant vy_X2_occupant ml_X5_140 (cl_lt (sh_5_1 ht0).1 (by decide)) (cl_e2 (sh_5_1 ht0).1) rfl rfl (As := [.int a1]) rfl hl.1 rfl ⟨⟨Nat.le_of_ble_eq_true rfl, Nat.le_of_ble_eq_true rfl⟩, Nat.le_of_ble_eq_true rfl, Nat.le_of_ble_eq_true rfl, Nat.le_of_ble_eq_true rfl⟩ dX5_garmentAt_12 (fun H locs hw => ?_)
  obtain rfl := Option.some.inj hf
  exact cr_xreti C hw dX5_garmentAt_15
set_option maxRecDepth 100000 in
theorem c_X5_garmentAt {l : Launch} {dd : cl_D} {b : Nat} (hlt : l.stackTraces = false) {M : cl_M} {t0 : Nat} {a1 : Int32}  {o : Except (Nat × cl_M) (Int32 × cl_M)} (ht0 : cl_sh dd t0 = 5) (h : f_X5_garmentAt M t0 a1 = some o) : cl_Xi l dd b yX5_garmentAt cX5_garmentAt 2 (some .int) 7 112 1 [.ref (b + t0), .int a1] M o :=
  cl_ofX hlt (by decide) (Nat.le_of_ble_eq_true rfl) (fun p e s m below meth c ls C TT hw hl => k_X5_garmentAt C TT M t0 a1 o h _ _ _ ht0 hw (lv_sub hl [0, 1] rfl))
theorem cy_X5_garmentAt : cl_cy yX5_garmentAt cX5_garmentAt 2 (some .int) 1 := ⟨in_ClothesLine, cd_X5_garmentAt, by decide +kernel, by decide +kernel, by decide +kernel⟩
theorem vy_X5_garmentAt : cl_vy yX5_garmentAt := ⟨im_X5_garmentAt, se_X5_garmentAt⟩
def f_X5_garmentByPlace_51 (r7 : cl_M → Nat → Int32 → Int32 → Int32 → Int32 → Option (Int32)) (M : cl_M) (t0 : Nat) (a1 : Int32) (a2 : Int32) (a3 : Int32) (a4 : Int32) : Option (Int32) := cl_let (a4 + 1) (fun v5 => r7 M t0 a1 a2 a3 v5)
set_option maxHeartbeats 4000000 in
set_option maxRecDepth 100000 in
theorem k_X5_garmentByPlace_51 {p : Program} {l : Launch} {e : Env} {s : State} {m : MethodId} {args : Array Value} {below : List Frame} {meth : Method} {c : Code} {dd : cl_D} {b : Nat} (C : cl_C p l s m args meth c cX5_garmentByPlace RX5 6 (some .int) dd b) {r7 : cl_M → Nat → Int32 → Int32 → Int32 → Int32 → Option (Int32)} (hr7 : ∀ (M : cl_M) (t0 : Nat) (a1 : Int32) (a2 : Int32) (a3 : Int32) (a4 : Int32) (r : Int32), r7 M t0 a1 a2 a3 a4 = some r → ∀ (H : Heap) (locs : List Loc) (ls : Array Slot), cl_sh dd t0 = 5 → cl_H dd b M s H locs → lv_has ls 6 [(0, .ref (b + t0)), (1, .int a1), (2, .int a2), (3, .int a3), (4, .int a4)] → W p l e { frames := 1, cells := 0, slots := 0, locals := 22 } s m args below meth c H locs 0 0 (cl_Zi below args s dd b r M) (F0 m 7 ls [])) : ∀ (M : cl_M) (t0 : Nat) (a1 : Int32) (a2 : Int32) (a3 : Int32) (a4 : Int32) (r : Int32), f_X5_garmentByPlace_51 r7 M t0 a1 a2 a3 a4 = some r → ∀ (H : Heap) (locs : List Loc) (ls : Array Slot), cl_sh dd t0 = 5 → cl_H dd b M s H locs → lv_has ls 6 [(0, .ref (b + t0)), (1, .int a1), (2, .int a2), (3, .int a3), (4, .int a4)] → W p l e { frames := 1, cells := 0, slots := 0, locals := 22 } s m args below meth c H locs 0 0 (cl_Zi below args s dd b r M) (F0 m 51 ls []) := by
  have hx := C.1
  have hb := C.2.1
  have hlt := C.2.2.2.2.2.2.2.2.2.2
  have hRr := C.2.2.2.2.2.2.2.2.2.1
  intro M t0 a1 a2 a3 a4 r hf H locs ls ht0 hw hl
  unfold f_X5_garmentByPlace_51 at hf
  obtain ⟨v5, ev5, hf⟩ := cl_let_e hf
  refine lv_iinc (v := v5) (lv' := [(4, .int v5), (0, .ref (b + t0)), (1, .int a1), (2, .int a2), (3, .int a3)]) hx hb dX5_garmentByPlace_51 hl (k := 4) rfl (by rw [ev5]; rfl) (by decide) rfl (fun ls hl => ?_)
  refine lv_goto (tgt := 7) hx hb dX5_garmentByPlace_54 (by decide) ?_
  exact hr7 M t0 a1 a2 a3 v5 _ hf _ _ _ ht0 hw (lv_sub hl [1, 2, 3, 4, 0] rfl)
def f_X5_garmentByPlace_7 : Nat → cl_M → Nat → Int32 → Int32 → Int32 → Int32 → Option (Int32)
  | 0, _, _, _, _, _, _ => none
  | k + 1, M, t0, a1, a2, a3, a4 => if 24 ≤ a4 then some (-1) else (f_X2_occupant M (t0 + 4) a4).bind (fun v2 => if v2 = (-1) then f_X5_garmentByPlace_51 (f_X5_garmentByPlace_7 k) M t0 a1 a2 a3 a4 else if v2 = a3 then f_X5_garmentByPlace_51 (f_X5_garmentByPlace_7 k) M t0 a1 a2 a3 a4 else if a2 = a1 then some v2 else cl_let (a2 + 1) (fun v8 => f_X5_garmentByPlace_51 (f_X5_garmentByPlace_7 k) M t0 a1 v8 v2 a4))
set_option maxHeartbeats 4000000 in
set_option maxRecDepth 100000 in
theorem k_X5_garmentByPlace_7 {p : Program} {l : Launch} {e : Env} {s : State} {m : MethodId} {args : Array Value} {below : List Frame} {meth : Method} {c : Code} {dd : cl_D} {b : Nat} (C : cl_C p l s m args meth c cX5_garmentByPlace RX5 6 (some .int) dd b) : ∀ (k : Nat), ∀ (M : cl_M) (t0 : Nat) (a1 : Int32) (a2 : Int32) (a3 : Int32) (a4 : Int32) (r : Int32), f_X5_garmentByPlace_7 k M t0 a1 a2 a3 a4 = some r → ∀ (H : Heap) (locs : List Loc) (ls : Array Slot), cl_sh dd t0 = 5 → cl_H dd b M s H locs → lv_has ls 6 [(0, .ref (b + t0)), (1, .int a1), (2, .int a2), (3, .int a3), (4, .int a4)] → W p l e { frames := 1, cells := 0, slots := 0, locals := 22 } s m args below meth c H locs 0 0 (cl_Zi below args s dd b r M) (F0 m 7 ls []) := by
  have hx := C.1
  have hb := C.2.1
  have hlt := C.2.2.2.2.2.2.2.2.2.2
  have hRr := C.2.2.2.2.2.2.2.2.2.1
  intro k
  induction k with
  | zero =>
    intro M t0 a1 a2 a3 a4 r hf H locs ls ht0 hw hl
    rw [f_X5_garmentByPlace_7] at hf
    cases hf
  | succ k ih =>
    intro M t0 a1 a2 a3 a4 r hf H locs ls ht0 hw hl
    rw [f_X5_garmentByPlace_7] at hf
    refine lv_iload hx hb dX5_garmentByPlace_7 (lv_at hl 4 rfl) ?_
    refine lv_bipush (v := 24) hx hb dX5_garmentByPlace_9 (by decide) ?_
    refine lv_icmp_ge (tgt := 57) hx hb dX5_garmentByPlace_11 (by decide) (fun c1 => ?_) (fun c1 => ?_)
    · have hf := cl_yes c1 hf
      refine lv_iconst (v := (-1)) hx hb dX5_garmentByPlace_57 (by decide) ?_
      obtain rfl := Option.some.inj hf
      exact cr_reti C hw dX5_garmentByPlace_58
    · have hf := cl_no c1 hf
      refine lv_aload_n hx hb dX5_garmentByPlace_14 rfl (lv_at hl 0 rfl) ?_
      refine fg_X5_19 C hw ht0 dX5_garmentByPlace_15 ?_
      refine lv_iload hx hb dX5_garmentByPlace_18 (lv_at hl 4 rfl) ?_
      obtain ⟨v2, e3, hf⟩ := cl_bind_e hf
      refine cr_Vi C hw (c_X2_occupant hlt (sh_5_1 ht0).1 e3) cy_X2_occupant vy_X2_occupant ml_X5_140 (cl_lt (sh_5_1 ht0).1 (by decide)) (cl_e2 (sh_5_1 ht0).1) rfl rfl (As := [.int a4]) rfl hl.1 rfl ⟨⟨Nat.le_of_ble_eq_true rfl, Nat.le_of_ble_eq_true rfl⟩, Nat.le_of_ble_eq_true rfl, Nat.le_of_ble_eq_true rfl, Nat.le_of_ble_eq_true rfl⟩ dX5_garmentByPlace_20 (fun H locs hw => ?_)
      refine lv_istore (lv' := [(5, .int v2), (0, .ref (b + t0)), (1, .int a1), (2, .int a2), (3, .int a3), (4, .int a4)]) hx hb dX5_garmentByPlace_23 hl (by decide) rfl (fun ls hl => ?_)
      refine lv_iload hx hb dX5_garmentByPlace_25 (lv_at hl 0 rfl) ?_
      refine lv_iconst (v := (-1)) hx hb dX5_garmentByPlace_27 (by decide) ?_
      refine lv_icmp_eq (tgt := 51) hx hb dX5_garmentByPlace_28 (by decide) (fun c4 => ?_) (fun c4 => ?_)
      · have hf := cl_yes c4 hf
        exact k_X5_garmentByPlace_51 C ih M t0 a1 a2 a3 a4 _ hf _ _ _ ht0 hw (lv_sub hl [1, 2, 3, 4, 5] rfl)
      · have hf := cl_no c4 hf
        refine lv_iload hx hb dX5_garmentByPlace_31 (lv_at hl 0 rfl) ?_
        refine lv_iload_n hx hb dX5_garmentByPlace_33 rfl (lv_at hl 4 rfl) ?_
        refine lv_icmp_eq (tgt := 51) hx hb dX5_garmentByPlace_34 (by decide) (fun c6 => ?_) (fun c6 => ?_)
        · have hf := cl_yes c6 hf
          exact k_X5_garmentByPlace_51 C ih M t0 a1 a2 a3 a4 _ hf _ _ _ ht0 hw (lv_sub hl [1, 2, 3, 4, 5] rfl)
        · have hf := cl_no c6 hf
          refine lv_iload_n hx hb dX5_garmentByPlace_37 rfl (lv_at hl 3 rfl) ?_
          refine lv_iload_n hx hb dX5_garmentByPlace_38 rfl (lv_at hl 2 rfl) ?_
          refine lv_icmp_ne (tgt := 45) hx hb dX5_garmentByPlace_39 (by decide) (fun c7 => ?_) (fun c7 => ?_)
          · have hf := cl_no c7 hf
            obtain ⟨v8, ev8, hf⟩ := cl_let_e hf
            refine lv_iinc (v := v8) (lv' := [(2, .int v8), (5, .int v2), (0, .ref (b + t0)), (1, .int a1), (3, .int a3), (4, .int a4)]) hx hb dX5_garmentByPlace_45 hl (k := 3) rfl (by rw [ev8]; rfl) (by decide) rfl (fun ls hl => ?_)
            refine lv_iload hx hb dX5_garmentByPlace_48 (lv_at hl 1 rfl) ?_
            refine lv_istore_n (lv' := [(3, .int v2), (2, .int v8), (5, .int v2), (0, .ref (b + t0)), (1, .int a1), (4, .int a4)]) hx hb dX5_garmentByPlace_50 rfl hl (by decide) rfl (fun ls hl => ?_)
            exact k_X5_garmentByPlace_51 C ih M t0 a1 v8 v2 a4 _ hf _ _ _ ht0 hw (lv_sub hl [3, 4, 1, 0, 5] rfl)
          · have hf := cl_yes c7 hf
            refine lv_iload hx hb dX5_garmentByPlace_42 (lv_at hl 0 rfl) ?_
            obtain rfl := Option.some.inj hf
            exact cr_reti C hw dX5_garmentByPlace_44
def f_X5_garmentByPlace (M : cl_M) (t0 : Nat) (a1 : Int32) : Option (Int32) := f_X5_garmentByPlace_7 cl_F M t0 a1 0 (-1) 0
set_option maxHeartbeats 4000000 in
set_option maxRecDepth 100000 in
theorem k_X5_garmentByPlace {p : Program} {l : Launch} {e : Env} {s : State} {m : MethodId} {args : Array Value} {below : List Frame} {meth : Method} {c : Code} {dd : cl_D} {b : Nat} (C : cl_C p l s m args meth c cX5_garmentByPlace RX5 6 (some .int) dd b) : ∀ (M : cl_M) (t0 : Nat) (a1 : Int32) (r : Int32), f_X5_garmentByPlace M t0 a1 = some r → ∀ (H : Heap) (locs : List Loc) (ls : Array Slot), cl_sh dd t0 = 5 → cl_H dd b M s H locs → lv_has ls 6 [(0, .ref (b + t0)), (1, .int a1)] → W p l e { frames := 1, cells := 0, slots := 0, locals := 22 } s m args below meth c H locs 0 0 (cl_Zi below args s dd b r M) (F0 m 0 ls []) := by
  have hx := C.1
  have hb := C.2.1
  have hlt := C.2.2.2.2.2.2.2.2.2.2
  have hRr := C.2.2.2.2.2.2.2.2.2.1
  intro M t0 a1 r hf H locs ls ht0 hw hl
  unfold f_X5_garmentByPlace at hf
  refine lv_iconst (v := 0) hx hb dX5_garmentByPlace_0 (by decide) ?_
  refine lv_istore_n (lv' := [(2, .int 0), (0, .ref (b + t0)), (1, .int a1)]) hx hb dX5_garmentByPlace_1 rfl hl (by decide) rfl (fun ls hl => ?_)
  refine lv_iconst (v := (-1)) hx hb dX5_garmentByPlace_2 (by decide) ?_
  refine lv_istore_n (lv' := [(3, .int (-1)), (2, .int 0), (0, .ref (b + t0)), (1, .int a1)]) hx hb dX5_garmentByPlace_3 rfl hl (by decide) rfl (fun ls hl => ?_)
  refine lv_iconst (v := 0) hx hb dX5_garmentByPlace_4 (by decide) ?_
  refine lv_istore (lv' := [(4, .int 0), (3, .int (-1)), (2, .int 0), (0, .ref (b + t0)), (1, .int a1)]) hx hb dX5_garmentByPlace_5 hl (by decide) rfl (fun ls hl => ?_)
  exact k_X5_garmentByPlace_7 C cl_F M t0 a1 0 (-1) 0 _ hf _ _ _ ht0 hw (lv_sub hl [3, 4, 2, 1, 0] rfl)
set_option maxRecDepth 100000 in
theorem c_X5_garmentByPlace {l : Launch} {dd : cl_D} {b : Nat} (hlt : l.stackTraces = false) {M : cl_M} {t0 : Nat} {a1 : Int32}  {r : Int32} (ht0 : cl_sh dd t0 = 5) (h : f_X5_garmentByPlace M t0 a1 = some r) : cl_Mi l dd b yX5_garmentByPlace cX5_garmentByPlace 6 (some .int) 1 22 [.ref (b + t0), .int a1] M r M :=
  cl_of hlt (by decide) (Nat.le_of_ble_eq_true rfl) (fun p e s m below meth c ls C hw hl => k_X5_garmentByPlace C M t0 a1 r h _ _ _ ht0 hw (lv_sub hl [0, 1] rfl))
theorem cy_X5_garmentByPlace : cl_cy yX5_garmentByPlace cX5_garmentByPlace 6 (some .int) 1 := ⟨in_ClothesLine, cd_X5_garmentByPlace, by decide +kernel, by decide +kernel, by decide +kernel⟩
theorem vy_X5_garmentByPlace : cl_vy yX5_garmentByPlace := ⟨im_X5_garmentByPlace, se_X5_garmentByPlace⟩
def f_X5_garmentCount (M : cl_M) (t0 : Nat) : Option (Int32) := some (M (t0 + 4) 3)
set_option maxHeartbeats 4000000 in
set_option maxRecDepth 100000 in
theorem k_X5_garmentCount {p : Program} {l : Launch} {e : Env} {s : State} {m : MethodId} {args : Array Value} {below : List Frame} {meth : Method} {c : Code} {dd : cl_D} {b : Nat} (C : cl_C p l s m args meth c cX5_garmentCount RX5 1 (some .int) dd b) : ∀ (M : cl_M) (t0 : Nat) (r : Int32), f_X5_garmentCount M t0 = some r → ∀ (H : Heap) (locs : List Loc) (ls : Array Slot), cl_sh dd t0 = 5 → cl_H dd b M s H locs → lv_has ls 1 [(0, .ref (b + t0))] → W p l e { frames := 0, cells := 0, slots := 0, locals := 0 } s m args below meth c H locs 0 0 (cl_Zi below args s dd b r M) (F0 m 0 ls []) := by
  have hx := C.1
  have hb := C.2.1
  have hlt := C.2.2.2.2.2.2.2.2.2.2
  have hRr := C.2.2.2.2.2.2.2.2.2.1
  intro M t0 r hf H locs ls ht0 hw hl
  unfold f_X5_garmentCount at hf
  refine lv_aload_n hx hb dX5_garmentCount_0 rfl (lv_at hl 0 rfl) ?_
  refine fg_X5_19 C hw ht0 dX5_garmentCount_1 ?_
  refine fg_X5_71 C hw (sh_5_1 ht0).1 dX5_garmentCount_4 ?_
  obtain rfl := Option.some.inj hf
  exact cr_reti C hw dX5_garmentCount_7
set_option maxRecDepth 100000 in
theorem c_X5_garmentCount {l : Launch} {dd : cl_D} {b : Nat} (hlt : l.stackTraces = false) {M : cl_M} {t0 : Nat}  {r : Int32} (ht0 : cl_sh dd t0 = 5) (h : f_X5_garmentCount M t0 = some r) : cl_Mi l dd b yX5_garmentCount cX5_garmentCount 1 (some .int) 0 0 [.ref (b + t0)] M r M :=
  cl_of hlt (by decide) (Nat.le_of_ble_eq_true rfl) (fun p e s m below meth c ls C hw hl => k_X5_garmentCount C M t0 r h _ _ _ ht0 hw (lv_sub hl [0] rfl))
theorem cy_X5_garmentCount : cl_cy yX5_garmentCount cX5_garmentCount 1 (some .int) 0 := ⟨in_ClothesLine, cd_X5_garmentCount, by decide +kernel, by decide +kernel, by decide +kernel⟩
theorem vy_X5_garmentCount : cl_vy yX5_garmentCount := ⟨im_X5_garmentCount, se_X5_garmentCount⟩
def f_X5_known_15 (M : cl_M) : Option (Except (Nat × cl_M) (Nat × cl_M)) := some (.error (2, M))
set_option maxHeartbeats 4000000 in
set_option maxRecDepth 100000 in
theorem k_X5_known_15 {p : Program} {l : Launch} {e : Env} {s : State} {m : MethodId} {args : Array Value} {below : List Frame} {meth : Method} {c : Code} {dd : cl_D} {b : Nat} (C : cl_C p l s m args meth c cX5_known RX5 2 (some (.object "ClothesLine$Garment")) dd b) (TT : cl_T c) : ∀ (M : cl_M) (o : Except (Nat × cl_M) (Nat × cl_M)), f_X5_known_15 M = some o → ∀ (H : Heap) (locs : List Loc) (ls : Array Slot), cl_H dd b M s H locs → lv_has ls 2 [] → W p l e { frames := 6, cells := 1, slots := 6, locals := 90 } s m args below meth c H locs 0 0 (cl_Yr below args s dd b o 1) (F0 m 15 ls []) := by
  have hx := C.1
  have hb := C.2.1
  have hlt := C.2.2.2.2.2.2.2.2.2.2
  have hRr := C.2.2.2.2.2.2.2.2.2.1
  intro M o hf H locs ls hw hl
  unfold f_X5_known_15 at hf
  obtain rfl := Option.some.inj hf
  exact cr_throwW C hw TT (k := 2) rfl (by decide +kernel) cl_X5_302 in_java_lang_IndexOutOfBoundsException tw_RX5_306 (sr_27 hRr) hl.1 ⟨Nat.le_of_ble_eq_true rfl, Nat.le_of_ble_eq_true rfl, Nat.le_of_ble_eq_true rfl, Nat.le_of_ble_eq_true rfl⟩ ⟨Nat.le_of_ble_eq_true rfl, Nat.le_of_ble_eq_true rfl⟩ dX5_known_15 dX5_known_18 dX5_known_19 dX5_known_22 dX5_known_25
def f_X5_known (M : cl_M) (t0 : Nat) (a1 : Int32) : Option (Except (Nat × cl_M) (Nat × cl_M)) := if a1 < 0 then f_X5_known_15 M else if a1 < (M (t0 + 4) 3) then if cl_inb a1 10 = true then some (.ok (((t0 + 4) + 8) + 1 + (a1).toNatClampNeg, M)) else none else f_X5_known_15 M
set_option maxHeartbeats 4000000 in
set_option maxRecDepth 100000 in
theorem k_X5_known {p : Program} {l : Launch} {e : Env} {s : State} {m : MethodId} {args : Array Value} {below : List Frame} {meth : Method} {c : Code} {dd : cl_D} {b : Nat} (C : cl_C p l s m args meth c cX5_known RX5 2 (some (.object "ClothesLine$Garment")) dd b) (TT : cl_T c) : ∀ (M : cl_M) (t0 : Nat) (a1 : Int32) (o : Except (Nat × cl_M) (Nat × cl_M)), f_X5_known M t0 a1 = some o → ∀ (H : Heap) (locs : List Loc) (ls : Array Slot), cl_sh dd t0 = 5 → cl_H dd b M s H locs → lv_has ls 2 [(0, .ref (b + t0)), (1, .int a1)] → W p l e { frames := 6, cells := 1, slots := 6, locals := 90 } s m args below meth c H locs 0 0 (cl_Yr below args s dd b o 1) (F0 m 0 ls []) := by
  have hx := C.1
  have hb := C.2.1
  have hlt := C.2.2.2.2.2.2.2.2.2.2
  have hRr := C.2.2.2.2.2.2.2.2.2.1
  intro M t0 a1 o hf H locs ls ht0 hw hl
  unfold f_X5_known at hf
  refine lv_iload_n hx hb dX5_known_0 rfl (lv_at hl 1 rfl) ?_
  refine lv_if_lt (tgt := 15) hx hb dX5_known_1 (by decide) (fun c1 => ?_) (fun c1 => ?_)
  · have hf := cl_yes c1 hf
    exact k_X5_known_15 C TT M _ hf _ _ _ hw (lv_sub hl [] rfl)
  · have hf := cl_no c1 hf
    refine lv_iload_n hx hb dX5_known_4 rfl (lv_at hl 1 rfl) ?_
    refine lv_aload_n hx hb dX5_known_5 rfl (lv_at hl 0 rfl) ?_
    refine fg_X5_19 C hw ht0 dX5_known_6 ?_
    refine fg_X5_71 C hw (sh_5_1 ht0).1 dX5_known_9 ?_
    refine lv_icmp_lt (tgt := 26) hx hb dX5_known_12 (by decide) (fun c2 => ?_) (fun c2 => ?_)
    · have hf := cl_yes c2 hf
      refine lv_aload_n hx hb dX5_known_26 rfl (lv_at hl 0 rfl) ?_
      refine fg_X5_19 C hw ht0 dX5_known_27 ?_
      refine fg_X5_192 C hw (sh_5_1 ht0).1 dX5_known_30 ?_
      refine lv_iload_n hx hb dX5_known_33 rfl (lv_at hl 1 rfl) ?_
      obtain ⟨q3, hf⟩ := cl_grd hf
      refine cr_ald9 C hw (sh_2_5 (sh_5_1 ht0).1).1 q3 (k := (a1).toNatClampNeg) rfl dX5_known_34 ?_
      obtain rfl := Option.some.inj hf
      refine W.widen (k := 1) (n := 6) (by decide) (by decide) ?_
      exact cr_xretr C hw rfl dX5_known_35
    · have hf := cl_no c2 hf
      exact k_X5_known_15 C TT M _ hf _ _ _ hw (lv_sub hl [] rfl)
set_option maxRecDepth 100000 in
theorem c_X5_known {l : Launch} {dd : cl_D} {b : Nat} (hlt : l.stackTraces = false) {M : cl_M} {t0 : Nat} {a1 : Int32}  {o : Except (Nat × cl_M) (Nat × cl_M)} (ht0 : cl_sh dd t0 = 5) (h : f_X5_known M t0 a1 = some o) : cl_Xr l dd b yX5_known cX5_known 2 (some (.object "ClothesLine$Garment")) 6 90 1 [.ref (b + t0), .int a1] M o :=
  cl_ofX hlt (by decide) (Nat.le_of_ble_eq_true rfl) (fun p e s m below meth c ls C TT hw hl => k_X5_known C TT M t0 a1 o h _ _ _ ht0 hw (lv_sub hl [0, 1] rfl))
theorem cy_X5_known : cl_cy yX5_known cX5_known 2 (some (.object "ClothesLine$Garment")) 1 := ⟨in_ClothesLine, cd_X5_known, by decide +kernel, by decide +kernel, by decide +kernel⟩
theorem vy_X5_known : cl_vy yX5_known := ⟨im_X5_known, se_X5_known⟩
theorem s_X5_known {dd : cl_D} {M : cl_M} {t0 g : Nat} {a1 : Int32} {M1 : cl_M} (ht0 : cl_sh dd t0 = 5) (h : f_X5_known M t0 a1 = some (.ok (g, M1))) : cl_sh dd g = 0 := by
  unfold f_X5_known f_X5_known_15 at h
  by_cases c1 : a1 < 0
  · rw [if_pos c1] at h; cases h
  · rw [if_neg c1] at h
    by_cases c2 : a1 < M (t0 + 4) 3
    · rw [if_pos c2] at h
      obtain ⟨q, h⟩ := cl_grd h
      cases h
      exact sh_el_9 (sh_2_5 (sh_5_1 ht0).1).1 (cl_inb_lt q)
    · rw [if_neg c2] at h; cases h
def f_X5_stateOf (M : cl_M) (t0 : Nat) (a1 : Int32) : Option (Except (Nat × cl_M) (Int32 × cl_M)) := cl_x2 (f_X5_known M t0 a1) (fun v3 M4 => some (.ok (M4 v3 6, M4)))
set_option maxHeartbeats 4000000 in
set_option maxRecDepth 100000 in
theorem k_X5_stateOf {p : Program} {l : Launch} {e : Env} {s : State} {m : MethodId} {args : Array Value} {below : List Frame} {meth : Method} {c : Code} {dd : cl_D} {b : Nat} (C : cl_C p l s m args meth c cX5_stateOf RX5 2 (some .int) dd b) (TT : cl_T c) : ∀ (M : cl_M) (t0 : Nat) (a1 : Int32) (o : Except (Nat × cl_M) (Int32 × cl_M)), f_X5_stateOf M t0 a1 = some o → ∀ (H : Heap) (locs : List Loc) (ls : Array Slot), cl_sh dd t0 = 5 → cl_H dd b M s H locs → lv_has ls 2 [(0, .ref (b + t0)), (1, .int a1)] → W p l e { frames := 7, cells := 1, slots := 6, locals := 111 } s m args below meth c H locs 0 0 (cl_Yi below args s dd b o 1) (F0 m 0 ls []) := by
  have hx := C.1
  have hb := C.2.1
  have hlt := C.2.2.2.2.2.2.2.2.2.2
  have hRr := C.2.2.2.2.2.2.2.2.2.1
  intro M t0 a1 o hf H locs ls ht0 hw hl
  unfold f_X5_stateOf at hf
  refine lv_aload_n hx hb dX5_stateOf_0 rfl (lv_at hl 0 rfl) ?_
  refine lv_iload_n hx hb dX5_stateOf_1 rfl (lv_at hl 1 rfl) ?_
  obtain ⟨o2, e1, o2x, hf⟩ := cl_x2_e hf
  refine cr_XVr C hw TT (c_X5_known hlt ht0 e1) cy_X5_known vy_X5_known ml_X5_143 (cl_lt ht0 (by decide)) (cl_e5 ht0) rfl rfl (As := [.int a1]) rfl hl.1 rfl ⟨⟨Nat.le_of_ble_eq_true rfl, Nat.le_of_ble_eq_true rfl⟩, Nat.le_of_ble_eq_true rfl, Nat.le_of_ble_eq_true rfl, Nat.le_of_ble_eq_true rfl⟩ ⟨Nat.le_of_ble_eq_true rfl, Nat.le_of_ble_eq_true rfl⟩ dX5_stateOf_2 o2x (fun v3 M4 eo2 H locs hw => ?_)
  have hf := hf v3 M4 eo2
  have hv3 := s_X5_known ht0 (e1.trans (congrArg some eo2))
  refine fg_X5_147 C hw hv3 dX5_stateOf_5 ?_
  obtain rfl := Option.some.inj hf
  exact cr_xreti C hw dX5_stateOf_8
set_option maxRecDepth 100000 in
theorem c_X5_stateOf {l : Launch} {dd : cl_D} {b : Nat} (hlt : l.stackTraces = false) {M : cl_M} {t0 : Nat} {a1 : Int32}  {o : Except (Nat × cl_M) (Int32 × cl_M)} (ht0 : cl_sh dd t0 = 5) (h : f_X5_stateOf M t0 a1 = some o) : cl_Xi l dd b yX5_stateOf cX5_stateOf 2 (some .int) 7 111 1 [.ref (b + t0), .int a1] M o :=
  cl_ofX hlt (by decide) (Nat.le_of_ble_eq_true rfl) (fun p e s m below meth c ls C TT hw hl => k_X5_stateOf C TT M t0 a1 o h _ _ _ ht0 hw (lv_sub hl [0, 1] rfl))
theorem cy_X5_stateOf : cl_cy yX5_stateOf cX5_stateOf 2 (some .int) 1 := ⟨in_ClothesLine, cd_X5_stateOf, by decide +kernel, by decide +kernel, by decide +kernel⟩
theorem vy_X5_stateOf : cl_vy yX5_stateOf := ⟨im_X5_stateOf, se_X5_stateOf⟩
def f_X5_widthOf (M : cl_M) (t0 : Nat) (a1 : Int32) : Option (Except (Nat × cl_M) (Int32 × cl_M)) := cl_x2 (f_X5_known M t0 a1) (fun v3 M4 => some (.ok (M4 v3 0, M4)))
set_option maxHeartbeats 4000000 in
set_option maxRecDepth 100000 in
theorem k_X5_widthOf {p : Program} {l : Launch} {e : Env} {s : State} {m : MethodId} {args : Array Value} {below : List Frame} {meth : Method} {c : Code} {dd : cl_D} {b : Nat} (C : cl_C p l s m args meth c cX5_widthOf RX5 2 (some .int) dd b) (TT : cl_T c) : ∀ (M : cl_M) (t0 : Nat) (a1 : Int32) (o : Except (Nat × cl_M) (Int32 × cl_M)), f_X5_widthOf M t0 a1 = some o → ∀ (H : Heap) (locs : List Loc) (ls : Array Slot), cl_sh dd t0 = 5 → cl_H dd b M s H locs → lv_has ls 2 [(0, .ref (b + t0)), (1, .int a1)] → W p l e { frames := 7, cells := 1, slots := 6, locals := 111 } s m args below meth c H locs 0 0 (cl_Yi below args s dd b o 1) (F0 m 0 ls []) := by
  have hx := C.1
  have hb := C.2.1
  have hlt := C.2.2.2.2.2.2.2.2.2.2
  have hRr := C.2.2.2.2.2.2.2.2.2.1
  intro M t0 a1 o hf H locs ls ht0 hw hl
  unfold f_X5_widthOf at hf
  refine lv_aload_n hx hb dX5_widthOf_0 rfl (lv_at hl 0 rfl) ?_
  refine lv_iload_n hx hb dX5_widthOf_1 rfl (lv_at hl 1 rfl) ?_
  obtain ⟨o2, e1, o2x, hf⟩ := cl_x2_e hf
  refine cr_XVr C hw TT (c_X5_known hlt ht0 e1) cy_X5_known vy_X5_known ml_X5_143 (cl_lt ht0 (by decide)) (cl_e5 ht0) rfl rfl (As := [.int a1]) rfl hl.1 rfl ⟨⟨Nat.le_of_ble_eq_true rfl, Nat.le_of_ble_eq_true rfl⟩, Nat.le_of_ble_eq_true rfl, Nat.le_of_ble_eq_true rfl, Nat.le_of_ble_eq_true rfl⟩ ⟨Nat.le_of_ble_eq_true rfl, Nat.le_of_ble_eq_true rfl⟩ dX5_widthOf_2 o2x (fun v3 M4 eo2 H locs hw => ?_)
  have hf := hf v3 M4 eo2
  have hv3 := s_X5_known ht0 (e1.trans (congrArg some eo2))
  refine fg_X5_152 C hw hv3 dX5_widthOf_5 ?_
  obtain rfl := Option.some.inj hf
  exact cr_xreti C hw dX5_widthOf_8
set_option maxRecDepth 100000 in
theorem c_X5_widthOf {l : Launch} {dd : cl_D} {b : Nat} (hlt : l.stackTraces = false) {M : cl_M} {t0 : Nat} {a1 : Int32}  {o : Except (Nat × cl_M) (Int32 × cl_M)} (ht0 : cl_sh dd t0 = 5) (h : f_X5_widthOf M t0 a1 = some o) : cl_Xi l dd b yX5_widthOf cX5_widthOf 2 (some .int) 7 111 1 [.ref (b + t0), .int a1] M o :=
  cl_ofX hlt (by decide) (Nat.le_of_ble_eq_true rfl) (fun p e s m below meth c ls C TT hw hl => k_X5_widthOf C TT M t0 a1 o h _ _ _ ht0 hw (lv_sub hl [0, 1] rfl))
theorem cy_X5_widthOf : cl_cy yX5_widthOf cX5_widthOf 2 (some .int) 1 := ⟨in_ClothesLine, cd_X5_widthOf, by decide +kernel, by decide +kernel, by decide +kernel⟩
theorem vy_X5_widthOf : cl_vy yX5_widthOf := ⟨im_X5_widthOf, se_X5_widthOf⟩
def f_X5_dryWeight (M : cl_M) (t0 : Nat) (a1 : Int32) : Option (Except (Nat × cl_M) (Int32 × cl_M)) := cl_x2 (f_X5_known M t0 a1) (fun v3 M4 => some (.ok (M4 v3 1, M4)))
set_option maxHeartbeats 4000000 in
set_option maxRecDepth 100000 in
theorem k_X5_dryWeight {p : Program} {l : Launch} {e : Env} {s : State} {m : MethodId} {args : Array Value} {below : List Frame} {meth : Method} {c : Code} {dd : cl_D} {b : Nat} (C : cl_C p l s m args meth c cX5_dryWeight RX5 2 (some .int) dd b) (TT : cl_T c) : ∀ (M : cl_M) (t0 : Nat) (a1 : Int32) (o : Except (Nat × cl_M) (Int32 × cl_M)), f_X5_dryWeight M t0 a1 = some o → ∀ (H : Heap) (locs : List Loc) (ls : Array Slot), cl_sh dd t0 = 5 → cl_H dd b M s H locs → lv_has ls 2 [(0, .ref (b + t0)), (1, .int a1)] → W p l e { frames := 7, cells := 1, slots := 6, locals := 111 } s m args below meth c H locs 0 0 (cl_Yi below args s dd b o 1) (F0 m 0 ls []) := by
  have hx := C.1
  have hb := C.2.1
  have hlt := C.2.2.2.2.2.2.2.2.2.2
  have hRr := C.2.2.2.2.2.2.2.2.2.1
  intro M t0 a1 o hf H locs ls ht0 hw hl
  unfold f_X5_dryWeight at hf
  refine lv_aload_n hx hb dX5_dryWeight_0 rfl (lv_at hl 0 rfl) ?_
  refine lv_iload_n hx hb dX5_dryWeight_1 rfl (lv_at hl 1 rfl) ?_
  obtain ⟨o2, e1, o2x, hf⟩ := cl_x2_e hf
  refine cr_XVr C hw TT (c_X5_known hlt ht0 e1) cy_X5_known vy_X5_known ml_X5_143 (cl_lt ht0 (by decide)) (cl_e5 ht0) rfl rfl (As := [.int a1]) rfl hl.1 rfl ⟨⟨Nat.le_of_ble_eq_true rfl, Nat.le_of_ble_eq_true rfl⟩, Nat.le_of_ble_eq_true rfl, Nat.le_of_ble_eq_true rfl, Nat.le_of_ble_eq_true rfl⟩ ⟨Nat.le_of_ble_eq_true rfl, Nat.le_of_ble_eq_true rfl⟩ dX5_dryWeight_2 o2x (fun v3 M4 eo2 H locs hw => ?_)
  have hf := hf v3 M4 eo2
  have hv3 := s_X5_known ht0 (e1.trans (congrArg some eo2))
  refine fg_X5_155 C hw hv3 dX5_dryWeight_5 ?_
  obtain rfl := Option.some.inj hf
  exact cr_xreti C hw dX5_dryWeight_8
set_option maxRecDepth 100000 in
theorem c_X5_dryWeight {l : Launch} {dd : cl_D} {b : Nat} (hlt : l.stackTraces = false) {M : cl_M} {t0 : Nat} {a1 : Int32}  {o : Except (Nat × cl_M) (Int32 × cl_M)} (ht0 : cl_sh dd t0 = 5) (h : f_X5_dryWeight M t0 a1 = some o) : cl_Xi l dd b yX5_dryWeight cX5_dryWeight 2 (some .int) 7 111 1 [.ref (b + t0), .int a1] M o :=
  cl_ofX hlt (by decide) (Nat.le_of_ble_eq_true rfl) (fun p e s m below meth c ls C TT hw hl => k_X5_dryWeight C TT M t0 a1 o h _ _ _ ht0 hw (lv_sub hl [0, 1] rfl))
theorem cy_X5_dryWeight : cl_cy yX5_dryWeight cX5_dryWeight 2 (some .int) 1 := ⟨in_ClothesLine, cd_X5_dryWeight, by decide +kernel, by decide +kernel, by decide +kernel⟩
theorem vy_X5_dryWeight : cl_vy yX5_dryWeight := ⟨im_X5_dryWeight, se_X5_dryWeight⟩
def f_X5_capacityOf (M : cl_M) (t0 : Nat) (a1 : Int32) : Option (Except (Nat × cl_M) (Int32 × cl_M)) := cl_x2 (f_X5_known M t0 a1) (fun v3 M4 => some (.ok (M4 v3 2, M4)))
set_option maxHeartbeats 4000000 in
set_option maxRecDepth 100000 in
theorem k_X5_capacityOf {p : Program} {l : Launch} {e : Env} {s : State} {m : MethodId} {args : Array Value} {below : List Frame} {meth : Method} {c : Code} {dd : cl_D} {b : Nat} (C : cl_C p l s m args meth c cX5_capacityOf RX5 2 (some .int) dd b) (TT : cl_T c) : ∀ (M : cl_M) (t0 : Nat) (a1 : Int32) (o : Except (Nat × cl_M) (Int32 × cl_M)), f_X5_capacityOf M t0 a1 = some o → ∀ (H : Heap) (locs : List Loc) (ls : Array Slot), cl_sh dd t0 = 5 → cl_H dd b M s H locs → lv_has ls 2 [(0, .ref (b + t0)), (1, .int a1)] → W p l e { frames := 7, cells := 1, slots := 6, locals := 111 } s m args below meth c H locs 0 0 (cl_Yi below args s dd b o 1) (F0 m 0 ls []) := by
  have hx := C.1
  have hb := C.2.1
  have hlt := C.2.2.2.2.2.2.2.2.2.2
  have hRr := C.2.2.2.2.2.2.2.2.2.1
  intro M t0 a1 o hf H locs ls ht0 hw hl
  unfold f_X5_capacityOf at hf
  refine lv_aload_n hx hb dX5_capacityOf_0 rfl (lv_at hl 0 rfl) ?_
  refine lv_iload_n hx hb dX5_capacityOf_1 rfl (lv_at hl 1 rfl) ?_
  obtain ⟨o2, e1, o2x, hf⟩ := cl_x2_e hf
  refine cr_XVr C hw TT (c_X5_known hlt ht0 e1) cy_X5_known vy_X5_known ml_X5_143 (cl_lt ht0 (by decide)) (cl_e5 ht0) rfl rfl (As := [.int a1]) rfl hl.1 rfl ⟨⟨Nat.le_of_ble_eq_true rfl, Nat.le_of_ble_eq_true rfl⟩, Nat.le_of_ble_eq_true rfl, Nat.le_of_ble_eq_true rfl, Nat.le_of_ble_eq_true rfl⟩ ⟨Nat.le_of_ble_eq_true rfl, Nat.le_of_ble_eq_true rfl⟩ dX5_capacityOf_2 o2x (fun v3 M4 eo2 H locs hw => ?_)
  have hf := hf v3 M4 eo2
  have hv3 := s_X5_known ht0 (e1.trans (congrArg some eo2))
  refine fg_X5_158 C hw hv3 dX5_capacityOf_5 ?_
  obtain rfl := Option.some.inj hf
  exact cr_xreti C hw dX5_capacityOf_8
set_option maxRecDepth 100000 in
theorem c_X5_capacityOf {l : Launch} {dd : cl_D} {b : Nat} (hlt : l.stackTraces = false) {M : cl_M} {t0 : Nat} {a1 : Int32}  {o : Except (Nat × cl_M) (Int32 × cl_M)} (ht0 : cl_sh dd t0 = 5) (h : f_X5_capacityOf M t0 a1 = some o) : cl_Xi l dd b yX5_capacityOf cX5_capacityOf 2 (some .int) 7 111 1 [.ref (b + t0), .int a1] M o :=
  cl_ofX hlt (by decide) (Nat.le_of_ble_eq_true rfl) (fun p e s m below meth c ls C TT hw hl => k_X5_capacityOf C TT M t0 a1 o h _ _ _ ht0 hw (lv_sub hl [0, 1] rfl))
theorem cy_X5_capacityOf : cl_cy yX5_capacityOf cX5_capacityOf 2 (some .int) 1 := ⟨in_ClothesLine, cd_X5_capacityOf, by decide +kernel, by decide +kernel, by decide +kernel⟩
theorem vy_X5_capacityOf : cl_vy yX5_capacityOf := ⟨im_X5_capacityOf, se_X5_capacityOf⟩
def f_X5_waterOf (M : cl_M) (t0 : Nat) (a1 : Int32) : Option (Except (Nat × cl_M) (Int32 × cl_M)) := cl_x2 (f_X5_known M t0 a1) (fun v3 M4 => some (.ok (M4 v3 3, M4)))
set_option maxHeartbeats 4000000 in
set_option maxRecDepth 100000 in
theorem k_X5_waterOf {p : Program} {l : Launch} {e : Env} {s : State} {m : MethodId} {args : Array Value} {below : List Frame} {meth : Method} {c : Code} {dd : cl_D} {b : Nat} (C : cl_C p l s m args meth c cX5_waterOf RX5 2 (some .int) dd b) (TT : cl_T c) : ∀ (M : cl_M) (t0 : Nat) (a1 : Int32) (o : Except (Nat × cl_M) (Int32 × cl_M)), f_X5_waterOf M t0 a1 = some o → ∀ (H : Heap) (locs : List Loc) (ls : Array Slot), cl_sh dd t0 = 5 → cl_H dd b M s H locs → lv_has ls 2 [(0, .ref (b + t0)), (1, .int a1)] → W p l e { frames := 7, cells := 1, slots := 6, locals := 111 } s m args below meth c H locs 0 0 (cl_Yi below args s dd b o 1) (F0 m 0 ls []) := by
  have hx := C.1
  have hb := C.2.1
  have hlt := C.2.2.2.2.2.2.2.2.2.2
  have hRr := C.2.2.2.2.2.2.2.2.2.1
  intro M t0 a1 o hf H locs ls ht0 hw hl
  unfold f_X5_waterOf at hf
  refine lv_aload_n hx hb dX5_waterOf_0 rfl (lv_at hl 0 rfl) ?_
  refine lv_iload_n hx hb dX5_waterOf_1 rfl (lv_at hl 1 rfl) ?_
  obtain ⟨o2, e1, o2x, hf⟩ := cl_x2_e hf
  refine cr_XVr C hw TT (c_X5_known hlt ht0 e1) cy_X5_known vy_X5_known ml_X5_143 (cl_lt ht0 (by decide)) (cl_e5 ht0) rfl rfl (As := [.int a1]) rfl hl.1 rfl ⟨⟨Nat.le_of_ble_eq_true rfl, Nat.le_of_ble_eq_true rfl⟩, Nat.le_of_ble_eq_true rfl, Nat.le_of_ble_eq_true rfl, Nat.le_of_ble_eq_true rfl⟩ ⟨Nat.le_of_ble_eq_true rfl, Nat.le_of_ble_eq_true rfl⟩ dX5_waterOf_2 o2x (fun v3 M4 eo2 H locs hw => ?_)
  have hf := hf v3 M4 eo2
  have hv3 := s_X5_known ht0 (e1.trans (congrArg some eo2))
  refine fg_X5_161 C hw hv3 dX5_waterOf_5 ?_
  obtain rfl := Option.some.inj hf
  exact cr_xreti C hw dX5_waterOf_8
set_option maxRecDepth 100000 in
theorem c_X5_waterOf {l : Launch} {dd : cl_D} {b : Nat} (hlt : l.stackTraces = false) {M : cl_M} {t0 : Nat} {a1 : Int32}  {o : Except (Nat × cl_M) (Int32 × cl_M)} (ht0 : cl_sh dd t0 = 5) (h : f_X5_waterOf M t0 a1 = some o) : cl_Xi l dd b yX5_waterOf cX5_waterOf 2 (some .int) 7 111 1 [.ref (b + t0), .int a1] M o :=
  cl_ofX hlt (by decide) (Nat.le_of_ble_eq_true rfl) (fun p e s m below meth c ls C TT hw hl => k_X5_waterOf C TT M t0 a1 o h _ _ _ ht0 hw (lv_sub hl [0, 1] rfl))
theorem cy_X5_waterOf : cl_cy yX5_waterOf cX5_waterOf 2 (some .int) 1 := ⟨in_ClothesLine, cd_X5_waterOf, by decide +kernel, by decide +kernel, by decide +kernel⟩
theorem vy_X5_waterOf : cl_vy yX5_waterOf := ⟨im_X5_waterOf, se_X5_waterOf⟩
def f_X5_weightOf (M : cl_M) (t0 : Nat) (a1 : Int32) : Option (Except (Nat × cl_M) (Int32 × cl_M)) := cl_x2 (f_X5_known M t0 a1) (fun v3 M4 => (f_X0_weight M4 v3).bind (fun v5 => some (.ok (v5, M4))))
set_option maxHeartbeats 4000000 in
set_option maxRecDepth 100000 in
theorem k_X5_weightOf {p : Program} {l : Launch} {e : Env} {s : State} {m : MethodId} {args : Array Value} {below : List Frame} {meth : Method} {c : Code} {dd : cl_D} {b : Nat} (C : cl_C p l s m args meth c cX5_weightOf RX5 2 (some .int) dd b) (TT : cl_T c) : ∀ (M : cl_M) (t0 : Nat) (a1 : Int32) (o : Except (Nat × cl_M) (Int32 × cl_M)), f_X5_weightOf M t0 a1 = some o → ∀ (H : Heap) (locs : List Loc) (ls : Array Slot), cl_sh dd t0 = 5 → cl_H dd b M s H locs → lv_has ls 2 [(0, .ref (b + t0)), (1, .int a1)] → W p l e { frames := 7, cells := 1, slots := 6, locals := 111 } s m args below meth c H locs 0 0 (cl_Yi below args s dd b o 1) (F0 m 0 ls []) := by
  have hx := C.1
  have hb := C.2.1
  have hlt := C.2.2.2.2.2.2.2.2.2.2
  have hRr := C.2.2.2.2.2.2.2.2.2.1
  intro M t0 a1 o hf H locs ls ht0 hw hl
  unfold f_X5_weightOf at hf
  refine lv_aload_n hx hb dX5_weightOf_0 rfl (lv_at hl 0 rfl) ?_
  refine lv_iload_n hx hb dX5_weightOf_1 rfl (lv_at hl 1 rfl) ?_
  obtain ⟨o2, e1, o2x, hf⟩ := cl_x2_e hf
  refine cr_XVr C hw TT (c_X5_known hlt ht0 e1) cy_X5_known vy_X5_known ml_X5_143 (cl_lt ht0 (by decide)) (cl_e5 ht0) rfl rfl (As := [.int a1]) rfl hl.1 rfl ⟨⟨Nat.le_of_ble_eq_true rfl, Nat.le_of_ble_eq_true rfl⟩, Nat.le_of_ble_eq_true rfl, Nat.le_of_ble_eq_true rfl, Nat.le_of_ble_eq_true rfl⟩ ⟨Nat.le_of_ble_eq_true rfl, Nat.le_of_ble_eq_true rfl⟩ dX5_weightOf_2 o2x (fun v3 M4 eo2 H locs hw => ?_)
  have hf := hf v3 M4 eo2
  have hv3 := s_X5_known ht0 (e1.trans (congrArg some eo2))
  obtain ⟨v5, e6, hf⟩ := cl_bind_e hf
  refine cr_Vi C hw (c_X0_weight hlt hv3 e6) cy_X0_weight vy_X0_weight ml_X5_164 (cl_lt hv3 (by decide)) (cl_e0 hv3) rfl rfl (As := []) rfl hl.1 rfl ⟨⟨Nat.le_of_ble_eq_true rfl, Nat.le_of_ble_eq_true rfl⟩, Nat.le_of_ble_eq_true rfl, Nat.le_of_ble_eq_true rfl, Nat.le_of_ble_eq_true rfl⟩ dX5_weightOf_5 (fun H locs hw => ?_)
  obtain rfl := Option.some.inj hf
  exact cr_xreti C hw dX5_weightOf_8
set_option maxRecDepth 100000 in
theorem c_X5_weightOf {l : Launch} {dd : cl_D} {b : Nat} (hlt : l.stackTraces = false) {M : cl_M} {t0 : Nat} {a1 : Int32}  {o : Except (Nat × cl_M) (Int32 × cl_M)} (ht0 : cl_sh dd t0 = 5) (h : f_X5_weightOf M t0 a1 = some o) : cl_Xi l dd b yX5_weightOf cX5_weightOf 2 (some .int) 7 111 1 [.ref (b + t0), .int a1] M o :=
  cl_ofX hlt (by decide) (Nat.le_of_ble_eq_true rfl) (fun p e s m below meth c ls C TT hw hl => k_X5_weightOf C TT M t0 a1 o h _ _ _ ht0 hw (lv_sub hl [0, 1] rfl))
theorem cy_X5_weightOf : cl_cy yX5_weightOf cX5_weightOf 2 (some .int) 1 := ⟨in_ClothesLine, cd_X5_weightOf, by decide +kernel, by decide +kernel, by decide +kernel⟩
theorem vy_X5_weightOf : cl_vy yX5_weightOf := ⟨im_X5_weightOf, se_X5_weightOf⟩
def f_X5_smellOf (M : cl_M) (t0 : Nat) (a1 : Int32) : Option (Except (Nat × cl_M) (Int32 × cl_M)) := cl_x2 (f_X5_known M t0 a1) (fun v3 M4 => some (.ok (M4 v3 4, M4)))
set_option maxHeartbeats 4000000 in
set_option maxRecDepth 100000 in
theorem k_X5_smellOf {p : Program} {l : Launch} {e : Env} {s : State} {m : MethodId} {args : Array Value} {below : List Frame} {meth : Method} {c : Code} {dd : cl_D} {b : Nat} (C : cl_C p l s m args meth c cX5_smellOf RX5 2 (some .int) dd b) (TT : cl_T c) : ∀ (M : cl_M) (t0 : Nat) (a1 : Int32) (o : Except (Nat × cl_M) (Int32 × cl_M)), f_X5_smellOf M t0 a1 = some o → ∀ (H : Heap) (locs : List Loc) (ls : Array Slot), cl_sh dd t0 = 5 → cl_H dd b M s H locs → lv_has ls 2 [(0, .ref (b + t0)), (1, .int a1)] → W p l e { frames := 7, cells := 1, slots := 6, locals := 111 } s m args below meth c H locs 0 0 (cl_Yi below args s dd b o 1) (F0 m 0 ls []) := by
  have hx := C.1
  have hb := C.2.1
  have hlt := C.2.2.2.2.2.2.2.2.2.2
  have hRr := C.2.2.2.2.2.2.2.2.2.1
  intro M t0 a1 o hf H locs ls ht0 hw hl
  unfold f_X5_smellOf at hf
  refine lv_aload_n hx hb dX5_smellOf_0 rfl (lv_at hl 0 rfl) ?_
  refine lv_iload_n hx hb dX5_smellOf_1 rfl (lv_at hl 1 rfl) ?_
  obtain ⟨o2, e1, o2x, hf⟩ := cl_x2_e hf
  refine cr_XVr C hw TT (c_X5_known hlt ht0 e1) cy_X5_known vy_X5_known ml_X5_143 (cl_lt ht0 (by decide)) (cl_e5 ht0) rfl rfl (As := [.int a1]) rfl hl.1 rfl ⟨⟨Nat.le_of_ble_eq_true rfl, Nat.le_of_ble_eq_true rfl⟩, Nat.le_of_ble_eq_true rfl, Nat.le_of_ble_eq_true rfl, Nat.le_of_ble_eq_true rfl⟩ ⟨Nat.le_of_ble_eq_true rfl, Nat.le_of_ble_eq_true rfl⟩ dX5_smellOf_2 o2x (fun v3 M4 eo2 H locs hw => ?_)
  have hf := hf v3 M4 eo2
  have hv3 := s_X5_known ht0 (e1.trans (congrArg some eo2))
  refine fg_X5_167 C hw hv3 dX5_smellOf_5 ?_
  obtain rfl := Option.some.inj hf
  exact cr_xreti C hw dX5_smellOf_8
set_option maxRecDepth 100000 in
theorem c_X5_smellOf {l : Launch} {dd : cl_D} {b : Nat} (hlt : l.stackTraces = false) {M : cl_M} {t0 : Nat} {a1 : Int32}  {o : Except (Nat × cl_M) (Int32 × cl_M)} (ht0 : cl_sh dd t0 = 5) (h : f_X5_smellOf M t0 a1 = some o) : cl_Xi l dd b yX5_smellOf cX5_smellOf 2 (some .int) 7 111 1 [.ref (b + t0), .int a1] M o :=
  cl_ofX hlt (by decide) (Nat.le_of_ble_eq_true rfl) (fun p e s m below meth c ls C TT hw hl => k_X5_smellOf C TT M t0 a1 o h _ _ _ ht0 hw (lv_sub hl [0, 1] rfl))
theorem cy_X5_smellOf : cl_cy yX5_smellOf cX5_smellOf 2 (some .int) 1 := ⟨in_ClothesLine, cd_X5_smellOf, by decide +kernel, by decide +kernel, by decide +kernel⟩
theorem vy_X5_smellOf : cl_vy yX5_smellOf := ⟨im_X5_smellOf, se_X5_smellOf⟩
def f_X5_spotOf (M : cl_M) (t0 : Nat) (a1 : Int32) : Option (Except (Nat × cl_M) (Int32 × cl_M)) := cl_x2 (f_X5_known M t0 a1) (fun v3 M4 => some (.ok (M4 v3 7, M4)))
set_option maxHeartbeats 4000000 in
set_option maxRecDepth 100000 in
theorem k_X5_spotOf {p : Program} {l : Launch} {e : Env} {s : State} {m : MethodId} {args : Array Value} {below : List Frame} {meth : Method} {c : Code} {dd : cl_D} {b : Nat} (C : cl_C p l s m args meth c cX5_spotOf RX5 2 (some .int) dd b) (TT : cl_T c) : ∀ (M : cl_M) (t0 : Nat) (a1 : Int32) (o : Except (Nat × cl_M) (Int32 × cl_M)), f_X5_spotOf M t0 a1 = some o → ∀ (H : Heap) (locs : List Loc) (ls : Array Slot), cl_sh dd t0 = 5 → cl_H dd b M s H locs → lv_has ls 2 [(0, .ref (b + t0)), (1, .int a1)] → W p l e { frames := 7, cells := 1, slots := 6, locals := 111 } s m args below meth c H locs 0 0 (cl_Yi below args s dd b o 1) (F0 m 0 ls []) := by
  have hx := C.1
  have hb := C.2.1
  have hlt := C.2.2.2.2.2.2.2.2.2.2
  have hRr := C.2.2.2.2.2.2.2.2.2.1
  intro M t0 a1 o hf H locs ls ht0 hw hl
  unfold f_X5_spotOf at hf
  refine lv_aload_n hx hb dX5_spotOf_0 rfl (lv_at hl 0 rfl) ?_
  refine lv_iload_n hx hb dX5_spotOf_1 rfl (lv_at hl 1 rfl) ?_
  obtain ⟨o2, e1, o2x, hf⟩ := cl_x2_e hf
  refine cr_XVr C hw TT (c_X5_known hlt ht0 e1) cy_X5_known vy_X5_known ml_X5_143 (cl_lt ht0 (by decide)) (cl_e5 ht0) rfl rfl (As := [.int a1]) rfl hl.1 rfl ⟨⟨Nat.le_of_ble_eq_true rfl, Nat.le_of_ble_eq_true rfl⟩, Nat.le_of_ble_eq_true rfl, Nat.le_of_ble_eq_true rfl, Nat.le_of_ble_eq_true rfl⟩ ⟨Nat.le_of_ble_eq_true rfl, Nat.le_of_ble_eq_true rfl⟩ dX5_spotOf_2 o2x (fun v3 M4 eo2 H locs hw => ?_)
  have hf := hf v3 M4 eo2
  have hv3 := s_X5_known ht0 (e1.trans (congrArg some eo2))
  refine fg_X5_170 C hw hv3 dX5_spotOf_5 ?_
  obtain rfl := Option.some.inj hf
  exact cr_xreti C hw dX5_spotOf_8
set_option maxRecDepth 100000 in
theorem c_X5_spotOf {l : Launch} {dd : cl_D} {b : Nat} (hlt : l.stackTraces = false) {M : cl_M} {t0 : Nat} {a1 : Int32}  {o : Except (Nat × cl_M) (Int32 × cl_M)} (ht0 : cl_sh dd t0 = 5) (h : f_X5_spotOf M t0 a1 = some o) : cl_Xi l dd b yX5_spotOf cX5_spotOf 2 (some .int) 7 111 1 [.ref (b + t0), .int a1] M o :=
  cl_ofX hlt (by decide) (Nat.le_of_ble_eq_true rfl) (fun p e s m below meth c ls C TT hw hl => k_X5_spotOf C TT M t0 a1 o h _ _ _ ht0 hw (lv_sub hl [0, 1] rfl))
theorem cy_X5_spotOf : cl_cy yX5_spotOf cX5_spotOf 2 (some .int) 1 := ⟨in_ClothesLine, cd_X5_spotOf, by decide +kernel, by decide +kernel, by decide +kernel⟩
theorem vy_X5_spotOf : cl_vy yX5_spotOf := ⟨im_X5_spotOf, se_X5_spotOf⟩
def f_X5_woodenOf (M : cl_M) (t0 : Nat) (a1 : Int32) : Option (Except (Nat × cl_M) (Int32 × cl_M)) := cl_x2 (f_X5_known M t0 a1) (fun v3 M4 => some (.ok (M4 v3 9, M4)))
set_option maxHeartbeats 4000000 in
set_option maxRecDepth 100000 in
theorem k_X5_woodenOf {p : Program} {l : Launch} {e : Env} {s : State} {m : MethodId} {args : Array Value} {below : List Frame} {meth : Method} {c : Code} {dd : cl_D} {b : Nat} (C : cl_C p l s m args meth c cX5_woodenOf RX5 2 (some .int) dd b) (TT : cl_T c) : ∀ (M : cl_M) (t0 : Nat) (a1 : Int32) (o : Except (Nat × cl_M) (Int32 × cl_M)), f_X5_woodenOf M t0 a1 = some o → ∀ (H : Heap) (locs : List Loc) (ls : Array Slot), cl_sh dd t0 = 5 → cl_H dd b M s H locs → lv_has ls 2 [(0, .ref (b + t0)), (1, .int a1)] → W p l e { frames := 7, cells := 1, slots := 6, locals := 111 } s m args below meth c H locs 0 0 (cl_Yi below args s dd b o 1) (F0 m 0 ls []) := by
  have hx := C.1
  have hb := C.2.1
  have hlt := C.2.2.2.2.2.2.2.2.2.2
  have hRr := C.2.2.2.2.2.2.2.2.2.1
  intro M t0 a1 o hf H locs ls ht0 hw hl
  unfold f_X5_woodenOf at hf
  refine lv_aload_n hx hb dX5_woodenOf_0 rfl (lv_at hl 0 rfl) ?_
  refine lv_iload_n hx hb dX5_woodenOf_1 rfl (lv_at hl 1 rfl) ?_
  obtain ⟨o2, e1, o2x, hf⟩ := cl_x2_e hf
  refine cr_XVr C hw TT (c_X5_known hlt ht0 e1) cy_X5_known vy_X5_known ml_X5_143 (cl_lt ht0 (by decide)) (cl_e5 ht0) rfl rfl (As := [.int a1]) rfl hl.1 rfl ⟨⟨Nat.le_of_ble_eq_true rfl, Nat.le_of_ble_eq_true rfl⟩, Nat.le_of_ble_eq_true rfl, Nat.le_of_ble_eq_true rfl, Nat.le_of_ble_eq_true rfl⟩ ⟨Nat.le_of_ble_eq_true rfl, Nat.le_of_ble_eq_true rfl⟩ dX5_woodenOf_2 o2x (fun v3 M4 eo2 H locs hw => ?_)
  have hf := hf v3 M4 eo2
  have hv3 := s_X5_known ht0 (e1.trans (congrArg some eo2))
  refine fg_X5_173 C hw hv3 dX5_woodenOf_5 ?_
  obtain rfl := Option.some.inj hf
  exact cr_xreti C hw dX5_woodenOf_8
set_option maxRecDepth 100000 in
theorem c_X5_woodenOf {l : Launch} {dd : cl_D} {b : Nat} (hlt : l.stackTraces = false) {M : cl_M} {t0 : Nat} {a1 : Int32}  {o : Except (Nat × cl_M) (Int32 × cl_M)} (ht0 : cl_sh dd t0 = 5) (h : f_X5_woodenOf M t0 a1 = some o) : cl_Xi l dd b yX5_woodenOf cX5_woodenOf 2 (some .int) 7 111 1 [.ref (b + t0), .int a1] M o :=
  cl_ofX hlt (by decide) (Nat.le_of_ble_eq_true rfl) (fun p e s m below meth c ls C TT hw hl => k_X5_woodenOf C TT M t0 a1 o h _ _ _ ht0 hw (lv_sub hl [0, 1] rfl))
theorem cy_X5_woodenOf : cl_cy yX5_woodenOf cX5_woodenOf 2 (some .int) 1 := ⟨in_ClothesLine, cd_X5_woodenOf, by decide +kernel, by decide +kernel, by decide +kernel⟩
theorem vy_X5_woodenOf : cl_vy yX5_woodenOf := ⟨im_X5_woodenOf, se_X5_woodenOf⟩
def f_X5_steelOf (M : cl_M) (t0 : Nat) (a1 : Int32) : Option (Except (Nat × cl_M) (Int32 × cl_M)) := cl_x2 (f_X5_known M t0 a1) (fun v3 M4 => some (.ok (M4 v3 10, M4)))
set_option maxHeartbeats 4000000 in
set_option maxRecDepth 100000 in
theorem k_X5_steelOf {p : Program} {l : Launch} {e : Env} {s : State} {m : MethodId} {args : Array Value} {below : List Frame} {meth : Method} {c : Code} {dd : cl_D} {b : Nat} (C : cl_C p l s m args meth c cX5_steelOf RX5 2 (some .int) dd b) (TT : cl_T c) : ∀ (M : cl_M) (t0 : Nat) (a1 : Int32) (o : Except (Nat × cl_M) (Int32 × cl_M)), f_X5_steelOf M t0 a1 = some o → ∀ (H : Heap) (locs : List Loc) (ls : Array Slot), cl_sh dd t0 = 5 → cl_H dd b M s H locs → lv_has ls 2 [(0, .ref (b + t0)), (1, .int a1)] → W p l e { frames := 7, cells := 1, slots := 6, locals := 111 } s m args below meth c H locs 0 0 (cl_Yi below args s dd b o 1) (F0 m 0 ls []) := by
  have hx := C.1
  have hb := C.2.1
  have hlt := C.2.2.2.2.2.2.2.2.2.2
  have hRr := C.2.2.2.2.2.2.2.2.2.1
  intro M t0 a1 o hf H locs ls ht0 hw hl
  unfold f_X5_steelOf at hf
  refine lv_aload_n hx hb dX5_steelOf_0 rfl (lv_at hl 0 rfl) ?_
  refine lv_iload_n hx hb dX5_steelOf_1 rfl (lv_at hl 1 rfl) ?_
  obtain ⟨o2, e1, o2x, hf⟩ := cl_x2_e hf
  refine cr_XVr C hw TT (c_X5_known hlt ht0 e1) cy_X5_known vy_X5_known ml_X5_143 (cl_lt ht0 (by decide)) (cl_e5 ht0) rfl rfl (As := [.int a1]) rfl hl.1 rfl ⟨⟨Nat.le_of_ble_eq_true rfl, Nat.le_of_ble_eq_true rfl⟩, Nat.le_of_ble_eq_true rfl, Nat.le_of_ble_eq_true rfl, Nat.le_of_ble_eq_true rfl⟩ ⟨Nat.le_of_ble_eq_true rfl, Nat.le_of_ble_eq_true rfl⟩ dX5_steelOf_2 o2x (fun v3 M4 eo2 H locs hw => ?_)
  have hf := hf v3 M4 eo2
  have hv3 := s_X5_known ht0 (e1.trans (congrArg some eo2))
  refine fg_X5_176 C hw hv3 dX5_steelOf_5 ?_
  obtain rfl := Option.some.inj hf
  exact cr_xreti C hw dX5_steelOf_8
set_option maxRecDepth 100000 in
theorem c_X5_steelOf {l : Launch} {dd : cl_D} {b : Nat} (hlt : l.stackTraces = false) {M : cl_M} {t0 : Nat} {a1 : Int32}  {o : Except (Nat × cl_M) (Int32 × cl_M)} (ht0 : cl_sh dd t0 = 5) (h : f_X5_steelOf M t0 a1 = some o) : cl_Xi l dd b yX5_steelOf cX5_steelOf 2 (some .int) 7 111 1 [.ref (b + t0), .int a1] M o :=
  cl_ofX hlt (by decide) (Nat.le_of_ble_eq_true rfl) (fun p e s m below meth c ls C TT hw hl => k_X5_steelOf C TT M t0 a1 o h _ _ _ ht0 hw (lv_sub hl [0, 1] rfl))
theorem cy_X5_steelOf : cl_cy yX5_steelOf cX5_steelOf 2 (some .int) 1 := ⟨in_ClothesLine, cd_X5_steelOf, by decide +kernel, by decide +kernel, by decide +kernel⟩
theorem vy_X5_steelOf : cl_vy yX5_steelOf := ⟨im_X5_steelOf, se_X5_steelOf⟩
def f_X5_holdOf (M : cl_M) (t0 : Nat) (a1 : Int32) : Option (Except (Nat × cl_M) (Int32 × cl_M)) := cl_x2 (f_X5_known M t0 a1) (fun v3 M4 => (f_X0_hold M4 v3).bind (fun v5 => some (.ok (v5, M4))))
set_option maxHeartbeats 4000000 in
set_option maxRecDepth 100000 in
theorem k_X5_holdOf {p : Program} {l : Launch} {e : Env} {s : State} {m : MethodId} {args : Array Value} {below : List Frame} {meth : Method} {c : Code} {dd : cl_D} {b : Nat} (C : cl_C p l s m args meth c cX5_holdOf RX5 2 (some .int) dd b) (TT : cl_T c) : ∀ (M : cl_M) (t0 : Nat) (a1 : Int32) (o : Except (Nat × cl_M) (Int32 × cl_M)), f_X5_holdOf M t0 a1 = some o → ∀ (H : Heap) (locs : List Loc) (ls : Array Slot), cl_sh dd t0 = 5 → cl_H dd b M s H locs → lv_has ls 2 [(0, .ref (b + t0)), (1, .int a1)] → W p l e { frames := 7, cells := 1, slots := 6, locals := 111 } s m args below meth c H locs 0 0 (cl_Yi below args s dd b o 1) (F0 m 0 ls []) := by
  have hx := C.1
  have hb := C.2.1
  have hlt := C.2.2.2.2.2.2.2.2.2.2
  have hRr := C.2.2.2.2.2.2.2.2.2.1
  intro M t0 a1 o hf H locs ls ht0 hw hl
  unfold f_X5_holdOf at hf
  refine lv_aload_n hx hb dX5_holdOf_0 rfl (lv_at hl 0 rfl) ?_
  refine lv_iload_n hx hb dX5_holdOf_1 rfl (lv_at hl 1 rfl) ?_
  obtain ⟨o2, e1, o2x, hf⟩ := cl_x2_e hf
  refine cr_XVr C hw TT (c_X5_known hlt ht0 e1) cy_X5_known vy_X5_known ml_X5_143 (cl_lt ht0 (by decide)) (cl_e5 ht0) rfl rfl (As := [.int a1]) rfl hl.1 rfl ⟨⟨Nat.le_of_ble_eq_true rfl, Nat.le_of_ble_eq_true rfl⟩, Nat.le_of_ble_eq_true rfl, Nat.le_of_ble_eq_true rfl, Nat.le_of_ble_eq_true rfl⟩ ⟨Nat.le_of_ble_eq_true rfl, Nat.le_of_ble_eq_true rfl⟩ dX5_holdOf_2 o2x (fun v3 M4 eo2 H locs hw => ?_)
  have hf := hf v3 M4 eo2
  have hv3 := s_X5_known ht0 (e1.trans (congrArg some eo2))
  obtain ⟨v5, e6, hf⟩ := cl_bind_e hf
  refine cr_Vi C hw (c_X0_hold hlt hv3 e6) cy_X0_hold vy_X0_hold ml_X5_179 (cl_lt hv3 (by decide)) (cl_e0 hv3) rfl rfl (As := []) rfl hl.1 rfl ⟨⟨Nat.le_of_ble_eq_true rfl, Nat.le_of_ble_eq_true rfl⟩, Nat.le_of_ble_eq_true rfl, Nat.le_of_ble_eq_true rfl, Nat.le_of_ble_eq_true rfl⟩ dX5_holdOf_5 (fun H locs hw => ?_)
  obtain rfl := Option.some.inj hf
  exact cr_xreti C hw dX5_holdOf_8
set_option maxRecDepth 100000 in
theorem c_X5_holdOf {l : Launch} {dd : cl_D} {b : Nat} (hlt : l.stackTraces = false) {M : cl_M} {t0 : Nat} {a1 : Int32}  {o : Except (Nat × cl_M) (Int32 × cl_M)} (ht0 : cl_sh dd t0 = 5) (h : f_X5_holdOf M t0 a1 = some o) : cl_Xi l dd b yX5_holdOf cX5_holdOf 2 (some .int) 7 111 1 [.ref (b + t0), .int a1] M o :=
  cl_ofX hlt (by decide) (Nat.le_of_ble_eq_true rfl) (fun p e s m below meth c ls C TT hw hl => k_X5_holdOf C TT M t0 a1 o h _ _ _ ht0 hw (lv_sub hl [0, 1] rfl))
theorem cy_X5_holdOf : cl_cy yX5_holdOf cX5_holdOf 2 (some .int) 1 := ⟨in_ClothesLine, cd_X5_holdOf, by decide +kernel, by decide +kernel, by decide +kernel⟩
theorem vy_X5_holdOf : cl_vy yX5_holdOf := ⟨im_X5_holdOf, se_X5_holdOf⟩
def f_X5_fallsOf (M : cl_M) (t0 : Nat) (a1 : Int32) : Option (Except (Nat × cl_M) (Int32 × cl_M)) := cl_x2 (f_X5_known M t0 a1) (fun v3 M4 => some (.ok (M4 v3 11, M4)))
set_option maxHeartbeats 4000000 in
set_option maxRecDepth 100000 in
theorem k_X5_fallsOf {p : Program} {l : Launch} {e : Env} {s : State} {m : MethodId} {args : Array Value} {below : List Frame} {meth : Method} {c : Code} {dd : cl_D} {b : Nat} (C : cl_C p l s m args meth c cX5_fallsOf RX5 2 (some .int) dd b) (TT : cl_T c) : ∀ (M : cl_M) (t0 : Nat) (a1 : Int32) (o : Except (Nat × cl_M) (Int32 × cl_M)), f_X5_fallsOf M t0 a1 = some o → ∀ (H : Heap) (locs : List Loc) (ls : Array Slot), cl_sh dd t0 = 5 → cl_H dd b M s H locs → lv_has ls 2 [(0, .ref (b + t0)), (1, .int a1)] → W p l e { frames := 7, cells := 1, slots := 6, locals := 111 } s m args below meth c H locs 0 0 (cl_Yi below args s dd b o 1) (F0 m 0 ls []) := by
  have hx := C.1
  have hb := C.2.1
  have hlt := C.2.2.2.2.2.2.2.2.2.2
  have hRr := C.2.2.2.2.2.2.2.2.2.1
  intro M t0 a1 o hf H locs ls ht0 hw hl
  unfold f_X5_fallsOf at hf
  refine lv_aload_n hx hb dX5_fallsOf_0 rfl (lv_at hl 0 rfl) ?_
  refine lv_iload_n hx hb dX5_fallsOf_1 rfl (lv_at hl 1 rfl) ?_
  obtain ⟨o2, e1, o2x, hf⟩ := cl_x2_e hf
  refine cr_XVr C hw TT (c_X5_known hlt ht0 e1) cy_X5_known vy_X5_known ml_X5_143 (cl_lt ht0 (by decide)) (cl_e5 ht0) rfl rfl (As := [.int a1]) rfl hl.1 rfl ⟨⟨Nat.le_of_ble_eq_true rfl, Nat.le_of_ble_eq_true rfl⟩, Nat.le_of_ble_eq_true rfl, Nat.le_of_ble_eq_true rfl, Nat.le_of_ble_eq_true rfl⟩ ⟨Nat.le_of_ble_eq_true rfl, Nat.le_of_ble_eq_true rfl⟩ dX5_fallsOf_2 o2x (fun v3 M4 eo2 H locs hw => ?_)
  have hf := hf v3 M4 eo2
  have hv3 := s_X5_known ht0 (e1.trans (congrArg some eo2))
  refine fg_X5_182 C hw hv3 dX5_fallsOf_5 ?_
  obtain rfl := Option.some.inj hf
  exact cr_xreti C hw dX5_fallsOf_8
set_option maxRecDepth 100000 in
theorem c_X5_fallsOf {l : Launch} {dd : cl_D} {b : Nat} (hlt : l.stackTraces = false) {M : cl_M} {t0 : Nat} {a1 : Int32}  {o : Except (Nat × cl_M) (Int32 × cl_M)} (ht0 : cl_sh dd t0 = 5) (h : f_X5_fallsOf M t0 a1 = some o) : cl_Xi l dd b yX5_fallsOf cX5_fallsOf 2 (some .int) 7 111 1 [.ref (b + t0), .int a1] M o :=
  cl_ofX hlt (by decide) (Nat.le_of_ble_eq_true rfl) (fun p e s m below meth c ls C TT hw hl => k_X5_fallsOf C TT M t0 a1 o h _ _ _ ht0 hw (lv_sub hl [0, 1] rfl))
theorem cy_X5_fallsOf : cl_cy yX5_fallsOf cX5_fallsOf 2 (some .int) 1 := ⟨in_ClothesLine, cd_X5_fallsOf, by decide +kernel, by decide +kernel, by decide +kernel⟩
theorem vy_X5_fallsOf : cl_vy yX5_fallsOf := ⟨im_X5_fallsOf, se_X5_fallsOf⟩
def f_X5_isDirty (M : cl_M) (t0 : Nat) (a1 : Int32) : Option (Except (Nat × cl_M) (Int32 × cl_M)) := cl_x2 (f_X5_known M t0 a1) (fun v3 M4 => if cl_bz (M4 v3 5) = true then some (.ok (M4 v3 5, M4)) else none)
set_option maxHeartbeats 4000000 in
set_option maxRecDepth 100000 in
theorem k_X5_isDirty {p : Program} {l : Launch} {e : Env} {s : State} {m : MethodId} {args : Array Value} {below : List Frame} {meth : Method} {c : Code} {dd : cl_D} {b : Nat} (C : cl_C p l s m args meth c cX5_isDirty RX5 2 (some .boolean) dd b) (TT : cl_T c) : ∀ (M : cl_M) (t0 : Nat) (a1 : Int32) (o : Except (Nat × cl_M) (Int32 × cl_M)), f_X5_isDirty M t0 a1 = some o → ∀ (H : Heap) (locs : List Loc) (ls : Array Slot), cl_sh dd t0 = 5 → cl_H dd b M s H locs → lv_has ls 2 [(0, .ref (b + t0)), (1, .int a1)] → W p l e { frames := 7, cells := 1, slots := 6, locals := 111 } s m args below meth c H locs 0 0 (cl_Yi below args s dd b o 1) (F0 m 0 ls []) := by
  have hx := C.1
  have hb := C.2.1
  have hlt := C.2.2.2.2.2.2.2.2.2.2
  have hRr := C.2.2.2.2.2.2.2.2.2.1
  intro M t0 a1 o hf H locs ls ht0 hw hl
  unfold f_X5_isDirty at hf
  refine lv_aload_n hx hb dX5_isDirty_0 rfl (lv_at hl 0 rfl) ?_
  refine lv_iload_n hx hb dX5_isDirty_1 rfl (lv_at hl 1 rfl) ?_
  obtain ⟨o2, e1, o2x, hf⟩ := cl_x2_e hf
  refine cr_XVr C hw TT (c_X5_known hlt ht0 e1) cy_X5_known vy_X5_known ml_X5_143 (cl_lt ht0 (by decide)) (cl_e5 ht0) rfl rfl (As := [.int a1]) rfl hl.1 rfl ⟨⟨Nat.le_of_ble_eq_true rfl, Nat.le_of_ble_eq_true rfl⟩, Nat.le_of_ble_eq_true rfl, Nat.le_of_ble_eq_true rfl, Nat.le_of_ble_eq_true rfl⟩ ⟨Nat.le_of_ble_eq_true rfl, Nat.le_of_ble_eq_true rfl⟩ dX5_isDirty_2 o2x (fun v3 M4 eo2 H locs hw => ?_)
  have hf := hf v3 M4 eo2
  have hv3 := s_X5_known ht0 (e1.trans (congrArg some eo2))
  refine fg_X5_185 C hw hv3 dX5_isDirty_5 ?_
  obtain ⟨q5, hf⟩ := cl_grd hf
  obtain rfl := Option.some.inj hf
  exact cr_xretz C hw q5 dX5_isDirty_8
set_option maxRecDepth 100000 in
theorem c_X5_isDirty {l : Launch} {dd : cl_D} {b : Nat} (hlt : l.stackTraces = false) {M : cl_M} {t0 : Nat} {a1 : Int32}  {o : Except (Nat × cl_M) (Int32 × cl_M)} (ht0 : cl_sh dd t0 = 5) (h : f_X5_isDirty M t0 a1 = some o) : cl_Xi l dd b yX5_isDirty cX5_isDirty 2 (some .boolean) 7 111 1 [.ref (b + t0), .int a1] M o :=
  cl_ofX hlt (by decide) (Nat.le_of_ble_eq_true rfl) (fun p e s m below meth c ls C TT hw hl => k_X5_isDirty C TT M t0 a1 o h _ _ _ ht0 hw (lv_sub hl [0, 1] rfl))
theorem cy_X5_isDirty : cl_cy yX5_isDirty cX5_isDirty 2 (some .boolean) 1 := ⟨in_ClothesLine, cd_X5_isDirty, by decide +kernel, by decide +kernel, by decide +kernel⟩
theorem vy_X5_isDirty : cl_vy yX5_isDirty := ⟨im_X5_isDirty, se_X5_isDirty⟩
def f_X5_garmentsIn (M : cl_M) (t0 : Nat) (a1 : Int32) : Option (Except (Nat × cl_M) (Int32 × cl_M)) := cl_x1 (f_X5_requireRange M a1 0 2) (fun M4 => (f_X2_setInState M4 (t0 + 4) a1).bind (fun v5 => some (.ok (v5, M4))))
set_option maxHeartbeats 4000000 in
set_option maxRecDepth 100000 in
theorem k_X5_garmentsIn {p : Program} {l : Launch} {e : Env} {s : State} {m : MethodId} {args : Array Value} {below : List Frame} {meth : Method} {c : Code} {dd : cl_D} {b : Nat} (C : cl_C p l s m args meth c cX5_garmentsIn RX5 2 (some .int) dd b) (TT : cl_T c) : ∀ (M : cl_M) (t0 : Nat) (a1 : Int32) (o : Except (Nat × cl_M) (Int32 × cl_M)), f_X5_garmentsIn M t0 a1 = some o → ∀ (H : Heap) (locs : List Loc) (ls : Array Slot), cl_sh dd t0 = 5 → cl_H dd b M s H locs → lv_has ls 2 [(0, .ref (b + t0)), (1, .int a1)] → W p l e { frames := 7, cells := 1, slots := 6, locals := 112 } s m args below meth c H locs 0 0 (cl_Yi below args s dd b o 1) (F0 m 0 ls []) := by
  have hx := C.1
  have hb := C.2.1
  have hlt := C.2.2.2.2.2.2.2.2.2.2
  have hRr := C.2.2.2.2.2.2.2.2.2.1
  intro M t0 a1 o hf H locs ls ht0 hw hl
  unfold f_X5_garmentsIn at hf
  refine lv_iload_n hx hb dX5_garmentsIn_0 rfl (lv_at hl 1 rfl) ?_
  refine lv_iconst (v := 0) hx hb dX5_garmentsIn_1 (by decide) ?_
  refine lv_iconst (v := 2) hx hb dX5_garmentsIn_2 (by decide) ?_
  obtain ⟨o2, e1, o2x, hf⟩ := cl_x1_e hf
  refine cr_XSv C hw TT (c_X5_requireRange hlt e1) cy_X5_requireRange st_X5_requireRange ml_X5_103 (As := [.int a1, .int 0, .int 2]) rfl hl.1 rfl ⟨⟨Nat.le_of_ble_eq_true rfl, Nat.le_of_ble_eq_true rfl⟩, Nat.le_of_ble_eq_true rfl, Nat.le_of_ble_eq_true rfl, Nat.le_of_ble_eq_true rfl⟩ ⟨Nat.le_of_ble_eq_true rfl, Nat.le_of_ble_eq_true rfl⟩ dX5_garmentsIn_3 o2x (fun M4 eo2 H locs hw => ?_)
  have hf := hf M4 eo2
  refine lv_aload_n hx hb dX5_garmentsIn_6 rfl (lv_at hl 0 rfl) ?_
  refine fg_X5_19 C hw ht0 dX5_garmentsIn_7 ?_
  refine lv_iload_n hx hb dX5_garmentsIn_10 rfl (lv_at hl 1 rfl) ?_
  obtain ⟨v5, e6, hf⟩ := cl_bind_e hf
  refine cr_Vi C hw (c_X2_setInState hlt (sh_5_1 ht0).1 e6) cy_X2_setInState vy_X2_setInState ml_X5_189 (cl_lt (sh_5_1 ht0).1 (by decide)) (cl_e2 (sh_5_1 ht0).1) rfl rfl (As := [.int a1]) rfl hl.1 rfl ⟨⟨Nat.le_of_ble_eq_true rfl, Nat.le_of_ble_eq_true rfl⟩, Nat.le_of_ble_eq_true rfl, Nat.le_of_ble_eq_true rfl, Nat.le_of_ble_eq_true rfl⟩ dX5_garmentsIn_11 (fun H locs hw => ?_)
  obtain rfl := Option.some.inj hf
  exact cr_xreti C hw dX5_garmentsIn_14
set_option maxRecDepth 100000 in
theorem c_X5_garmentsIn {l : Launch} {dd : cl_D} {b : Nat} (hlt : l.stackTraces = false) {M : cl_M} {t0 : Nat} {a1 : Int32}  {o : Except (Nat × cl_M) (Int32 × cl_M)} (ht0 : cl_sh dd t0 = 5) (h : f_X5_garmentsIn M t0 a1 = some o) : cl_Xi l dd b yX5_garmentsIn cX5_garmentsIn 2 (some .int) 7 112 1 [.ref (b + t0), .int a1] M o :=
  cl_ofX hlt (by decide) (Nat.le_of_ble_eq_true rfl) (fun p e s m below meth c ls C TT hw hl => k_X5_garmentsIn C TT M t0 a1 o h _ _ _ ht0 hw (lv_sub hl [0, 1] rfl))
theorem cy_X5_garmentsIn : cl_cy yX5_garmentsIn cX5_garmentsIn 2 (some .int) 1 := ⟨in_ClothesLine, cd_X5_garmentsIn, by decide +kernel, by decide +kernel, by decide +kernel⟩
theorem vy_X5_garmentsIn : cl_vy yX5_garmentsIn := ⟨im_X5_garmentsIn, se_X5_garmentsIn⟩
def f_X5_dryGarments_36 (r4 : cl_M → Nat → Int32 → Int32 → Option (Int32)) (M : cl_M) (t0 : Nat) (a1 : Int32) (a2 : Int32) : Option (Int32) := cl_let (a2 + 1) (fun v4 => r4 M t0 a1 v4)
set_option maxHeartbeats 4000000 in
set_option maxRecDepth 100000 in
theorem k_X5_dryGarments_36 {p : Program} {l : Launch} {e : Env} {s : State} {m : MethodId} {args : Array Value} {below : List Frame} {meth : Method} {c : Code} {dd : cl_D} {b : Nat} (C : cl_C p l s m args meth c cX5_dryGarments RX5 3 (some .int) dd b) {r4 : cl_M → Nat → Int32 → Int32 → Option (Int32)} (hr4 : ∀ (M : cl_M) (t0 : Nat) (a1 : Int32) (a2 : Int32) (r : Int32), r4 M t0 a1 a2 = some r → ∀ (H : Heap) (locs : List Loc) (ls : Array Slot), cl_sh dd t0 = 5 → cl_H dd b M s H locs → lv_has ls 3 [(0, .ref (b + t0)), (1, .int a1), (2, .int a2)] → W p l e { frames := 0, cells := 0, slots := 0, locals := 0 } s m args below meth c H locs 0 0 (cl_Zi below args s dd b r M) (F0 m 4 ls [])) : ∀ (M : cl_M) (t0 : Nat) (a1 : Int32) (a2 : Int32) (r : Int32), f_X5_dryGarments_36 r4 M t0 a1 a2 = some r → ∀ (H : Heap) (locs : List Loc) (ls : Array Slot), cl_sh dd t0 = 5 → cl_H dd b M s H locs → lv_has ls 3 [(0, .ref (b + t0)), (1, .int a1), (2, .int a2)] → W p l e { frames := 0, cells := 0, slots := 0, locals := 0 } s m args below meth c H locs 0 0 (cl_Zi below args s dd b r M) (F0 m 36 ls []) := by
  have hx := C.1
  have hb := C.2.1
  have hlt := C.2.2.2.2.2.2.2.2.2.2
  have hRr := C.2.2.2.2.2.2.2.2.2.1
  intro M t0 a1 a2 r hf H locs ls ht0 hw hl
  unfold f_X5_dryGarments_36 at hf
  obtain ⟨v4, ev4, hf⟩ := cl_let_e hf
  refine lv_iinc (v := v4) (lv' := [(2, .int v4), (0, .ref (b + t0)), (1, .int a1)]) hx hb dX5_dryGarments_36 hl (k := 2) rfl (by rw [ev4]; rfl) (by decide) rfl (fun ls hl => ?_)
  refine lv_goto (tgt := 4) hx hb dX5_dryGarments_39 (by decide) ?_
  exact hr4 M t0 a1 v4 _ hf _ _ _ ht0 hw (lv_sub hl [1, 2, 0] rfl)
def f_X5_dryGarments_4 : Nat → cl_M → Nat → Int32 → Int32 → Option (Int32)
  | 0, _, _, _, _ => none
  | k + 1, M, t0, a1, a2 => if (M (t0 + 4) 3) ≤ a2 then some a1 else if cl_inb a2 10 = true then if (M (((t0 + 4) + 8) + 1 + (a2).toNatClampNeg) 3) = 0 then cl_let (a1 ||| (1 <<< (a2 &&& 31))) (fun v5 => f_X5_dryGarments_36 (f_X5_dryGarments_4 k) M t0 v5 a2) else f_X5_dryGarments_36 (f_X5_dryGarments_4 k) M t0 a1 a2 else none
set_option maxHeartbeats 4000000 in
set_option maxRecDepth 100000 in
theorem k_X5_dryGarments_4 {p : Program} {l : Launch} {e : Env} {s : State} {m : MethodId} {args : Array Value} {below : List Frame} {meth : Method} {c : Code} {dd : cl_D} {b : Nat} (C : cl_C p l s m args meth c cX5_dryGarments RX5 3 (some .int) dd b) : ∀ (k : Nat), ∀ (M : cl_M) (t0 : Nat) (a1 : Int32) (a2 : Int32) (r : Int32), f_X5_dryGarments_4 k M t0 a1 a2 = some r → ∀ (H : Heap) (locs : List Loc) (ls : Array Slot), cl_sh dd t0 = 5 → cl_H dd b M s H locs → lv_has ls 3 [(0, .ref (b + t0)), (1, .int a1), (2, .int a2)] → W p l e { frames := 0, cells := 0, slots := 0, locals := 0 } s m args below meth c H locs 0 0 (cl_Zi below args s dd b r M) (F0 m 4 ls []) := by
  have hx := C.1
  have hb := C.2.1
  have hlt := C.2.2.2.2.2.2.2.2.2.2
  have hRr := C.2.2.2.2.2.2.2.2.2.1
  intro k
  induction k with
  | zero =>
    intro M t0 a1 a2 r hf H locs ls ht0 hw hl
    rw [f_X5_dryGarments_4] at hf
    cases hf
  | succ k ih =>
    intro M t0 a1 a2 r hf H locs ls ht0 hw hl
    rw [f_X5_dryGarments_4] at hf
    refine lv_iload_n hx hb dX5_dryGarments_4 rfl (lv_at hl 2 rfl) ?_
    refine lv_aload_n hx hb dX5_dryGarments_5 rfl (lv_at hl 0 rfl) ?_
    refine fg_X5_19 C hw ht0 dX5_dryGarments_6 ?_
    refine fg_X5_71 C hw (sh_5_1 ht0).1 dX5_dryGarments_9 ?_
    refine lv_icmp_ge (tgt := 42) hx hb dX5_dryGarments_12 (by decide) (fun c1 => ?_) (fun c1 => ?_)
    · have hf := cl_yes c1 hf
      refine lv_iload_n hx hb dX5_dryGarments_42 rfl (lv_at hl 1 rfl) ?_
      obtain rfl := Option.some.inj hf
      exact cr_reti C hw dX5_dryGarments_43
    · have hf := cl_no c1 hf
      refine lv_aload_n hx hb dX5_dryGarments_15 rfl (lv_at hl 0 rfl) ?_
      refine fg_X5_19 C hw ht0 dX5_dryGarments_16 ?_
      refine fg_X5_192 C hw (sh_5_1 ht0).1 dX5_dryGarments_19 ?_
      refine lv_iload_n hx hb dX5_dryGarments_22 rfl (lv_at hl 2 rfl) ?_
      obtain ⟨q2, hf⟩ := cl_grd hf
      refine cr_ald9 C hw (sh_2_5 (sh_5_1 ht0).1).1 q2 (k := (a2).toNatClampNeg) rfl dX5_dryGarments_23 ?_
      refine fg_X5_161 C hw (sh_el_9 (sh_2_5 (sh_5_1 ht0).1).1 (cl_inb_lt q2)) dX5_dryGarments_24 ?_
      refine lv_if_ne (tgt := 36) hx hb dX5_dryGarments_27 (by decide) (fun c3 => ?_) (fun c3 => ?_)
      · have hf := cl_no c3 hf
        exact k_X5_dryGarments_36 C ih M t0 a1 a2 _ hf _ _ _ ht0 hw (lv_sub hl [0, 1, 2] rfl)
      · have hf := cl_yes c3 hf
        refine lv_iload_n hx hb dX5_dryGarments_30 rfl (lv_at hl 1 rfl) ?_
        refine lv_iconst (v := 1) hx hb dX5_dryGarments_31 (by decide) ?_
        refine lv_iload_n hx hb dX5_dryGarments_32 rfl (lv_at hl 2 rfl) ?_
        refine lv_ishl hx hb dX5_dryGarments_33 ?_
        refine lv_ior hx hb dX5_dryGarments_34 ?_
        obtain ⟨v5, ev5, hf⟩ := cl_let_e hf
        refine cr_top ev5 ?_
        refine lv_istore_n (lv' := [(1, .int v5), (0, .ref (b + t0)), (2, .int a2)]) hx hb dX5_dryGarments_35 rfl hl (by decide) rfl (fun ls hl => ?_)
        exact k_X5_dryGarments_36 C ih M t0 v5 a2 _ hf _ _ _ ht0 hw (lv_sub hl [1, 0, 2] rfl)
def f_X5_dryGarments (M : cl_M) (t0 : Nat) : Option (Int32) := f_X5_dryGarments_4 cl_F M t0 0 0
set_option maxHeartbeats 4000000 in
set_option maxRecDepth 100000 in
theorem k_X5_dryGarments {p : Program} {l : Launch} {e : Env} {s : State} {m : MethodId} {args : Array Value} {below : List Frame} {meth : Method} {c : Code} {dd : cl_D} {b : Nat} (C : cl_C p l s m args meth c cX5_dryGarments RX5 3 (some .int) dd b) : ∀ (M : cl_M) (t0 : Nat) (r : Int32), f_X5_dryGarments M t0 = some r → ∀ (H : Heap) (locs : List Loc) (ls : Array Slot), cl_sh dd t0 = 5 → cl_H dd b M s H locs → lv_has ls 3 [(0, .ref (b + t0))] → W p l e { frames := 0, cells := 0, slots := 0, locals := 0 } s m args below meth c H locs 0 0 (cl_Zi below args s dd b r M) (F0 m 0 ls []) := by
  have hx := C.1
  have hb := C.2.1
  have hlt := C.2.2.2.2.2.2.2.2.2.2
  have hRr := C.2.2.2.2.2.2.2.2.2.1
  intro M t0 r hf H locs ls ht0 hw hl
  unfold f_X5_dryGarments at hf
  refine lv_iconst (v := 0) hx hb dX5_dryGarments_0 (by decide) ?_
  refine lv_istore_n (lv' := [(1, .int 0), (0, .ref (b + t0))]) hx hb dX5_dryGarments_1 rfl hl (by decide) rfl (fun ls hl => ?_)
  refine lv_iconst (v := 0) hx hb dX5_dryGarments_2 (by decide) ?_
  refine lv_istore_n (lv' := [(2, .int 0), (1, .int 0), (0, .ref (b + t0))]) hx hb dX5_dryGarments_3 rfl hl (by decide) rfl (fun ls hl => ?_)
  exact k_X5_dryGarments_4 C cl_F M t0 0 0 _ hf _ _ _ ht0 hw (lv_sub hl [2, 1, 0] rfl)
set_option maxRecDepth 100000 in
theorem c_X5_dryGarments {l : Launch} {dd : cl_D} {b : Nat} (hlt : l.stackTraces = false) {M : cl_M} {t0 : Nat}  {r : Int32} (ht0 : cl_sh dd t0 = 5) (h : f_X5_dryGarments M t0 = some r) : cl_Mi l dd b yX5_dryGarments cX5_dryGarments 3 (some .int) 0 0 [.ref (b + t0)] M r M :=
  cl_of hlt (by decide) (Nat.le_of_ble_eq_true rfl) (fun p e s m below meth c ls C hw hl => k_X5_dryGarments C M t0 r h _ _ _ ht0 hw (lv_sub hl [0] rfl))
theorem cy_X5_dryGarments : cl_cy yX5_dryGarments cX5_dryGarments 3 (some .int) 0 := ⟨in_ClothesLine, cd_X5_dryGarments, by decide +kernel, by decide +kernel, by decide +kernel⟩
theorem vy_X5_dryGarments : cl_vy yX5_dryGarments := ⟨im_X5_dryGarments, se_X5_dryGarments⟩
def f_X5_hangObstacle (M : cl_M) (t0 : Nat) (a1 : Int32) (a2 : Int32) (a3 : Int32) (a4 : Int32) : Option (Except (Nat × cl_M) (Int32 × cl_M)) := cl_x2 (f_X5_known M t0 a1) (fun v3 M4 => cl_x1 (f_X5_requireRange M4 a2 0 23) (fun M8 => cl_x1 (f_X5_requireRange M8 a3 0 4) (fun M12 => cl_x1 (f_X5_requireRange M12 a4 0 4) (fun M16 => (f_X2_obstacle M16 (t0 + 4) v3 a2 a3 a4).bind (fun v17 => some (.ok (v17, M16)))))))
set_option maxHeartbeats 4000000 in
set_option maxRecDepth 100000 in
theorem k_X5_hangObstacle {p : Program} {l : Launch} {e : Env} {s : State} {m : MethodId} {args : Array Value} {below : List Frame} {meth : Method} {c : Code} {dd : cl_D} {b : Nat} (C : cl_C p l s m args meth c cX5_hangObstacle RX5 6 (some .int) dd b) (TT : cl_T c) : ∀ (M : cl_M) (t0 : Nat) (a1 : Int32) (a2 : Int32) (a3 : Int32) (a4 : Int32) (o : Except (Nat × cl_M) (Int32 × cl_M)), f_X5_hangObstacle M t0 a1 a2 a3 a4 = some o → ∀ (H : Heap) (locs : List Loc) (ls : Array Slot), cl_sh dd t0 = 5 → cl_H dd b M s H locs → lv_has ls 6 [(0, .ref (b + t0)), (1, .int a1), (2, .int a2), (3, .int a3), (4, .int a4)] → W p l e { frames := 7, cells := 4, slots := 24, locals := 112 } s m args below meth c H locs 0 0 (cl_Yi below args s dd b o 4) (F0 m 0 ls []) := by
  have hx := C.1
  have hb := C.2.1
  have hlt := C.2.2.2.2.2.2.2.2.2.2
  have hRr := C.2.2.2.2.2.2.2.2.2.1
  intro M t0 a1 a2 a3 a4 o hf H locs ls ht0 hw hl
  unfold f_X5_hangObstacle at hf
  refine lv_aload_n hx hb dX5_hangObstacle_0 rfl (lv_at hl 0 rfl) ?_
  refine lv_iload_n hx hb dX5_hangObstacle_1 rfl (lv_at hl 1 rfl) ?_
  obtain ⟨o2, e1, o2x, hf⟩ := cl_x2_e hf
  refine cr_XVr C hw TT (c_X5_known hlt ht0 e1) cy_X5_known vy_X5_known ml_X5_143 (cl_lt ht0 (by decide)) (cl_e5 ht0) rfl rfl (As := [.int a1]) rfl hl.1 rfl ⟨⟨Nat.le_of_ble_eq_true rfl, Nat.le_of_ble_eq_true rfl⟩, Nat.le_of_ble_eq_true rfl, Nat.le_of_ble_eq_true rfl, Nat.le_of_ble_eq_true rfl⟩ ⟨Nat.le_of_ble_eq_true rfl, Nat.le_of_ble_eq_true rfl⟩ dX5_hangObstacle_2 o2x (fun v3 M4 eo2 H locs hw => ?_)
  have hf := hf v3 M4 eo2
  have hv3 := s_X5_known ht0 (e1.trans (congrArg some eo2))
  refine lv_astore (lv' := [(5, .ref (b + v3)), (0, .ref (b + t0)), (1, .int a1), (2, .int a2), (3, .int a3), (4, .int a4)]) hx hb dX5_hangObstacle_5 hl (by decide) rfl (fun ls hl => ?_)
  refine lv_iload_n hx hb dX5_hangObstacle_7 rfl (lv_at hl 3 rfl) ?_
  refine lv_iconst (v := 0) hx hb dX5_hangObstacle_8 (by decide) ?_
  refine lv_bipush (v := 23) hx hb dX5_hangObstacle_9 (by decide) ?_
  obtain ⟨o6, e5, o6x, hf⟩ := cl_x1_e hf
  refine cr_XSv C hw TT (c_X5_requireRange hlt e5) cy_X5_requireRange st_X5_requireRange ml_X5_103 (As := [.int a2, .int 0, .int 23]) rfl hl.1 rfl ⟨⟨Nat.le_of_ble_eq_true rfl, Nat.le_of_ble_eq_true rfl⟩, Nat.le_of_ble_eq_true rfl, Nat.le_of_ble_eq_true rfl, Nat.le_of_ble_eq_true rfl⟩ ⟨Nat.le_of_ble_eq_true rfl, Nat.le_of_ble_eq_true rfl⟩ dX5_hangObstacle_11 o6x (fun M8 eo6 H locs hw => ?_)
  have hf := hf M8 eo6
  refine lv_iload_n hx hb dX5_hangObstacle_14 rfl (lv_at hl 4 rfl) ?_
  refine lv_iconst (v := 0) hx hb dX5_hangObstacle_15 (by decide) ?_
  refine lv_iconst (v := 4) hx hb dX5_hangObstacle_16 (by decide) ?_
  obtain ⟨o10, e9, o10x, hf⟩ := cl_x1_e hf
  refine cr_XSv C hw TT (c_X5_requireRange hlt e9) cy_X5_requireRange st_X5_requireRange ml_X5_103 (As := [.int a3, .int 0, .int 4]) rfl hl.1 rfl ⟨⟨Nat.le_of_ble_eq_true rfl, Nat.le_of_ble_eq_true rfl⟩, Nat.le_of_ble_eq_true rfl, Nat.le_of_ble_eq_true rfl, Nat.le_of_ble_eq_true rfl⟩ ⟨Nat.le_of_ble_eq_true rfl, Nat.le_of_ble_eq_true rfl⟩ dX5_hangObstacle_17 o10x (fun M12 eo10 H locs hw => ?_)
  have hf := hf M12 eo10
  refine lv_iload hx hb dX5_hangObstacle_20 (lv_at hl 5 rfl) ?_
  refine lv_iconst (v := 0) hx hb dX5_hangObstacle_22 (by decide) ?_
  refine lv_iconst (v := 4) hx hb dX5_hangObstacle_23 (by decide) ?_
  obtain ⟨o14, e13, o14x, hf⟩ := cl_x1_e hf
  refine cr_XSv C hw TT (c_X5_requireRange hlt e13) cy_X5_requireRange st_X5_requireRange ml_X5_103 (As := [.int a4, .int 0, .int 4]) rfl hl.1 rfl ⟨⟨Nat.le_of_ble_eq_true rfl, Nat.le_of_ble_eq_true rfl⟩, Nat.le_of_ble_eq_true rfl, Nat.le_of_ble_eq_true rfl, Nat.le_of_ble_eq_true rfl⟩ ⟨Nat.le_of_ble_eq_true rfl, Nat.le_of_ble_eq_true rfl⟩ dX5_hangObstacle_24 o14x (fun M16 eo14 H locs hw => ?_)
  have hf := hf M16 eo14
  refine lv_aload_n hx hb dX5_hangObstacle_27 rfl (lv_at hl 1 rfl) ?_
  refine fg_X5_19 C hw ht0 dX5_hangObstacle_28 ?_
  refine lv_aload hx hb dX5_hangObstacle_31 (lv_at hl 0 rfl) ?_
  refine lv_iload_n hx hb dX5_hangObstacle_33 rfl (lv_at hl 3 rfl) ?_
  refine lv_iload_n hx hb dX5_hangObstacle_34 rfl (lv_at hl 4 rfl) ?_
  refine lv_iload hx hb dX5_hangObstacle_35 (lv_at hl 5 rfl) ?_
  obtain ⟨v17, e18, hf⟩ := cl_bind_e hf
  refine cr_Vi C hw (c_X2_obstacle hlt (sh_5_1 ht0).1 hv3 e18) cy_X2_obstacle vy_X2_obstacle ml_X5_196 (cl_lt (sh_5_1 ht0).1 (by decide)) (cl_e2 (sh_5_1 ht0).1) rfl rfl (As := [.ref (b + v3), .int a2, .int a3, .int a4]) rfl hl.1 rfl ⟨⟨Nat.le_of_ble_eq_true rfl, Nat.le_of_ble_eq_true rfl⟩, Nat.le_of_ble_eq_true rfl, Nat.le_of_ble_eq_true rfl, Nat.le_of_ble_eq_true rfl⟩ dX5_hangObstacle_37 (fun H locs hw => ?_)
  obtain rfl := Option.some.inj hf
  exact cr_xreti C hw dX5_hangObstacle_40
set_option maxRecDepth 100000 in
theorem c_X5_hangObstacle {l : Launch} {dd : cl_D} {b : Nat} (hlt : l.stackTraces = false) {M : cl_M} {t0 : Nat} {a1 : Int32} {a2 : Int32} {a3 : Int32} {a4 : Int32}  {o : Except (Nat × cl_M) (Int32 × cl_M)} (ht0 : cl_sh dd t0 = 5) (h : f_X5_hangObstacle M t0 a1 a2 a3 a4 = some o) : cl_Xi l dd b yX5_hangObstacle cX5_hangObstacle 6 (some .int) 7 112 4 [.ref (b + t0), .int a1, .int a2, .int a3, .int a4] M o :=
  cl_ofX hlt (by decide) (Nat.le_of_ble_eq_true rfl) (fun p e s m below meth c ls C TT hw hl => k_X5_hangObstacle C TT M t0 a1 a2 a3 a4 o h _ _ _ ht0 hw (lv_sub hl [0, 1, 2, 3, 4] rfl))
theorem cy_X5_hangObstacle : cl_cy yX5_hangObstacle cX5_hangObstacle 6 (some .int) 4 := ⟨in_ClothesLine, cd_X5_hangObstacle, by decide +kernel, by decide +kernel, by decide +kernel⟩
theorem vy_X5_hangObstacle : cl_vy yX5_hangObstacle := ⟨im_X5_hangObstacle, se_X5_hangObstacle⟩
def f_X5_fewestPegs_71 (r29 : cl_M → Int32 → Int32 → Int32 → Int32 → Option (Except (Nat × cl_M) (Int32 × cl_M))) (M : cl_M) (a2 : Int32) (a3 : Int32) (a4 : Int32) (a5 : Int32) : Option (Except (Nat × cl_M) (Int32 × cl_M)) := cl_let (a5 + 1) (fun v15 => r29 M a2 a3 a4 v15)
set_option maxHeartbeats 4000000 in
set_option maxRecDepth 100000 in
theorem k_X5_fewestPegs_71 {p : Program} {l : Launch} {e : Env} {s : State} {m : MethodId} {args : Array Value} {below : List Frame} {meth : Method} {c : Code} {dd : cl_D} {b : Nat} (C : cl_C p l s m args meth c cX5_fewestPegs RX5 8 (some .int) dd b) (TT : cl_T c) {r29 : cl_M → Int32 → Int32 → Int32 → Int32 → Option (Except (Nat × cl_M) (Int32 × cl_M))} (hr29 : ∀ (M : cl_M) (a2 : Int32) (a3 : Int32) (a4 : Int32) (a5 : Int32) (o : Except (Nat × cl_M) (Int32 × cl_M)), r29 M a2 a3 a4 a5 = some o → ∀ (H : Heap) (locs : List Loc) (ls : Array Slot), cl_H dd b M s H locs → lv_has ls 8 [(2, .int a2), (3, .int a3), (4, .int a4), (5, .int a5)] → W p l e { frames := 7, cells := 1, slots := 6, locals := 111 } s m args below meth c H locs 1 6 (cl_Yi below args s dd b o 1) (F0 m 29 ls [])) : ∀ (M : cl_M) (a2 : Int32) (a3 : Int32) (a4 : Int32) (a5 : Int32) (o : Except (Nat × cl_M) (Int32 × cl_M)), f_X5_fewestPegs_71 r29 M a2 a3 a4 a5 = some o → ∀ (H : Heap) (locs : List Loc) (ls : Array Slot), cl_H dd b M s H locs → lv_has ls 8 [(2, .int a2), (3, .int a3), (4, .int a4), (5, .int a5)] → W p l e { frames := 7, cells := 1, slots := 6, locals := 111 } s m args below meth c H locs 1 6 (cl_Yi below args s dd b o 1) (F0 m 71 ls []) := by
  have hx := C.1
  have hb := C.2.1
  have hlt := C.2.2.2.2.2.2.2.2.2.2
  have hRr := C.2.2.2.2.2.2.2.2.2.1
  intro M a2 a3 a4 a5 o hf H locs ls hw hl
  unfold f_X5_fewestPegs_71 at hf
  obtain ⟨v15, ev15, hf⟩ := cl_let_e hf
  refine lv_iinc (v := v15) (lv' := [(5, .int v15), (2, .int a2), (3, .int a3), (4, .int a4)]) hx hb dX5_fewestPegs_71 hl (k := 3) rfl (by rw [ev15]; rfl) (by decide) rfl (fun ls hl => ?_)
  refine lv_goto (tgt := 29) hx hb dX5_fewestPegs_74 (by decide) ?_
  exact hr29 M a2 a3 a4 v15 _ hf _ _ _ hw (lv_sub hl [1, 2, 3, 0] rfl)
def f_X5_fewestPegs_29 : Nat → cl_M → Int32 → Int32 → Int32 → Int32 → Option (Except (Nat × cl_M) (Int32 × cl_M))
  | 0, _, _, _, _, _ => none
  | k + 1, M, a2, a3, a4, a5 => if 4 < a5 then some (.ok ((-1), M)) else cl_let (if a4 < a5 then a4 else a5) (fun v12 => cl_let (a5 - v12) (fun v13 => if a3 < v13 then f_X5_fewestPegs_71 (f_X5_fewestPegs_29 k) M a2 a3 a4 a5 else (f_X5_holdOfPegs M v13 v12).bind (fun v16 => if v16 < a2 then f_X5_fewestPegs_71 (f_X5_fewestPegs_29 k) M a2 a3 a4 a5 else some (.ok (a5, M)))))
set_option maxHeartbeats 4000000 in
set_option maxRecDepth 100000 in
theorem k_X5_fewestPegs_29 {p : Program} {l : Launch} {e : Env} {s : State} {m : MethodId} {args : Array Value} {below : List Frame} {meth : Method} {c : Code} {dd : cl_D} {b : Nat} (C : cl_C p l s m args meth c cX5_fewestPegs RX5 8 (some .int) dd b) (TT : cl_T c) : ∀ (k : Nat), ∀ (M : cl_M) (a2 : Int32) (a3 : Int32) (a4 : Int32) (a5 : Int32) (o : Except (Nat × cl_M) (Int32 × cl_M)), f_X5_fewestPegs_29 k M a2 a3 a4 a5 = some o → ∀ (H : Heap) (locs : List Loc) (ls : Array Slot), cl_H dd b M s H locs → lv_has ls 8 [(2, .int a2), (3, .int a3), (4, .int a4), (5, .int a5)] → W p l e { frames := 7, cells := 1, slots := 6, locals := 111 } s m args below meth c H locs 1 6 (cl_Yi below args s dd b o 1) (F0 m 29 ls []) := by
  have hx := C.1
  have hb := C.2.1
  have hlt := C.2.2.2.2.2.2.2.2.2.2
  have hRr := C.2.2.2.2.2.2.2.2.2.1
  intro k
  induction k with
  | zero =>
    intro M a2 a3 a4 a5 o hf H locs ls hw hl
    rw [f_X5_fewestPegs_29] at hf
    cases hf
  | succ k ih =>
    intro M a2 a3 a4 a5 o hf H locs ls hw hl
    rw [f_X5_fewestPegs_29] at hf
    refine lv_iload hx hb dX5_fewestPegs_29 (lv_at hl 3 rfl) ?_
    refine lv_iconst (v := 4) hx hb dX5_fewestPegs_31 (by decide) ?_
    refine lv_icmp_gt (tgt := 77) hx hb dX5_fewestPegs_32 (by decide) (fun c11 => ?_) (fun c11 => ?_)
    · have hf := cl_yes c11 hf
      refine lv_iconst (v := (-1)) hx hb dX5_fewestPegs_77 (by decide) ?_
      obtain rfl := Option.some.inj hf
      exact cr_xreti C hw dX5_fewestPegs_78
    · have hf := cl_no c11 hf
      refine lv_iload hx hb dX5_fewestPegs_35 (lv_at hl 3 rfl) ?_
      refine lv_iload hx hb dX5_fewestPegs_37 (lv_at hl 2 rfl) ?_
      refine cr_min C ml_X5_200 st_math_min in_math cd_math_min hl.1 ⟨Nat.le_of_ble_eq_true rfl, Nat.le_of_ble_eq_true rfl, Nat.le_of_ble_eq_true rfl, Nat.le_of_ble_eq_true rfl⟩ dX5_fewestPegs_39 ?_
      obtain ⟨v12, ev12, hf⟩ := cl_let_e hf
      refine cr_top ev12 ?_
      refine lv_istore (lv' := [(6, .int v12), (2, .int a2), (3, .int a3), (4, .int a4), (5, .int a5)]) hx hb dX5_fewestPegs_42 hl (by decide) rfl (fun ls hl => ?_)
      refine lv_iload hx hb dX5_fewestPegs_44 (lv_at hl 4 rfl) ?_
      refine lv_iload hx hb dX5_fewestPegs_46 (lv_at hl 0 rfl) ?_
      refine lv_isub hx hb dX5_fewestPegs_48 ?_
      obtain ⟨v13, ev13, hf⟩ := cl_let_e hf
      refine cr_top ev13 ?_
      refine lv_istore (lv' := [(7, .int v13), (6, .int v12), (2, .int a2), (3, .int a3), (4, .int a4), (5, .int a5)]) hx hb dX5_fewestPegs_49 hl (by decide) rfl (fun ls hl => ?_)
      refine lv_iload hx hb dX5_fewestPegs_51 (lv_at hl 0 rfl) ?_
      refine lv_iload_n hx hb dX5_fewestPegs_53 rfl (lv_at hl 3 rfl) ?_
      refine lv_icmp_gt (tgt := 71) hx hb dX5_fewestPegs_54 (by decide) (fun c14 => ?_) (fun c14 => ?_)
      · have hf := cl_yes c14 hf
        exact k_X5_fewestPegs_71 C TT ih M a2 a3 a4 a5 _ hf _ _ _ hw (lv_sub hl [2, 3, 4, 5] rfl)
      · have hf := cl_no c14 hf
        refine lv_iload hx hb dX5_fewestPegs_57 (lv_at hl 0 rfl) ?_
        refine lv_iload hx hb dX5_fewestPegs_59 (lv_at hl 1 rfl) ?_
        obtain ⟨v16, e17, hf⟩ := cl_bind_e hf
        refine cr_Si C hw (c_X5_holdOfPegs hlt e17) cy_X5_holdOfPegs st_X5_holdOfPegs ml_X5_203 (As := [.int v13, .int v12]) rfl hl.1 rfl ⟨⟨Nat.le_of_ble_eq_true rfl, Nat.le_of_ble_eq_true rfl⟩, Nat.le_of_ble_eq_true rfl, Nat.le_of_ble_eq_true rfl, Nat.le_of_ble_eq_true rfl⟩ dX5_fewestPegs_61 (fun H locs hw => ?_)
        refine lv_iload_n hx hb dX5_fewestPegs_64 rfl (lv_at hl 2 rfl) ?_
        refine lv_icmp_lt (tgt := 71) hx hb dX5_fewestPegs_65 (by decide) (fun c18 => ?_) (fun c18 => ?_)
        · have hf := cl_yes c18 hf
          exact k_X5_fewestPegs_71 C TT ih M a2 a3 a4 a5 _ hf _ _ _ hw (lv_sub hl [2, 3, 4, 5] rfl)
        · have hf := cl_no c18 hf
          refine lv_iload hx hb dX5_fewestPegs_68 (lv_at hl 5 rfl) ?_
          obtain rfl := Option.some.inj hf
          exact cr_xreti C hw dX5_fewestPegs_70
def f_X5_fewestPegs (M : cl_M) (t0 : Nat) (a1 : Int32) : Option (Except (Nat × cl_M) (Int32 × cl_M)) := cl_x2 (f_X5_known M t0 a1) (fun v3 M4 => (f_X0_weight M4 v3).bind (fun v5 => (f_X2_woodenInBag M4 (t0 + 4)).bind (fun v7 => (f_X2_steelInBag M4 (t0 + 4)).bind (fun v9 => f_X5_fewestPegs_29 cl_F M4 v5 v7 v9 1))))
set_option maxHeartbeats 4000000 in
set_option maxRecDepth 100000 in
theorem k_X5_fewestPegs {p : Program} {l : Launch} {e : Env} {s : State} {m : MethodId} {args : Array Value} {below : List Frame} {meth : Method} {c : Code} {dd : cl_D} {b : Nat} (C : cl_C p l s m args meth c cX5_fewestPegs RX5 8 (some .int) dd b) (TT : cl_T c) : ∀ (M : cl_M) (t0 : Nat) (a1 : Int32) (o : Except (Nat × cl_M) (Int32 × cl_M)), f_X5_fewestPegs M t0 a1 = some o → ∀ (H : Heap) (locs : List Loc) (ls : Array Slot), cl_sh dd t0 = 5 → cl_H dd b M s H locs → lv_has ls 8 [(0, .ref (b + t0)), (1, .int a1)] → W p l e { frames := 7, cells := 1, slots := 6, locals := 111 } s m args below meth c H locs 0 0 (cl_Yi below args s dd b o 1) (F0 m 0 ls []) := by
  have hx := C.1
  have hb := C.2.1
  have hlt := C.2.2.2.2.2.2.2.2.2.2
  have hRr := C.2.2.2.2.2.2.2.2.2.1
  intro M t0 a1 o hf H locs ls ht0 hw hl
  unfold f_X5_fewestPegs at hf
  refine lv_aload_n hx hb dX5_fewestPegs_0 rfl (lv_at hl 0 rfl) ?_
  refine lv_iload_n hx hb dX5_fewestPegs_1 rfl (lv_at hl 1 rfl) ?_
  obtain ⟨o2, e1, o2x, hf⟩ := cl_x2_e hf
  refine cr_XVr C hw TT (c_X5_known hlt ht0 e1) cy_X5_known vy_X5_known ml_X5_143 (cl_lt ht0 (by decide)) (cl_e5 ht0) rfl rfl (As := [.int a1]) rfl hl.1 rfl ⟨⟨Nat.le_of_ble_eq_true rfl, Nat.le_of_ble_eq_true rfl⟩, Nat.le_of_ble_eq_true rfl, Nat.le_of_ble_eq_true rfl, Nat.le_of_ble_eq_true rfl⟩ ⟨Nat.le_of_ble_eq_true rfl, Nat.le_of_ble_eq_true rfl⟩ dX5_fewestPegs_2 o2x (fun v3 M4 eo2 H locs hw => ?_)
  have hf := hf v3 M4 eo2
  have hv3 := s_X5_known ht0 (e1.trans (congrArg some eo2))
  obtain ⟨v5, e6, hf⟩ := cl_bind_e hf
  refine cr_Vi C hw (c_X0_weight hlt hv3 e6) cy_X0_weight vy_X0_weight ml_X5_164 (cl_lt hv3 (by decide)) (cl_e0 hv3) rfl rfl (As := []) rfl hl.1 rfl ⟨⟨Nat.le_of_ble_eq_true rfl, Nat.le_of_ble_eq_true rfl⟩, Nat.le_of_ble_eq_true rfl, Nat.le_of_ble_eq_true rfl, Nat.le_of_ble_eq_true rfl⟩ dX5_fewestPegs_5 (fun H locs hw => ?_)
  refine lv_istore_n (lv' := [(2, .int v5), (0, .ref (b + t0)), (1, .int a1)]) hx hb dX5_fewestPegs_8 rfl hl (by decide) rfl (fun ls hl => ?_)
  refine lv_aload_n hx hb dX5_fewestPegs_9 rfl (lv_at hl 1 rfl) ?_
  refine fg_X5_19 C hw ht0 dX5_fewestPegs_10 ?_
  obtain ⟨v7, e8, hf⟩ := cl_bind_e hf
  refine cr_Vi C hw (c_X2_woodenInBag hlt (sh_5_1 ht0).1 e8) cy_X2_woodenInBag vy_X2_woodenInBag ml_X5_123 (cl_lt (sh_5_1 ht0).1 (by decide)) (cl_e2 (sh_5_1 ht0).1) rfl rfl (As := []) rfl hl.1 rfl ⟨⟨Nat.le_of_ble_eq_true rfl, Nat.le_of_ble_eq_true rfl⟩, Nat.le_of_ble_eq_true rfl, Nat.le_of_ble_eq_true rfl, Nat.le_of_ble_eq_true rfl⟩ dX5_fewestPegs_13 (fun H locs hw => ?_)
  refine lv_istore_n (lv' := [(3, .int v7), (2, .int v5), (0, .ref (b + t0)), (1, .int a1)]) hx hb dX5_fewestPegs_16 rfl hl (by decide) rfl (fun ls hl => ?_)
  refine lv_aload_n hx hb dX5_fewestPegs_17 rfl (lv_at hl 2 rfl) ?_
  refine fg_X5_19 C hw ht0 dX5_fewestPegs_18 ?_
  obtain ⟨v9, e10, hf⟩ := cl_bind_e hf
  refine cr_Vi C hw (c_X2_steelInBag hlt (sh_5_1 ht0).1 e10) cy_X2_steelInBag vy_X2_steelInBag ml_X5_127 (cl_lt (sh_5_1 ht0).1 (by decide)) (cl_e2 (sh_5_1 ht0).1) rfl rfl (As := []) rfl hl.1 rfl ⟨⟨Nat.le_of_ble_eq_true rfl, Nat.le_of_ble_eq_true rfl⟩, Nat.le_of_ble_eq_true rfl, Nat.le_of_ble_eq_true rfl, Nat.le_of_ble_eq_true rfl⟩ dX5_fewestPegs_21 (fun H locs hw => ?_)
  refine lv_istore (lv' := [(4, .int v9), (3, .int v7), (2, .int v5), (0, .ref (b + t0)), (1, .int a1)]) hx hb dX5_fewestPegs_24 hl (by decide) rfl (fun ls hl => ?_)
  refine lv_iconst (v := 1) hx hb dX5_fewestPegs_26 (by decide) ?_
  refine lv_istore (lv' := [(5, .int 1), (4, .int v9), (3, .int v7), (2, .int v5), (0, .ref (b + t0)), (1, .int a1)]) hx hb dX5_fewestPegs_27 hl (by decide) rfl (fun ls hl => ?_)
  exact k_X5_fewestPegs_29 C TT cl_F M4 v5 v7 v9 1 _ hf _ _ _ hw (lv_sub hl [3, 2, 1, 0] rfl)
set_option maxRecDepth 100000 in
theorem c_X5_fewestPegs {l : Launch} {dd : cl_D} {b : Nat} (hlt : l.stackTraces = false) {M : cl_M} {t0 : Nat} {a1 : Int32}  {o : Except (Nat × cl_M) (Int32 × cl_M)} (ht0 : cl_sh dd t0 = 5) (h : f_X5_fewestPegs M t0 a1 = some o) : cl_Xi l dd b yX5_fewestPegs cX5_fewestPegs 8 (some .int) 7 111 1 [.ref (b + t0), .int a1] M o :=
  cl_ofX hlt (by decide) (Nat.le_of_ble_eq_true rfl) (fun p e s m below meth c ls C TT hw hl => k_X5_fewestPegs C TT M t0 a1 o h _ _ _ ht0 hw (lv_sub hl [0, 1] rfl))
theorem cy_X5_fewestPegs : cl_cy yX5_fewestPegs cX5_fewestPegs 8 (some .int) 1 := ⟨in_ClothesLine, cd_X5_fewestPegs, by decide +kernel, by decide +kernel, by decide +kernel⟩
theorem vy_X5_fewestPegs : cl_vy yX5_fewestPegs := ⟨im_X5_fewestPegs, se_X5_fewestPegs⟩
def f_X5_waterInAll_4 : Nat → cl_M → Nat → Int32 → Int32 → Option (Int32)
  | 0, _, _, _, _ => none
  | k + 1, M, t0, a1, a2 => if (M (t0 + 4) 3) ≤ a2 then some a1 else if cl_inb a2 10 = true then cl_let (a1 + (M (((t0 + 4) + 8) + 1 + (a2).toNatClampNeg) 3)) (fun v3 => cl_let (a2 + 1) (fun v4 => f_X5_waterInAll_4 k M t0 v3 v4)) else none
set_option maxHeartbeats 4000000 in
set_option maxRecDepth 100000 in
theorem k_X5_waterInAll_4 {p : Program} {l : Launch} {e : Env} {s : State} {m : MethodId} {args : Array Value} {below : List Frame} {meth : Method} {c : Code} {dd : cl_D} {b : Nat} (C : cl_C p l s m args meth c cX5_waterInAll RX5 3 (some .int) dd b) : ∀ (k : Nat), ∀ (M : cl_M) (t0 : Nat) (a1 : Int32) (a2 : Int32) (r : Int32), f_X5_waterInAll_4 k M t0 a1 a2 = some r → ∀ (H : Heap) (locs : List Loc) (ls : Array Slot), cl_sh dd t0 = 5 → cl_H dd b M s H locs → lv_has ls 3 [(0, .ref (b + t0)), (1, .int a1), (2, .int a2)] → W p l e { frames := 0, cells := 0, slots := 0, locals := 0 } s m args below meth c H locs 0 0 (cl_Zi below args s dd b r M) (F0 m 4 ls []) := by
  have hx := C.1
  have hb := C.2.1
  have hlt := C.2.2.2.2.2.2.2.2.2.2
  have hRr := C.2.2.2.2.2.2.2.2.2.1
  intro k
  induction k with
  | zero =>
    intro M t0 a1 a2 r hf H locs ls ht0 hw hl
    rw [f_X5_waterInAll_4] at hf
    cases hf
  | succ k ih =>
    intro M t0 a1 a2 r hf H locs ls ht0 hw hl
    rw [f_X5_waterInAll_4] at hf
    refine lv_iload_n hx hb dX5_waterInAll_4 rfl (lv_at hl 2 rfl) ?_
    refine lv_aload_n hx hb dX5_waterInAll_5 rfl (lv_at hl 0 rfl) ?_
    refine fg_X5_19 C hw ht0 dX5_waterInAll_6 ?_
    refine fg_X5_71 C hw (sh_5_1 ht0).1 dX5_waterInAll_9 ?_
    refine lv_icmp_ge (tgt := 36) hx hb dX5_waterInAll_12 (by decide) (fun c1 => ?_) (fun c1 => ?_)
    · have hf := cl_yes c1 hf
      refine lv_iload_n hx hb dX5_waterInAll_36 rfl (lv_at hl 1 rfl) ?_
      obtain rfl := Option.some.inj hf
      exact cr_reti C hw dX5_waterInAll_37
    · have hf := cl_no c1 hf
      refine lv_iload_n hx hb dX5_waterInAll_15 rfl (lv_at hl 1 rfl) ?_
      refine lv_aload_n hx hb dX5_waterInAll_16 rfl (lv_at hl 0 rfl) ?_
      refine fg_X5_19 C hw ht0 dX5_waterInAll_17 ?_
      refine fg_X5_192 C hw (sh_5_1 ht0).1 dX5_waterInAll_20 ?_
      refine lv_iload_n hx hb dX5_waterInAll_23 rfl (lv_at hl 2 rfl) ?_
      obtain ⟨q2, hf⟩ := cl_grd hf
      refine cr_ald9 C hw (sh_2_5 (sh_5_1 ht0).1).1 q2 (k := (a2).toNatClampNeg) rfl dX5_waterInAll_24 ?_
      refine fg_X5_161 C hw (sh_el_9 (sh_2_5 (sh_5_1 ht0).1).1 (cl_inb_lt q2)) dX5_waterInAll_25 ?_
      refine lv_iadd hx hb dX5_waterInAll_28 ?_
      obtain ⟨v3, ev3, hf⟩ := cl_let_e hf
      refine cr_top ev3 ?_
      refine lv_istore_n (lv' := [(1, .int v3), (0, .ref (b + t0)), (2, .int a2)]) hx hb dX5_waterInAll_29 rfl hl (by decide) rfl (fun ls hl => ?_)
      obtain ⟨v4, ev4, hf⟩ := cl_let_e hf
      refine lv_iinc (v := v4) (lv' := [(2, .int v4), (1, .int v3), (0, .ref (b + t0))]) hx hb dX5_waterInAll_30 hl (k := 2) rfl (by rw [ev4]; rfl) (by decide) rfl (fun ls hl => ?_)
      refine lv_goto (tgt := 4) hx hb dX5_waterInAll_33 (by decide) ?_
      exact ih M t0 v3 v4 _ hf _ _ _ ht0 hw (lv_sub hl [2, 1, 0] rfl)
def f_X5_waterInAll (M : cl_M) (t0 : Nat) : Option (Int32) := f_X5_waterInAll_4 cl_F M t0 0 0
set_option maxHeartbeats 4000000 in
set_option maxRecDepth 100000 in
theorem k_X5_waterInAll {p : Program} {l : Launch} {e : Env} {s : State} {m : MethodId} {args : Array Value} {below : List Frame} {meth : Method} {c : Code} {dd : cl_D} {b : Nat} (C : cl_C p l s m args meth c cX5_waterInAll RX5 3 (some .int) dd b) : ∀ (M : cl_M) (t0 : Nat) (r : Int32), f_X5_waterInAll M t0 = some r → ∀ (H : Heap) (locs : List Loc) (ls : Array Slot), cl_sh dd t0 = 5 → cl_H dd b M s H locs → lv_has ls 3 [(0, .ref (b + t0))] → W p l e { frames := 0, cells := 0, slots := 0, locals := 0 } s m args below meth c H locs 0 0 (cl_Zi below args s dd b r M) (F0 m 0 ls []) := by
  have hx := C.1
  have hb := C.2.1
  have hlt := C.2.2.2.2.2.2.2.2.2.2
  have hRr := C.2.2.2.2.2.2.2.2.2.1
  intro M t0 r hf H locs ls ht0 hw hl
  unfold f_X5_waterInAll at hf
  refine lv_iconst (v := 0) hx hb dX5_waterInAll_0 (by decide) ?_
  refine lv_istore_n (lv' := [(1, .int 0), (0, .ref (b + t0))]) hx hb dX5_waterInAll_1 rfl hl (by decide) rfl (fun ls hl => ?_)
  refine lv_iconst (v := 0) hx hb dX5_waterInAll_2 (by decide) ?_
  refine lv_istore_n (lv' := [(2, .int 0), (1, .int 0), (0, .ref (b + t0))]) hx hb dX5_waterInAll_3 rfl hl (by decide) rfl (fun ls hl => ?_)
  exact k_X5_waterInAll_4 C cl_F M t0 0 0 _ hf _ _ _ ht0 hw (lv_sub hl [2, 1, 0] rfl)
set_option maxRecDepth 100000 in
theorem c_X5_waterInAll {l : Launch} {dd : cl_D} {b : Nat} (hlt : l.stackTraces = false) {M : cl_M} {t0 : Nat}  {r : Int32} (ht0 : cl_sh dd t0 = 5) (h : f_X5_waterInAll M t0 = some r) : cl_Mi l dd b yX5_waterInAll cX5_waterInAll 3 (some .int) 0 0 [.ref (b + t0)] M r M :=
  cl_of hlt (by decide) (Nat.le_of_ble_eq_true rfl) (fun p e s m below meth c ls C hw hl => k_X5_waterInAll C M t0 r h _ _ _ ht0 hw (lv_sub hl [0] rfl))
theorem cy_X5_waterInAll : cl_cy yX5_waterInAll cX5_waterInAll 3 (some .int) 0 := ⟨in_ClothesLine, cd_X5_waterInAll, by decide +kernel, by decide +kernel, by decide +kernel⟩
theorem vy_X5_waterInAll : cl_vy yX5_waterInAll := ⟨im_X5_waterInAll, se_X5_waterInAll⟩
def f_X5_waterCame_4 : Nat → cl_M → Nat → Int32 → Int32 → Option (Int32)
  | 0, _, _, _, _ => none
  | k + 1, M, t0, a1, a2 => if (M (t0 + 4) 3) ≤ a2 then some a1 else if cl_inb a2 10 = true then cl_let (a1 + (M (((t0 + 4) + 8) + 1 + (a2).toNatClampNeg) 12)) (fun v3 => cl_let (a2 + 1) (fun v4 => f_X5_waterCame_4 k M t0 v3 v4)) else none
set_option maxHeartbeats 4000000 in
set_option maxRecDepth 100000 in
theorem k_X5_waterCame_4 {p : Program} {l : Launch} {e : Env} {s : State} {m : MethodId} {args : Array Value} {below : List Frame} {meth : Method} {c : Code} {dd : cl_D} {b : Nat} (C : cl_C p l s m args meth c cX5_waterCame RX5 3 (some .int) dd b) : ∀ (k : Nat), ∀ (M : cl_M) (t0 : Nat) (a1 : Int32) (a2 : Int32) (r : Int32), f_X5_waterCame_4 k M t0 a1 a2 = some r → ∀ (H : Heap) (locs : List Loc) (ls : Array Slot), cl_sh dd t0 = 5 → cl_H dd b M s H locs → lv_has ls 3 [(0, .ref (b + t0)), (1, .int a1), (2, .int a2)] → W p l e { frames := 0, cells := 0, slots := 0, locals := 0 } s m args below meth c H locs 0 0 (cl_Zi below args s dd b r M) (F0 m 4 ls []) := by
  have hx := C.1
  have hb := C.2.1
  have hlt := C.2.2.2.2.2.2.2.2.2.2
  have hRr := C.2.2.2.2.2.2.2.2.2.1
  intro k
  induction k with
  | zero =>
    intro M t0 a1 a2 r hf H locs ls ht0 hw hl
    rw [f_X5_waterCame_4] at hf
    cases hf
  | succ k ih =>
    intro M t0 a1 a2 r hf H locs ls ht0 hw hl
    rw [f_X5_waterCame_4] at hf
    refine lv_iload_n hx hb dX5_waterCame_4 rfl (lv_at hl 2 rfl) ?_
    refine lv_aload_n hx hb dX5_waterCame_5 rfl (lv_at hl 0 rfl) ?_
    refine fg_X5_19 C hw ht0 dX5_waterCame_6 ?_
    refine fg_X5_71 C hw (sh_5_1 ht0).1 dX5_waterCame_9 ?_
    refine lv_icmp_ge (tgt := 36) hx hb dX5_waterCame_12 (by decide) (fun c1 => ?_) (fun c1 => ?_)
    · have hf := cl_yes c1 hf
      refine lv_iload_n hx hb dX5_waterCame_36 rfl (lv_at hl 1 rfl) ?_
      obtain rfl := Option.some.inj hf
      exact cr_reti C hw dX5_waterCame_37
    · have hf := cl_no c1 hf
      refine lv_iload_n hx hb dX5_waterCame_15 rfl (lv_at hl 1 rfl) ?_
      refine lv_aload_n hx hb dX5_waterCame_16 rfl (lv_at hl 0 rfl) ?_
      refine fg_X5_19 C hw ht0 dX5_waterCame_17 ?_
      refine fg_X5_192 C hw (sh_5_1 ht0).1 dX5_waterCame_20 ?_
      refine lv_iload_n hx hb dX5_waterCame_23 rfl (lv_at hl 2 rfl) ?_
      obtain ⟨q2, hf⟩ := cl_grd hf
      refine cr_ald9 C hw (sh_2_5 (sh_5_1 ht0).1).1 q2 (k := (a2).toNatClampNeg) rfl dX5_waterCame_24 ?_
      refine fg_X5_206 C hw (sh_el_9 (sh_2_5 (sh_5_1 ht0).1).1 (cl_inb_lt q2)) dX5_waterCame_25 ?_
      refine lv_iadd hx hb dX5_waterCame_28 ?_
      obtain ⟨v3, ev3, hf⟩ := cl_let_e hf
      refine cr_top ev3 ?_
      refine lv_istore_n (lv' := [(1, .int v3), (0, .ref (b + t0)), (2, .int a2)]) hx hb dX5_waterCame_29 rfl hl (by decide) rfl (fun ls hl => ?_)
      obtain ⟨v4, ev4, hf⟩ := cl_let_e hf
      refine lv_iinc (v := v4) (lv' := [(2, .int v4), (1, .int v3), (0, .ref (b + t0))]) hx hb dX5_waterCame_30 hl (k := 2) rfl (by rw [ev4]; rfl) (by decide) rfl (fun ls hl => ?_)
      refine lv_goto (tgt := 4) hx hb dX5_waterCame_33 (by decide) ?_
      exact ih M t0 v3 v4 _ hf _ _ _ ht0 hw (lv_sub hl [2, 1, 0] rfl)
def f_X5_waterCame (M : cl_M) (t0 : Nat) : Option (Int32) := f_X5_waterCame_4 cl_F M t0 0 0
set_option maxHeartbeats 4000000 in
set_option maxRecDepth 100000 in
theorem k_X5_waterCame {p : Program} {l : Launch} {e : Env} {s : State} {m : MethodId} {args : Array Value} {below : List Frame} {meth : Method} {c : Code} {dd : cl_D} {b : Nat} (C : cl_C p l s m args meth c cX5_waterCame RX5 3 (some .int) dd b) : ∀ (M : cl_M) (t0 : Nat) (r : Int32), f_X5_waterCame M t0 = some r → ∀ (H : Heap) (locs : List Loc) (ls : Array Slot), cl_sh dd t0 = 5 → cl_H dd b M s H locs → lv_has ls 3 [(0, .ref (b + t0))] → W p l e { frames := 0, cells := 0, slots := 0, locals := 0 } s m args below meth c H locs 0 0 (cl_Zi below args s dd b r M) (F0 m 0 ls []) := by
  have hx := C.1
  have hb := C.2.1
  have hlt := C.2.2.2.2.2.2.2.2.2.2
  have hRr := C.2.2.2.2.2.2.2.2.2.1
  intro M t0 r hf H locs ls ht0 hw hl
  unfold f_X5_waterCame at hf
  refine lv_iconst (v := 0) hx hb dX5_waterCame_0 (by decide) ?_
  refine lv_istore_n (lv' := [(1, .int 0), (0, .ref (b + t0))]) hx hb dX5_waterCame_1 rfl hl (by decide) rfl (fun ls hl => ?_)
  refine lv_iconst (v := 0) hx hb dX5_waterCame_2 (by decide) ?_
  refine lv_istore_n (lv' := [(2, .int 0), (1, .int 0), (0, .ref (b + t0))]) hx hb dX5_waterCame_3 rfl hl (by decide) rfl (fun ls hl => ?_)
  exact k_X5_waterCame_4 C cl_F M t0 0 0 _ hf _ _ _ ht0 hw (lv_sub hl [2, 1, 0] rfl)
set_option maxRecDepth 100000 in
theorem c_X5_waterCame {l : Launch} {dd : cl_D} {b : Nat} (hlt : l.stackTraces = false) {M : cl_M} {t0 : Nat}  {r : Int32} (ht0 : cl_sh dd t0 = 5) (h : f_X5_waterCame M t0 = some r) : cl_Mi l dd b yX5_waterCame cX5_waterCame 3 (some .int) 0 0 [.ref (b + t0)] M r M :=
  cl_of hlt (by decide) (Nat.le_of_ble_eq_true rfl) (fun p e s m below meth c ls C hw hl => k_X5_waterCame C M t0 r h _ _ _ ht0 hw (lv_sub hl [0] rfl))
theorem cy_X5_waterCame : cl_cy yX5_waterCame cX5_waterCame 3 (some .int) 0 := ⟨in_ClothesLine, cd_X5_waterCame, by decide +kernel, by decide +kernel, by decide +kernel⟩
theorem vy_X5_waterCame : cl_vy yX5_waterCame := ⟨im_X5_waterCame, se_X5_waterCame⟩
def f_X5_driedBySun_4 : Nat → cl_M → Nat → Int32 → Int32 → Option (Int32)
  | 0, _, _, _, _ => none
  | k + 1, M, t0, a1, a2 => if (M (t0 + 4) 3) ≤ a2 then some a1 else if cl_inb a2 10 = true then cl_let (a1 + (M (((t0 + 4) + 8) + 1 + (a2).toNatClampNeg) 13)) (fun v3 => cl_let (a2 + 1) (fun v4 => f_X5_driedBySun_4 k M t0 v3 v4)) else none
set_option maxHeartbeats 4000000 in
set_option maxRecDepth 100000 in
theorem k_X5_driedBySun_4 {p : Program} {l : Launch} {e : Env} {s : State} {m : MethodId} {args : Array Value} {below : List Frame} {meth : Method} {c : Code} {dd : cl_D} {b : Nat} (C : cl_C p l s m args meth c cX5_driedBySun RX5 3 (some .int) dd b) : ∀ (k : Nat), ∀ (M : cl_M) (t0 : Nat) (a1 : Int32) (a2 : Int32) (r : Int32), f_X5_driedBySun_4 k M t0 a1 a2 = some r → ∀ (H : Heap) (locs : List Loc) (ls : Array Slot), cl_sh dd t0 = 5 → cl_H dd b M s H locs → lv_has ls 3 [(0, .ref (b + t0)), (1, .int a1), (2, .int a2)] → W p l e { frames := 0, cells := 0, slots := 0, locals := 0 } s m args below meth c H locs 0 0 (cl_Zi below args s dd b r M) (F0 m 4 ls []) := by
  have hx := C.1
  have hb := C.2.1
  have hlt := C.2.2.2.2.2.2.2.2.2.2
  have hRr := C.2.2.2.2.2.2.2.2.2.1
  intro k
  induction k with
  | zero =>
    intro M t0 a1 a2 r hf H locs ls ht0 hw hl
    rw [f_X5_driedBySun_4] at hf
    cases hf
  | succ k ih =>
    intro M t0 a1 a2 r hf H locs ls ht0 hw hl
    rw [f_X5_driedBySun_4] at hf
    refine lv_iload_n hx hb dX5_driedBySun_4 rfl (lv_at hl 2 rfl) ?_
    refine lv_aload_n hx hb dX5_driedBySun_5 rfl (lv_at hl 0 rfl) ?_
    refine fg_X5_19 C hw ht0 dX5_driedBySun_6 ?_
    refine fg_X5_71 C hw (sh_5_1 ht0).1 dX5_driedBySun_9 ?_
    refine lv_icmp_ge (tgt := 36) hx hb dX5_driedBySun_12 (by decide) (fun c1 => ?_) (fun c1 => ?_)
    · have hf := cl_yes c1 hf
      refine lv_iload_n hx hb dX5_driedBySun_36 rfl (lv_at hl 1 rfl) ?_
      obtain rfl := Option.some.inj hf
      exact cr_reti C hw dX5_driedBySun_37
    · have hf := cl_no c1 hf
      refine lv_iload_n hx hb dX5_driedBySun_15 rfl (lv_at hl 1 rfl) ?_
      refine lv_aload_n hx hb dX5_driedBySun_16 rfl (lv_at hl 0 rfl) ?_
      refine fg_X5_19 C hw ht0 dX5_driedBySun_17 ?_
      refine fg_X5_192 C hw (sh_5_1 ht0).1 dX5_driedBySun_20 ?_
      refine lv_iload_n hx hb dX5_driedBySun_23 rfl (lv_at hl 2 rfl) ?_
      obtain ⟨q2, hf⟩ := cl_grd hf
      refine cr_ald9 C hw (sh_2_5 (sh_5_1 ht0).1).1 q2 (k := (a2).toNatClampNeg) rfl dX5_driedBySun_24 ?_
      refine fg_X5_209 C hw (sh_el_9 (sh_2_5 (sh_5_1 ht0).1).1 (cl_inb_lt q2)) dX5_driedBySun_25 ?_
      refine lv_iadd hx hb dX5_driedBySun_28 ?_
      obtain ⟨v3, ev3, hf⟩ := cl_let_e hf
      refine cr_top ev3 ?_
      refine lv_istore_n (lv' := [(1, .int v3), (0, .ref (b + t0)), (2, .int a2)]) hx hb dX5_driedBySun_29 rfl hl (by decide) rfl (fun ls hl => ?_)
      obtain ⟨v4, ev4, hf⟩ := cl_let_e hf
      refine lv_iinc (v := v4) (lv' := [(2, .int v4), (1, .int v3), (0, .ref (b + t0))]) hx hb dX5_driedBySun_30 hl (k := 2) rfl (by rw [ev4]; rfl) (by decide) rfl (fun ls hl => ?_)
      refine lv_goto (tgt := 4) hx hb dX5_driedBySun_33 (by decide) ?_
      exact ih M t0 v3 v4 _ hf _ _ _ ht0 hw (lv_sub hl [2, 1, 0] rfl)
def f_X5_driedBySun (M : cl_M) (t0 : Nat) : Option (Int32) := f_X5_driedBySun_4 cl_F M t0 0 0
set_option maxHeartbeats 4000000 in
set_option maxRecDepth 100000 in
theorem k_X5_driedBySun {p : Program} {l : Launch} {e : Env} {s : State} {m : MethodId} {args : Array Value} {below : List Frame} {meth : Method} {c : Code} {dd : cl_D} {b : Nat} (C : cl_C p l s m args meth c cX5_driedBySun RX5 3 (some .int) dd b) : ∀ (M : cl_M) (t0 : Nat) (r : Int32), f_X5_driedBySun M t0 = some r → ∀ (H : Heap) (locs : List Loc) (ls : Array Slot), cl_sh dd t0 = 5 → cl_H dd b M s H locs → lv_has ls 3 [(0, .ref (b + t0))] → W p l e { frames := 0, cells := 0, slots := 0, locals := 0 } s m args below meth c H locs 0 0 (cl_Zi below args s dd b r M) (F0 m 0 ls []) := by
  have hx := C.1
  have hb := C.2.1
  have hlt := C.2.2.2.2.2.2.2.2.2.2
  have hRr := C.2.2.2.2.2.2.2.2.2.1
  intro M t0 r hf H locs ls ht0 hw hl
  unfold f_X5_driedBySun at hf
  refine lv_iconst (v := 0) hx hb dX5_driedBySun_0 (by decide) ?_
  refine lv_istore_n (lv' := [(1, .int 0), (0, .ref (b + t0))]) hx hb dX5_driedBySun_1 rfl hl (by decide) rfl (fun ls hl => ?_)
  refine lv_iconst (v := 0) hx hb dX5_driedBySun_2 (by decide) ?_
  refine lv_istore_n (lv' := [(2, .int 0), (1, .int 0), (0, .ref (b + t0))]) hx hb dX5_driedBySun_3 rfl hl (by decide) rfl (fun ls hl => ?_)
  exact k_X5_driedBySun_4 C cl_F M t0 0 0 _ hf _ _ _ ht0 hw (lv_sub hl [2, 1, 0] rfl)
set_option maxRecDepth 100000 in
theorem c_X5_driedBySun {l : Launch} {dd : cl_D} {b : Nat} (hlt : l.stackTraces = false) {M : cl_M} {t0 : Nat}  {r : Int32} (ht0 : cl_sh dd t0 = 5) (h : f_X5_driedBySun M t0 = some r) : cl_Mi l dd b yX5_driedBySun cX5_driedBySun 3 (some .int) 0 0 [.ref (b + t0)] M r M :=
  cl_of hlt (by decide) (Nat.le_of_ble_eq_true rfl) (fun p e s m below meth c ls C hw hl => k_X5_driedBySun C M t0 r h _ _ _ ht0 hw (lv_sub hl [0] rfl))
theorem cy_X5_driedBySun : cl_cy yX5_driedBySun cX5_driedBySun 3 (some .int) 0 := ⟨in_ClothesLine, cd_X5_driedBySun, by decide +kernel, by decide +kernel, by decide +kernel⟩
theorem vy_X5_driedBySun : cl_vy yX5_driedBySun := ⟨im_X5_driedBySun, se_X5_driedBySun⟩
def f_X5_driedByWind_4 : Nat → cl_M → Nat → Int32 → Int32 → Option (Int32)
  | 0, _, _, _, _ => none
  | k + 1, M, t0, a1, a2 => if (M (t0 + 4) 3) ≤ a2 then some a1 else if cl_inb a2 10 = true then cl_let (a1 + (M (((t0 + 4) + 8) + 1 + (a2).toNatClampNeg) 14)) (fun v3 => cl_let (a2 + 1) (fun v4 => f_X5_driedByWind_4 k M t0 v3 v4)) else none
set_option maxHeartbeats 4000000 in
set_option maxRecDepth 100000 in
theorem k_X5_driedByWind_4 {p : Program} {l : Launch} {e : Env} {s : State} {m : MethodId} {args : Array Value} {below : List Frame} {meth : Method} {c : Code} {dd : cl_D} {b : Nat} (C : cl_C p l s m args meth c cX5_driedByWind RX5 3 (some .int) dd b) : ∀ (k : Nat), ∀ (M : cl_M) (t0 : Nat) (a1 : Int32) (a2 : Int32) (r : Int32), f_X5_driedByWind_4 k M t0 a1 a2 = some r → ∀ (H : Heap) (locs : List Loc) (ls : Array Slot), cl_sh dd t0 = 5 → cl_H dd b M s H locs → lv_has ls 3 [(0, .ref (b + t0)), (1, .int a1), (2, .int a2)] → W p l e { frames := 0, cells := 0, slots := 0, locals := 0 } s m args below meth c H locs 0 0 (cl_Zi below args s dd b r M) (F0 m 4 ls []) := by
  have hx := C.1
  have hb := C.2.1
  have hlt := C.2.2.2.2.2.2.2.2.2.2
  have hRr := C.2.2.2.2.2.2.2.2.2.1
  intro k
  induction k with
  | zero =>
    intro M t0 a1 a2 r hf H locs ls ht0 hw hl
    rw [f_X5_driedByWind_4] at hf
    cases hf
  | succ k ih =>
    intro M t0 a1 a2 r hf H locs ls ht0 hw hl
    rw [f_X5_driedByWind_4] at hf
    refine lv_iload_n hx hb dX5_driedByWind_4 rfl (lv_at hl 2 rfl) ?_
    refine lv_aload_n hx hb dX5_driedByWind_5 rfl (lv_at hl 0 rfl) ?_
    refine fg_X5_19 C hw ht0 dX5_driedByWind_6 ?_
    refine fg_X5_71 C hw (sh_5_1 ht0).1 dX5_driedByWind_9 ?_
    refine lv_icmp_ge (tgt := 36) hx hb dX5_driedByWind_12 (by decide) (fun c1 => ?_) (fun c1 => ?_)
    · have hf := cl_yes c1 hf
      refine lv_iload_n hx hb dX5_driedByWind_36 rfl (lv_at hl 1 rfl) ?_
      obtain rfl := Option.some.inj hf
      exact cr_reti C hw dX5_driedByWind_37
    · have hf := cl_no c1 hf
      refine lv_iload_n hx hb dX5_driedByWind_15 rfl (lv_at hl 1 rfl) ?_
      refine lv_aload_n hx hb dX5_driedByWind_16 rfl (lv_at hl 0 rfl) ?_
      refine fg_X5_19 C hw ht0 dX5_driedByWind_17 ?_
      refine fg_X5_192 C hw (sh_5_1 ht0).1 dX5_driedByWind_20 ?_
      refine lv_iload_n hx hb dX5_driedByWind_23 rfl (lv_at hl 2 rfl) ?_
      obtain ⟨q2, hf⟩ := cl_grd hf
      refine cr_ald9 C hw (sh_2_5 (sh_5_1 ht0).1).1 q2 (k := (a2).toNatClampNeg) rfl dX5_driedByWind_24 ?_
      refine fg_X5_212 C hw (sh_el_9 (sh_2_5 (sh_5_1 ht0).1).1 (cl_inb_lt q2)) dX5_driedByWind_25 ?_
      refine lv_iadd hx hb dX5_driedByWind_28 ?_
      obtain ⟨v3, ev3, hf⟩ := cl_let_e hf
      refine cr_top ev3 ?_
      refine lv_istore_n (lv' := [(1, .int v3), (0, .ref (b + t0)), (2, .int a2)]) hx hb dX5_driedByWind_29 rfl hl (by decide) rfl (fun ls hl => ?_)
      obtain ⟨v4, ev4, hf⟩ := cl_let_e hf
      refine lv_iinc (v := v4) (lv' := [(2, .int v4), (1, .int v3), (0, .ref (b + t0))]) hx hb dX5_driedByWind_30 hl (k := 2) rfl (by rw [ev4]; rfl) (by decide) rfl (fun ls hl => ?_)
      refine lv_goto (tgt := 4) hx hb dX5_driedByWind_33 (by decide) ?_
      exact ih M t0 v3 v4 _ hf _ _ _ ht0 hw (lv_sub hl [2, 1, 0] rfl)
def f_X5_driedByWind (M : cl_M) (t0 : Nat) : Option (Int32) := f_X5_driedByWind_4 cl_F M t0 0 0
set_option maxHeartbeats 4000000 in
set_option maxRecDepth 100000 in
theorem k_X5_driedByWind {p : Program} {l : Launch} {e : Env} {s : State} {m : MethodId} {args : Array Value} {below : List Frame} {meth : Method} {c : Code} {dd : cl_D} {b : Nat} (C : cl_C p l s m args meth c cX5_driedByWind RX5 3 (some .int) dd b) : ∀ (M : cl_M) (t0 : Nat) (r : Int32), f_X5_driedByWind M t0 = some r → ∀ (H : Heap) (locs : List Loc) (ls : Array Slot), cl_sh dd t0 = 5 → cl_H dd b M s H locs → lv_has ls 3 [(0, .ref (b + t0))] → W p l e { frames := 0, cells := 0, slots := 0, locals := 0 } s m args below meth c H locs 0 0 (cl_Zi below args s dd b r M) (F0 m 0 ls []) := by
  have hx := C.1
  have hb := C.2.1
  have hlt := C.2.2.2.2.2.2.2.2.2.2
  have hRr := C.2.2.2.2.2.2.2.2.2.1
  intro M t0 r hf H locs ls ht0 hw hl
  unfold f_X5_driedByWind at hf
  refine lv_iconst (v := 0) hx hb dX5_driedByWind_0 (by decide) ?_
  refine lv_istore_n (lv' := [(1, .int 0), (0, .ref (b + t0))]) hx hb dX5_driedByWind_1 rfl hl (by decide) rfl (fun ls hl => ?_)
  refine lv_iconst (v := 0) hx hb dX5_driedByWind_2 (by decide) ?_
  refine lv_istore_n (lv' := [(2, .int 0), (1, .int 0), (0, .ref (b + t0))]) hx hb dX5_driedByWind_3 rfl hl (by decide) rfl (fun ls hl => ?_)
  exact k_X5_driedByWind_4 C cl_F M t0 0 0 _ hf _ _ _ ht0 hw (lv_sub hl [2, 1, 0] rfl)
set_option maxRecDepth 100000 in
theorem c_X5_driedByWind {l : Launch} {dd : cl_D} {b : Nat} (hlt : l.stackTraces = false) {M : cl_M} {t0 : Nat}  {r : Int32} (ht0 : cl_sh dd t0 = 5) (h : f_X5_driedByWind M t0 = some r) : cl_Mi l dd b yX5_driedByWind cX5_driedByWind 3 (some .int) 0 0 [.ref (b + t0)] M r M :=
  cl_of hlt (by decide) (Nat.le_of_ble_eq_true rfl) (fun p e s m below meth c ls C hw hl => k_X5_driedByWind C M t0 r h _ _ _ ht0 hw (lv_sub hl [0] rfl))
theorem cy_X5_driedByWind : cl_cy yX5_driedByWind cX5_driedByWind 3 (some .int) 0 := ⟨in_ClothesLine, cd_X5_driedByWind, by decide +kernel, by decide +kernel, by decide +kernel⟩
theorem vy_X5_driedByWind : cl_vy yX5_driedByWind := ⟨im_X5_driedByWind, se_X5_driedByWind⟩
def f_X5_consistencyError (M : cl_M) (t0 : Nat) : Option (Int32) := (f_X5_waterCame M t0).bind (fun v1 => (f_X5_driedBySun M t0).bind (fun v3 => (f_X5_driedByWind M t0).bind (fun v5 => cl_let ((v1 - v3) - v5) (fun v7 => (f_X5_waterInAll M t0).bind (fun v8 => (f_X2_spotsOccupiedTwice M (t0 + 4)).bind (fun v10 => some ((if 0 ≤ (v7 - v8) then (v7 - v8) else 0 - (v7 - v8)) + v10)))))))
set_option maxHeartbeats 4000000 in
set_option maxRecDepth 100000 in
theorem k_X5_consistencyError {p : Program} {l : Launch} {e : Env} {s : State} {m : MethodId} {args : Array Value} {below : List Frame} {meth : Method} {c : Code} {dd : cl_D} {b : Nat} (C : cl_C p l s m args meth c cX5_consistencyError RX5 2 (some .int) dd b) : ∀ (M : cl_M) (t0 : Nat) (r : Int32), f_X5_consistencyError M t0 = some r → ∀ (H : Heap) (locs : List Loc) (ls : Array Slot), cl_sh dd t0 = 5 → cl_H dd b M s H locs → lv_has ls 2 [(0, .ref (b + t0))] → W p l e { frames := 2, cells := 0, slots := 0, locals := 43 } s m args below meth c H locs 0 0 (cl_Zi below args s dd b r M) (F0 m 0 ls []) := by
  have hx := C.1
  have hb := C.2.1
  have hlt := C.2.2.2.2.2.2.2.2.2.2
  have hRr := C.2.2.2.2.2.2.2.2.2.1
  intro M t0 r hf H locs ls ht0 hw hl
  unfold f_X5_consistencyError at hf
  refine lv_aload_n hx hb dX5_consistencyError_0 rfl (lv_at hl 0 rfl) ?_
  obtain ⟨v1, e2, hf⟩ := cl_bind_e hf
  refine cr_Vi C hw (c_X5_waterCame hlt ht0 e2) cy_X5_waterCame vy_X5_waterCame ml_X5_215 (cl_lt ht0 (by decide)) (cl_e5 ht0) rfl rfl (As := []) rfl hl.1 rfl ⟨⟨Nat.le_of_ble_eq_true rfl, Nat.le_of_ble_eq_true rfl⟩, Nat.le_of_ble_eq_true rfl, Nat.le_of_ble_eq_true rfl, Nat.le_of_ble_eq_true rfl⟩ dX5_consistencyError_1 (fun H locs hw => ?_)
  refine lv_aload_n hx hb dX5_consistencyError_4 rfl (lv_at hl 0 rfl) ?_
  obtain ⟨v3, e4, hf⟩ := cl_bind_e hf
  refine cr_Vi C hw (c_X5_driedBySun hlt ht0 e4) cy_X5_driedBySun vy_X5_driedBySun ml_X5_218 (cl_lt ht0 (by decide)) (cl_e5 ht0) rfl rfl (As := []) rfl hl.1 rfl ⟨⟨Nat.le_of_ble_eq_true rfl, Nat.le_of_ble_eq_true rfl⟩, Nat.le_of_ble_eq_true rfl, Nat.le_of_ble_eq_true rfl, Nat.le_of_ble_eq_true rfl⟩ dX5_consistencyError_5 (fun H locs hw => ?_)
  refine lv_isub hx hb dX5_consistencyError_8 ?_
  refine lv_aload_n hx hb dX5_consistencyError_9 rfl (lv_at hl 0 rfl) ?_
  obtain ⟨v5, e6, hf⟩ := cl_bind_e hf
  refine cr_Vi C hw (c_X5_driedByWind hlt ht0 e6) cy_X5_driedByWind vy_X5_driedByWind ml_X5_221 (cl_lt ht0 (by decide)) (cl_e5 ht0) rfl rfl (As := []) rfl hl.1 rfl ⟨⟨Nat.le_of_ble_eq_true rfl, Nat.le_of_ble_eq_true rfl⟩, Nat.le_of_ble_eq_true rfl, Nat.le_of_ble_eq_true rfl, Nat.le_of_ble_eq_true rfl⟩ dX5_consistencyError_10 (fun H locs hw => ?_)
  refine lv_isub hx hb dX5_consistencyError_13 ?_
  obtain ⟨v7, ev7, hf⟩ := cl_let_e hf
  refine cr_top ev7 ?_
  refine lv_istore_n (lv' := [(1, .int v7), (0, .ref (b + t0))]) hx hb dX5_consistencyError_14 rfl hl (by decide) rfl (fun ls hl => ?_)
  refine lv_iload_n hx hb dX5_consistencyError_15 rfl (lv_at hl 0 rfl) ?_
  refine lv_aload_n hx hb dX5_consistencyError_16 rfl (lv_at hl 1 rfl) ?_
  obtain ⟨v8, e9, hf⟩ := cl_bind_e hf
  refine cr_Vi C hw (c_X5_waterInAll hlt ht0 e9) cy_X5_waterInAll vy_X5_waterInAll ml_X5_224 (cl_lt ht0 (by decide)) (cl_e5 ht0) rfl rfl (As := []) rfl hl.1 rfl ⟨⟨Nat.le_of_ble_eq_true rfl, Nat.le_of_ble_eq_true rfl⟩, Nat.le_of_ble_eq_true rfl, Nat.le_of_ble_eq_true rfl, Nat.le_of_ble_eq_true rfl⟩ dX5_consistencyError_17 (fun H locs hw => ?_)
  refine lv_isub hx hb dX5_consistencyError_20 ?_
  refine cr_abs C ml_X5_227 st_math_abs in_math cd_math_abs hl.1 ⟨Nat.le_of_ble_eq_true rfl, Nat.le_of_ble_eq_true rfl, Nat.le_of_ble_eq_true rfl, Nat.le_of_ble_eq_true rfl⟩ dX5_consistencyError_21 ?_
  refine lv_aload_n hx hb dX5_consistencyError_24 rfl (lv_at hl 1 rfl) ?_
  refine fg_X5_19 C hw ht0 dX5_consistencyError_25 ?_
  obtain ⟨v10, e11, hf⟩ := cl_bind_e hf
  refine cr_Vi C hw (c_X2_spotsOccupiedTwice hlt (sh_5_1 ht0).1 e11) cy_X2_spotsOccupiedTwice vy_X2_spotsOccupiedTwice ml_X5_230 (cl_lt (sh_5_1 ht0).1 (by decide)) (cl_e2 (sh_5_1 ht0).1) rfl rfl (As := []) rfl hl.1 rfl ⟨⟨Nat.le_of_ble_eq_true rfl, Nat.le_of_ble_eq_true rfl⟩, Nat.le_of_ble_eq_true rfl, Nat.le_of_ble_eq_true rfl, Nat.le_of_ble_eq_true rfl⟩ dX5_consistencyError_28 (fun H locs hw => ?_)
  refine lv_iadd hx hb dX5_consistencyError_31 ?_
  obtain rfl := Option.some.inj hf
  exact cr_reti C hw dX5_consistencyError_32
set_option maxRecDepth 100000 in
theorem c_X5_consistencyError {l : Launch} {dd : cl_D} {b : Nat} (hlt : l.stackTraces = false) {M : cl_M} {t0 : Nat}  {r : Int32} (ht0 : cl_sh dd t0 = 5) (h : f_X5_consistencyError M t0 = some r) : cl_Mi l dd b yX5_consistencyError cX5_consistencyError 2 (some .int) 2 43 [.ref (b + t0)] M r M :=
  cl_of hlt (by decide) (Nat.le_of_ble_eq_true rfl) (fun p e s m below meth c ls C hw hl => k_X5_consistencyError C M t0 r h _ _ _ ht0 hw (lv_sub hl [0] rfl))
theorem cy_X5_consistencyError : cl_cy yX5_consistencyError cX5_consistencyError 2 (some .int) 0 := ⟨in_ClothesLine, cd_X5_consistencyError, by decide +kernel, by decide +kernel, by decide +kernel⟩
theorem vy_X5_consistencyError : cl_vy yX5_consistencyError := ⟨im_X5_consistencyError, se_X5_consistencyError⟩
def f_X5_waterAfter (M : cl_M) (t0 : Nat) (a1 : Int32) (a2 : Int32) : Option (Except (Nat × cl_M) (Int32 × cl_M)) := cl_x2 (f_X5_known M t0 a1) (fun v3 M4 => cl_x1 (f_X5_requireRange M4 a2 0 500) (fun M8 => cl_b2 (f_X2_copyWithOne M8 (t0 + 23) (t0 + 4) v3) (fun v9 M10 => cl_b2 (f_X2_letPass M10 (t0 + 23) a2) (fun v12 M13 => some (.ok (M13 v9 3, M13))))))
set_option maxHeartbeats 4000000 in
set_option maxRecDepth 100000 in
theorem k_X5_waterAfter {p : Program} {l : Launch} {e : Env} {s : State} {m : MethodId} {args : Array Value} {below : List Frame} {meth : Method} {c : Code} {dd : cl_D} {b : Nat} (C : cl_C p l s m args meth c cX5_waterAfter RX5 5 (some .int) dd b) (TT : cl_T c) : ∀ (M : cl_M) (t0 : Nat) (a1 : Int32) (a2 : Int32) (o : Except (Nat × cl_M) (Int32 × cl_M)), f_X5_waterAfter M t0 a1 a2 = some o → ∀ (H : Heap) (locs : List Loc) (ls : Array Slot), cl_sh dd t0 = 5 → cl_H dd b M s H locs → lv_has ls 5 [(0, .ref (b + t0)), (1, .int a1), (2, .int a2)] → W p l e { frames := 7, cells := 2, slots := 12, locals := 112 } s m args below meth c H locs 0 0 (cl_Yi below args s dd b o 2) (F0 m 0 ls []) := by
  have hx := C.1
  have hb := C.2.1
  have hlt := C.2.2.2.2.2.2.2.2.2.2
  have hRr := C.2.2.2.2.2.2.2.2.2.1
  intro M t0 a1 a2 o hf H locs ls ht0 hw hl
  unfold f_X5_waterAfter at hf
  refine lv_aload_n hx hb dX5_waterAfter_0 rfl (lv_at hl 0 rfl) ?_
  refine lv_iload_n hx hb dX5_waterAfter_1 rfl (lv_at hl 1 rfl) ?_
  obtain ⟨o2, e1, o2x, hf⟩ := cl_x2_e hf
  refine cr_XVr C hw TT (c_X5_known hlt ht0 e1) cy_X5_known vy_X5_known ml_X5_143 (cl_lt ht0 (by decide)) (cl_e5 ht0) rfl rfl (As := [.int a1]) rfl hl.1 rfl ⟨⟨Nat.le_of_ble_eq_true rfl, Nat.le_of_ble_eq_true rfl⟩, Nat.le_of_ble_eq_true rfl, Nat.le_of_ble_eq_true rfl, Nat.le_of_ble_eq_true rfl⟩ ⟨Nat.le_of_ble_eq_true rfl, Nat.le_of_ble_eq_true rfl⟩ dX5_waterAfter_2 o2x (fun v3 M4 eo2 H locs hw => ?_)
  have hf := hf v3 M4 eo2
  have hv3 := s_X5_known ht0 (e1.trans (congrArg some eo2))
  refine lv_astore_n (lv' := [(3, .ref (b + v3)), (0, .ref (b + t0)), (1, .int a1), (2, .int a2)]) hx hb dX5_waterAfter_5 rfl hl (by decide) rfl (fun ls hl => ?_)
  refine lv_iload_n hx hb dX5_waterAfter_6 rfl (lv_at hl 3 rfl) ?_
  refine lv_iconst (v := 0) hx hb dX5_waterAfter_7 (by decide) ?_
  refine lv_sipush (v := 500) hx hb dX5_waterAfter_8 (by decide) ?_
  obtain ⟨o6, e5, o6x, hf⟩ := cl_x1_e hf
  refine cr_XSv C hw TT (c_X5_requireRange hlt e5) cy_X5_requireRange st_X5_requireRange ml_X5_103 (As := [.int a2, .int 0, .int 500]) rfl hl.1 rfl ⟨⟨Nat.le_of_ble_eq_true rfl, Nat.le_of_ble_eq_true rfl⟩, Nat.le_of_ble_eq_true rfl, Nat.le_of_ble_eq_true rfl, Nat.le_of_ble_eq_true rfl⟩ ⟨Nat.le_of_ble_eq_true rfl, Nat.le_of_ble_eq_true rfl⟩ dX5_waterAfter_11 o6x (fun M8 eo6 H locs hw => ?_)
  have hf := hf M8 eo6
  refine lv_aload_n hx hb dX5_waterAfter_14 rfl (lv_at hl 1 rfl) ?_
  refine fg_X5_23 C hw ht0 dX5_waterAfter_15 ?_
  refine lv_aload_n hx hb dX5_waterAfter_18 rfl (lv_at hl 1 rfl) ?_
  refine fg_X5_19 C hw ht0 dX5_waterAfter_19 ?_
  refine lv_aload_n hx hb dX5_waterAfter_22 rfl (lv_at hl 0 rfl) ?_
  obtain ⟨v9, M10, e11, hf⟩ := cl_b2_e hf
  refine cr_Vr C hw (c_X2_copyWithOne hlt (sh_5_2 ht0).1 (sh_5_1 ht0).1 hv3 e11) cy_X2_copyWithOne vy_X2_copyWithOne ml_X5_241 (cl_lt (sh_5_2 ht0).1 (by decide)) (cl_e2 (sh_5_2 ht0).1) rfl rfl (As := [.ref (b + (t0 + 4)), .ref (b + v3)]) rfl hl.1 rfl ⟨⟨Nat.le_of_ble_eq_true rfl, Nat.le_of_ble_eq_true rfl⟩, Nat.le_of_ble_eq_true rfl, Nat.le_of_ble_eq_true rfl, Nat.le_of_ble_eq_true rfl⟩ dX5_waterAfter_23 (fun H locs hw => ?_)
  have hv9 := s_X2_copyWithOne (sh_5_2 ht0).1 (sh_5_1 ht0).1 hv3 e11
  refine lv_astore (lv' := [(4, .ref (b + v9)), (3, .ref (b + v3)), (0, .ref (b + t0)), (1, .int a1), (2, .int a2)]) hx hb dX5_waterAfter_26 hl (by decide) rfl (fun ls hl => ?_)
  refine lv_aload_n hx hb dX5_waterAfter_28 rfl (lv_at hl 2 rfl) ?_
  refine fg_X5_23 C hw ht0 dX5_waterAfter_29 ?_
  refine lv_iload_n hx hb dX5_waterAfter_32 rfl (lv_at hl 4 rfl) ?_
  obtain ⟨v12, M13, e14, hf⟩ := cl_b2_e hf
  refine cr_Vi C hw (c_X2_letPass hlt (sh_5_2 ht0).1 e14) cy_X2_letPass vy_X2_letPass ml_X5_245 (cl_lt (sh_5_2 ht0).1 (by decide)) (cl_e2 (sh_5_2 ht0).1) rfl rfl (As := [.int a2]) rfl hl.1 rfl ⟨⟨Nat.le_of_ble_eq_true rfl, Nat.le_of_ble_eq_true rfl⟩, Nat.le_of_ble_eq_true rfl, Nat.le_of_ble_eq_true rfl, Nat.le_of_ble_eq_true rfl⟩ dX5_waterAfter_33 (fun H locs hw => ?_)
  refine lv_pop hx hb dX5_waterAfter_36 rfl ?_
  refine lv_aload hx hb dX5_waterAfter_37 (lv_at hl 0 rfl) ?_
  refine fg_X5_161 C hw hv9 dX5_waterAfter_39 ?_
  obtain rfl := Option.some.inj hf
  exact cr_xreti C hw dX5_waterAfter_42
set_option maxRecDepth 100000 in
theorem c_X5_waterAfter {l : Launch} {dd : cl_D} {b : Nat} (hlt : l.stackTraces = false) {M : cl_M} {t0 : Nat} {a1 : Int32} {a2 : Int32}  {o : Except (Nat × cl_M) (Int32 × cl_M)} (ht0 : cl_sh dd t0 = 5) (h : f_X5_waterAfter M t0 a1 a2 = some o) : cl_Xi l dd b yX5_waterAfter cX5_waterAfter 5 (some .int) 7 112 2 [.ref (b + t0), .int a1, .int a2] M o :=
  cl_ofX hlt (by decide) (Nat.le_of_ble_eq_true rfl) (fun p e s m below meth c ls C TT hw hl => k_X5_waterAfter C TT M t0 a1 a2 o h _ _ _ ht0 hw (lv_sub hl [0, 1, 2] rfl))
theorem cy_X5_waterAfter : cl_cy yX5_waterAfter cX5_waterAfter 5 (some .int) 2 := ⟨in_ClothesLine, cd_X5_waterAfter, by decide +kernel, by decide +kernel, by decide +kernel⟩
theorem vy_X5_waterAfter : cl_vy yX5_waterAfter := ⟨im_X5_waterAfter, se_X5_waterAfter⟩
def f_X5_minutesToDry_19 : Nat → cl_M → Nat → Nat → Int32 → Option (Except (Nat × cl_M) (Int32 × cl_M))
  | 0, _, _, _, _ => none
  | k + 1, M, t0, t2, a3 => if 500 < a3 then some (.ok ((-1), M)) else if (M t2 3) = 0 then some (.ok (a3, M)) else cl_b2 (f_X2_passOne M (t0 + 23)) (fun v10 M11 => cl_let (a3 + 1) (fun v13 => f_X5_minutesToDry_19 k M11 t0 t2 v13))
set_option maxHeartbeats 4000000 in
set_option maxRecDepth 100000 in
theorem k_X5_minutesToDry_19 {p : Program} {l : Launch} {e : Env} {s : State} {m : MethodId} {args : Array Value} {below : List Frame} {meth : Method} {c : Code} {dd : cl_D} {b : Nat} (C : cl_C p l s m args meth c cX5_minutesToDry RX5 4 (some .int) dd b) (TT : cl_T c) : ∀ (k : Nat), ∀ (M : cl_M) (t0 : Nat) (t2 : Nat) (a3 : Int32) (o : Except (Nat × cl_M) (Int32 × cl_M)), f_X5_minutesToDry_19 k M t0 t2 a3 = some o → ∀ (H : Heap) (locs : List Loc) (ls : Array Slot), cl_sh dd t0 = 5 → cl_sh dd t2 = 0 → cl_H dd b M s H locs → lv_has ls 4 [(0, .ref (b + t0)), (2, .ref (b + t2)), (3, .int a3)] → W p l e { frames := 7, cells := 1, slots := 6, locals := 111 } s m args below meth c H locs 1 6 (cl_Yi below args s dd b o 1) (F0 m 19 ls []) := by
  have hx := C.1
  have hb := C.2.1
  have hlt := C.2.2.2.2.2.2.2.2.2.2
  have hRr := C.2.2.2.2.2.2.2.2.2.1
  intro k
  induction k with
  | zero =>
    intro M t0 t2 a3 o hf H locs ls ht0 ht2 hw hl
    rw [f_X5_minutesToDry_19] at hf
    cases hf
  | succ k ih =>
    intro M t0 t2 a3 o hf H locs ls ht0 ht2 hw hl
    rw [f_X5_minutesToDry_19] at hf
    refine lv_iload_n hx hb dX5_minutesToDry_19 rfl (lv_at hl 2 rfl) ?_
    refine lv_sipush (v := 500) hx hb dX5_minutesToDry_20 (by decide) ?_
    refine lv_icmp_gt (tgt := 49) hx hb dX5_minutesToDry_23 (by decide) (fun c8 => ?_) (fun c8 => ?_)
    · have hf := cl_yes c8 hf
      refine lv_iconst (v := (-1)) hx hb dX5_minutesToDry_49 (by decide) ?_
      obtain rfl := Option.some.inj hf
      exact cr_xreti C hw dX5_minutesToDry_50
    · have hf := cl_no c8 hf
      refine lv_aload_n hx hb dX5_minutesToDry_26 rfl (lv_at hl 1 rfl) ?_
      refine fg_X5_161 C hw ht2 dX5_minutesToDry_27 ?_
      refine lv_if_ne (tgt := 35) hx hb dX5_minutesToDry_30 (by decide) (fun c9 => ?_) (fun c9 => ?_)
      · have hf := cl_no c9 hf
        refine lv_aload_n hx hb dX5_minutesToDry_35 rfl (lv_at hl 0 rfl) ?_
        refine fg_X5_23 C hw ht0 dX5_minutesToDry_36 ?_
        obtain ⟨v10, M11, e12, hf⟩ := cl_b2_e hf
        refine cr_Vi C hw (c_X2_passOne hlt (sh_5_2 ht0).1 e12) cy_X2_passOne vy_X2_passOne ml_X5_248 (cl_lt (sh_5_2 ht0).1 (by decide)) (cl_e2 (sh_5_2 ht0).1) rfl rfl (As := []) rfl hl.1 rfl ⟨⟨Nat.le_of_ble_eq_true rfl, Nat.le_of_ble_eq_true rfl⟩, Nat.le_of_ble_eq_true rfl, Nat.le_of_ble_eq_true rfl, Nat.le_of_ble_eq_true rfl⟩ dX5_minutesToDry_39 (fun H locs hw => ?_)
        refine lv_pop hx hb dX5_minutesToDry_42 rfl ?_
        obtain ⟨v13, ev13, hf⟩ := cl_let_e hf
        refine lv_iinc (v := v13) (lv' := [(3, .int v13), (0, .ref (b + t0)), (2, .ref (b + t2))]) hx hb dX5_minutesToDry_43 hl (k := 2) rfl (by rw [ev13]; rfl) (by decide) rfl (fun ls hl => ?_)
        refine lv_goto (tgt := 19) hx hb dX5_minutesToDry_46 (by decide) ?_
        exact ih M11 t0 t2 v13 _ hf _ _ _ ht0 ht2 hw (lv_sub hl [1, 2, 0] rfl)
      · have hf := cl_yes c9 hf
        refine lv_iload_n hx hb dX5_minutesToDry_33 rfl (lv_at hl 2 rfl) ?_
        obtain rfl := Option.some.inj hf
        exact cr_xreti C hw dX5_minutesToDry_34
def f_X5_minutesToDry (M : cl_M) (t0 : Nat) (a1 : Int32) : Option (Except (Nat × cl_M) (Int32 × cl_M)) := cl_x2 (f_X5_known M t0 a1) (fun v3 M4 => cl_b2 (f_X2_copyWithOne M4 (t0 + 23) (t0 + 4) v3) (fun v5 M6 => f_X5_minutesToDry_19 cl_F M6 t0 v5 0))
set_option maxHeartbeats 4000000 in
set_option maxRecDepth 100000 in
theorem k_X5_minutesToDry {p : Program} {l : Launch} {e : Env} {s : State} {m : MethodId} {args : Array Value} {below : List Frame} {meth : Method} {c : Code} {dd : cl_D} {b : Nat} (C : cl_C p l s m args meth c cX5_minutesToDry RX5 4 (some .int) dd b) (TT : cl_T c) : ∀ (M : cl_M) (t0 : Nat) (a1 : Int32) (o : Except (Nat × cl_M) (Int32 × cl_M)), f_X5_minutesToDry M t0 a1 = some o → ∀ (H : Heap) (locs : List Loc) (ls : Array Slot), cl_sh dd t0 = 5 → cl_H dd b M s H locs → lv_has ls 4 [(0, .ref (b + t0)), (1, .int a1)] → W p l e { frames := 7, cells := 1, slots := 6, locals := 111 } s m args below meth c H locs 0 0 (cl_Yi below args s dd b o 1) (F0 m 0 ls []) := by
  have hx := C.1
  have hb := C.2.1
  have hlt := C.2.2.2.2.2.2.2.2.2.2
  have hRr := C.2.2.2.2.2.2.2.2.2.1
  intro M t0 a1 o hf H locs ls ht0 hw hl
  unfold f_X5_minutesToDry at hf
  refine lv_aload_n hx hb dX5_minutesToDry_0 rfl (lv_at hl 0 rfl) ?_
  refine fg_X5_23 C hw ht0 dX5_minutesToDry_1 ?_
  refine lv_aload_n hx hb dX5_minutesToDry_4 rfl (lv_at hl 0 rfl) ?_
  refine fg_X5_19 C hw ht0 dX5_minutesToDry_5 ?_
  refine lv_aload_n hx hb dX5_minutesToDry_8 rfl (lv_at hl 0 rfl) ?_
  refine lv_iload_n hx hb dX5_minutesToDry_9 rfl (lv_at hl 1 rfl) ?_
  obtain ⟨o2, e1, o2x, hf⟩ := cl_x2_e hf
  refine cr_XVr C hw TT (c_X5_known hlt ht0 e1) cy_X5_known vy_X5_known ml_X5_143 (cl_lt ht0 (by decide)) (cl_e5 ht0) rfl rfl (As := [.int a1]) rfl hl.1 rfl ⟨⟨Nat.le_of_ble_eq_true rfl, Nat.le_of_ble_eq_true rfl⟩, Nat.le_of_ble_eq_true rfl, Nat.le_of_ble_eq_true rfl, Nat.le_of_ble_eq_true rfl⟩ ⟨Nat.le_of_ble_eq_true rfl, Nat.le_of_ble_eq_true rfl⟩ dX5_minutesToDry_10 o2x (fun v3 M4 eo2 H locs hw => ?_)
  have hf := hf v3 M4 eo2
  have hv3 := s_X5_known ht0 (e1.trans (congrArg some eo2))
  obtain ⟨v5, M6, e7, hf⟩ := cl_b2_e hf
  refine cr_Vr C hw (c_X2_copyWithOne hlt (sh_5_2 ht0).1 (sh_5_1 ht0).1 hv3 e7) cy_X2_copyWithOne vy_X2_copyWithOne ml_X5_241 (cl_lt (sh_5_2 ht0).1 (by decide)) (cl_e2 (sh_5_2 ht0).1) rfl rfl (As := [.ref (b + (t0 + 4)), .ref (b + v3)]) rfl hl.1 rfl ⟨⟨Nat.le_of_ble_eq_true rfl, Nat.le_of_ble_eq_true rfl⟩, Nat.le_of_ble_eq_true rfl, Nat.le_of_ble_eq_true rfl, Nat.le_of_ble_eq_true rfl⟩ dX5_minutesToDry_13 (fun H locs hw => ?_)
  have hv5 := s_X2_copyWithOne (sh_5_2 ht0).1 (sh_5_1 ht0).1 hv3 e7
  refine lv_astore_n (lv' := [(2, .ref (b + v5)), (0, .ref (b + t0)), (1, .int a1)]) hx hb dX5_minutesToDry_16 rfl hl (by decide) rfl (fun ls hl => ?_)
  refine lv_iconst (v := 0) hx hb dX5_minutesToDry_17 (by decide) ?_
  refine lv_istore_n (lv' := [(3, .int 0), (2, .ref (b + v5)), (0, .ref (b + t0)), (1, .int a1)]) hx hb dX5_minutesToDry_18 rfl hl (by decide) rfl (fun ls hl => ?_)
  exact k_X5_minutesToDry_19 C TT cl_F M6 t0 v5 0 _ hf _ _ _ ht0 hv5 hw (lv_sub hl [2, 1, 0] rfl)
set_option maxRecDepth 100000 in
theorem c_X5_minutesToDry {l : Launch} {dd : cl_D} {b : Nat} (hlt : l.stackTraces = false) {M : cl_M} {t0 : Nat} {a1 : Int32}  {o : Except (Nat × cl_M) (Int32 × cl_M)} (ht0 : cl_sh dd t0 = 5) (h : f_X5_minutesToDry M t0 a1 = some o) : cl_Xi l dd b yX5_minutesToDry cX5_minutesToDry 4 (some .int) 7 111 1 [.ref (b + t0), .int a1] M o :=
  cl_ofX hlt (by decide) (Nat.le_of_ble_eq_true rfl) (fun p e s m below meth c ls C TT hw hl => k_X5_minutesToDry C TT M t0 a1 o h _ _ _ ht0 hw (lv_sub hl [0, 1] rfl))
theorem cy_X5_minutesToDry : cl_cy yX5_minutesToDry cX5_minutesToDry 4 (some .int) 1 := ⟨in_ClothesLine, cd_X5_minutesToDry, by decide +kernel, by decide +kernel, by decide +kernel⟩
theorem vy_X5_minutesToDry : cl_vy yX5_minutesToDry := ⟨im_X5_minutesToDry, se_X5_minutesToDry⟩
def f_X5_minutesToFall_19 : Nat → cl_M → Nat → Int32 → Option (Except (Nat × cl_M) (Int32 × cl_M))
  | 0, _, _, _ => none
  | k + 1, M, t0, a2 => if 500 < a2 then some (.ok ((-1), M)) else cl_b2 (f_X2_passOne M (t0 + 23)) (fun v9 M10 => if v9 ≤ 0 then cl_let (a2 + 1) (fun v13 => f_X5_minutesToFall_19 k M10 t0 v13) else some (.ok (a2, M10)))
set_option maxHeartbeats 4000000 in
set_option maxRecDepth 100000 in
theorem k_X5_minutesToFall_19 {p : Program} {l : Launch} {e : Env} {s : State} {m : MethodId} {args : Array Value} {below : List Frame} {meth : Method} {c : Code} {dd : cl_D} {b : Nat} (C : cl_C p l s m args meth c cX5_minutesToFall RX5 3 (some .int) dd b) (TT : cl_T c) : ∀ (k : Nat), ∀ (M : cl_M) (t0 : Nat) (a2 : Int32) (o : Except (Nat × cl_M) (Int32 × cl_M)), f_X5_minutesToFall_19 k M t0 a2 = some o → ∀ (H : Heap) (locs : List Loc) (ls : Array Slot), cl_sh dd t0 = 5 → cl_H dd b M s H locs → lv_has ls 3 [(0, .ref (b + t0)), (2, .int a2)] → W p l e { frames := 7, cells := 1, slots := 6, locals := 111 } s m args below meth c H locs 1 6 (cl_Yi below args s dd b o 1) (F0 m 19 ls []) := by
  have hx := C.1
  have hb := C.2.1
  have hlt := C.2.2.2.2.2.2.2.2.2.2
  have hRr := C.2.2.2.2.2.2.2.2.2.1
  intro k
  induction k with
  | zero =>
    intro M t0 a2 o hf H locs ls ht0 hw hl
    rw [f_X5_minutesToFall_19] at hf
    cases hf
  | succ k ih =>
    intro M t0 a2 o hf H locs ls ht0 hw hl
    rw [f_X5_minutesToFall_19] at hf
    refine lv_iload_n hx hb dX5_minutesToFall_19 rfl (lv_at hl 1 rfl) ?_
    refine lv_sipush (v := 500) hx hb dX5_minutesToFall_20 (by decide) ?_
    refine lv_icmp_gt (tgt := 44) hx hb dX5_minutesToFall_23 (by decide) (fun c8 => ?_) (fun c8 => ?_)
    · have hf := cl_yes c8 hf
      refine lv_iconst (v := (-1)) hx hb dX5_minutesToFall_44 (by decide) ?_
      obtain rfl := Option.some.inj hf
      exact cr_xreti C hw dX5_minutesToFall_45
    · have hf := cl_no c8 hf
      refine lv_aload_n hx hb dX5_minutesToFall_26 rfl (lv_at hl 0 rfl) ?_
      refine fg_X5_23 C hw ht0 dX5_minutesToFall_27 ?_
      obtain ⟨v9, M10, e11, hf⟩ := cl_b2_e hf
      refine cr_Vi C hw (c_X2_passOne hlt (sh_5_2 ht0).1 e11) cy_X2_passOne vy_X2_passOne ml_X5_248 (cl_lt (sh_5_2 ht0).1 (by decide)) (cl_e2 (sh_5_2 ht0).1) rfl rfl (As := []) rfl hl.1 rfl ⟨⟨Nat.le_of_ble_eq_true rfl, Nat.le_of_ble_eq_true rfl⟩, Nat.le_of_ble_eq_true rfl, Nat.le_of_ble_eq_true rfl, Nat.le_of_ble_eq_true rfl⟩ dX5_minutesToFall_30 (fun H locs hw => ?_)
      refine lv_if_le (tgt := 38) hx hb dX5_minutesToFall_33 (by decide) (fun c12 => ?_) (fun c12 => ?_)
      · have hf := cl_yes c12 hf
        obtain ⟨v13, ev13, hf⟩ := cl_let_e hf
        refine lv_iinc (v := v13) (lv' := [(2, .int v13), (0, .ref (b + t0))]) hx hb dX5_minutesToFall_38 hl (k := 1) rfl (by rw [ev13]; rfl) (by decide) rfl (fun ls hl => ?_)
        refine lv_goto (tgt := 19) hx hb dX5_minutesToFall_41 (by decide) ?_
        exact ih M10 t0 v13 _ hf _ _ _ ht0 hw (lv_sub hl [1, 0] rfl)
      · have hf := cl_no c12 hf
        refine lv_iload_n hx hb dX5_minutesToFall_36 rfl (lv_at hl 1 rfl) ?_
        obtain rfl := Option.some.inj hf
        exact cr_xreti C hw dX5_minutesToFall_37
def f_X5_minutesToFall (M : cl_M) (t0 : Nat) (a1 : Int32) : Option (Except (Nat × cl_M) (Int32 × cl_M)) := cl_x2 (f_X5_known M t0 a1) (fun v3 M4 => cl_b2 (f_X2_copyWithOne M4 (t0 + 23) (t0 + 4) v3) (fun v5 M6 => f_X5_minutesToFall_19 cl_F M6 t0 1))
set_option maxHeartbeats 4000000 in
set_option maxRecDepth 100000 in
theorem k_X5_minutesToFall {p : Program} {l : Launch} {e : Env} {s : State} {m : MethodId} {args : Array Value} {below : List Frame} {meth : Method} {c : Code} {dd : cl_D} {b : Nat} (C : cl_C p l s m args meth c cX5_minutesToFall RX5 3 (some .int) dd b) (TT : cl_T c) : ∀ (M : cl_M) (t0 : Nat) (a1 : Int32) (o : Except (Nat × cl_M) (Int32 × cl_M)), f_X5_minutesToFall M t0 a1 = some o → ∀ (H : Heap) (locs : List Loc) (ls : Array Slot), cl_sh dd t0 = 5 → cl_H dd b M s H locs → lv_has ls 3 [(0, .ref (b + t0)), (1, .int a1)] → W p l e { frames := 7, cells := 1, slots := 6, locals := 111 } s m args below meth c H locs 0 0 (cl_Yi below args s dd b o 1) (F0 m 0 ls []) := by
  have hx := C.1
  have hb := C.2.1
  have hlt := C.2.2.2.2.2.2.2.2.2.2
  have hRr := C.2.2.2.2.2.2.2.2.2.1
  intro M t0 a1 o hf H locs ls ht0 hw hl
  unfold f_X5_minutesToFall at hf
  refine lv_aload_n hx hb dX5_minutesToFall_0 rfl (lv_at hl 0 rfl) ?_
  refine fg_X5_23 C hw ht0 dX5_minutesToFall_1 ?_
  refine lv_aload_n hx hb dX5_minutesToFall_4 rfl (lv_at hl 0 rfl) ?_
  refine fg_X5_19 C hw ht0 dX5_minutesToFall_5 ?_
  refine lv_aload_n hx hb dX5_minutesToFall_8 rfl (lv_at hl 0 rfl) ?_
  refine lv_iload_n hx hb dX5_minutesToFall_9 rfl (lv_at hl 1 rfl) ?_
  obtain ⟨o2, e1, o2x, hf⟩ := cl_x2_e hf
  refine cr_XVr C hw TT (c_X5_known hlt ht0 e1) cy_X5_known vy_X5_known ml_X5_143 (cl_lt ht0 (by decide)) (cl_e5 ht0) rfl rfl (As := [.int a1]) rfl hl.1 rfl ⟨⟨Nat.le_of_ble_eq_true rfl, Nat.le_of_ble_eq_true rfl⟩, Nat.le_of_ble_eq_true rfl, Nat.le_of_ble_eq_true rfl, Nat.le_of_ble_eq_true rfl⟩ ⟨Nat.le_of_ble_eq_true rfl, Nat.le_of_ble_eq_true rfl⟩ dX5_minutesToFall_10 o2x (fun v3 M4 eo2 H locs hw => ?_)
  have hf := hf v3 M4 eo2
  have hv3 := s_X5_known ht0 (e1.trans (congrArg some eo2))
  obtain ⟨v5, M6, e7, hf⟩ := cl_b2_e hf
  refine cr_Vr C hw (c_X2_copyWithOne hlt (sh_5_2 ht0).1 (sh_5_1 ht0).1 hv3 e7) cy_X2_copyWithOne vy_X2_copyWithOne ml_X5_241 (cl_lt (sh_5_2 ht0).1 (by decide)) (cl_e2 (sh_5_2 ht0).1) rfl rfl (As := [.ref (b + (t0 + 4)), .ref (b + v3)]) rfl hl.1 rfl ⟨⟨Nat.le_of_ble_eq_true rfl, Nat.le_of_ble_eq_true rfl⟩, Nat.le_of_ble_eq_true rfl, Nat.le_of_ble_eq_true rfl, Nat.le_of_ble_eq_true rfl⟩ dX5_minutesToFall_13 (fun H locs hw => ?_)
  have hv5 := s_X2_copyWithOne (sh_5_2 ht0).1 (sh_5_1 ht0).1 hv3 e7
  refine lv_pop hx hb dX5_minutesToFall_16 rfl ?_
  refine lv_iconst (v := 1) hx hb dX5_minutesToFall_17 (by decide) ?_
  refine lv_istore_n (lv' := [(2, .int 1), (0, .ref (b + t0)), (1, .int a1)]) hx hb dX5_minutesToFall_18 rfl hl (by decide) rfl (fun ls hl => ?_)
  exact k_X5_minutesToFall_19 C TT cl_F M6 t0 1 _ hf _ _ _ ht0 hw (lv_sub hl [1, 0] rfl)
set_option maxRecDepth 100000 in
theorem c_X5_minutesToFall {l : Launch} {dd : cl_D} {b : Nat} (hlt : l.stackTraces = false) {M : cl_M} {t0 : Nat} {a1 : Int32}  {o : Except (Nat × cl_M) (Int32 × cl_M)} (ht0 : cl_sh dd t0 = 5) (h : f_X5_minutesToFall M t0 a1 = some o) : cl_Xi l dd b yX5_minutesToFall cX5_minutesToFall 3 (some .int) 7 111 1 [.ref (b + t0), .int a1] M o :=
  cl_ofX hlt (by decide) (Nat.le_of_ble_eq_true rfl) (fun p e s m below meth c ls C TT hw hl => k_X5_minutesToFall C TT M t0 a1 o h _ _ _ ht0 hw (lv_sub hl [0, 1] rfl))
theorem cy_X5_minutesToFall : cl_cy yX5_minutesToFall cX5_minutesToFall 3 (some .int) 1 := ⟨in_ClothesLine, cd_X5_minutesToFall, by decide +kernel, by decide +kernel, by decide +kernel⟩
theorem vy_X5_minutesToFall : cl_vy yX5_minutesToFall := ⟨im_X5_minutesToFall, se_X5_minutesToFall⟩
def f_X5_garmentsAtRisk (M : cl_M) (t0 : Nat) : Option (Int32 × cl_M) := (f_X2_copyFrom M (t0 + 23) (t0 + 4)).bind (fun M1 => cl_b2 (f_X2_letPass M1 (t0 + 23) 60) (fun v3 M4 => (f_X2_setInState M4 (t0 + 4) 1).bind (fun v6 => (f_X2_setInState M4 (t0 + 23) 2).bind (fun v8 => some (v6 &&& v8, M4)))))
set_option maxHeartbeats 4000000 in
set_option maxRecDepth 100000 in
theorem k_X5_garmentsAtRisk {p : Program} {l : Launch} {e : Env} {s : State} {m : MethodId} {args : Array Value} {below : List Frame} {meth : Method} {c : Code} {dd : cl_D} {b : Nat} (C : cl_C p l s m args meth c cX5_garmentsAtRisk RX5 1 (some .int) dd b) : ∀ (M : cl_M) (t0 : Nat) (r : Int32) (M' : cl_M), f_X5_garmentsAtRisk M t0 = some (r, M') → ∀ (H : Heap) (locs : List Loc) (ls : Array Slot), cl_sh dd t0 = 5 → cl_H dd b M s H locs → lv_has ls 1 [(0, .ref (b + t0))] → W p l e { frames := 4, cells := 0, slots := 0, locals := 103 } s m args below meth c H locs 0 0 (cl_Zi below args s dd b r M') (F0 m 0 ls []) := by
  have hx := C.1
  have hb := C.2.1
  have hlt := C.2.2.2.2.2.2.2.2.2.2
  have hRr := C.2.2.2.2.2.2.2.2.2.1
  intro M t0 r M' hf H locs ls ht0 hw hl
  unfold f_X5_garmentsAtRisk at hf
  refine lv_aload_n hx hb dX5_garmentsAtRisk_0 rfl (lv_at hl 0 rfl) ?_
  refine fg_X5_23 C hw ht0 dX5_garmentsAtRisk_1 ?_
  refine lv_aload_n hx hb dX5_garmentsAtRisk_4 rfl (lv_at hl 0 rfl) ?_
  refine fg_X5_19 C hw ht0 dX5_garmentsAtRisk_5 ?_
  obtain ⟨M1, e2, hf⟩ := cl_bind_e hf
  refine cr_Vv C hw (c_X2_copyFrom hlt (sh_5_2 ht0).1 (sh_5_1 ht0).1 e2) cy_X2_copyFrom vy_X2_copyFrom ml_X5_66 (cl_lt (sh_5_2 ht0).1 (by decide)) (cl_e2 (sh_5_2 ht0).1) rfl rfl (As := [.ref (b + (t0 + 4))]) rfl hl.1 rfl ⟨⟨Nat.le_of_ble_eq_true rfl, Nat.le_of_ble_eq_true rfl⟩, Nat.le_of_ble_eq_true rfl, Nat.le_of_ble_eq_true rfl, Nat.le_of_ble_eq_true rfl⟩ dX5_garmentsAtRisk_8 (fun H locs hw => ?_)
  refine lv_aload_n hx hb dX5_garmentsAtRisk_11 rfl (lv_at hl 0 rfl) ?_
  refine fg_X5_23 C hw ht0 dX5_garmentsAtRisk_12 ?_
  refine lv_bipush (v := 60) hx hb dX5_garmentsAtRisk_15 (by decide) ?_
  obtain ⟨v3, M4, e5, hf⟩ := cl_b2_e hf
  refine cr_Vi C hw (c_X2_letPass hlt (sh_5_2 ht0).1 e5) cy_X2_letPass vy_X2_letPass ml_X5_245 (cl_lt (sh_5_2 ht0).1 (by decide)) (cl_e2 (sh_5_2 ht0).1) rfl rfl (As := [.int 60]) rfl hl.1 rfl ⟨⟨Nat.le_of_ble_eq_true rfl, Nat.le_of_ble_eq_true rfl⟩, Nat.le_of_ble_eq_true rfl, Nat.le_of_ble_eq_true rfl, Nat.le_of_ble_eq_true rfl⟩ dX5_garmentsAtRisk_17 (fun H locs hw => ?_)
  refine lv_pop hx hb dX5_garmentsAtRisk_20 rfl ?_
  refine lv_aload_n hx hb dX5_garmentsAtRisk_21 rfl (lv_at hl 0 rfl) ?_
  refine fg_X5_19 C hw ht0 dX5_garmentsAtRisk_22 ?_
  refine lv_iconst (v := 1) hx hb dX5_garmentsAtRisk_25 (by decide) ?_
  obtain ⟨v6, e7, hf⟩ := cl_bind_e hf
  refine cr_Vi C hw (c_X2_setInState hlt (sh_5_1 ht0).1 e7) cy_X2_setInState vy_X2_setInState ml_X5_189 (cl_lt (sh_5_1 ht0).1 (by decide)) (cl_e2 (sh_5_1 ht0).1) rfl rfl (As := [.int 1]) rfl hl.1 rfl ⟨⟨Nat.le_of_ble_eq_true rfl, Nat.le_of_ble_eq_true rfl⟩, Nat.le_of_ble_eq_true rfl, Nat.le_of_ble_eq_true rfl, Nat.le_of_ble_eq_true rfl⟩ dX5_garmentsAtRisk_26 (fun H locs hw => ?_)
  refine lv_aload_n hx hb dX5_garmentsAtRisk_29 rfl (lv_at hl 0 rfl) ?_
  refine fg_X5_23 C hw ht0 dX5_garmentsAtRisk_30 ?_
  refine lv_iconst (v := 2) hx hb dX5_garmentsAtRisk_33 (by decide) ?_
  obtain ⟨v8, e9, hf⟩ := cl_bind_e hf
  refine cr_Vi C hw (c_X2_setInState hlt (sh_5_2 ht0).1 e9) cy_X2_setInState vy_X2_setInState ml_X5_189 (cl_lt (sh_5_2 ht0).1 (by decide)) (cl_e2 (sh_5_2 ht0).1) rfl rfl (As := [.int 2]) rfl hl.1 rfl ⟨⟨Nat.le_of_ble_eq_true rfl, Nat.le_of_ble_eq_true rfl⟩, Nat.le_of_ble_eq_true rfl, Nat.le_of_ble_eq_true rfl, Nat.le_of_ble_eq_true rfl⟩ dX5_garmentsAtRisk_34 (fun H locs hw => ?_)
  refine lv_iand hx hb dX5_garmentsAtRisk_37 ?_
  obtain ⟨rfl, rfl⟩ := cl_pair hf
  exact cr_reti C hw dX5_garmentsAtRisk_38
set_option maxRecDepth 100000 in
theorem c_X5_garmentsAtRisk {l : Launch} {dd : cl_D} {b : Nat} (hlt : l.stackTraces = false) {M : cl_M} {t0 : Nat}  {r : Int32} {M' : cl_M} (ht0 : cl_sh dd t0 = 5) (h : f_X5_garmentsAtRisk M t0 = some (r, M')) : cl_Mi l dd b yX5_garmentsAtRisk cX5_garmentsAtRisk 1 (some .int) 4 103 [.ref (b + t0)] M r M' :=
  cl_of hlt (by decide) (Nat.le_of_ble_eq_true rfl) (fun p e s m below meth c ls C hw hl => k_X5_garmentsAtRisk C M t0 r M' h _ _ _ ht0 hw (lv_sub hl [0] rfl))
theorem cy_X5_garmentsAtRisk : cl_cy yX5_garmentsAtRisk cX5_garmentsAtRisk 1 (some .int) 0 := ⟨in_ClothesLine, cd_X5_garmentsAtRisk, by decide +kernel, by decide +kernel, by decide +kernel⟩
theorem vy_X5_garmentsAtRisk : cl_vy yX5_garmentsAtRisk := ⟨im_X5_garmentsAtRisk, se_X5_garmentsAtRisk⟩
def f_X5_waterSoonAt (M : cl_M) (t0 : Nat) (t1 : Nat) (a2 : Int32) : Option (Int32 × cl_M) := cl_b2 (f_X2_copyWithOne M (t0 + 23) (t0 + 4) t1) (fun v1 M2 => (f_X0_hangUp M2 v1 a2 0 5).bind (fun M4 => cl_b2 (f_X2_letPass M4 (t0 + 23) 60) (fun v6 M7 => some (M7 v1 3, M7))))
set_option maxHeartbeats 4000000 in
set_option maxRecDepth 100000 in
theorem k_X5_waterSoonAt {p : Program} {l : Launch} {e : Env} {s : State} {m : MethodId} {args : Array Value} {below : List Frame} {meth : Method} {c : Code} {dd : cl_D} {b : Nat} (C : cl_C p l s m args meth c cX5_waterSoonAt RX5 4 (some .int) dd b) : ∀ (M : cl_M) (t0 : Nat) (t1 : Nat) (a2 : Int32) (r : Int32) (M' : cl_M), f_X5_waterSoonAt M t0 t1 a2 = some (r, M') → ∀ (H : Heap) (locs : List Loc) (ls : Array Slot), cl_sh dd t0 = 5 → cl_sh dd t1 = 0 → cl_H dd b M s H locs → lv_has ls 4 [(0, .ref (b + t0)), (1, .ref (b + t1)), (2, .int a2)] → W p l e { frames := 4, cells := 0, slots := 0, locals := 103 } s m args below meth c H locs 0 0 (cl_Zi below args s dd b r M') (F0 m 0 ls []) := by
  have hx := C.1
  have hb := C.2.1
  have hlt := C.2.2.2.2.2.2.2.2.2.2
  have hRr := C.2.2.2.2.2.2.2.2.2.1
  intro M t0 t1 a2 r M' hf H locs ls ht0 ht1 hw hl
  unfold f_X5_waterSoonAt at hf
  refine lv_aload_n hx hb dX5_waterSoonAt_0 rfl (lv_at hl 0 rfl) ?_
  refine fg_X5_23 C hw ht0 dX5_waterSoonAt_1 ?_
  refine lv_aload_n hx hb dX5_waterSoonAt_4 rfl (lv_at hl 0 rfl) ?_
  refine fg_X5_19 C hw ht0 dX5_waterSoonAt_5 ?_
  refine lv_aload_n hx hb dX5_waterSoonAt_8 rfl (lv_at hl 1 rfl) ?_
  obtain ⟨v1, M2, e3, hf⟩ := cl_b2_e hf
  refine cr_Vr C hw (c_X2_copyWithOne hlt (sh_5_2 ht0).1 (sh_5_1 ht0).1 ht1 e3) cy_X2_copyWithOne vy_X2_copyWithOne ml_X5_241 (cl_lt (sh_5_2 ht0).1 (by decide)) (cl_e2 (sh_5_2 ht0).1) rfl rfl (As := [.ref (b + (t0 + 4)), .ref (b + t1)]) rfl hl.1 rfl ⟨⟨Nat.le_of_ble_eq_true rfl, Nat.le_of_ble_eq_true rfl⟩, Nat.le_of_ble_eq_true rfl, Nat.le_of_ble_eq_true rfl, Nat.le_of_ble_eq_true rfl⟩ dX5_waterSoonAt_9 (fun H locs hw => ?_)
  have hv1 := s_X2_copyWithOne (sh_5_2 ht0).1 (sh_5_1 ht0).1 ht1 e3
  refine lv_astore_n (lv' := [(3, .ref (b + v1)), (0, .ref (b + t0)), (1, .ref (b + t1)), (2, .int a2)]) hx hb dX5_waterSoonAt_12 rfl hl (by decide) rfl (fun ls hl => ?_)
  refine lv_aload_n hx hb dX5_waterSoonAt_13 rfl (lv_at hl 0 rfl) ?_
  refine lv_iload_n hx hb dX5_waterSoonAt_14 rfl (lv_at hl 3 rfl) ?_
  refine lv_iconst (v := 0) hx hb dX5_waterSoonAt_15 (by decide) ?_
  refine lv_iconst (v := 5) hx hb dX5_waterSoonAt_16 (by decide) ?_
  obtain ⟨M4, e5, hf⟩ := cl_bind_e hf
  refine cr_Vv C hw (c_X0_hangUp hlt hv1 e5) cy_X0_hangUp vy_X0_hangUp ml_X5_269 (cl_lt hv1 (by decide)) (cl_e0 hv1) rfl rfl (As := [.int a2, .int 0, .int 5]) rfl hl.1 rfl ⟨⟨Nat.le_of_ble_eq_true rfl, Nat.le_of_ble_eq_true rfl⟩, Nat.le_of_ble_eq_true rfl, Nat.le_of_ble_eq_true rfl, Nat.le_of_ble_eq_true rfl⟩ dX5_waterSoonAt_17 (fun H locs hw => ?_)
  refine lv_aload_n hx hb dX5_waterSoonAt_20 rfl (lv_at hl 1 rfl) ?_
  refine fg_X5_23 C hw ht0 dX5_waterSoonAt_21 ?_
  refine lv_bipush (v := 60) hx hb dX5_waterSoonAt_24 (by decide) ?_
  obtain ⟨v6, M7, e8, hf⟩ := cl_b2_e hf
  refine cr_Vi C hw (c_X2_letPass hlt (sh_5_2 ht0).1 e8) cy_X2_letPass vy_X2_letPass ml_X5_245 (cl_lt (sh_5_2 ht0).1 (by decide)) (cl_e2 (sh_5_2 ht0).1) rfl rfl (As := [.int 60]) rfl hl.1 rfl ⟨⟨Nat.le_of_ble_eq_true rfl, Nat.le_of_ble_eq_true rfl⟩, Nat.le_of_ble_eq_true rfl, Nat.le_of_ble_eq_true rfl, Nat.le_of_ble_eq_true rfl⟩ dX5_waterSoonAt_26 (fun H locs hw => ?_)
  refine lv_pop hx hb dX5_waterSoonAt_29 rfl ?_
  refine lv_aload_n hx hb dX5_waterSoonAt_30 rfl (lv_at hl 0 rfl) ?_
  refine fg_X5_161 C hw hv1 dX5_waterSoonAt_31 ?_
  obtain ⟨rfl, rfl⟩ := cl_pair hf
  exact cr_reti C hw dX5_waterSoonAt_34
set_option maxRecDepth 100000 in
theorem c_X5_waterSoonAt {l : Launch} {dd : cl_D} {b : Nat} (hlt : l.stackTraces = false) {M : cl_M} {t0 : Nat} {t1 : Nat} {a2 : Int32}  {r : Int32} {M' : cl_M} (ht0 : cl_sh dd t0 = 5) (ht1 : cl_sh dd t1 = 0) (h : f_X5_waterSoonAt M t0 t1 a2 = some (r, M')) : cl_Mi l dd b yX5_waterSoonAt cX5_waterSoonAt 4 (some .int) 4 103 [.ref (b + t0), .ref (b + t1), .int a2] M r M' :=
  cl_of hlt (by decide) (Nat.le_of_ble_eq_true rfl) (fun p e s m below meth c ls C hw hl => k_X5_waterSoonAt C M t0 t1 a2 r M' h _ _ _ ht0 ht1 hw (lv_sub hl [0, 1, 2] rfl))
theorem cy_X5_waterSoonAt : cl_cy yX5_waterSoonAt cX5_waterSoonAt 4 (some .int) 2 := ⟨in_ClothesLine, cd_X5_waterSoonAt, by decide +kernel, by decide +kernel, by decide +kernel⟩
theorem vy_X5_waterSoonAt : cl_vy yX5_waterSoonAt := ⟨im_X5_waterSoonAt, se_X5_waterSoonAt⟩
def f_X5_bestSpot_88 (r32 : cl_M → Nat → Nat → Int32 → Int32 → Int32 → Int32 → Option (Except (Nat × cl_M) (Int32 × cl_M))) (M : cl_M) (t0 : Nat) (t2 : Nat) (a3 : Int32) (a4 : Int32) (a5 : Int32) (a6 : Int32) : Option (Except (Nat × cl_M) (Int32 × cl_M)) := cl_let (a6 + 1) (fun v12 => r32 M t0 t2 a3 a4 a5 v12)
set_option maxHeartbeats 4000000 in
set_option maxRecDepth 100000 in
theorem k_X5_bestSpot_88 {p : Program} {l : Launch} {e : Env} {s : State} {m : MethodId} {args : Array Value} {below : List Frame} {meth : Method} {c : Code} {dd : cl_D} {b : Nat} (C : cl_C p l s m args meth c cX5_bestSpot RX5 8 (some .int) dd b) (TT : cl_T c) {r32 : cl_M → Nat → Nat → Int32 → Int32 → Int32 → Int32 → Option (Except (Nat × cl_M) (Int32 × cl_M))} (hr32 : ∀ (M : cl_M) (t0 : Nat) (t2 : Nat) (a3 : Int32) (a4 : Int32) (a5 : Int32) (a6 : Int32) (o : Except (Nat × cl_M) (Int32 × cl_M)), r32 M t0 t2 a3 a4 a5 a6 = some o → ∀ (H : Heap) (locs : List Loc) (ls : Array Slot), cl_sh dd t0 = 5 → cl_sh dd t2 = 0 → cl_H dd b M s H locs → lv_has ls 8 [(0, .ref (b + t0)), (2, .ref (b + t2)), (3, .int a3), (4, .int a4), (5, .int a5), (6, .int a6)] → W p l e { frames := 7, cells := 1, slots := 6, locals := 126 } s m args below meth c H locs 1 6 (cl_Yi below args s dd b o 1) (F0 m 32 ls [])) : ∀ (M : cl_M) (t0 : Nat) (t2 : Nat) (a3 : Int32) (a4 : Int32) (a5 : Int32) (a6 : Int32) (o : Except (Nat × cl_M) (Int32 × cl_M)), f_X5_bestSpot_88 r32 M t0 t2 a3 a4 a5 a6 = some o → ∀ (H : Heap) (locs : List Loc) (ls : Array Slot), cl_sh dd t0 = 5 → cl_sh dd t2 = 0 → cl_H dd b M s H locs → lv_has ls 8 [(0, .ref (b + t0)), (2, .ref (b + t2)), (3, .int a3), (4, .int a4), (5, .int a5), (6, .int a6)] → W p l e { frames := 7, cells := 1, slots := 6, locals := 126 } s m args below meth c H locs 1 6 (cl_Yi below args s dd b o 1) (F0 m 88 ls []) := by
  have hx := C.1
  have hb := C.2.1
  have hlt := C.2.2.2.2.2.2.2.2.2.2
  have hRr := C.2.2.2.2.2.2.2.2.2.1
  intro M t0 t2 a3 a4 a5 a6 o hf H locs ls ht0 ht2 hw hl
  unfold f_X5_bestSpot_88 at hf
  obtain ⟨v12, ev12, hf⟩ := cl_let_e hf
  refine lv_iinc (v := v12) (lv' := [(6, .int v12), (0, .ref (b + t0)), (2, .ref (b + t2)), (3, .int a3), (4, .int a4), (5, .int a5)]) hx hb dX5_bestSpot_88 hl (k := 5) rfl (by rw [ev12]; rfl) (by decide) rfl (fun ls hl => ?_)
  refine lv_goto (tgt := 32) hx hb dX5_bestSpot_91 (by decide) ?_
  exact hr32 M t0 t2 a3 a4 a5 v12 _ hf _ _ _ ht0 ht2 hw (lv_sub hl [1, 2, 3, 4, 5, 0] rfl)
def f_X5_bestSpot_80 (r32 : cl_M → Nat → Nat → Int32 → Int32 → Int32 → Int32 → Option (Except (Nat × cl_M) (Int32 × cl_M))) (M : cl_M) (t0 : Nat) (t2 : Nat) (a3 : Int32) (a6 : Int32) (a7 : Int32) : Option (Except (Nat × cl_M) (Int32 × cl_M)) := f_X5_bestSpot_88 r32 M t0 t2 a3 a6 a7 a6
set_option maxHeartbeats 4000000 in
set_option maxRecDepth 100000 in
theorem k_X5_bestSpot_80 {p : Program} {l : Launch} {e : Env} {s : State} {m : MethodId} {args : Array Value} {below : List Frame} {meth : Method} {c : Code} {dd : cl_D} {b : Nat} (C : cl_C p l s m args meth c cX5_bestSpot RX5 8 (some .int) dd b) (TT : cl_T c) {r32 : cl_M → Nat → Nat → Int32 → Int32 → Int32 → Int32 → Option (Except (Nat × cl_M) (Int32 × cl_M))} (hr32 : ∀ (M : cl_M) (t0 : Nat) (t2 : Nat) (a3 : Int32) (a4 : Int32) (a5 : Int32) (a6 : Int32) (o : Except (Nat × cl_M) (Int32 × cl_M)), r32 M t0 t2 a3 a4 a5 a6 = some o → ∀ (H : Heap) (locs : List Loc) (ls : Array Slot), cl_sh dd t0 = 5 → cl_sh dd t2 = 0 → cl_H dd b M s H locs → lv_has ls 8 [(0, .ref (b + t0)), (2, .ref (b + t2)), (3, .int a3), (4, .int a4), (5, .int a5), (6, .int a6)] → W p l e { frames := 7, cells := 1, slots := 6, locals := 126 } s m args below meth c H locs 1 6 (cl_Yi below args s dd b o 1) (F0 m 32 ls [])) : ∀ (M : cl_M) (t0 : Nat) (t2 : Nat) (a3 : Int32) (a6 : Int32) (a7 : Int32) (o : Except (Nat × cl_M) (Int32 × cl_M)), f_X5_bestSpot_80 r32 M t0 t2 a3 a6 a7 = some o → ∀ (H : Heap) (locs : List Loc) (ls : Array Slot), cl_sh dd t0 = 5 → cl_sh dd t2 = 0 → cl_H dd b M s H locs → lv_has ls 8 [(0, .ref (b + t0)), (2, .ref (b + t2)), (3, .int a3), (6, .int a6), (7, .int a7)] → W p l e { frames := 7, cells := 1, slots := 6, locals := 126 } s m args below meth c H locs 1 6 (cl_Yi below args s dd b o 1) (F0 m 80 ls []) := by
  have hx := C.1
  have hb := C.2.1
  have hlt := C.2.2.2.2.2.2.2.2.2.2
  have hRr := C.2.2.2.2.2.2.2.2.2.1
  intro M t0 t2 a3 a6 a7 o hf H locs ls ht0 ht2 hw hl
  unfold f_X5_bestSpot_80 at hf
  refine lv_iload hx hb dX5_bestSpot_80 (lv_at hl 3 rfl) ?_
  refine lv_istore (lv' := [(4, .int a6), (0, .ref (b + t0)), (2, .ref (b + t2)), (3, .int a3), (6, .int a6), (7, .int a7)]) hx hb dX5_bestSpot_82 hl (by decide) rfl (fun ls hl => ?_)
  refine lv_iload hx hb dX5_bestSpot_84 (lv_at hl 5 rfl) ?_
  refine lv_istore (lv' := [(5, .int a7), (4, .int a6), (0, .ref (b + t0)), (2, .ref (b + t2)), (3, .int a3), (6, .int a6), (7, .int a7)]) hx hb dX5_bestSpot_86 hl (by decide) rfl (fun ls hl => ?_)
  exact k_X5_bestSpot_88 C TT hr32 M t0 t2 a3 a6 a7 a6 _ hf _ _ _ ht0 ht2 hw (lv_sub hl [2, 3, 4, 1, 0, 5] rfl)
def f_X5_bestSpot_32 : Nat → cl_M → Nat → Nat → Int32 → Int32 → Int32 → Int32 → Option (Except (Nat × cl_M) (Int32 × cl_M))
  | 0, _, _, _, _, _, _, _ => none
  | k + 1, M, t0, t2, a3, a4, a5, a6 => if 24 < (a6 + (M t2 0)) then some (.ok (a4, M)) else (f_X5_spotSet M a6 (M t2 0)).bind (fun v9 => if (v9 &&& a3) = 0 then cl_b2 (f_X5_waterSoonAt M t0 t2 a6) (fun v13 M14 => if a4 = (-1) then f_X5_bestSpot_80 (f_X5_bestSpot_32 k) M14 t0 t2 a3 a6 v13 else if a5 ≤ v13 then f_X5_bestSpot_88 (f_X5_bestSpot_32 k) M14 t0 t2 a3 a4 a5 a6 else f_X5_bestSpot_80 (f_X5_bestSpot_32 k) M14 t0 t2 a3 a6 v13) else f_X5_bestSpot_88 (f_X5_bestSpot_32 k) M t0 t2 a3 a4 a5 a6)
set_option maxHeartbeats 4000000 in
set_option maxRecDepth 100000 in
theorem k_X5_bestSpot_32 {p : Program} {l : Launch} {e : Env} {s : State} {m : MethodId} {args : Array Value} {below : List Frame} {meth : Method} {c : Code} {dd : cl_D} {b : Nat} (C : cl_C p l s m args meth c cX5_bestSpot RX5 8 (some .int) dd b) (TT : cl_T c) : ∀ (k : Nat), ∀ (M : cl_M) (t0 : Nat) (t2 : Nat) (a3 : Int32) (a4 : Int32) (a5 : Int32) (a6 : Int32) (o : Except (Nat × cl_M) (Int32 × cl_M)), f_X5_bestSpot_32 k M t0 t2 a3 a4 a5 a6 = some o → ∀ (H : Heap) (locs : List Loc) (ls : Array Slot), cl_sh dd t0 = 5 → cl_sh dd t2 = 0 → cl_H dd b M s H locs → lv_has ls 8 [(0, .ref (b + t0)), (2, .ref (b + t2)), (3, .int a3), (4, .int a4), (5, .int a5), (6, .int a6)] → W p l e { frames := 7, cells := 1, slots := 6, locals := 126 } s m args below meth c H locs 1 6 (cl_Yi below args s dd b o 1) (F0 m 32 ls []) := by
  have hx := C.1
  have hb := C.2.1
  have hlt := C.2.2.2.2.2.2.2.2.2.2
  have hRr := C.2.2.2.2.2.2.2.2.2.1
  intro k
  induction k with
  | zero =>
    intro M t0 t2 a3 a4 a5 a6 o hf H locs ls ht0 ht2 hw hl
    rw [f_X5_bestSpot_32] at hf
    cases hf
  | succ k ih =>
    intro M t0 t2 a3 a4 a5 a6 o hf H locs ls ht0 ht2 hw hl
    rw [f_X5_bestSpot_32] at hf
    refine lv_iload hx hb dX5_bestSpot_32 (lv_at hl 5 rfl) ?_
    refine lv_aload_n hx hb dX5_bestSpot_34 rfl (lv_at hl 1 rfl) ?_
    refine fg_X5_152 C hw ht2 dX5_bestSpot_35 ?_
    refine lv_iadd hx hb dX5_bestSpot_38 ?_
    refine lv_bipush (v := 24) hx hb dX5_bestSpot_39 (by decide) ?_
    refine lv_icmp_gt (tgt := 94) hx hb dX5_bestSpot_41 (by decide) (fun c8 => ?_) (fun c8 => ?_)
    · have hf := cl_yes c8 hf
      refine lv_iload hx hb dX5_bestSpot_94 (lv_at hl 3 rfl) ?_
      obtain rfl := Option.some.inj hf
      exact cr_xreti C hw dX5_bestSpot_96
    · have hf := cl_no c8 hf
      refine lv_iload hx hb dX5_bestSpot_44 (lv_at hl 5 rfl) ?_
      refine lv_aload_n hx hb dX5_bestSpot_46 rfl (lv_at hl 1 rfl) ?_
      refine fg_X5_152 C hw ht2 dX5_bestSpot_47 ?_
      obtain ⟨v9, e10, hf⟩ := cl_bind_e hf
      refine cr_Si C hw (c_X5_spotSet hlt e10) cy_X5_spotSet st_X5_spotSet ml_X5_251 (As := [.int a6, .int (M t2 0)]) rfl hl.1 rfl ⟨⟨Nat.le_of_ble_eq_true rfl, Nat.le_of_ble_eq_true rfl⟩, Nat.le_of_ble_eq_true rfl, Nat.le_of_ble_eq_true rfl, Nat.le_of_ble_eq_true rfl⟩ dX5_bestSpot_50 (fun H locs hw => ?_)
      refine lv_iload_n hx hb dX5_bestSpot_53 rfl (lv_at hl 2 rfl) ?_
      refine lv_iand hx hb dX5_bestSpot_54 ?_
      refine lv_if_ne (tgt := 88) hx hb dX5_bestSpot_55 (by decide) (fun c11 => ?_) (fun c11 => ?_)
      · have hf := cl_no c11 hf
        exact k_X5_bestSpot_88 C TT ih M t0 t2 a3 a4 a5 a6 _ hf _ _ _ ht0 ht2 hw (lv_sub hl [0, 1, 2, 3, 4, 5] rfl)
      · have hf := cl_yes c11 hf
        refine lv_aload_n hx hb dX5_bestSpot_58 rfl (lv_at hl 0 rfl) ?_
        refine lv_aload_n hx hb dX5_bestSpot_59 rfl (lv_at hl 1 rfl) ?_
        refine lv_iload hx hb dX5_bestSpot_60 (lv_at hl 5 rfl) ?_
        obtain ⟨v13, M14, e15, hf⟩ := cl_b2_e hf
        refine cr_Vi C hw (c_X5_waterSoonAt hlt ht0 ht2 e15) cy_X5_waterSoonAt vy_X5_waterSoonAt ml_X5_254 (cl_lt ht0 (by decide)) (cl_e5 ht0) rfl rfl (As := [.ref (b + t2), .int a6]) rfl hl.1 rfl ⟨⟨Nat.le_of_ble_eq_true rfl, Nat.le_of_ble_eq_true rfl⟩, Nat.le_of_ble_eq_true rfl, Nat.le_of_ble_eq_true rfl, Nat.le_of_ble_eq_true rfl⟩ dX5_bestSpot_62 (fun H locs hw => ?_)
        refine lv_istore (lv' := [(7, .int v13), (0, .ref (b + t0)), (2, .ref (b + t2)), (3, .int a3), (4, .int a4), (5, .int a5), (6, .int a6)]) hx hb dX5_bestSpot_65 hl (by decide) rfl (fun ls hl => ?_)
        refine lv_iload hx hb dX5_bestSpot_67 (lv_at hl 4 rfl) ?_
        refine lv_iconst (v := (-1)) hx hb dX5_bestSpot_69 (by decide) ?_
        refine lv_icmp_eq (tgt := 80) hx hb dX5_bestSpot_70 (by decide) (fun c16 => ?_) (fun c16 => ?_)
        · have hf := cl_yes c16 hf
          exact k_X5_bestSpot_80 C TT ih M14 t0 t2 a3 a6 v13 _ hf _ _ _ ht0 ht2 hw (lv_sub hl [1, 2, 3, 6, 0] rfl)
        · have hf := cl_no c16 hf
          refine lv_iload hx hb dX5_bestSpot_73 (lv_at hl 0 rfl) ?_
          refine lv_iload hx hb dX5_bestSpot_75 (lv_at hl 5 rfl) ?_
          refine lv_icmp_ge (tgt := 88) hx hb dX5_bestSpot_77 (by decide) (fun c17 => ?_) (fun c17 => ?_)
          · have hf := cl_yes c17 hf
            exact k_X5_bestSpot_88 C TT ih M14 t0 t2 a3 a4 a5 a6 _ hf _ _ _ ht0 ht2 hw (lv_sub hl [1, 2, 3, 4, 5, 6] rfl)
          · have hf := cl_no c17 hf
            exact k_X5_bestSpot_80 C TT ih M14 t0 t2 a3 a6 v13 _ hf _ _ _ ht0 ht2 hw (lv_sub hl [1, 2, 3, 6, 0] rfl)
def f_X5_bestSpot (M : cl_M) (t0 : Nat) (a1 : Int32) : Option (Except (Nat × cl_M) (Int32 × cl_M)) := cl_x2 (f_X5_known M t0 a1) (fun v3 M4 => if (M4 v3 6) = 0 then (f_X2_occupied M4 (t0 + 4)).bind (fun v6 => f_X5_bestSpot_32 cl_F M4 t0 v3 v6 (-1) 0 0) else some (.ok ((-1), M4)))
set_option maxHeartbeats 4000000 in
set_option maxRecDepth 100000 in
theorem k_X5_bestSpot {p : Program} {l : Launch} {e : Env} {s : State} {m : MethodId} {args : Array Value} {below : List Frame} {meth : Method} {c : Code} {dd : cl_D} {b : Nat} (C : cl_C p l s m args meth c cX5_bestSpot RX5 8 (some .int) dd b) (TT : cl_T c) : ∀ (M : cl_M) (t0 : Nat) (a1 : Int32) (o : Except (Nat × cl_M) (Int32 × cl_M)), f_X5_bestSpot M t0 a1 = some o → ∀ (H : Heap) (locs : List Loc) (ls : Array Slot), cl_sh dd t0 = 5 → cl_H dd b M s H locs → lv_has ls 8 [(0, .ref (b + t0)), (1, .int a1)] → W p l e { frames := 7, cells := 1, slots := 6, locals := 126 } s m args below meth c H locs 0 0 (cl_Yi below args s dd b o 1) (F0 m 0 ls []) := by
  have hx := C.1
  have hb := C.2.1
  have hlt := C.2.2.2.2.2.2.2.2.2.2
  have hRr := C.2.2.2.2.2.2.2.2.2.1
  intro M t0 a1 o hf H locs ls ht0 hw hl
  unfold f_X5_bestSpot at hf
  refine lv_aload_n hx hb dX5_bestSpot_0 rfl (lv_at hl 0 rfl) ?_
  refine lv_iload_n hx hb dX5_bestSpot_1 rfl (lv_at hl 1 rfl) ?_
  obtain ⟨o2, e1, o2x, hf⟩ := cl_x2_e hf
  refine cr_XVr C hw TT (c_X5_known hlt ht0 e1) cy_X5_known vy_X5_known ml_X5_143 (cl_lt ht0 (by decide)) (cl_e5 ht0) rfl rfl (As := [.int a1]) rfl hl.1 rfl ⟨⟨Nat.le_of_ble_eq_true rfl, Nat.le_of_ble_eq_true rfl⟩, Nat.le_of_ble_eq_true rfl, Nat.le_of_ble_eq_true rfl, Nat.le_of_ble_eq_true rfl⟩ ⟨Nat.le_of_ble_eq_true rfl, Nat.le_of_ble_eq_true rfl⟩ dX5_bestSpot_2 o2x (fun v3 M4 eo2 H locs hw => ?_)
  have hf := hf v3 M4 eo2
  have hv3 := s_X5_known ht0 (e1.trans (congrArg some eo2))
  refine lv_astore_n (lv' := [(2, .ref (b + v3)), (0, .ref (b + t0)), (1, .int a1)]) hx hb dX5_bestSpot_5 rfl hl (by decide) rfl (fun ls hl => ?_)
  refine lv_aload_n hx hb dX5_bestSpot_6 rfl (lv_at hl 0 rfl) ?_
  refine fg_X5_147 C hw hv3 dX5_bestSpot_7 ?_
  refine lv_if_eq (tgt := 15) hx hb dX5_bestSpot_10 (by decide) (fun c5 => ?_) (fun c5 => ?_)
  · have hf := cl_yes c5 hf
    refine lv_aload_n hx hb dX5_bestSpot_15 rfl (lv_at hl 1 rfl) ?_
    refine fg_X5_19 C hw ht0 dX5_bestSpot_16 ?_
    obtain ⟨v6, e7, hf⟩ := cl_bind_e hf
    refine cr_Vi C hw (c_X2_occupied hlt (sh_5_1 ht0).1 e7) cy_X2_occupied vy_X2_occupied ml_X5_131 (cl_lt (sh_5_1 ht0).1 (by decide)) (cl_e2 (sh_5_1 ht0).1) rfl rfl (As := []) rfl hl.1 rfl ⟨⟨Nat.le_of_ble_eq_true rfl, Nat.le_of_ble_eq_true rfl⟩, Nat.le_of_ble_eq_true rfl, Nat.le_of_ble_eq_true rfl, Nat.le_of_ble_eq_true rfl⟩ dX5_bestSpot_19 (fun H locs hw => ?_)
    refine lv_istore_n (lv' := [(3, .int v6), (2, .ref (b + v3)), (0, .ref (b + t0)), (1, .int a1)]) hx hb dX5_bestSpot_22 rfl hl (by decide) rfl (fun ls hl => ?_)
    refine lv_iconst (v := (-1)) hx hb dX5_bestSpot_23 (by decide) ?_
    refine lv_istore (lv' := [(4, .int (-1)), (3, .int v6), (2, .ref (b + v3)), (0, .ref (b + t0)), (1, .int a1)]) hx hb dX5_bestSpot_24 hl (by decide) rfl (fun ls hl => ?_)
    refine lv_iconst (v := 0) hx hb dX5_bestSpot_26 (by decide) ?_
    refine lv_istore (lv' := [(5, .int 0), (4, .int (-1)), (3, .int v6), (2, .ref (b + v3)), (0, .ref (b + t0)), (1, .int a1)]) hx hb dX5_bestSpot_27 hl (by decide) rfl (fun ls hl => ?_)
    refine lv_iconst (v := 0) hx hb dX5_bestSpot_29 (by decide) ?_
    refine lv_istore (lv' := [(6, .int 0), (5, .int 0), (4, .int (-1)), (3, .int v6), (2, .ref (b + v3)), (0, .ref (b + t0)), (1, .int a1)]) hx hb dX5_bestSpot_30 hl (by decide) rfl (fun ls hl => ?_)
    exact k_X5_bestSpot_32 C TT cl_F M4 t0 v3 v6 (-1) 0 0 _ hf _ _ _ ht0 hv3 hw (lv_sub hl [5, 4, 3, 2, 1, 0] rfl)
  · have hf := cl_no c5 hf
    refine lv_iconst (v := (-1)) hx hb dX5_bestSpot_13 (by decide) ?_
    obtain rfl := Option.some.inj hf
    exact cr_xreti C hw dX5_bestSpot_14
set_option maxRecDepth 100000 in
theorem c_X5_bestSpot {l : Launch} {dd : cl_D} {b : Nat} (hlt : l.stackTraces = false) {M : cl_M} {t0 : Nat} {a1 : Int32}  {o : Except (Nat × cl_M) (Int32 × cl_M)} (ht0 : cl_sh dd t0 = 5) (h : f_X5_bestSpot M t0 a1 = some o) : cl_Xi l dd b yX5_bestSpot cX5_bestSpot 8 (some .int) 7 126 1 [.ref (b + t0), .int a1] M o :=
  cl_ofX hlt (by decide) (Nat.le_of_ble_eq_true rfl) (fun p e s m below meth c ls C TT hw hl => k_X5_bestSpot C TT M t0 a1 o h _ _ _ ht0 hw (lv_sub hl [0, 1] rfl))
theorem cy_X5_bestSpot : cl_cy yX5_bestSpot cX5_bestSpot 8 (some .int) 1 := ⟨in_ClothesLine, cd_X5_bestSpot, by decide +kernel, by decide +kernel, by decide +kernel⟩
theorem vy_X5_bestSpot : cl_vy yX5_bestSpot := ⟨im_X5_bestSpot, se_X5_bestSpot⟩
def f_X5_requireState (M : cl_M) (a0 : Int32) : Option (Except (Nat × cl_M) (cl_M)) := if a0 = 0 then some (.error (3, M)) else some (.ok M)
set_option maxHeartbeats 4000000 in
set_option maxRecDepth 100000 in
theorem k_X5_requireState {p : Program} {l : Launch} {e : Env} {s : State} {m : MethodId} {args : Array Value} {below : List Frame} {meth : Method} {c : Code} {dd : cl_D} {b : Nat} (C : cl_C p l s m args meth c cX5_requireState RX5 1 none dd b) (TT : cl_T c) : ∀ (M : cl_M) (a0 : Int32) (o : Except (Nat × cl_M) (cl_M)), f_X5_requireState M a0 = some o → ∀ (H : Heap) (locs : List Loc) (ls : Array Slot), cl_H dd b M s H locs → lv_has ls 1 [(0, .int a0)] → W p l e { frames := 6, cells := 1, slots := 6, locals := 90 } s m args below meth c H locs 0 0 (cl_Yv below args s dd b o 1) (F0 m 0 ls []) := by
  have hx := C.1
  have hb := C.2.1
  have hlt := C.2.2.2.2.2.2.2.2.2.2
  have hRr := C.2.2.2.2.2.2.2.2.2.1
  intro M a0 o hf H locs ls hw hl
  unfold f_X5_requireState at hf
  refine lv_iload_n hx hb dX5_requireState_0 rfl (lv_at hl 0 rfl) ?_
  refine lv_if_ne (tgt := 15) hx hb dX5_requireState_1 (by decide) (fun c1 => ?_) (fun c1 => ?_)
  · have hf := cl_no c1 hf
    obtain rfl := Option.some.inj hf
    refine W.widen (k := 1) (n := 6) (by decide) (by decide) ?_
    exact cr_xretv C hw dX5_requireState_15
  · have hf := cl_yes c1 hf
    obtain rfl := Option.some.inj hf
    exact cr_throwW C hw TT (k := 3) rfl (by decide +kernel) cl_X5_327 in_java_lang_IllegalStateException tw_RX5_331 (sr_26 hRr) hl.1 ⟨Nat.le_of_ble_eq_true rfl, Nat.le_of_ble_eq_true rfl, Nat.le_of_ble_eq_true rfl, Nat.le_of_ble_eq_true rfl⟩ ⟨Nat.le_of_ble_eq_true rfl, Nat.le_of_ble_eq_true rfl⟩ dX5_requireState_4 dX5_requireState_7 dX5_requireState_8 dX5_requireState_11 dX5_requireState_14
set_option maxRecDepth 100000 in
theorem c_X5_requireState {l : Launch} {dd : cl_D} {b : Nat} (hlt : l.stackTraces = false) {M : cl_M} {a0 : Int32}  {o : Except (Nat × cl_M) (cl_M)} (h : f_X5_requireState M a0 = some o) : cl_Xv l dd b yX5_requireState cX5_requireState 1 none 6 90 1 [.int a0] M o :=
  cl_ofX hlt (by decide) (Nat.le_of_ble_eq_true rfl) (fun p e s m below meth c ls C TT hw hl => k_X5_requireState C TT M a0 o h _ _ _ hw (lv_sub hl [0] rfl))
theorem cy_X5_requireState : cl_cy yX5_requireState cX5_requireState 1 none 1 := ⟨in_ClothesLine, cd_X5_requireState, by decide +kernel, by decide +kernel, by decide +kernel⟩
def f_X5_addGarment_46 (M : cl_M) (t0 : Nat) (a1 : Int32) (a2 : Int32) (a3 : Int32) (a4 : Int32) (z0 : Int32) : Option (Except (Nat × cl_M) (Int32 × cl_M)) := cl_x1 (f_X5_requireState M z0) (fun M21 => (f_X1_record M21 (t0 + 42) (t0 + 4)).bind (fun M22 => (f_X2_append M22 (t0 + 4) a1 a2 a3 a4).bind (fun M24 => some (.ok ((M24 (t0 + 4) 3) - 1, M24)))))
set_option maxHeartbeats 4000000 in
set_option maxRecDepth 100000 in
theorem k_X5_addGarment_46 {p : Program} {l : Launch} {e : Env} {s : State} {m : MethodId} {args : Array Value} {below : List Frame} {meth : Method} {c : Code} {dd : cl_D} {b : Nat} (C : cl_C p l s m args meth c cX5_addGarment RX5 5 (some .int) dd b) (TT : cl_T c) : ∀ (M : cl_M) (t0 : Nat) (a1 : Int32) (a2 : Int32) (a3 : Int32) (a4 : Int32) (z0 : Int32) (o : Except (Nat × cl_M) (Int32 × cl_M)), f_X5_addGarment_46 M t0 a1 a2 a3 a4 z0 = some o → ∀ (H : Heap) (locs : List Loc) (ls : Array Slot), cl_sh dd t0 = 5 → cl_H dd b M s H locs → lv_has ls 5 [(0, .ref (b + t0)), (1, .int a1), (2, .int a2), (3, .int a3), (4, .int a4)] → W p l e { frames := 7, cells := 5, slots := 30, locals := 124 } s m args below meth c H locs 4 24 (cl_Yi below args s dd b o 5) (F0 m 46 ls [.int z0]) := by
  have hx := C.1
  have hb := C.2.1
  have hlt := C.2.2.2.2.2.2.2.2.2.2
  have hRr := C.2.2.2.2.2.2.2.2.2.1
  intro M t0 a1 a2 a3 a4 z0 o hf H locs ls ht0 hw hl
  unfold f_X5_addGarment_46 at hf
  obtain ⟨o19, e18, o19x, hf⟩ := cl_x1_e hf
  refine cr_XSv C hw TT (c_X5_requireState hlt e18) cy_X5_requireState st_X5_requireState ml_X5_258 (As := [.int z0]) rfl hl.1 rfl ⟨⟨Nat.le_of_ble_eq_true rfl, Nat.le_of_ble_eq_true rfl⟩, Nat.le_of_ble_eq_true rfl, Nat.le_of_ble_eq_true rfl, Nat.le_of_ble_eq_true rfl⟩ ⟨Nat.le_of_ble_eq_true rfl, Nat.le_of_ble_eq_true rfl⟩ dX5_addGarment_46 o19x (fun M21 eo19 H locs hw => ?_)
  have hf := hf M21 eo19
  refine lv_aload_n hx hb dX5_addGarment_49 rfl (lv_at hl 0 rfl) ?_
  refine fg_X5_29 C hw ht0 dX5_addGarment_50 ?_
  refine lv_aload_n hx hb dX5_addGarment_53 rfl (lv_at hl 0 rfl) ?_
  refine fg_X5_19 C hw ht0 dX5_addGarment_54 ?_
  obtain ⟨M22, e23, hf⟩ := cl_bind_e hf
  refine cr_Vv C hw (c_X1_record hlt (sh_5_3 ht0).1 (sh_5_1 ht0).1 e23) cy_X1_record vy_X1_record ml_X5_78 (cl_lt (sh_5_3 ht0).1 (by decide)) (cl_e1 (sh_5_3 ht0).1) rfl rfl (As := [.ref (b + (t0 + 4))]) rfl hl.1 rfl ⟨⟨Nat.le_of_ble_eq_true rfl, Nat.le_of_ble_eq_true rfl⟩, Nat.le_of_ble_eq_true rfl, Nat.le_of_ble_eq_true rfl, Nat.le_of_ble_eq_true rfl⟩ dX5_addGarment_57 (fun H locs hw => ?_)
  refine lv_aload_n hx hb dX5_addGarment_60 rfl (lv_at hl 0 rfl) ?_
  refine fg_X5_19 C hw ht0 dX5_addGarment_61 ?_
  refine lv_iload_n hx hb dX5_addGarment_64 rfl (lv_at hl 1 rfl) ?_
  refine lv_iload_n hx hb dX5_addGarment_65 rfl (lv_at hl 2 rfl) ?_
  refine lv_iload_n hx hb dX5_addGarment_66 rfl (lv_at hl 3 rfl) ?_
  refine lv_iload hx hb dX5_addGarment_67 (lv_at hl 4 rfl) ?_
  obtain ⟨M24, e25, hf⟩ := cl_bind_e hf
  refine cr_Vv C hw (c_X2_append hlt (sh_5_1 ht0).1 e25) cy_X2_append vy_X2_append ml_X5_262 (cl_lt (sh_5_1 ht0).1 (by decide)) (cl_e2 (sh_5_1 ht0).1) rfl rfl (As := [.int a1, .int a2, .int a3, .int a4]) rfl hl.1 rfl ⟨⟨Nat.le_of_ble_eq_true rfl, Nat.le_of_ble_eq_true rfl⟩, Nat.le_of_ble_eq_true rfl, Nat.le_of_ble_eq_true rfl, Nat.le_of_ble_eq_true rfl⟩ dX5_addGarment_69 (fun H locs hw => ?_)
  refine lv_aload_n hx hb dX5_addGarment_72 rfl (lv_at hl 0 rfl) ?_
  refine fg_X5_19 C hw ht0 dX5_addGarment_73 ?_
  refine fg_X5_71 C hw (sh_5_1 ht0).1 dX5_addGarment_76 ?_
  refine lv_iconst (v := 1) hx hb dX5_addGarment_79 (by decide) ?_
  refine lv_isub hx hb dX5_addGarment_80 ?_
  obtain rfl := Option.some.inj hf
  exact cr_xreti C hw dX5_addGarment_81
def f_X5_addGarment (M : cl_M) (t0 : Nat) (a1 : Int32) (a2 : Int32) (a3 : Int32) (a4 : Int32) : Option (Except (Nat × cl_M) (Int32 × cl_M)) := cl_x1 (f_X5_requireRange M a1 1 6) (fun M4 => cl_x1 (f_X5_requireRange M4 a2 1 99) (fun M8 => cl_x1 (f_X5_requireRange M8 a3 1 999) (fun M12 => cl_x1 (f_X5_requireRange M12 a4 0 a3) (fun M16 => if 10 ≤ (M16 (t0 + 4) 3) then f_X5_addGarment_46 M16 t0 a1 a2 a3 a4 0 else f_X5_addGarment_46 M16 t0 a1 a2 a3 a4 1))))
set_option maxHeartbeats 4000000 in
set_option maxRecDepth 100000 in
theorem k_X5_addGarment {p : Program} {l : Launch} {e : Env} {s : State} {m : MethodId} {args : Array Value} {below : List Frame} {meth : Method} {c : Code} {dd : cl_D} {b : Nat} (C : cl_C p l s m args meth c cX5_addGarment RX5 5 (some .int) dd b) (TT : cl_T c) : ∀ (M : cl_M) (t0 : Nat) (a1 : Int32) (a2 : Int32) (a3 : Int32) (a4 : Int32) (o : Except (Nat × cl_M) (Int32 × cl_M)), f_X5_addGarment M t0 a1 a2 a3 a4 = some o → ∀ (H : Heap) (locs : List Loc) (ls : Array Slot), cl_sh dd t0 = 5 → cl_H dd b M s H locs → lv_has ls 5 [(0, .ref (b + t0)), (1, .int a1), (2, .int a2), (3, .int a3), (4, .int a4)] → W p l e { frames := 7, cells := 5, slots := 30, locals := 124 } s m args below meth c H locs 0 0 (cl_Yi below args s dd b o 5) (F0 m 0 ls []) := by
  have hx := C.1
  have hb := C.2.1
  have hlt := C.2.2.2.2.2.2.2.2.2.2
  have hRr := C.2.2.2.2.2.2.2.2.2.1
  intro M t0 a1 a2 a3 a4 o hf H locs ls ht0 hw hl
  unfold f_X5_addGarment at hf
  refine lv_iload_n hx hb dX5_addGarment_0 rfl (lv_at hl 1 rfl) ?_
  refine lv_iconst (v := 1) hx hb dX5_addGarment_1 (by decide) ?_
  refine lv_bipush (v := 6) hx hb dX5_addGarment_2 (by decide) ?_
  obtain ⟨o2, e1, o2x, hf⟩ := cl_x1_e hf
  refine cr_XSv C hw TT (c_X5_requireRange hlt e1) cy_X5_requireRange st_X5_requireRange ml_X5_103 (As := [.int a1, .int 1, .int 6]) rfl hl.1 rfl ⟨⟨Nat.le_of_ble_eq_true rfl, Nat.le_of_ble_eq_true rfl⟩, Nat.le_of_ble_eq_true rfl, Nat.le_of_ble_eq_true rfl, Nat.le_of_ble_eq_true rfl⟩ ⟨Nat.le_of_ble_eq_true rfl, Nat.le_of_ble_eq_true rfl⟩ dX5_addGarment_4 o2x (fun M4 eo2 H locs hw => ?_)
  have hf := hf M4 eo2
  refine lv_iload_n hx hb dX5_addGarment_7 rfl (lv_at hl 2 rfl) ?_
  refine lv_iconst (v := 1) hx hb dX5_addGarment_8 (by decide) ?_
  refine lv_bipush (v := 99) hx hb dX5_addGarment_9 (by decide) ?_
  obtain ⟨o6, e5, o6x, hf⟩ := cl_x1_e hf
  refine cr_XSv C hw TT (c_X5_requireRange hlt e5) cy_X5_requireRange st_X5_requireRange ml_X5_103 (As := [.int a2, .int 1, .int 99]) rfl hl.1 rfl ⟨⟨Nat.le_of_ble_eq_true rfl, Nat.le_of_ble_eq_true rfl⟩, Nat.le_of_ble_eq_true rfl, Nat.le_of_ble_eq_true rfl, Nat.le_of_ble_eq_true rfl⟩ ⟨Nat.le_of_ble_eq_true rfl, Nat.le_of_ble_eq_true rfl⟩ dX5_addGarment_11 o6x (fun M8 eo6 H locs hw => ?_)
  have hf := hf M8 eo6
  refine lv_iload_n hx hb dX5_addGarment_14 rfl (lv_at hl 3 rfl) ?_
  refine lv_iconst (v := 1) hx hb dX5_addGarment_15 (by decide) ?_
  refine lv_sipush (v := 999) hx hb dX5_addGarment_16 (by decide) ?_
  obtain ⟨o10, e9, o10x, hf⟩ := cl_x1_e hf
  refine cr_XSv C hw TT (c_X5_requireRange hlt e9) cy_X5_requireRange st_X5_requireRange ml_X5_103 (As := [.int a3, .int 1, .int 999]) rfl hl.1 rfl ⟨⟨Nat.le_of_ble_eq_true rfl, Nat.le_of_ble_eq_true rfl⟩, Nat.le_of_ble_eq_true rfl, Nat.le_of_ble_eq_true rfl, Nat.le_of_ble_eq_true rfl⟩ ⟨Nat.le_of_ble_eq_true rfl, Nat.le_of_ble_eq_true rfl⟩ dX5_addGarment_19 o10x (fun M12 eo10 H locs hw => ?_)
  have hf := hf M12 eo10
  refine lv_iload hx hb dX5_addGarment_22 (lv_at hl 4 rfl) ?_
  refine lv_iconst (v := 0) hx hb dX5_addGarment_24 (by decide) ?_
  refine lv_iload_n hx hb dX5_addGarment_25 rfl (lv_at hl 3 rfl) ?_
  obtain ⟨o14, e13, o14x, hf⟩ := cl_x1_e hf
  refine cr_XSv C hw TT (c_X5_requireRange hlt e13) cy_X5_requireRange st_X5_requireRange ml_X5_103 (As := [.int a4, .int 0, .int a3]) rfl hl.1 rfl ⟨⟨Nat.le_of_ble_eq_true rfl, Nat.le_of_ble_eq_true rfl⟩, Nat.le_of_ble_eq_true rfl, Nat.le_of_ble_eq_true rfl, Nat.le_of_ble_eq_true rfl⟩ ⟨Nat.le_of_ble_eq_true rfl, Nat.le_of_ble_eq_true rfl⟩ dX5_addGarment_26 o14x (fun M16 eo14 H locs hw => ?_)
  have hf := hf M16 eo14
  refine lv_aload_n hx hb dX5_addGarment_29 rfl (lv_at hl 0 rfl) ?_
  refine fg_X5_19 C hw ht0 dX5_addGarment_30 ?_
  refine fg_X5_71 C hw (sh_5_1 ht0).1 dX5_addGarment_33 ?_
  refine lv_bipush (v := 10) hx hb dX5_addGarment_36 (by decide) ?_
  refine lv_icmp_ge (tgt := 45) hx hb dX5_addGarment_38 (by decide) (fun c17 => ?_) (fun c17 => ?_)
  · have hf := cl_yes c17 hf
    refine lv_iconst (v := 0) hx hb dX5_addGarment_45 (by decide) ?_
    exact k_X5_addGarment_46 C TT M16 t0 a1 a2 a3 a4 0 _ hf _ _ _ ht0 hw (lv_sub hl [0, 1, 2, 3, 4] rfl)
  · have hf := cl_no c17 hf
    refine lv_iconst (v := 1) hx hb dX5_addGarment_41 (by decide) ?_
    refine lv_goto (tgt := 46) hx hb dX5_addGarment_42 (by decide) ?_
    exact k_X5_addGarment_46 C TT M16 t0 a1 a2 a3 a4 1 _ hf _ _ _ ht0 hw (lv_sub hl [0, 1, 2, 3, 4] rfl)
set_option maxRecDepth 100000 in
theorem c_X5_addGarment {l : Launch} {dd : cl_D} {b : Nat} (hlt : l.stackTraces = false) {M : cl_M} {t0 : Nat} {a1 : Int32} {a2 : Int32} {a3 : Int32} {a4 : Int32}  {o : Except (Nat × cl_M) (Int32 × cl_M)} (ht0 : cl_sh dd t0 = 5) (h : f_X5_addGarment M t0 a1 a2 a3 a4 = some o) : cl_Xi l dd b yX5_addGarment cX5_addGarment 5 (some .int) 7 124 5 [.ref (b + t0), .int a1, .int a2, .int a3, .int a4] M o :=
  cl_ofX hlt (by decide) (Nat.le_of_ble_eq_true rfl) (fun p e s m below meth c ls C TT hw hl => k_X5_addGarment C TT M t0 a1 a2 a3 a4 o h _ _ _ ht0 hw (lv_sub hl [0, 1, 2, 3, 4] rfl))
theorem cy_X5_addGarment : cl_cy yX5_addGarment cX5_addGarment 5 (some .int) 4 := ⟨in_ClothesLine, cd_X5_addGarment, by decide +kernel, by decide +kernel, by decide +kernel⟩
theorem vy_X5_addGarment : cl_vy yX5_addGarment := ⟨im_X5_addGarment, se_X5_addGarment⟩
def f_X5_hang_17 (M : cl_M) (t0 : Nat) (a1 : Int32) (a2 : Int32) (a3 : Int32) (a4 : Int32) (z0 : Int32) : Option (Except (Nat × cl_M) (Int32 × cl_M)) := cl_x1 (f_X5_requireState M z0) (fun M9 => (f_X1_record M9 (t0 + 42) (t0 + 4)).bind (fun M10 => cl_x2 (f_X5_known M10 t0 a1) (fun v14 M15 => (f_X0_hangUp M15 v14 a2 a3 a4).bind (fun M16 => (f_X0_hold M16 v14).bind (fun v18 => some (.ok (v18, M16)))))))
set_option maxHeartbeats 4000000 in
set_option maxRecDepth 100000 in
theorem k_X5_hang_17 {p : Program} {l : Launch} {e : Env} {s : State} {m : MethodId} {args : Array Value} {below : List Frame} {meth : Method} {c : Code} {dd : cl_D} {b : Nat} (C : cl_C p l s m args meth c cX5_hang RX5 6 (some .int) dd b) (TT : cl_T c) : ∀ (M : cl_M) (t0 : Nat) (a1 : Int32) (a2 : Int32) (a3 : Int32) (a4 : Int32) (z0 : Int32) (o : Except (Nat × cl_M) (Int32 × cl_M)), f_X5_hang_17 M t0 a1 a2 a3 a4 z0 = some o → ∀ (H : Heap) (locs : List Loc) (ls : Array Slot), cl_sh dd t0 = 5 → cl_H dd b M s H locs → lv_has ls 6 [(0, .ref (b + t0)), (1, .int a1), (2, .int a2), (3, .int a3), (4, .int a4)] → W p l e { frames := 8, cells := 6, slots := 36, locals := 137 } s m args below meth c H locs 4 24 (cl_Yi below args s dd b o 6) (F0 m 17 ls [.int z0]) := by
  have hx := C.1
  have hb := C.2.1
  have hlt := C.2.2.2.2.2.2.2.2.2.2
  have hRr := C.2.2.2.2.2.2.2.2.2.1
  intro M t0 a1 a2 a3 a4 z0 o hf H locs ls ht0 hw hl
  unfold f_X5_hang_17 at hf
  obtain ⟨o7, e6, o7x, hf⟩ := cl_x1_e hf
  refine cr_XSv C hw TT (c_X5_requireState hlt e6) cy_X5_requireState st_X5_requireState ml_X5_258 (As := [.int z0]) rfl hl.1 rfl ⟨⟨Nat.le_of_ble_eq_true rfl, Nat.le_of_ble_eq_true rfl⟩, Nat.le_of_ble_eq_true rfl, Nat.le_of_ble_eq_true rfl, Nat.le_of_ble_eq_true rfl⟩ ⟨Nat.le_of_ble_eq_true rfl, Nat.le_of_ble_eq_true rfl⟩ dX5_hang_17 o7x (fun M9 eo7 H locs hw => ?_)
  have hf := hf M9 eo7
  refine lv_aload_n hx hb dX5_hang_20 rfl (lv_at hl 0 rfl) ?_
  refine fg_X5_29 C hw ht0 dX5_hang_21 ?_
  refine lv_aload_n hx hb dX5_hang_24 rfl (lv_at hl 0 rfl) ?_
  refine fg_X5_19 C hw ht0 dX5_hang_25 ?_
  obtain ⟨M10, e11, hf⟩ := cl_bind_e hf
  refine cr_Vv C hw (c_X1_record hlt (sh_5_3 ht0).1 (sh_5_1 ht0).1 e11) cy_X1_record vy_X1_record ml_X5_78 (cl_lt (sh_5_3 ht0).1 (by decide)) (cl_e1 (sh_5_3 ht0).1) rfl rfl (As := [.ref (b + (t0 + 4))]) rfl hl.1 rfl ⟨⟨Nat.le_of_ble_eq_true rfl, Nat.le_of_ble_eq_true rfl⟩, Nat.le_of_ble_eq_true rfl, Nat.le_of_ble_eq_true rfl, Nat.le_of_ble_eq_true rfl⟩ dX5_hang_28 (fun H locs hw => ?_)
  refine lv_aload_n hx hb dX5_hang_31 rfl (lv_at hl 0 rfl) ?_
  refine lv_iload_n hx hb dX5_hang_32 rfl (lv_at hl 1 rfl) ?_
  obtain ⟨o13, e12, o13x, hf⟩ := cl_x2_e hf
  refine cr_XVr C hw TT (c_X5_known hlt ht0 e12) cy_X5_known vy_X5_known ml_X5_143 (cl_lt ht0 (by decide)) (cl_e5 ht0) rfl rfl (As := [.int a1]) rfl hl.1 rfl ⟨⟨Nat.le_of_ble_eq_true rfl, Nat.le_of_ble_eq_true rfl⟩, Nat.le_of_ble_eq_true rfl, Nat.le_of_ble_eq_true rfl, Nat.le_of_ble_eq_true rfl⟩ ⟨Nat.le_of_ble_eq_true rfl, Nat.le_of_ble_eq_true rfl⟩ dX5_hang_33 o13x (fun v14 M15 eo13 H locs hw => ?_)
  have hf := hf v14 M15 eo13
  have hv14 := s_X5_known ht0 (e12.trans (congrArg some eo13))
  refine lv_astore (lv' := [(5, .ref (b + v14)), (0, .ref (b + t0)), (1, .int a1), (2, .int a2), (3, .int a3), (4, .int a4)]) hx hb dX5_hang_36 hl (by decide) rfl (fun ls hl => ?_)
  refine lv_aload hx hb dX5_hang_38 (lv_at hl 0 rfl) ?_
  refine lv_iload_n hx hb dX5_hang_40 rfl (lv_at hl 3 rfl) ?_
  refine lv_iload_n hx hb dX5_hang_41 rfl (lv_at hl 4 rfl) ?_
  refine lv_iload hx hb dX5_hang_42 (lv_at hl 5 rfl) ?_
  obtain ⟨M16, e17, hf⟩ := cl_bind_e hf
  refine cr_Vv C hw (c_X0_hangUp hlt hv14 e17) cy_X0_hangUp vy_X0_hangUp ml_X5_269 (cl_lt hv14 (by decide)) (cl_e0 hv14) rfl rfl (As := [.int a2, .int a3, .int a4]) rfl hl.1 rfl ⟨⟨Nat.le_of_ble_eq_true rfl, Nat.le_of_ble_eq_true rfl⟩, Nat.le_of_ble_eq_true rfl, Nat.le_of_ble_eq_true rfl, Nat.le_of_ble_eq_true rfl⟩ dX5_hang_44 (fun H locs hw => ?_)
  refine lv_aload hx hb dX5_hang_47 (lv_at hl 0 rfl) ?_
  obtain ⟨v18, e19, hf⟩ := cl_bind_e hf
  refine cr_Vi C hw (c_X0_hold hlt hv14 e19) cy_X0_hold vy_X0_hold ml_X5_179 (cl_lt hv14 (by decide)) (cl_e0 hv14) rfl rfl (As := []) rfl hl.1 rfl ⟨⟨Nat.le_of_ble_eq_true rfl, Nat.le_of_ble_eq_true rfl⟩, Nat.le_of_ble_eq_true rfl, Nat.le_of_ble_eq_true rfl, Nat.le_of_ble_eq_true rfl⟩ dX5_hang_49 (fun H locs hw => ?_)
  obtain rfl := Option.some.inj hf
  exact cr_xreti C hw dX5_hang_52
def f_X5_hang (M : cl_M) (t0 : Nat) (a1 : Int32) (a2 : Int32) (a3 : Int32) (a4 : Int32) : Option (Except (Nat × cl_M) (Int32 × cl_M)) := cl_x2 (f_X5_hangObstacle M t0 a1 a2 a3 a4) (fun v3 M4 => if v3 = 0 then f_X5_hang_17 M4 t0 a1 a2 a3 a4 1 else f_X5_hang_17 M4 t0 a1 a2 a3 a4 0)
set_option maxHeartbeats 4000000 in
set_option maxRecDepth 100000 in
theorem k_X5_hang {p : Program} {l : Launch} {e : Env} {s : State} {m : MethodId} {args : Array Value} {below : List Frame} {meth : Method} {c : Code} {dd : cl_D} {b : Nat} (C : cl_C p l s m args meth c cX5_hang RX5 6 (some .int) dd b) (TT : cl_T c) : ∀ (M : cl_M) (t0 : Nat) (a1 : Int32) (a2 : Int32) (a3 : Int32) (a4 : Int32) (o : Except (Nat × cl_M) (Int32 × cl_M)), f_X5_hang M t0 a1 a2 a3 a4 = some o → ∀ (H : Heap) (locs : List Loc) (ls : Array Slot), cl_sh dd t0 = 5 → cl_H dd b M s H locs → lv_has ls 6 [(0, .ref (b + t0)), (1, .int a1), (2, .int a2), (3, .int a3), (4, .int a4)] → W p l e { frames := 8, cells := 6, slots := 36, locals := 137 } s m args below meth c H locs 0 0 (cl_Yi below args s dd b o 6) (F0 m 0 ls []) := by
  have hx := C.1
  have hb := C.2.1
  have hlt := C.2.2.2.2.2.2.2.2.2.2
  have hRr := C.2.2.2.2.2.2.2.2.2.1
  intro M t0 a1 a2 a3 a4 o hf H locs ls ht0 hw hl
  unfold f_X5_hang at hf
  refine lv_aload_n hx hb dX5_hang_0 rfl (lv_at hl 0 rfl) ?_
  refine lv_iload_n hx hb dX5_hang_1 rfl (lv_at hl 1 rfl) ?_
  refine lv_iload_n hx hb dX5_hang_2 rfl (lv_at hl 2 rfl) ?_
  refine lv_iload_n hx hb dX5_hang_3 rfl (lv_at hl 3 rfl) ?_
  refine lv_iload hx hb dX5_hang_4 (lv_at hl 4 rfl) ?_
  obtain ⟨o2, e1, o2x, hf⟩ := cl_x2_e hf
  refine cr_XVi C hw TT (c_X5_hangObstacle hlt ht0 e1) cy_X5_hangObstacle vy_X5_hangObstacle ml_X5_265 (cl_lt ht0 (by decide)) (cl_e5 ht0) rfl rfl (As := [.int a1, .int a2, .int a3, .int a4]) rfl hl.1 rfl ⟨⟨Nat.le_of_ble_eq_true rfl, Nat.le_of_ble_eq_true rfl⟩, Nat.le_of_ble_eq_true rfl, Nat.le_of_ble_eq_true rfl, Nat.le_of_ble_eq_true rfl⟩ ⟨Nat.le_of_ble_eq_true rfl, Nat.le_of_ble_eq_true rfl⟩ dX5_hang_6 o2x (fun v3 M4 eo2 H locs hw => ?_)
  have hf := hf v3 M4 eo2
  refine lv_if_ne (tgt := 16) hx hb dX5_hang_9 (by decide) (fun c5 => ?_) (fun c5 => ?_)
  · have hf := cl_no c5 hf
    refine lv_iconst (v := 0) hx hb dX5_hang_16 (by decide) ?_
    exact k_X5_hang_17 C TT M4 t0 a1 a2 a3 a4 0 _ hf _ _ _ ht0 hw (lv_sub hl [0, 1, 2, 3, 4] rfl)
  · have hf := cl_yes c5 hf
    refine lv_iconst (v := 1) hx hb dX5_hang_12 (by decide) ?_
    refine lv_goto (tgt := 17) hx hb dX5_hang_13 (by decide) ?_
    exact k_X5_hang_17 C TT M4 t0 a1 a2 a3 a4 1 _ hf _ _ _ ht0 hw (lv_sub hl [0, 1, 2, 3, 4] rfl)
set_option maxRecDepth 100000 in
theorem c_X5_hang {l : Launch} {dd : cl_D} {b : Nat} (hlt : l.stackTraces = false) {M : cl_M} {t0 : Nat} {a1 : Int32} {a2 : Int32} {a3 : Int32} {a4 : Int32}  {o : Except (Nat × cl_M) (Int32 × cl_M)} (ht0 : cl_sh dd t0 = 5) (h : f_X5_hang M t0 a1 a2 a3 a4 = some o) : cl_Xi l dd b yX5_hang cX5_hang 6 (some .int) 8 137 6 [.ref (b + t0), .int a1, .int a2, .int a3, .int a4] M o :=
  cl_ofX hlt (by decide) (Nat.le_of_ble_eq_true rfl) (fun p e s m below meth c ls C TT hw hl => k_X5_hang C TT M t0 a1 a2 a3 a4 o h _ _ _ ht0 hw (lv_sub hl [0, 1, 2, 3, 4] rfl))
theorem cy_X5_hang : cl_cy yX5_hang cX5_hang 6 (some .int) 4 := ⟨in_ClothesLine, cd_X5_hang, by decide +kernel, by decide +kernel, by decide +kernel⟩
theorem vy_X5_hang : cl_vy yX5_hang := ⟨im_X5_hang, se_X5_hang⟩
def f_X5_takeDown_19 (M : cl_M) (t0 : Nat) (t2 : Nat) (z0 : Int32) : Option (Except (Nat × cl_M) (Int32 × cl_M)) := cl_x1 (f_X5_requireState M z0) (fun M9 => (f_X1_record M9 (t0 + 42) (t0 + 4)).bind (fun M10 => (f_X0_putInto M10 t2 0).bind (fun M12 => some (.ok (M12 t2 3, M12)))))
set_option maxHeartbeats 4000000 in
set_option maxRecDepth 100000 in
theorem k_X5_takeDown_19 {p : Program} {l : Launch} {e : Env} {s : State} {m : MethodId} {args : Array Value} {below : List Frame} {meth : Method} {c : Code} {dd : cl_D} {b : Nat} (C : cl_C p l s m args meth c cX5_takeDown RX5 3 (some .int) dd b) (TT : cl_T c) : ∀ (M : cl_M) (t0 : Nat) (t2 : Nat) (z0 : Int32) (o : Except (Nat × cl_M) (Int32 × cl_M)), f_X5_takeDown_19 M t0 t2 z0 = some o → ∀ (H : Heap) (locs : List Loc) (ls : Array Slot), cl_sh dd t0 = 5 → cl_sh dd t2 = 0 → cl_H dd b M s H locs → lv_has ls 3 [(0, .ref (b + t0)), (2, .ref (b + t2))] → W p l e { frames := 7, cells := 2, slots := 12, locals := 124 } s m args below meth c H locs 1 6 (cl_Yi below args s dd b o 2) (F0 m 19 ls [.int z0]) := by
  have hx := C.1
  have hb := C.2.1
  have hlt := C.2.2.2.2.2.2.2.2.2.2
  have hRr := C.2.2.2.2.2.2.2.2.2.1
  intro M t0 t2 z0 o hf H locs ls ht0 ht2 hw hl
  unfold f_X5_takeDown_19 at hf
  obtain ⟨o7, e6, o7x, hf⟩ := cl_x1_e hf
  refine cr_XSv C hw TT (c_X5_requireState hlt e6) cy_X5_requireState st_X5_requireState ml_X5_258 (As := [.int z0]) rfl hl.1 rfl ⟨⟨Nat.le_of_ble_eq_true rfl, Nat.le_of_ble_eq_true rfl⟩, Nat.le_of_ble_eq_true rfl, Nat.le_of_ble_eq_true rfl, Nat.le_of_ble_eq_true rfl⟩ ⟨Nat.le_of_ble_eq_true rfl, Nat.le_of_ble_eq_true rfl⟩ dX5_takeDown_19 o7x (fun M9 eo7 H locs hw => ?_)
  have hf := hf M9 eo7
  refine lv_aload_n hx hb dX5_takeDown_22 rfl (lv_at hl 0 rfl) ?_
  refine fg_X5_29 C hw ht0 dX5_takeDown_23 ?_
  refine lv_aload_n hx hb dX5_takeDown_26 rfl (lv_at hl 0 rfl) ?_
  refine fg_X5_19 C hw ht0 dX5_takeDown_27 ?_
  obtain ⟨M10, e11, hf⟩ := cl_bind_e hf
  refine cr_Vv C hw (c_X1_record hlt (sh_5_3 ht0).1 (sh_5_1 ht0).1 e11) cy_X1_record vy_X1_record ml_X5_78 (cl_lt (sh_5_3 ht0).1 (by decide)) (cl_e1 (sh_5_3 ht0).1) rfl rfl (As := [.ref (b + (t0 + 4))]) rfl hl.1 rfl ⟨⟨Nat.le_of_ble_eq_true rfl, Nat.le_of_ble_eq_true rfl⟩, Nat.le_of_ble_eq_true rfl, Nat.le_of_ble_eq_true rfl, Nat.le_of_ble_eq_true rfl⟩ dX5_takeDown_30 (fun H locs hw => ?_)
  refine lv_aload_n hx hb dX5_takeDown_33 rfl (lv_at hl 1 rfl) ?_
  refine lv_iconst (v := 0) hx hb dX5_takeDown_34 (by decide) ?_
  obtain ⟨M12, e13, hf⟩ := cl_bind_e hf
  refine cr_Vv C hw (c_X0_putInto hlt ht2 e13) cy_X0_putInto vy_X0_putInto ml_X5_272 (cl_lt ht2 (by decide)) (cl_e0 ht2) rfl rfl (As := [.int 0]) rfl hl.1 rfl ⟨⟨Nat.le_of_ble_eq_true rfl, Nat.le_of_ble_eq_true rfl⟩, Nat.le_of_ble_eq_true rfl, Nat.le_of_ble_eq_true rfl, Nat.le_of_ble_eq_true rfl⟩ dX5_takeDown_35 (fun H locs hw => ?_)
  refine lv_aload_n hx hb dX5_takeDown_38 rfl (lv_at hl 1 rfl) ?_
  refine fg_X5_161 C hw ht2 dX5_takeDown_39 ?_
  obtain rfl := Option.some.inj hf
  exact cr_xreti C hw dX5_takeDown_42
def f_X5_takeDown (M : cl_M) (t0 : Nat) (a1 : Int32) : Option (Except (Nat × cl_M) (Int32 × cl_M)) := cl_x2 (f_X5_known M t0 a1) (fun v3 M4 => if (M4 v3 6) = 1 then f_X5_takeDown_19 M4 t0 v3 1 else f_X5_takeDown_19 M4 t0 v3 0)
set_option maxHeartbeats 4000000 in
set_option maxRecDepth 100000 in
theorem k_X5_takeDown {p : Program} {l : Launch} {e : Env} {s : State} {m : MethodId} {args : Array Value} {below : List Frame} {meth : Method} {c : Code} {dd : cl_D} {b : Nat} (C : cl_C p l s m args meth c cX5_takeDown RX5 3 (some .int) dd b) (TT : cl_T c) : ∀ (M : cl_M) (t0 : Nat) (a1 : Int32) (o : Except (Nat × cl_M) (Int32 × cl_M)), f_X5_takeDown M t0 a1 = some o → ∀ (H : Heap) (locs : List Loc) (ls : Array Slot), cl_sh dd t0 = 5 → cl_H dd b M s H locs → lv_has ls 3 [(0, .ref (b + t0)), (1, .int a1)] → W p l e { frames := 7, cells := 2, slots := 12, locals := 124 } s m args below meth c H locs 0 0 (cl_Yi below args s dd b o 2) (F0 m 0 ls []) := by
  have hx := C.1
  have hb := C.2.1
  have hlt := C.2.2.2.2.2.2.2.2.2.2
  have hRr := C.2.2.2.2.2.2.2.2.2.1
  intro M t0 a1 o hf H locs ls ht0 hw hl
  unfold f_X5_takeDown at hf
  refine lv_aload_n hx hb dX5_takeDown_0 rfl (lv_at hl 0 rfl) ?_
  refine lv_iload_n hx hb dX5_takeDown_1 rfl (lv_at hl 1 rfl) ?_
  obtain ⟨o2, e1, o2x, hf⟩ := cl_x2_e hf
  refine cr_XVr C hw TT (c_X5_known hlt ht0 e1) cy_X5_known vy_X5_known ml_X5_143 (cl_lt ht0 (by decide)) (cl_e5 ht0) rfl rfl (As := [.int a1]) rfl hl.1 rfl ⟨⟨Nat.le_of_ble_eq_true rfl, Nat.le_of_ble_eq_true rfl⟩, Nat.le_of_ble_eq_true rfl, Nat.le_of_ble_eq_true rfl, Nat.le_of_ble_eq_true rfl⟩ ⟨Nat.le_of_ble_eq_true rfl, Nat.le_of_ble_eq_true rfl⟩ dX5_takeDown_2 o2x (fun v3 M4 eo2 H locs hw => ?_)
  have hf := hf v3 M4 eo2
  have hv3 := s_X5_known ht0 (e1.trans (congrArg some eo2))
  refine lv_astore_n (lv' := [(2, .ref (b + v3)), (0, .ref (b + t0)), (1, .int a1)]) hx hb dX5_takeDown_5 rfl hl (by decide) rfl (fun ls hl => ?_)
  refine lv_aload_n hx hb dX5_takeDown_6 rfl (lv_at hl 0 rfl) ?_
  refine fg_X5_147 C hw hv3 dX5_takeDown_7 ?_
  refine lv_iconst (v := 1) hx hb dX5_takeDown_10 (by decide) ?_
  refine lv_icmp_ne (tgt := 18) hx hb dX5_takeDown_11 (by decide) (fun c5 => ?_) (fun c5 => ?_)
  · have hf := cl_no c5 hf
    refine lv_iconst (v := 0) hx hb dX5_takeDown_18 (by decide) ?_
    exact k_X5_takeDown_19 C TT M4 t0 v3 0 _ hf _ _ _ ht0 hv3 hw (lv_sub hl [1, 0] rfl)
  · have hf := cl_yes c5 hf
    refine lv_iconst (v := 1) hx hb dX5_takeDown_14 (by decide) ?_
    refine lv_goto (tgt := 19) hx hb dX5_takeDown_15 (by decide) ?_
    exact k_X5_takeDown_19 C TT M4 t0 v3 1 _ hf _ _ _ ht0 hv3 hw (lv_sub hl [1, 0] rfl)
set_option maxRecDepth 100000 in
theorem c_X5_takeDown {l : Launch} {dd : cl_D} {b : Nat} (hlt : l.stackTraces = false) {M : cl_M} {t0 : Nat} {a1 : Int32}  {o : Except (Nat × cl_M) (Int32 × cl_M)} (ht0 : cl_sh dd t0 = 5) (h : f_X5_takeDown M t0 a1 = some o) : cl_Xi l dd b yX5_takeDown cX5_takeDown 3 (some .int) 7 124 2 [.ref (b + t0), .int a1] M o :=
  cl_ofX hlt (by decide) (Nat.le_of_ble_eq_true rfl) (fun p e s m below meth c ls C TT hw hl => k_X5_takeDown C TT M t0 a1 o h _ _ _ ht0 hw (lv_sub hl [0, 1] rfl))
theorem cy_X5_takeDown : cl_cy yX5_takeDown cX5_takeDown 3 (some .int) 1 := ⟨in_ClothesLine, cd_X5_takeDown, by decide +kernel, by decide +kernel, by decide +kernel⟩
theorem vy_X5_takeDown : cl_vy yX5_takeDown := ⟨im_X5_takeDown, se_X5_takeDown⟩
def f_X5_pickUp_19 (M : cl_M) (t0 : Nat) (t2 : Nat) (z0 : Int32) : Option (Except (Nat × cl_M) (Int32 × cl_M)) := cl_x1 (f_X5_requireState M z0) (fun M9 => (f_X1_record M9 (t0 + 42) (t0 + 4)).bind (fun M10 => (f_X0_putInto M10 t2 0).bind (fun M12 => (f_X2_setInState M12 (t0 + 4) 2).bind (fun v14 => (f_J6_bitCount_0f7a4 M12 v14).bind (fun v16 => some (.ok (v16, M12)))))))
set_option maxHeartbeats 4000000 in
set_option maxRecDepth 100000 in
theorem k_X5_pickUp_19 {p : Program} {l : Launch} {e : Env} {s : State} {m : MethodId} {args : Array Value} {below : List Frame} {meth : Method} {c : Code} {dd : cl_D} {b : Nat} (C : cl_C p l s m args meth c cX5_pickUp RX5 3 (some .int) dd b) (TT : cl_T c) : ∀ (M : cl_M) (t0 : Nat) (t2 : Nat) (z0 : Int32) (o : Except (Nat × cl_M) (Int32 × cl_M)), f_X5_pickUp_19 M t0 t2 z0 = some o → ∀ (H : Heap) (locs : List Loc) (ls : Array Slot), cl_sh dd t0 = 5 → cl_sh dd t2 = 0 → cl_H dd b M s H locs → lv_has ls 3 [(0, .ref (b + t0)), (2, .ref (b + t2))] → W p l e { frames := 7, cells := 2, slots := 12, locals := 124 } s m args below meth c H locs 1 6 (cl_Yi below args s dd b o 2) (F0 m 19 ls [.int z0]) := by
  have hx := C.1
  have hb := C.2.1
  have hlt := C.2.2.2.2.2.2.2.2.2.2
  have hRr := C.2.2.2.2.2.2.2.2.2.1
  intro M t0 t2 z0 o hf H locs ls ht0 ht2 hw hl
  unfold f_X5_pickUp_19 at hf
  obtain ⟨o7, e6, o7x, hf⟩ := cl_x1_e hf
  refine cr_XSv C hw TT (c_X5_requireState hlt e6) cy_X5_requireState st_X5_requireState ml_X5_258 (As := [.int z0]) rfl hl.1 rfl ⟨⟨Nat.le_of_ble_eq_true rfl, Nat.le_of_ble_eq_true rfl⟩, Nat.le_of_ble_eq_true rfl, Nat.le_of_ble_eq_true rfl, Nat.le_of_ble_eq_true rfl⟩ ⟨Nat.le_of_ble_eq_true rfl, Nat.le_of_ble_eq_true rfl⟩ dX5_pickUp_19 o7x (fun M9 eo7 H locs hw => ?_)
  have hf := hf M9 eo7
  refine lv_aload_n hx hb dX5_pickUp_22 rfl (lv_at hl 0 rfl) ?_
  refine fg_X5_29 C hw ht0 dX5_pickUp_23 ?_
  refine lv_aload_n hx hb dX5_pickUp_26 rfl (lv_at hl 0 rfl) ?_
  refine fg_X5_19 C hw ht0 dX5_pickUp_27 ?_
  obtain ⟨M10, e11, hf⟩ := cl_bind_e hf
  refine cr_Vv C hw (c_X1_record hlt (sh_5_3 ht0).1 (sh_5_1 ht0).1 e11) cy_X1_record vy_X1_record ml_X5_78 (cl_lt (sh_5_3 ht0).1 (by decide)) (cl_e1 (sh_5_3 ht0).1) rfl rfl (As := [.ref (b + (t0 + 4))]) rfl hl.1 rfl ⟨⟨Nat.le_of_ble_eq_true rfl, Nat.le_of_ble_eq_true rfl⟩, Nat.le_of_ble_eq_true rfl, Nat.le_of_ble_eq_true rfl, Nat.le_of_ble_eq_true rfl⟩ dX5_pickUp_30 (fun H locs hw => ?_)
  refine lv_aload_n hx hb dX5_pickUp_33 rfl (lv_at hl 1 rfl) ?_
  refine lv_iconst (v := 0) hx hb dX5_pickUp_34 (by decide) ?_
  obtain ⟨M12, e13, hf⟩ := cl_bind_e hf
  refine cr_Vv C hw (c_X0_putInto hlt ht2 e13) cy_X0_putInto vy_X0_putInto ml_X5_272 (cl_lt ht2 (by decide)) (cl_e0 ht2) rfl rfl (As := [.int 0]) rfl hl.1 rfl ⟨⟨Nat.le_of_ble_eq_true rfl, Nat.le_of_ble_eq_true rfl⟩, Nat.le_of_ble_eq_true rfl, Nat.le_of_ble_eq_true rfl, Nat.le_of_ble_eq_true rfl⟩ dX5_pickUp_35 (fun H locs hw => ?_)
  refine lv_aload_n hx hb dX5_pickUp_38 rfl (lv_at hl 0 rfl) ?_
  refine fg_X5_19 C hw ht0 dX5_pickUp_39 ?_
  refine lv_iconst (v := 2) hx hb dX5_pickUp_42 (by decide) ?_
  obtain ⟨v14, e15, hf⟩ := cl_bind_e hf
  refine cr_Vi C hw (c_X2_setInState hlt (sh_5_1 ht0).1 e15) cy_X2_setInState vy_X2_setInState ml_X5_189 (cl_lt (sh_5_1 ht0).1 (by decide)) (cl_e2 (sh_5_1 ht0).1) rfl rfl (As := [.int 2]) rfl hl.1 rfl ⟨⟨Nat.le_of_ble_eq_true rfl, Nat.le_of_ble_eq_true rfl⟩, Nat.le_of_ble_eq_true rfl, Nat.le_of_ble_eq_true rfl, Nat.le_of_ble_eq_true rfl⟩ dX5_pickUp_43 (fun H locs hw => ?_)
  obtain ⟨v16, e17, hf⟩ := cl_bind_e hf
  refine cr_Si C hw (c_J6_bitCount_0f7a4 hlt e17) cy_J6_bitCount_0f7a4 st_J6_bitCount_0f7a4 ml_X5_236 (As := [.int v14]) rfl hl.1 rfl ⟨⟨Nat.le_of_ble_eq_true rfl, Nat.le_of_ble_eq_true rfl⟩, Nat.le_of_ble_eq_true rfl, Nat.le_of_ble_eq_true rfl, Nat.le_of_ble_eq_true rfl⟩ dX5_pickUp_46 (fun H locs hw => ?_)
  obtain rfl := Option.some.inj hf
  exact cr_xreti C hw dX5_pickUp_49
def f_X5_pickUp (M : cl_M) (t0 : Nat) (a1 : Int32) : Option (Except (Nat × cl_M) (Int32 × cl_M)) := cl_x2 (f_X5_known M t0 a1) (fun v3 M4 => if (M4 v3 6) = 2 then f_X5_pickUp_19 M4 t0 v3 1 else f_X5_pickUp_19 M4 t0 v3 0)
set_option maxHeartbeats 4000000 in
set_option maxRecDepth 100000 in
theorem k_X5_pickUp {p : Program} {l : Launch} {e : Env} {s : State} {m : MethodId} {args : Array Value} {below : List Frame} {meth : Method} {c : Code} {dd : cl_D} {b : Nat} (C : cl_C p l s m args meth c cX5_pickUp RX5 3 (some .int) dd b) (TT : cl_T c) : ∀ (M : cl_M) (t0 : Nat) (a1 : Int32) (o : Except (Nat × cl_M) (Int32 × cl_M)), f_X5_pickUp M t0 a1 = some o → ∀ (H : Heap) (locs : List Loc) (ls : Array Slot), cl_sh dd t0 = 5 → cl_H dd b M s H locs → lv_has ls 3 [(0, .ref (b + t0)), (1, .int a1)] → W p l e { frames := 7, cells := 2, slots := 12, locals := 124 } s m args below meth c H locs 0 0 (cl_Yi below args s dd b o 2) (F0 m 0 ls []) := by
  have hx := C.1
  have hb := C.2.1
  have hlt := C.2.2.2.2.2.2.2.2.2.2
  have hRr := C.2.2.2.2.2.2.2.2.2.1
  intro M t0 a1 o hf H locs ls ht0 hw hl
  unfold f_X5_pickUp at hf
  refine lv_aload_n hx hb dX5_pickUp_0 rfl (lv_at hl 0 rfl) ?_
  refine lv_iload_n hx hb dX5_pickUp_1 rfl (lv_at hl 1 rfl) ?_
  obtain ⟨o2, e1, o2x, hf⟩ := cl_x2_e hf
  refine cr_XVr C hw TT (c_X5_known hlt ht0 e1) cy_X5_known vy_X5_known ml_X5_143 (cl_lt ht0 (by decide)) (cl_e5 ht0) rfl rfl (As := [.int a1]) rfl hl.1 rfl ⟨⟨Nat.le_of_ble_eq_true rfl, Nat.le_of_ble_eq_true rfl⟩, Nat.le_of_ble_eq_true rfl, Nat.le_of_ble_eq_true rfl, Nat.le_of_ble_eq_true rfl⟩ ⟨Nat.le_of_ble_eq_true rfl, Nat.le_of_ble_eq_true rfl⟩ dX5_pickUp_2 o2x (fun v3 M4 eo2 H locs hw => ?_)
  have hf := hf v3 M4 eo2
  have hv3 := s_X5_known ht0 (e1.trans (congrArg some eo2))
  refine lv_astore_n (lv' := [(2, .ref (b + v3)), (0, .ref (b + t0)), (1, .int a1)]) hx hb dX5_pickUp_5 rfl hl (by decide) rfl (fun ls hl => ?_)
  refine lv_aload_n hx hb dX5_pickUp_6 rfl (lv_at hl 0 rfl) ?_
  refine fg_X5_147 C hw hv3 dX5_pickUp_7 ?_
  refine lv_iconst (v := 2) hx hb dX5_pickUp_10 (by decide) ?_
  refine lv_icmp_ne (tgt := 18) hx hb dX5_pickUp_11 (by decide) (fun c5 => ?_) (fun c5 => ?_)
  · have hf := cl_no c5 hf
    refine lv_iconst (v := 0) hx hb dX5_pickUp_18 (by decide) ?_
    exact k_X5_pickUp_19 C TT M4 t0 v3 0 _ hf _ _ _ ht0 hv3 hw (lv_sub hl [1, 0] rfl)
  · have hf := cl_yes c5 hf
    refine lv_iconst (v := 1) hx hb dX5_pickUp_14 (by decide) ?_
    refine lv_goto (tgt := 19) hx hb dX5_pickUp_15 (by decide) ?_
    exact k_X5_pickUp_19 C TT M4 t0 v3 1 _ hf _ _ _ ht0 hv3 hw (lv_sub hl [1, 0] rfl)
set_option maxRecDepth 100000 in
theorem c_X5_pickUp {l : Launch} {dd : cl_D} {b : Nat} (hlt : l.stackTraces = false) {M : cl_M} {t0 : Nat} {a1 : Int32}  {o : Except (Nat × cl_M) (Int32 × cl_M)} (ht0 : cl_sh dd t0 = 5) (h : f_X5_pickUp M t0 a1 = some o) : cl_Xi l dd b yX5_pickUp cX5_pickUp 3 (some .int) 7 124 2 [.ref (b + t0), .int a1] M o :=
  cl_ofX hlt (by decide) (Nat.le_of_ble_eq_true rfl) (fun p e s m below meth c ls C TT hw hl => k_X5_pickUp C TT M t0 a1 o h _ _ _ ht0 hw (lv_sub hl [0, 1] rfl))
theorem cy_X5_pickUp : cl_cy yX5_pickUp cX5_pickUp 3 (some .int) 1 := ⟨in_ClothesLine, cd_X5_pickUp, by decide +kernel, by decide +kernel, by decide +kernel⟩
theorem vy_X5_pickUp : cl_vy yX5_pickUp := ⟨im_X5_pickUp, se_X5_pickUp⟩
def f_X5_wash_18 (M : cl_M) (t0 : Nat) (t2 : Nat) (z0 : Int32) : Option (Except (Nat × cl_M) (Int32 × cl_M)) := cl_x1 (f_X5_requireState M z0) (fun M9 => (f_X1_record M9 (t0 + 42) (t0 + 4)).bind (fun M10 => cl_let (M10 t2 3) (fun v12 => (f_X0_soak M10 t2).bind (fun M13 => some (.ok ((M13 t2 3) - v12, M13))))))
set_option maxHeartbeats 4000000 in
set_option maxRecDepth 100000 in
theorem k_X5_wash_18 {p : Program} {l : Launch} {e : Env} {s : State} {m : MethodId} {args : Array Value} {below : List Frame} {meth : Method} {c : Code} {dd : cl_D} {b : Nat} (C : cl_C p l s m args meth c cX5_wash RX5 4 (some .int) dd b) (TT : cl_T c) : ∀ (M : cl_M) (t0 : Nat) (t2 : Nat) (z0 : Int32) (o : Except (Nat × cl_M) (Int32 × cl_M)), f_X5_wash_18 M t0 t2 z0 = some o → ∀ (H : Heap) (locs : List Loc) (ls : Array Slot), cl_sh dd t0 = 5 → cl_sh dd t2 = 0 → cl_H dd b M s H locs → lv_has ls 4 [(0, .ref (b + t0)), (2, .ref (b + t2))] → W p l e { frames := 7, cells := 2, slots := 12, locals := 124 } s m args below meth c H locs 1 6 (cl_Yi below args s dd b o 2) (F0 m 18 ls [.int z0]) := by
  have hx := C.1
  have hb := C.2.1
  have hlt := C.2.2.2.2.2.2.2.2.2.2
  have hRr := C.2.2.2.2.2.2.2.2.2.1
  intro M t0 t2 z0 o hf H locs ls ht0 ht2 hw hl
  unfold f_X5_wash_18 at hf
  obtain ⟨o7, e6, o7x, hf⟩ := cl_x1_e hf
  refine cr_XSv C hw TT (c_X5_requireState hlt e6) cy_X5_requireState st_X5_requireState ml_X5_258 (As := [.int z0]) rfl hl.1 rfl ⟨⟨Nat.le_of_ble_eq_true rfl, Nat.le_of_ble_eq_true rfl⟩, Nat.le_of_ble_eq_true rfl, Nat.le_of_ble_eq_true rfl, Nat.le_of_ble_eq_true rfl⟩ ⟨Nat.le_of_ble_eq_true rfl, Nat.le_of_ble_eq_true rfl⟩ dX5_wash_18 o7x (fun M9 eo7 H locs hw => ?_)
  have hf := hf M9 eo7
  refine lv_aload_n hx hb dX5_wash_21 rfl (lv_at hl 0 rfl) ?_
  refine fg_X5_29 C hw ht0 dX5_wash_22 ?_
  refine lv_aload_n hx hb dX5_wash_25 rfl (lv_at hl 0 rfl) ?_
  refine fg_X5_19 C hw ht0 dX5_wash_26 ?_
  obtain ⟨M10, e11, hf⟩ := cl_bind_e hf
  refine cr_Vv C hw (c_X1_record hlt (sh_5_3 ht0).1 (sh_5_1 ht0).1 e11) cy_X1_record vy_X1_record ml_X5_78 (cl_lt (sh_5_3 ht0).1 (by decide)) (cl_e1 (sh_5_3 ht0).1) rfl rfl (As := [.ref (b + (t0 + 4))]) rfl hl.1 rfl ⟨⟨Nat.le_of_ble_eq_true rfl, Nat.le_of_ble_eq_true rfl⟩, Nat.le_of_ble_eq_true rfl, Nat.le_of_ble_eq_true rfl, Nat.le_of_ble_eq_true rfl⟩ dX5_wash_29 (fun H locs hw => ?_)
  refine lv_aload_n hx hb dX5_wash_32 rfl (lv_at hl 1 rfl) ?_
  refine fg_X5_161 C hw ht2 dX5_wash_33 ?_
  obtain ⟨v12, ev12, hf⟩ := cl_let_e hf
  refine cr_top ev12 ?_
  refine lv_istore_n (lv' := [(3, .int v12), (0, .ref (b + t0)), (2, .ref (b + t2))]) hx hb dX5_wash_36 rfl hl (by decide) rfl (fun ls hl => ?_)
  refine lv_aload_n hx hb dX5_wash_37 rfl (lv_at hl 2 rfl) ?_
  obtain ⟨M13, e14, hf⟩ := cl_bind_e hf
  refine cr_Vv C hw (c_X0_soak hlt ht2 e14) cy_X0_soak vy_X0_soak ml_X5_276 (cl_lt ht2 (by decide)) (cl_e0 ht2) rfl rfl (As := []) rfl hl.1 rfl ⟨⟨Nat.le_of_ble_eq_true rfl, Nat.le_of_ble_eq_true rfl⟩, Nat.le_of_ble_eq_true rfl, Nat.le_of_ble_eq_true rfl, Nat.le_of_ble_eq_true rfl⟩ dX5_wash_38 (fun H locs hw => ?_)
  refine lv_aload_n hx hb dX5_wash_41 rfl (lv_at hl 2 rfl) ?_
  refine fg_X5_161 C hw ht2 dX5_wash_42 ?_
  refine lv_iload_n hx hb dX5_wash_45 rfl (lv_at hl 0 rfl) ?_
  refine lv_isub hx hb dX5_wash_46 ?_
  obtain rfl := Option.some.inj hf
  exact cr_xreti C hw dX5_wash_47
def f_X5_wash (M : cl_M) (t0 : Nat) (a1 : Int32) : Option (Except (Nat × cl_M) (Int32 × cl_M)) := cl_x2 (f_X5_known M t0 a1) (fun v3 M4 => if (M4 v3 6) = 0 then f_X5_wash_18 M4 t0 v3 1 else f_X5_wash_18 M4 t0 v3 0)
set_option maxHeartbeats 4000000 in
set_option maxRecDepth 100000 in
theorem k_X5_wash {p : Program} {l : Launch} {e : Env} {s : State} {m : MethodId} {args : Array Value} {below : List Frame} {meth : Method} {c : Code} {dd : cl_D} {b : Nat} (C : cl_C p l s m args meth c cX5_wash RX5 4 (some .int) dd b) (TT : cl_T c) : ∀ (M : cl_M) (t0 : Nat) (a1 : Int32) (o : Except (Nat × cl_M) (Int32 × cl_M)), f_X5_wash M t0 a1 = some o → ∀ (H : Heap) (locs : List Loc) (ls : Array Slot), cl_sh dd t0 = 5 → cl_H dd b M s H locs → lv_has ls 4 [(0, .ref (b + t0)), (1, .int a1)] → W p l e { frames := 7, cells := 2, slots := 12, locals := 124 } s m args below meth c H locs 0 0 (cl_Yi below args s dd b o 2) (F0 m 0 ls []) := by
  have hx := C.1
  have hb := C.2.1
  have hlt := C.2.2.2.2.2.2.2.2.2.2
  have hRr := C.2.2.2.2.2.2.2.2.2.1
  intro M t0 a1 o hf H locs ls ht0 hw hl
  unfold f_X5_wash at hf
  refine lv_aload_n hx hb dX5_wash_0 rfl (lv_at hl 0 rfl) ?_
  refine lv_iload_n hx hb dX5_wash_1 rfl (lv_at hl 1 rfl) ?_
  obtain ⟨o2, e1, o2x, hf⟩ := cl_x2_e hf
  refine cr_XVr C hw TT (c_X5_known hlt ht0 e1) cy_X5_known vy_X5_known ml_X5_143 (cl_lt ht0 (by decide)) (cl_e5 ht0) rfl rfl (As := [.int a1]) rfl hl.1 rfl ⟨⟨Nat.le_of_ble_eq_true rfl, Nat.le_of_ble_eq_true rfl⟩, Nat.le_of_ble_eq_true rfl, Nat.le_of_ble_eq_true rfl, Nat.le_of_ble_eq_true rfl⟩ ⟨Nat.le_of_ble_eq_true rfl, Nat.le_of_ble_eq_true rfl⟩ dX5_wash_2 o2x (fun v3 M4 eo2 H locs hw => ?_)
  have hf := hf v3 M4 eo2
  have hv3 := s_X5_known ht0 (e1.trans (congrArg some eo2))
  refine lv_astore_n (lv' := [(2, .ref (b + v3)), (0, .ref (b + t0)), (1, .int a1)]) hx hb dX5_wash_5 rfl hl (by decide) rfl (fun ls hl => ?_)
  refine lv_aload_n hx hb dX5_wash_6 rfl (lv_at hl 0 rfl) ?_
  refine fg_X5_147 C hw hv3 dX5_wash_7 ?_
  refine lv_if_ne (tgt := 17) hx hb dX5_wash_10 (by decide) (fun c5 => ?_) (fun c5 => ?_)
  · have hf := cl_no c5 hf
    refine lv_iconst (v := 0) hx hb dX5_wash_17 (by decide) ?_
    exact k_X5_wash_18 C TT M4 t0 v3 0 _ hf _ _ _ ht0 hv3 hw (lv_sub hl [1, 0] rfl)
  · have hf := cl_yes c5 hf
    refine lv_iconst (v := 1) hx hb dX5_wash_13 (by decide) ?_
    refine lv_goto (tgt := 18) hx hb dX5_wash_14 (by decide) ?_
    exact k_X5_wash_18 C TT M4 t0 v3 1 _ hf _ _ _ ht0 hv3 hw (lv_sub hl [1, 0] rfl)
set_option maxRecDepth 100000 in
theorem c_X5_wash {l : Launch} {dd : cl_D} {b : Nat} (hlt : l.stackTraces = false) {M : cl_M} {t0 : Nat} {a1 : Int32}  {o : Except (Nat × cl_M) (Int32 × cl_M)} (ht0 : cl_sh dd t0 = 5) (h : f_X5_wash M t0 a1 = some o) : cl_Xi l dd b yX5_wash cX5_wash 4 (some .int) 7 124 2 [.ref (b + t0), .int a1] M o :=
  cl_ofX hlt (by decide) (Nat.le_of_ble_eq_true rfl) (fun p e s m below meth c ls C TT hw hl => k_X5_wash C TT M t0 a1 o h _ _ _ ht0 hw (lv_sub hl [0, 1] rfl))
theorem cy_X5_wash : cl_cy yX5_wash cX5_wash 4 (some .int) 1 := ⟨in_ClothesLine, cd_X5_wash, by decide +kernel, by decide +kernel, by decide +kernel⟩
theorem vy_X5_wash : cl_vy yX5_wash := ⟨im_X5_wash, se_X5_wash⟩
def f_X5_shift (M : cl_M) (t0 : Nat) (a1 : Int32) (a2 : Int32) : Option (Except (Nat × cl_M) (Int32 × cl_M)) := cl_x2 (f_X5_known M t0 a1) (fun v3 M4 => cl_x1 (f_X5_requireRange M4 a2 0 23) (fun M8 => (f_X2_canShift M8 (t0 + 4) v3 a2).bind (fun v9 => cl_x1 (f_X5_requireState M8 v9) (fun M14 => (f_X1_record M14 (t0 + 42) (t0 + 4)).bind (fun M15 => cl_let (M15 v3 7) (fun v17 => (f_X0_moveTo M15 v3 a2).bind (fun M18 => some (.ok (v17, M18)))))))))
set_option maxHeartbeats 4000000 in
set_option maxRecDepth 100000 in
theorem k_X5_shift {p : Program} {l : Launch} {e : Env} {s : State} {m : MethodId} {args : Array Value} {below : List Frame} {meth : Method} {c : Code} {dd : cl_D} {b : Nat} (C : cl_C p l s m args meth c cX5_shift RX5 5 (some .int) dd b) (TT : cl_T c) : ∀ (M : cl_M) (t0 : Nat) (a1 : Int32) (a2 : Int32) (o : Except (Nat × cl_M) (Int32 × cl_M)), f_X5_shift M t0 a1 a2 = some o → ∀ (H : Heap) (locs : List Loc) (ls : Array Slot), cl_sh dd t0 = 5 → cl_H dd b M s H locs → lv_has ls 5 [(0, .ref (b + t0)), (1, .int a1), (2, .int a2)] → W p l e { frames := 7, cells := 3, slots := 18, locals := 124 } s m args below meth c H locs 0 0 (cl_Yi below args s dd b o 3) (F0 m 0 ls []) := by
  have hx := C.1
  have hb := C.2.1
  have hlt := C.2.2.2.2.2.2.2.2.2.2
  have hRr := C.2.2.2.2.2.2.2.2.2.1
  intro M t0 a1 a2 o hf H locs ls ht0 hw hl
  unfold f_X5_shift at hf
  refine lv_aload_n hx hb dX5_shift_0 rfl (lv_at hl 0 rfl) ?_
  refine lv_iload_n hx hb dX5_shift_1 rfl (lv_at hl 1 rfl) ?_
  obtain ⟨o2, e1, o2x, hf⟩ := cl_x2_e hf
  refine cr_XVr C hw TT (c_X5_known hlt ht0 e1) cy_X5_known vy_X5_known ml_X5_143 (cl_lt ht0 (by decide)) (cl_e5 ht0) rfl rfl (As := [.int a1]) rfl hl.1 rfl ⟨⟨Nat.le_of_ble_eq_true rfl, Nat.le_of_ble_eq_true rfl⟩, Nat.le_of_ble_eq_true rfl, Nat.le_of_ble_eq_true rfl, Nat.le_of_ble_eq_true rfl⟩ ⟨Nat.le_of_ble_eq_true rfl, Nat.le_of_ble_eq_true rfl⟩ dX5_shift_2 o2x (fun v3 M4 eo2 H locs hw => ?_)
  have hf := hf v3 M4 eo2
  have hv3 := s_X5_known ht0 (e1.trans (congrArg some eo2))
  refine lv_astore_n (lv' := [(3, .ref (b + v3)), (0, .ref (b + t0)), (1, .int a1), (2, .int a2)]) hx hb dX5_shift_5 rfl hl (by decide) rfl (fun ls hl => ?_)
  refine lv_iload_n hx hb dX5_shift_6 rfl (lv_at hl 3 rfl) ?_
  refine lv_iconst (v := 0) hx hb dX5_shift_7 (by decide) ?_
  refine lv_bipush (v := 23) hx hb dX5_shift_8 (by decide) ?_
  obtain ⟨o6, e5, o6x, hf⟩ := cl_x1_e hf
  refine cr_XSv C hw TT (c_X5_requireRange hlt e5) cy_X5_requireRange st_X5_requireRange ml_X5_103 (As := [.int a2, .int 0, .int 23]) rfl hl.1 rfl ⟨⟨Nat.le_of_ble_eq_true rfl, Nat.le_of_ble_eq_true rfl⟩, Nat.le_of_ble_eq_true rfl, Nat.le_of_ble_eq_true rfl, Nat.le_of_ble_eq_true rfl⟩ ⟨Nat.le_of_ble_eq_true rfl, Nat.le_of_ble_eq_true rfl⟩ dX5_shift_10 o6x (fun M8 eo6 H locs hw => ?_)
  have hf := hf M8 eo6
  refine lv_aload_n hx hb dX5_shift_13 rfl (lv_at hl 1 rfl) ?_
  refine fg_X5_19 C hw ht0 dX5_shift_14 ?_
  refine lv_aload_n hx hb dX5_shift_17 rfl (lv_at hl 0 rfl) ?_
  refine lv_iload_n hx hb dX5_shift_18 rfl (lv_at hl 3 rfl) ?_
  obtain ⟨v9, e10, hf⟩ := cl_bind_e hf
  refine cr_Vi C hw (c_X2_canShift hlt (sh_5_1 ht0).1 hv3 e10) cy_X2_canShift vy_X2_canShift ml_X5_279 (cl_lt (sh_5_1 ht0).1 (by decide)) (cl_e2 (sh_5_1 ht0).1) rfl rfl (As := [.ref (b + v3), .int a2]) rfl hl.1 rfl ⟨⟨Nat.le_of_ble_eq_true rfl, Nat.le_of_ble_eq_true rfl⟩, Nat.le_of_ble_eq_true rfl, Nat.le_of_ble_eq_true rfl, Nat.le_of_ble_eq_true rfl⟩ dX5_shift_19 (fun H locs hw => ?_)
  obtain ⟨o12, e11, o12x, hf⟩ := cl_x1_e hf
  refine cr_XSv C hw TT (c_X5_requireState hlt e11) cy_X5_requireState st_X5_requireState ml_X5_258 (As := [.int v9]) rfl hl.1 rfl ⟨⟨Nat.le_of_ble_eq_true rfl, Nat.le_of_ble_eq_true rfl⟩, Nat.le_of_ble_eq_true rfl, Nat.le_of_ble_eq_true rfl, Nat.le_of_ble_eq_true rfl⟩ ⟨Nat.le_of_ble_eq_true rfl, Nat.le_of_ble_eq_true rfl⟩ dX5_shift_22 o12x (fun M14 eo12 H locs hw => ?_)
  have hf := hf M14 eo12
  refine lv_aload_n hx hb dX5_shift_25 rfl (lv_at hl 1 rfl) ?_
  refine fg_X5_29 C hw ht0 dX5_shift_26 ?_
  refine lv_aload_n hx hb dX5_shift_29 rfl (lv_at hl 1 rfl) ?_
  refine fg_X5_19 C hw ht0 dX5_shift_30 ?_
  obtain ⟨M15, e16, hf⟩ := cl_bind_e hf
  refine cr_Vv C hw (c_X1_record hlt (sh_5_3 ht0).1 (sh_5_1 ht0).1 e16) cy_X1_record vy_X1_record ml_X5_78 (cl_lt (sh_5_3 ht0).1 (by decide)) (cl_e1 (sh_5_3 ht0).1) rfl rfl (As := [.ref (b + (t0 + 4))]) rfl hl.1 rfl ⟨⟨Nat.le_of_ble_eq_true rfl, Nat.le_of_ble_eq_true rfl⟩, Nat.le_of_ble_eq_true rfl, Nat.le_of_ble_eq_true rfl, Nat.le_of_ble_eq_true rfl⟩ dX5_shift_33 (fun H locs hw => ?_)
  refine lv_aload_n hx hb dX5_shift_36 rfl (lv_at hl 0 rfl) ?_
  refine fg_X5_170 C hw hv3 dX5_shift_37 ?_
  obtain ⟨v17, ev17, hf⟩ := cl_let_e hf
  refine cr_top ev17 ?_
  refine lv_istore (lv' := [(4, .int v17), (3, .ref (b + v3)), (0, .ref (b + t0)), (1, .int a1), (2, .int a2)]) hx hb dX5_shift_40 hl (by decide) rfl (fun ls hl => ?_)
  refine lv_aload_n hx hb dX5_shift_42 rfl (lv_at hl 1 rfl) ?_
  refine lv_iload_n hx hb dX5_shift_43 rfl (lv_at hl 4 rfl) ?_
  obtain ⟨M18, e19, hf⟩ := cl_bind_e hf
  refine cr_Vv C hw (c_X0_moveTo hlt hv3 e19) cy_X0_moveTo vy_X0_moveTo ml_X5_283 (cl_lt hv3 (by decide)) (cl_e0 hv3) rfl rfl (As := [.int a2]) rfl hl.1 rfl ⟨⟨Nat.le_of_ble_eq_true rfl, Nat.le_of_ble_eq_true rfl⟩, Nat.le_of_ble_eq_true rfl, Nat.le_of_ble_eq_true rfl, Nat.le_of_ble_eq_true rfl⟩ dX5_shift_44 (fun H locs hw => ?_)
  refine lv_iload hx hb dX5_shift_47 (lv_at hl 0 rfl) ?_
  obtain rfl := Option.some.inj hf
  exact cr_xreti C hw dX5_shift_49
set_option maxRecDepth 100000 in
theorem c_X5_shift {l : Launch} {dd : cl_D} {b : Nat} (hlt : l.stackTraces = false) {M : cl_M} {t0 : Nat} {a1 : Int32} {a2 : Int32}  {o : Except (Nat × cl_M) (Int32 × cl_M)} (ht0 : cl_sh dd t0 = 5) (h : f_X5_shift M t0 a1 a2 = some o) : cl_Xi l dd b yX5_shift cX5_shift 5 (some .int) 7 124 3 [.ref (b + t0), .int a1, .int a2] M o :=
  cl_ofX hlt (by decide) (Nat.le_of_ble_eq_true rfl) (fun p e s m below meth c ls C TT hw hl => k_X5_shift C TT M t0 a1 a2 o h _ _ _ ht0 hw (lv_sub hl [0, 1, 2] rfl))
theorem cy_X5_shift : cl_cy yX5_shift cX5_shift 5 (some .int) 2 := ⟨in_ClothesLine, cd_X5_shift, by decide +kernel, by decide +kernel, by decide +kernel⟩
theorem vy_X5_shift : cl_vy yX5_shift := ⟨im_X5_shift, se_X5_shift⟩
def f_X5_addShower_42 (M : cl_M) (t0 : Nat) (a1 : Int32) (a2 : Int32) (a3 : Int32) (z0 : Int32) : Option (Except (Nat × cl_M) (Int32 × cl_M)) := cl_x1 (f_X5_requireState M z0) (fun M17 => (f_X1_record M17 (t0 + 42) (t0 + 4)).bind (fun M18 => (f_X4_appendShower M18 ((t0 + 4) + 1) a1 a2 a3).bind (fun M20 => some (.ok (M20 ((t0 + 4) + 1) 6, M20)))))
set_option maxHeartbeats 4000000 in
set_option maxRecDepth 100000 in
theorem k_X5_addShower_42 {p : Program} {l : Launch} {e : Env} {s : State} {m : MethodId} {args : Array Value} {below : List Frame} {meth : Method} {c : Code} {dd : cl_D} {b : Nat} (C : cl_C p l s m args meth c cX5_addShower RX5 4 (some .int) dd b) (TT : cl_T c) : ∀ (M : cl_M) (t0 : Nat) (a1 : Int32) (a2 : Int32) (a3 : Int32) (z0 : Int32) (o : Except (Nat × cl_M) (Int32 × cl_M)), f_X5_addShower_42 M t0 a1 a2 a3 z0 = some o → ∀ (H : Heap) (locs : List Loc) (ls : Array Slot), cl_sh dd t0 = 5 → cl_H dd b M s H locs → lv_has ls 4 [(0, .ref (b + t0)), (1, .int a1), (2, .int a2), (3, .int a3)] → W p l e { frames := 7, cells := 4, slots := 24, locals := 124 } s m args below meth c H locs 3 18 (cl_Yi below args s dd b o 4) (F0 m 42 ls [.int z0]) := by
  have hx := C.1
  have hb := C.2.1
  have hlt := C.2.2.2.2.2.2.2.2.2.2
  have hRr := C.2.2.2.2.2.2.2.2.2.1
  intro M t0 a1 a2 a3 z0 o hf H locs ls ht0 hw hl
  unfold f_X5_addShower_42 at hf
  obtain ⟨o15, e14, o15x, hf⟩ := cl_x1_e hf
  refine cr_XSv C hw TT (c_X5_requireState hlt e14) cy_X5_requireState st_X5_requireState ml_X5_258 (As := [.int z0]) rfl hl.1 rfl ⟨⟨Nat.le_of_ble_eq_true rfl, Nat.le_of_ble_eq_true rfl⟩, Nat.le_of_ble_eq_true rfl, Nat.le_of_ble_eq_true rfl, Nat.le_of_ble_eq_true rfl⟩ ⟨Nat.le_of_ble_eq_true rfl, Nat.le_of_ble_eq_true rfl⟩ dX5_addShower_42 o15x (fun M17 eo15 H locs hw => ?_)
  have hf := hf M17 eo15
  refine lv_aload_n hx hb dX5_addShower_45 rfl (lv_at hl 0 rfl) ?_
  refine fg_X5_29 C hw ht0 dX5_addShower_46 ?_
  refine lv_aload_n hx hb dX5_addShower_49 rfl (lv_at hl 0 rfl) ?_
  refine fg_X5_19 C hw ht0 dX5_addShower_50 ?_
  obtain ⟨M18, e19, hf⟩ := cl_bind_e hf
  refine cr_Vv C hw (c_X1_record hlt (sh_5_3 ht0).1 (sh_5_1 ht0).1 e19) cy_X1_record vy_X1_record ml_X5_78 (cl_lt (sh_5_3 ht0).1 (by decide)) (cl_e1 (sh_5_3 ht0).1) rfl rfl (As := [.ref (b + (t0 + 4))]) rfl hl.1 rfl ⟨⟨Nat.le_of_ble_eq_true rfl, Nat.le_of_ble_eq_true rfl⟩, Nat.le_of_ble_eq_true rfl, Nat.le_of_ble_eq_true rfl, Nat.le_of_ble_eq_true rfl⟩ dX5_addShower_53 (fun H locs hw => ?_)
  refine lv_aload_n hx hb dX5_addShower_56 rfl (lv_at hl 0 rfl) ?_
  refine fg_X5_19 C hw ht0 dX5_addShower_57 ?_
  refine fg_X5_90 C hw (sh_5_1 ht0).1 dX5_addShower_60 ?_
  refine lv_iload_n hx hb dX5_addShower_63 rfl (lv_at hl 1 rfl) ?_
  refine lv_iload_n hx hb dX5_addShower_64 rfl (lv_at hl 2 rfl) ?_
  refine lv_iload_n hx hb dX5_addShower_65 rfl (lv_at hl 3 rfl) ?_
  obtain ⟨M20, e21, hf⟩ := cl_bind_e hf
  refine cr_Vv C hw (c_X4_appendShower hlt (sh_2_4 (sh_5_1 ht0).1).1 e21) cy_X4_appendShower vy_X4_appendShower ml_X5_289 (cl_lt (sh_2_4 (sh_5_1 ht0).1).1 (by decide)) (cl_e4 (sh_2_4 (sh_5_1 ht0).1).1) rfl rfl (As := [.int a1, .int a2, .int a3]) rfl hl.1 rfl ⟨⟨Nat.le_of_ble_eq_true rfl, Nat.le_of_ble_eq_true rfl⟩, Nat.le_of_ble_eq_true rfl, Nat.le_of_ble_eq_true rfl, Nat.le_of_ble_eq_true rfl⟩ dX5_addShower_66 (fun H locs hw => ?_)
  refine lv_aload_n hx hb dX5_addShower_69 rfl (lv_at hl 0 rfl) ?_
  refine fg_X5_19 C hw ht0 dX5_addShower_70 ?_
  refine fg_X5_90 C hw (sh_5_1 ht0).1 dX5_addShower_73 ?_
  refine fg_X5_286 C hw (sh_2_4 (sh_5_1 ht0).1).1 dX5_addShower_76 ?_
  obtain rfl := Option.some.inj hf
  exact cr_xreti C hw dX5_addShower_79
def f_X5_addShower (M : cl_M) (t0 : Nat) (a1 : Int32) (a2 : Int32) (a3 : Int32) : Option (Except (Nat × cl_M) (Int32 × cl_M)) := cl_x1 (f_X5_requireRange M a1 0 9999) (fun M4 => cl_x1 (f_X5_requireRange M4 a2 1 200) (fun M8 => cl_x1 (f_X5_requireRange M8 a3 1 20) (fun M12 => if 4 ≤ (M12 ((t0 + 4) + 1) 6) then f_X5_addShower_42 M12 t0 a1 a2 a3 0 else f_X5_addShower_42 M12 t0 a1 a2 a3 1)))
set_option maxHeartbeats 4000000 in
set_option maxRecDepth 100000 in
theorem k_X5_addShower {p : Program} {l : Launch} {e : Env} {s : State} {m : MethodId} {args : Array Value} {below : List Frame} {meth : Method} {c : Code} {dd : cl_D} {b : Nat} (C : cl_C p l s m args meth c cX5_addShower RX5 4 (some .int) dd b) (TT : cl_T c) : ∀ (M : cl_M) (t0 : Nat) (a1 : Int32) (a2 : Int32) (a3 : Int32) (o : Except (Nat × cl_M) (Int32 × cl_M)), f_X5_addShower M t0 a1 a2 a3 = some o → ∀ (H : Heap) (locs : List Loc) (ls : Array Slot), cl_sh dd t0 = 5 → cl_H dd b M s H locs → lv_has ls 4 [(0, .ref (b + t0)), (1, .int a1), (2, .int a2), (3, .int a3)] → W p l e { frames := 7, cells := 4, slots := 24, locals := 124 } s m args below meth c H locs 0 0 (cl_Yi below args s dd b o 4) (F0 m 0 ls []) := by
  have hx := C.1
  have hb := C.2.1
  have hlt := C.2.2.2.2.2.2.2.2.2.2
  have hRr := C.2.2.2.2.2.2.2.2.2.1
  intro M t0 a1 a2 a3 o hf H locs ls ht0 hw hl
  unfold f_X5_addShower at hf
  refine lv_iload_n hx hb dX5_addShower_0 rfl (lv_at hl 1 rfl) ?_
  refine lv_iconst (v := 0) hx hb dX5_addShower_1 (by decide) ?_
  refine lv_sipush (v := 9999) hx hb dX5_addShower_2 (by decide) ?_
  obtain ⟨o2, e1, o2x, hf⟩ := cl_x1_e hf
  refine cr_XSv C hw TT (c_X5_requireRange hlt e1) cy_X5_requireRange st_X5_requireRange ml_X5_103 (As := [.int a1, .int 0, .int 9999]) rfl hl.1 rfl ⟨⟨Nat.le_of_ble_eq_true rfl, Nat.le_of_ble_eq_true rfl⟩, Nat.le_of_ble_eq_true rfl, Nat.le_of_ble_eq_true rfl, Nat.le_of_ble_eq_true rfl⟩ ⟨Nat.le_of_ble_eq_true rfl, Nat.le_of_ble_eq_true rfl⟩ dX5_addShower_5 o2x (fun M4 eo2 H locs hw => ?_)
  have hf := hf M4 eo2
  refine lv_iload_n hx hb dX5_addShower_8 rfl (lv_at hl 2 rfl) ?_
  refine lv_iconst (v := 1) hx hb dX5_addShower_9 (by decide) ?_
  refine lv_sipush (v := 200) hx hb dX5_addShower_10 (by decide) ?_
  obtain ⟨o6, e5, o6x, hf⟩ := cl_x1_e hf
  refine cr_XSv C hw TT (c_X5_requireRange hlt e5) cy_X5_requireRange st_X5_requireRange ml_X5_103 (As := [.int a2, .int 1, .int 200]) rfl hl.1 rfl ⟨⟨Nat.le_of_ble_eq_true rfl, Nat.le_of_ble_eq_true rfl⟩, Nat.le_of_ble_eq_true rfl, Nat.le_of_ble_eq_true rfl, Nat.le_of_ble_eq_true rfl⟩ ⟨Nat.le_of_ble_eq_true rfl, Nat.le_of_ble_eq_true rfl⟩ dX5_addShower_13 o6x (fun M8 eo6 H locs hw => ?_)
  have hf := hf M8 eo6
  refine lv_iload_n hx hb dX5_addShower_16 rfl (lv_at hl 3 rfl) ?_
  refine lv_iconst (v := 1) hx hb dX5_addShower_17 (by decide) ?_
  refine lv_bipush (v := 20) hx hb dX5_addShower_18 (by decide) ?_
  obtain ⟨o10, e9, o10x, hf⟩ := cl_x1_e hf
  refine cr_XSv C hw TT (c_X5_requireRange hlt e9) cy_X5_requireRange st_X5_requireRange ml_X5_103 (As := [.int a3, .int 1, .int 20]) rfl hl.1 rfl ⟨⟨Nat.le_of_ble_eq_true rfl, Nat.le_of_ble_eq_true rfl⟩, Nat.le_of_ble_eq_true rfl, Nat.le_of_ble_eq_true rfl, Nat.le_of_ble_eq_true rfl⟩ ⟨Nat.le_of_ble_eq_true rfl, Nat.le_of_ble_eq_true rfl⟩ dX5_addShower_20 o10x (fun M12 eo10 H locs hw => ?_)
  have hf := hf M12 eo10
  refine lv_aload_n hx hb dX5_addShower_23 rfl (lv_at hl 0 rfl) ?_
  refine fg_X5_19 C hw ht0 dX5_addShower_24 ?_
  refine fg_X5_90 C hw (sh_5_1 ht0).1 dX5_addShower_27 ?_
  refine fg_X5_286 C hw (sh_2_4 (sh_5_1 ht0).1).1 dX5_addShower_30 ?_
  refine lv_iconst (v := 4) hx hb dX5_addShower_33 (by decide) ?_
  refine lv_icmp_ge (tgt := 41) hx hb dX5_addShower_34 (by decide) (fun c13 => ?_) (fun c13 => ?_)
  · have hf := cl_yes c13 hf
    refine lv_iconst (v := 0) hx hb dX5_addShower_41 (by decide) ?_
    exact k_X5_addShower_42 C TT M12 t0 a1 a2 a3 0 _ hf _ _ _ ht0 hw (lv_sub hl [0, 1, 2, 3] rfl)
  · have hf := cl_no c13 hf
    refine lv_iconst (v := 1) hx hb dX5_addShower_37 (by decide) ?_
    refine lv_goto (tgt := 42) hx hb dX5_addShower_38 (by decide) ?_
    exact k_X5_addShower_42 C TT M12 t0 a1 a2 a3 1 _ hf _ _ _ ht0 hw (lv_sub hl [0, 1, 2, 3] rfl)
set_option maxRecDepth 100000 in
theorem c_X5_addShower {l : Launch} {dd : cl_D} {b : Nat} (hlt : l.stackTraces = false) {M : cl_M} {t0 : Nat} {a1 : Int32} {a2 : Int32} {a3 : Int32}  {o : Except (Nat × cl_M) (Int32 × cl_M)} (ht0 : cl_sh dd t0 = 5) (h : f_X5_addShower M t0 a1 a2 a3 = some o) : cl_Xi l dd b yX5_addShower cX5_addShower 4 (some .int) 7 124 4 [.ref (b + t0), .int a1, .int a2, .int a3] M o :=
  cl_ofX hlt (by decide) (Nat.le_of_ble_eq_true rfl) (fun p e s m below meth c ls C TT hw hl => k_X5_addShower C TT M t0 a1 a2 a3 o h _ _ _ ht0 hw (lv_sub hl [0, 1, 2, 3] rfl))
theorem cy_X5_addShower : cl_cy yX5_addShower cX5_addShower 4 (some .int) 3 := ⟨in_ClothesLine, cd_X5_addShower, by decide +kernel, by decide +kernel, by decide +kernel⟩
theorem vy_X5_addShower : cl_vy yX5_addShower := ⟨im_X5_addShower, se_X5_addShower⟩
def f_X5_addSmoke_35 (M : cl_M) (t0 : Nat) (a1 : Int32) (a2 : Int32) (z0 : Int32) : Option (Except (Nat × cl_M) (Int32 × cl_M)) := cl_x1 (f_X5_requireState M z0) (fun M13 => (f_X1_record M13 (t0 + 42) (t0 + 4)).bind (fun M14 => (f_X4_appendSmoke M14 ((t0 + 4) + 1) a1 a2).bind (fun M16 => some (.ok (M16 ((t0 + 4) + 1) 9, M16)))))
set_option maxHeartbeats 4000000 in
set_option maxRecDepth 100000 in
theorem k_X5_addSmoke_35 {p : Program} {l : Launch} {e : Env} {s : State} {m : MethodId} {args : Array Value} {below : List Frame} {meth : Method} {c : Code} {dd : cl_D} {b : Nat} (C : cl_C p l s m args meth c cX5_addSmoke RX5 3 (some .int) dd b) (TT : cl_T c) : ∀ (M : cl_M) (t0 : Nat) (a1 : Int32) (a2 : Int32) (z0 : Int32) (o : Except (Nat × cl_M) (Int32 × cl_M)), f_X5_addSmoke_35 M t0 a1 a2 z0 = some o → ∀ (H : Heap) (locs : List Loc) (ls : Array Slot), cl_sh dd t0 = 5 → cl_H dd b M s H locs → lv_has ls 3 [(0, .ref (b + t0)), (1, .int a1), (2, .int a2)] → W p l e { frames := 7, cells := 3, slots := 18, locals := 124 } s m args below meth c H locs 2 12 (cl_Yi below args s dd b o 3) (F0 m 35 ls [.int z0]) := by
  have hx := C.1
  have hb := C.2.1
  have hlt := C.2.2.2.2.2.2.2.2.2.2
  have hRr := C.2.2.2.2.2.2.2.2.2.1
  intro M t0 a1 a2 z0 o hf H locs ls ht0 hw hl
  unfold f_X5_addSmoke_35 at hf
  obtain ⟨o11, e10, o11x, hf⟩ := cl_x1_e hf
  refine cr_XSv C hw TT (c_X5_requireState hlt e10) cy_X5_requireState st_X5_requireState ml_X5_258 (As := [.int z0]) rfl hl.1 rfl ⟨⟨Nat.le_of_ble_eq_true rfl, Nat.le_of_ble_eq_true rfl⟩, Nat.le_of_ble_eq_true rfl, Nat.le_of_ble_eq_true rfl, Nat.le_of_ble_eq_true rfl⟩ ⟨Nat.le_of_ble_eq_true rfl, Nat.le_of_ble_eq_true rfl⟩ dX5_addSmoke_35 o11x (fun M13 eo11 H locs hw => ?_)
  have hf := hf M13 eo11
  refine lv_aload_n hx hb dX5_addSmoke_38 rfl (lv_at hl 0 rfl) ?_
  refine fg_X5_29 C hw ht0 dX5_addSmoke_39 ?_
  refine lv_aload_n hx hb dX5_addSmoke_42 rfl (lv_at hl 0 rfl) ?_
  refine fg_X5_19 C hw ht0 dX5_addSmoke_43 ?_
  obtain ⟨M14, e15, hf⟩ := cl_bind_e hf
  refine cr_Vv C hw (c_X1_record hlt (sh_5_3 ht0).1 (sh_5_1 ht0).1 e15) cy_X1_record vy_X1_record ml_X5_78 (cl_lt (sh_5_3 ht0).1 (by decide)) (cl_e1 (sh_5_3 ht0).1) rfl rfl (As := [.ref (b + (t0 + 4))]) rfl hl.1 rfl ⟨⟨Nat.le_of_ble_eq_true rfl, Nat.le_of_ble_eq_true rfl⟩, Nat.le_of_ble_eq_true rfl, Nat.le_of_ble_eq_true rfl, Nat.le_of_ble_eq_true rfl⟩ dX5_addSmoke_46 (fun H locs hw => ?_)
  refine lv_aload_n hx hb dX5_addSmoke_49 rfl (lv_at hl 0 rfl) ?_
  refine fg_X5_19 C hw ht0 dX5_addSmoke_50 ?_
  refine fg_X5_90 C hw (sh_5_1 ht0).1 dX5_addSmoke_53 ?_
  refine lv_iload_n hx hb dX5_addSmoke_56 rfl (lv_at hl 1 rfl) ?_
  refine lv_iload_n hx hb dX5_addSmoke_57 rfl (lv_at hl 2 rfl) ?_
  obtain ⟨M16, e17, hf⟩ := cl_bind_e hf
  refine cr_Vv C hw (c_X4_appendSmoke hlt (sh_2_4 (sh_5_1 ht0).1).1 e17) cy_X4_appendSmoke vy_X4_appendSmoke ml_X5_295 (cl_lt (sh_2_4 (sh_5_1 ht0).1).1 (by decide)) (cl_e4 (sh_2_4 (sh_5_1 ht0).1).1) rfl rfl (As := [.int a1, .int a2]) rfl hl.1 rfl ⟨⟨Nat.le_of_ble_eq_true rfl, Nat.le_of_ble_eq_true rfl⟩, Nat.le_of_ble_eq_true rfl, Nat.le_of_ble_eq_true rfl, Nat.le_of_ble_eq_true rfl⟩ dX5_addSmoke_58 (fun H locs hw => ?_)
  refine lv_aload_n hx hb dX5_addSmoke_61 rfl (lv_at hl 0 rfl) ?_
  refine fg_X5_19 C hw ht0 dX5_addSmoke_62 ?_
  refine fg_X5_90 C hw (sh_5_1 ht0).1 dX5_addSmoke_65 ?_
  refine fg_X5_292 C hw (sh_2_4 (sh_5_1 ht0).1).1 dX5_addSmoke_68 ?_
  obtain rfl := Option.some.inj hf
  exact cr_xreti C hw dX5_addSmoke_71
def f_X5_addSmoke (M : cl_M) (t0 : Nat) (a1 : Int32) (a2 : Int32) : Option (Except (Nat × cl_M) (Int32 × cl_M)) := cl_x1 (f_X5_requireRange M a1 0 9999) (fun M4 => cl_x1 (f_X5_requireRange M4 a2 a1 9999) (fun M8 => if 4 ≤ (M8 ((t0 + 4) + 1) 9) then f_X5_addSmoke_35 M8 t0 a1 a2 0 else f_X5_addSmoke_35 M8 t0 a1 a2 1))
set_option maxHeartbeats 4000000 in
set_option maxRecDepth 100000 in
theorem k_X5_addSmoke {p : Program} {l : Launch} {e : Env} {s : State} {m : MethodId} {args : Array Value} {below : List Frame} {meth : Method} {c : Code} {dd : cl_D} {b : Nat} (C : cl_C p l s m args meth c cX5_addSmoke RX5 3 (some .int) dd b) (TT : cl_T c) : ∀ (M : cl_M) (t0 : Nat) (a1 : Int32) (a2 : Int32) (o : Except (Nat × cl_M) (Int32 × cl_M)), f_X5_addSmoke M t0 a1 a2 = some o → ∀ (H : Heap) (locs : List Loc) (ls : Array Slot), cl_sh dd t0 = 5 → cl_H dd b M s H locs → lv_has ls 3 [(0, .ref (b + t0)), (1, .int a1), (2, .int a2)] → W p l e { frames := 7, cells := 3, slots := 18, locals := 124 } s m args below meth c H locs 0 0 (cl_Yi below args s dd b o 3) (F0 m 0 ls []) := by
  have hx := C.1
  have hb := C.2.1
  have hlt := C.2.2.2.2.2.2.2.2.2.2
  have hRr := C.2.2.2.2.2.2.2.2.2.1
  intro M t0 a1 a2 o hf H locs ls ht0 hw hl
  unfold f_X5_addSmoke at hf
  refine lv_iload_n hx hb dX5_addSmoke_0 rfl (lv_at hl 1 rfl) ?_
  refine lv_iconst (v := 0) hx hb dX5_addSmoke_1 (by decide) ?_
  refine lv_sipush (v := 9999) hx hb dX5_addSmoke_2 (by decide) ?_
  obtain ⟨o2, e1, o2x, hf⟩ := cl_x1_e hf
  refine cr_XSv C hw TT (c_X5_requireRange hlt e1) cy_X5_requireRange st_X5_requireRange ml_X5_103 (As := [.int a1, .int 0, .int 9999]) rfl hl.1 rfl ⟨⟨Nat.le_of_ble_eq_true rfl, Nat.le_of_ble_eq_true rfl⟩, Nat.le_of_ble_eq_true rfl, Nat.le_of_ble_eq_true rfl, Nat.le_of_ble_eq_true rfl⟩ ⟨Nat.le_of_ble_eq_true rfl, Nat.le_of_ble_eq_true rfl⟩ dX5_addSmoke_5 o2x (fun M4 eo2 H locs hw => ?_)
  have hf := hf M4 eo2
  refine lv_iload_n hx hb dX5_addSmoke_8 rfl (lv_at hl 2 rfl) ?_
  refine lv_iload_n hx hb dX5_addSmoke_9 rfl (lv_at hl 1 rfl) ?_
  refine lv_sipush (v := 9999) hx hb dX5_addSmoke_10 (by decide) ?_
  obtain ⟨o6, e5, o6x, hf⟩ := cl_x1_e hf
  refine cr_XSv C hw TT (c_X5_requireRange hlt e5) cy_X5_requireRange st_X5_requireRange ml_X5_103 (As := [.int a2, .int a1, .int 9999]) rfl hl.1 rfl ⟨⟨Nat.le_of_ble_eq_true rfl, Nat.le_of_ble_eq_true rfl⟩, Nat.le_of_ble_eq_true rfl, Nat.le_of_ble_eq_true rfl, Nat.le_of_ble_eq_true rfl⟩ ⟨Nat.le_of_ble_eq_true rfl, Nat.le_of_ble_eq_true rfl⟩ dX5_addSmoke_13 o6x (fun M8 eo6 H locs hw => ?_)
  have hf := hf M8 eo6
  refine lv_aload_n hx hb dX5_addSmoke_16 rfl (lv_at hl 0 rfl) ?_
  refine fg_X5_19 C hw ht0 dX5_addSmoke_17 ?_
  refine fg_X5_90 C hw (sh_5_1 ht0).1 dX5_addSmoke_20 ?_
  refine fg_X5_292 C hw (sh_2_4 (sh_5_1 ht0).1).1 dX5_addSmoke_23 ?_
  refine lv_iconst (v := 4) hx hb dX5_addSmoke_26 (by decide) ?_
  refine lv_icmp_ge (tgt := 34) hx hb dX5_addSmoke_27 (by decide) (fun c9 => ?_) (fun c9 => ?_)
  · have hf := cl_yes c9 hf
    refine lv_iconst (v := 0) hx hb dX5_addSmoke_34 (by decide) ?_
    exact k_X5_addSmoke_35 C TT M8 t0 a1 a2 0 _ hf _ _ _ ht0 hw (lv_sub hl [0, 1, 2] rfl)
  · have hf := cl_no c9 hf
    refine lv_iconst (v := 1) hx hb dX5_addSmoke_30 (by decide) ?_
    refine lv_goto (tgt := 35) hx hb dX5_addSmoke_31 (by decide) ?_
    exact k_X5_addSmoke_35 C TT M8 t0 a1 a2 1 _ hf _ _ _ ht0 hw (lv_sub hl [0, 1, 2] rfl)
set_option maxRecDepth 100000 in
theorem c_X5_addSmoke {l : Launch} {dd : cl_D} {b : Nat} (hlt : l.stackTraces = false) {M : cl_M} {t0 : Nat} {a1 : Int32} {a2 : Int32}  {o : Except (Nat × cl_M) (Int32 × cl_M)} (ht0 : cl_sh dd t0 = 5) (h : f_X5_addSmoke M t0 a1 a2 = some o) : cl_Xi l dd b yX5_addSmoke cX5_addSmoke 3 (some .int) 7 124 3 [.ref (b + t0), .int a1, .int a2] M o :=
  cl_ofX hlt (by decide) (Nat.le_of_ble_eq_true rfl) (fun p e s m below meth c ls C TT hw hl => k_X5_addSmoke C TT M t0 a1 a2 o h _ _ _ ht0 hw (lv_sub hl [0, 1, 2] rfl))
theorem cy_X5_addSmoke : cl_cy yX5_addSmoke cX5_addSmoke 3 (some .int) 2 := ⟨in_ClothesLine, cd_X5_addSmoke, by decide +kernel, by decide +kernel, by decide +kernel⟩
theorem vy_X5_addSmoke : cl_vy yX5_addSmoke := ⟨im_X5_addSmoke, se_X5_addSmoke⟩
def f_X5_setWind_18 (M : cl_M) : Option (Except (Nat × cl_M) (Int32 × cl_M)) := some (.error (2, M))
set_option maxHeartbeats 4000000 in
set_option maxRecDepth 100000 in
theorem k_X5_setWind_18 {p : Program} {l : Launch} {e : Env} {s : State} {m : MethodId} {args : Array Value} {below : List Frame} {meth : Method} {c : Code} {dd : cl_D} {b : Nat} (C : cl_C p l s m args meth c cX5_setWind RX5 4 (some .int) dd b) (TT : cl_T c) : ∀ (M : cl_M) (o : Except (Nat × cl_M) (Int32 × cl_M)), f_X5_setWind_18 M = some o → ∀ (H : Heap) (locs : List Loc) (ls : Array Slot), cl_H dd b M s H locs → lv_has ls 4 [] → W p l e { frames := 7, cells := 1, slots := 6, locals := 124 } s m args below meth c H locs 0 0 (cl_Yi below args s dd b o 1) (F0 m 18 ls []) := by
  have hx := C.1
  have hb := C.2.1
  have hlt := C.2.2.2.2.2.2.2.2.2.2
  have hRr := C.2.2.2.2.2.2.2.2.2.1
  intro M o hf H locs ls hw hl
  unfold f_X5_setWind_18 at hf
  obtain rfl := Option.some.inj hf
  exact cr_throwW C hw TT (k := 2) rfl (by decide +kernel) cl_X5_302 in_java_lang_IndexOutOfBoundsException tw_RX5_306 (sr_23 hRr) hl.1 ⟨Nat.le_of_ble_eq_true rfl, Nat.le_of_ble_eq_true rfl, Nat.le_of_ble_eq_true rfl, Nat.le_of_ble_eq_true rfl⟩ ⟨Nat.le_of_ble_eq_true rfl, Nat.le_of_ble_eq_true rfl⟩ dX5_setWind_18 dX5_setWind_21 dX5_setWind_22 dX5_setWind_25 dX5_setWind_28
def f_X5_setWind (M : cl_M) (t0 : Nat) (a1 : Int32) (a2 : Int32) : Option (Except (Nat × cl_M) (Int32 × cl_M)) := if a1 < 0 then f_X5_setWind_18 M else if a1 < (M ((t0 + 4) + 1) 2) then cl_x1 (f_X5_requireRange M a2 0 5) (fun M6 => (f_X1_record M6 (t0 + 42) (t0 + 4)).bind (fun M7 => if cl_inb a1 8 = true then cl_let (M7 (((t0 + 4) + 1) + 1) (a1.toNatClampNeg)) (fun v10 => if cl_inb a1 8 = true then cl_let (cl_ms M7 (((t0 + 4) + 1) + 1) (a1).toNatClampNeg a2) (fun M12 => some (.ok (v10, M12))) else none) else none)) else f_X5_setWind_18 M
set_option maxHeartbeats 4000000 in
set_option maxRecDepth 100000 in
theorem k_X5_setWind {p : Program} {l : Launch} {e : Env} {s : State} {m : MethodId} {args : Array Value} {below : List Frame} {meth : Method} {c : Code} {dd : cl_D} {b : Nat} (C : cl_C p l s m args meth c cX5_setWind RX5 4 (some .int) dd b) (TT : cl_T c) : ∀ (M : cl_M) (t0 : Nat) (a1 : Int32) (a2 : Int32) (o : Except (Nat × cl_M) (Int32 × cl_M)), f_X5_setWind M t0 a1 a2 = some o → ∀ (H : Heap) (locs : List Loc) (ls : Array Slot), cl_sh dd t0 = 5 → cl_H dd b M s H locs → lv_has ls 4 [(0, .ref (b + t0)), (1, .int a1), (2, .int a2)] → W p l e { frames := 7, cells := 1, slots := 6, locals := 124 } s m args below meth c H locs 0 0 (cl_Yi below args s dd b o 1) (F0 m 0 ls []) := by
  have hx := C.1
  have hb := C.2.1
  have hlt := C.2.2.2.2.2.2.2.2.2.2
  have hRr := C.2.2.2.2.2.2.2.2.2.1
  intro M t0 a1 a2 o hf H locs ls ht0 hw hl
  unfold f_X5_setWind at hf
  refine lv_iload_n hx hb dX5_setWind_0 rfl (lv_at hl 1 rfl) ?_
  refine lv_if_lt (tgt := 18) hx hb dX5_setWind_1 (by decide) (fun c1 => ?_) (fun c1 => ?_)
  · have hf := cl_yes c1 hf
    exact k_X5_setWind_18 C TT M _ hf _ _ _ hw (lv_sub hl [] rfl)
  · have hf := cl_no c1 hf
    refine lv_iload_n hx hb dX5_setWind_4 rfl (lv_at hl 1 rfl) ?_
    refine lv_aload_n hx hb dX5_setWind_5 rfl (lv_at hl 0 rfl) ?_
    refine fg_X5_19 C hw ht0 dX5_setWind_6 ?_
    refine fg_X5_90 C hw (sh_5_1 ht0).1 dX5_setWind_9 ?_
    refine fg_X5_299 C hw (sh_2_4 (sh_5_1 ht0).1).1 dX5_setWind_12 ?_
    refine lv_icmp_lt (tgt := 29) hx hb dX5_setWind_15 (by decide) (fun c2 => ?_) (fun c2 => ?_)
    · have hf := cl_yes c2 hf
      refine lv_iload_n hx hb dX5_setWind_29 rfl (lv_at hl 2 rfl) ?_
      refine lv_iconst (v := 0) hx hb dX5_setWind_30 (by decide) ?_
      refine lv_iconst (v := 5) hx hb dX5_setWind_31 (by decide) ?_
      obtain ⟨o4, e3, o4x, hf⟩ := cl_x1_e hf
      refine cr_XSv C hw TT (c_X5_requireRange hlt e3) cy_X5_requireRange st_X5_requireRange ml_X5_103 (As := [.int a2, .int 0, .int 5]) rfl hl.1 rfl ⟨⟨Nat.le_of_ble_eq_true rfl, Nat.le_of_ble_eq_true rfl⟩, Nat.le_of_ble_eq_true rfl, Nat.le_of_ble_eq_true rfl, Nat.le_of_ble_eq_true rfl⟩ ⟨Nat.le_of_ble_eq_true rfl, Nat.le_of_ble_eq_true rfl⟩ dX5_setWind_32 o4x (fun M6 eo4 H locs hw => ?_)
      have hf := hf M6 eo4
      refine lv_aload_n hx hb dX5_setWind_35 rfl (lv_at hl 0 rfl) ?_
      refine fg_X5_29 C hw ht0 dX5_setWind_36 ?_
      refine lv_aload_n hx hb dX5_setWind_39 rfl (lv_at hl 0 rfl) ?_
      refine fg_X5_19 C hw ht0 dX5_setWind_40 ?_
      obtain ⟨M7, e8, hf⟩ := cl_bind_e hf
      refine cr_Vv C hw (c_X1_record hlt (sh_5_3 ht0).1 (sh_5_1 ht0).1 e8) cy_X1_record vy_X1_record ml_X5_78 (cl_lt (sh_5_3 ht0).1 (by decide)) (cl_e1 (sh_5_3 ht0).1) rfl rfl (As := [.ref (b + (t0 + 4))]) rfl hl.1 rfl ⟨⟨Nat.le_of_ble_eq_true rfl, Nat.le_of_ble_eq_true rfl⟩, Nat.le_of_ble_eq_true rfl, Nat.le_of_ble_eq_true rfl, Nat.le_of_ble_eq_true rfl⟩ dX5_setWind_43 (fun H locs hw => ?_)
      refine lv_aload_n hx hb dX5_setWind_46 rfl (lv_at hl 0 rfl) ?_
      refine fg_X5_19 C hw ht0 dX5_setWind_47 ?_
      refine fg_X5_90 C hw (sh_5_1 ht0).1 dX5_setWind_50 ?_
      refine fg_X5_308 C hw (sh_2_4 (sh_5_1 ht0).1).1 dX5_setWind_53 ?_
      refine lv_iload_n hx hb dX5_setWind_56 rfl (lv_at hl 1 rfl) ?_
      obtain ⟨q9, hf⟩ := cl_grd hf
      refine cr_iald C hw (sh_4_1 (sh_2_4 (sh_5_1 ht0).1).1).1 (sh_4_1 (sh_2_4 (sh_5_1 ht0).1).1).2 q9 (k := a1.toNatClampNeg) rfl dX5_setWind_57 ?_
      obtain ⟨v10, ev10, hf⟩ := cl_let_e hf
      refine cr_top ev10 ?_
      refine lv_istore_n (lv' := [(3, .int v10), (0, .ref (b + t0)), (1, .int a1), (2, .int a2)]) hx hb dX5_setWind_58 rfl hl (by decide) rfl (fun ls hl => ?_)
      refine lv_aload_n hx hb dX5_setWind_59 rfl (lv_at hl 1 rfl) ?_
      refine fg_X5_19 C hw ht0 dX5_setWind_60 ?_
      refine fg_X5_90 C hw (sh_5_1 ht0).1 dX5_setWind_63 ?_
      refine fg_X5_308 C hw (sh_2_4 (sh_5_1 ht0).1).1 dX5_setWind_66 ?_
      refine lv_iload_n hx hb dX5_setWind_69 rfl (lv_at hl 2 rfl) ?_
      refine lv_iload_n hx hb dX5_setWind_70 rfl (lv_at hl 3 rfl) ?_
      obtain ⟨q11, hf⟩ := cl_grd hf
      obtain ⟨M12, eM12, hf⟩ := cl_let_e hf
      refine cr_iast C hw (sh_4_1 (sh_2_4 (sh_5_1 ht0).1).1).1 (sh_4_1 (sh_2_4 (sh_5_1 ht0).1).1).2 q11 (k := (a1).toNatClampNeg) rfl eM12 dX5_setWind_71 (fun H locs hw => ?_)
      refine lv_iload_n hx hb dX5_setWind_72 rfl (lv_at hl 0 rfl) ?_
      obtain rfl := Option.some.inj hf
      exact cr_xreti C hw dX5_setWind_73
    · have hf := cl_no c2 hf
      exact k_X5_setWind_18 C TT M _ hf _ _ _ hw (lv_sub hl [] rfl)
set_option maxRecDepth 100000 in
theorem c_X5_setWind {l : Launch} {dd : cl_D} {b : Nat} (hlt : l.stackTraces = false) {M : cl_M} {t0 : Nat} {a1 : Int32} {a2 : Int32}  {o : Except (Nat × cl_M) (Int32 × cl_M)} (ht0 : cl_sh dd t0 = 5) (h : f_X5_setWind M t0 a1 a2 = some o) : cl_Xi l dd b yX5_setWind cX5_setWind 4 (some .int) 7 124 1 [.ref (b + t0), .int a1, .int a2] M o :=
  cl_ofX hlt (by decide) (Nat.le_of_ble_eq_true rfl) (fun p e s m below meth c ls C TT hw hl => k_X5_setWind C TT M t0 a1 a2 o h _ _ _ ht0 hw (lv_sub hl [0, 1, 2] rfl))
theorem cy_X5_setWind : cl_cy yX5_setWind cX5_setWind 4 (some .int) 2 := ⟨in_ClothesLine, cd_X5_setWind, by decide +kernel, by decide +kernel, by decide +kernel⟩
theorem vy_X5_setWind : cl_vy yX5_setWind := ⟨im_X5_setWind, se_X5_setWind⟩
def f_X5_passMinutes (M : cl_M) (t0 : Nat) (a1 : Int32) : Option (Except (Nat × cl_M) (Int32 × cl_M)) := cl_x1 (f_X5_requireRange M a1 1 200) (fun M4 => (f_X1_record M4 (t0 + 42) (t0 + 4)).bind (fun M5 => cl_b2 (f_X2_letPass M5 (t0 + 4) a1) (fun v7 M8 => some (.ok (v7, M8)))))
set_option maxHeartbeats 4000000 in
set_option maxRecDepth 100000 in
theorem k_X5_passMinutes {p : Program} {l : Launch} {e : Env} {s : State} {m : MethodId} {args : Array Value} {below : List Frame} {meth : Method} {c : Code} {dd : cl_D} {b : Nat} (C : cl_C p l s m args meth c cX5_passMinutes RX5 2 (some .int) dd b) (TT : cl_T c) : ∀ (M : cl_M) (t0 : Nat) (a1 : Int32) (o : Except (Nat × cl_M) (Int32 × cl_M)), f_X5_passMinutes M t0 a1 = some o → ∀ (H : Heap) (locs : List Loc) (ls : Array Slot), cl_sh dd t0 = 5 → cl_H dd b M s H locs → lv_has ls 2 [(0, .ref (b + t0)), (1, .int a1)] → W p l e { frames := 7, cells := 1, slots := 6, locals := 124 } s m args below meth c H locs 0 0 (cl_Yi below args s dd b o 1) (F0 m 0 ls []) := by
  have hx := C.1
  have hb := C.2.1
  have hlt := C.2.2.2.2.2.2.2.2.2.2
  have hRr := C.2.2.2.2.2.2.2.2.2.1
  intro M t0 a1 o hf H locs ls ht0 hw hl
  unfold f_X5_passMinutes at hf
  refine lv_iload_n hx hb dX5_passMinutes_0 rfl (lv_at hl 1 rfl) ?_
  refine lv_iconst (v := 1) hx hb dX5_passMinutes_1 (by decide) ?_
  refine lv_sipush (v := 200) hx hb dX5_passMinutes_2 (by decide) ?_
  obtain ⟨o2, e1, o2x, hf⟩ := cl_x1_e hf
  refine cr_XSv C hw TT (c_X5_requireRange hlt e1) cy_X5_requireRange st_X5_requireRange ml_X5_103 (As := [.int a1, .int 1, .int 200]) rfl hl.1 rfl ⟨⟨Nat.le_of_ble_eq_true rfl, Nat.le_of_ble_eq_true rfl⟩, Nat.le_of_ble_eq_true rfl, Nat.le_of_ble_eq_true rfl, Nat.le_of_ble_eq_true rfl⟩ ⟨Nat.le_of_ble_eq_true rfl, Nat.le_of_ble_eq_true rfl⟩ dX5_passMinutes_5 o2x (fun M4 eo2 H locs hw => ?_)
  have hf := hf M4 eo2
  refine lv_aload_n hx hb dX5_passMinutes_8 rfl (lv_at hl 0 rfl) ?_
  refine fg_X5_29 C hw ht0 dX5_passMinutes_9 ?_
  refine lv_aload_n hx hb dX5_passMinutes_12 rfl (lv_at hl 0 rfl) ?_
  refine fg_X5_19 C hw ht0 dX5_passMinutes_13 ?_
  obtain ⟨M5, e6, hf⟩ := cl_bind_e hf
  refine cr_Vv C hw (c_X1_record hlt (sh_5_3 ht0).1 (sh_5_1 ht0).1 e6) cy_X1_record vy_X1_record ml_X5_78 (cl_lt (sh_5_3 ht0).1 (by decide)) (cl_e1 (sh_5_3 ht0).1) rfl rfl (As := [.ref (b + (t0 + 4))]) rfl hl.1 rfl ⟨⟨Nat.le_of_ble_eq_true rfl, Nat.le_of_ble_eq_true rfl⟩, Nat.le_of_ble_eq_true rfl, Nat.le_of_ble_eq_true rfl, Nat.le_of_ble_eq_true rfl⟩ dX5_passMinutes_16 (fun H locs hw => ?_)
  refine lv_aload_n hx hb dX5_passMinutes_19 rfl (lv_at hl 0 rfl) ?_
  refine fg_X5_19 C hw ht0 dX5_passMinutes_20 ?_
  refine lv_iload_n hx hb dX5_passMinutes_23 rfl (lv_at hl 1 rfl) ?_
  obtain ⟨v7, M8, e9, hf⟩ := cl_b2_e hf
  refine cr_Vi C hw (c_X2_letPass hlt (sh_5_1 ht0).1 e9) cy_X2_letPass vy_X2_letPass ml_X5_245 (cl_lt (sh_5_1 ht0).1 (by decide)) (cl_e2 (sh_5_1 ht0).1) rfl rfl (As := [.int a1]) rfl hl.1 rfl ⟨⟨Nat.le_of_ble_eq_true rfl, Nat.le_of_ble_eq_true rfl⟩, Nat.le_of_ble_eq_true rfl, Nat.le_of_ble_eq_true rfl, Nat.le_of_ble_eq_true rfl⟩ dX5_passMinutes_24 (fun H locs hw => ?_)
  obtain rfl := Option.some.inj hf
  exact cr_xreti C hw dX5_passMinutes_27
set_option maxRecDepth 100000 in
theorem c_X5_passMinutes {l : Launch} {dd : cl_D} {b : Nat} (hlt : l.stackTraces = false) {M : cl_M} {t0 : Nat} {a1 : Int32}  {o : Except (Nat × cl_M) (Int32 × cl_M)} (ht0 : cl_sh dd t0 = 5) (h : f_X5_passMinutes M t0 a1 = some o) : cl_Xi l dd b yX5_passMinutes cX5_passMinutes 2 (some .int) 7 124 1 [.ref (b + t0), .int a1] M o :=
  cl_ofX hlt (by decide) (Nat.le_of_ble_eq_true rfl) (fun p e s m below meth c ls C TT hw hl => k_X5_passMinutes C TT M t0 a1 o h _ _ _ ht0 hw (lv_sub hl [0, 1] rfl))
theorem cy_X5_passMinutes : cl_cy yX5_passMinutes cX5_passMinutes 2 (some .int) 1 := ⟨in_ClothesLine, cd_X5_passMinutes, by decide +kernel, by decide +kernel, by decide +kernel⟩
theorem vy_X5_passMinutes : cl_vy yX5_passMinutes := ⟨im_X5_passMinutes, se_X5_passMinutes⟩
def f_X5_undo_15 (M : cl_M) (t0 : Nat) (z0 : Int32) : Option (Except (Nat × cl_M) (Int32 × cl_M)) := cl_x1 (f_X5_requireState M z0) (fun M5 => (f_X1_takeBack M5 (t0 + 42) (t0 + 4)).bind (fun M6 => some (.ok (M6 (t0 + 42) 2, M6))))
set_option maxHeartbeats 4000000 in
set_option maxRecDepth 100000 in
theorem k_X5_undo_15 {p : Program} {l : Launch} {e : Env} {s : State} {m : MethodId} {args : Array Value} {below : List Frame} {meth : Method} {c : Code} {dd : cl_D} {b : Nat} (C : cl_C p l s m args meth c cX5_undo RX5 1 (some .int) dd b) (TT : cl_T c) : ∀ (M : cl_M) (t0 : Nat) (z0 : Int32) (o : Except (Nat × cl_M) (Int32 × cl_M)), f_X5_undo_15 M t0 z0 = some o → ∀ (H : Heap) (locs : List Loc) (ls : Array Slot), cl_sh dd t0 = 5 → cl_H dd b M s H locs → lv_has ls 1 [(0, .ref (b + t0))] → W p l e { frames := 7, cells := 1, slots := 6, locals := 124 } s m args below meth c H locs 0 0 (cl_Yi below args s dd b o 1) (F0 m 15 ls [.int z0]) := by
  have hx := C.1
  have hb := C.2.1
  have hlt := C.2.2.2.2.2.2.2.2.2.2
  have hRr := C.2.2.2.2.2.2.2.2.2.1
  intro M t0 z0 o hf H locs ls ht0 hw hl
  unfold f_X5_undo_15 at hf
  obtain ⟨o3, e2, o3x, hf⟩ := cl_x1_e hf
  refine cr_XSv C hw TT (c_X5_requireState hlt e2) cy_X5_requireState st_X5_requireState ml_X5_258 (As := [.int z0]) rfl hl.1 rfl ⟨⟨Nat.le_of_ble_eq_true rfl, Nat.le_of_ble_eq_true rfl⟩, Nat.le_of_ble_eq_true rfl, Nat.le_of_ble_eq_true rfl, Nat.le_of_ble_eq_true rfl⟩ ⟨Nat.le_of_ble_eq_true rfl, Nat.le_of_ble_eq_true rfl⟩ dX5_undo_15 o3x (fun M5 eo3 H locs hw => ?_)
  have hf := hf M5 eo3
  refine lv_aload_n hx hb dX5_undo_18 rfl (lv_at hl 0 rfl) ?_
  refine fg_X5_29 C hw ht0 dX5_undo_19 ?_
  refine lv_aload_n hx hb dX5_undo_22 rfl (lv_at hl 0 rfl) ?_
  refine fg_X5_19 C hw ht0 dX5_undo_23 ?_
  obtain ⟨M6, e7, hf⟩ := cl_bind_e hf
  refine cr_Vv C hw (c_X1_takeBack hlt (sh_5_3 ht0).1 (sh_5_1 ht0).1 e7) cy_X1_takeBack vy_X1_takeBack ml_X5_311 (cl_lt (sh_5_3 ht0).1 (by decide)) (cl_e1 (sh_5_3 ht0).1) rfl rfl (As := [.ref (b + (t0 + 4))]) rfl hl.1 rfl ⟨⟨Nat.le_of_ble_eq_true rfl, Nat.le_of_ble_eq_true rfl⟩, Nat.le_of_ble_eq_true rfl, Nat.le_of_ble_eq_true rfl, Nat.le_of_ble_eq_true rfl⟩ dX5_undo_26 (fun H locs hw => ?_)
  refine lv_aload_n hx hb dX5_undo_29 rfl (lv_at hl 0 rfl) ?_
  refine fg_X5_29 C hw ht0 dX5_undo_30 ?_
  refine fg_X5_99 C hw (sh_5_3 ht0).1 dX5_undo_33 ?_
  obtain rfl := Option.some.inj hf
  exact cr_xreti C hw dX5_undo_36
def f_X5_undo (M : cl_M) (t0 : Nat) : Option (Except (Nat × cl_M) (Int32 × cl_M)) := if (M (t0 + 42) 2) ≤ 0 then f_X5_undo_15 M t0 0 else f_X5_undo_15 M t0 1
set_option maxHeartbeats 4000000 in
set_option maxRecDepth 100000 in
theorem k_X5_undo {p : Program} {l : Launch} {e : Env} {s : State} {m : MethodId} {args : Array Value} {below : List Frame} {meth : Method} {c : Code} {dd : cl_D} {b : Nat} (C : cl_C p l s m args meth c cX5_undo RX5 1 (some .int) dd b) (TT : cl_T c) : ∀ (M : cl_M) (t0 : Nat) (o : Except (Nat × cl_M) (Int32 × cl_M)), f_X5_undo M t0 = some o → ∀ (H : Heap) (locs : List Loc) (ls : Array Slot), cl_sh dd t0 = 5 → cl_H dd b M s H locs → lv_has ls 1 [(0, .ref (b + t0))] → W p l e { frames := 7, cells := 1, slots := 6, locals := 124 } s m args below meth c H locs 0 0 (cl_Yi below args s dd b o 1) (F0 m 0 ls []) := by
  have hx := C.1
  have hb := C.2.1
  have hlt := C.2.2.2.2.2.2.2.2.2.2
  have hRr := C.2.2.2.2.2.2.2.2.2.1
  intro M t0 o hf H locs ls ht0 hw hl
  unfold f_X5_undo at hf
  refine lv_aload_n hx hb dX5_undo_0 rfl (lv_at hl 0 rfl) ?_
  refine fg_X5_29 C hw ht0 dX5_undo_1 ?_
  refine fg_X5_99 C hw (sh_5_3 ht0).1 dX5_undo_4 ?_
  refine lv_if_le (tgt := 14) hx hb dX5_undo_7 (by decide) (fun c1 => ?_) (fun c1 => ?_)
  · have hf := cl_yes c1 hf
    refine lv_iconst (v := 0) hx hb dX5_undo_14 (by decide) ?_
    exact k_X5_undo_15 C TT M t0 0 _ hf _ _ _ ht0 hw (lv_sub hl [0] rfl)
  · have hf := cl_no c1 hf
    refine lv_iconst (v := 1) hx hb dX5_undo_10 (by decide) ?_
    refine lv_goto (tgt := 15) hx hb dX5_undo_11 (by decide) ?_
    exact k_X5_undo_15 C TT M t0 1 _ hf _ _ _ ht0 hw (lv_sub hl [0] rfl)
set_option maxRecDepth 100000 in
theorem c_X5_undo {l : Launch} {dd : cl_D} {b : Nat} (hlt : l.stackTraces = false) {M : cl_M} {t0 : Nat}  {o : Except (Nat × cl_M) (Int32 × cl_M)} (ht0 : cl_sh dd t0 = 5) (h : f_X5_undo M t0 = some o) : cl_Xi l dd b yX5_undo cX5_undo 1 (some .int) 7 124 1 [.ref (b + t0)] M o :=
  cl_ofX hlt (by decide) (Nat.le_of_ble_eq_true rfl) (fun p e s m below meth c ls C TT hw hl => k_X5_undo C TT M t0 o h _ _ _ ht0 hw (lv_sub hl [0] rfl))
theorem cy_X5_undo : cl_cy yX5_undo cX5_undo 1 (some .int) 0 := ⟨in_ClothesLine, cd_X5_undo, by decide +kernel, by decide +kernel, by decide +kernel⟩
theorem vy_X5_undo : cl_vy yX5_undo := ⟨im_X5_undo, se_X5_undo⟩
def f_X5_save (M : cl_M) (t0 : Nat) (a1 : Int32) : Option (Except (Nat × cl_M) (Int32 × cl_M)) := cl_x1 (f_X5_requireRange M a1 0 1) (fun M4 => if cl_inb a1 2 = true then (f_X2_copyFrom M4 ((t0 + 196) + 3 + 19 * (a1).toNatClampNeg) (t0 + 4)).bind (fun M6 => if cl_inb a1 2 = true then cl_let (cl_ms M6 (t0 + 197) (a1).toNatClampNeg (vp_nar .boolean 1)) (fun M9 => some (.ok (M9 (t0 + 4) 2, M9))) else none) else none)
set_option maxHeartbeats 4000000 in
set_option maxRecDepth 100000 in
theorem k_X5_save {p : Program} {l : Launch} {e : Env} {s : State} {m : MethodId} {args : Array Value} {below : List Frame} {meth : Method} {c : Code} {dd : cl_D} {b : Nat} (C : cl_C p l s m args meth c cX5_save RX5 2 (some .int) dd b) (TT : cl_T c) : ∀ (M : cl_M) (t0 : Nat) (a1 : Int32) (o : Except (Nat × cl_M) (Int32 × cl_M)), f_X5_save M t0 a1 = some o → ∀ (H : Heap) (locs : List Loc) (ls : Array Slot), cl_sh dd t0 = 5 → cl_H dd b M s H locs → lv_has ls 2 [(0, .ref (b + t0)), (1, .int a1)] → W p l e { frames := 7, cells := 1, slots := 6, locals := 112 } s m args below meth c H locs 0 0 (cl_Yi below args s dd b o 1) (F0 m 0 ls []) := by
  have hx := C.1
  have hb := C.2.1
  have hlt := C.2.2.2.2.2.2.2.2.2.2
  have hRr := C.2.2.2.2.2.2.2.2.2.1
  intro M t0 a1 o hf H locs ls ht0 hw hl
  unfold f_X5_save at hf
  refine lv_iload_n hx hb dX5_save_0 rfl (lv_at hl 1 rfl) ?_
  refine lv_iconst (v := 0) hx hb dX5_save_1 (by decide) ?_
  refine lv_iconst (v := 1) hx hb dX5_save_2 (by decide) ?_
  obtain ⟨o2, e1, o2x, hf⟩ := cl_x1_e hf
  refine cr_XSv C hw TT (c_X5_requireRange hlt e1) cy_X5_requireRange st_X5_requireRange ml_X5_103 (As := [.int a1, .int 0, .int 1]) rfl hl.1 rfl ⟨⟨Nat.le_of_ble_eq_true rfl, Nat.le_of_ble_eq_true rfl⟩, Nat.le_of_ble_eq_true rfl, Nat.le_of_ble_eq_true rfl, Nat.le_of_ble_eq_true rfl⟩ ⟨Nat.le_of_ble_eq_true rfl, Nat.le_of_ble_eq_true rfl⟩ dX5_save_3 o2x (fun M4 eo2 H locs hw => ?_)
  have hf := hf M4 eo2
  refine lv_aload_n hx hb dX5_save_6 rfl (lv_at hl 0 rfl) ?_
  refine fg_X5_33 C hw ht0 dX5_save_7 ?_
  refine lv_iload_n hx hb dX5_save_10 rfl (lv_at hl 1 rfl) ?_
  obtain ⟨q5, hf⟩ := cl_grd hf
  refine cr_ald11 C hw (sh_5_4 ht0).1 q5 (k := (a1).toNatClampNeg) rfl dX5_save_11 ?_
  refine lv_aload_n hx hb dX5_save_12 rfl (lv_at hl 0 rfl) ?_
  refine fg_X5_19 C hw ht0 dX5_save_13 ?_
  obtain ⟨M6, e7, hf⟩ := cl_bind_e hf
  refine cr_Vv C hw (c_X2_copyFrom hlt (sh_el_11 (sh_5_4 ht0).1 (cl_inb_lt q5)) (sh_5_1 ht0).1 e7) cy_X2_copyFrom vy_X2_copyFrom ml_X5_66 (cl_lt (sh_el_11 (sh_5_4 ht0).1 (cl_inb_lt q5)) (by decide)) (cl_e2 (sh_el_11 (sh_5_4 ht0).1 (cl_inb_lt q5))) rfl rfl (As := [.ref (b + (t0 + 4))]) rfl hl.1 rfl ⟨⟨Nat.le_of_ble_eq_true rfl, Nat.le_of_ble_eq_true rfl⟩, Nat.le_of_ble_eq_true rfl, Nat.le_of_ble_eq_true rfl, Nat.le_of_ble_eq_true rfl⟩ dX5_save_16 (fun H locs hw => ?_)
  refine lv_aload_n hx hb dX5_save_19 rfl (lv_at hl 0 rfl) ?_
  refine fg_X5_37 C hw ht0 dX5_save_20 ?_
  refine lv_iload_n hx hb dX5_save_23 rfl (lv_at hl 1 rfl) ?_
  refine lv_iconst (v := 1) hx hb dX5_save_24 (by decide) ?_
  obtain ⟨q8, hf⟩ := cl_grd hf
  obtain ⟨M9, eM9, hf⟩ := cl_let_e hf
  refine cr_zast C hw (sh_5_5 ht0).1 (sh_5_5 ht0).2 q8 (k := (a1).toNatClampNeg) rfl eM9 dX5_save_25 (fun H locs hw => ?_)
  refine lv_aload_n hx hb dX5_save_26 rfl (lv_at hl 0 rfl) ?_
  refine fg_X5_19 C hw ht0 dX5_save_27 ?_
  refine fg_X5_87 C hw (sh_5_1 ht0).1 dX5_save_30 ?_
  obtain rfl := Option.some.inj hf
  exact cr_xreti C hw dX5_save_33
set_option maxRecDepth 100000 in
theorem c_X5_save {l : Launch} {dd : cl_D} {b : Nat} (hlt : l.stackTraces = false) {M : cl_M} {t0 : Nat} {a1 : Int32}  {o : Except (Nat × cl_M) (Int32 × cl_M)} (ht0 : cl_sh dd t0 = 5) (h : f_X5_save M t0 a1 = some o) : cl_Xi l dd b yX5_save cX5_save 2 (some .int) 7 112 1 [.ref (b + t0), .int a1] M o :=
  cl_ofX hlt (by decide) (Nat.le_of_ble_eq_true rfl) (fun p e s m below meth c ls C TT hw hl => k_X5_save C TT M t0 a1 o h _ _ _ ht0 hw (lv_sub hl [0, 1] rfl))
theorem cy_X5_save : cl_cy yX5_save cX5_save 2 (some .int) 1 := ⟨in_ClothesLine, cd_X5_save, by decide +kernel, by decide +kernel, by decide +kernel⟩
theorem vy_X5_save : cl_vy yX5_save := ⟨im_X5_save, se_X5_save⟩
def f_X5_restore (M : cl_M) (t0 : Nat) (a1 : Int32) : Option (Except (Nat × cl_M) (Int32 × cl_M)) := cl_x1 (f_X5_requireRange M a1 0 1) (fun M4 => if cl_inb a1 2 = true then if (M4 (t0 + 197) (a1.toNatClampNeg)) = 0 then some (.error (4, M4)) else if cl_inb a1 2 = true then (f_X2_copyFrom M4 (t0 + 4) ((t0 + 196) + 3 + 19 * (a1).toNatClampNeg)).bind (fun M8 => (f_X1_clear M8 (t0 + 42)).bind (fun M10 => some (.ok (M10 (t0 + 4) 2, M10)))) else none else none)
set_option maxHeartbeats 4000000 in
set_option maxRecDepth 100000 in
theorem k_X5_restore {p : Program} {l : Launch} {e : Env} {s : State} {m : MethodId} {args : Array Value} {below : List Frame} {meth : Method} {c : Code} {dd : cl_D} {b : Nat} (C : cl_C p l s m args meth c cX5_restore RX5 2 (some .int) dd b) (TT : cl_T c) : ∀ (M : cl_M) (t0 : Nat) (a1 : Int32) (o : Except (Nat × cl_M) (Int32 × cl_M)), f_X5_restore M t0 a1 = some o → ∀ (H : Heap) (locs : List Loc) (ls : Array Slot), cl_sh dd t0 = 5 → cl_H dd b M s H locs → lv_has ls 2 [(0, .ref (b + t0)), (1, .int a1)] → W p l e { frames := 7, cells := 2, slots := 12, locals := 112 } s m args below meth c H locs 0 0 (cl_Yi below args s dd b o 2) (F0 m 0 ls []) := by
  have hx := C.1
  have hb := C.2.1
  have hlt := C.2.2.2.2.2.2.2.2.2.2
  have hRr := C.2.2.2.2.2.2.2.2.2.1
  intro M t0 a1 o hf H locs ls ht0 hw hl
  unfold f_X5_restore at hf
  refine lv_iload_n hx hb dX5_restore_0 rfl (lv_at hl 1 rfl) ?_
  refine lv_iconst (v := 0) hx hb dX5_restore_1 (by decide) ?_
  refine lv_iconst (v := 1) hx hb dX5_restore_2 (by decide) ?_
  obtain ⟨o2, e1, o2x, hf⟩ := cl_x1_e hf
  refine cr_XSv C hw TT (c_X5_requireRange hlt e1) cy_X5_requireRange st_X5_requireRange ml_X5_103 (As := [.int a1, .int 0, .int 1]) rfl hl.1 rfl ⟨⟨Nat.le_of_ble_eq_true rfl, Nat.le_of_ble_eq_true rfl⟩, Nat.le_of_ble_eq_true rfl, Nat.le_of_ble_eq_true rfl, Nat.le_of_ble_eq_true rfl⟩ ⟨Nat.le_of_ble_eq_true rfl, Nat.le_of_ble_eq_true rfl⟩ dX5_restore_3 o2x (fun M4 eo2 H locs hw => ?_)
  have hf := hf M4 eo2
  refine lv_aload_n hx hb dX5_restore_6 rfl (lv_at hl 0 rfl) ?_
  refine fg_X5_37 C hw ht0 dX5_restore_7 ?_
  refine lv_iload_n hx hb dX5_restore_10 rfl (lv_at hl 1 rfl) ?_
  obtain ⟨q5, hf⟩ := cl_grd hf
  refine cr_zald C hw (sh_5_5 ht0).1 (sh_5_5 ht0).2 q5 (k := a1.toNatClampNeg) rfl dX5_restore_11 ?_
  refine lv_if_ne (tgt := 26) hx hb dX5_restore_12 (by decide) (fun c6 => ?_) (fun c6 => ?_)
  · have hf := cl_no c6 hf
    refine lv_aload_n hx hb dX5_restore_26 rfl (lv_at hl 0 rfl) ?_
    refine fg_X5_19 C hw ht0 dX5_restore_27 ?_
    refine lv_aload_n hx hb dX5_restore_30 rfl (lv_at hl 0 rfl) ?_
    refine fg_X5_33 C hw ht0 dX5_restore_31 ?_
    refine lv_iload_n hx hb dX5_restore_34 rfl (lv_at hl 1 rfl) ?_
    obtain ⟨q7, hf⟩ := cl_grd hf
    refine cr_ald11 C hw (sh_5_4 ht0).1 q7 (k := (a1).toNatClampNeg) rfl dX5_restore_35 ?_
    obtain ⟨M8, e9, hf⟩ := cl_bind_e hf
    refine cr_Vv C hw (c_X2_copyFrom hlt (sh_5_1 ht0).1 (sh_el_11 (sh_5_4 ht0).1 (cl_inb_lt q7)) e9) cy_X2_copyFrom vy_X2_copyFrom ml_X5_66 (cl_lt (sh_5_1 ht0).1 (by decide)) (cl_e2 (sh_5_1 ht0).1) rfl rfl (As := [.ref (b + ((t0 + 196) + 3 + 19 * (a1).toNatClampNeg))]) rfl hl.1 rfl ⟨⟨Nat.le_of_ble_eq_true rfl, Nat.le_of_ble_eq_true rfl⟩, Nat.le_of_ble_eq_true rfl, Nat.le_of_ble_eq_true rfl, Nat.le_of_ble_eq_true rfl⟩ dX5_restore_36 (fun H locs hw => ?_)
    refine lv_aload_n hx hb dX5_restore_39 rfl (lv_at hl 0 rfl) ?_
    refine fg_X5_29 C hw ht0 dX5_restore_40 ?_
    obtain ⟨M10, e11, hf⟩ := cl_bind_e hf
    refine cr_Vv C hw (c_X1_clear hlt (sh_5_3 ht0).1 e11) cy_X1_clear vy_X1_clear ml_X5_70 (cl_lt (sh_5_3 ht0).1 (by decide)) (cl_e1 (sh_5_3 ht0).1) rfl rfl (As := []) rfl hl.1 rfl ⟨⟨Nat.le_of_ble_eq_true rfl, Nat.le_of_ble_eq_true rfl⟩, Nat.le_of_ble_eq_true rfl, Nat.le_of_ble_eq_true rfl, Nat.le_of_ble_eq_true rfl⟩ dX5_restore_43 (fun H locs hw => ?_)
    refine lv_aload_n hx hb dX5_restore_46 rfl (lv_at hl 0 rfl) ?_
    refine fg_X5_19 C hw ht0 dX5_restore_47 ?_
    refine fg_X5_87 C hw (sh_5_1 ht0).1 dX5_restore_50 ?_
    obtain rfl := Option.some.inj hf
    refine W.widen (k := 2) (n := 12) (by decide) (by decide) ?_
    exact cr_xreti C hw dX5_restore_53
  · have hf := cl_yes c6 hf
    obtain rfl := Option.some.inj hf
    exact cr_throwN C hw TT cl_X5_314 in_java_util_NoSuchElementException (sr_24 hRr) hl.1 ⟨Nat.le_of_ble_eq_true rfl, Nat.le_of_ble_eq_true rfl, Nat.le_of_ble_eq_true rfl, Nat.le_of_ble_eq_true rfl⟩ ⟨Nat.le_of_ble_eq_true rfl, Nat.le_of_ble_eq_true rfl⟩ dX5_restore_15 dX5_restore_18 dX5_restore_19 dX5_restore_22 dX5_restore_25
set_option maxRecDepth 100000 in
theorem c_X5_restore {l : Launch} {dd : cl_D} {b : Nat} (hlt : l.stackTraces = false) {M : cl_M} {t0 : Nat} {a1 : Int32}  {o : Except (Nat × cl_M) (Int32 × cl_M)} (ht0 : cl_sh dd t0 = 5) (h : f_X5_restore M t0 a1 = some o) : cl_Xi l dd b yX5_restore cX5_restore 2 (some .int) 7 112 2 [.ref (b + t0), .int a1] M o :=
  cl_ofX hlt (by decide) (Nat.le_of_ble_eq_true rfl) (fun p e s m below meth c ls C TT hw hl => k_X5_restore C TT M t0 a1 o h _ _ _ ht0 hw (lv_sub hl [0, 1] rfl))
theorem cy_X5_restore : cl_cy yX5_restore cX5_restore 2 (some .int) 1 := ⟨in_ClothesLine, cd_X5_restore, by decide +kernel, by decide +kernel, by decide +kernel⟩
theorem vy_X5_restore : cl_vy yX5_restore := ⟨im_X5_restore, se_X5_restore⟩
def f_X5_writeLine_75 (r20 : cl_M → Nat → Int32 → Int32 → Option (Int32 × cl_M)) (M : cl_M) (t0 : Nat) (a1 : Int32) (a2 : Int32) : Option (Int32 × cl_M) := cl_let (a2 + 1) (fun v11 => r20 M t0 a1 v11)
set_option maxHeartbeats 4000000 in
set_option maxRecDepth 100000 in
theorem k_X5_writeLine_75 {p : Program} {l : Launch} {e : Env} {s : State} {m : MethodId} {args : Array Value} {below : List Frame} {meth : Method} {c : Code} {dd : cl_D} {b : Nat} (C : cl_C p l s m args meth c cX5_writeLine RX5 4 (some .int) dd b) {r20 : cl_M → Nat → Int32 → Int32 → Option (Int32 × cl_M)} (hr20 : ∀ (M : cl_M) (t0 : Nat) (a1 : Int32) (a2 : Int32) (r : Int32) (M' : cl_M), r20 M t0 a1 a2 = some (r, M') → ∀ (H : Heap) (locs : List Loc) (ls : Array Slot), cl_sh dd t0 = 5 → cl_H dd b M s H locs → lv_has ls 4 [(0, .ref (b + t0)), (1, .int a1), (2, .int a2)] → W p l e { frames := 2, cells := 0, slots := 0, locals := 46 } s m args below meth c H locs 0 0 (cl_Zi below args s dd b r M') (F0 m 20 ls [])) : ∀ (M : cl_M) (t0 : Nat) (a1 : Int32) (a2 : Int32) (r : Int32) (M' : cl_M), f_X5_writeLine_75 r20 M t0 a1 a2 = some (r, M') → ∀ (H : Heap) (locs : List Loc) (ls : Array Slot), cl_sh dd t0 = 5 → cl_H dd b M s H locs → lv_has ls 4 [(0, .ref (b + t0)), (1, .int a1), (2, .int a2)] → W p l e { frames := 2, cells := 0, slots := 0, locals := 46 } s m args below meth c H locs 0 0 (cl_Zi below args s dd b r M') (F0 m 75 ls []) := by
  have hx := C.1
  have hb := C.2.1
  have hlt := C.2.2.2.2.2.2.2.2.2.2
  have hRr := C.2.2.2.2.2.2.2.2.2.1
  intro M t0 a1 a2 r M' hf H locs ls ht0 hw hl
  unfold f_X5_writeLine_75 at hf
  obtain ⟨v11, ev11, hf⟩ := cl_let_e hf
  refine lv_iinc (v := v11) (lv' := [(2, .int v11), (0, .ref (b + t0)), (1, .int a1)]) hx hb dX5_writeLine_75 hl (k := 2) rfl (by rw [ev11]; rfl) (by decide) rfl (fun ls hl => ?_)
  refine lv_goto (tgt := 20) hx hb dX5_writeLine_78 (by decide) ?_
  exact hr20 M t0 a1 v11 _ _ hf _ _ _ ht0 hw (lv_sub hl [1, 2, 0] rfl)
def f_X5_writeLine_74 (r20 : cl_M → Nat → Int32 → Int32 → Option (Int32 × cl_M)) (M : cl_M) (t0 : Nat) (a1 : Int32) (a2 : Int32) (z0 : Int32) (z1 : Int32) (w2 : Nat) : Option (Int32 × cl_M) := if cl_inb z1 24 = true then cl_let (cl_ms M w2 (z1).toNatClampNeg z0) (fun M10 => f_X5_writeLine_75 r20 M10 t0 a1 a2) else none
set_option maxHeartbeats 4000000 in
set_option maxRecDepth 100000 in
theorem k_X5_writeLine_74 {p : Program} {l : Launch} {e : Env} {s : State} {m : MethodId} {args : Array Value} {below : List Frame} {meth : Method} {c : Code} {dd : cl_D} {b : Nat} (C : cl_C p l s m args meth c cX5_writeLine RX5 4 (some .int) dd b) {r20 : cl_M → Nat → Int32 → Int32 → Option (Int32 × cl_M)} (hr20 : ∀ (M : cl_M) (t0 : Nat) (a1 : Int32) (a2 : Int32) (r : Int32) (M' : cl_M), r20 M t0 a1 a2 = some (r, M') → ∀ (H : Heap) (locs : List Loc) (ls : Array Slot), cl_sh dd t0 = 5 → cl_H dd b M s H locs → lv_has ls 4 [(0, .ref (b + t0)), (1, .int a1), (2, .int a2)] → W p l e { frames := 2, cells := 0, slots := 0, locals := 46 } s m args below meth c H locs 0 0 (cl_Zi below args s dd b r M') (F0 m 20 ls [])) : ∀ (M : cl_M) (t0 : Nat) (a1 : Int32) (a2 : Int32) (z0 : Int32) (z1 : Int32) (w2 : Nat) (r : Int32) (M' : cl_M), f_X5_writeLine_74 r20 M t0 a1 a2 z0 z1 w2 = some (r, M') → ∀ (H : Heap) (locs : List Loc) (ls : Array Slot), cl_sh dd t0 = 5 → cl_sh dd w2 = 7 → cl_ln w2 = 24 → cl_H dd b M s H locs → lv_has ls 4 [(0, .ref (b + t0)), (1, .int a1), (2, .int a2)] → W p l e { frames := 2, cells := 0, slots := 0, locals := 46 } s m args below meth c H locs 0 0 (cl_Zi below args s dd b r M') (F0 m 74 ls [.int z0, .int z1, .ref (b + w2)]) := by
  have hx := C.1
  have hb := C.2.1
  have hlt := C.2.2.2.2.2.2.2.2.2.2
  have hRr := C.2.2.2.2.2.2.2.2.2.1
  intro M t0 a1 a2 z0 z1 w2 r M' hf H locs ls ht0 hw2 gw2 hw hl
  unfold f_X5_writeLine_74 at hf
  obtain ⟨q9, hf⟩ := cl_grd hf
  obtain ⟨M10, eM10, hf⟩ := cl_let_e hf
  refine cr_iast C hw hw2 gw2 q9 (k := (z1).toNatClampNeg) rfl eM10 dX5_writeLine_74 (fun H locs hw => ?_)
  exact k_X5_writeLine_75 C hr20 M10 t0 a1 a2 _ _ hf _ _ _ ht0 hw (lv_sub hl [0, 1, 2] rfl)
def f_X5_writeLine_20 : Nat → cl_M → Nat → Int32 → Int32 → Option (Int32 × cl_M)
  | 0, _, _, _, _ => none
  | k + 1, M, t0, a1, a2 => if 24 ≤ a2 then cl_let (cl_ms M t0 7 24) (fun M4 => some (M4 t0 7, M4)) else (f_X2_occupant M (t0 + 4) a2).bind (fun v5 => if v5 = (-1) then if ((a1 >>> (a2 &&& 31)) &&& 1) = 1 then f_X5_writeLine_74 (f_X5_writeLine_20 k) M t0 a1 a2 42 a2 (t0 + 198) else f_X5_writeLine_74 (f_X5_writeLine_20 k) M t0 a1 a2 45 a2 (t0 + 198) else if cl_inb a2 24 = true then cl_let (cl_ms M (t0 + 198) (a2).toNatClampNeg (48 + v5)) (fun M13 => f_X5_writeLine_75 (f_X5_writeLine_20 k) M13 t0 a1 a2) else none)
set_option maxHeartbeats 4000000 in
set_option maxRecDepth 100000 in
theorem k_X5_writeLine_20 {p : Program} {l : Launch} {e : Env} {s : State} {m : MethodId} {args : Array Value} {below : List Frame} {meth : Method} {c : Code} {dd : cl_D} {b : Nat} (C : cl_C p l s m args meth c cX5_writeLine RX5 4 (some .int) dd b) : ∀ (k : Nat), ∀ (M : cl_M) (t0 : Nat) (a1 : Int32) (a2 : Int32) (r : Int32) (M' : cl_M), f_X5_writeLine_20 k M t0 a1 a2 = some (r, M') → ∀ (H : Heap) (locs : List Loc) (ls : Array Slot), cl_sh dd t0 = 5 → cl_H dd b M s H locs → lv_has ls 4 [(0, .ref (b + t0)), (1, .int a1), (2, .int a2)] → W p l e { frames := 2, cells := 0, slots := 0, locals := 46 } s m args below meth c H locs 0 0 (cl_Zi below args s dd b r M') (F0 m 20 ls []) := by
  have hx := C.1
  have hb := C.2.1
  have hlt := C.2.2.2.2.2.2.2.2.2.2
  have hRr := C.2.2.2.2.2.2.2.2.2.1
  intro k
  induction k with
  | zero =>
    intro M t0 a1 a2 r M' hf H locs ls ht0 hw hl
    rw [f_X5_writeLine_20] at hf
    cases hf
  | succ k ih =>
    intro M t0 a1 a2 r M' hf H locs ls ht0 hw hl
    rw [f_X5_writeLine_20] at hf
    refine lv_iload_n hx hb dX5_writeLine_20 rfl (lv_at hl 2 rfl) ?_
    refine lv_bipush (v := 24) hx hb dX5_writeLine_21 (by decide) ?_
    refine lv_icmp_ge (tgt := 81) hx hb dX5_writeLine_23 (by decide) (fun c3 => ?_) (fun c3 => ?_)
    · have hf := cl_yes c3 hf
      refine lv_aload_n hx hb dX5_writeLine_81 rfl (lv_at hl 0 rfl) ?_
      refine lv_bipush (v := 24) hx hb dX5_writeLine_82 (by decide) ?_
      obtain ⟨M4, eM4, hf⟩ := cl_let_e hf
      refine fp_X5_319 C hw ht0 eM4 dX5_writeLine_84 (fun H locs hw => ?_)
      refine lv_aload_n hx hb dX5_writeLine_87 rfl (lv_at hl 0 rfl) ?_
      refine fg_X5_319 C hw ht0 dX5_writeLine_88 ?_
      obtain ⟨rfl, rfl⟩ := cl_pair hf
      exact cr_reti C hw dX5_writeLine_91
    · have hf := cl_no c3 hf
      refine lv_aload_n hx hb dX5_writeLine_26 rfl (lv_at hl 0 rfl) ?_
      refine fg_X5_19 C hw ht0 dX5_writeLine_27 ?_
      refine lv_iload_n hx hb dX5_writeLine_30 rfl (lv_at hl 2 rfl) ?_
      obtain ⟨v5, e6, hf⟩ := cl_bind_e hf
      refine cr_Vi C hw (c_X2_occupant hlt (sh_5_1 ht0).1 e6) cy_X2_occupant vy_X2_occupant ml_X5_140 (cl_lt (sh_5_1 ht0).1 (by decide)) (cl_e2 (sh_5_1 ht0).1) rfl rfl (As := [.int a2]) rfl hl.1 rfl ⟨⟨Nat.le_of_ble_eq_true rfl, Nat.le_of_ble_eq_true rfl⟩, Nat.le_of_ble_eq_true rfl, Nat.le_of_ble_eq_true rfl, Nat.le_of_ble_eq_true rfl⟩ dX5_writeLine_31 (fun H locs hw => ?_)
      refine lv_istore_n (lv' := [(3, .int v5), (0, .ref (b + t0)), (1, .int a1), (2, .int a2)]) hx hb dX5_writeLine_34 rfl hl (by decide) rfl (fun ls hl => ?_)
      refine lv_iload_n hx hb dX5_writeLine_35 rfl (lv_at hl 0 rfl) ?_
      refine lv_iconst (v := (-1)) hx hb dX5_writeLine_36 (by decide) ?_
      refine lv_icmp_eq (tgt := 53) hx hb dX5_writeLine_37 (by decide) (fun c7 => ?_) (fun c7 => ?_)
      · have hf := cl_yes c7 hf
        refine lv_aload_n hx hb dX5_writeLine_53 rfl (lv_at hl 1 rfl) ?_
        refine fg_X5_41 C hw ht0 dX5_writeLine_54 ?_
        refine lv_iload_n hx hb dX5_writeLine_57 rfl (lv_at hl 3 rfl) ?_
        refine lv_iload_n hx hb dX5_writeLine_58 rfl (lv_at hl 2 rfl) ?_
        refine lv_iload_n hx hb dX5_writeLine_59 rfl (lv_at hl 3 rfl) ?_
        refine lv_ishr hx hb dX5_writeLine_60 ?_
        refine lv_iconst (v := 1) hx hb dX5_writeLine_61 (by decide) ?_
        refine lv_iand hx hb dX5_writeLine_62 ?_
        refine lv_iconst (v := 1) hx hb dX5_writeLine_63 (by decide) ?_
        refine lv_icmp_ne (tgt := 72) hx hb dX5_writeLine_64 (by decide) (fun c8 => ?_) (fun c8 => ?_)
        · have hf := cl_no c8 hf
          refine lv_bipush (v := 45) hx hb dX5_writeLine_72 (by decide) ?_
          exact k_X5_writeLine_74 C ih M t0 a1 a2 45 a2 (t0 + 198) _ _ hf _ _ _ ht0 (sh_5_6 ht0).1 (sh_5_6 ht0).2 hw (lv_sub hl [1, 2, 3] rfl)
        · have hf := cl_yes c8 hf
          refine lv_bipush (v := 42) hx hb dX5_writeLine_67 (by decide) ?_
          refine lv_goto (tgt := 74) hx hb dX5_writeLine_69 (by decide) ?_
          exact k_X5_writeLine_74 C ih M t0 a1 a2 42 a2 (t0 + 198) _ _ hf _ _ _ ht0 (sh_5_6 ht0).1 (sh_5_6 ht0).2 hw (lv_sub hl [1, 2, 3] rfl)
      · have hf := cl_no c7 hf
        refine lv_aload_n hx hb dX5_writeLine_40 rfl (lv_at hl 1 rfl) ?_
        refine fg_X5_41 C hw ht0 dX5_writeLine_41 ?_
        refine lv_iload_n hx hb dX5_writeLine_44 rfl (lv_at hl 3 rfl) ?_
        refine lv_bipush (v := 48) hx hb dX5_writeLine_45 (by decide) ?_
        refine lv_iload_n hx hb dX5_writeLine_47 rfl (lv_at hl 0 rfl) ?_
        refine lv_iadd hx hb dX5_writeLine_48 ?_
        obtain ⟨q12, hf⟩ := cl_grd hf
        obtain ⟨M13, eM13, hf⟩ := cl_let_e hf
        refine cr_iast C hw (sh_5_6 ht0).1 (sh_5_6 ht0).2 q12 (k := (a2).toNatClampNeg) rfl eM13 dX5_writeLine_49 (fun H locs hw => ?_)
        refine lv_goto (tgt := 75) hx hb dX5_writeLine_50 (by decide) ?_
        exact k_X5_writeLine_75 C ih M13 t0 a1 a2 _ _ hf _ _ _ ht0 hw (lv_sub hl [1, 2, 3] rfl)
def f_X5_writeLine (M : cl_M) (t0 : Nat) : Option (Int32 × cl_M) := (f_X4_sunnyAt M ((t0 + 4) + 1) (M (t0 + 4) 2)).bind (fun v1 => f_X5_writeLine_20 cl_F M t0 v1 0)
set_option maxHeartbeats 4000000 in
set_option maxRecDepth 100000 in
theorem k_X5_writeLine {p : Program} {l : Launch} {e : Env} {s : State} {m : MethodId} {args : Array Value} {below : List Frame} {meth : Method} {c : Code} {dd : cl_D} {b : Nat} (C : cl_C p l s m args meth c cX5_writeLine RX5 4 (some .int) dd b) : ∀ (M : cl_M) (t0 : Nat) (r : Int32) (M' : cl_M), f_X5_writeLine M t0 = some (r, M') → ∀ (H : Heap) (locs : List Loc) (ls : Array Slot), cl_sh dd t0 = 5 → cl_H dd b M s H locs → lv_has ls 4 [(0, .ref (b + t0))] → W p l e { frames := 2, cells := 0, slots := 0, locals := 46 } s m args below meth c H locs 0 0 (cl_Zi below args s dd b r M') (F0 m 0 ls []) := by
  have hx := C.1
  have hb := C.2.1
  have hlt := C.2.2.2.2.2.2.2.2.2.2
  have hRr := C.2.2.2.2.2.2.2.2.2.1
  intro M t0 r M' hf H locs ls ht0 hw hl
  unfold f_X5_writeLine at hf
  refine lv_aload_n hx hb dX5_writeLine_0 rfl (lv_at hl 0 rfl) ?_
  refine fg_X5_19 C hw ht0 dX5_writeLine_1 ?_
  refine fg_X5_90 C hw (sh_5_1 ht0).1 dX5_writeLine_4 ?_
  refine lv_aload_n hx hb dX5_writeLine_7 rfl (lv_at hl 0 rfl) ?_
  refine fg_X5_19 C hw ht0 dX5_writeLine_8 ?_
  refine fg_X5_87 C hw (sh_5_1 ht0).1 dX5_writeLine_11 ?_
  obtain ⟨v1, e2, hf⟩ := cl_bind_e hf
  refine cr_Vi C hw (c_X4_sunnyAt hlt (sh_2_4 (sh_5_1 ht0).1).1 e2) cy_X4_sunnyAt vy_X4_sunnyAt ml_X5_114 (cl_lt (sh_2_4 (sh_5_1 ht0).1).1 (by decide)) (cl_e4 (sh_2_4 (sh_5_1 ht0).1).1) rfl rfl (As := [.int (M (t0 + 4) 2)]) rfl hl.1 rfl ⟨⟨Nat.le_of_ble_eq_true rfl, Nat.le_of_ble_eq_true rfl⟩, Nat.le_of_ble_eq_true rfl, Nat.le_of_ble_eq_true rfl, Nat.le_of_ble_eq_true rfl⟩ dX5_writeLine_14 (fun H locs hw => ?_)
  refine lv_istore_n (lv' := [(1, .int v1), (0, .ref (b + t0))]) hx hb dX5_writeLine_17 rfl hl (by decide) rfl (fun ls hl => ?_)
  refine lv_iconst (v := 0) hx hb dX5_writeLine_18 (by decide) ?_
  refine lv_istore_n (lv' := [(2, .int 0), (1, .int v1), (0, .ref (b + t0))]) hx hb dX5_writeLine_19 rfl hl (by decide) rfl (fun ls hl => ?_)
  exact k_X5_writeLine_20 C cl_F M t0 v1 0 _ _ hf _ _ _ ht0 hw (lv_sub hl [2, 1, 0] rfl)
set_option maxRecDepth 100000 in
theorem c_X5_writeLine {l : Launch} {dd : cl_D} {b : Nat} (hlt : l.stackTraces = false) {M : cl_M} {t0 : Nat}  {r : Int32} {M' : cl_M} (ht0 : cl_sh dd t0 = 5) (h : f_X5_writeLine M t0 = some (r, M')) : cl_Mi l dd b yX5_writeLine cX5_writeLine 4 (some .int) 2 46 [.ref (b + t0)] M r M' :=
  cl_of hlt (by decide) (Nat.le_of_ble_eq_true rfl) (fun p e s m below meth c ls C hw hl => k_X5_writeLine C M t0 r M' h _ _ _ ht0 hw (lv_sub hl [0] rfl))
theorem cy_X5_writeLine : cl_cy yX5_writeLine cX5_writeLine 4 (some .int) 0 := ⟨in_ClothesLine, cd_X5_writeLine, by decide +kernel, by decide +kernel, by decide +kernel⟩
theorem vy_X5_writeLine : cl_vy yX5_writeLine := ⟨im_X5_writeLine, se_X5_writeLine⟩
def f_X5_outputByte_22 (M : cl_M) (z0 : Int32) : Option (Int32) := some z0
set_option maxHeartbeats 4000000 in
set_option maxRecDepth 100000 in
theorem k_X5_outputByte_22 {p : Program} {l : Launch} {e : Env} {s : State} {m : MethodId} {args : Array Value} {below : List Frame} {meth : Method} {c : Code} {dd : cl_D} {b : Nat} (C : cl_C p l s m args meth c cX5_outputByte RX5 2 (some .int) dd b) : ∀ (M : cl_M) (z0 : Int32) (r : Int32), f_X5_outputByte_22 M z0 = some r → ∀ (H : Heap) (locs : List Loc) (ls : Array Slot), cl_H dd b M s H locs → lv_has ls 2 [] → W p l e { frames := 0, cells := 0, slots := 0, locals := 0 } s m args below meth c H locs 0 0 (cl_Zi below args s dd b r M) (F0 m 22 ls [.int z0]) := by
  have hx := C.1
  have hb := C.2.1
  have hlt := C.2.2.2.2.2.2.2.2.2.2
  have hRr := C.2.2.2.2.2.2.2.2.2.1
  intro M z0 r hf H locs ls hw hl
  unfold f_X5_outputByte_22 at hf
  obtain rfl := Option.some.inj hf
  exact cr_reti C hw dX5_outputByte_22
def f_X5_outputByte_12 (M : cl_M) : Option (Int32) := f_X5_outputByte_22 M (-1)
set_option maxHeartbeats 4000000 in
set_option maxRecDepth 100000 in
theorem k_X5_outputByte_12 {p : Program} {l : Launch} {e : Env} {s : State} {m : MethodId} {args : Array Value} {below : List Frame} {meth : Method} {c : Code} {dd : cl_D} {b : Nat} (C : cl_C p l s m args meth c cX5_outputByte RX5 2 (some .int) dd b) : ∀ (M : cl_M) (r : Int32), f_X5_outputByte_12 M = some r → ∀ (H : Heap) (locs : List Loc) (ls : Array Slot), cl_H dd b M s H locs → lv_has ls 2 [] → W p l e { frames := 0, cells := 0, slots := 0, locals := 0 } s m args below meth c H locs 0 0 (cl_Zi below args s dd b r M) (F0 m 12 ls []) := by
  have hx := C.1
  have hb := C.2.1
  have hlt := C.2.2.2.2.2.2.2.2.2.2
  have hRr := C.2.2.2.2.2.2.2.2.2.1
  intro M r hf H locs ls hw hl
  unfold f_X5_outputByte_12 at hf
  refine lv_iconst (v := (-1)) hx hb dX5_outputByte_12 (by decide) ?_
  refine lv_goto (tgt := 22) hx hb dX5_outputByte_13 (by decide) ?_
  exact k_X5_outputByte_22 C M (-1) _ hf _ _ _ hw (lv_sub hl [] rfl)
def f_X5_outputByte (M : cl_M) (t0 : Nat) (a1 : Int32) : Option (Int32) := if a1 < 0 then f_X5_outputByte_12 M else if a1 < (M t0 7) then if cl_inb a1 24 = true then f_X5_outputByte_22 M (M (t0 + 198) (a1.toNatClampNeg)) else none else f_X5_outputByte_12 M
set_option maxHeartbeats 4000000 in
set_option maxRecDepth 100000 in
theorem k_X5_outputByte {p : Program} {l : Launch} {e : Env} {s : State} {m : MethodId} {args : Array Value} {below : List Frame} {meth : Method} {c : Code} {dd : cl_D} {b : Nat} (C : cl_C p l s m args meth c cX5_outputByte RX5 2 (some .int) dd b) : ∀ (M : cl_M) (t0 : Nat) (a1 : Int32) (r : Int32), f_X5_outputByte M t0 a1 = some r → ∀ (H : Heap) (locs : List Loc) (ls : Array Slot), cl_sh dd t0 = 5 → cl_H dd b M s H locs → lv_has ls 2 [(0, .ref (b + t0)), (1, .int a1)] → W p l e { frames := 0, cells := 0, slots := 0, locals := 0 } s m args below meth c H locs 0 0 (cl_Zi below args s dd b r M) (F0 m 0 ls []) := by
  have hx := C.1
  have hb := C.2.1
  have hlt := C.2.2.2.2.2.2.2.2.2.2
  have hRr := C.2.2.2.2.2.2.2.2.2.1
  intro M t0 a1 r hf H locs ls ht0 hw hl
  unfold f_X5_outputByte at hf
  refine lv_iload_n hx hb dX5_outputByte_0 rfl (lv_at hl 1 rfl) ?_
  refine lv_if_lt (tgt := 12) hx hb dX5_outputByte_1 (by decide) (fun c1 => ?_) (fun c1 => ?_)
  · have hf := cl_yes c1 hf
    exact k_X5_outputByte_12 C M _ hf _ _ _ hw (lv_sub hl [] rfl)
  · have hf := cl_no c1 hf
    refine lv_iload_n hx hb dX5_outputByte_4 rfl (lv_at hl 1 rfl) ?_
    refine lv_aload_n hx hb dX5_outputByte_5 rfl (lv_at hl 0 rfl) ?_
    refine fg_X5_319 C hw ht0 dX5_outputByte_6 ?_
    refine lv_icmp_lt (tgt := 16) hx hb dX5_outputByte_9 (by decide) (fun c2 => ?_) (fun c2 => ?_)
    · have hf := cl_yes c2 hf
      refine lv_aload_n hx hb dX5_outputByte_16 rfl (lv_at hl 0 rfl) ?_
      refine fg_X5_41 C hw ht0 dX5_outputByte_17 ?_
      refine lv_iload_n hx hb dX5_outputByte_20 rfl (lv_at hl 1 rfl) ?_
      obtain ⟨q3, hf⟩ := cl_grd hf
      refine cr_iald C hw (sh_5_6 ht0).1 (sh_5_6 ht0).2 q3 (k := a1.toNatClampNeg) rfl dX5_outputByte_21 ?_
      exact k_X5_outputByte_22 C M (M (t0 + 198) (a1.toNatClampNeg)) _ hf _ _ _ hw (lv_sub hl [] rfl)
    · have hf := cl_no c2 hf
      exact k_X5_outputByte_12 C M _ hf _ _ _ hw (lv_sub hl [] rfl)
set_option maxRecDepth 100000 in
theorem c_X5_outputByte {l : Launch} {dd : cl_D} {b : Nat} (hlt : l.stackTraces = false) {M : cl_M} {t0 : Nat} {a1 : Int32}  {r : Int32} (ht0 : cl_sh dd t0 = 5) (h : f_X5_outputByte M t0 a1 = some r) : cl_Mi l dd b yX5_outputByte cX5_outputByte 2 (some .int) 0 0 [.ref (b + t0), .int a1] M r M :=
  cl_of hlt (by decide) (Nat.le_of_ble_eq_true rfl) (fun p e s m below meth c ls C hw hl => k_X5_outputByte C M t0 a1 r h _ _ _ ht0 hw (lv_sub hl [0, 1] rfl))
theorem cy_X5_outputByte : cl_cy yX5_outputByte cX5_outputByte 2 (some .int) 1 := ⟨in_ClothesLine, cd_X5_outputByte, by decide +kernel, by decide +kernel, by decide +kernel⟩
theorem vy_X5_outputByte : cl_vy yX5_outputByte := ⟨im_X5_outputByte, se_X5_outputByte⟩
