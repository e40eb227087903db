def f_X4_copyFrom (M : cl_M) (t0 : Nat) (t1 : Nat) : Option (cl_M) := cl_let (cl_ms M t0 0 (M t1 0)) (fun M1 => cl_let (cl_ms M1 t0 2 (M1 t1 2)) (fun M2 => cl_let (cl_ms M2 t0 6 (M2 t1 6)) (fun M3 => cl_let (cl_ms M3 t0 9 (M3 t1 9)) (fun M4 => cl_let (cl_cpy M4 (t1 + 1) (t0 + 1) 8) (fun M5 => cl_let (cl_cpy M5 (t1 + 2) (t0 + 2) 4) (fun M6 => cl_let (cl_cpy M6 (t1 + 3) (t0 + 3) 4) (fun M7 => cl_let (cl_cpy M7 (t1 + 4) (t0 + 4) 4) (fun M8 => cl_let (cl_cpy M8 (t1 + 5) (t0 + 5) 4) (fun M9 => cl_let (cl_cpy M9 (t1 + 6) (t0 + 6) 4) (fun M10 => some M10))))))))))
set_option maxHeartbeats 4000000 in
set_option maxRecDepth 100000 in
theorem k_X4_copyFrom {p : Program} {l : Launch} {e : Env} {s : State} {m : MethodId} {args : Array Value} {below : List Frame} {meth : Method} {c : Code} {dd : cl_D} {b : Nat} (C : cl_C p l s m args meth c cX4_copyFrom RX4 2 none dd b) : ∀ (M : cl_M) (t0 : Nat) (t1 : Nat) (M' : cl_M), f_X4_copyFrom M t0 t1 = some M' → ∀ (H : Heap) (locs : List Loc) (ls : Array Slot), cl_sh dd t0 = 4 → cl_sh dd t1 = 4 → cl_H dd b M s H locs → lv_has ls 2 [(0, .ref (b + t0)), (1, .ref (b + t1))] → W p l e { frames := 1, cells := 0, slots := 0, locals := 60 } s m args below meth c H locs 0 0 (cl_Zv below args s dd b M') (F0 m 0 ls []) := by
  have hx := C.1
  have hb := C.2.1
  have hlt := C.2.2.2.2.2.2.2.2.2.2
  have hRr := C.2.2.2.2.2.2.2.2.2.1
  intro M t0 t1 M' hf H locs ls ht0 ht1 hw hl
  unfold f_X4_copyFrom at hf
  refine lv_aload_n hx hb dX4_copyFrom_0 rfl (lv_at hl 0 rfl) ?_
  refine lv_aload_n hx hb dX4_copyFrom_1 rfl (lv_at hl 1 rfl) ?_
  refine fg_X4_30 C hw ht1 dX4_copyFrom_2 ?_
  obtain ⟨M1, eM1, hf⟩ := cl_let_e hf
  refine fp_X4_30 C hw ht0 eM1 dX4_copyFrom_5 (fun H locs hw => ?_)
  refine lv_aload_n hx hb dX4_copyFrom_8 rfl (lv_at hl 0 rfl) ?_
  refine lv_aload_n hx hb dX4_copyFrom_9 rfl (lv_at hl 1 rfl) ?_
  refine fg_X4_34 C hw ht1 dX4_copyFrom_10 ?_
  obtain ⟨M2, eM2, hf⟩ := cl_let_e hf
  refine fp_X4_34 C hw ht0 eM2 dX4_copyFrom_13 (fun H locs hw => ?_)
  refine lv_aload_n hx hb dX4_copyFrom_16 rfl (lv_at hl 0 rfl) ?_
  refine lv_aload_n hx hb dX4_copyFrom_17 rfl (lv_at hl 1 rfl) ?_
  refine fg_X4_37 C hw ht1 dX4_copyFrom_18 ?_
  obtain ⟨M3, eM3, hf⟩ := cl_let_e hf
  refine fp_X4_37 C hw ht0 eM3 dX4_copyFrom_21 (fun H locs hw => ?_)
  refine lv_aload_n hx hb dX4_copyFrom_24 rfl (lv_at hl 0 rfl) ?_
  refine lv_aload_n hx hb dX4_copyFrom_25 rfl (lv_at hl 1 rfl) ?_
  refine fg_X4_40 C hw ht1 dX4_copyFrom_26 ?_
  obtain ⟨M4, eM4, hf⟩ := cl_let_e hf
  refine fp_X4_40 C hw ht0 eM4 dX4_copyFrom_29 (fun H locs hw => ?_)
  refine lv_aload_n hx hb dX4_copyFrom_32 rfl (lv_at hl 1 rfl) ?_
  refine fg_X4_9 C hw ht1 dX4_copyFrom_33 ?_
  refine lv_iconst (v := 0) hx hb dX4_copyFrom_36 (by decide) ?_
  refine lv_aload_n hx hb dX4_copyFrom_37 rfl (lv_at hl 0 rfl) ?_
  refine fg_X4_9 C hw ht0 dX4_copyFrom_38 ?_
  refine lv_iconst (v := 0) hx hb dX4_copyFrom_41 (by decide) ?_
  refine lv_bipush (v := 8) hx hb dX4_copyFrom_42 (by decide) ?_
  obtain ⟨M5, eM5, hf⟩ := cl_let_e hf
  refine cr_copy C hw ml_X4_43 nt_copy st_copy in_system (sh_4_1 ht1).1 (sh_4_1 ht1).2 (sh_4_1 ht0).1 (sh_4_1 ht0).2 (k := 8) ⟨rfl, by decide, by decide, by decide⟩ hl.1 ⟨Nat.le_of_ble_eq_true rfl, Nat.le_of_ble_eq_true rfl⟩ eM5 dX4_copyFrom_44 (fun H locs hw => ?_)
  refine lv_aload_n hx hb dX4_copyFrom_47 rfl (lv_at hl 1 rfl) ?_
  refine fg_X4_15 C hw ht1 dX4_copyFrom_48 ?_
  refine lv_iconst (v := 0) hx hb dX4_copyFrom_51 (by decide) ?_
  refine lv_aload_n hx hb dX4_copyFrom_52 rfl (lv_at hl 0 rfl) ?_
  refine fg_X4_15 C hw ht0 dX4_copyFrom_53 ?_
  refine lv_iconst (v := 0) hx hb dX4_copyFrom_56 (by decide) ?_
  refine lv_iconst (v := 4) hx hb dX4_copyFrom_57 (by decide) ?_
  obtain ⟨M6, eM6, hf⟩ := cl_let_e hf
  refine cr_copy C hw ml_X4_43 nt_copy st_copy in_system (sh_4_3 ht1).1 (sh_4_3 ht1).2 (sh_4_3 ht0).1 (sh_4_3 ht0).2 (k := 4) ⟨rfl, by decide, by decide, by decide⟩ hl.1 ⟨Nat.le_of_ble_eq_true rfl, Nat.le_of_ble_eq_true rfl⟩ eM6 dX4_copyFrom_58 (fun H locs hw => ?_)
  refine lv_aload_n hx hb dX4_copyFrom_61 rfl (lv_at hl 1 rfl) ?_
  refine fg_X4_18 C hw ht1 dX4_copyFrom_62 ?_
  refine lv_iconst (v := 0) hx hb dX4_copyFrom_65 (by decide) ?_
  refine lv_aload_n hx hb dX4_copyFrom_66 rfl (lv_at hl 0 rfl) ?_
  refine fg_X4_18 C hw ht0 dX4_copyFrom_67 ?_
  refine lv_iconst (v := 0) hx hb dX4_copyFrom_70 (by decide) ?_
  refine lv_iconst (v := 4) hx hb dX4_copyFrom_71 (by decide) ?_
  obtain ⟨M7, eM7, hf⟩ := cl_let_e hf
  refine cr_copy C hw ml_X4_43 nt_copy st_copy in_system (sh_4_4 ht1).1 (sh_4_4 ht1).2 (sh_4_4 ht0).1 (sh_4_4 ht0).2 (k := 4) ⟨rfl, by decide, by decide, by decide⟩ hl.1 ⟨Nat.le_of_ble_eq_true rfl, Nat.le_of_ble_eq_true rfl⟩ eM7 dX4_copyFrom_72 (fun H locs hw => ?_)
  refine lv_aload_n hx hb dX4_copyFrom_75 rfl (lv_at hl 1 rfl) ?_
  refine fg_X4_21 C hw ht1 dX4_copyFrom_76 ?_
  refine lv_iconst (v := 0) hx hb dX4_copyFrom_79 (by decide) ?_
  refine lv_aload_n hx hb dX4_copyFrom_80 rfl (lv_at hl 0 rfl) ?_
  refine fg_X4_21 C hw ht0 dX4_copyFrom_81 ?_
  refine lv_iconst (v := 0) hx hb dX4_copyFrom_84 (by decide) ?_
  refine lv_iconst (v := 4) hx hb dX4_copyFrom_85 (by decide) ?_
  obtain ⟨M8, eM8, hf⟩ := cl_let_e hf
  refine cr_copy C hw ml_X4_43 nt_copy st_copy in_system (sh_4_5 ht1).1 (sh_4_5 ht1).2 (sh_4_5 ht0).1 (sh_4_5 ht0).2 (k := 4) ⟨rfl, by decide, by decide, by decide⟩ hl.1 ⟨Nat.le_of_ble_eq_true rfl, Nat.le_of_ble_eq_true rfl⟩ eM8 dX4_copyFrom_86 (fun H locs hw => ?_)
  refine lv_aload_n hx hb dX4_copyFrom_89 rfl (lv_at hl 1 rfl) ?_
  refine fg_X4_24 C hw ht1 dX4_copyFrom_90 ?_
  refine lv_iconst (v := 0) hx hb dX4_copyFrom_93 (by decide) ?_
  refine lv_aload_n hx hb dX4_copyFrom_94 rfl (lv_at hl 0 rfl) ?_
  refine fg_X4_24 C hw ht0 dX4_copyFrom_95 ?_
  refine lv_iconst (v := 0) hx hb dX4_copyFrom_98 (by decide) ?_
  refine lv_iconst (v := 4) hx hb dX4_copyFrom_99 (by decide) ?_
  obtain ⟨M9, eM9, hf⟩ := cl_let_e hf
  refine cr_copy C hw ml_X4_43 nt_copy st_copy in_system (sh_4_7 ht1).1 (sh_4_7 ht1).2 (sh_4_7 ht0).1 (sh_4_7 ht0).2 (k := 4) ⟨rfl, by decide, by decide, by decide⟩ hl.1 ⟨Nat.le_of_ble_eq_true rfl, Nat.le_of_ble_eq_true rfl⟩ eM9 dX4_copyFrom_100 (fun H locs hw => ?_)
  refine lv_aload_n hx hb dX4_copyFrom_103 rfl (lv_at hl 1 rfl) ?_
  refine fg_X4_27 C hw ht1 dX4_copyFrom_104 ?_
  refine lv_iconst (v := 0) hx hb dX4_copyFrom_107 (by decide) ?_
  refine lv_aload_n hx hb dX4_copyFrom_108 rfl (lv_at hl 0 rfl) ?_
  refine fg_X4_27 C hw ht0 dX4_copyFrom_109 ?_
  refine lv_iconst (v := 0) hx hb dX4_copyFrom_112 (by decide) ?_
  refine lv_iconst (v := 4) hx hb dX4_copyFrom_113 (by decide) ?_
  obtain ⟨M10, eM10, hf⟩ := cl_let_e hf
  refine cr_copy C hw ml_X4_43 nt_copy st_copy in_system (sh_4_8 ht1).1 (sh_4_8 ht1).2 (sh_4_8 ht0).1 (sh_4_8 ht0).2 (k := 4) ⟨rfl, by decide, by decide, by decide⟩ hl.1 ⟨Nat.le_of_ble_eq_true rfl, Nat.le_of_ble_eq_true rfl⟩ eM10 dX4_copyFrom_114 (fun H locs hw => ?_)
  obtain rfl := Option.some.inj hf
  exact cr_retv C hw dX4_copyFrom_117
set_option maxRecDepth 100000 in
theorem c_X4_copyFrom {l : Launch} {dd : cl_D} {b : Nat} (hlt : l.stackTraces = false) {M : cl_M} {t0 : Nat} {t1 : Nat}  {M' : cl_M} (ht0 : cl_sh dd t0 = 4) (ht1 : cl_sh dd t1 = 4) (h : f_X4_copyFrom M t0 t1 = some M') : cl_Mv l dd b yX4_copyFrom cX4_copyFrom 2 none 1 60 [.ref (b + t0), .ref (b + t1)] M M' :=
  cl_of hlt (by decide) (Nat.le_of_ble_eq_true rfl) (fun p e s m below meth c ls C hw hl => k_X4_copyFrom C M t0 t1 M' h _ _ _ ht0 ht1 hw (lv_sub hl [0, 1] rfl))
theorem cy_X4_copyFrom : cl_cy yX4_copyFrom cX4_copyFrom 2 none 1 := ⟨in_ClothesLine_Weather, cd_X4_copyFrom, by decide +kernel, by decide +kernel, by decide +kernel⟩
theorem vy_X4_copyFrom : cl_vy yX4_copyFrom := ⟨im_X4_copyFrom, se_X4_copyFrom⟩
def f_X4_clear (M : cl_M) (t0 : Nat) (a1 : Int32) : Option (cl_M) := cl_let (cl_ms M t0 0 a1) (fun M1 => cl_let (cl_ms M1 t0 2 0) (fun M2 => cl_let (cl_ms M2 t0 6 0) (fun M3 => cl_let (cl_ms M3 t0 9 0) (fun M4 => some M4))))
set_option maxHeartbeats 4000000 in
set_option maxRecDepth 100000 in
theorem k_X4_clear {p : Program} {l : Launch} {e : Env} {s : State} {m : MethodId} {args : Array Value} {below : List Frame} {meth : Method} {c : Code} {dd : cl_D} {b : Nat} (C : cl_C p l s m args meth c cX4_clear RX4 2 none dd b) : ∀ (M : cl_M) (t0 : Nat) (a1 : Int32) (M' : cl_M), f_X4_clear M t0 a1 = some M' → ∀ (H : Heap) (locs : List Loc) (ls : Array Slot), cl_sh dd t0 = 4 → cl_H dd b M s H locs → lv_has ls 2 [(0, .ref (b + t0)), (1, .int a1)] → W p l e { frames := 0, cells := 0, slots := 0, locals := 0 } s m args below meth c H locs 0 0 (cl_Zv below args s dd b M') (F0 m 0 ls []) := by
  have hx := C.1
  have hb := C.2.1
  have hlt := C.2.2.2.2.2.2.2.2.2.2
  have hRr := C.2.2.2.2.2.2.2.2.2.1
  intro M t0 a1 M' hf H locs ls ht0 hw hl
  unfold f_X4_clear at hf
  refine lv_aload_n hx hb dX4_clear_0 rfl (lv_at hl 0 rfl) ?_
  refine lv_iload_n hx hb dX4_clear_1 rfl (lv_at hl 1 rfl) ?_
  obtain ⟨M1, eM1, hf⟩ := cl_let_e hf
  refine fp_X4_30 C hw ht0 eM1 dX4_clear_2 (fun H locs hw => ?_)
  refine lv_aload_n hx hb dX4_clear_5 rfl (lv_at hl 0 rfl) ?_
  refine lv_iconst (v := 0) hx hb dX4_clear_6 (by decide) ?_
  obtain ⟨M2, eM2, hf⟩ := cl_let_e hf
  refine fp_X4_34 C hw ht0 eM2 dX4_clear_7 (fun H locs hw => ?_)
  refine lv_aload_n hx hb dX4_clear_10 rfl (lv_at hl 0 rfl) ?_
  refine lv_iconst (v := 0) hx hb dX4_clear_11 (by decide) ?_
  obtain ⟨M3, eM3, hf⟩ := cl_let_e hf
  refine fp_X4_37 C hw ht0 eM3 dX4_clear_12 (fun H locs hw => ?_)
  refine lv_aload_n hx hb dX4_clear_15 rfl (lv_at hl 0 rfl) ?_
  refine lv_iconst (v := 0) hx hb dX4_clear_16 (by decide) ?_
  obtain ⟨M4, eM4, hf⟩ := cl_let_e hf
  refine fp_X4_40 C hw ht0 eM4 dX4_clear_17 (fun H locs hw => ?_)
  obtain rfl := Option.some.inj hf
  exact cr_retv C hw dX4_clear_20
set_option maxRecDepth 100000 in
theorem c_X4_clear {l : Launch} {dd : cl_D} {b : Nat} (hlt : l.stackTraces = false) {M : cl_M} {t0 : Nat} {a1 : Int32}  {M' : cl_M} (ht0 : cl_sh dd t0 = 4) (h : f_X4_clear M t0 a1 = some M') : cl_Mv l dd b yX4_clear cX4_clear 2 none 0 0 [.ref (b + t0), .int a1] M M' :=
  cl_of hlt (by decide) (Nat.le_of_ble_eq_true rfl) (fun p e s m below meth c ls C hw hl => k_X4_clear C M t0 a1 M' h _ _ _ ht0 hw (lv_sub hl [0, 1] rfl))
theorem cy_X4_clear : cl_cy yX4_clear cX4_clear 2 none 1 := ⟨in_ClothesLine_Weather, cd_X4_clear, by decide +kernel, by decide +kernel, by decide +kernel⟩
theorem vy_X4_clear : cl_vy yX4_clear := ⟨im_X4_clear, se_X4_clear⟩
def f_X4_rainAt_41 (r4 : cl_M → Nat → Int32 → Int32 → Int32 → Option (Int32)) (M : cl_M) (t0 : Nat) (a1 : Int32) (a2 : Int32) (a3 : Int32) : Option (Int32) := cl_let (a3 + 1) (fun v4 => r4 M t0 a1 a2 v4)
set_option maxHeartbeats 4000000 in
set_option maxRecDepth 100000 in
theorem k_X4_rainAt_41 {p : Program} {l : Launch} {e : Env} {s : State} {m : MethodId} {args : Array Value} {below : List Frame} {meth : Method} {c : Code} {dd : cl_D} {b : Nat} (C : cl_C p l s m args meth c cX4_rainAt RX4 4 (some .int) dd b) {r4 : cl_M → Nat → Int32 → Int32 → Int32 → Option (Int32)} (hr4 : ∀ (M : cl_M) (t0 : Nat) (a1 : Int32) (a2 : Int32) (a3 : Int32) (r : Int32), r4 M t0 a1 a2 a3 = some r → ∀ (H : Heap) (locs : List Loc) (ls : Array Slot), cl_sh dd t0 = 4 → cl_H dd b M s H locs → lv_has ls 4 [(0, .ref (b + t0)), (1, .int a1), (2, .int a2), (3, .int a3)] → W p l e { frames := 0, cells := 0, slots := 0, locals := 0 } s m args below meth c H locs 0 0 (cl_Zi below args s dd b r M) (F0 m 4 ls [])) : ∀ (M : cl_M) (t0 : Nat) (a1 : Int32) (a2 : Int32) (a3 : Int32) (r : Int32), f_X4_rainAt_41 r4 M t0 a1 a2 a3 = some r → ∀ (H : Heap) (locs : List Loc) (ls : Array Slot), cl_sh dd t0 = 4 → cl_H dd b M s H locs → lv_has ls 4 [(0, .ref (b + t0)), (1, .int a1), (2, .int a2), (3, .int a3)] → W p l e { frames := 0, cells := 0, slots := 0, locals := 0 } s m args below meth c H locs 0 0 (cl_Zi below args s dd b r M) (F0 m 41 ls []) := by
  have hx := C.1
  have hb := C.2.1
  have hlt := C.2.2.2.2.2.2.2.2.2.2
  have hRr := C.2.2.2.2.2.2.2.2.2.1
  intro M t0 a1 a2 a3 r hf H locs ls ht0 hw hl
  unfold f_X4_rainAt_41 at hf
  obtain ⟨v4, ev4, hf⟩ := cl_let_e hf
  refine lv_iinc (v := v4) (lv' := [(3, .int v4), (0, .ref (b + t0)), (1, .int a1), (2, .int a2)]) hx hb dX4_rainAt_41 hl (k := 3) rfl (by rw [ev4]; rfl) (by decide) rfl (fun ls hl => ?_)
  refine lv_goto (tgt := 4) hx hb dX4_rainAt_44 (by decide) ?_
  exact hr4 M t0 a1 a2 v4 _ hf _ _ _ ht0 hw (lv_sub hl [1, 2, 3, 0] rfl)
def f_X4_rainAt_4 : Nat → cl_M → Nat → Int32 → Int32 → Int32 → Option (Int32)
  | 0, _, _, _, _, _ => none
  | k + 1, M, t0, a1, a2, a3 => if (M t0 6) ≤ a3 then some a2 else if cl_inb a3 4 = true then if a1 < (M (t0 + 2) (a3.toNatClampNeg)) then f_X4_rainAt_41 (f_X4_rainAt_4 k) M t0 a1 a2 a3 else if cl_inb a3 4 = true then if (M (t0 + 3) (a3.toNatClampNeg)) ≤ a1 then f_X4_rainAt_41 (f_X4_rainAt_4 k) M t0 a1 a2 a3 else if cl_inb a3 4 = true then cl_let (a2 + (M (t0 + 4) (a3.toNatClampNeg))) (fun v8 => f_X4_rainAt_41 (f_X4_rainAt_4 k) M t0 a1 v8 a3) else none else none else none
set_option maxHeartbeats 4000000 in
set_option maxRecDepth 100000 in
theorem k_X4_rainAt_4 {p : Program} {l : Launch} {e : Env} {s : State} {m : MethodId} {args : Array Value} {below : List Frame} {meth : Method} {c : Code} {dd : cl_D} {b : Nat} (C : cl_C p l s m args meth c cX4_rainAt RX4 4 (some .int) dd b) : ∀ (k : Nat), ∀ (M : cl_M) (t0 : Nat) (a1 : Int32) (a2 : Int32) (a3 : Int32) (r : Int32), f_X4_rainAt_4 k M t0 a1 a2 a3 = some r → ∀ (H : Heap) (locs : List Loc) (ls : Array Slot), cl_sh dd t0 = 4 → cl_H dd b M s H locs → lv_has ls 4 [(0, .ref (b + t0)), (1, .int a1), (2, .int a2), (3, .int a3)] → W p l e { frames := 0, cells := 0, slots := 0, locals := 0 } s m args below meth c H locs 0 0 (cl_Zi below args s dd b r M) (F0 m 4 ls []) := by
  have hx := C.1
  have hb := C.2.1
  have hlt := C.2.2.2.2.2.2.2.2.2.2
  have hRr := C.2.2.2.2.2.2.2.2.2.1
  intro k
  induction k with
  | zero =>
    intro M t0 a1 a2 a3 r hf H locs ls ht0 hw hl
    rw [f_X4_rainAt_4] at hf
    cases hf
  | succ k ih =>
    intro M t0 a1 a2 a3 r hf H locs ls ht0 hw hl
    rw [f_X4_rainAt_4] at hf
    refine lv_iload_n hx hb dX4_rainAt_4 rfl (lv_at hl 3 rfl) ?_
    refine lv_aload_n hx hb dX4_rainAt_5 rfl (lv_at hl 0 rfl) ?_
    refine fg_X4_37 C hw ht0 dX4_rainAt_6 ?_
    refine lv_icmp_ge (tgt := 47) hx hb dX4_rainAt_9 (by decide) (fun c1 => ?_) (fun c1 => ?_)
    · have hf := cl_yes c1 hf
      refine lv_iload_n hx hb dX4_rainAt_47 rfl (lv_at hl 2 rfl) ?_
      obtain rfl := Option.some.inj hf
      exact cr_reti C hw dX4_rainAt_48
    · have hf := cl_no c1 hf
      refine lv_iload_n hx hb dX4_rainAt_12 rfl (lv_at hl 1 rfl) ?_
      refine lv_aload_n hx hb dX4_rainAt_13 rfl (lv_at hl 0 rfl) ?_
      refine fg_X4_15 C hw ht0 dX4_rainAt_14 ?_
      refine lv_iload_n hx hb dX4_rainAt_17 rfl (lv_at hl 3 rfl) ?_
      obtain ⟨q2, hf⟩ := cl_grd hf
      refine cr_iald C hw (sh_4_3 ht0).1 (sh_4_3 ht0).2 q2 (k := a3.toNatClampNeg) rfl dX4_rainAt_18 ?_
      refine lv_icmp_lt (tgt := 41) hx hb dX4_rainAt_19 (by decide) (fun c3 => ?_) (fun c3 => ?_)
      · have hf := cl_yes c3 hf
        exact k_X4_rainAt_41 C ih M t0 a1 a2 a3 _ hf _ _ _ ht0 hw (lv_sub hl [0, 1, 2, 3] rfl)
      · have hf := cl_no c3 hf
        refine lv_iload_n hx hb dX4_rainAt_22 rfl (lv_at hl 1 rfl) ?_
        refine lv_aload_n hx hb dX4_rainAt_23 rfl (lv_at hl 0 rfl) ?_
        refine fg_X4_18 C hw ht0 dX4_rainAt_24 ?_
        refine lv_iload_n hx hb dX4_rainAt_27 rfl (lv_at hl 3 rfl) ?_
        obtain ⟨q5, hf⟩ := cl_grd hf
        refine cr_iald C hw (sh_4_4 ht0).1 (sh_4_4 ht0).2 q5 (k := a3.toNatClampNeg) rfl dX4_rainAt_28 ?_
        refine lv_icmp_ge (tgt := 41) hx hb dX4_rainAt_29 (by decide) (fun c6 => ?_) (fun c6 => ?_)
        · have hf := cl_yes c6 hf
          exact k_X4_rainAt_41 C ih M t0 a1 a2 a3 _ hf _ _ _ ht0 hw (lv_sub hl [0, 1, 2, 3] rfl)
        · have hf := cl_no c6 hf
          refine lv_iload_n hx hb dX4_rainAt_32 rfl (lv_at hl 2 rfl) ?_
          refine lv_aload_n hx hb dX4_rainAt_33 rfl (lv_at hl 0 rfl) ?_
          refine fg_X4_21 C hw ht0 dX4_rainAt_34 ?_
          refine lv_iload_n hx hb dX4_rainAt_37 rfl (lv_at hl 3 rfl) ?_
          obtain ⟨q7, hf⟩ := cl_grd hf
          refine cr_iald C hw (sh_4_5 ht0).1 (sh_4_5 ht0).2 q7 (k := a3.toNatClampNeg) rfl dX4_rainAt_38 ?_
          refine lv_iadd hx hb dX4_rainAt_39 ?_
          obtain ⟨v8, ev8, hf⟩ := cl_let_e hf
          refine cr_top ev8 ?_
          refine lv_istore_n (lv' := [(2, .int v8), (0, .ref (b + t0)), (1, .int a1), (3, .int a3)]) hx hb dX4_rainAt_40 rfl hl (by decide) rfl (fun ls hl => ?_)
          exact k_X4_rainAt_41 C ih M t0 a1 v8 a3 _ hf _ _ _ ht0 hw (lv_sub hl [1, 2, 0, 3] rfl)
def f_X4_rainAt (M : cl_M) (t0 : Nat) (a1 : Int32) : Option (Int32) := f_X4_rainAt_4 cl_F M t0 a1 0 0
set_option maxHeartbeats 4000000 in
set_option maxRecDepth 100000 in
theorem k_X4_rainAt {p : Program} {l : Launch} {e : Env} {s : State} {m : MethodId} {args : Array Value} {below : List Frame} {meth : Method} {c : Code} {dd : cl_D} {b : Nat} (C : cl_C p l s m args meth c cX4_rainAt RX4 4 (some .int) dd b) : ∀ (M : cl_M) (t0 : Nat) (a1 : Int32) (r : Int32), f_X4_rainAt M t0 a1 = some r → ∀ (H : Heap) (locs : List Loc) (ls : Array Slot), cl_sh dd t0 = 4 → cl_H dd b M s H locs → lv_has ls 4 [(0, .ref (b + t0)), (1, .int a1)] → W p l e { frames := 0, cells := 0, slots := 0, locals := 0 } s m args below meth c H locs 0 0 (cl_Zi below args s dd b r M) (F0 m 0 ls []) := by
  have hx := C.1
  have hb := C.2.1
  have hlt := C.2.2.2.2.2.2.2.2.2.2
  have hRr := C.2.2.2.2.2.2.2.2.2.1
  intro M t0 a1 r hf H locs ls ht0 hw hl
  unfold f_X4_rainAt at hf
  refine lv_iconst (v := 0) hx hb dX4_rainAt_0 (by decide) ?_
  refine lv_istore_n (lv' := [(2, .int 0), (0, .ref (b + t0)), (1, .int a1)]) hx hb dX4_rainAt_1 rfl hl (by decide) rfl (fun ls hl => ?_)
  refine lv_iconst (v := 0) hx hb dX4_rainAt_2 (by decide) ?_
  refine lv_istore_n (lv' := [(3, .int 0), (2, .int 0), (0, .ref (b + t0)), (1, .int a1)]) hx hb dX4_rainAt_3 rfl hl (by decide) rfl (fun ls hl => ?_)
  exact k_X4_rainAt_4 C cl_F M t0 a1 0 0 _ hf _ _ _ ht0 hw (lv_sub hl [2, 3, 1, 0] rfl)
set_option maxRecDepth 100000 in
theorem c_X4_rainAt {l : Launch} {dd : cl_D} {b : Nat} (hlt : l.stackTraces = false) {M : cl_M} {t0 : Nat} {a1 : Int32}  {r : Int32} (ht0 : cl_sh dd t0 = 4) (h : f_X4_rainAt M t0 a1 = some r) : cl_Mi l dd b yX4_rainAt cX4_rainAt 4 (some .int) 0 0 [.ref (b + t0), .int a1] M r M :=
  cl_of hlt (by decide) (Nat.le_of_ble_eq_true rfl) (fun p e s m below meth c ls C hw hl => k_X4_rainAt C M t0 a1 r h _ _ _ ht0 hw (lv_sub hl [0, 1] rfl))
theorem cy_X4_rainAt : cl_cy yX4_rainAt cX4_rainAt 4 (some .int) 1 := ⟨in_ClothesLine_Weather, cd_X4_rainAt, by decide +kernel, by decide +kernel, by decide +kernel⟩
theorem vy_X4_rainAt : cl_vy yX4_rainAt := ⟨im_X4_rainAt, se_X4_rainAt⟩
def f_X4_windAt_25 (M : cl_M) (z0 : Int32) : Option (Int32) := some z0
set_option maxHeartbeats 4000000 in
set_option maxRecDepth 100000 in
theorem k_X4_windAt_25 {p : Program} {l : Launch} {e : Env} {s : State} {m : MethodId} {args : Array Value} {below : List Frame} {meth : Method} {c : Code} {dd : cl_D} {b : Nat} (C : cl_C p l s m args meth c cX4_windAt RX4 2 (some .int) dd b) : ∀ (M : cl_M) (z0 : Int32) (r : Int32), f_X4_windAt_25 M z0 = some r → ∀ (H : Heap) (locs : List Loc) (ls : Array Slot), cl_H dd b M s H locs → lv_has ls 2 [] → W p l e { frames := 0, cells := 0, slots := 0, locals := 0 } s m args below meth c H locs 0 0 (cl_Zi below args s dd b r M) (F0 m 25 ls [.int z0]) := by
  have hx := C.1
  have hb := C.2.1
  have hlt := C.2.2.2.2.2.2.2.2.2.2
  have hRr := C.2.2.2.2.2.2.2.2.2.1
  intro M z0 r hf H locs ls hw hl
  unfold f_X4_windAt_25 at hf
  obtain rfl := Option.some.inj hf
  exact cr_reti C hw dX4_windAt_25
def f_X4_windAt (M : cl_M) (t0 : Nat) (a1 : Int32) : Option (Int32) := if (M t0 2) = 0 then f_X4_windAt_25 M 0 else if (M t0 2) = 0 then none else if cl_inb ((a1 / 60) - (a1 / 60) / (M t0 2) * (M t0 2)) 8 = true then f_X4_windAt_25 M (M (t0 + 1) (((a1 / 60) - (a1 / 60) / (M t0 2) * (M t0 2)).toNatClampNeg)) else none
set_option maxHeartbeats 4000000 in
set_option maxRecDepth 100000 in
theorem k_X4_windAt {p : Program} {l : Launch} {e : Env} {s : State} {m : MethodId} {args : Array Value} {below : List Frame} {meth : Method} {c : Code} {dd : cl_D} {b : Nat} (C : cl_C p l s m args meth c cX4_windAt RX4 2 (some .int) dd b) : ∀ (M : cl_M) (t0 : Nat) (a1 : Int32) (r : Int32), f_X4_windAt M t0 a1 = some r → ∀ (H : Heap) (locs : List Loc) (ls : Array Slot), cl_sh dd t0 = 4 → cl_H dd b M s H locs → lv_has ls 2 [(0, .ref (b + t0)), (1, .int a1)] → W p l e { frames := 0, cells := 0, slots := 0, locals := 0 } s m args below meth c H locs 0 0 (cl_Zi below args s dd b r M) (F0 m 0 ls []) := by
  have hx := C.1
  have hb := C.2.1
  have hlt := C.2.2.2.2.2.2.2.2.2.2
  have hRr := C.2.2.2.2.2.2.2.2.2.1
  intro M t0 a1 r hf H locs ls ht0 hw hl
  unfold f_X4_windAt at hf
  refine lv_aload_n hx hb dX4_windAt_0 rfl (lv_at hl 0 rfl) ?_
  refine fg_X4_34 C hw ht0 dX4_windAt_1 ?_
  refine lv_if_ne (tgt := 11) hx hb dX4_windAt_4 (by decide) (fun c1 => ?_) (fun c1 => ?_)
  · have hf := cl_no c1 hf
    refine lv_aload_n hx hb dX4_windAt_11 rfl (lv_at hl 0 rfl) ?_
    refine fg_X4_9 C hw ht0 dX4_windAt_12 ?_
    refine lv_iload_n hx hb dX4_windAt_15 rfl (lv_at hl 1 rfl) ?_
    refine lv_bipush (v := 60) hx hb dX4_windAt_16 (by decide) ?_
    refine lv_idiv hx hb dX4_windAt_18 (by decide) ?_
    refine lv_aload_n hx hb dX4_windAt_19 rfl (lv_at hl 0 rfl) ?_
    refine fg_X4_34 C hw ht0 dX4_windAt_20 ?_
    obtain ⟨n2, hf⟩ := cl_grn hf
    refine lv_irem hx hb dX4_windAt_23 n2 ?_
    obtain ⟨q3, hf⟩ := cl_grd hf
    refine cr_iald C hw (sh_4_1 ht0).1 (sh_4_1 ht0).2 q3 (k := ((a1 / 60) - (a1 / 60) / (M t0 2) * (M t0 2)).toNatClampNeg) rfl dX4_windAt_24 ?_
    exact k_X4_windAt_25 C M (M (t0 + 1) (((a1 / 60) - (a1 / 60) / (M t0 2) * (M t0 2)).toNatClampNeg)) _ hf _ _ _ hw (lv_sub hl [] rfl)
  · have hf := cl_yes c1 hf
    refine lv_iconst (v := 0) hx hb dX4_windAt_7 (by decide) ?_
    refine lv_goto (tgt := 25) hx hb dX4_windAt_8 (by decide) ?_
    exact k_X4_windAt_25 C M 0 _ hf _ _ _ hw (lv_sub hl [] rfl)
set_option maxRecDepth 100000 in
theorem c_X4_windAt {l : Launch} {dd : cl_D} {b : Nat} (hlt : l.stackTraces = false) {M : cl_M} {t0 : Nat} {a1 : Int32}  {r : Int32} (ht0 : cl_sh dd t0 = 4) (h : f_X4_windAt M t0 a1 = some r) : cl_Mi l dd b yX4_windAt cX4_windAt 2 (some .int) 0 0 [.ref (b + t0), .int a1] M r M :=
  cl_of hlt (by decide) (Nat.le_of_ble_eq_true rfl) (fun p e s m below meth c ls C hw hl => k_X4_windAt C M t0 a1 r h _ _ _ ht0 hw (lv_sub hl [0, 1] rfl))
theorem cy_X4_windAt : cl_cy yX4_windAt cX4_windAt 2 (some .int) 1 := ⟨in_ClothesLine_Weather, cd_X4_windAt, by decide +kernel, by decide +kernel, by decide +kernel⟩
theorem vy_X4_windAt : cl_vy yX4_windAt := ⟨im_X4_windAt, se_X4_windAt⟩
def f_X4_sunnyAt (M : cl_M) (t0 : Nat) (a1 : Int32) : Option (Int32) := (f_X4_rainAt M t0 a1).bind (fun v1 => if v1 = 0 then cl_let ((a1 / 30) - (a1 / 30) / 24 * 24) (fun v4 => cl_let ((1 <<< ((M t0 0) &&& 31)) - 1) (fun v5 => some (16777215 &&& (((v5 <<< (v4 &&& 31)) ||| (v5 >>> ((24 - v4) &&& 31))) ^^^ (-1))))) else some 0)
set_option maxHeartbeats 4000000 in
set_option maxRecDepth 100000 in
theorem k_X4_sunnyAt {p : Program} {l : Launch} {e : Env} {s : State} {m : MethodId} {args : Array Value} {below : List Frame} {meth : Method} {c : Code} {dd : cl_D} {b : Nat} (C : cl_C p l s m args meth c cX4_sunnyAt RX4 4 (some .int) dd b) : ∀ (M : cl_M) (t0 : Nat) (a1 : Int32) (r : Int32), f_X4_sunnyAt M t0 a1 = some r → ∀ (H : Heap) (locs : List Loc) (ls : Array Slot), cl_sh dd t0 = 4 → cl_H dd b M s H locs → lv_has ls 4 [(0, .ref (b + t0)), (1, .int a1)] → W p l e { frames := 1, cells := 0, slots := 0, locals := 23 } s m args below meth c H locs 0 0 (cl_Zi below args s dd b r M) (F0 m 0 ls []) := by
  have hx := C.1
  have hb := C.2.1
  have hlt := C.2.2.2.2.2.2.2.2.2.2
  have hRr := C.2.2.2.2.2.2.2.2.2.1
  intro M t0 a1 r hf H locs ls ht0 hw hl
  unfold f_X4_sunnyAt at hf
  refine lv_aload_n hx hb dX4_sunnyAt_0 rfl (lv_at hl 0 rfl) ?_
  refine lv_iload_n hx hb dX4_sunnyAt_1 rfl (lv_at hl 1 rfl) ?_
  obtain ⟨v1, e2, hf⟩ := cl_bind_e hf
  refine cr_Vi C hw (c_X4_rainAt hlt ht0 e2) cy_X4_rainAt vy_X4_rainAt ml_X4_49 (cl_lt ht0 (by decide)) (cl_e4 ht0) rfl rfl (As := [.int a1]) rfl hl.1 rfl ⟨⟨Nat.le_of_ble_eq_true rfl, Nat.le_of_ble_eq_true rfl⟩, Nat.le_of_ble_eq_true rfl, Nat.le_of_ble_eq_true rfl, Nat.le_of_ble_eq_true rfl⟩ dX4_sunnyAt_2 (fun H locs hw => ?_)
  refine lv_if_eq (tgt := 10) hx hb dX4_sunnyAt_5 (by decide) (fun c3 => ?_) (fun c3 => ?_)
  · have hf := cl_yes c3 hf
    refine lv_iload_n hx hb dX4_sunnyAt_10 rfl (lv_at hl 1 rfl) ?_
    refine lv_bipush (v := 30) hx hb dX4_sunnyAt_11 (by decide) ?_
    refine lv_idiv hx hb dX4_sunnyAt_13 (by decide) ?_
    refine lv_bipush (v := 24) hx hb dX4_sunnyAt_14 (by decide) ?_
    refine lv_irem hx hb dX4_sunnyAt_16 (by decide) ?_
    obtain ⟨v4, ev4, hf⟩ := cl_let_e hf
    refine cr_top ev4 ?_
    refine lv_istore_n (lv' := [(2, .int v4), (0, .ref (b + t0)), (1, .int a1)]) hx hb dX4_sunnyAt_17 rfl hl (by decide) rfl (fun ls hl => ?_)
    refine lv_iconst (v := 1) hx hb dX4_sunnyAt_18 (by decide) ?_
    refine lv_aload_n hx hb dX4_sunnyAt_19 rfl (lv_at hl 1 rfl) ?_
    refine fg_X4_30 C hw ht0 dX4_sunnyAt_20 ?_
    refine lv_ishl hx hb dX4_sunnyAt_23 ?_
    refine lv_iconst (v := 1) hx hb dX4_sunnyAt_24 (by decide) ?_
    refine lv_isub hx hb dX4_sunnyAt_25 ?_
    obtain ⟨v5, ev5, hf⟩ := cl_let_e hf
    refine cr_top ev5 ?_
    refine lv_istore_n (lv' := [(3, .int v5), (2, .int v4), (0, .ref (b + t0)), (1, .int a1)]) hx hb dX4_sunnyAt_26 rfl hl (by decide) rfl (fun ls hl => ?_)
    refine lv_ldc (v := 16777215) hx hb C.2.2.2.1 (C.2.2.2.2.1 _ kl_X4_53) dX4_sunnyAt_27 ?_
    refine lv_iload_n hx hb dX4_sunnyAt_29 rfl (lv_at hl 0 rfl) ?_
    refine lv_iload_n hx hb dX4_sunnyAt_30 rfl (lv_at hl 1 rfl) ?_
    refine lv_ishl hx hb dX4_sunnyAt_31 ?_
    refine lv_iload_n hx hb dX4_sunnyAt_32 rfl (lv_at hl 0 rfl) ?_
    refine lv_bipush (v := 24) hx hb dX4_sunnyAt_33 (by decide) ?_
    refine lv_iload_n hx hb dX4_sunnyAt_35 rfl (lv_at hl 1 rfl) ?_
    refine lv_isub hx hb dX4_sunnyAt_36 ?_
    refine lv_ishr hx hb dX4_sunnyAt_37 ?_
    refine lv_ior hx hb dX4_sunnyAt_38 ?_
    refine lv_iconst (v := (-1)) hx hb dX4_sunnyAt_39 (by decide) ?_
    refine lv_ixor hx hb dX4_sunnyAt_40 ?_
    refine lv_iand hx hb dX4_sunnyAt_41 ?_
    obtain rfl := Option.some.inj hf
    exact cr_reti C hw dX4_sunnyAt_42
  · have hf := cl_no c3 hf
    refine lv_iconst (v := 0) hx hb dX4_sunnyAt_8 (by decide) ?_
    obtain rfl := Option.some.inj hf
    exact cr_reti C hw dX4_sunnyAt_9
set_option maxRecDepth 100000 in
theorem c_X4_sunnyAt {l : Launch} {dd : cl_D} {b : Nat} (hlt : l.stackTraces = false) {M : cl_M} {t0 : Nat} {a1 : Int32}  {r : Int32} (ht0 : cl_sh dd t0 = 4) (h : f_X4_sunnyAt M t0 a1 = some r) : cl_Mi l dd b yX4_sunnyAt cX4_sunnyAt 4 (some .int) 1 23 [.ref (b + t0), .int a1] M r M :=
  cl_of hlt (by decide) (Nat.le_of_ble_eq_true rfl) (fun p e s m below meth c ls C hw hl => k_X4_sunnyAt C M t0 a1 r h _ _ _ ht0 hw (lv_sub hl [0, 1] rfl))
theorem cy_X4_sunnyAt : cl_cy yX4_sunnyAt cX4_sunnyAt 4 (some .int) 1 := ⟨in_ClothesLine_Weather, cd_X4_sunnyAt, by decide +kernel, by decide +kernel, by decide +kernel⟩
theorem vy_X4_sunnyAt : cl_vy yX4_sunnyAt := ⟨im_X4_sunnyAt, se_X4_sunnyAt⟩
def f_X4_smokyAt_42 (r2 : cl_M → Nat → Int32 → Int32 → Option (Int32)) (M : cl_M) (t0 : Nat) (a1 : Int32) (a2 : Int32) : Option (Int32) := cl_let (a2 + 1) (fun v4 => r2 M t0 a1 v4)
set_option maxHeartbeats 4000000 in
set_option maxRecDepth 100000 in
theorem k_X4_smokyAt_42 {p : Program} {l : Launch} {e : Env} {s : State} {m : MethodId} {args : Array Value} {below : List Frame} {meth : Method} {c : Code} {dd : cl_D} {b : Nat} (C : cl_C p l s m args meth c cX4_smokyAt RX4 3 (some .int) dd b) {r2 : cl_M → Nat → Int32 → Int32 → Option (Int32)} (hr2 : ∀ (M : cl_M) (t0 : Nat) (a1 : Int32) (a2 : Int32) (r : Int32), r2 M t0 a1 a2 = some r → ∀ (H : Heap) (locs : List Loc) (ls : Array Slot), cl_sh dd t0 = 4 → cl_H dd b M s H locs → lv_has ls 3 [(0, .ref (b + t0)), (1, .int a1), (2, .int a2)] → W p l e { frames := 1, cells := 0, slots := 0, locals := 21 } s m args below meth c H locs 0 0 (cl_Zi below args s dd b r M) (F0 m 2 ls [])) : ∀ (M : cl_M) (t0 : Nat) (a1 : Int32) (a2 : Int32) (r : Int32), f_X4_smokyAt_42 r2 M t0 a1 a2 = some r → ∀ (H : Heap) (locs : List Loc) (ls : Array Slot), cl_sh dd t0 = 4 → cl_H dd b M s H locs → lv_has ls 3 [(0, .ref (b + t0)), (1, .int a1), (2, .int a2)] → W p l e { frames := 1, cells := 0, slots := 0, locals := 21 } s m args below meth c H locs 0 0 (cl_Zi below args s dd b r M) (F0 m 42 ls []) := by
  have hx := C.1
  have hb := C.2.1
  have hlt := C.2.2.2.2.2.2.2.2.2.2
  have hRr := C.2.2.2.2.2.2.2.2.2.1
  intro M t0 a1 a2 r hf H locs ls ht0 hw hl
  unfold f_X4_smokyAt_42 at hf
  obtain ⟨v4, ev4, hf⟩ := cl_let_e hf
  refine lv_iinc (v := v4) (lv' := [(2, .int v4), (0, .ref (b + t0)), (1, .int a1)]) hx hb dX4_smokyAt_42 hl (k := 2) rfl (by rw [ev4]; rfl) (by decide) rfl (fun ls hl => ?_)
  refine lv_goto (tgt := 2) hx hb dX4_smokyAt_45 (by decide) ?_
  exact hr2 M t0 a1 v4 _ hf _ _ _ ht0 hw (lv_sub hl [1, 2, 0] rfl)
def f_X4_smokyAt_2 : Nat → cl_M → Nat → Int32 → Int32 → Option (Int32)
  | 0, _, _, _, _ => none
  | k + 1, M, t0, a1, a2 => if (M t0 9) ≤ a2 then some 0 else if cl_inb a2 4 = true then if a1 < (M (t0 + 5) (a2.toNatClampNeg)) then f_X4_smokyAt_42 (f_X4_smokyAt_2 k) M t0 a1 a2 else if cl_inb a2 4 = true then if (M (t0 + 6) (a2.toNatClampNeg)) < a1 then f_X4_smokyAt_42 (f_X4_smokyAt_2 k) M t0 a1 a2 else (f_X4_windAt M t0 a1).bind (fun v7 => some ((1 <<< ((4 * v7) &&& 31)) - 1)) else none else none
set_option maxHeartbeats 4000000 in
set_option maxRecDepth 100000 in
theorem k_X4_smokyAt_2 {p : Program} {l : Launch} {e : Env} {s : State} {m : MethodId} {args : Array Value} {below : List Frame} {meth : Method} {c : Code} {dd : cl_D} {b : Nat} (C : cl_C p l s m args meth c cX4_smokyAt RX4 3 (some .int) dd b) : ∀ (k : Nat), ∀ (M : cl_M) (t0 : Nat) (a1 : Int32) (a2 : Int32) (r : Int32), f_X4_smokyAt_2 k M t0 a1 a2 = some r → ∀ (H : Heap) (locs : List Loc) (ls : Array Slot), cl_sh dd t0 = 4 → cl_H dd b M s H locs → lv_has ls 3 [(0, .ref (b + t0)), (1, .int a1), (2, .int a2)] → W p l e { frames := 1, cells := 0, slots := 0, locals := 21 } s m args below meth c H locs 0 0 (cl_Zi below args s dd b r M) (F0 m 2 ls []) := by
  have hx := C.1
  have hb := C.2.1
  have hlt := C.2.2.2.2.2.2.2.2.2.2
  have hRr := C.2.2.2.2.2.2.2.2.2.1
  intro k
  induction k with
  | zero =>
    intro M t0 a1 a2 r hf H locs ls ht0 hw hl
    rw [f_X4_smokyAt_2] at hf
    cases hf
  | succ k ih =>
    intro M t0 a1 a2 r hf H locs ls ht0 hw hl
    rw [f_X4_smokyAt_2] at hf
    refine lv_iload_n hx hb dX4_smokyAt_2 rfl (lv_at hl 2 rfl) ?_
    refine lv_aload_n hx hb dX4_smokyAt_3 rfl (lv_at hl 0 rfl) ?_
    refine fg_X4_40 C hw ht0 dX4_smokyAt_4 ?_
    refine lv_icmp_ge (tgt := 48) hx hb dX4_smokyAt_7 (by decide) (fun c1 => ?_) (fun c1 => ?_)
    · have hf := cl_yes c1 hf
      refine lv_iconst (v := 0) hx hb dX4_smokyAt_48 (by decide) ?_
      obtain rfl := Option.some.inj hf
      exact cr_reti C hw dX4_smokyAt_49
    · have hf := cl_no c1 hf
      refine lv_iload_n hx hb dX4_smokyAt_10 rfl (lv_at hl 1 rfl) ?_
      refine lv_aload_n hx hb dX4_smokyAt_11 rfl (lv_at hl 0 rfl) ?_
      refine fg_X4_24 C hw ht0 dX4_smokyAt_12 ?_
      refine lv_iload_n hx hb dX4_smokyAt_15 rfl (lv_at hl 2 rfl) ?_
      obtain ⟨q2, hf⟩ := cl_grd hf
      refine cr_iald C hw (sh_4_7 ht0).1 (sh_4_7 ht0).2 q2 (k := a2.toNatClampNeg) rfl dX4_smokyAt_16 ?_
      refine lv_icmp_lt (tgt := 42) hx hb dX4_smokyAt_17 (by decide) (fun c3 => ?_) (fun c3 => ?_)
      · have hf := cl_yes c3 hf
        exact k_X4_smokyAt_42 C ih M t0 a1 a2 _ hf _ _ _ ht0 hw (lv_sub hl [0, 1, 2] rfl)
      · have hf := cl_no c3 hf
        refine lv_iload_n hx hb dX4_smokyAt_20 rfl (lv_at hl 1 rfl) ?_
        refine lv_aload_n hx hb dX4_smokyAt_21 rfl (lv_at hl 0 rfl) ?_
        refine fg_X4_27 C hw ht0 dX4_smokyAt_22 ?_
        refine lv_iload_n hx hb dX4_smokyAt_25 rfl (lv_at hl 2 rfl) ?_
        obtain ⟨q5, hf⟩ := cl_grd hf
        refine cr_iald C hw (sh_4_8 ht0).1 (sh_4_8 ht0).2 q5 (k := a2.toNatClampNeg) rfl dX4_smokyAt_26 ?_
        refine lv_icmp_gt (tgt := 42) hx hb dX4_smokyAt_27 (by decide) (fun c6 => ?_) (fun c6 => ?_)
        · have hf := cl_yes c6 hf
          exact k_X4_smokyAt_42 C ih M t0 a1 a2 _ hf _ _ _ ht0 hw (lv_sub hl [0, 1, 2] rfl)
        · have hf := cl_no c6 hf
          refine lv_iconst (v := 1) hx hb dX4_smokyAt_30 (by decide) ?_
          refine lv_iconst (v := 4) hx hb dX4_smokyAt_31 (by decide) ?_
          refine lv_aload_n hx hb dX4_smokyAt_32 rfl (lv_at hl 0 rfl) ?_
          refine lv_iload_n hx hb dX4_smokyAt_33 rfl (lv_at hl 1 rfl) ?_
          obtain ⟨v7, e8, hf⟩ := cl_bind_e hf
          refine cr_Vi C hw (c_X4_windAt hlt ht0 e8) cy_X4_windAt vy_X4_windAt ml_X4_54 (cl_lt ht0 (by decide)) (cl_e4 ht0) rfl rfl (As := [.int a1]) rfl hl.1 rfl ⟨⟨Nat.le_of_ble_eq_true rfl, Nat.le_of_ble_eq_true rfl⟩, Nat.le_of_ble_eq_true rfl, Nat.le_of_ble_eq_true rfl, Nat.le_of_ble_eq_true rfl⟩ dX4_smokyAt_34 (fun H locs hw => ?_)
          refine lv_imul hx hb dX4_smokyAt_37 ?_
          refine lv_ishl hx hb dX4_smokyAt_38 ?_
          refine lv_iconst (v := 1) hx hb dX4_smokyAt_39 (by decide) ?_
          refine lv_isub hx hb dX4_smokyAt_40 ?_
          obtain rfl := Option.some.inj hf
          exact cr_reti C hw dX4_smokyAt_41
def f_X4_smokyAt (M : cl_M) (t0 : Nat) (a1 : Int32) : Option (Int32) := f_X4_smokyAt_2 cl_F M t0 a1 0
set_option maxHeartbeats 4000000 in
set_option maxRecDepth 100000 in
theorem k_X4_smokyAt {p : Program} {l : Launch} {e : Env} {s : State} {m : MethodId} {args : Array Value} {below : List Frame} {meth : Method} {c : Code} {dd : cl_D} {b : Nat} (C : cl_C p l s m args meth c cX4_smokyAt RX4 3 (some .int) dd b) : ∀ (M : cl_M) (t0 : Nat) (a1 : Int32) (r : Int32), f_X4_smokyAt M t0 a1 = some r → ∀ (H : Heap) (locs : List Loc) (ls : Array Slot), cl_sh dd t0 = 4 → cl_H dd b M s H locs → lv_has ls 3 [(0, .ref (b + t0)), (1, .int a1)] → W p l e { frames := 1, cells := 0, slots := 0, locals := 21 } s m args below meth c H locs 0 0 (cl_Zi below args s dd b r M) (F0 m 0 ls []) := by
  have hx := C.1
  have hb := C.2.1
  have hlt := C.2.2.2.2.2.2.2.2.2.2
  have hRr := C.2.2.2.2.2.2.2.2.2.1
  intro M t0 a1 r hf H locs ls ht0 hw hl
  unfold f_X4_smokyAt at hf
  refine lv_iconst (v := 0) hx hb dX4_smokyAt_0 (by decide) ?_
  refine lv_istore_n (lv' := [(2, .int 0), (0, .ref (b + t0)), (1, .int a1)]) hx hb dX4_smokyAt_1 rfl hl (by decide) rfl (fun ls hl => ?_)
  exact k_X4_smokyAt_2 C cl_F M t0 a1 0 _ hf _ _ _ ht0 hw (lv_sub hl [1, 2, 0] rfl)
set_option maxRecDepth 100000 in
theorem c_X4_smokyAt {l : Launch} {dd : cl_D} {b : Nat} (hlt : l.stackTraces = false) {M : cl_M} {t0 : Nat} {a1 : Int32}  {r : Int32} (ht0 : cl_sh dd t0 = 4) (h : f_X4_smokyAt M t0 a1 = some r) : cl_Mi l dd b yX4_smokyAt cX4_smokyAt 3 (some .int) 1 21 [.ref (b + t0), .int a1] M r M :=
  cl_of hlt (by decide) (Nat.le_of_ble_eq_true rfl) (fun p e s m below meth c ls C hw hl => k_X4_smokyAt C M t0 a1 r h _ _ _ ht0 hw (lv_sub hl [0, 1] rfl))
theorem cy_X4_smokyAt : cl_cy yX4_smokyAt cX4_smokyAt 3 (some .int) 1 := ⟨in_ClothesLine_Weather, cd_X4_smokyAt, by decide +kernel, by decide +kernel, by decide +kernel⟩
theorem vy_X4_smokyAt : cl_vy yX4_smokyAt := ⟨im_X4_smokyAt, se_X4_smokyAt⟩
def f_X4_appendWind (M : cl_M) (t0 : Nat) (a1 : Int32) : Option (cl_M) := if 8 ≤ (M t0 2) then some M else if cl_inb (M t0 2) 8 = true then cl_let (cl_ms M (t0 + 1) (M t0 2).toNatClampNeg a1) (fun M3 => cl_let (cl_ms M3 t0 2 ((M3 t0 2) + 1)) (fun M4 => some M4)) else none
set_option maxHeartbeats 4000000 in
set_option maxRecDepth 100000 in
theorem k_X4_appendWind {p : Program} {l : Launch} {e : Env} {s : State} {m : MethodId} {args : Array Value} {below : List Frame} {meth : Method} {c : Code} {dd : cl_D} {b : Nat} (C : cl_C p l s m args meth c cX4_appendWind RX4 2 none dd b) : ∀ (M : cl_M) (t0 : Nat) (a1 : Int32) (M' : cl_M), f_X4_appendWind M t0 a1 = some M' → ∀ (H : Heap) (locs : List Loc) (ls : Array Slot), cl_sh dd t0 = 4 → cl_H dd b M s H locs → lv_has ls 2 [(0, .ref (b + t0)), (1, .int a1)] → W p l e { frames := 0, cells := 0, slots := 0, locals := 0 } s m args below meth c H locs 0 0 (cl_Zv below args s dd b M') (F0 m 0 ls []) := by
  have hx := C.1
  have hb := C.2.1
  have hlt := C.2.2.2.2.2.2.2.2.2.2
  have hRr := C.2.2.2.2.2.2.2.2.2.1
  intro M t0 a1 M' hf H locs ls ht0 hw hl
  unfold f_X4_appendWind at hf
  refine lv_aload_n hx hb dX4_appendWind_0 rfl (lv_at hl 0 rfl) ?_
  refine fg_X4_34 C hw ht0 dX4_appendWind_1 ?_
  refine lv_bipush (v := 8) hx hb dX4_appendWind_4 (by decide) ?_
  refine lv_icmp_ge (tgt := 29) hx hb dX4_appendWind_6 (by decide) (fun c1 => ?_) (fun c1 => ?_)
  · have hf := cl_yes c1 hf
    obtain rfl := Option.some.inj hf
    exact cr_retv C hw dX4_appendWind_29
  · have hf := cl_no c1 hf
    refine lv_aload_n hx hb dX4_appendWind_9 rfl (lv_at hl 0 rfl) ?_
    refine fg_X4_9 C hw ht0 dX4_appendWind_10 ?_
    refine lv_aload_n hx hb dX4_appendWind_13 rfl (lv_at hl 0 rfl) ?_
    refine fg_X4_34 C hw ht0 dX4_appendWind_14 ?_
    refine lv_iload_n hx hb dX4_appendWind_17 rfl (lv_at hl 1 rfl) ?_
    obtain ⟨q2, hf⟩ := cl_grd hf
    obtain ⟨M3, eM3, hf⟩ := cl_let_e hf
    refine cr_iast C hw (sh_4_1 ht0).1 (sh_4_1 ht0).2 q2 (k := (M t0 2).toNatClampNeg) rfl eM3 dX4_appendWind_18 (fun H locs hw => ?_)
    refine lv_aload_n hx hb dX4_appendWind_19 rfl (lv_at hl 0 rfl) ?_
    refine lv_dup hx hb dX4_appendWind_20 rfl ?_
    refine fg_X4_34 C hw ht0 dX4_appendWind_21 ?_
    refine lv_iconst (v := 1) hx hb dX4_appendWind_24 (by decide) ?_
    refine lv_iadd hx hb dX4_appendWind_25 ?_
    obtain ⟨M4, eM4, hf⟩ := cl_let_e hf
    refine fp_X4_34 C hw ht0 eM4 dX4_appendWind_26 (fun H locs hw => ?_)
    obtain rfl := Option.some.inj hf
    exact cr_retv C hw dX4_appendWind_29
set_option maxRecDepth 100000 in
theorem c_X4_appendWind {l : Launch} {dd : cl_D} {b : Nat} (hlt : l.stackTraces = false) {M : cl_M} {t0 : Nat} {a1 : Int32}  {M' : cl_M} (ht0 : cl_sh dd t0 = 4) (h : f_X4_appendWind M t0 a1 = some M') : cl_Mv l dd b yX4_appendWind cX4_appendWind 2 none 0 0 [.ref (b + t0), .int a1] M M' :=
  cl_of hlt (by decide) (Nat.le_of_ble_eq_true rfl) (fun p e s m below meth c ls C hw hl => k_X4_appendWind C M t0 a1 M' h _ _ _ ht0 hw (lv_sub hl [0, 1] rfl))
theorem cy_X4_appendWind : cl_cy yX4_appendWind cX4_appendWind 2 none 1 := ⟨in_ClothesLine_Weather, cd_X4_appendWind, by decide +kernel, by decide +kernel, by decide +kernel⟩
theorem vy_X4_appendWind : cl_vy yX4_appendWind := ⟨im_X4_appendWind, se_X4_appendWind⟩
def f_X4_appendShower (M : cl_M) (t0 : Nat) (a1 : Int32) (a2 : Int32) (a3 : Int32) : Option (cl_M) := if 4 ≤ (M t0 6) then some M else if cl_inb (M t0 6) 4 = true then cl_let (cl_ms M (t0 + 2) (M t0 6).toNatClampNeg a1) (fun M3 => if cl_inb (M3 t0 6) 4 = true then cl_let (cl_ms M3 (t0 + 3) (M3 t0 6).toNatClampNeg (a1 + a2)) (fun M5 => if cl_inb (M5 t0 6) 4 = true then cl_let (cl_ms M5 (t0 + 4) (M5 t0 6).toNatClampNeg a3) (fun M7 => cl_let (cl_ms M7 t0 6 ((M7 t0 6) + 1)) (fun M8 => some M8)) else none) else none) else none
set_option maxHeartbeats 4000000 in
set_option maxRecDepth 100000 in
theorem k_X4_appendShower {p : Program} {l : Launch} {e : Env} {s : State} {m : MethodId} {args : Array Value} {below : List Frame} {meth : Method} {c : Code} {dd : cl_D} {b : Nat} (C : cl_C p l s m args meth c cX4_appendShower RX4 4 none dd b) : ∀ (M : cl_M) (t0 : Nat) (a1 : Int32) (a2 : Int32) (a3 : Int32) (M' : cl_M), f_X4_appendShower M t0 a1 a2 a3 = some M' → ∀ (H : Heap) (locs : List Loc) (ls : Array Slot), cl_sh dd t0 = 4 → cl_H dd b M s H locs → lv_has ls 4 [(0, .ref (b + t0)), (1, .int a1), (2, .int a2), (3, .int a3)] → W p l e { frames := 0, cells := 0, slots := 0, locals := 0 } s m args below meth c H locs 0 0 (cl_Zv below args s dd b M') (F0 m 0 ls []) := by
  have hx := C.1
  have hb := C.2.1
  have hlt := C.2.2.2.2.2.2.2.2.2.2
  have hRr := C.2.2.2.2.2.2.2.2.2.1
  intro M t0 a1 a2 a3 M' hf H locs ls ht0 hw hl
  unfold f_X4_appendShower at hf
  refine lv_aload_n hx hb dX4_appendShower_0 rfl (lv_at hl 0 rfl) ?_
  refine fg_X4_37 C hw ht0 dX4_appendShower_1 ?_
  refine lv_iconst (v := 4) hx hb dX4_appendShower_4 (by decide) ?_
  refine lv_icmp_ge (tgt := 50) hx hb dX4_appendShower_5 (by decide) (fun c1 => ?_) (fun c1 => ?_)
  · have hf := cl_yes c1 hf
    obtain rfl := Option.some.inj hf
    exact cr_retv C hw dX4_appendShower_50
  · have hf := cl_no c1 hf
    refine lv_aload_n hx hb dX4_appendShower_8 rfl (lv_at hl 0 rfl) ?_
    refine fg_X4_15 C hw ht0 dX4_appendShower_9 ?_
    refine lv_aload_n hx hb dX4_appendShower_12 rfl (lv_at hl 0 rfl) ?_
    refine fg_X4_37 C hw ht0 dX4_appendShower_13 ?_
    refine lv_iload_n hx hb dX4_appendShower_16 rfl (lv_at hl 1 rfl) ?_
    obtain ⟨q2, hf⟩ := cl_grd hf
    obtain ⟨M3, eM3, hf⟩ := cl_let_e hf
    refine cr_iast C hw (sh_4_3 ht0).1 (sh_4_3 ht0).2 q2 (k := (M t0 6).toNatClampNeg) rfl eM3 dX4_appendShower_17 (fun H locs hw => ?_)
    refine lv_aload_n hx hb dX4_appendShower_18 rfl (lv_at hl 0 rfl) ?_
    refine fg_X4_18 C hw ht0 dX4_appendShower_19 ?_
    refine lv_aload_n hx hb dX4_appendShower_22 rfl (lv_at hl 0 rfl) ?_
    refine fg_X4_37 C hw ht0 dX4_appendShower_23 ?_
    refine lv_iload_n hx hb dX4_appendShower_26 rfl (lv_at hl 1 rfl) ?_
    refine lv_iload_n hx hb dX4_appendShower_27 rfl (lv_at hl 2 rfl) ?_
    refine lv_iadd hx hb dX4_appendShower_28 ?_
    obtain ⟨q4, hf⟩ := cl_grd hf
    obtain ⟨M5, eM5, hf⟩ := cl_let_e hf
    refine cr_iast C hw (sh_4_4 ht0).1 (sh_4_4 ht0).2 q4 (k := (M3 t0 6).toNatClampNeg) rfl eM5 dX4_appendShower_29 (fun H locs hw => ?_)
    refine lv_aload_n hx hb dX4_appendShower_30 rfl (lv_at hl 0 rfl) ?_
    refine fg_X4_21 C hw ht0 dX4_appendShower_31 ?_
    refine lv_aload_n hx hb dX4_appendShower_34 rfl (lv_at hl 0 rfl) ?_
    refine fg_X4_37 C hw ht0 dX4_appendShower_35 ?_
    refine lv_iload_n hx hb dX4_appendShower_38 rfl (lv_at hl 3 rfl) ?_
    obtain ⟨q6, hf⟩ := cl_grd hf
    obtain ⟨M7, eM7, hf⟩ := cl_let_e hf
    refine cr_iast C hw (sh_4_5 ht0).1 (sh_4_5 ht0).2 q6 (k := (M5 t0 6).toNatClampNeg) rfl eM7 dX4_appendShower_39 (fun H locs hw => ?_)
    refine lv_aload_n hx hb dX4_appendShower_40 rfl (lv_at hl 0 rfl) ?_
    refine lv_dup hx hb dX4_appendShower_41 rfl ?_
    refine fg_X4_37 C hw ht0 dX4_appendShower_42 ?_
    refine lv_iconst (v := 1) hx hb dX4_appendShower_45 (by decide) ?_
    refine lv_iadd hx hb dX4_appendShower_46 ?_
    obtain ⟨M8, eM8, hf⟩ := cl_let_e hf
    refine fp_X4_37 C hw ht0 eM8 dX4_appendShower_47 (fun H locs hw => ?_)
    obtain rfl := Option.some.inj hf
    exact cr_retv C hw dX4_appendShower_50
set_option maxRecDepth 100000 in
theorem c_X4_appendShower {l : Launch} {dd : cl_D} {b : Nat} (hlt : l.stackTraces = false) {M : cl_M} {t0 : Nat} {a1 : Int32} {a2 : Int32} {a3 : Int32}  {M' : cl_M} (ht0 : cl_sh dd t0 = 4) (h : f_X4_appendShower M t0 a1 a2 a3 = some M') : cl_Mv l dd b yX4_appendShower cX4_appendShower 4 none 0 0 [.ref (b + t0), .int a1, .int a2, .int a3] M M' :=
  cl_of hlt (by decide) (Nat.le_of_ble_eq_true rfl) (fun p e s m below meth c ls C hw hl => k_X4_appendShower C M t0 a1 a2 a3 M' h _ _ _ ht0 hw (lv_sub hl [0, 1, 2, 3] rfl))
theorem cy_X4_appendShower : cl_cy yX4_appendShower cX4_appendShower 4 none 3 := ⟨in_ClothesLine_Weather, cd_X4_appendShower, by decide +kernel, by decide +kernel, by decide +kernel⟩
theorem vy_X4_appendShower : cl_vy yX4_appendShower := ⟨im_X4_appendShower, se_X4_appendShower⟩
def f_X4_appendSmoke (M : cl_M) (t0 : Nat) (a1 : Int32) (a2 : Int32) : Option (cl_M) := if 4 ≤ (M t0 9) then some M else if cl_inb (M t0 9) 4 = true then cl_let (cl_ms M (t0 + 5) (M t0 9).toNatClampNeg a1) (fun M3 => if cl_inb (M3 t0 9) 4 = true then cl_let (cl_ms M3 (t0 + 6) (M3 t0 9).toNatClampNeg a2) (fun M5 => cl_let (cl_ms M5 t0 9 ((M5 t0 9) + 1)) (fun M6 => some M6)) else none) else none
set_option maxHeartbeats 4000000 in
set_option maxRecDepth 100000 in
theorem k_X4_appendSmoke {p : Program} {l : Launch} {e : Env} {s : State} {m : MethodId} {args : Array Value} {below : List Frame} {meth : Method} {c : Code} {dd : cl_D} {b : Nat} (C : cl_C p l s m args meth c cX4_appendSmoke RX4 3 none dd b) : ∀ (M : cl_M) (t0 : Nat) (a1 : Int32) (a2 : Int32) (M' : cl_M), f_X4_appendSmoke M t0 a1 a2 = some M' → ∀ (H : Heap) (locs : List Loc) (ls : Array Slot), cl_sh dd t0 = 4 → cl_H dd b M s H locs → lv_has ls 3 [(0, .ref (b + t0)), (1, .int a1), (2, .int a2)] → W p l e { frames := 0, cells := 0, slots := 0, locals := 0 } s m args below meth c H locs 0 0 (cl_Zv below args s dd b M') (F0 m 0 ls []) := by
  have hx := C.1
  have hb := C.2.1
  have hlt := C.2.2.2.2.2.2.2.2.2.2
  have hRr := C.2.2.2.2.2.2.2.2.2.1
  intro M t0 a1 a2 M' hf H locs ls ht0 hw hl
  unfold f_X4_appendSmoke at hf
  refine lv_aload_n hx hb dX4_appendSmoke_0 rfl (lv_at hl 0 rfl) ?_
  refine fg_X4_40 C hw ht0 dX4_appendSmoke_1 ?_
  refine lv_iconst (v := 4) hx hb dX4_appendSmoke_4 (by decide) ?_
  refine lv_icmp_ge (tgt := 38) hx hb dX4_appendSmoke_5 (by decide) (fun c1 => ?_) (fun c1 => ?_)
  · have hf := cl_yes c1 hf
    obtain rfl := Option.some.inj hf
    exact cr_retv C hw dX4_appendSmoke_38
  · have hf := cl_no c1 hf
    refine lv_aload_n hx hb dX4_appendSmoke_8 rfl (lv_at hl 0 rfl) ?_
    refine fg_X4_24 C hw ht0 dX4_appendSmoke_9 ?_
    refine lv_aload_n hx hb dX4_appendSmoke_12 rfl (lv_at hl 0 rfl) ?_
    refine fg_X4_40 C hw ht0 dX4_appendSmoke_13 ?_
    refine lv_iload_n hx hb dX4_appendSmoke_16 rfl (lv_at hl 1 rfl) ?_
    obtain ⟨q2, hf⟩ := cl_grd hf
    obtain ⟨M3, eM3, hf⟩ := cl_let_e hf
    refine cr_iast C hw (sh_4_7 ht0).1 (sh_4_7 ht0).2 q2 (k := (M t0 9).toNatClampNeg) rfl eM3 dX4_appendSmoke_17 (fun H locs hw => ?_)
    refine lv_aload_n hx hb dX4_appendSmoke_18 rfl (lv_at hl 0 rfl) ?_
    refine fg_X4_27 C hw ht0 dX4_appendSmoke_19 ?_
    refine lv_aload_n hx hb dX4_appendSmoke_22 rfl (lv_at hl 0 rfl) ?_
    refine fg_X4_40 C hw ht0 dX4_appendSmoke_23 ?_
    refine lv_iload_n hx hb dX4_appendSmoke_26 rfl (lv_at hl 2 rfl) ?_
    obtain ⟨q4, hf⟩ := cl_grd hf
    obtain ⟨M5, eM5, hf⟩ := cl_let_e hf
    refine cr_iast C hw (sh_4_8 ht0).1 (sh_4_8 ht0).2 q4 (k := (M3 t0 9).toNatClampNeg) rfl eM5 dX4_appendSmoke_27 (fun H locs hw => ?_)
    refine lv_aload_n hx hb dX4_appendSmoke_28 rfl (lv_at hl 0 rfl) ?_
    refine lv_dup hx hb dX4_appendSmoke_29 rfl ?_
    refine fg_X4_40 C hw ht0 dX4_appendSmoke_30 ?_
    refine lv_iconst (v := 1) hx hb dX4_appendSmoke_33 (by decide) ?_
    refine lv_iadd hx hb dX4_appendSmoke_34 ?_
    obtain ⟨M6, eM6, hf⟩ := cl_let_e hf
    refine fp_X4_40 C hw ht0 eM6 dX4_appendSmoke_35 (fun H locs hw => ?_)
    obtain rfl := Option.some.inj hf
    exact cr_retv C hw dX4_appendSmoke_38
set_option maxRecDepth 100000 in
theorem c_X4_appendSmoke {l : Launch} {dd : cl_D} {b : Nat} (hlt : l.stackTraces = false) {M : cl_M} {t0 : Nat} {a1 : Int32} {a2 : Int32}  {M' : cl_M} (ht0 : cl_sh dd t0 = 4) (h : f_X4_appendSmoke M t0 a1 a2 = some M') : cl_Mv l dd b yX4_appendSmoke cX4_appendSmoke 3 none 0 0 [.ref (b + t0), .int a1, .int a2] M M' :=
  cl_of hlt (by decide) (Nat.le_of_ble_eq_true rfl) (fun p e s m below meth c ls C hw hl => k_X4_appendSmoke C M t0 a1 a2 M' h _ _ _ ht0 hw (lv_sub hl [0, 1, 2] rfl))
theorem cy_X4_appendSmoke : cl_cy yX4_appendSmoke cX4_appendSmoke 3 none 2 := ⟨in_ClothesLine_Weather, cd_X4_appendSmoke, by decide +kernel, by decide +kernel, by decide +kernel⟩
theorem vy_X4_appendSmoke : cl_vy yX4_appendSmoke := ⟨im_X4_appendSmoke, se_X4_appendSmoke⟩
def f_X4_waitForRain_50 (r4 : cl_M → Nat → Int32 → Int32 → Int32 → Option (Int32)) (M : cl_M) (t0 : Nat) (a1 : Int32) (a2 : Int32) (a3 : Int32) : Option (Int32) := cl_let (a3 + 1) (fun v6 => r4 M t0 a1 a2 v6)
set_option maxHeartbeats 4000000 in
set_option maxRecDepth 100000 in
theorem k_X4_waitForRain_50 {p : Program} {l : Launch} {e : Env} {s : State} {m : MethodId} {args : Array Value} {below : List Frame} {meth : Method} {c : Code} {dd : cl_D} {b : Nat} (C : cl_C p l s m args meth c cX4_waitForRain RX4 5 (some .int) dd b) {r4 : cl_M → Nat → Int32 → Int32 → Int32 → Option (Int32)} (hr4 : ∀ (M : cl_M) (t0 : Nat) (a1 : Int32) (a2 : Int32) (a3 : Int32) (r : Int32), r4 M t0 a1 a2 a3 = some r → ∀ (H : Heap) (locs : List Loc) (ls : Array Slot), cl_sh dd t0 = 4 → cl_H dd b M s H locs → lv_has ls 5 [(0, .ref (b + t0)), (1, .int a1), (2, .int a2), (3, .int a3)] → W p l e { frames := 1, cells := 0, slots := 0, locals := 13 } s m args below meth c H locs 0 0 (cl_Zi below args s dd b r M) (F0 m 4 ls [])) : ∀ (M : cl_M) (t0 : Nat) (a1 : Int32) (a2 : Int32) (a3 : Int32) (r : Int32), f_X4_waitForRain_50 r4 M t0 a1 a2 a3 = some r → ∀ (H : Heap) (locs : List Loc) (ls : Array Slot), cl_sh dd t0 = 4 → cl_H dd b M s H locs → lv_has ls 5 [(0, .ref (b + t0)), (1, .int a1), (2, .int a2), (3, .int a3)] → W p l e { frames := 1, cells := 0, slots := 0, locals := 13 } s m args below meth c H locs 0 0 (cl_Zi below args s dd b r M) (F0 m 50 ls []) := by
  have hx := C.1
  have hb := C.2.1
  have hlt := C.2.2.2.2.2.2.2.2.2.2
  have hRr := C.2.2.2.2.2.2.2.2.2.1
  intro M t0 a1 a2 a3 r hf H locs ls ht0 hw hl
  unfold f_X4_waitForRain_50 at hf
  obtain ⟨v6, ev6, hf⟩ := cl_let_e hf
  refine lv_iinc (v := v6) (lv' := [(3, .int v6), (0, .ref (b + t0)), (1, .int a1), (2, .int a2)]) hx hb dX4_waitForRain_50 hl (k := 3) rfl (by rw [ev6]; rfl) (by decide) rfl (fun ls hl => ?_)
  refine lv_goto (tgt := 4) hx hb dX4_waitForRain_53 (by decide) ?_
  exact hr4 M t0 a1 a2 v6 _ hf _ _ _ ht0 hw (lv_sub hl [1, 2, 3, 0] rfl)
def f_X4_waitForRain_47 (r4 : cl_M → Nat → Int32 → Int32 → Int32 → Option (Int32)) (M : cl_M) (t0 : Nat) (a1 : Int32) (a3 : Int32) (a4 : Int32) : Option (Int32) := f_X4_waitForRain_50 r4 M t0 a1 a4 a3
set_option maxHeartbeats 4000000 in
set_option maxRecDepth 100000 in
theorem k_X4_waitForRain_47 {p : Program} {l : Launch} {e : Env} {s : State} {m : MethodId} {args : Array Value} {below : List Frame} {meth : Method} {c : Code} {dd : cl_D} {b : Nat} (C : cl_C p l s m args meth c cX4_waitForRain RX4 5 (some .int) dd b) {r4 : cl_M → Nat → Int32 → Int32 → Int32 → Option (Int32)} (hr4 : ∀ (M : cl_M) (t0 : Nat) (a1 : Int32) (a2 : Int32) (a3 : Int32) (r : Int32), r4 M t0 a1 a2 a3 = some r → ∀ (H : Heap) (locs : List Loc) (ls : Array Slot), cl_sh dd t0 = 4 → cl_H dd b M s H locs → lv_has ls 5 [(0, .ref (b + t0)), (1, .int a1), (2, .int a2), (3, .int a3)] → W p l e { frames := 1, cells := 0, slots := 0, locals := 13 } s m args below meth c H locs 0 0 (cl_Zi below args s dd b r M) (F0 m 4 ls [])) : ∀ (M : cl_M) (t0 : Nat) (a1 : Int32) (a3 : Int32) (a4 : Int32) (r : Int32), f_X4_waitForRain_47 r4 M t0 a1 a3 a4 = some r → ∀ (H : Heap) (locs : List Loc) (ls : Array Slot), cl_sh dd t0 = 4 → cl_H dd b M s H locs → lv_has ls 5 [(0, .ref (b + t0)), (1, .int a1), (3, .int a3), (4, .int a4)] → W p l e { frames := 1, cells := 0, slots := 0, locals := 13 } s m args below meth c H locs 0 0 (cl_Zi below args s dd b r M) (F0 m 47 ls []) := by
  have hx := C.1
  have hb := C.2.1
  have hlt := C.2.2.2.2.2.2.2.2.2.2
  have hRr := C.2.2.2.2.2.2.2.2.2.1
  intro M t0 a1 a3 a4 r hf H locs ls ht0 hw hl
  unfold f_X4_waitForRain_47 at hf
  refine lv_iload hx hb dX4_waitForRain_47 (lv_at hl 3 rfl) ?_
  refine lv_istore_n (lv' := [(2, .int a4), (0, .ref (b + t0)), (1, .int a1), (3, .int a3), (4, .int a4)]) hx hb dX4_waitForRain_49 rfl hl (by decide) rfl (fun ls hl => ?_)
  exact k_X4_waitForRain_50 C hr4 M t0 a1 a4 a3 _ hf _ _ _ ht0 hw (lv_sub hl [1, 2, 0, 3] rfl)
def f_X4_waitForRain_4 : Nat → cl_M → Nat → Int32 → Int32 → Int32 → Option (Int32)
  | 0, _, _, _, _, _ => none
  | k + 1, M, t0, a1, a2, a3 => if (M t0 6) ≤ a3 then some a2 else if cl_inb a3 4 = true then cl_let (if ((M (t0 + 2) (a3.toNatClampNeg)) - a1) < 0 then 0 else ((M (t0 + 2) (a3.toNatClampNeg)) - a1)) (fun v3 => if cl_inb a3 4 = true then if (M (t0 + 3) (a3.toNatClampNeg)) ≤ a1 then f_X4_waitForRain_50 (f_X4_waitForRain_4 k) M t0 a1 a2 a3 else if a2 = (-1) then f_X4_waitForRain_47 (f_X4_waitForRain_4 k) M t0 a1 a3 v3 else if a2 ≤ v3 then f_X4_waitForRain_50 (f_X4_waitForRain_4 k) M t0 a1 a2 a3 else f_X4_waitForRain_47 (f_X4_waitForRain_4 k) M t0 a1 a3 v3 else none) else none
set_option maxHeartbeats 4000000 in
set_option maxRecDepth 100000 in
theorem k_X4_waitForRain_4 {p : Program} {l : Launch} {e : Env} {s : State} {m : MethodId} {args : Array Value} {below : List Frame} {meth : Method} {c : Code} {dd : cl_D} {b : Nat} (C : cl_C p l s m args meth c cX4_waitForRain RX4 5 (some .int) dd b) : ∀ (k : Nat), ∀ (M : cl_M) (t0 : Nat) (a1 : Int32) (a2 : Int32) (a3 : Int32) (r : Int32), f_X4_waitForRain_4 k M t0 a1 a2 a3 = some r → ∀ (H : Heap) (locs : List Loc) (ls : Array Slot), cl_sh dd t0 = 4 → cl_H dd b M s H locs → lv_has ls 5 [(0, .ref (b + t0)), (1, .int a1), (2, .int a2), (3, .int a3)] → W p l e { frames := 1, cells := 0, slots := 0, locals := 13 } s m args below meth c H locs 0 0 (cl_Zi below args s dd b r M) (F0 m 4 ls []) := by
  have hx := C.1
  have hb := C.2.1
  have hlt := C.2.2.2.2.2.2.2.2.2.2
  have hRr := C.2.2.2.2.2.2.2.2.2.1
  intro k
  induction k with
  | zero =>
    intro M t0 a1 a2 a3 r hf H locs ls ht0 hw hl
    rw [f_X4_waitForRain_4] at hf
    cases hf
  | succ k ih =>
    intro M t0 a1 a2 a3 r hf H locs ls ht0 hw hl
    rw [f_X4_waitForRain_4] at hf
    refine lv_iload_n hx hb dX4_waitForRain_4 rfl (lv_at hl 3 rfl) ?_
    refine lv_aload_n hx hb dX4_waitForRain_5 rfl (lv_at hl 0 rfl) ?_
    refine fg_X4_37 C hw ht0 dX4_waitForRain_6 ?_
    refine lv_icmp_ge (tgt := 56) hx hb dX4_waitForRain_9 (by decide) (fun c1 => ?_) (fun c1 => ?_)
    · have hf := cl_yes c1 hf
      refine lv_iload_n hx hb dX4_waitForRain_56 rfl (lv_at hl 2 rfl) ?_
      obtain rfl := Option.some.inj hf
      exact cr_reti C hw dX4_waitForRain_57
    · have hf := cl_no c1 hf
      refine lv_aload_n hx hb dX4_waitForRain_12 rfl (lv_at hl 0 rfl) ?_
      refine fg_X4_15 C hw ht0 dX4_waitForRain_13 ?_
      refine lv_iload_n hx hb dX4_waitForRain_16 rfl (lv_at hl 3 rfl) ?_
      obtain ⟨q2, hf⟩ := cl_grd hf
      refine cr_iald C hw (sh_4_3 ht0).1 (sh_4_3 ht0).2 q2 (k := a3.toNatClampNeg) rfl dX4_waitForRain_17 ?_
      refine lv_iload_n hx hb dX4_waitForRain_18 rfl (lv_at hl 1 rfl) ?_
      refine lv_isub hx hb dX4_waitForRain_19 ?_
      refine lv_iconst (v := 0) hx hb dX4_waitForRain_20 (by decide) ?_
      refine cr_max C ml_X4_57 st_math_max in_math cd_math_max hl.1 ⟨Nat.le_of_ble_eq_true rfl, Nat.le_of_ble_eq_true rfl, Nat.le_of_ble_eq_true rfl, Nat.le_of_ble_eq_true rfl⟩ dX4_waitForRain_21 ?_
      obtain ⟨v3, ev3, hf⟩ := cl_let_e hf
      refine cr_top ev3 ?_
      refine lv_istore (lv' := [(4, .int v3), (0, .ref (b + t0)), (1, .int a1), (2, .int a2), (3, .int a3)]) hx hb dX4_waitForRain_24 hl (by decide) rfl (fun ls hl => ?_)
      refine lv_iload_n hx hb dX4_waitForRain_26 rfl (lv_at hl 2 rfl) ?_
      refine lv_aload_n hx hb dX4_waitForRain_27 rfl (lv_at hl 1 rfl) ?_
      refine fg_X4_18 C hw ht0 dX4_waitForRain_28 ?_
      refine lv_iload_n hx hb dX4_waitForRain_31 rfl (lv_at hl 4 rfl) ?_
      obtain ⟨q4, hf⟩ := cl_grd hf
      refine cr_iald C hw (sh_4_4 ht0).1 (sh_4_4 ht0).2 q4 (k := a3.toNatClampNeg) rfl dX4_waitForRain_32 ?_
      refine lv_icmp_ge (tgt := 50) hx hb dX4_waitForRain_33 (by decide) (fun c5 => ?_) (fun c5 => ?_)
      · have hf := cl_yes c5 hf
        exact k_X4_waitForRain_50 C ih M t0 a1 a2 a3 _ hf _ _ _ ht0 hw (lv_sub hl [1, 2, 3, 4] rfl)
      · have hf := cl_no c5 hf
        refine lv_iload_n hx hb dX4_waitForRain_36 rfl (lv_at hl 3 rfl) ?_
        refine lv_iconst (v := (-1)) hx hb dX4_waitForRain_37 (by decide) ?_
        refine lv_icmp_eq (tgt := 47) hx hb dX4_waitForRain_38 (by decide) (fun c7 => ?_) (fun c7 => ?_)
        · have hf := cl_yes c7 hf
          exact k_X4_waitForRain_47 C ih M t0 a1 a3 v3 _ hf _ _ _ ht0 hw (lv_sub hl [1, 2, 4, 0] rfl)
        · have hf := cl_no c7 hf
          refine lv_iload hx hb dX4_waitForRain_41 (lv_at hl 0 rfl) ?_
          refine lv_iload_n hx hb dX4_waitForRain_43 rfl (lv_at hl 3 rfl) ?_
          refine lv_icmp_ge (tgt := 50) hx hb dX4_waitForRain_44 (by decide) (fun c8 => ?_) (fun c8 => ?_)
          · have hf := cl_yes c8 hf
            exact k_X4_waitForRain_50 C ih M t0 a1 a2 a3 _ hf _ _ _ ht0 hw (lv_sub hl [1, 2, 3, 4] rfl)
          · have hf := cl_no c8 hf
            exact k_X4_waitForRain_47 C ih M t0 a1 a3 v3 _ hf _ _ _ ht0 hw (lv_sub hl [1, 2, 4, 0] rfl)
def f_X4_waitForRain (M : cl_M) (t0 : Nat) (a1 : Int32) : Option (Int32) := f_X4_waitForRain_4 cl_F M t0 a1 (-1) 0
set_option maxHeartbeats 4000000 in
set_option maxRecDepth 100000 in
theorem k_X4_waitForRain {p : Program} {l : Launch} {e : Env} {s : State} {m : MethodId} {args : Array Value} {below : List Frame} {meth : Method} {c : Code} {dd : cl_D} {b : Nat} (C : cl_C p l s m args meth c cX4_waitForRain RX4 5 (some .int) dd b) : ∀ (M : cl_M) (t0 : Nat) (a1 : Int32) (r : Int32), f_X4_waitForRain M t0 a1 = some r → ∀ (H : Heap) (locs : List Loc) (ls : Array Slot), cl_sh dd t0 = 4 → cl_H dd b M s H locs → lv_has ls 5 [(0, .ref (b + t0)), (1, .int a1)] → W p l e { frames := 1, cells := 0, slots := 0, locals := 13 } s m args below meth c H locs 0 0 (cl_Zi below args s dd b r M) (F0 m 0 ls []) := by
  have hx := C.1
  have hb := C.2.1
  have hlt := C.2.2.2.2.2.2.2.2.2.2
  have hRr := C.2.2.2.2.2.2.2.2.2.1
  intro M t0 a1 r hf H locs ls ht0 hw hl
  unfold f_X4_waitForRain at hf
  refine lv_iconst (v := (-1)) hx hb dX4_waitForRain_0 (by decide) ?_
  refine lv_istore_n (lv' := [(2, .int (-1)), (0, .ref (b + t0)), (1, .int a1)]) hx hb dX4_waitForRain_1 rfl hl (by decide) rfl (fun ls hl => ?_)
  refine lv_iconst (v := 0) hx hb dX4_waitForRain_2 (by decide) ?_
  refine lv_istore_n (lv' := [(3, .int 0), (2, .int (-1)), (0, .ref (b + t0)), (1, .int a1)]) hx hb dX4_waitForRain_3 rfl hl (by decide) rfl (fun ls hl => ?_)
  exact k_X4_waitForRain_4 C cl_F M t0 a1 (-1) 0 _ hf _ _ _ ht0 hw (lv_sub hl [2, 3, 1, 0] rfl)
set_option maxRecDepth 100000 in
theorem c_X4_waitForRain {l : Launch} {dd : cl_D} {b : Nat} (hlt : l.stackTraces = false) {M : cl_M} {t0 : Nat} {a1 : Int32}  {r : Int32} (ht0 : cl_sh dd t0 = 4) (h : f_X4_waitForRain M t0 a1 = some r) : cl_Mi l dd b yX4_waitForRain cX4_waitForRain 5 (some .int) 1 13 [.ref (b + t0), .int a1] M r M :=
  cl_of hlt (by decide) (Nat.le_of_ble_eq_true rfl) (fun p e s m below meth c ls C hw hl => k_X4_waitForRain C M t0 a1 r h _ _ _ ht0 hw (lv_sub hl [0, 1] rfl))
theorem cy_X4_waitForRain : cl_cy yX4_waitForRain cX4_waitForRain 5 (some .int) 1 := ⟨in_ClothesLine_Weather, cd_X4_waitForRain, by decide +kernel, by decide +kernel, by decide +kernel⟩
theorem vy_X4_waitForRain : cl_vy yX4_waitForRain := ⟨im_X4_waitForRain, se_X4_waitForRain⟩
