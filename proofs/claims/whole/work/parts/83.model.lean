/-! the constructor of the reference: its arrays, the first setup's text, and loadSetup -/
theorem ml_X6_57 : Cond.methodLink RX6 57 yX6_loadSetup ∈ cl_W := cl_W_in 1257 (by decide +kernel) rfl
/-- the memory with the first setup's text up to i in the reference's buffer -/
def md_t (M : cl_M) (i : Nat) : cl_M := cl_row M 238 (fun j => if j < i then cl_ch 28 j else 0)
theorem md_t0 {M : cl_M} (h : M 238 = fun _ => 0) : md_t M 0 = M := by
  funext x
  unfold md_t
  by_cases q : x = 238
  · rw [q, cl_row_s, h]
    funext j
    rw [if_neg (by omega)]
  · rw [cl_row_n q]
theorem md_ts {M : cl_M} {i : Nat} : md_t M (i + 1) = cl_ms (md_t M i) 238 i (cl_ch 28 i) := by
  funext x
  unfold cl_ms md_t
  by_cases q : x = 238
  · rw [q, cl_row_s, cl_row_s, cl_row_s]
    funext j
    by_cases q2 : j = i
    · rw [q2, pk_us, if_pos (by omega)]
    · rw [pk_un q2]
      by_cases q3 : j < i
      · rw [if_pos q3, if_pos (by omega)]
      · rw [if_neg q3, if_neg (by omega)]
  · rw [cl_row_n q, cl_row_n q, cl_row_n q]
def md_N (M : cl_M) : cl_M := cl_ms (md_t M (cl_sl 28)) 237 1 (nI (cl_sl 28))
def md_E (dd : cl_D) (b : Nat) (M : cl_M) : Nat → va_E := fun k => if k = 237 then .inr (6, nw_06) else nw_X dd b M k
theorem md_len : cl_sl 28 < 701 := by decide +kernel
set_option maxHeartbeats 4000000 in
set_option maxRecDepth 100000 in
theorem c_X6_init (l : Launch) (hlt : l.stackTraces = false) (dd : cl_D) (b : Nat) (hd : cl_K dd = 247) {M N1 : cl_M} {w : Int32} (hM : ∀ x, 237 ≤ x → M x = fi_M0 x) (f1 : f_X6_loadSetup (md_N M) 237 = some (w, N1)) : nw_G l dd b yX6_init cX6_init 3 11 9 2667 246 (b + 237) 238 (md_E dd b M) (fun t => cl_J dd b N1 t) := by
  refine nw_ofG hlt (by decide) rfl (Nat.le_of_ble_eq_true rfl) (fun p e s m below meth c ls C hA hin hz hw hl => ?_)
  have hx := C.1
  have hb := C.2.1
  have hRr := C.2.2.2.2.2.2.2.2.2.1
  refine lv_aload_n hx hb dX6_init_0 rfl (lv_at hl 0 rfl) ?_
  refine nw_obj C ob_X6 im_obj cd_obj hl.1 ⟨Nat.le_of_ble_eq_true rfl, Nat.le_of_ble_eq_true rfl⟩ dX6_init_1 ?_
  refine lv_aload_n hx hb dX6_init_4 rfl (lv_at hl 0 rfl) ?_
  refine lv_sipush (v := 700) hx hb dX6_init_5 (by decide) ?_
  refine nw_newi C hw (by omega) (Or.inl (by omega)) ac_int (N := 700) (by decide) (by decide) (by decide) ⟨Nat.le_of_ble_eq_true rfl, Nat.le_of_ble_eq_true rfl⟩ dX6_init_8 (fun H hw => ?_)
  refine nw_putF C hw hin (t := 237) (by omega) rfl rfl cl_inW6 tyX6 tyX6_ok nmX6 0 (by decide) fl_X6_7 rfl rfl rfl rfl rfl (Nat.le_of_ble_eq_true rfl) rfl dX6_init_10 (fun H locs hw => ?_)
  refine lv_aload_n hx hb dX6_init_13 rfl (lv_at hl 0 rfl) ?_
  refine lv_iconst (v := -1) hx hb dX6_init_14 (by decide) ?_
  refine nw_put C hw (t := 237) (by omega) rfl rfl cl_inW6 tyX6 tyX6_ok nmX6 3 (by decide) fl_X6_13 rfl rfl rfl rfl (Nat.le_of_ble_eq_true rfl) rfl dX6_init_15 (fun H locs hw => ?_)
  refine lv_aload_n hx hb dX6_init_18 rfl (lv_at hl 0 rfl) ?_
  refine lv_sipush (v := 149) hx hb dX6_init_19 (by decide) ?_
  refine nw_newi C hw (by omega) (Or.inl (by omega)) ac_int (N := 149) (by decide) (by decide) (by decide) ⟨Nat.le_of_ble_eq_true rfl, Nat.le_of_ble_eq_true rfl⟩ dX6_init_22 (fun H hw => ?_)
  refine nw_putF C hw hin (t := 237) (by omega) rfl rfl cl_inW6 tyX6 tyX6_ok nmX6 5 (by decide) fl_X6_17 rfl rfl rfl rfl rfl (Nat.le_of_ble_eq_true rfl) rfl dX6_init_24 (fun H locs hw => ?_)
  refine lv_aload_n hx hb dX6_init_27 rfl (lv_at hl 0 rfl) ?_
  refine lv_sipush (v := 149) hx hb dX6_init_28 (by decide) ?_
  refine nw_newi C hw (by omega) (Or.inl (by omega)) ac_int (N := 149) (by decide) (by decide) (by decide) ⟨Nat.le_of_ble_eq_true rfl, Nat.le_of_ble_eq_true rfl⟩ dX6_init_31 (fun H hw => ?_)
  refine nw_putF C hw hin (t := 237) (by omega) rfl rfl cl_inW6 tyX6 tyX6_ok nmX6 6 (by decide) fl_X6_20 rfl rfl rfl rfl rfl (Nat.le_of_ble_eq_true rfl) rfl dX6_init_33 (fun H locs hw => ?_)
  refine lv_aload_n hx hb dX6_init_36 rfl (lv_at hl 0 rfl) ?_
  refine lv_sipush (v := 149) hx hb dX6_init_37 (by decide) ?_
  refine nw_newi C hw (by omega) (Or.inl (by omega)) ac_int (N := 149) (by decide) (by decide) (by decide) ⟨Nat.le_of_ble_eq_true rfl, Nat.le_of_ble_eq_true rfl⟩ dX6_init_40 (fun H hw => ?_)
  refine nw_putF C hw hin (t := 237) (by omega) rfl rfl cl_inW6 tyX6 tyX6_ok nmX6 7 (by decide) fl_X6_23 rfl rfl rfl rfl rfl (Nat.le_of_ble_eq_true rfl) rfl dX6_init_42 (fun H locs hw => ?_)
  refine lv_aload_n hx hb dX6_init_45 rfl (lv_at hl 0 rfl) ?_
  refine lv_sipush (v := 1192) hx hb dX6_init_46 (by decide) ?_
  refine nw_newi C hw (by omega) (Or.inl (by omega)) ac_int (N := 1192) (by decide) (by decide) (by decide) ⟨Nat.le_of_ble_eq_true rfl, Nat.le_of_ble_eq_true rfl⟩ dX6_init_49 (fun H hw => ?_)
  refine nw_putF C hw hin (t := 237) (by omega) rfl rfl cl_inW6 tyX6 tyX6_ok nmX6 8 (by decide) fl_X6_26 rfl rfl rfl rfl rfl (Nat.le_of_ble_eq_true rfl) rfl dX6_init_51 (fun H locs hw => ?_)
  refine lv_aload_n hx hb dX6_init_54 rfl (lv_at hl 0 rfl) ?_
  refine lv_sipush (v := 298) hx hb dX6_init_55 (by decide) ?_
  refine nw_newi C hw (by omega) (Or.inl (by omega)) ac_int (N := 298) (by decide) (by decide) (by decide) ⟨Nat.le_of_ble_eq_true rfl, Nat.le_of_ble_eq_true rfl⟩ dX6_init_58 (fun H hw => ?_)
  refine nw_putF C hw hin (t := 237) (by omega) rfl rfl cl_inW6 tyX6 tyX6_ok nmX6 10 (by decide) fl_X6_29 rfl rfl rfl rfl rfl (Nat.le_of_ble_eq_true rfl) rfl dX6_init_60 (fun H locs hw => ?_)
  refine lv_aload_n hx hb dX6_init_63 rfl (lv_at hl 0 rfl) ?_
  refine lv_iconst (v := 2) hx hb dX6_init_64 (by decide) ?_
  refine nw_newz C hw (by omega) (Or.inl (by omega)) ac_boolean (N := 2) (by decide) (by decide) (by decide) ⟨Nat.le_of_ble_eq_true rfl, Nat.le_of_ble_eq_true rfl⟩ dX6_init_65 (fun H hw => ?_)
  refine nw_putF C hw hin (t := 237) (by omega) rfl rfl cl_inW6 tyX6 tyX6_ok nmX6 11 (by decide) fl_X6_32 rfl rfl rfl rfl rfl (Nat.le_of_ble_eq_true rfl) rfl dX6_init_67 (fun H locs hw => ?_)
  refine lv_aload_n hx hb dX6_init_70 rfl (lv_at hl 0 rfl) ?_
  refine lv_iconst (v := 4) hx hb dX6_init_71 (by decide) ?_
  refine nw_newi C hw (by omega) (Or.inl (by omega)) ac_int (N := 4) (by decide) (by decide) (by decide) ⟨Nat.le_of_ble_eq_true rfl, Nat.le_of_ble_eq_true rfl⟩ dX6_init_72 (fun H hw => ?_)
  refine nw_putF C hw hin (t := 237) (by omega) rfl rfl cl_inW6 tyX6 tyX6_ok nmX6 12 (by decide) fl_X6_36 rfl rfl rfl rfl rfl (Nat.le_of_ble_eq_true rfl) rfl dX6_init_74 (fun H locs hw => ?_)
  refine lv_aload_n hx hb dX6_init_77 rfl (lv_at hl 0 rfl) ?_
  refine lv_bipush (v := 24) hx hb dX6_init_78 (by decide) ?_
  refine nw_newi C hw (by omega) (Or.inl (by omega)) ac_int (N := 24) (by decide) (by decide) (by decide) ⟨Nat.le_of_ble_eq_true rfl, Nat.le_of_ble_eq_true rfl⟩ dX6_init_80 (fun H hw => ?_)
  refine nw_putF C hw hin (t := 237) (by omega) rfl rfl cl_inW6 tyX6 tyX6_ok nmX6 13 (by decide) fl_X6_39 rfl rfl rfl rfl rfl (Nat.le_of_ble_eq_true rfl) rfl dX6_init_82 (fun H locs hw => ?_)
  have s6 : cl_sh dd 237 = 6 := by rw [cl_sh, if_pos (by omega)]; rfl
  have s7 : cl_sh dd 238 = 7 := by rw [cl_sh, if_pos (by omega)]; rfl
  have hw : cl_H dd b (md_t M 0) s H locs := ⟨nw_to_w hd (hw.1.to (fun k hk => by
    rw [md_t0 (by rw [hM 238 (by omega)]; rfl)]
    by_cases q : k < 237
    · simp (disch := omega) only [nw_up_n]
      exact if_neg (by omega)
    · unfold nw_X
      rw [hM k (by omega)]
      rcases (show k = 237 ∨ k = 238 ∨ k = 239 ∨ k = 240 ∨ k = 241 ∨ k = 242 ∨ k = 243 ∨ k = 244 ∨ k = 245 ∨ k = 246 by omega) with rfl | rfl | rfl | rfl | rfl | rfl | rfl | rfl | rfl | rfl <;> rfl)), hw.2⟩
  refine va_ldcS hx hb C.2.2.2.1 (sr_28 hRr) dX6_init_85 ?_
  refine lv_astore_n (lv' := [(1, .ref (dd.2.2.1 28)), (0, .ref (b + 237))]) hx hb dX6_init_87 rfl hl (by decide) rfl (fun ls hl => ?_)
  refine lv_iconst (v := 0) hx hb dX6_init_88 (by decide) ?_
  refine lv_istore_n (lv' := [(2, .int 0), (1, .ref (dd.2.2.1 28)), (0, .ref (b + 237))]) hx hb dX6_init_89 rfl hl (by decide) rfl (fun ls hl => ?_)
  have loop : ∀ r i, i + r = cl_sl 28 → ∀ (H : Heap) (locs : List Loc) (ls : Array Slot), cl_H dd b (md_t M i) s H locs → lv_has ls 3 [(2, .int (nI i)), (1, .ref (dd.2.2.1 28)), (0, .ref (b + 237))] → W p l e { frames := 11, cells := 9, slots := 2667, locals := 246 } s m [Value.ref (b + 237)].toArray below meth c H locs 9 2667 (MQ below (va_Qv (fun (_ : Unit) => True) (fun _ t => cl_J dd b N1 t) (cl_A b)) [Value.ref (b + 237)].toArray s 9 2667 (cl_A b)) (F0 m 90 ls []) := by
    intro r
    induction r with
    | zero =>
      intro i hi H locs ls hw hl
      have hi : i = cl_sl 28 := by omega
      have h9 := md_len
      refine lv_iload_n hx hb dX6_init_90 rfl (lv_at hl 0 rfl) ?_
      refine lv_aload_n hx hb dX6_init_91 rfl (lv_at hl 1 rfl) ?_
      refine cr_slen C hw (i := 28) (by decide) ml_X6_44 hl.1 rfl ⟨⟨Nat.le_of_ble_eq_true rfl, Nat.le_of_ble_eq_true rfl⟩, Nat.le_of_ble_eq_true rfl, Nat.le_of_ble_eq_true rfl, Nat.le_of_ble_eq_true rfl⟩ dX6_init_92 (fun H locs hw => ?_)
      refine lv_icmp_ge (tgt := 115) hx hb dX6_init_95 (by decide) (fun c1 => ?_) (fun c1 => absurd ((nI_leI (by omega) (by omega)).mpr (by omega)) c1)
      refine lv_aload_n hx hb dX6_init_115 rfl (lv_at hl 2 rfl) ?_
      refine lv_aload_n hx hb dX6_init_116 rfl (lv_at hl 1 rfl) ?_
      refine cr_slen C hw (i := 28) (by decide) ml_X6_44 hl.1 rfl ⟨⟨Nat.le_of_ble_eq_true rfl, Nat.le_of_ble_eq_true rfl⟩, Nat.le_of_ble_eq_true rfl, Nat.le_of_ble_eq_true rfl, Nat.le_of_ble_eq_true rfl⟩ dX6_init_117 (fun H locs hw => ?_)
      refine fp_X6_54 C hw (t := 237) s6 (M' := md_N M) (by rw [hi]; rfl) dX6_init_120 (fun H locs hw => ?_)
      refine lv_aload_n hx hb dX6_init_123 rfl (lv_at hl 2 rfl) ?_
      refine cr_Vi C hw (c_X6_loadSetup hlt s6 f1) cy_X6_loadSetup vy_X6_loadSetup ml_X6_57 (cl_lt s6 (by decide)) (cl_e6 s6) rfl rfl (As := []) rfl hl.1 rfl ⟨⟨Nat.le_of_ble_eq_true rfl, Nat.le_of_ble_eq_true rfl⟩, Nat.le_of_ble_eq_true rfl, Nat.le_of_ble_eq_true rfl, Nat.le_of_ble_eq_true rfl⟩ dX6_init_124 (fun H locs hw => ?_)
      refine lv_istore_n (lv' := [(2, .int w), (1, .ref (dd.2.2.1 28)), (0, .ref (b + 237))]) hx hb dX6_init_127 rfl hl (by decide) rfl (fun ls hl => ?_)
      exact nw_retG C hw.2 (fun t ht => by show va_P _ _ _ t.heap; rw [ht]; exact hw.1) dX6_init_128
    | succ r ih =>
      intro i hi H locs ls hw hl
      have h9 := md_len
      refine lv_iload_n hx hb dX6_init_90 rfl (lv_at hl 0 rfl) ?_
      refine lv_aload_n hx hb dX6_init_91 rfl (lv_at hl 1 rfl) ?_
      refine cr_slen C hw (i := 28) (by decide) ml_X6_44 hl.1 rfl ⟨⟨Nat.le_of_ble_eq_true rfl, Nat.le_of_ble_eq_true rfl⟩, Nat.le_of_ble_eq_true rfl, Nat.le_of_ble_eq_true rfl, Nat.le_of_ble_eq_true rfl⟩ dX6_init_92 (fun H locs hw => ?_)
      refine lv_icmp_ge (tgt := 115) hx hb dX6_init_95 (by decide) (fun c1 => absurd c1 (nw_ge (n := cl_sl 28) (by omega) (by omega))) (fun c1 => ?_)
      refine lv_aload_n hx hb dX6_init_98 rfl (lv_at hl 2 rfl) ?_
      refine fg_X6_7 C hw (t := 237) s6 dX6_init_99 ?_
      refine lv_iload_n hx hb dX6_init_102 rfl (lv_at hl 0 rfl) ?_
      refine lv_aload_n hx hb dX6_init_103 rfl (lv_at hl 1 rfl) ?_
      refine lv_iload_n hx hb dX6_init_104 rfl (lv_at hl 0 rfl) ?_
      refine cr_schar C hw (i := 28) (k := nI i) (by decide) (cu_inb (by omega) (by omega)) ml_X6_50 hl.1 rfl ⟨⟨Nat.le_of_ble_eq_true rfl, Nat.le_of_ble_eq_true rfl⟩, Nat.le_of_ble_eq_true rfl, Nat.le_of_ble_eq_true rfl, Nat.le_of_ble_eq_true rfl⟩ dX6_init_105 (fun H locs hw => ?_)
      refine cr_iast C hw s7 (n := 700) rfl (cu_inb (by omega) (by omega)) (k := i) (nI_clamp (by omega)) (M' := md_t M (i + 1)) (by rw [md_ts, nI_clamp (by omega)]) dX6_init_108 (fun H locs hw => ?_)
      refine lv_iinc (v := nI (i + 1)) (lv' := [(2, .int (nI (i + 1))), (1, .ref (dd.2.2.1 28)), (0, .ref (b + 237))]) hx hb dX6_init_109 hl (k := 0) rfl (nI_1 i) (by decide) rfl (fun ls hl => ?_)
      refine lv_goto (tgt := 90) hx hb dX6_init_112 (by decide) ?_
      exact ih (i + 1) (by omega) H locs ls hw hl
  exact loop (cl_sl 28) 0 (by omega) H locs ls hw hl
