/-! the constructor of a line: its weather, its ten garments -/
theorem nw_g13 : ∀ i, i < 10 → cl_s0 (13 + 0) = cl_s0 (4 + (9 + i + 0)) ∧ cl_ln (13 + 0) = cl_ln (4 + (9 + i + 0)) := by decide +kernel
set_option maxHeartbeats 4000000 in
set_option maxRecDepth 100000 in
theorem c_X2_init (l : Launch) (hlt : l.stackTraces = false) (dd : cl_D) (a : Nat) : nw_M l dd a yX2_init cX2_init 2 2 18 198 32 (.inr (2, nw_02)) 19 (nw_E dd a 4) := by
  refine nw_of hlt (by decide) rfl (Nat.le_of_ble_eq_true rfl) (fun p e s m below meth c ls C hA hin hz hw hl => ?_)
  have hx := C.1
  have hb := C.2.1
  refine lv_aload_n hx hb dX2_init_0 rfl (lv_at hl 0 rfl) ?_
  refine nw_obj C ob_X2 im_obj cd_obj hl.1 ⟨Nat.le_of_ble_eq_true rfl, Nat.le_of_ble_eq_true rfl⟩ dX2_init_1 ?_
  refine lv_aload_n hx hb dX2_init_4 rfl (lv_at hl 0 rfl) ?_
  refine nw_new C hw (by omega) (Or.inl (by omega)) (ci := 4) rfl cl_inW4 tyX4 tyX4_ok ck_X2_9 is_X4 in_ClothesLine_Weather nw_d4 ⟨Nat.le_of_ble_eq_true rfl, Nat.le_of_ble_eq_true rfl⟩ dX2_init_5 (fun H hw => ?_)
  refine lv_dup hx hb dX2_init_8 rfl ?_
  refine nw_cN C hA hw (by omega) (c_X4_init l hlt dd (a + 1)) rfl cy_X4_init rfl mi_X2_11 im_X4_init hl.1 rfl ⟨⟨Nat.le_of_ble_eq_true rfl, Nat.le_of_ble_eq_true rfl⟩, Nat.le_of_ble_eq_true rfl, Nat.le_of_ble_eq_true rfl, Nat.le_of_ble_eq_true rfl⟩ dX2_init_9 (fun H locs hw => ?_)
  refine nw_putF C hw hin (t := 0) (by omega) rfl rfl cl_inW2 tyX2 tyX2_ok nmX2 4 (by decide) fl_X2_12 rfl rfl rfl rfl rfl (Nat.le_of_ble_eq_true rfl) rfl dX2_init_12 (fun H locs hw => ?_)
  refine lv_aload_n hx hb dX2_init_15 rfl (lv_at hl 0 rfl) ?_
  refine lv_bipush (v := 10) hx hb dX2_init_16 (by decide) ?_
  refine nw_newq C hw (by omega) (Or.inl (by omega)) ck_X2_18 hA.1 (i := 2) rfl (N := 10) (by decide) (by decide) (by decide) ⟨Nat.le_of_ble_eq_true rfl, Nat.le_of_ble_eq_true rfl⟩ dX2_init_18 (fun H hw => ?_)
  refine nw_putF C hw hin (t := 0) (by omega) rfl rfl cl_inW2 tyX2 tyX2_ok nmX2 5 (by decide) fl_X2_20 rfl rfl rfl rfl rfl (Nat.le_of_ble_eq_true rfl) rfl dX2_init_21 (fun H locs hw => ?_)
  refine lv_iconst (v := 0) hx hb dX2_init_24 (by decide) ?_
  refine lv_istore_n (lv' := [(1, .int 0), (0, .ref a)]) hx hb dX2_init_25 rfl hl (by decide) rfl (fun ls hl => ?_)
  have hw : nw_H dd a (9 + 0) (nw_F dd a 4 8 (dd.2.1 2) 10 9 1 0) s H locs := ⟨hw.1.to (fun k hk => by rcases (show k = 0 ∨ k = 1 ∨ k = 2 ∨ k = 3 ∨ k = 4 ∨ k = 5 ∨ k = 6 ∨ k = 7 ∨ k = 8 by omega) with rfl | rfl | rfl | rfl | rfl | rfl | rfl | rfl | rfl <;> first | rfl | exact nw_E_at (q := 1) (j := 0) rfl rfl | exact nw_E_at (q := 1) (j := 1) rfl rfl | exact nw_E_at (q := 1) (j := 2) rfl rfl | exact nw_E_at (q := 1) (j := 3) rfl rfl | exact nw_E_at (q := 1) (j := 4) rfl rfl | exact nw_E_at (q := 1) (j := 5) rfl rfl | exact nw_E_at (q := 1) (j := 6) rfl rfl), hw.2⟩
  have loop : ∀ r i, i + r = 10 → ∀ (H : Heap) (locs : List Loc) (ls : Array Slot), nw_H dd a (9 + i) (nw_F dd a 4 8 (dd.2.1 2) 10 9 1 i) s H locs → lv_has ls 2 [(1, .int (nI i)), (0, .ref a)] → W p l e { frames := 2, cells := 18, slots := 198, locals := 32 } s m [Value.ref a].toArray below meth c H locs (8 + i) (48 + 15 * i) (MQ below (va_Qv (fun (_ : Unit) => True) (fun _ t => nw_P dd a 19 (nw_E dd a 4) t.heap) (cl_A a)) [Value.ref a].toArray s 18 198 (cl_A a)) (F0 m 26 ls []) := by
    intro r
    induction r with
    | zero =>
      intro i hi H locs ls hw hl
      have hi : i = 10 := by omega
      subst hi
      refine lv_iload_n hx hb dX2_init_26 rfl (lv_at hl 0 rfl) ?_
      refine lv_bipush (v := 10) hx hb dX2_init_27 (by decide) ?_
      refine lv_icmp_ge (tgt := 51) hx hb dX2_init_29 (by decide) (fun c1 => ?_) (fun c1 => absurd (by decide) c1)
      refine nw_ret C hw (fun k hk => ?_) dX2_init_51
      by_cases q : k = 8
      · subst q
        show Sum.inl (dd.2.1 2, 10, _) = Sum.inl (dd.2.1 2, 10, _)
        congr 7
        funext j
        rw [show 9 + 1 * j = 8 + 1 + j by omega]
        rfl
      · rw [nw_F, if_neg q]
    | succ r ih =>
      intro i hi H locs ls hw hl
      refine lv_iload_n hx hb dX2_init_26 rfl (lv_at hl 0 rfl) ?_
      refine lv_bipush (v := 10) hx hb dX2_init_27 (by decide) ?_
      refine lv_icmp_ge (tgt := 51) hx hb dX2_init_29 (by decide) (fun c1 => absurd c1 (nw_ge (n := 10) (by omega) (by decide))) (fun c1 => ?_)
      refine lv_aload_n hx hb dX2_init_32 rfl (lv_at hl 1 rfl) ?_
      refine nw_getf C hw (t := 0) (by omega) rfl rfl cl_inW2 5 (by decide) fl_X2_20 rfl rfl dX2_init_33 ?_
      refine lv_iload_n hx hb dX2_init_36 rfl (lv_at hl 0 rfl) ?_
      refine nw_new C hw (by omega) (Or.inl (by omega)) (ci := 0) rfl cl_inW0 tyX0 tyX0_ok ck_X2_18 is_X0 in_ClothesLine_Garment nw_d0 ⟨by show 8 + i + 1 ≤ 18; omega, by show 48 + 15 * i + 15 ≤ 198; omega⟩ dX2_init_37 (fun H hw => ?_)
      refine lv_dup hx hb dX2_init_40 rfl ?_
      refine nw_cN C hA hw (by omega) (c_X0_init l hlt dd (a + (9 + i))) nw_up_s cy_X0_init rfl mi_X2_24 im_X0_init hl.1 rfl ⟨⟨Nat.le_of_ble_eq_true rfl, Nat.le_of_ble_eq_true rfl⟩, Nat.le_of_ble_eq_true rfl, by show 8 + i + 1 + 0 ≤ 18; omega, by show 48 + 15 * i + 15 + 0 ≤ 198; omega⟩ dX2_init_41 (fun H locs hw => ?_)
      refine nw_astq C hw (t := 8) (tv := 9 + i) (i0 := 2) (ci := 0) (N := 10) (by omega) (by rw [nw_app_lt (by omega), nw_up_n (by omega), nw_F, if_pos rfl]) rfl (by omega) (nw_app_ge (j := 0)) rfl (cl_inb_in (cu_inb (by omega) (by omega))) rfl rfl dX2_init_44 (fun H locs hw => ?_)
      have hw : nw_H dd a (9 + (i + 1)) (nw_F dd a 4 8 (dd.2.1 2) 10 9 1 (i + 1)) s H locs := ⟨hw.1.to (nw_F_step (i := i) (nI_clamp (by omega)) (by omega) (by omega) (fun j hj => by rw [show j = 0 by omega]; exact nw_g13 i (by omega)) (fun k hk => nw_up_n (by omega)) rfl), hw.2⟩
      refine lv_iinc (v := nI (i + 1)) (lv' := [(1, .int (nI (i + 1))), (0, .ref a)]) hx hb dX2_init_45 hl (k := 0) rfl (nI_1 i) (by decide) rfl (fun ls hl => ?_)
      refine lv_goto (tgt := 26) hx hb dX2_init_48 (by decide) ?_
      refine W.widen (k := 8 + (i + 1)) (n := 48 + 15 * (i + 1)) (by omega) (by omega) ?_
      exact ih (i + 1) (by omega) H locs ls hw hl
  exact loop 10 0 (by omega) H locs ls hw hl
