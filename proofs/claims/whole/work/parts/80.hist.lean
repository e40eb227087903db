/-! the constructor of the history: eight lines -/
theorem nw_g4 : ∀ i, i < 8 → ∀ j, j < 19 → cl_s0 (4 + j) = cl_s0 (42 + (2 + 19 * i + j)) ∧ cl_ln (4 + j) = cl_ln (42 + (2 + 19 * i + j)) := by decide +kernel
set_option maxHeartbeats 4000000 in
set_option maxRecDepth 100000 in
theorem c_X1_init (l : Launch) (hlt : l.stackTraces = false) (dd : cl_D) (a : Nat) : nw_M l dd a yX1_init cX1_init 2 3 153 1640 53 (.inr (1, nw_01)) 154 (nw_E dd a 42) := by
  refine nw_of hlt (by decide) rfl (Nat.le_of_ble_eq_true rfl) (fun p e s m below meth c ls C hA hin hz hw hl => ?_)
  have hx := C.1
  have hb := C.2.1
  refine lv_aload_n hx hb dX1_init_0 rfl (lv_at hl 0 rfl) ?_
  refine nw_obj C ob_X1 im_obj cd_obj hl.1 ⟨Nat.le_of_ble_eq_true rfl, Nat.le_of_ble_eq_true rfl⟩ dX1_init_1 ?_
  refine lv_aload_n hx hb dX1_init_4 rfl (lv_at hl 0 rfl) ?_
  refine lv_bipush (v := 8) hx hb dX1_init_5 (by decide) ?_
  refine nw_newq C hw (by omega) (Or.inl (by omega)) ck_X1_9 hA.2 (i := 3) rfl (N := 8) (by decide) (by decide) (by decide) ⟨Nat.le_of_ble_eq_true rfl, Nat.le_of_ble_eq_true rfl⟩ dX1_init_7 (fun H hw => ?_)
  refine nw_putF C hw hin (t := 0) (by omega) rfl rfl cl_inW1 tyX1 tyX1_ok nmX1 0 (by decide) fl_X1_11 rfl rfl rfl rfl rfl (Nat.le_of_ble_eq_true rfl) rfl dX1_init_10 (fun H locs hw => ?_)
  refine lv_iconst (v := 0) hx hb dX1_init_13 (by decide) ?_
  refine lv_istore_n (lv' := [(1, .int 0), (0, .ref a)]) hx hb dX1_init_14 rfl hl (by decide) rfl (fun ls hl => ?_)
  have hw : nw_H dd a (2 + 19 * 0) (nw_F dd a 42 1 (dd.2.1 3) 8 2 19 0) s H locs := ⟨hw.1.to (fun k hk => by rcases (show k = 0 ∨ k = 1 by omega) with rfl | rfl <;> rfl), hw.2⟩
  have loop : ∀ r i, i + r = 8 → ∀ (H : Heap) (locs : List Loc) (ls : Array Slot), nw_H dd a (2 + 19 * i) (nw_F dd a 42 1 (dd.2.1 3) 8 2 19 i) s H locs → lv_has ls 2 [(1, .int (nI i)), (0, .ref a)] → W p l e { frames := 3, cells := 153, slots := 1640, locals := 53 } s m [Value.ref a].toArray below meth c H locs (1 + 19 * i) (8 + 204 * i) (MQ below (va_Qv (fun (_ : Unit) => True) (fun _ t => nw_P dd a 154 (nw_E dd a 42) t.heap) (cl_A a)) [Value.ref a].toArray s 153 1640 (cl_A a)) (F0 m 15 ls []) := by
    intro r
    induction r with
    | zero =>
      intro i hi H locs ls hw hl
      have hi : i = 8 := by omega
      subst hi
      refine lv_iload_n hx hb dX1_init_15 rfl (lv_at hl 0 rfl) ?_
      refine lv_bipush (v := 8) hx hb dX1_init_16 (by decide) ?_
      refine lv_icmp_ge (tgt := 40) hx hb dX1_init_18 (by decide) (fun c1 => ?_) (fun c1 => absurd (by decide) c1)
      refine nw_ret C hw (fun k hk => ?_) dX1_init_40
      by_cases q : k = 1
      · subst q
        show Sum.inl (dd.2.1 3, 8, _) = Sum.inl (dd.2.1 3, 8, _)
        rfl
      · rw [nw_F, if_neg q]
    | succ r ih =>
      intro i hi H locs ls hw hl
      refine lv_iload_n hx hb dX1_init_15 rfl (lv_at hl 0 rfl) ?_
      refine lv_bipush (v := 8) hx hb dX1_init_16 (by decide) ?_
      refine lv_icmp_ge (tgt := 40) hx hb dX1_init_18 (by decide) (fun c1 => absurd c1 (nw_ge (n := 8) (by omega) (by decide))) (fun c1 => ?_)
      refine lv_aload_n hx hb dX1_init_21 rfl (lv_at hl 1 rfl) ?_
      refine nw_getf C hw (t := 0) (by omega) rfl rfl cl_inW1 0 (by decide) fl_X1_11 rfl rfl dX1_init_22 ?_
      refine lv_iload_n hx hb dX1_init_25 rfl (lv_at hl 0 rfl) ?_
      refine nw_new C hw (by omega) (Or.inl (by omega)) (ci := 2) rfl cl_inW2 tyX2 tyX2_ok ck_X1_9 is_X2 in_ClothesLine_Line nw_d2 ⟨by show 1 + 19 * i + 1 ≤ 153; omega, by show 8 + 204 * i + 6 ≤ 1640; omega⟩ dX1_init_26 (fun H hw => ?_)
      refine lv_dup hx hb dX1_init_29 rfl ?_
      refine nw_cI C hA hw (by omega) (c_X2_init l hlt dd (a + (2 + 19 * i))) nw_up_s cy_X2_init rfl mi_X1_17 im_X2_init hl.1 rfl ⟨⟨Nat.le_of_ble_eq_true rfl, Nat.le_of_ble_eq_true rfl⟩, Nat.le_of_ble_eq_true rfl, by show 1 + 19 * i + 1 + 18 ≤ 153; omega, by show 8 + 204 * i + 6 + 198 ≤ 1640; omega⟩ dX1_init_30 (fun H locs hw => ?_)
      refine nw_astq C hw (t := 1) (tv := 2 + 19 * i) (i0 := 3) (ci := 2) (N := 8) (by omega) (by rw [nw_app_lt (by omega), nw_up_n (by omega), nw_F, if_pos rfl]) rfl (by omega) (nw_app_ge (j := 0)) rfl (cl_inb_in (cu_inb (by omega) (by omega))) rfl rfl dX1_init_33 (fun H locs hw => ?_)
      have hw : nw_H dd a (2 + 19 * (i + 1)) (nw_F dd a 42 1 (dd.2.1 3) 8 2 19 (i + 1)) s H locs := ⟨by rw [show 2 + 19 * (i + 1) = 2 + 19 * i + 19 by omega]; exact hw.1.to (nw_F_step (i := i) (nI_clamp (by omega)) (by omega) rfl (nw_g4 i (by omega)) (fun k hk => nw_up_n (by omega)) rfl), hw.2⟩
      refine lv_iinc (v := nI (i + 1)) (lv' := [(1, .int (nI (i + 1))), (0, .ref a)]) hx hb dX1_init_34 hl (k := 0) rfl (nI_1 i) (by decide) rfl (fun ls hl => ?_)
      refine lv_goto (tgt := 15) hx hb dX1_init_37 (by decide) ?_
      refine W.widen (k := 1 + 19 * (i + 1)) (n := 8 + 204 * (i + 1)) (by omega) (by omega) ?_
      exact ih (i + 1) (by omega) H locs ls hw hl
  exact loop 8 0 (by omega) H locs ls hw hl
