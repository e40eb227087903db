/-! the constructor of the class: its cells, and the first setup read -/
theorem ml_X5_47 : Cond.methodLink RX5 47 yX3_appendText ∈ cl_W := cl_W_in 329 (by decide +kernel) rfl
theorem nw_g1 : ∀ j, j < 3 → cl_s0 (1 + j) = cl_s0 (0 + (1 + j)) ∧ cl_ln (1 + j) = cl_ln (0 + (1 + j)) := by decide +kernel
theorem nw_g2 : ∀ j, j < 19 → cl_s0 (4 + j) = cl_s0 (0 + (4 + j)) ∧ cl_ln (4 + j) = cl_ln (0 + (4 + j)) ∧ cl_s0 (4 + j) = cl_s0 (0 + (23 + j)) ∧ cl_ln (4 + j) = cl_ln (0 + (23 + j)) := by decide +kernel
theorem nw_g3 : ∀ j, j < 154 → cl_s0 (42 + j) = cl_s0 (0 + (42 + j)) ∧ cl_ln (42 + j) = cl_ln (0 + (42 + j)) := by decide +kernel
theorem nw_g5 : ∀ i, i < 2 → ∀ j, j < 19 → cl_s0 (4 + j) = cl_s0 (0 + (199 + 19 * i + j)) ∧ cl_ln (4 + j) = cl_ln (0 + (199 + 19 * i + j)) := by decide +kernel
theorem nw_app_sub {n k : Nat} {E E1 : Nat → va_E} (h : n ≤ k) : nw_app n E E1 k = E1 (k - n) := if_neg (by omega)
/-- the first cells of the class -/
theorem nw_first {dd : cl_D} {a : Nat} {E : Nat → va_E} (h0 : E 0 = nw_E dd a 0 0) (h1 : ∀ j, j < 3 → E (1 + j) = nw_E dd (a + 1) 1 j) (h2 : ∀ j, j < 19 → E (4 + j) = nw_E dd (a + 4) 4 j) (h3 : ∀ j, j < 19 → E (23 + j) = nw_E dd (a + 23) 4 j) (h4 : ∀ j, j < 154 → E (42 + j) = nw_E dd (a + 42) 42 j) (h5 : E 196 = nw_F dd a 0 196 (dd.2.1 3) 2 199 19 0 196) (h6 : E 197 = nw_E dd a 0 197) (h7 : E 198 = nw_E dd a 0 198) : ∀ k, k < 199 → E k = nw_F dd a 0 196 (dd.2.1 3) 2 199 19 0 k := by
  intro k hk
  by_cases q : k = 196
  · rw [q, h5]
  · rw [nw_F, if_neg q]
    rcases (show k = 0 ∨ (1 ≤ k ∧ k < 4) ∨ (4 ≤ k ∧ k < 23) ∨ (23 ≤ k ∧ k < 42) ∨ (42 ≤ k ∧ k < 196) ∨ k = 197 ∨ k = 198 by omega) with h | h | h | h | h | h | h
    · rw [h, h0]
    · obtain ⟨j, rfl⟩ : ∃ j, k = 1 + j := ⟨k - 1, by omega⟩
      rw [h1 j (by omega)]
      exact nw_E_at (nw_g1 j (by omega)).1 (nw_g1 j (by omega)).2
    · obtain ⟨j, rfl⟩ : ∃ j, k = 4 + j := ⟨k - 4, by omega⟩
      rw [h2 j (by omega)]
      exact nw_E_at (nw_g2 j (by omega)).1 (nw_g2 j (by omega)).2.1
    · obtain ⟨j, rfl⟩ : ∃ j, k = 23 + j := ⟨k - 23, by omega⟩
      rw [h3 j (by omega)]
      exact nw_E_at (nw_g2 j (by omega)).2.2.1 (nw_g2 j (by omega)).2.2.2
    · obtain ⟨j, rfl⟩ : ∃ j, k = 42 + j := ⟨k - 42, by omega⟩
      rw [h4 j (by omega)]
      exact nw_E_at (nw_g3 j (by omega)).1 (nw_g3 j (by omega)).2
    · rw [h, h6]
    · rw [h, h7]
set_option maxHeartbeats 4000000 in
set_option maxRecDepth 100000 in
theorem c_X5_init (l : Launch) (hlt : l.stackTraces = false) (dd : cl_D) (a : Nat) (hd : cl_K dd = 237) {Ma Mb Mc : cl_M} {v : Int32} (f1 : f_X3_appendText fi_M0 1 22 = some Ma) (f2 : f_X3_readHead Ma 1 4 = some (1, Mb)) (f3 : f_X3_readCommands Mb 1 4 = some (v, Mc)) : nw_G l dd a yX5_init cX5_init 2 8 236 3201 171 a 1 (fun _ => .inr (5, nw_05)) (fun t => cl_J dd a (cl_ms Mc 1 1 0) t) := by
  refine nw_ofG hlt (by decide) rfl (Nat.le_of_ble_eq_true rfl) (fun p e s m below meth c ls C hA hin hz hw hl => ?_)
  have hx := C.1
  have hb := C.2.1
  have hRr := C.2.2.2.2.2.2.2.2.2.1
  refine lv_aload_n hx hb dX5_init_0 rfl (lv_at hl 0 rfl) ?_
  refine nw_obj C ob_X5 im_obj cd_obj hl.1 ⟨Nat.le_of_ble_eq_true rfl, Nat.le_of_ble_eq_true rfl⟩ dX5_init_1 ?_
  refine lv_aload_n hx hb dX5_init_4 rfl (lv_at hl 0 rfl) ?_
  refine nw_new C hw (by omega) (Or.inl (by omega)) (ci := 3) rfl cl_inW3 tyX3 tyX3_ok ck_X5_7 is_X3 in_ClothesLine_TextReader nw_d3 ⟨Nat.le_of_ble_eq_true rfl, Nat.le_of_ble_eq_true rfl⟩ dX5_init_5 (fun H hw => ?_)
  refine lv_dup hx hb dX5_init_8 rfl ?_
  refine nw_cN C hA hw (by omega) (c_X3_init l hlt dd (a + 1)) rfl cy_X3_init rfl mi_X5_9 im_X3_init hl.1 rfl ⟨⟨Nat.le_of_ble_eq_true rfl, Nat.le_of_ble_eq_true rfl⟩, Nat.le_of_ble_eq_true rfl, Nat.le_of_ble_eq_true rfl, Nat.le_of_ble_eq_true rfl⟩ dX5_init_9 (fun H locs hw => ?_)
  refine nw_putF C hw hin (t := 0) (by omega) rfl rfl cl_inW5 tyX5 tyX5_ok nmX5 0 (by decide) fl_X5_10 rfl rfl rfl rfl rfl (Nat.le_of_ble_eq_true rfl) rfl dX5_init_12 (fun H locs hw => ?_)
  refine lv_aload_n hx hb dX5_init_15 rfl (lv_at hl 0 rfl) ?_
  refine nw_new C hw (by omega) (Or.inl (by omega)) (ci := 2) rfl cl_inW2 tyX2 tyX2_ok ck_X5_16 is_X2 in_ClothesLine_Line nw_d2 ⟨Nat.le_of_ble_eq_true rfl, Nat.le_of_ble_eq_true rfl⟩ dX5_init_16 (fun H hw => ?_)
  refine lv_dup hx hb dX5_init_19 rfl ?_
  refine nw_cI C hA hw (by omega) (c_X2_init l hlt dd (a + 4)) rfl cy_X2_init rfl mi_X5_18 im_X2_init hl.1 rfl ⟨⟨Nat.le_of_ble_eq_true rfl, Nat.le_of_ble_eq_true rfl⟩, Nat.le_of_ble_eq_true rfl, Nat.le_of_ble_eq_true rfl, Nat.le_of_ble_eq_true rfl⟩ dX5_init_20 (fun H locs hw => ?_)
  refine nw_putF C hw hin (t := 0) (by omega) rfl rfl cl_inW5 tyX5 tyX5_ok nmX5 1 (by decide) fl_X5_19 rfl rfl rfl rfl rfl (Nat.le_of_ble_eq_true rfl) rfl dX5_init_23 (fun H locs hw => ?_)
  refine lv_aload_n hx hb dX5_init_26 rfl (lv_at hl 0 rfl) ?_
  refine nw_new C hw (by omega) (Or.inl (by omega)) (ci := 2) rfl cl_inW2 tyX2 tyX2_ok ck_X5_16 is_X2 in_ClothesLine_Line nw_d2 ⟨Nat.le_of_ble_eq_true rfl, Nat.le_of_ble_eq_true rfl⟩ dX5_init_27 (fun H hw => ?_)
  refine lv_dup hx hb dX5_init_30 rfl ?_
  refine nw_cI C hA hw (by omega) (c_X2_init l hlt dd (a + 23)) rfl cy_X2_init rfl mi_X5_18 im_X2_init hl.1 rfl ⟨⟨Nat.le_of_ble_eq_true rfl, Nat.le_of_ble_eq_true rfl⟩, Nat.le_of_ble_eq_true rfl, Nat.le_of_ble_eq_true rfl, Nat.le_of_ble_eq_true rfl⟩ dX5_init_31 (fun H locs hw => ?_)
  refine nw_putF C hw hin (t := 0) (by omega) rfl rfl cl_inW5 tyX5 tyX5_ok nmX5 2 (by decide) fl_X5_23 rfl rfl rfl rfl rfl (Nat.le_of_ble_eq_true rfl) rfl dX5_init_34 (fun H locs hw => ?_)
  refine lv_aload_n hx hb dX5_init_37 rfl (lv_at hl 0 rfl) ?_
  refine nw_new C hw (by omega) (Or.inl (by omega)) (ci := 1) rfl cl_inW1 tyX1 tyX1_ok ck_X5_26 is_X1 in_ClothesLine_History nw_d1 ⟨Nat.le_of_ble_eq_true rfl, Nat.le_of_ble_eq_true rfl⟩ dX5_init_38 (fun H hw => ?_)
  refine lv_dup hx hb dX5_init_41 rfl ?_
  refine nw_cI C hA hw (by omega) (c_X1_init l hlt dd (a + 42)) rfl cy_X1_init rfl mi_X5_28 im_X1_init hl.1 rfl ⟨⟨Nat.le_of_ble_eq_true rfl, Nat.le_of_ble_eq_true rfl⟩, Nat.le_of_ble_eq_true rfl, Nat.le_of_ble_eq_true rfl, Nat.le_of_ble_eq_true rfl⟩ dX5_init_42 (fun H locs hw => ?_)
  refine nw_putF C hw hin (t := 0) (by omega) rfl rfl cl_inW5 tyX5 tyX5_ok nmX5 3 (by decide) fl_X5_29 rfl rfl rfl rfl rfl (Nat.le_of_ble_eq_true rfl) rfl dX5_init_45 (fun H locs hw => ?_)
  refine lv_aload_n hx hb dX5_init_48 rfl (lv_at hl 0 rfl) ?_
  refine lv_iconst (v := 2) hx hb dX5_init_49 (by decide) ?_
  refine nw_newq C hw (by omega) (Or.inl (by omega)) ck_X5_16 hA.2 (i := 3) rfl (N := 2) (by decide) (by decide) (by decide) ⟨Nat.le_of_ble_eq_true rfl, Nat.le_of_ble_eq_true rfl⟩ dX5_init_50 (fun H hw => ?_)
  refine nw_putF C hw hin (t := 0) (by omega) rfl rfl cl_inW5 tyX5 tyX5_ok nmX5 4 (by decide) fl_X5_33 rfl rfl rfl rfl rfl (Nat.le_of_ble_eq_true rfl) rfl dX5_init_53 (fun H locs hw => ?_)
  refine lv_aload_n hx hb dX5_init_56 rfl (lv_at hl 0 rfl) ?_
  refine lv_iconst (v := 2) hx hb dX5_init_57 (by decide) ?_
  refine nw_newz C hw (by omega) (Or.inl (by omega)) ac_boolean (N := 2) (by decide) (by decide) (by decide) ⟨Nat.le_of_ble_eq_true rfl, Nat.le_of_ble_eq_true rfl⟩ dX5_init_58 (fun H hw => ?_)
  refine nw_putF C hw hin (t := 0) (by omega) rfl rfl cl_inW5 tyX5 tyX5_ok nmX5 5 (by decide) fl_X5_37 rfl rfl rfl rfl rfl (Nat.le_of_ble_eq_true rfl) rfl dX5_init_60 (fun H locs hw => ?_)
  refine lv_aload_n hx hb dX5_init_63 rfl (lv_at hl 0 rfl) ?_
  refine lv_bipush (v := 24) hx hb dX5_init_64 (by decide) ?_
  refine nw_newi C hw (by omega) (Or.inl (by omega)) ac_int (N := 24) (by decide) (by decide) (by decide) ⟨Nat.le_of_ble_eq_true rfl, Nat.le_of_ble_eq_true rfl⟩ dX5_init_66 (fun H hw => ?_)
  refine nw_putF C hw hin (t := 0) (by omega) rfl rfl cl_inW5 tyX5 tyX5_ok nmX5 6 (by decide) fl_X5_41 rfl rfl rfl rfl rfl (Nat.le_of_ble_eq_true rfl) rfl dX5_init_68 (fun H locs hw => ?_)
  refine lv_iconst (v := 0) hx hb dX5_init_71 (by decide) ?_
  refine lv_istore_n (lv' := [(1, .int 0), (0, .ref a)]) hx hb dX5_init_72 rfl hl (by decide) rfl (fun ls hl => ?_)
  have hw : nw_H dd a (199 + 19 * 0) (nw_F dd a 0 196 (dd.2.1 3) 2 199 19 0) s H locs := ⟨hw.1.to (nw_first rfl (fun j hj => ?_) (fun j hj => ?_) (fun j hj => ?_) (fun j hj => ?_) rfl rfl rfl), hw.2⟩
  · have loop : ∀ r i, i + r = 2 → ∀ (H : Heap) (locs : List Loc) (ls : Array Slot), nw_H dd a (199 + 19 * i) (nw_F dd a 0 196 (dd.2.1 3) 2 199 19 i) s H locs → lv_has ls 2 [(1, .int (nI i)), (0, .ref a)] → W p l e { frames := 8, cells := 236, slots := 3201, locals := 171 } s m [Value.ref a].toArray below meth c H locs (198 + 19 * i) (2793 + 204 * i) (MQ below (va_Qv (fun (_ : Unit) => True) (fun _ t => cl_J dd a (cl_ms Mc 1 1 0) t) (cl_A a)) [Value.ref a].toArray s 236 3201 (cl_A a)) (F0 m 73 ls []) := by
      intro r
      induction r with
      | zero =>
        intro i hi H locs ls hw hl
        have hi : i = 2 := by omega
        subst hi
        refine lv_iload_n hx hb dX5_init_73 rfl (lv_at hl 0 rfl) ?_
        refine lv_iconst (v := 2) hx hb dX5_init_74 (by decide) ?_
        refine lv_icmp_ge (tgt := 97) hx hb dX5_init_75 (by decide) (fun c1 => ?_) (fun c1 => absurd (by decide) c1)
        have hw : cl_H dd a fi_M0 s H locs := ⟨nw_to_w hd (hw.1.to (fun k hk => by
          rw [← nw_E_X (by omega)]
          by_cases q : k = 196
          · subst q
            show Sum.inl (dd.2.1 3, 2, _) = Sum.inl (dd.2.1 3, 2, _)
            rfl
          · rw [nw_F, if_neg q])), hw.2⟩
        have s0 : cl_sh dd 0 = 5 := by rw [cl_sh, if_pos (by omega)]; rfl
        have s1 : cl_sh dd 1 = 3 := by rw [cl_sh, if_pos (by omega)]; rfl
        have s4 : cl_sh dd 4 = 2 := by rw [cl_sh, if_pos (by omega)]; rfl
        refine lv_aload_n hx hb dX5_init_97 rfl (lv_at hl 1 rfl) ?_
        refine fg_X5_10 C hw (t := 0) s0 dX5_init_98 ?_
        refine va_ldcS hx hb C.2.2.2.1 (sr_22 hRr) dX5_init_101 ?_
        refine cr_Vv C hw (c_X3_appendText hlt s1 (by decide) f1) cy_X3_appendText vy_X3_appendText ml_X5_47 (cl_lt s1 (by decide)) (cl_e3 s1) rfl rfl (As := [.ref (dd.2.2.1 22)]) rfl hl.1 rfl ⟨⟨Nat.le_of_ble_eq_true rfl, Nat.le_of_ble_eq_true rfl⟩, Nat.le_of_ble_eq_true rfl, Nat.le_of_ble_eq_true rfl, Nat.le_of_ble_eq_true rfl⟩ dX5_init_103 (fun H locs hw => ?_)
        refine lv_aload_n hx hb dX5_init_106 rfl (lv_at hl 1 rfl) ?_
        refine fg_X5_10 C hw (t := 0) s0 dX5_init_107 ?_
        refine lv_aload_n hx hb dX5_init_110 rfl (lv_at hl 1 rfl) ?_
        refine fg_X5_19 C hw (t := 0) s0 dX5_init_111 ?_
        refine cr_Vi C hw (c_X3_readHead hlt s1 s4 f2) cy_X3_readHead vy_X3_readHead ml_X5_51 (cl_lt s1 (by decide)) (cl_e3 s1) rfl rfl (As := [.ref (a + 4)]) rfl hl.1 rfl ⟨⟨Nat.le_of_ble_eq_true rfl, Nat.le_of_ble_eq_true rfl⟩, Nat.le_of_ble_eq_true rfl, Nat.le_of_ble_eq_true rfl, Nat.le_of_ble_eq_true rfl⟩ dX5_init_114 (fun H locs hw => ?_)
        refine lv_if_eq (tgt := 132) hx hb dX5_init_117 (by decide) (fun c1 => absurd c1 (by decide)) (fun c1 => ?_)
        refine lv_aload_n hx hb dX5_init_120 rfl (lv_at hl 1 rfl) ?_
        refine fg_X5_10 C hw (t := 0) s0 dX5_init_121 ?_
        refine lv_aload_n hx hb dX5_init_124 rfl (lv_at hl 1 rfl) ?_
        refine fg_X5_19 C hw (t := 0) s0 dX5_init_125 ?_
        refine cr_Vi C hw (c_X3_readCommands hlt s1 s4 f3) cy_X3_readCommands vy_X3_readCommands ml_X5_55 (cl_lt s1 (by decide)) (cl_e3 s1) rfl rfl (As := [.ref (a + 4)]) rfl hl.1 rfl ⟨⟨Nat.le_of_ble_eq_true rfl, Nat.le_of_ble_eq_true rfl⟩, Nat.le_of_ble_eq_true rfl, Nat.le_of_ble_eq_true rfl, Nat.le_of_ble_eq_true rfl⟩ dX5_init_128 (fun H locs hw => ?_)
        refine lv_pop hx hb dX5_init_131 rfl ?_
        refine lv_aload_n hx hb dX5_init_132 rfl (lv_at hl 1 rfl) ?_
        refine fg_X5_10 C hw (t := 0) s0 dX5_init_133 ?_
        refine cr_Vv C hw (c_X3_clear hlt s1 (show f_X3_clear Mc 1 = some (cl_ms Mc 1 1 0) from rfl)) cy_X3_clear vy_X3_clear ml_X5_59 (cl_lt s1 (by decide)) (cl_e3 s1) rfl rfl (As := []) rfl hl.1 rfl ⟨⟨Nat.le_of_ble_eq_true rfl, Nat.le_of_ble_eq_true rfl⟩, Nat.le_of_ble_eq_true rfl, Nat.le_of_ble_eq_true rfl, Nat.le_of_ble_eq_true rfl⟩ dX5_init_136 (fun H locs hw => ?_)
        exact nw_retG C hw.2 (fun t ht => by show va_P _ _ _ t.heap; rw [ht]; exact hw.1) dX5_init_139
      | succ r ih =>
        intro i hi H locs ls hw hl
        refine lv_iload_n hx hb dX5_init_73 rfl (lv_at hl 0 rfl) ?_
        refine lv_iconst (v := 2) hx hb dX5_init_74 (by decide) ?_
        refine lv_icmp_ge (tgt := 97) hx hb dX5_init_75 (by decide) (fun c1 => absurd c1 (nw_ge (n := 2) (by omega) (by decide))) (fun c1 => ?_)
        refine lv_aload_n hx hb dX5_init_78 rfl (lv_at hl 1 rfl) ?_
        refine nw_getf C hw (t := 0) (by omega) rfl rfl cl_inW5 4 (by decide) fl_X5_33 rfl rfl dX5_init_79 ?_
        refine lv_iload_n hx hb dX5_init_82 rfl (lv_at hl 0 rfl) ?_
        refine nw_new C hw (by omega) (Or.inl (by omega)) (ci := 2) rfl cl_inW2 tyX2 tyX2_ok ck_X5_16 is_X2 in_ClothesLine_Line nw_d2 ⟨by show 198 + 19 * i + 1 ≤ 236; omega, by show 2793 + 204 * i + 6 ≤ 3201; omega⟩ dX5_init_83 (fun H hw => ?_)
        refine lv_dup hx hb dX5_init_86 rfl ?_
        refine nw_cI C hA hw (by omega) (c_X2_init l hlt dd (a + (199 + 19 * i))) nw_up_s cy_X2_init rfl mi_X5_18 im_X2_init hl.1 rfl ⟨⟨Nat.le_of_ble_eq_true rfl, Nat.le_of_ble_eq_true rfl⟩, Nat.le_of_ble_eq_true rfl, by show 198 + 19 * i + 1 + 18 ≤ 236; omega, by show 2793 + 204 * i + 6 + 198 ≤ 3201; omega⟩ dX5_init_87 (fun H locs hw => ?_)
        refine nw_astq C hw (t := 196) (tv := 199 + 19 * i) (i0 := 3) (ci := 2) (N := 2) (by omega) (by rw [nw_app_lt (by omega), nw_up_n (by omega), nw_F, if_pos rfl]) rfl (by omega) (nw_app_ge (j := 0)) rfl (cl_inb_in (cu_inb (by omega) (by omega))) rfl rfl dX5_init_90 (fun H locs hw => ?_)
        have hw : nw_H dd a (199 + 19 * (i + 1)) (nw_F dd a 0 196 (dd.2.1 3) 2 199 19 (i + 1)) s H locs := ⟨by rw [show 199 + 19 * (i + 1) = 199 + 19 * i + 19 by omega]; exact hw.1.to (nw_F_step (i := i) (nI_clamp (by omega)) (by omega) rfl (nw_g5 i (by omega)) (fun k hk => nw_up_n (by omega)) rfl), hw.2⟩
        refine lv_iinc (v := nI (i + 1)) (lv' := [(1, .int (nI (i + 1))), (0, .ref a)]) hx hb dX5_init_91 hl (k := 0) rfl (nI_1 i) (by decide) rfl (fun ls hl => ?_)
        refine lv_goto (tgt := 73) hx hb dX5_init_94 (by decide) ?_
        refine W.widen (k := 198 + 19 * (i + 1)) (n := 2793 + 204 * (i + 1)) (by omega) (by omega) ?_
        exact ih (i + 1) (by omega) H locs ls hw hl
    exact loop 2 0 (by omega) H locs ls hw hl
  · simp (disch := omega) only [nw_up_n, nw_app_lt, nw_app_sub]
    exact congrArg _ (by omega)
  · simp (disch := omega) only [nw_up_n, nw_app_lt, nw_app_sub]
    exact congrArg _ (by omega)
  · simp (disch := omega) only [nw_up_n, nw_app_lt, nw_app_sub]
    exact congrArg _ (by omega)
  · simp (disch := omega) only [nw_up_n, nw_app_lt, nw_app_sub]
    exact congrArg _ (by omega)
