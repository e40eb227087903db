theorem cy_J0_coder_7d493 : cl_cy yJ0_coder_7d493 cJ0_coder_7d493 1 (some .byte) 0 := ⟨in_java_lang_String, cd_J0_coder_7d493, by decide +kernel, by decide +kernel, by decide +kernel⟩
theorem vy_J0_coder_7d493 : cl_vy yJ0_coder_7d493 := ⟨im_J0_coder_7d493, se_J0_coder_7d493⟩
theorem cy_J0_length_8abf5 : cl_cy yJ0_length_8abf5 cJ0_length_8abf5 1 (some .int) 0 := ⟨in_java_lang_String, cd_J0_length_8abf5, by decide +kernel, by decide +kernel, by decide +kernel⟩
theorem vy_J0_length_8abf5 : cl_vy yJ0_length_8abf5 := ⟨im_J0_length_8abf5, se_J0_length_8abf5⟩
theorem cy_J0_isLatin1_aae02 : cl_cy yJ0_isLatin1_aae02 cJ0_isLatin1_aae02 1 (some .boolean) 0 := ⟨in_java_lang_String, cd_J0_isLatin1_aae02, by decide +kernel, by decide +kernel, by decide +kernel⟩
theorem vy_J0_isLatin1_aae02 : cl_vy yJ0_isLatin1_aae02 := ⟨im_J0_isLatin1_aae02, se_J0_isLatin1_aae02⟩
theorem cy_J0_charAt_5068e : cl_cy yJ0_charAt_5068e cJ0_charAt_5068e 2 (some .char) 1 := ⟨in_java_lang_String, cd_J0_charAt_5068e, by decide +kernel, by decide +kernel, by decide +kernel⟩
theorem vy_J0_charAt_5068e : cl_vy yJ0_charAt_5068e := ⟨im_J0_charAt_5068e, se_J0_charAt_5068e⟩
theorem cy_J1_charAt_3b067 : cl_cy yJ1_charAt_3b067 cJ1_charAt_3b067 2 (some .char) 2 := ⟨in_java_lang_StringLatin1, cd_J1_charAt_3b067, by decide +kernel, by decide +kernel, by decide +kernel⟩
theorem cy_J0_checkIndex_df160 : cl_cy yJ0_checkIndex_df160 cJ0_checkIndex_df160 2 none 2 := ⟨in_java_lang_String, cd_J0_checkIndex_df160, by decide +kernel, by decide +kernel, by decide +kernel⟩
theorem cy_J3_checkIndex_8e157 : cl_cy yJ3_checkIndex_8e157 cJ3_checkIndex_8e157 3 (some .int) 3 := ⟨in_jdk_internal_util_Preconditions, cd_J3_checkIndex_8e157, by decide +kernel, by decide +kernel, by decide +kernel⟩
theorem cl_narb : narrow .byte (.int 0) = .int 0 := by decide
section CLJ
variable {p : Program} {l : Launch} {e : Env} {R : Room} {s : State} {m : MethodId} {args : Array Value} {below : List Frame} {meth : Method} {c : Code} {H : Heap} {locs : List Loc} {cells slots : Nat} {Q : State → Prop} {cc : ByteArray} {pc : Nat} {ls : Array Slot} {rest : List Value} {own : String} {nL : Nat} {ret : Option FieldType} {dd : cl_D} {b : Nat} {M : cl_M}
variable {y : MethodName} {bytes : ByteArray} {maxL n idx fr lo : Nat} {rt : Option FieldType} {As st0 : List Value} {M' : cl_M}
theorem cl_preT (C : cl_C p l s m args meth c cc own nL ret dd b) (h : cl_H dd b M s H locs) {i : Nat} (hi : i < 29) : PreV s H "java/lang/String" (dd.2.2.1 i) (va_Pc (.ref (dd.2.2.1 i) :: As) (cl_I dd b M)) As := by
  have C' := C
  obtain ⟨hx, hb, hml, hown, hts, hlk, hr, hK, hE, hRr, hlt⟩ := C
  obtain ⟨cell, h1, h2, h3, -⟩ := (hE.1 i hi).1.kept (fun a h1 h2 => h.2.2.1 a h1 h2)
  exact ⟨cl_I.blind, ⟨cell, h1, h2, h3⟩, fun U hU hW => ⟨rfl, cl_in C' h hU hW⟩⟩
theorem cr_Ti (C : cl_C p l s m args meth c cc own nL ret dd b) (h : cl_H dd b M s H locs) {i : Nat} (hi : i < 29) {r : Int32} (hM : cl_Mi l dd b y bytes maxL rt fr lo (.ref (dd.2.2.1 i) :: As) M r M') (hy : cl_cy y bytes maxL rt n) (hv : cl_vy y) (w : Cond.methodLink own idx y ∈ cl_W) (hq : y.cls = "java/lang/String") (hn : As.length = n) (hsz : ls.size = nL) (hst : st0 = As.reverse ++ .ref (dd.2.2.1 i) :: rest) (hR : (fr + 1 ≤ R.frames ∧ 8 + (maxL + 11) + lo ≤ R.locals) ∧ (rest.map fun v => v.category).sum ≤ 8 ∧ cells ≤ R.cells ∧ slots ≤ R.slots) (d : decode cc pc = .ok (.invokevirtual idx, 3)) (kk : ∀ (H1 : Heap) (locs1 : List Loc), cl_H dd b M' s H1 locs1 → W p l e R s m args below meth c H1 locs1 cells slots Q (F0 m (pc + 3) ls (.int r :: rest))) : W p l e R s m args below meth c H locs cells slots Q (F0 m pc ls st0) := by
  refine va_calli (va_runV (rest := rest) (C := y.cls) (cl_fix C) hM ⟨cl_cb C hy w hR.1, C.2.2.2.2.1 _ hv.1, C.2.2.2.2.1 _ hv.2⟩ (by rw [hq]; exact cl_preT C h hi) rfl hn hsz hst (lv_room hR.2.1) d ⟨hR.2.2.1, hR.2.2.2⟩) h.2 (fun q _ h => h) (fun q h => h) (fun r' u t' H1 locs1 e1 _ e3 e4 _ _ hS => ?_)
  rw [e3]
  exact kk H1 locs1 (cl_bk e1 e4 hS)
theorem cr_retn (C : cl_C p l s m args meth c cc own nL ret dd b) (h : cl_H dd b M s H locs) {r : Int32} {ty : FieldType} (hrt : ret = some ty) (hz : narrow ty (.int r) = .int r) (d : decode cc pc = .ok (.ireturn, 1)) : W p l e R s m args below meth c H locs cells slots (MQ below (va_Qi (fun x (_ : Unit) => x = r) (fun _ t => cl_J dd b M t) (cl_A b)) args s cells slots (cl_A b)) (F0 m pc ls [.int r]) := by
  obtain ⟨hx, hb, hml, hown, hts, hlk, hr, hK, hE, hRr, hlt⟩ := C
  exact W.zret (v := r) hx hb (hr.trans hrt) hz (fun t ht hW => ⟨⟨r, (), rfl, rfl, h.J ht⟩, h.2.F ht⟩) h.2.2.2 d hlk
end CLJ
theorem c_J0_coder {l : Launch} {dd : cl_D} {b : Nat} (hlt : l.stackTraces = false) {M : cl_M} {i : Nat} (hi : i < 29) : cl_Mi l dd b yJ0_coder_7d493 cJ0_coder_7d493 1 (some .byte) 0 0 [.ref (dd.2.2.1 i)] M 0 M := by
  refine cl_of hlt (by decide) (Nat.le_of_ble_eq_true rfl) (fun p e s m below meth c ls C hw hl => ?_)
  have hx := C.1
  have hb := C.2.1
  have hE := C.2.2.2.2.2.2.2.2.1
  refine va_gets hx hb hE.2.1 hw.2 C.2.2.2.1 (C.2.2.2.2.1 _ fl_J0_38) (fun _ q => q) dJ0_coder_7d493_0 ?_
  refine lv_if_eq (tgt := 13) hx hb dJ0_coder_7d493_3 (by decide) (fun c1 => absurd c1 (by decide)) (fun c1 => ?_)
  refine lv_aload_n hx hb dJ0_coder_7d493_6 rfl (lv_at hl 0 rfl) ?_
  refine vk_getf hx hb (hE.1 i hi).2.1 hw.2 C.2.2.2.1 (C.2.2.2.2.1 _ fl_J0_15) (fun _ q => q) dJ0_coder_7d493_7 ?_
  refine lv_goto (tgt := 14) hx hb dJ0_coder_7d493_10 (by decide) ?_
  exact cr_retn C hw rfl cl_narb dJ0_coder_7d493_14
theorem c_J0_isLatin1 {l : Launch} {dd : cl_D} {b : Nat} (hlt : l.stackTraces = false) {M : cl_M} {i : Nat} (hi : i < 29) : cl_Mi l dd b yJ0_isLatin1_aae02 cJ0_isLatin1_aae02 1 (some .boolean) 0 0 [.ref (dd.2.2.1 i)] M 1 M := by
  refine cl_of hlt (by decide) (Nat.le_of_ble_eq_true rfl) (fun p e s m below meth c ls C hw hl => ?_)
  have hx := C.1
  have hb := C.2.1
  have hE := C.2.2.2.2.2.2.2.2.1
  refine va_gets hx hb hE.2.1 hw.2 C.2.2.2.1 (C.2.2.2.2.1 _ fl_J0_38) (fun _ q => q) dJ0_isLatin1_aae02_0 ?_
  refine lv_if_eq (tgt := 17) hx hb dJ0_isLatin1_aae02_3 (by decide) (fun c1 => absurd c1 (by decide)) (fun c1 => ?_)
  refine lv_aload_n hx hb dJ0_isLatin1_aae02_6 rfl (lv_at hl 0 rfl) ?_
  refine vk_getf hx hb (hE.1 i hi).2.1 hw.2 C.2.2.2.1 (C.2.2.2.2.1 _ fl_J0_15) (fun _ q => q) dJ0_isLatin1_aae02_7 ?_
  refine lv_if_ne (tgt := 17) hx hb dJ0_isLatin1_aae02_10 (by decide) (fun c1 => absurd rfl c1) (fun c1 => ?_)
  refine lv_iconst (v := 1) hx hb dJ0_isLatin1_aae02_13 (by decide) ?_
  refine lv_goto (tgt := 18) hx hb dJ0_isLatin1_aae02_14 (by decide) ?_
  exact cr_retz C hw (by decide) dJ0_isLatin1_aae02_18
theorem cl_sl_lt {i : Nat} (hi : i < 29) : cl_sl i < 4096 := (cl_byt_ok i hi).1
theorem cl_shr0 (x : Int32) : x >>> ((0 : Int32) &&& 31) = x := sb_shr0 x
theorem c_J0_length {l : Launch} {dd : cl_D} {b : Nat} (hlt : l.stackTraces = false) {M : cl_M} {i : Nat} (hi : i < 29) : cl_Mi l dd b yJ0_length_8abf5 cJ0_length_8abf5 1 (some .int) 1 20 [.ref (dd.2.2.1 i)] M (nI (cl_sl i)) M := by
  refine cl_of hlt (by decide) (Nat.le_of_ble_eq_true rfl) (fun p e s m below meth c ls C hw hl => ?_)
  have hx := C.1
  have hb := C.2.1
  have hE := C.2.2.2.2.2.2.2.2.1
  refine lv_aload_n hx hb dJ0_length_8abf5_0 rfl (lv_at hl 0 rfl) ?_
  refine vk_getf hx hb (hE.1 i hi).2.2.1 hw.2 C.2.2.2.1 (C.2.2.2.2.1 _ fl_J0_9) (fun _ q => q) dJ0_length_8abf5_1 ?_
  refine va_tlen hx hb (hE.1 i hi).2.2.2 hw.2 (v := nI (cl_sl i)) rfl dJ0_length_8abf5_4 ?_
  refine lv_aload_n hx hb dJ0_length_8abf5_5 rfl (lv_at hl 0 rfl) ?_
  refine cr_Ti C hw hi (c_J0_coder hlt hi) cy_J0_coder_7d493 vy_J0_coder_7d493 ml_J0_335 rfl (As := []) rfl hl.1 (rest := [.int (nI (cl_sl i))]) rfl ⟨⟨Nat.le_of_ble_eq_true rfl, Nat.le_of_ble_eq_true rfl⟩, Nat.le_of_ble_eq_true rfl, Nat.le_of_ble_eq_true rfl, Nat.le_of_ble_eq_true rfl⟩ dJ0_length_8abf5_6 (fun H locs hw => ?_)
  refine lv_ishr hx hb dJ0_length_8abf5_9 ?_
  rw [cl_shr0]
  exact cr_reti C hw dJ0_length_8abf5_10
theorem c_J3_checkIndex {l : Launch} {dd : cl_D} {b : Nat} (hlt : l.stackTraces = false) {M : cl_M} {k n : Int32} {v : Value} (hv : v = .null ∨ ∃ a, v = .ref a) (h0 : ¬ k < 0) (h1 : k < n) : cl_Mi l dd b yJ3_checkIndex_8e157 cJ3_checkIndex_8e157 3 (some .int) 0 0 [.int k, .int n, v] M k M := by
  refine cl_of hlt (by decide) (by rcases hv with rfl | ⟨a, rfl⟩ <;> exact Nat.le_of_ble_eq_true rfl) (fun p e s m below meth c ls C hw hl => ?_)
  have hx := C.1
  have hb := C.2.1
  have hl : lv_has ls 3 [(0, .int k), (1, .int n)] := lv_sub hl [0, 1] rfl
  refine lv_iload_n hx hb dJ3_checkIndex_8e157_0 rfl (lv_at hl 0 rfl) ?_
  refine lv_if_lt (tgt := 9) hx hb dJ3_checkIndex_8e157_1 (by decide) (fun c1 => absurd c1 h0) (fun c1 => ?_)
  refine lv_iload_n hx hb dJ3_checkIndex_8e157_4 rfl (lv_at hl 0 rfl) ?_
  refine lv_iload_n hx hb dJ3_checkIndex_8e157_5 rfl (lv_at hl 1 rfl) ?_
  refine lv_icmp_lt (tgt := 16) hx hb dJ3_checkIndex_8e157_6 (by decide) (fun c1 => ?_) (fun c1 => absurd h1 c1)
  refine lv_iload_n hx hb dJ3_checkIndex_8e157_16 rfl (lv_at hl 0 rfl) ?_
  exact cr_reti C hw dJ3_checkIndex_8e157_17
theorem c_J0_checkIndex {l : Launch} {dd : cl_D} {b : Nat} (hlt : l.stackTraces = false) {M : cl_M} {k n : Int32} (h0 : ¬ k < 0) (h1 : k < n) : cl_Mv l dd b yJ0_checkIndex_df160 cJ0_checkIndex_df160 2 none 1 22 [.int k, .int n] M M := by
  refine cl_of hlt (by decide) (Nat.le_of_ble_eq_true rfl) (fun p e s m below meth c ls C hw hl => ?_)
  have hx := C.1
  have hb := C.2.1
  have hE := C.2.2.2.2.2.2.2.2.1
  refine lv_iload_n hx hb dJ0_checkIndex_df160_0 rfl (lv_at hl 0 rfl) ?_
  refine lv_iload_n hx hb dJ0_checkIndex_df160_1 rfl (lv_at hl 1 rfl) ?_
  rcases hE.2.2.1 with hz | ⟨t, hz⟩
  · refine va_gets hx hb hz hw.2 C.2.2.2.1 (C.2.2.2.2.1 _ fl_J0_1053) (fun _ q => q) dJ0_checkIndex_df160_2 ?_
    refine cr_Si C hw (c_J3_checkIndex hlt (Or.inl rfl) h0 h1) cy_J3_checkIndex_8e157 st_J3_checkIndex_8e157 ml_J0_1059 (As := [.int k, .int n, .null]) rfl hl.1 (rest := []) rfl ⟨⟨Nat.le_of_ble_eq_true rfl, Nat.le_of_ble_eq_true rfl⟩, Nat.le_of_ble_eq_true rfl, Nat.le_of_ble_eq_true rfl, Nat.le_of_ble_eq_true rfl⟩ dJ0_checkIndex_df160_5 (fun H locs hw => ?_)
    refine lv_pop hx hb dJ0_checkIndex_df160_8 rfl ?_
    exact cr_retv C hw dJ0_checkIndex_df160_9
  · refine va_gets hx hb hz hw.2 C.2.2.2.1 (C.2.2.2.2.1 _ fl_J0_1053) (fun _ q => q) dJ0_checkIndex_df160_2 ?_
    refine cr_Si C hw (c_J3_checkIndex hlt (Or.inr ⟨t, rfl⟩) h0 h1) cy_J3_checkIndex_8e157 st_J3_checkIndex_8e157 ml_J0_1059 (As := [.int k, .int n, .ref t]) rfl hl.1 (rest := []) rfl ⟨⟨Nat.le_of_ble_eq_true rfl, Nat.le_of_ble_eq_true rfl⟩, Nat.le_of_ble_eq_true rfl, Nat.le_of_ble_eq_true rfl, Nat.le_of_ble_eq_true rfl⟩ dJ0_checkIndex_df160_5 (fun H locs hw => ?_)
    refine lv_pop hx hb dJ0_checkIndex_df160_8 rfl ?_
    exact cr_retv C hw dJ0_checkIndex_df160_9
theorem cl_getD_mem {l : List Int32} {k : Nat} (h : k < l.length) : l.getD k 0 ∈ l := by
  rw [List.getD_eq_getElem?_getD, List.getElem?_eq_getElem h]
  exact List.getElem_mem h
theorem cl_ch_in {i k : Nat} (hi : i < 29) (hk : k < cl_sl i) : (cl_ch i k).toInt8.toInt32 = cl_ch i k ∧ cl_ch i k &&& 255 = cl_ch i k ∧ ((cl_ch i k).toUInt32 % 65536).toInt32 = cl_ch i k ∧ narrow .char (.int (cl_ch i k)) = .int (cl_ch i k) := by
  exact (cl_byt_ok i hi).2 _ (cl_getD_mem hk)
theorem c_J1_charAt {l : Launch} {dd : cl_D} {b : Nat} (hlt : l.stackTraces = false) {M : cl_M} {i : Nat} (hi : i < 29) {k : Int32} (hk : cl_inb k (cl_sl i) = true) : cl_Mi l dd b yJ1_charAt_3b067 cJ1_charAt_3b067 2 (some .char) 2 43 [.ref (dd.2.2.2 i), .int k] M (cl_ch i k.toNatClampNeg) M := by
  have hin := cl_inb_in hk
  have h0 : ¬ k < 0 := fun z => hin (Or.inl z)
  have h1 : k < nI (cl_sl i) := by
    obtain ⟨j, hj, rfl⟩ := vp_in_of hin (by have := cl_sl_lt hi; omega)
    exact nI_lt hj (by have := cl_sl_lt hi; omega)
  obtain ⟨q1, q2, q3, q4⟩ := cl_ch_in hi (cl_inb_lt hk)
  refine cl_of hlt (by decide) (Nat.le_of_ble_eq_true rfl) (fun p e s m below meth c ls C hw hl => ?_)
  have hx := C.1
  have hb := C.2.1
  have hE := C.2.2.2.2.2.2.2.2.1
  refine lv_iload_n hx hb dJ1_charAt_3b067_0 rfl (lv_at hl 1 rfl) ?_
  refine lv_aload_n hx hb dJ1_charAt_3b067_1 rfl (lv_at hl 0 rfl) ?_
  refine va_tlen hx hb (hE.1 i hi).2.2.2 hw.2 (v := nI (cl_sl i)) rfl dJ1_charAt_3b067_2 ?_
  refine va_callv (va_runS (rest := []) (cl_fix C) (c_J0_checkIndex hlt h0 h1) ⟨cl_cb C cy_J0_checkIndex_df160 ml_J1_9 ⟨Nat.le_of_ble_eq_true rfl, Nat.le_of_ble_eq_true rfl⟩, C.2.2.2.2.1 _ st_J0_checkIndex_df160⟩ (cl_preS C hw) rfl rfl hl.1 rfl (lv_room (Nat.le_of_ble_eq_true rfl)) dJ1_charAt_3b067_3 ⟨Nat.le_of_ble_eq_true rfl, Nat.le_of_ble_eq_true rfl⟩) hw.2 (fun q _ h => h) (fun q h => h) (fun u t' H1 locs1 e1 _ e3 e4 _ _ hS => ?_)
  have hw : cl_H dd b M s H1 locs1 := cl_bk e1 e4 hS
  refine lv_aload_n hx hb dJ1_charAt_3b067_6 rfl (lv_at hl 0 rfl) ?_
  refine lv_iload_n hx hb dJ1_charAt_3b067_7 rfl (lv_at hl 1 rfl) ?_
  refine va_tb hx hb (hE.1 i hi).2.2.2 hw.2 hin rfl dJ1_charAt_3b067_8 ?_
  refine lv_sipush (v := 255) hx hb dJ1_charAt_3b067_9 (by decide) ?_
  refine lv_iand hx hb dJ1_charAt_3b067_12 ?_
  rw [q2]
  refine lv_i2c hx hb dJ1_charAt_3b067_13 q3 ?_
  exact cr_retn C hw rfl q4 dJ1_charAt_3b067_14
theorem c_J0_charAt {l : Launch} {dd : cl_D} {b : Nat} (hlt : l.stackTraces = false) {M : cl_M} {i : Nat} (hi : i < 29) {k : Int32} (hk : cl_inb k (cl_sl i) = true) : cl_Mi l dd b yJ0_charAt_5068e cJ0_charAt_5068e 2 (some .char) 3 64 [.ref (dd.2.2.1 i), .int k] M (cl_ch i k.toNatClampNeg) M := by
  obtain ⟨q1, q2, q3, q4⟩ := cl_ch_in hi (cl_inb_lt hk)
  refine cl_of hlt (by decide) (Nat.le_of_ble_eq_true rfl) (fun p e s m below meth c ls C hw hl => ?_)
  have hx := C.1
  have hb := C.2.1
  have hE := C.2.2.2.2.2.2.2.2.1
  refine lv_aload_n hx hb dJ0_charAt_5068e_0 rfl (lv_at hl 0 rfl) ?_
  refine cr_Ti C hw hi (c_J0_isLatin1 hlt hi) cy_J0_isLatin1_aae02 vy_J0_isLatin1_aae02 ml_J0_492 rfl (As := []) rfl hl.1 (rest := []) rfl ⟨⟨Nat.le_of_ble_eq_true rfl, Nat.le_of_ble_eq_true rfl⟩, Nat.le_of_ble_eq_true rfl, Nat.le_of_ble_eq_true rfl, Nat.le_of_ble_eq_true rfl⟩ dJ0_charAt_5068e_1 (fun H locs hw => ?_)
  refine lv_if_eq (tgt := 16) hx hb dJ0_charAt_5068e_4 (by decide) (fun c1 => absurd c1 (by decide)) (fun c1 => ?_)
  refine lv_aload_n hx hb dJ0_charAt_5068e_7 rfl (lv_at hl 0 rfl) ?_
  refine vk_getf hx hb (hE.1 i hi).2.2.1 hw.2 C.2.2.2.1 (C.2.2.2.2.1 _ fl_J0_9) (fun _ q => q) dJ0_charAt_5068e_8 ?_
  refine lv_iload_n hx hb dJ0_charAt_5068e_11 rfl (lv_at hl 1 rfl) ?_
  refine cr_Si C hw (c_J1_charAt hlt hi hk) cy_J1_charAt_3b067 st_J1_charAt_3b067 ml_J0_495 (As := [.ref (dd.2.2.2 i), .int k]) rfl hl.1 (rest := []) rfl ⟨⟨Nat.le_of_ble_eq_true rfl, Nat.le_of_ble_eq_true rfl⟩, Nat.le_of_ble_eq_true rfl, Nat.le_of_ble_eq_true rfl, Nat.le_of_ble_eq_true rfl⟩ dJ0_charAt_5068e_12 (fun H locs hw => ?_)
  exact cr_retn C hw rfl q4 dJ0_charAt_5068e_15
section CLT
variable {p : Program} {l : Launch} {e : Env} {R : Room} {s : State} {m : MethodId} {args : Array Value} {below : List Frame} {meth : Method} {c : Code} {H : Heap} {locs : List Loc} {cells slots : Nat} {Q : State → Prop} {cc : ByteArray} {pc : Nat} {ls : Array Slot} {rest : List Value} {own : String} {nL idx : Nat} {ret : Option FieldType} {dd : cl_D} {b : Nat} {M : cl_M} {st0 : List Value}
theorem cr_slen (C : cl_C p l s m args meth c cc own nL ret dd b) (h : cl_H dd b M s H locs) {i : Nat} (hi : i < 29) (w : Cond.methodLink own idx yJ0_length_8abf5 ∈ cl_W) (hsz : ls.size = nL) (hst : st0 = .ref (dd.2.2.1 i) :: rest) (hR : (1 + 1 ≤ R.frames ∧ 8 + (1 + 11) + 20 ≤ R.locals) ∧ (rest.map fun v => v.category).sum ≤ 8 ∧ cells ≤ R.cells ∧ slots ≤ R.slots) (d : decode cc pc = .ok (.invokevirtual idx, 3)) (kk : ∀ (H1 : Heap) (locs1 : List Loc), cl_H dd b M s H1 locs1 → W p l e R s m args below meth c H1 locs1 cells slots Q (F0 m (pc + 3) ls (.int (nI (cl_sl i)) :: rest))) : W p l e R s m args below meth c H locs cells slots Q (F0 m pc ls st0) :=
  cr_Ti C h hi (c_J0_length C.2.2.2.2.2.2.2.2.2.2 hi) cy_J0_length_8abf5 vy_J0_length_8abf5 w rfl (As := []) rfl hsz hst hR d kk
theorem cr_schar (C : cl_C p l s m args meth c cc own nL ret dd b) (h : cl_H dd b M s H locs) {i : Nat} {k : Int32} (hi : i < 29) (hk : cl_inb k (cl_sl i) = true) (w : Cond.methodLink own idx yJ0_charAt_5068e ∈ cl_W) (hsz : ls.size = nL) (hst : st0 = .int k :: .ref (dd.2.2.1 i) :: rest) (hR : (3 + 1 ≤ R.frames ∧ 8 + (2 + 11) + 64 ≤ R.locals) ∧ (rest.map fun v => v.category).sum ≤ 8 ∧ cells ≤ R.cells ∧ slots ≤ R.slots) (d : decode cc pc = .ok (.invokevirtual idx, 3)) (kk : ∀ (H1 : Heap) (locs1 : List Loc), cl_H dd b M s H1 locs1 → W p l e R s m args below meth c H1 locs1 cells slots Q (F0 m (pc + 3) ls (.int (cl_ch i k.toNatClampNeg) :: rest))) : W p l e R s m args below meth c H locs cells slots Q (F0 m pc ls st0) :=
  cr_Ti C h hi (c_J0_charAt C.2.2.2.2.2.2.2.2.2.2 hi hk) cy_J0_charAt_5068e vy_J0_charAt_5068e w rfl (As := [.int k]) rfl hsz hst hR d kk
end CLT
