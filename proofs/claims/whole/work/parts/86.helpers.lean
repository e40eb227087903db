/-! the helpers of the law -/
theorem lk_1 : Cond.classLink RL 13 (cl_exn 1) ∈ cl_W := cl_W_in 822 (by decide +kernel) rfl
theorem lq_1 : Cond.castable (cl_exn 1) (cl_exn 1) ∈ cl_N := cl_N_in 833 (by decide +kernel) rfl
theorem lk_2 : Cond.classLink RL 30 (cl_exn 2) ∈ cl_W := cl_W_in 933 (by decide +kernel) rfl
theorem lq_2 : Cond.castable (cl_exn 2) (cl_exn 2) ∈ cl_N := cl_N_in 944 (by decide +kernel) rfl
theorem lk_3 : Cond.classLink RL 95 (cl_exn 3) ∈ cl_W := cl_W_in 1110 (by decide +kernel) rfl
theorem lq_3 : Cond.castable (cl_exn 3) (cl_exn 3) ∈ cl_N := cl_N_in 1120 (by decide +kernel) rfl
theorem lk_4 : Cond.classLink RL 135 (cl_exn 4) ∈ cl_W := cl_W_in 1227 (by decide +kernel) rfl
theorem lq_4 : Cond.castable (cl_exn 4) (cl_exn 4) ∈ cl_N := cl_N_in 1234 (by decide +kernel) rfl
theorem in_L : Cond.initialized RL ∈ cl_W := cl_W_in 87 (by decide +kernel) rfl
theorem cw_L_windIn : Cond.codeWith yL_windIn cL_windIn 4 (some .int) [(0, 9, 12, 13)] ∈ cl_W := cl_W_in 821 (by decide +kernel) rfl
theorem sw_L_windIn : Cond.static yL_windIn ∈ cl_W := cl_W_in 820 (by decide +kernel) rfl
theorem nl_L_7 : Cond.methodLink RL 7 yX5_windIn ∈ cl_W := cl_W_in 823 (by decide +kernel) rfl
def lc_windIn : List (Nat × Nat) := [(1, 1)]
set_option maxHeartbeats 4000000 in
set_option maxRecDepth 100000 in
theorem h_windIn {l : Launch} {dd : cl_D} {b : Nat} (hlt : l.stackTraces = false) (hd : cl_K dd = 248) {M : cl_M} {a1 : Int32} {o : Except (Nat × cl_M) (Int32 × cl_M)} (h : f_X5_windIn M 0 a1 = some o) (ho : lh_in lc_windIn o) : lh_Met l dd b yL_windIn cL_windIn 4 [(0, 9, 12, 13)] 8 133 1 [.ref b, .int a1, .ref (b + 247)] M (lh_r lc_windIn o) (lh_M o) := by
  refine lh_of hlt (by decide) (Nat.le_of_ble_eq_true rfl) (fun p e s m below meth c ls C hN hT hw hl => ?_)
  have hx := C.1
  have hb := C.2.1
  have hRr := C.2.2.2.2.2.2.2.2.2.1
  refine lv_aload_n hx hb dL_windIn_0 rfl (lv_at hl 2 rfl) ?_
  refine lv_iconst (v := 0) hx hb dL_windIn_1 (by decide) ?_
  refine lv_aload_n hx hb dL_windIn_2 rfl (lv_at hl 0 rfl) ?_
  refine lv_iload_n hx hb dL_windIn_3 rfl (lv_at hl 1 rfl) ?_
  refine lh_V C hw hd (c_X5_windIn hlt (cl_s00 hd) h) cy_X5_windIn vy_X5_windIn nl_L_7 rfl rfl hl.1 (As := [.int a1]) rfl ⟨⟨Nat.le_of_ble_eq_true rfl, Nat.le_of_ble_eq_true rfl⟩, Nat.le_of_ble_eq_true rfl, Nat.le_of_ble_eq_true rfl, Nat.le_of_ble_eq_true rfl⟩ dL_windIn_4 (fun q hq ce q9 H locs hw h9 hv9 hcl => ?_) (fun r M1 hq H locs hw => ?_)
  · obtain ⟨cz, hcz⟩ := ho q hq
    obtain ⟨k, M1⟩ := q
    subst hq
    have hcl : s.vm.findClass (cl_exn k) = some ce.cls := hcl
    have hw : cl_H dd b M1 s H locs := hw
    rcases (show k = 1 from by simp only [lc_windIn, List.mem_cons, List.not_mem_nil, or_false, Prod.mk.injEq] at hcz; omega) with rfl
    · refine vx_catch C.2.2.2.1 [] { startPc := 0, endPc := 9, handlerPc := 12, catchType := 13 } [] (by rw [hT]; rfl) (fun _ h => absurd h List.not_mem_nil) rfl (by decide) (C.2.2.2.2.1 _ lk_1) (va_Nw.use rfl (hRr.2 _ lq_1)) h9 hv9 hcl ?_
      refine lv_astore_n (lv' := [(3, .ref q9), (0, .ref b), (1, .int a1), (2, .ref (b + 247))]) hx hb dL_windIn_12 rfl hl (by decide) rfl (fun ls hl => ?_)
      refine lv_iconst (v := 1) hx hb dL_windIn_13 (by decide) ?_
      exact cr_reti C hw dL_windIn_14
  · subst hq
    refine lv_i2l (v := r.toInt64) hx hb dL_windIn_7 rfl ?_
    refine cr_last C hw hd (x := r) rfl rfl dL_windIn_8 (fun H locs hw => ?_)
    refine lv_goto (tgt := 15) hx hb dL_windIn_9 (by decide) ?_
    refine lv_iconst (v := 0) hx hb dL_windIn_15 (by decide) ?_
    exact cr_reti C hw dL_windIn_16
theorem cw_L_rainIn : Cond.codeWith yL_rainIn cL_rainIn 4 (some .int) [(0, 9, 12, 13)] ∈ cl_W := cl_W_in 902 (by decide +kernel) rfl
theorem sw_L_rainIn : Cond.static yL_rainIn ∈ cl_W := cl_W_in 901 (by decide +kernel) rfl
theorem nl_L_15 : Cond.methodLink RL 15 yX5_rainIn ∈ cl_W := cl_W_in 903 (by decide +kernel) rfl
def lc_rainIn : List (Nat × Nat) := [(1, 1)]
set_option maxHeartbeats 4000000 in
set_option maxRecDepth 100000 in
theorem h_rainIn {l : Launch} {dd : cl_D} {b : Nat} (hlt : l.stackTraces = false) (hd : cl_K dd = 248) {M : cl_M} {a1 : Int32} {o : Except (Nat × cl_M) (Int32 × cl_M)} (h : f_X5_rainIn M 0 a1 = some o) (ho : lh_in lc_rainIn o) : lh_Met l dd b yL_rainIn cL_rainIn 4 [(0, 9, 12, 13)] 8 133 1 [.ref b, .int a1, .ref (b + 247)] M (lh_r lc_rainIn o) (lh_M o) := by
  refine lh_of hlt (by decide) (Nat.le_of_ble_eq_true rfl) (fun p e s m below meth c ls C hN hT hw hl => ?_)
  have hx := C.1
  have hb := C.2.1
  have hRr := C.2.2.2.2.2.2.2.2.2.1
  refine lv_aload_n hx hb dL_rainIn_0 rfl (lv_at hl 2 rfl) ?_
  refine lv_iconst (v := 0) hx hb dL_rainIn_1 (by decide) ?_
  refine lv_aload_n hx hb dL_rainIn_2 rfl (lv_at hl 0 rfl) ?_
  refine lv_iload_n hx hb dL_rainIn_3 rfl (lv_at hl 1 rfl) ?_
  refine lh_V C hw hd (c_X5_rainIn hlt (cl_s00 hd) h) cy_X5_rainIn vy_X5_rainIn nl_L_15 rfl rfl hl.1 (As := [.int a1]) rfl ⟨⟨Nat.le_of_ble_eq_true rfl, Nat.le_of_ble_eq_true rfl⟩, Nat.le_of_ble_eq_true rfl, Nat.le_of_ble_eq_true rfl, Nat.le_of_ble_eq_true rfl⟩ dL_rainIn_4 (fun q hq ce q9 H locs hw h9 hv9 hcl => ?_) (fun r M1 hq H locs hw => ?_)
  · obtain ⟨cz, hcz⟩ := ho q hq
    obtain ⟨k, M1⟩ := q
    subst hq
    have hcl : s.vm.findClass (cl_exn k) = some ce.cls := hcl
    have hw : cl_H dd b M1 s H locs := hw
    rcases (show k = 1 from by simp only [lc_rainIn, List.mem_cons, List.not_mem_nil, or_false, Prod.mk.injEq] at hcz; omega) with rfl
    · refine vx_catch C.2.2.2.1 [] { startPc := 0, endPc := 9, handlerPc := 12, catchType := 13 } [] (by rw [hT]; rfl) (fun _ h => absurd h List.not_mem_nil) rfl (by decide) (C.2.2.2.2.1 _ lk_1) (va_Nw.use rfl (hRr.2 _ lq_1)) h9 hv9 hcl ?_
      refine lv_astore_n (lv' := [(3, .ref q9), (0, .ref b), (1, .int a1), (2, .ref (b + 247))]) hx hb dL_rainIn_12 rfl hl (by decide) rfl (fun ls hl => ?_)
      refine lv_iconst (v := 1) hx hb dL_rainIn_13 (by decide) ?_
      exact cr_reti C hw dL_rainIn_14
  · subst hq
    refine lv_i2l (v := r.toInt64) hx hb dL_rainIn_7 rfl ?_
    refine cr_last C hw hd (x := r) rfl rfl dL_rainIn_8 (fun H locs hw => ?_)
    refine lv_goto (tgt := 15) hx hb dL_rainIn_9 (by decide) ?_
    refine lv_iconst (v := 0) hx hb dL_rainIn_15 (by decide) ?_
    exact cr_reti C hw dL_rainIn_16
theorem cw_L_sunnySpots : Cond.codeWith yL_sunnySpots cL_sunnySpots 4 (some .int) [(0, 9, 12, 13)] ∈ cl_W := cl_W_in 910 (by decide +kernel) rfl
theorem sw_L_sunnySpots : Cond.static yL_sunnySpots ∈ cl_W := cl_W_in 909 (by decide +kernel) rfl
theorem nl_L_18 : Cond.methodLink RL 18 yX5_sunnySpots ∈ cl_W := cl_W_in 911 (by decide +kernel) rfl
def lc_sunnySpots : List (Nat × Nat) := [(1, 1)]
set_option maxHeartbeats 4000000 in
set_option maxRecDepth 100000 in
theorem h_sunnySpots {l : Launch} {dd : cl_D} {b : Nat} (hlt : l.stackTraces = false) (hd : cl_K dd = 248) {M : cl_M} {a1 : Int32} {o : Except (Nat × cl_M) (Int32 × cl_M)} (h : f_X5_sunnySpots M 0 a1 = some o) (ho : lh_in lc_sunnySpots o) : lh_Met l dd b yL_sunnySpots cL_sunnySpots 4 [(0, 9, 12, 13)] 8 133 1 [.ref b, .int a1, .ref (b + 247)] M (lh_r lc_sunnySpots o) (lh_M o) := by
  refine lh_of hlt (by decide) (Nat.le_of_ble_eq_true rfl) (fun p e s m below meth c ls C hN hT hw hl => ?_)
  have hx := C.1
  have hb := C.2.1
  have hRr := C.2.2.2.2.2.2.2.2.2.1
  refine lv_aload_n hx hb dL_sunnySpots_0 rfl (lv_at hl 2 rfl) ?_
  refine lv_iconst (v := 0) hx hb dL_sunnySpots_1 (by decide) ?_
  refine lv_aload_n hx hb dL_sunnySpots_2 rfl (lv_at hl 0 rfl) ?_
  refine lv_iload_n hx hb dL_sunnySpots_3 rfl (lv_at hl 1 rfl) ?_
  refine lh_V C hw hd (c_X5_sunnySpots hlt (cl_s00 hd) h) cy_X5_sunnySpots vy_X5_sunnySpots nl_L_18 rfl rfl hl.1 (As := [.int a1]) rfl ⟨⟨Nat.le_of_ble_eq_true rfl, Nat.le_of_ble_eq_true rfl⟩, Nat.le_of_ble_eq_true rfl, Nat.le_of_ble_eq_true rfl, Nat.le_of_ble_eq_true rfl⟩ dL_sunnySpots_4 (fun q hq ce q9 H locs hw h9 hv9 hcl => ?_) (fun r M1 hq H locs hw => ?_)
  · obtain ⟨cz, hcz⟩ := ho q hq
    obtain ⟨k, M1⟩ := q
    subst hq
    have hcl : s.vm.findClass (cl_exn k) = some ce.cls := hcl
    have hw : cl_H dd b M1 s H locs := hw
    rcases (show k = 1 from by simp only [lc_sunnySpots, List.mem_cons, List.not_mem_nil, or_false, Prod.mk.injEq] at hcz; omega) with rfl
    · refine vx_catch C.2.2.2.1 [] { startPc := 0, endPc := 9, handlerPc := 12, catchType := 13 } [] (by rw [hT]; rfl) (fun _ h => absurd h List.not_mem_nil) rfl (by decide) (C.2.2.2.2.1 _ lk_1) (va_Nw.use rfl (hRr.2 _ lq_1)) h9 hv9 hcl ?_
      refine lv_astore_n (lv' := [(3, .ref q9), (0, .ref b), (1, .int a1), (2, .ref (b + 247))]) hx hb dL_sunnySpots_12 rfl hl (by decide) rfl (fun ls hl => ?_)
      refine lv_iconst (v := 1) hx hb dL_sunnySpots_13 (by decide) ?_
      exact cr_reti C hw dL_sunnySpots_14
  · subst hq
    refine lv_i2l (v := r.toInt64) hx hb dL_sunnySpots_7 rfl ?_
    refine cr_last C hw hd (x := r) rfl rfl dL_sunnySpots_8 (fun H locs hw => ?_)
    refine lv_goto (tgt := 15) hx hb dL_sunnySpots_9 (by decide) ?_
    refine lv_iconst (v := 0) hx hb dL_sunnySpots_15 (by decide) ?_
    exact cr_reti C hw dL_sunnySpots_16
theorem cw_L_smokySpots : Cond.codeWith yL_smokySpots cL_smokySpots 4 (some .int) [(0, 9, 12, 13)] ∈ cl_W := cl_W_in 917 (by decide +kernel) rfl
theorem sw_L_smokySpots : Cond.static yL_smokySpots ∈ cl_W := cl_W_in 916 (by decide +kernel) rfl
theorem nl_L_21 : Cond.methodLink RL 21 yX5_smokySpots ∈ cl_W := cl_W_in 918 (by decide +kernel) rfl
def lc_smokySpots : List (Nat × Nat) := [(1, 1)]
set_option maxHeartbeats 4000000 in
set_option maxRecDepth 100000 in
theorem h_smokySpots {l : Launch} {dd : cl_D} {b : Nat} (hlt : l.stackTraces = false) (hd : cl_K dd = 248) {M : cl_M} {a1 : Int32} {o : Except (Nat × cl_M) (Int32 × cl_M)} (h : f_X5_smokySpots M 0 a1 = some o) (ho : lh_in lc_smokySpots o) : lh_Met l dd b yL_smokySpots cL_smokySpots 4 [(0, 9, 12, 13)] 8 133 1 [.ref b, .int a1, .ref (b + 247)] M (lh_r lc_smokySpots o) (lh_M o) := by
  refine lh_of hlt (by decide) (Nat.le_of_ble_eq_true rfl) (fun p e s m below meth c ls C hN hT hw hl => ?_)
  have hx := C.1
  have hb := C.2.1
  have hRr := C.2.2.2.2.2.2.2.2.2.1
  refine lv_aload_n hx hb dL_smokySpots_0 rfl (lv_at hl 2 rfl) ?_
  refine lv_iconst (v := 0) hx hb dL_smokySpots_1 (by decide) ?_
  refine lv_aload_n hx hb dL_smokySpots_2 rfl (lv_at hl 0 rfl) ?_
  refine lv_iload_n hx hb dL_smokySpots_3 rfl (lv_at hl 1 rfl) ?_
  refine lh_V C hw hd (c_X5_smokySpots hlt (cl_s00 hd) h) cy_X5_smokySpots vy_X5_smokySpots nl_L_21 rfl rfl hl.1 (As := [.int a1]) rfl ⟨⟨Nat.le_of_ble_eq_true rfl, Nat.le_of_ble_eq_true rfl⟩, Nat.le_of_ble_eq_true rfl, Nat.le_of_ble_eq_true rfl, Nat.le_of_ble_eq_true rfl⟩ dL_smokySpots_4 (fun q hq ce q9 H locs hw h9 hv9 hcl => ?_) (fun r M1 hq H locs hw => ?_)
  · obtain ⟨cz, hcz⟩ := ho q hq
    obtain ⟨k, M1⟩ := q
    subst hq
    have hcl : s.vm.findClass (cl_exn k) = some ce.cls := hcl
    have hw : cl_H dd b M1 s H locs := hw
    rcases (show k = 1 from by simp only [lc_smokySpots, List.mem_cons, List.not_mem_nil, or_false, Prod.mk.injEq] at hcz; omega) with rfl
    · refine vx_catch C.2.2.2.1 [] { startPc := 0, endPc := 9, handlerPc := 12, catchType := 13 } [] (by rw [hT]; rfl) (fun _ h => absurd h List.not_mem_nil) rfl (by decide) (C.2.2.2.2.1 _ lk_1) (va_Nw.use rfl (hRr.2 _ lq_1)) h9 hv9 hcl ?_
      refine lv_astore_n (lv' := [(3, .ref q9), (0, .ref b), (1, .int a1), (2, .ref (b + 247))]) hx hb dL_smokySpots_12 rfl hl (by decide) rfl (fun ls hl => ?_)
      refine lv_iconst (v := 1) hx hb dL_smokySpots_13 (by decide) ?_
      exact cr_reti C hw dL_smokySpots_14
  · subst hq
    refine lv_i2l (v := r.toInt64) hx hb dL_smokySpots_7 rfl ?_
    refine cr_last C hw hd (x := r) rfl rfl dL_smokySpots_8 (fun H locs hw => ?_)
    refine lv_goto (tgt := 15) hx hb dL_smokySpots_9 (by decide) ?_
    refine lv_iconst (v := 0) hx hb dL_smokySpots_15 (by decide) ?_
    exact cr_reti C hw dL_smokySpots_16
theorem cw_L_garmentAt : Cond.codeWith yL_garmentAt cL_garmentAt 4 (some .int) [(0, 9, 12, 13)] ∈ cl_W := cl_W_in 925 (by decide +kernel) rfl
theorem sw_L_garmentAt : Cond.static yL_garmentAt ∈ cl_W := cl_W_in 924 (by decide +kernel) rfl
theorem nl_L_24 : Cond.methodLink RL 24 yX5_garmentAt ∈ cl_W := cl_W_in 926 (by decide +kernel) rfl
def lc_garmentAt : List (Nat × Nat) := [(1, 1)]
set_option maxHeartbeats 4000000 in
set_option maxRecDepth 100000 in
theorem h_garmentAt {l : Launch} {dd : cl_D} {b : Nat} (hlt : l.stackTraces = false) (hd : cl_K dd = 248) {M : cl_M} {a1 : Int32} {o : Except (Nat × cl_M) (Int32 × cl_M)} (h : f_X5_garmentAt M 0 a1 = some o) (ho : lh_in lc_garmentAt o) : lh_Met l dd b yL_garmentAt cL_garmentAt 4 [(0, 9, 12, 13)] 8 133 1 [.ref b, .int a1, .ref (b + 247)] M (lh_r lc_garmentAt o) (lh_M o) := by
  refine lh_of hlt (by decide) (Nat.le_of_ble_eq_true rfl) (fun p e s m below meth c ls C hN hT hw hl => ?_)
  have hx := C.1
  have hb := C.2.1
  have hRr := C.2.2.2.2.2.2.2.2.2.1
  refine lv_aload_n hx hb dL_garmentAt_0 rfl (lv_at hl 2 rfl) ?_
  refine lv_iconst (v := 0) hx hb dL_garmentAt_1 (by decide) ?_
  refine lv_aload_n hx hb dL_garmentAt_2 rfl (lv_at hl 0 rfl) ?_
  refine lv_iload_n hx hb dL_garmentAt_3 rfl (lv_at hl 1 rfl) ?_
  refine lh_V C hw hd (c_X5_garmentAt hlt (cl_s00 hd) h) cy_X5_garmentAt vy_X5_garmentAt nl_L_24 rfl rfl hl.1 (As := [.int a1]) rfl ⟨⟨Nat.le_of_ble_eq_true rfl, Nat.le_of_ble_eq_true rfl⟩, Nat.le_of_ble_eq_true rfl, Nat.le_of_ble_eq_true rfl, Nat.le_of_ble_eq_true rfl⟩ dL_garmentAt_4 (fun q hq ce q9 H locs hw h9 hv9 hcl => ?_) (fun r M1 hq H locs hw => ?_)
  · obtain ⟨cz, hcz⟩ := ho q hq
    obtain ⟨k, M1⟩ := q
    subst hq
    have hcl : s.vm.findClass (cl_exn k) = some ce.cls := hcl
    have hw : cl_H dd b M1 s H locs := hw
    rcases (show k = 1 from by simp only [lc_garmentAt, List.mem_cons, List.not_mem_nil, or_false, Prod.mk.injEq] at hcz; omega) with rfl
    · refine vx_catch C.2.2.2.1 [] { startPc := 0, endPc := 9, handlerPc := 12, catchType := 13 } [] (by rw [hT]; rfl) (fun _ h => absurd h List.not_mem_nil) rfl (by decide) (C.2.2.2.2.1 _ lk_1) (va_Nw.use rfl (hRr.2 _ lq_1)) h9 hv9 hcl ?_
      refine lv_astore_n (lv' := [(3, .ref q9), (0, .ref b), (1, .int a1), (2, .ref (b + 247))]) hx hb dL_garmentAt_12 rfl hl (by decide) rfl (fun ls hl => ?_)
      refine lv_iconst (v := 1) hx hb dL_garmentAt_13 (by decide) ?_
      exact cr_reti C hw dL_garmentAt_14
  · subst hq
    refine lv_i2l (v := r.toInt64) hx hb dL_garmentAt_7 rfl ?_
    refine cr_last C hw hd (x := r) rfl rfl dL_garmentAt_8 (fun H locs hw => ?_)
    refine lv_goto (tgt := 15) hx hb dL_garmentAt_9 (by decide) ?_
    refine lv_iconst (v := 0) hx hb dL_garmentAt_15 (by decide) ?_
    exact cr_reti C hw dL_garmentAt_16
theorem cw_L_stateOf : Cond.codeWith yL_stateOf cL_stateOf 4 (some .int) [(0, 9, 12, 30)] ∈ cl_W := cl_W_in 932 (by decide +kernel) rfl
theorem sw_L_stateOf : Cond.static yL_stateOf ∈ cl_W := cl_W_in 931 (by decide +kernel) rfl
theorem nl_L_27 : Cond.methodLink RL 27 yX5_stateOf ∈ cl_W := cl_W_in 934 (by decide +kernel) rfl
def lc_stateOf : List (Nat × Nat) := [(2, 1)]
set_option maxHeartbeats 4000000 in
set_option maxRecDepth 100000 in
theorem h_stateOf {l : Launch} {dd : cl_D} {b : Nat} (hlt : l.stackTraces = false) (hd : cl_K dd = 248) {M : cl_M} {a1 : Int32} {o : Except (Nat × cl_M) (Int32 × cl_M)} (h : f_X5_stateOf M 0 a1 = some o) (ho : lh_in lc_stateOf o) : lh_Met l dd b yL_stateOf cL_stateOf 4 [(0, 9, 12, 30)] 8 132 1 [.ref b, .int a1, .ref (b + 247)] M (lh_r lc_stateOf o) (lh_M o) := by
  refine lh_of hlt (by decide) (Nat.le_of_ble_eq_true rfl) (fun p e s m below meth c ls C hN hT hw hl => ?_)
  have hx := C.1
  have hb := C.2.1
  have hRr := C.2.2.2.2.2.2.2.2.2.1
  refine lv_aload_n hx hb dL_stateOf_0 rfl (lv_at hl 2 rfl) ?_
  refine lv_iconst (v := 0) hx hb dL_stateOf_1 (by decide) ?_
  refine lv_aload_n hx hb dL_stateOf_2 rfl (lv_at hl 0 rfl) ?_
  refine lv_iload_n hx hb dL_stateOf_3 rfl (lv_at hl 1 rfl) ?_
  refine lh_V C hw hd (c_X5_stateOf hlt (cl_s00 hd) h) cy_X5_stateOf vy_X5_stateOf nl_L_27 rfl rfl hl.1 (As := [.int a1]) rfl ⟨⟨Nat.le_of_ble_eq_true rfl, Nat.le_of_ble_eq_true rfl⟩, Nat.le_of_ble_eq_true rfl, Nat.le_of_ble_eq_true rfl, Nat.le_of_ble_eq_true rfl⟩ dL_stateOf_4 (fun q hq ce q9 H locs hw h9 hv9 hcl => ?_) (fun r M1 hq H locs hw => ?_)
  · obtain ⟨cz, hcz⟩ := ho q hq
    obtain ⟨k, M1⟩ := q
    subst hq
    have hcl : s.vm.findClass (cl_exn k) = some ce.cls := hcl
    have hw : cl_H dd b M1 s H locs := hw
    rcases (show k = 2 from by simp only [lc_stateOf, List.mem_cons, List.not_mem_nil, or_false, Prod.mk.injEq] at hcz; omega) with rfl
    · refine vx_catch C.2.2.2.1 [] { startPc := 0, endPc := 9, handlerPc := 12, catchType := 30 } [] (by rw [hT]; rfl) (fun _ h => absurd h List.not_mem_nil) rfl (by decide) (C.2.2.2.2.1 _ lk_2) (va_Nw.use rfl (hRr.2 _ lq_2)) h9 hv9 hcl ?_
      refine lv_astore_n (lv' := [(3, .ref q9), (0, .ref b), (1, .int a1), (2, .ref (b + 247))]) hx hb dL_stateOf_12 rfl hl (by decide) rfl (fun ls hl => ?_)
      refine lv_iconst (v := 1) hx hb dL_stateOf_13 (by decide) ?_
      exact cr_reti C hw dL_stateOf_14
  · subst hq
    refine lv_i2l (v := r.toInt64) hx hb dL_stateOf_7 rfl ?_
    refine cr_last C hw hd (x := r) rfl rfl dL_stateOf_8 (fun H locs hw => ?_)
    refine lv_goto (tgt := 15) hx hb dL_stateOf_9 (by decide) ?_
    refine lv_iconst (v := 0) hx hb dL_stateOf_15 (by decide) ?_
    exact cr_reti C hw dL_stateOf_16
theorem cw_L_widthOf : Cond.codeWith yL_widthOf cL_widthOf 4 (some .int) [(0, 9, 12, 30)] ∈ cl_W := cl_W_in 960 (by decide +kernel) rfl
theorem sw_L_widthOf : Cond.static yL_widthOf ∈ cl_W := cl_W_in 959 (by decide +kernel) rfl
theorem nl_L_32 : Cond.methodLink RL 32 yX5_widthOf ∈ cl_W := cl_W_in 961 (by decide +kernel) rfl
def lc_widthOf : List (Nat × Nat) := [(2, 1)]
set_option maxHeartbeats 4000000 in
set_option maxRecDepth 100000 in
theorem h_widthOf {l : Launch} {dd : cl_D} {b : Nat} (hlt : l.stackTraces = false) (hd : cl_K dd = 248) {M : cl_M} {a1 : Int32} {o : Except (Nat × cl_M) (Int32 × cl_M)} (h : f_X5_widthOf M 0 a1 = some o) (ho : lh_in lc_widthOf o) : lh_Met l dd b yL_widthOf cL_widthOf 4 [(0, 9, 12, 30)] 8 132 1 [.ref b, .int a1, .ref (b + 247)] M (lh_r lc_widthOf o) (lh_M o) := by
  refine lh_of hlt (by decide) (Nat.le_of_ble_eq_true rfl) (fun p e s m below meth c ls C hN hT hw hl => ?_)
  have hx := C.1
  have hb := C.2.1
  have hRr := C.2.2.2.2.2.2.2.2.2.1
  refine lv_aload_n hx hb dL_widthOf_0 rfl (lv_at hl 2 rfl) ?_
  refine lv_iconst (v := 0) hx hb dL_widthOf_1 (by decide) ?_
  refine lv_aload_n hx hb dL_widthOf_2 rfl (lv_at hl 0 rfl) ?_
  refine lv_iload_n hx hb dL_widthOf_3 rfl (lv_at hl 1 rfl) ?_
  refine lh_V C hw hd (c_X5_widthOf hlt (cl_s00 hd) h) cy_X5_widthOf vy_X5_widthOf nl_L_32 rfl rfl hl.1 (As := [.int a1]) rfl ⟨⟨Nat.le_of_ble_eq_true rfl, Nat.le_of_ble_eq_true rfl⟩, Nat.le_of_ble_eq_true rfl, Nat.le_of_ble_eq_true rfl, Nat.le_of_ble_eq_true rfl⟩ dL_widthOf_4 (fun q hq ce q9 H locs hw h9 hv9 hcl => ?_) (fun r M1 hq H locs hw => ?_)
  · obtain ⟨cz, hcz⟩ := ho q hq
    obtain ⟨k, M1⟩ := q
    subst hq
    have hcl : s.vm.findClass (cl_exn k) = some ce.cls := hcl
    have hw : cl_H dd b M1 s H locs := hw
    rcases (show k = 2 from by simp only [lc_widthOf, List.mem_cons, List.not_mem_nil, or_false, Prod.mk.injEq] at hcz; omega) with rfl
    · refine vx_catch C.2.2.2.1 [] { startPc := 0, endPc := 9, handlerPc := 12, catchType := 30 } [] (by rw [hT]; rfl) (fun _ h => absurd h List.not_mem_nil) rfl (by decide) (C.2.2.2.2.1 _ lk_2) (va_Nw.use rfl (hRr.2 _ lq_2)) h9 hv9 hcl ?_
      refine lv_astore_n (lv' := [(3, .ref q9), (0, .ref b), (1, .int a1), (2, .ref (b + 247))]) hx hb dL_widthOf_12 rfl hl (by decide) rfl (fun ls hl => ?_)
      refine lv_iconst (v := 1) hx hb dL_widthOf_13 (by decide) ?_
      exact cr_reti C hw dL_widthOf_14
  · subst hq
    refine lv_i2l (v := r.toInt64) hx hb dL_widthOf_7 rfl ?_
    refine cr_last C hw hd (x := r) rfl rfl dL_widthOf_8 (fun H locs hw => ?_)
    refine lv_goto (tgt := 15) hx hb dL_widthOf_9 (by decide) ?_
    refine lv_iconst (v := 0) hx hb dL_widthOf_15 (by decide) ?_
    exact cr_reti C hw dL_widthOf_16
theorem cw_L_dryWeight : Cond.codeWith yL_dryWeight cL_dryWeight 4 (some .int) [(0, 9, 12, 30)] ∈ cl_W := cl_W_in 967 (by decide +kernel) rfl
theorem sw_L_dryWeight : Cond.static yL_dryWeight ∈ cl_W := cl_W_in 966 (by decide +kernel) rfl
theorem nl_L_35 : Cond.methodLink RL 35 yX5_dryWeight ∈ cl_W := cl_W_in 968 (by decide +kernel) rfl
def lc_dryWeight : List (Nat × Nat) := [(2, 1)]
set_option maxHeartbeats 4000000 in
set_option maxRecDepth 100000 in
theorem h_dryWeight {l : Launch} {dd : cl_D} {b : Nat} (hlt : l.stackTraces = false) (hd : cl_K dd = 248) {M : cl_M} {a1 : Int32} {o : Except (Nat × cl_M) (Int32 × cl_M)} (h : f_X5_dryWeight M 0 a1 = some o) (ho : lh_in lc_dryWeight o) : lh_Met l dd b yL_dryWeight cL_dryWeight 4 [(0, 9, 12, 30)] 8 132 1 [.ref b, .int a1, .ref (b + 247)] M (lh_r lc_dryWeight o) (lh_M o) := by
  refine lh_of hlt (by decide) (Nat.le_of_ble_eq_true rfl) (fun p e s m below meth c ls C hN hT hw hl => ?_)
  have hx := C.1
  have hb := C.2.1
  have hRr := C.2.2.2.2.2.2.2.2.2.1
  refine lv_aload_n hx hb dL_dryWeight_0 rfl (lv_at hl 2 rfl) ?_
  refine lv_iconst (v := 0) hx hb dL_dryWeight_1 (by decide) ?_
  refine lv_aload_n hx hb dL_dryWeight_2 rfl (lv_at hl 0 rfl) ?_
  refine lv_iload_n hx hb dL_dryWeight_3 rfl (lv_at hl 1 rfl) ?_
  refine lh_V C hw hd (c_X5_dryWeight hlt (cl_s00 hd) h) cy_X5_dryWeight vy_X5_dryWeight nl_L_35 rfl rfl hl.1 (As := [.int a1]) rfl ⟨⟨Nat.le_of_ble_eq_true rfl, Nat.le_of_ble_eq_true rfl⟩, Nat.le_of_ble_eq_true rfl, Nat.le_of_ble_eq_true rfl, Nat.le_of_ble_eq_true rfl⟩ dL_dryWeight_4 (fun q hq ce q9 H locs hw h9 hv9 hcl => ?_) (fun r M1 hq H locs hw => ?_)
  · obtain ⟨cz, hcz⟩ := ho q hq
    obtain ⟨k, M1⟩ := q
    subst hq
    have hcl : s.vm.findClass (cl_exn k) = some ce.cls := hcl
    have hw : cl_H dd b M1 s H locs := hw
    rcases (show k = 2 from by simp only [lc_dryWeight, List.mem_cons, List.not_mem_nil, or_false, Prod.mk.injEq] at hcz; omega) with rfl
    · refine vx_catch C.2.2.2.1 [] { startPc := 0, endPc := 9, handlerPc := 12, catchType := 30 } [] (by rw [hT]; rfl) (fun _ h => absurd h List.not_mem_nil) rfl (by decide) (C.2.2.2.2.1 _ lk_2) (va_Nw.use rfl (hRr.2 _ lq_2)) h9 hv9 hcl ?_
      refine lv_astore_n (lv' := [(3, .ref q9), (0, .ref b), (1, .int a1), (2, .ref (b + 247))]) hx hb dL_dryWeight_12 rfl hl (by decide) rfl (fun ls hl => ?_)
      refine lv_iconst (v := 1) hx hb dL_dryWeight_13 (by decide) ?_
      exact cr_reti C hw dL_dryWeight_14
  · subst hq
    refine lv_i2l (v := r.toInt64) hx hb dL_dryWeight_7 rfl ?_
    refine cr_last C hw hd (x := r) rfl rfl dL_dryWeight_8 (fun H locs hw => ?_)
    refine lv_goto (tgt := 15) hx hb dL_dryWeight_9 (by decide) ?_
    refine lv_iconst (v := 0) hx hb dL_dryWeight_15 (by decide) ?_
    exact cr_reti C hw dL_dryWeight_16
theorem cw_L_capacityOf : Cond.codeWith yL_capacityOf cL_capacityOf 4 (some .int) [(0, 9, 12, 30)] ∈ cl_W := cl_W_in 974 (by decide +kernel) rfl
theorem sw_L_capacityOf : Cond.static yL_capacityOf ∈ cl_W := cl_W_in 973 (by decide +kernel) rfl
theorem nl_L_38 : Cond.methodLink RL 38 yX5_capacityOf ∈ cl_W := cl_W_in 975 (by decide +kernel) rfl
def lc_capacityOf : List (Nat × Nat) := [(2, 1)]
set_option maxHeartbeats 4000000 in
set_option maxRecDepth 100000 in
theorem h_capacityOf {l : Launch} {dd : cl_D} {b : Nat} (hlt : l.stackTraces = false) (hd : cl_K dd = 248) {M : cl_M} {a1 : Int32} {o : Except (Nat × cl_M) (Int32 × cl_M)} (h : f_X5_capacityOf M 0 a1 = some o) (ho : lh_in lc_capacityOf o) : lh_Met l dd b yL_capacityOf cL_capacityOf 4 [(0, 9, 12, 30)] 8 132 1 [.ref b, .int a1, .ref (b + 247)] M (lh_r lc_capacityOf o) (lh_M o) := by
  refine lh_of hlt (by decide) (Nat.le_of_ble_eq_true rfl) (fun p e s m below meth c ls C hN hT hw hl => ?_)
  have hx := C.1
  have hb := C.2.1
  have hRr := C.2.2.2.2.2.2.2.2.2.1
  refine lv_aload_n hx hb dL_capacityOf_0 rfl (lv_at hl 2 rfl) ?_
  refine lv_iconst (v := 0) hx hb dL_capacityOf_1 (by decide) ?_
  refine lv_aload_n hx hb dL_capacityOf_2 rfl (lv_at hl 0 rfl) ?_
  refine lv_iload_n hx hb dL_capacityOf_3 rfl (lv_at hl 1 rfl) ?_
  refine lh_V C hw hd (c_X5_capacityOf hlt (cl_s00 hd) h) cy_X5_capacityOf vy_X5_capacityOf nl_L_38 rfl rfl hl.1 (As := [.int a1]) rfl ⟨⟨Nat.le_of_ble_eq_true rfl, Nat.le_of_ble_eq_true rfl⟩, Nat.le_of_ble_eq_true rfl, Nat.le_of_ble_eq_true rfl, Nat.le_of_ble_eq_true rfl⟩ dL_capacityOf_4 (fun q hq ce q9 H locs hw h9 hv9 hcl => ?_) (fun r M1 hq H locs hw => ?_)
  · obtain ⟨cz, hcz⟩ := ho q hq
    obtain ⟨k, M1⟩ := q
    subst hq
    have hcl : s.vm.findClass (cl_exn k) = some ce.cls := hcl
    have hw : cl_H dd b M1 s H locs := hw
    rcases (show k = 2 from by simp only [lc_capacityOf, List.mem_cons, List.not_mem_nil, or_false, Prod.mk.injEq] at hcz; omega) with rfl
    · refine vx_catch C.2.2.2.1 [] { startPc := 0, endPc := 9, handlerPc := 12, catchType := 30 } [] (by rw [hT]; rfl) (fun _ h => absurd h List.not_mem_nil) rfl (by decide) (C.2.2.2.2.1 _ lk_2) (va_Nw.use rfl (hRr.2 _ lq_2)) h9 hv9 hcl ?_
      refine lv_astore_n (lv' := [(3, .ref q9), (0, .ref b), (1, .int a1), (2, .ref (b + 247))]) hx hb dL_capacityOf_12 rfl hl (by decide) rfl (fun ls hl => ?_)
      refine lv_iconst (v := 1) hx hb dL_capacityOf_13 (by decide) ?_
      exact cr_reti C hw dL_capacityOf_14
  · subst hq
    refine lv_i2l (v := r.toInt64) hx hb dL_capacityOf_7 rfl ?_
    refine cr_last C hw hd (x := r) rfl rfl dL_capacityOf_8 (fun H locs hw => ?_)
    refine lv_goto (tgt := 15) hx hb dL_capacityOf_9 (by decide) ?_
    refine lv_iconst (v := 0) hx hb dL_capacityOf_15 (by decide) ?_
    exact cr_reti C hw dL_capacityOf_16
theorem cw_L_waterOf : Cond.codeWith yL_waterOf cL_waterOf 4 (some .int) [(0, 9, 12, 30)] ∈ cl_W := cl_W_in 981 (by decide +kernel) rfl
theorem sw_L_waterOf : Cond.static yL_waterOf ∈ cl_W := cl_W_in 980 (by decide +kernel) rfl
theorem nl_L_41 : Cond.methodLink RL 41 yX5_waterOf ∈ cl_W := cl_W_in 982 (by decide +kernel) rfl
def lc_waterOf : List (Nat × Nat) := [(2, 1)]
set_option maxHeartbeats 4000000 in
set_option maxRecDepth 100000 in
theorem h_waterOf {l : Launch} {dd : cl_D} {b : Nat} (hlt : l.stackTraces = false) (hd : cl_K dd = 248) {M : cl_M} {a1 : Int32} {o : Except (Nat × cl_M) (Int32 × cl_M)} (h : f_X5_waterOf M 0 a1 = some o) (ho : lh_in lc_waterOf o) : lh_Met l dd b yL_waterOf cL_waterOf 4 [(0, 9, 12, 30)] 8 132 1 [.ref b, .int a1, .ref (b + 247)] M (lh_r lc_waterOf o) (lh_M o) := by
  refine lh_of hlt (by decide) (Nat.le_of_ble_eq_true rfl) (fun p e s m below meth c ls C hN hT hw hl => ?_)
  have hx := C.1
  have hb := C.2.1
  have hRr := C.2.2.2.2.2.2.2.2.2.1
  refine lv_aload_n hx hb dL_waterOf_0 rfl (lv_at hl 2 rfl) ?_
  refine lv_iconst (v := 0) hx hb dL_waterOf_1 (by decide) ?_
  refine lv_aload_n hx hb dL_waterOf_2 rfl (lv_at hl 0 rfl) ?_
  refine lv_iload_n hx hb dL_waterOf_3 rfl (lv_at hl 1 rfl) ?_
  refine lh_V C hw hd (c_X5_waterOf hlt (cl_s00 hd) h) cy_X5_waterOf vy_X5_waterOf nl_L_41 rfl rfl hl.1 (As := [.int a1]) rfl ⟨⟨Nat.le_of_ble_eq_true rfl, Nat.le_of_ble_eq_true rfl⟩, Nat.le_of_ble_eq_true rfl, Nat.le_of_ble_eq_true rfl, Nat.le_of_ble_eq_true rfl⟩ dL_waterOf_4 (fun q hq ce q9 H locs hw h9 hv9 hcl => ?_) (fun r M1 hq H locs hw => ?_)
  · obtain ⟨cz, hcz⟩ := ho q hq
    obtain ⟨k, M1⟩ := q
    subst hq
    have hcl : s.vm.findClass (cl_exn k) = some ce.cls := hcl
    have hw : cl_H dd b M1 s H locs := hw
    rcases (show k = 2 from by simp only [lc_waterOf, List.mem_cons, List.not_mem_nil, or_false, Prod.mk.injEq] at hcz; omega) with rfl
    · refine vx_catch C.2.2.2.1 [] { startPc := 0, endPc := 9, handlerPc := 12, catchType := 30 } [] (by rw [hT]; rfl) (fun _ h => absurd h List.not_mem_nil) rfl (by decide) (C.2.2.2.2.1 _ lk_2) (va_Nw.use rfl (hRr.2 _ lq_2)) h9 hv9 hcl ?_
      refine lv_astore_n (lv' := [(3, .ref q9), (0, .ref b), (1, .int a1), (2, .ref (b + 247))]) hx hb dL_waterOf_12 rfl hl (by decide) rfl (fun ls hl => ?_)
      refine lv_iconst (v := 1) hx hb dL_waterOf_13 (by decide) ?_
      exact cr_reti C hw dL_waterOf_14
  · subst hq
    refine lv_i2l (v := r.toInt64) hx hb dL_waterOf_7 rfl ?_
    refine cr_last C hw hd (x := r) rfl rfl dL_waterOf_8 (fun H locs hw => ?_)
    refine lv_goto (tgt := 15) hx hb dL_waterOf_9 (by decide) ?_
    refine lv_iconst (v := 0) hx hb dL_waterOf_15 (by decide) ?_
    exact cr_reti C hw dL_waterOf_16
theorem cw_L_weightOf : Cond.codeWith yL_weightOf cL_weightOf 4 (some .int) [(0, 9, 12, 30)] ∈ cl_W := cl_W_in 988 (by decide +kernel) rfl
theorem sw_L_weightOf : Cond.static yL_weightOf ∈ cl_W := cl_W_in 987 (by decide +kernel) rfl
theorem nl_L_44 : Cond.methodLink RL 44 yX5_weightOf ∈ cl_W := cl_W_in 989 (by decide +kernel) rfl
def lc_weightOf : List (Nat × Nat) := [(2, 1)]
set_option maxHeartbeats 4000000 in
set_option maxRecDepth 100000 in
theorem h_weightOf {l : Launch} {dd : cl_D} {b : Nat} (hlt : l.stackTraces = false) (hd : cl_K dd = 248) {M : cl_M} {a1 : Int32} {o : Except (Nat × cl_M) (Int32 × cl_M)} (h : f_X5_weightOf M 0 a1 = some o) (ho : lh_in lc_weightOf o) : lh_Met l dd b yL_weightOf cL_weightOf 4 [(0, 9, 12, 30)] 8 132 1 [.ref b, .int a1, .ref (b + 247)] M (lh_r lc_weightOf o) (lh_M o) := by
  refine lh_of hlt (by decide) (Nat.le_of_ble_eq_true rfl) (fun p e s m below meth c ls C hN hT hw hl => ?_)
  have hx := C.1
  have hb := C.2.1
  have hRr := C.2.2.2.2.2.2.2.2.2.1
  refine lv_aload_n hx hb dL_weightOf_0 rfl (lv_at hl 2 rfl) ?_
  refine lv_iconst (v := 0) hx hb dL_weightOf_1 (by decide) ?_
  refine lv_aload_n hx hb dL_weightOf_2 rfl (lv_at hl 0 rfl) ?_
  refine lv_iload_n hx hb dL_weightOf_3 rfl (lv_at hl 1 rfl) ?_
  refine lh_V C hw hd (c_X5_weightOf hlt (cl_s00 hd) h) cy_X5_weightOf vy_X5_weightOf nl_L_44 rfl rfl hl.1 (As := [.int a1]) rfl ⟨⟨Nat.le_of_ble_eq_true rfl, Nat.le_of_ble_eq_true rfl⟩, Nat.le_of_ble_eq_true rfl, Nat.le_of_ble_eq_true rfl, Nat.le_of_ble_eq_true rfl⟩ dL_weightOf_4 (fun q hq ce q9 H locs hw h9 hv9 hcl => ?_) (fun r M1 hq H locs hw => ?_)
  · obtain ⟨cz, hcz⟩ := ho q hq
    obtain ⟨k, M1⟩ := q
    subst hq
    have hcl : s.vm.findClass (cl_exn k) = some ce.cls := hcl
    have hw : cl_H dd b M1 s H locs := hw
    rcases (show k = 2 from by simp only [lc_weightOf, List.mem_cons, List.not_mem_nil, or_false, Prod.mk.injEq] at hcz; omega) with rfl
    · refine vx_catch C.2.2.2.1 [] { startPc := 0, endPc := 9, handlerPc := 12, catchType := 30 } [] (by rw [hT]; rfl) (fun _ h => absurd h List.not_mem_nil) rfl (by decide) (C.2.2.2.2.1 _ lk_2) (va_Nw.use rfl (hRr.2 _ lq_2)) h9 hv9 hcl ?_
      refine lv_astore_n (lv' := [(3, .ref q9), (0, .ref b), (1, .int a1), (2, .ref (b + 247))]) hx hb dL_weightOf_12 rfl hl (by decide) rfl (fun ls hl => ?_)
      refine lv_iconst (v := 1) hx hb dL_weightOf_13 (by decide) ?_
      exact cr_reti C hw dL_weightOf_14
  · subst hq
    refine lv_i2l (v := r.toInt64) hx hb dL_weightOf_7 rfl ?_
    refine cr_last C hw hd (x := r) rfl rfl dL_weightOf_8 (fun H locs hw => ?_)
    refine lv_goto (tgt := 15) hx hb dL_weightOf_9 (by decide) ?_
    refine lv_iconst (v := 0) hx hb dL_weightOf_15 (by decide) ?_
    exact cr_reti C hw dL_weightOf_16
theorem cw_L_smellOf : Cond.codeWith yL_smellOf cL_smellOf 4 (some .int) [(0, 9, 12, 30)] ∈ cl_W := cl_W_in 996 (by decide +kernel) rfl
theorem sw_L_smellOf : Cond.static yL_smellOf ∈ cl_W := cl_W_in 995 (by decide +kernel) rfl
theorem nl_L_47 : Cond.methodLink RL 47 yX5_smellOf ∈ cl_W := cl_W_in 997 (by decide +kernel) rfl
def lc_smellOf : List (Nat × Nat) := [(2, 1)]
set_option maxHeartbeats 4000000 in
set_option maxRecDepth 100000 in
theorem h_smellOf {l : Launch} {dd : cl_D} {b : Nat} (hlt : l.stackTraces = false) (hd : cl_K dd = 248) {M : cl_M} {a1 : Int32} {o : Except (Nat × cl_M) (Int32 × cl_M)} (h : f_X5_smellOf M 0 a1 = some o) (ho : lh_in lc_smellOf o) : lh_Met l dd b yL_smellOf cL_smellOf 4 [(0, 9, 12, 30)] 8 132 1 [.ref b, .int a1, .ref (b + 247)] M (lh_r lc_smellOf o) (lh_M o) := by
  refine lh_of hlt (by decide) (Nat.le_of_ble_eq_true rfl) (fun p e s m below meth c ls C hN hT hw hl => ?_)
  have hx := C.1
  have hb := C.2.1
  have hRr := C.2.2.2.2.2.2.2.2.2.1
  refine lv_aload_n hx hb dL_smellOf_0 rfl (lv_at hl 2 rfl) ?_
  refine lv_iconst (v := 0) hx hb dL_smellOf_1 (by decide) ?_
  refine lv_aload_n hx hb dL_smellOf_2 rfl (lv_at hl 0 rfl) ?_
  refine lv_iload_n hx hb dL_smellOf_3 rfl (lv_at hl 1 rfl) ?_
  refine lh_V C hw hd (c_X5_smellOf hlt (cl_s00 hd) h) cy_X5_smellOf vy_X5_smellOf nl_L_47 rfl rfl hl.1 (As := [.int a1]) rfl ⟨⟨Nat.le_of_ble_eq_true rfl, Nat.le_of_ble_eq_true rfl⟩, Nat.le_of_ble_eq_true rfl, Nat.le_of_ble_eq_true rfl, Nat.le_of_ble_eq_true rfl⟩ dL_smellOf_4 (fun q hq ce q9 H locs hw h9 hv9 hcl => ?_) (fun r M1 hq H locs hw => ?_)
  · obtain ⟨cz, hcz⟩ := ho q hq
    obtain ⟨k, M1⟩ := q
    subst hq
    have hcl : s.vm.findClass (cl_exn k) = some ce.cls := hcl
    have hw : cl_H dd b M1 s H locs := hw
    rcases (show k = 2 from by simp only [lc_smellOf, List.mem_cons, List.not_mem_nil, or_false, Prod.mk.injEq] at hcz; omega) with rfl
    · refine vx_catch C.2.2.2.1 [] { startPc := 0, endPc := 9, handlerPc := 12, catchType := 30 } [] (by rw [hT]; rfl) (fun _ h => absurd h List.not_mem_nil) rfl (by decide) (C.2.2.2.2.1 _ lk_2) (va_Nw.use rfl (hRr.2 _ lq_2)) h9 hv9 hcl ?_
      refine lv_astore_n (lv' := [(3, .ref q9), (0, .ref b), (1, .int a1), (2, .ref (b + 247))]) hx hb dL_smellOf_12 rfl hl (by decide) rfl (fun ls hl => ?_)
      refine lv_iconst (v := 1) hx hb dL_smellOf_13 (by decide) ?_
      exact cr_reti C hw dL_smellOf_14
  · subst hq
    refine lv_i2l (v := r.toInt64) hx hb dL_smellOf_7 rfl ?_
    refine cr_last C hw hd (x := r) rfl rfl dL_smellOf_8 (fun H locs hw => ?_)
    refine lv_goto (tgt := 15) hx hb dL_smellOf_9 (by decide) ?_
    refine lv_iconst (v := 0) hx hb dL_smellOf_15 (by decide) ?_
    exact cr_reti C hw dL_smellOf_16
theorem cw_L_spotOf : Cond.codeWith yL_spotOf cL_spotOf 4 (some .int) [(0, 9, 12, 30)] ∈ cl_W := cl_W_in 1003 (by decide +kernel) rfl
theorem sw_L_spotOf : Cond.static yL_spotOf ∈ cl_W := cl_W_in 1002 (by decide +kernel) rfl
theorem nl_L_50 : Cond.methodLink RL 50 yX5_spotOf ∈ cl_W := cl_W_in 1004 (by decide +kernel) rfl
def lc_spotOf : List (Nat × Nat) := [(2, 1)]
set_option maxHeartbeats 4000000 in
set_option maxRecDepth 100000 in
theorem h_spotOf {l : Launch} {dd : cl_D} {b : Nat} (hlt : l.stackTraces = false) (hd : cl_K dd = 248) {M : cl_M} {a1 : Int32} {o : Except (Nat × cl_M) (Int32 × cl_M)} (h : f_X5_spotOf M 0 a1 = some o) (ho : lh_in lc_spotOf o) : lh_Met l dd b yL_spotOf cL_spotOf 4 [(0, 9, 12, 30)] 8 132 1 [.ref b, .int a1, .ref (b + 247)] M (lh_r lc_spotOf o) (lh_M o) := by
  refine lh_of hlt (by decide) (Nat.le_of_ble_eq_true rfl) (fun p e s m below meth c ls C hN hT hw hl => ?_)
  have hx := C.1
  have hb := C.2.1
  have hRr := C.2.2.2.2.2.2.2.2.2.1
  refine lv_aload_n hx hb dL_spotOf_0 rfl (lv_at hl 2 rfl) ?_
  refine lv_iconst (v := 0) hx hb dL_spotOf_1 (by decide) ?_
  refine lv_aload_n hx hb dL_spotOf_2 rfl (lv_at hl 0 rfl) ?_
  refine lv_iload_n hx hb dL_spotOf_3 rfl (lv_at hl 1 rfl) ?_
  refine lh_V C hw hd (c_X5_spotOf hlt (cl_s00 hd) h) cy_X5_spotOf vy_X5_spotOf nl_L_50 rfl rfl hl.1 (As := [.int a1]) rfl ⟨⟨Nat.le_of_ble_eq_true rfl, Nat.le_of_ble_eq_true rfl⟩, Nat.le_of_ble_eq_true rfl, Nat.le_of_ble_eq_true rfl, Nat.le_of_ble_eq_true rfl⟩ dL_spotOf_4 (fun q hq ce q9 H locs hw h9 hv9 hcl => ?_) (fun r M1 hq H locs hw => ?_)
  · obtain ⟨cz, hcz⟩ := ho q hq
    obtain ⟨k, M1⟩ := q
    subst hq
    have hcl : s.vm.findClass (cl_exn k) = some ce.cls := hcl
    have hw : cl_H dd b M1 s H locs := hw
    rcases (show k = 2 from by simp only [lc_spotOf, List.mem_cons, List.not_mem_nil, or_false, Prod.mk.injEq] at hcz; omega) with rfl
    · refine vx_catch C.2.2.2.1 [] { startPc := 0, endPc := 9, handlerPc := 12, catchType := 30 } [] (by rw [hT]; rfl) (fun _ h => absurd h List.not_mem_nil) rfl (by decide) (C.2.2.2.2.1 _ lk_2) (va_Nw.use rfl (hRr.2 _ lq_2)) h9 hv9 hcl ?_
      refine lv_astore_n (lv' := [(3, .ref q9), (0, .ref b), (1, .int a1), (2, .ref (b + 247))]) hx hb dL_spotOf_12 rfl hl (by decide) rfl (fun ls hl => ?_)
      refine lv_iconst (v := 1) hx hb dL_spotOf_13 (by decide) ?_
      exact cr_reti C hw dL_spotOf_14
  · subst hq
    refine lv_i2l (v := r.toInt64) hx hb dL_spotOf_7 rfl ?_
    refine cr_last C hw hd (x := r) rfl rfl dL_spotOf_8 (fun H locs hw => ?_)
    refine lv_goto (tgt := 15) hx hb dL_spotOf_9 (by decide) ?_
    refine lv_iconst (v := 0) hx hb dL_spotOf_15 (by decide) ?_
    exact cr_reti C hw dL_spotOf_16
theorem cw_L_woodenOf : Cond.codeWith yL_woodenOf cL_woodenOf 4 (some .int) [(0, 9, 12, 30)] ∈ cl_W := cl_W_in 1010 (by decide +kernel) rfl
theorem sw_L_woodenOf : Cond.static yL_woodenOf ∈ cl_W := cl_W_in 1009 (by decide +kernel) rfl
theorem nl_L_53 : Cond.methodLink RL 53 yX5_woodenOf ∈ cl_W := cl_W_in 1011 (by decide +kernel) rfl
def lc_woodenOf : List (Nat × Nat) := [(2, 1)]
set_option maxHeartbeats 4000000 in
set_option maxRecDepth 100000 in
theorem h_woodenOf {l : Launch} {dd : cl_D} {b : Nat} (hlt : l.stackTraces = false) (hd : cl_K dd = 248) {M : cl_M} {a1 : Int32} {o : Except (Nat × cl_M) (Int32 × cl_M)} (h : f_X5_woodenOf M 0 a1 = some o) (ho : lh_in lc_woodenOf o) : lh_Met l dd b yL_woodenOf cL_woodenOf 4 [(0, 9, 12, 30)] 8 132 1 [.ref b, .int a1, .ref (b + 247)] M (lh_r lc_woodenOf o) (lh_M o) := by
  refine lh_of hlt (by decide) (Nat.le_of_ble_eq_true rfl) (fun p e s m below meth c ls C hN hT hw hl => ?_)
  have hx := C.1
  have hb := C.2.1
  have hRr := C.2.2.2.2.2.2.2.2.2.1
  refine lv_aload_n hx hb dL_woodenOf_0 rfl (lv_at hl 2 rfl) ?_
  refine lv_iconst (v := 0) hx hb dL_woodenOf_1 (by decide) ?_
  refine lv_aload_n hx hb dL_woodenOf_2 rfl (lv_at hl 0 rfl) ?_
  refine lv_iload_n hx hb dL_woodenOf_3 rfl (lv_at hl 1 rfl) ?_
  refine lh_V C hw hd (c_X5_woodenOf hlt (cl_s00 hd) h) cy_X5_woodenOf vy_X5_woodenOf nl_L_53 rfl rfl hl.1 (As := [.int a1]) rfl ⟨⟨Nat.le_of_ble_eq_true rfl, Nat.le_of_ble_eq_true rfl⟩, Nat.le_of_ble_eq_true rfl, Nat.le_of_ble_eq_true rfl, Nat.le_of_ble_eq_true rfl⟩ dL_woodenOf_4 (fun q hq ce q9 H locs hw h9 hv9 hcl => ?_) (fun r M1 hq H locs hw => ?_)
  · obtain ⟨cz, hcz⟩ := ho q hq
    obtain ⟨k, M1⟩ := q
    subst hq
    have hcl : s.vm.findClass (cl_exn k) = some ce.cls := hcl
    have hw : cl_H dd b M1 s H locs := hw
    rcases (show k = 2 from by simp only [lc_woodenOf, List.mem_cons, List.not_mem_nil, or_false, Prod.mk.injEq] at hcz; omega) with rfl
    · refine vx_catch C.2.2.2.1 [] { startPc := 0, endPc := 9, handlerPc := 12, catchType := 30 } [] (by rw [hT]; rfl) (fun _ h => absurd h List.not_mem_nil) rfl (by decide) (C.2.2.2.2.1 _ lk_2) (va_Nw.use rfl (hRr.2 _ lq_2)) h9 hv9 hcl ?_
      refine lv_astore_n (lv' := [(3, .ref q9), (0, .ref b), (1, .int a1), (2, .ref (b + 247))]) hx hb dL_woodenOf_12 rfl hl (by decide) rfl (fun ls hl => ?_)
      refine lv_iconst (v := 1) hx hb dL_woodenOf_13 (by decide) ?_
      exact cr_reti C hw dL_woodenOf_14
  · subst hq
    refine lv_i2l (v := r.toInt64) hx hb dL_woodenOf_7 rfl ?_
    refine cr_last C hw hd (x := r) rfl rfl dL_woodenOf_8 (fun H locs hw => ?_)
    refine lv_goto (tgt := 15) hx hb dL_woodenOf_9 (by decide) ?_
    refine lv_iconst (v := 0) hx hb dL_woodenOf_15 (by decide) ?_
    exact cr_reti C hw dL_woodenOf_16
theorem cw_L_steelOf : Cond.codeWith yL_steelOf cL_steelOf 4 (some .int) [(0, 9, 12, 30)] ∈ cl_W := cl_W_in 1017 (by decide +kernel) rfl
theorem sw_L_steelOf : Cond.static yL_steelOf ∈ cl_W := cl_W_in 1016 (by decide +kernel) rfl
theorem nl_L_56 : Cond.methodLink RL 56 yX5_steelOf ∈ cl_W := cl_W_in 1018 (by decide +kernel) rfl
def lc_steelOf : List (Nat × Nat) := [(2, 1)]
set_option maxHeartbeats 4000000 in
set_option maxRecDepth 100000 in
theorem h_steelOf {l : Launch} {dd : cl_D} {b : Nat} (hlt : l.stackTraces = false) (hd : cl_K dd = 248) {M : cl_M} {a1 : Int32} {o : Except (Nat × cl_M) (Int32 × cl_M)} (h : f_X5_steelOf M 0 a1 = some o) (ho : lh_in lc_steelOf o) : lh_Met l dd b yL_steelOf cL_steelOf 4 [(0, 9, 12, 30)] 8 132 1 [.ref b, .int a1, .ref (b + 247)] M (lh_r lc_steelOf o) (lh_M o) := by
  refine lh_of hlt (by decide) (Nat.le_of_ble_eq_true rfl) (fun p e s m below meth c ls C hN hT hw hl => ?_)
  have hx := C.1
  have hb := C.2.1
  have hRr := C.2.2.2.2.2.2.2.2.2.1
  refine lv_aload_n hx hb dL_steelOf_0 rfl (lv_at hl 2 rfl) ?_
  refine lv_iconst (v := 0) hx hb dL_steelOf_1 (by decide) ?_
  refine lv_aload_n hx hb dL_steelOf_2 rfl (lv_at hl 0 rfl) ?_
  refine lv_iload_n hx hb dL_steelOf_3 rfl (lv_at hl 1 rfl) ?_
  refine lh_V C hw hd (c_X5_steelOf hlt (cl_s00 hd) h) cy_X5_steelOf vy_X5_steelOf nl_L_56 rfl rfl hl.1 (As := [.int a1]) rfl ⟨⟨Nat.le_of_ble_eq_true rfl, Nat.le_of_ble_eq_true rfl⟩, Nat.le_of_ble_eq_true rfl, Nat.le_of_ble_eq_true rfl, Nat.le_of_ble_eq_true rfl⟩ dL_steelOf_4 (fun q hq ce q9 H locs hw h9 hv9 hcl => ?_) (fun r M1 hq H locs hw => ?_)
  · obtain ⟨cz, hcz⟩ := ho q hq
    obtain ⟨k, M1⟩ := q
    subst hq
    have hcl : s.vm.findClass (cl_exn k) = some ce.cls := hcl
    have hw : cl_H dd b M1 s H locs := hw
    rcases (show k = 2 from by simp only [lc_steelOf, List.mem_cons, List.not_mem_nil, or_false, Prod.mk.injEq] at hcz; omega) with rfl
    · refine vx_catch C.2.2.2.1 [] { startPc := 0, endPc := 9, handlerPc := 12, catchType := 30 } [] (by rw [hT]; rfl) (fun _ h => absurd h List.not_mem_nil) rfl (by decide) (C.2.2.2.2.1 _ lk_2) (va_Nw.use rfl (hRr.2 _ lq_2)) h9 hv9 hcl ?_
      refine lv_astore_n (lv' := [(3, .ref q9), (0, .ref b), (1, .int a1), (2, .ref (b + 247))]) hx hb dL_steelOf_12 rfl hl (by decide) rfl (fun ls hl => ?_)
      refine lv_iconst (v := 1) hx hb dL_steelOf_13 (by decide) ?_
      exact cr_reti C hw dL_steelOf_14
  · subst hq
    refine lv_i2l (v := r.toInt64) hx hb dL_steelOf_7 rfl ?_
    refine cr_last C hw hd (x := r) rfl rfl dL_steelOf_8 (fun H locs hw => ?_)
    refine lv_goto (tgt := 15) hx hb dL_steelOf_9 (by decide) ?_
    refine lv_iconst (v := 0) hx hb dL_steelOf_15 (by decide) ?_
    exact cr_reti C hw dL_steelOf_16
theorem cw_L_holdOf : Cond.codeWith yL_holdOf cL_holdOf 4 (some .int) [(0, 9, 12, 30)] ∈ cl_W := cl_W_in 1024 (by decide +kernel) rfl
theorem sw_L_holdOf : Cond.static yL_holdOf ∈ cl_W := cl_W_in 1023 (by decide +kernel) rfl
theorem nl_L_59 : Cond.methodLink RL 59 yX5_holdOf ∈ cl_W := cl_W_in 1025 (by decide +kernel) rfl
def lc_holdOf : List (Nat × Nat) := [(2, 1)]
set_option maxHeartbeats 4000000 in
set_option maxRecDepth 100000 in
theorem h_holdOf {l : Launch} {dd : cl_D} {b : Nat} (hlt : l.stackTraces = false) (hd : cl_K dd = 248) {M : cl_M} {a1 : Int32} {o : Except (Nat × cl_M) (Int32 × cl_M)} (h : f_X5_holdOf M 0 a1 = some o) (ho : lh_in lc_holdOf o) : lh_Met l dd b yL_holdOf cL_holdOf 4 [(0, 9, 12, 30)] 8 132 1 [.ref b, .int a1, .ref (b + 247)] M (lh_r lc_holdOf o) (lh_M o) := by
  refine lh_of hlt (by decide) (Nat.le_of_ble_eq_true rfl) (fun p e s m below meth c ls C hN hT hw hl => ?_)
  have hx := C.1
  have hb := C.2.1
  have hRr := C.2.2.2.2.2.2.2.2.2.1
  refine lv_aload_n hx hb dL_holdOf_0 rfl (lv_at hl 2 rfl) ?_
  refine lv_iconst (v := 0) hx hb dL_holdOf_1 (by decide) ?_
  refine lv_aload_n hx hb dL_holdOf_2 rfl (lv_at hl 0 rfl) ?_
  refine lv_iload_n hx hb dL_holdOf_3 rfl (lv_at hl 1 rfl) ?_
  refine lh_V C hw hd (c_X5_holdOf hlt (cl_s00 hd) h) cy_X5_holdOf vy_X5_holdOf nl_L_59 rfl rfl hl.1 (As := [.int a1]) rfl ⟨⟨Nat.le_of_ble_eq_true rfl, Nat.le_of_ble_eq_true rfl⟩, Nat.le_of_ble_eq_true rfl, Nat.le_of_ble_eq_true rfl, Nat.le_of_ble_eq_true rfl⟩ dL_holdOf_4 (fun q hq ce q9 H locs hw h9 hv9 hcl => ?_) (fun r M1 hq H locs hw => ?_)
  · obtain ⟨cz, hcz⟩ := ho q hq
    obtain ⟨k, M1⟩ := q
    subst hq
    have hcl : s.vm.findClass (cl_exn k) = some ce.cls := hcl
    have hw : cl_H dd b M1 s H locs := hw
    rcases (show k = 2 from by simp only [lc_holdOf, List.mem_cons, List.not_mem_nil, or_false, Prod.mk.injEq] at hcz; omega) with rfl
    · refine vx_catch C.2.2.2.1 [] { startPc := 0, endPc := 9, handlerPc := 12, catchType := 30 } [] (by rw [hT]; rfl) (fun _ h => absurd h List.not_mem_nil) rfl (by decide) (C.2.2.2.2.1 _ lk_2) (va_Nw.use rfl (hRr.2 _ lq_2)) h9 hv9 hcl ?_
      refine lv_astore_n (lv' := [(3, .ref q9), (0, .ref b), (1, .int a1), (2, .ref (b + 247))]) hx hb dL_holdOf_12 rfl hl (by decide) rfl (fun ls hl => ?_)
      refine lv_iconst (v := 1) hx hb dL_holdOf_13 (by decide) ?_
      exact cr_reti C hw dL_holdOf_14
  · subst hq
    refine lv_i2l (v := r.toInt64) hx hb dL_holdOf_7 rfl ?_
    refine cr_last C hw hd (x := r) rfl rfl dL_holdOf_8 (fun H locs hw => ?_)
    refine lv_goto (tgt := 15) hx hb dL_holdOf_9 (by decide) ?_
    refine lv_iconst (v := 0) hx hb dL_holdOf_15 (by decide) ?_
    exact cr_reti C hw dL_holdOf_16
theorem cw_L_fallsOf : Cond.codeWith yL_fallsOf cL_fallsOf 4 (some .int) [(0, 9, 12, 30)] ∈ cl_W := cl_W_in 1032 (by decide +kernel) rfl
theorem sw_L_fallsOf : Cond.static yL_fallsOf ∈ cl_W := cl_W_in 1031 (by decide +kernel) rfl
theorem nl_L_62 : Cond.methodLink RL 62 yX5_fallsOf ∈ cl_W := cl_W_in 1033 (by decide +kernel) rfl
def lc_fallsOf : List (Nat × Nat) := [(2, 1)]
set_option maxHeartbeats 4000000 in
set_option maxRecDepth 100000 in
theorem h_fallsOf {l : Launch} {dd : cl_D} {b : Nat} (hlt : l.stackTraces = false) (hd : cl_K dd = 248) {M : cl_M} {a1 : Int32} {o : Except (Nat × cl_M) (Int32 × cl_M)} (h : f_X5_fallsOf M 0 a1 = some o) (ho : lh_in lc_fallsOf o) : lh_Met l dd b yL_fallsOf cL_fallsOf 4 [(0, 9, 12, 30)] 8 132 1 [.ref b, .int a1, .ref (b + 247)] M (lh_r lc_fallsOf o) (lh_M o) := by
  refine lh_of hlt (by decide) (Nat.le_of_ble_eq_true rfl) (fun p e s m below meth c ls C hN hT hw hl => ?_)
  have hx := C.1
  have hb := C.2.1
  have hRr := C.2.2.2.2.2.2.2.2.2.1
  refine lv_aload_n hx hb dL_fallsOf_0 rfl (lv_at hl 2 rfl) ?_
  refine lv_iconst (v := 0) hx hb dL_fallsOf_1 (by decide) ?_
  refine lv_aload_n hx hb dL_fallsOf_2 rfl (lv_at hl 0 rfl) ?_
  refine lv_iload_n hx hb dL_fallsOf_3 rfl (lv_at hl 1 rfl) ?_
  refine lh_V C hw hd (c_X5_fallsOf hlt (cl_s00 hd) h) cy_X5_fallsOf vy_X5_fallsOf nl_L_62 rfl rfl hl.1 (As := [.int a1]) rfl ⟨⟨Nat.le_of_ble_eq_true rfl, Nat.le_of_ble_eq_true rfl⟩, Nat.le_of_ble_eq_true rfl, Nat.le_of_ble_eq_true rfl, Nat.le_of_ble_eq_true rfl⟩ dL_fallsOf_4 (fun q hq ce q9 H locs hw h9 hv9 hcl => ?_) (fun r M1 hq H locs hw => ?_)
  · obtain ⟨cz, hcz⟩ := ho q hq
    obtain ⟨k, M1⟩ := q
    subst hq
    have hcl : s.vm.findClass (cl_exn k) = some ce.cls := hcl
    have hw : cl_H dd b M1 s H locs := hw
    rcases (show k = 2 from by simp only [lc_fallsOf, List.mem_cons, List.not_mem_nil, or_false, Prod.mk.injEq] at hcz; omega) with rfl
    · refine vx_catch C.2.2.2.1 [] { startPc := 0, endPc := 9, handlerPc := 12, catchType := 30 } [] (by rw [hT]; rfl) (fun _ h => absurd h List.not_mem_nil) rfl (by decide) (C.2.2.2.2.1 _ lk_2) (va_Nw.use rfl (hRr.2 _ lq_2)) h9 hv9 hcl ?_
      refine lv_astore_n (lv' := [(3, .ref q9), (0, .ref b), (1, .int a1), (2, .ref (b + 247))]) hx hb dL_fallsOf_12 rfl hl (by decide) rfl (fun ls hl => ?_)
      refine lv_iconst (v := 1) hx hb dL_fallsOf_13 (by decide) ?_
      exact cr_reti C hw dL_fallsOf_14
  · subst hq
    refine lv_i2l (v := r.toInt64) hx hb dL_fallsOf_7 rfl ?_
    refine cr_last C hw hd (x := r) rfl rfl dL_fallsOf_8 (fun H locs hw => ?_)
    refine lv_goto (tgt := 15) hx hb dL_fallsOf_9 (by decide) ?_
    refine lv_iconst (v := 0) hx hb dL_fallsOf_15 (by decide) ?_
    exact cr_reti C hw dL_fallsOf_16
theorem cw_L_isDirty : Cond.codeWith yL_isDirty cL_isDirty 4 (some .int) [(0, 16, 19, 30)] ∈ cl_W := cl_W_in 1039 (by decide +kernel) rfl
theorem sw_L_isDirty : Cond.static yL_isDirty ∈ cl_W := cl_W_in 1038 (by decide +kernel) rfl
theorem nl_L_65 : Cond.methodLink RL 65 yX5_isDirty ∈ cl_W := cl_W_in 1040 (by decide +kernel) rfl
def lc_isDirty : List (Nat × Nat) := [(2, 1)]
set_option maxHeartbeats 4000000 in
set_option maxRecDepth 100000 in
theorem h_isDirty {l : Launch} {dd : cl_D} {b : Nat} (hlt : l.stackTraces = false) (hd : cl_K dd = 248) {M : cl_M} {a1 : Int32} {o : Except (Nat × cl_M) (Int32 × cl_M)} (h : f_X5_isDirty M 0 a1 = some o) (ho : lh_in lc_isDirty o) (hz : ∀ q, o = .ok q → q.1 = 0 ∨ q.1 = 1) : lh_Met l dd b yL_isDirty cL_isDirty 4 [(0, 16, 19, 30)] 8 132 1 [.ref b, .int a1, .ref (b + 247)] M (lh_r lc_isDirty o) (lh_M o) := by
  refine lh_of hlt (by decide) (Nat.le_of_ble_eq_true rfl) (fun p e s m below meth c ls C hN hT hw hl => ?_)
  have hx := C.1
  have hb := C.2.1
  have hRr := C.2.2.2.2.2.2.2.2.2.1
  refine lv_aload_n hx hb dL_isDirty_0 rfl (lv_at hl 2 rfl) ?_
  refine lv_iconst (v := 0) hx hb dL_isDirty_1 (by decide) ?_
  refine lv_aload_n hx hb dL_isDirty_2 rfl (lv_at hl 0 rfl) ?_
  refine lv_iload_n hx hb dL_isDirty_3 rfl (lv_at hl 1 rfl) ?_
  refine lh_V C hw hd (c_X5_isDirty hlt (cl_s00 hd) h) cy_X5_isDirty vy_X5_isDirty nl_L_65 rfl rfl hl.1 (As := [.int a1]) rfl ⟨⟨Nat.le_of_ble_eq_true rfl, Nat.le_of_ble_eq_true rfl⟩, Nat.le_of_ble_eq_true rfl, Nat.le_of_ble_eq_true rfl, Nat.le_of_ble_eq_true rfl⟩ dL_isDirty_4 (fun q hq ce q9 H locs hw h9 hv9 hcl => ?_) (fun r M1 hq H locs hw => ?_)
  · obtain ⟨cz, hcz⟩ := ho q hq
    obtain ⟨k, M1⟩ := q
    subst hq
    have hcl : s.vm.findClass (cl_exn k) = some ce.cls := hcl
    have hw : cl_H dd b M1 s H locs := hw
    rcases (show k = 2 from by simp only [lc_isDirty, List.mem_cons, List.not_mem_nil, or_false, Prod.mk.injEq] at hcz; omega) with rfl
    · refine vx_catch C.2.2.2.1 [] { startPc := 0, endPc := 16, handlerPc := 19, catchType := 30 } [] (by rw [hT]; rfl) (fun _ h => absurd h List.not_mem_nil) rfl (by decide) (C.2.2.2.2.1 _ lk_2) (va_Nw.use rfl (hRr.2 _ lq_2)) h9 hv9 hcl ?_
      refine lv_astore_n (lv' := [(3, .ref q9), (0, .ref b), (1, .int a1), (2, .ref (b + 247))]) hx hb dL_isDirty_19 rfl hl (by decide) rfl (fun ls hl => ?_)
      refine lv_iconst (v := 1) hx hb dL_isDirty_20 (by decide) ?_
      exact cr_reti C hw dL_isDirty_21
  · subst hq
    have fin : ∀ (v : Int64), v = r.toInt64 → W p l e { frames := 8, cells := 1, slots := 6 * 1, locals := 132 } s m [.ref b, .int a1, .ref (b + 247)].toArray below meth c H locs (0 + 1) (0 + 6 * 1) (MQ below (va_Qi (fun x (_ : Unit) => x = lh_r lc_isDirty (.ok (r, M1))) (fun _ t => cl_J dd b (lh_M (.ok (r, M1))) t) (cl_A b)) [.ref b, .int a1, .ref (b + 247)].toArray s 1 (6 * 1) (cl_A b)) (F0 m 15 ls [.long v, .int 0, .ref (b + 247)]) := fun v hv => by
      refine cr_last C hw hd (x := r) hv rfl dL_isDirty_15 (fun H locs hw => ?_)
      refine lv_goto (tgt := 22) hx hb dL_isDirty_16 (by decide) ?_
      refine lv_iconst (v := 0) hx hb dL_isDirty_22 (by decide) ?_
      exact cr_reti C hw dL_isDirty_23
    refine lv_if_eq (tgt := 14) hx hb dL_isDirty_7 (by decide) (fun c1 => ?_) (fun c1 => ?_)
    · refine lv_lconst (v := 0) hx hb dL_isDirty_14 rfl ?_
      exact fin 0 (by rw [c1]; rfl)
    · refine lv_lconst (v := 1) hx hb dL_isDirty_10 rfl ?_
      refine lv_goto (tgt := 15) hx hb dL_isDirty_11 (by decide) ?_
      exact fin 1 (by rw [show r = 1 from (hz (r, M1) rfl).resolve_left c1]; rfl)
theorem cw_L_garmentsIn : Cond.codeWith yL_garmentsIn cL_garmentsIn 4 (some .int) [(0, 9, 12, 13)] ∈ cl_W := cl_W_in 1046 (by decide +kernel) rfl
theorem sw_L_garmentsIn : Cond.static yL_garmentsIn ∈ cl_W := cl_W_in 1045 (by decide +kernel) rfl
theorem nl_L_69 : Cond.methodLink RL 69 yX5_garmentsIn ∈ cl_W := cl_W_in 1047 (by decide +kernel) rfl
def lc_garmentsIn : List (Nat × Nat) := [(1, 1)]
set_option maxHeartbeats 4000000 in
set_option maxRecDepth 100000 in
theorem h_garmentsIn {l : Launch} {dd : cl_D} {b : Nat} (hlt : l.stackTraces = false) (hd : cl_K dd = 248) {M : cl_M} {a1 : Int32} {o : Except (Nat × cl_M) (Int32 × cl_M)} (h : f_X5_garmentsIn M 0 a1 = some o) (ho : lh_in lc_garmentsIn o) : lh_Met l dd b yL_garmentsIn cL_garmentsIn 4 [(0, 9, 12, 13)] 8 133 1 [.ref b, .int a1, .ref (b + 247)] M (lh_r lc_garmentsIn o) (lh_M o) := by
  refine lh_of hlt (by decide) (Nat.le_of_ble_eq_true rfl) (fun p e s m below meth c ls C hN hT hw hl => ?_)
  have hx := C.1
  have hb := C.2.1
  have hRr := C.2.2.2.2.2.2.2.2.2.1
  refine lv_aload_n hx hb dL_garmentsIn_0 rfl (lv_at hl 2 rfl) ?_
  refine lv_iconst (v := 0) hx hb dL_garmentsIn_1 (by decide) ?_
  refine lv_aload_n hx hb dL_garmentsIn_2 rfl (lv_at hl 0 rfl) ?_
  refine lv_iload_n hx hb dL_garmentsIn_3 rfl (lv_at hl 1 rfl) ?_
  refine lh_V C hw hd (c_X5_garmentsIn hlt (cl_s00 hd) h) cy_X5_garmentsIn vy_X5_garmentsIn nl_L_69 rfl rfl hl.1 (As := [.int a1]) rfl ⟨⟨Nat.le_of_ble_eq_true rfl, Nat.le_of_ble_eq_true rfl⟩, Nat.le_of_ble_eq_true rfl, Nat.le_of_ble_eq_true rfl, Nat.le_of_ble_eq_true rfl⟩ dL_garmentsIn_4 (fun q hq ce q9 H locs hw h9 hv9 hcl => ?_) (fun r M1 hq H locs hw => ?_)
  · obtain ⟨cz, hcz⟩ := ho q hq
    obtain ⟨k, M1⟩ := q
    subst hq
    have hcl : s.vm.findClass (cl_exn k) = some ce.cls := hcl
    have hw : cl_H dd b M1 s H locs := hw
    rcases (show k = 1 from by simp only [lc_garmentsIn, List.mem_cons, List.not_mem_nil, or_false, Prod.mk.injEq] at hcz; omega) with rfl
    · refine vx_catch C.2.2.2.1 [] { startPc := 0, endPc := 9, handlerPc := 12, catchType := 13 } [] (by rw [hT]; rfl) (fun _ h => absurd h List.not_mem_nil) rfl (by decide) (C.2.2.2.2.1 _ lk_1) (va_Nw.use rfl (hRr.2 _ lq_1)) h9 hv9 hcl ?_
      refine lv_astore_n (lv' := [(3, .ref q9), (0, .ref b), (1, .int a1), (2, .ref (b + 247))]) hx hb dL_garmentsIn_12 rfl hl (by decide) rfl (fun ls hl => ?_)
      refine lv_iconst (v := 1) hx hb dL_garmentsIn_13 (by decide) ?_
      exact cr_reti C hw dL_garmentsIn_14
  · subst hq
    refine lv_i2l (v := r.toInt64) hx hb dL_garmentsIn_7 rfl ?_
    refine cr_last C hw hd (x := r) rfl rfl dL_garmentsIn_8 (fun H locs hw => ?_)
    refine lv_goto (tgt := 15) hx hb dL_garmentsIn_9 (by decide) ?_
    refine lv_iconst (v := 0) hx hb dL_garmentsIn_15 (by decide) ?_
    exact cr_reti C hw dL_garmentsIn_16
theorem cw_L_hangObstacle : Cond.codeWith yL_hangObstacle cL_hangObstacle 7 (some .int) [(0, 14, 17, 30), (0, 14, 21, 13)] ∈ cl_W := cl_W_in 1053 (by decide +kernel) rfl
theorem sw_L_hangObstacle : Cond.static yL_hangObstacle ∈ cl_W := cl_W_in 1052 (by decide +kernel) rfl
theorem nl_L_72 : Cond.methodLink RL 72 yX5_hangObstacle ∈ cl_W := cl_W_in 1054 (by decide +kernel) rfl
def lc_hangObstacle : List (Nat × Nat) := [(2, 1), (1, 2)]
set_option maxHeartbeats 4000000 in
set_option maxRecDepth 100000 in
theorem h_hangObstacle {l : Launch} {dd : cl_D} {b : Nat} (hlt : l.stackTraces = false) (hd : cl_K dd = 248) {M : cl_M} {a1 : Int32} {a2 : Int32} {a3 : Int32} {a4 : Int32} {o : Except (Nat × cl_M) (Int32 × cl_M)} (h : f_X5_hangObstacle M 0 a1 a2 a3 a4 = some o) (ho : lh_in lc_hangObstacle o) : lh_Met l dd b yL_hangObstacle cL_hangObstacle 7 [(0, 14, 17, 30), (0, 14, 21, 13)] 8 137 4 [.ref b, .int a1, .int a2, .int a3, .int a4, .ref (b + 247)] M (lh_r lc_hangObstacle o) (lh_M o) := by
  refine lh_of hlt (by decide) (Nat.le_of_ble_eq_true rfl) (fun p e s m below meth c ls C hN hT hw hl => ?_)
  have hx := C.1
  have hb := C.2.1
  have hRr := C.2.2.2.2.2.2.2.2.2.1
  refine lv_aload hx hb dL_hangObstacle_0 (lv_at hl 5 rfl) ?_
  refine lv_iconst (v := 0) hx hb dL_hangObstacle_2 (by decide) ?_
  refine lv_aload_n hx hb dL_hangObstacle_3 rfl (lv_at hl 0 rfl) ?_
  refine lv_iload_n hx hb dL_hangObstacle_4 rfl (lv_at hl 1 rfl) ?_
  refine lv_iload_n hx hb dL_hangObstacle_5 rfl (lv_at hl 2 rfl) ?_
  refine lv_iload_n hx hb dL_hangObstacle_6 rfl (lv_at hl 3 rfl) ?_
  refine lv_iload hx hb dL_hangObstacle_7 (lv_at hl 4 rfl) ?_
  refine lh_V C hw hd (c_X5_hangObstacle hlt (cl_s00 hd) h) cy_X5_hangObstacle vy_X5_hangObstacle nl_L_72 rfl rfl hl.1 (As := [.int a1, .int a2, .int a3, .int a4]) rfl ⟨⟨Nat.le_of_ble_eq_true rfl, Nat.le_of_ble_eq_true rfl⟩, Nat.le_of_ble_eq_true rfl, Nat.le_of_ble_eq_true rfl, Nat.le_of_ble_eq_true rfl⟩ dL_hangObstacle_9 (fun q hq ce q9 H locs hw h9 hv9 hcl => ?_) (fun r M1 hq H locs hw => ?_)
  · obtain ⟨cz, hcz⟩ := ho q hq
    obtain ⟨k, M1⟩ := q
    subst hq
    have hcl : s.vm.findClass (cl_exn k) = some ce.cls := hcl
    have hw : cl_H dd b M1 s H locs := hw
    rcases (show k = 2 ∨ k = 1 from by simp only [lc_hangObstacle, List.mem_cons, List.not_mem_nil, or_false, Prod.mk.injEq] at hcz; omega) with rfl | rfl
    · refine vx_catch C.2.2.2.1 [] { startPc := 0, endPc := 14, handlerPc := 17, catchType := 30 } [{ startPc := 0, endPc := 14, handlerPc := 21, catchType := 13 }] (by rw [hT]; rfl) (fun _ h => absurd h List.not_mem_nil) rfl (by decide) (C.2.2.2.2.1 _ lk_2) (va_Nw.use rfl (hRr.2 _ lq_2)) h9 hv9 hcl ?_
      refine lv_astore (lv' := [(6, .ref q9), (0, .ref b), (1, .int a1), (2, .int a2), (3, .int a3), (4, .int a4), (5, .ref (b + 247))]) hx hb dL_hangObstacle_17 hl (by decide) rfl (fun ls hl => ?_)
      refine lv_iconst (v := 1) hx hb dL_hangObstacle_19 (by decide) ?_
      exact cr_reti C hw dL_hangObstacle_20
    · refine vx_catch C.2.2.2.1 [{ startPc := 0, endPc := 14, handlerPc := 17, catchType := 30 }] { startPc := 0, endPc := 14, handlerPc := 21, catchType := 13 } [] (by rw [hT]; rfl) (List.forall_mem_cons.mpr ⟨Or.inr ⟨by decide, _, C.2.2.2.2.1 _ lk_2, hN 1 2 (by decide) (by decide) (by decide) (by decide) (by decide)⟩, fun _ h => absurd h List.not_mem_nil⟩) rfl (by decide) (C.2.2.2.2.1 _ lk_1) (va_Nw.use rfl (hRr.2 _ lq_1)) h9 hv9 hcl ?_
      refine lv_astore (lv' := [(6, .ref q9), (0, .ref b), (1, .int a1), (2, .int a2), (3, .int a3), (4, .int a4), (5, .ref (b + 247))]) hx hb dL_hangObstacle_21 hl (by decide) rfl (fun ls hl => ?_)
      refine lv_iconst (v := 2) hx hb dL_hangObstacle_23 (by decide) ?_
      exact cr_reti C hw dL_hangObstacle_24
  · subst hq
    refine lv_i2l (v := r.toInt64) hx hb dL_hangObstacle_12 rfl ?_
    refine cr_last C hw hd (x := r) rfl rfl dL_hangObstacle_13 (fun H locs hw => ?_)
    refine lv_goto (tgt := 25) hx hb dL_hangObstacle_14 (by decide) ?_
    refine lv_iconst (v := 0) hx hb dL_hangObstacle_25 (by decide) ?_
    exact cr_reti C hw dL_hangObstacle_26
theorem cw_L_fewestPegs : Cond.codeWith yL_fewestPegs cL_fewestPegs 4 (some .int) [(0, 9, 12, 30)] ∈ cl_W := cl_W_in 1061 (by decide +kernel) rfl
theorem sw_L_fewestPegs : Cond.static yL_fewestPegs ∈ cl_W := cl_W_in 1060 (by decide +kernel) rfl
theorem nl_L_76 : Cond.methodLink RL 76 yX5_fewestPegs ∈ cl_W := cl_W_in 1062 (by decide +kernel) rfl
def lc_fewestPegs : List (Nat × Nat) := [(2, 1)]
set_option maxHeartbeats 4000000 in
set_option maxRecDepth 100000 in
theorem h_fewestPegs {l : Launch} {dd : cl_D} {b : Nat} (hlt : l.stackTraces = false) (hd : cl_K dd = 248) {M : cl_M} {a1 : Int32} {o : Except (Nat × cl_M) (Int32 × cl_M)} (h : f_X5_fewestPegs M 0 a1 = some o) (ho : lh_in lc_fewestPegs o) : lh_Met l dd b yL_fewestPegs cL_fewestPegs 4 [(0, 9, 12, 30)] 8 138 1 [.ref b, .int a1, .ref (b + 247)] M (lh_r lc_fewestPegs o) (lh_M o) := by
  refine lh_of hlt (by decide) (Nat.le_of_ble_eq_true rfl) (fun p e s m below meth c ls C hN hT hw hl => ?_)
  have hx := C.1
  have hb := C.2.1
  have hRr := C.2.2.2.2.2.2.2.2.2.1
  refine lv_aload_n hx hb dL_fewestPegs_0 rfl (lv_at hl 2 rfl) ?_
  refine lv_iconst (v := 0) hx hb dL_fewestPegs_1 (by decide) ?_
  refine lv_aload_n hx hb dL_fewestPegs_2 rfl (lv_at hl 0 rfl) ?_
  refine lv_iload_n hx hb dL_fewestPegs_3 rfl (lv_at hl 1 rfl) ?_
  refine lh_V C hw hd (c_X5_fewestPegs hlt (cl_s00 hd) h) cy_X5_fewestPegs vy_X5_fewestPegs nl_L_76 rfl rfl hl.1 (As := [.int a1]) rfl ⟨⟨Nat.le_of_ble_eq_true rfl, Nat.le_of_ble_eq_true rfl⟩, Nat.le_of_ble_eq_true rfl, Nat.le_of_ble_eq_true rfl, Nat.le_of_ble_eq_true rfl⟩ dL_fewestPegs_4 (fun q hq ce q9 H locs hw h9 hv9 hcl => ?_) (fun r M1 hq H locs hw => ?_)
  · obtain ⟨cz, hcz⟩ := ho q hq
    obtain ⟨k, M1⟩ := q
    subst hq
    have hcl : s.vm.findClass (cl_exn k) = some ce.cls := hcl
    have hw : cl_H dd b M1 s H locs := hw
    rcases (show k = 2 from by simp only [lc_fewestPegs, List.mem_cons, List.not_mem_nil, or_false, Prod.mk.injEq] at hcz; omega) with rfl
    · refine vx_catch C.2.2.2.1 [] { startPc := 0, endPc := 9, handlerPc := 12, catchType := 30 } [] (by rw [hT]; rfl) (fun _ h => absurd h List.not_mem_nil) rfl (by decide) (C.2.2.2.2.1 _ lk_2) (va_Nw.use rfl (hRr.2 _ lq_2)) h9 hv9 hcl ?_
      refine lv_astore_n (lv' := [(3, .ref q9), (0, .ref b), (1, .int a1), (2, .ref (b + 247))]) hx hb dL_fewestPegs_12 rfl hl (by decide) rfl (fun ls hl => ?_)
      refine lv_iconst (v := 1) hx hb dL_fewestPegs_13 (by decide) ?_
      exact cr_reti C hw dL_fewestPegs_14
  · subst hq
    refine lv_i2l (v := r.toInt64) hx hb dL_fewestPegs_7 rfl ?_
    refine cr_last C hw hd (x := r) rfl rfl dL_fewestPegs_8 (fun H locs hw => ?_)
    refine lv_goto (tgt := 15) hx hb dL_fewestPegs_9 (by decide) ?_
    refine lv_iconst (v := 0) hx hb dL_fewestPegs_15 (by decide) ?_
    exact cr_reti C hw dL_fewestPegs_16
theorem cw_L_waterAfter : Cond.codeWith yL_waterAfter cL_waterAfter 5 (some .int) [(0, 10, 13, 30), (0, 10, 17, 13)] ∈ cl_W := cl_W_in 1070 (by decide +kernel) rfl
theorem sw_L_waterAfter : Cond.static yL_waterAfter ∈ cl_W := cl_W_in 1069 (by decide +kernel) rfl
theorem nl_L_79 : Cond.methodLink RL 79 yX5_waterAfter ∈ cl_W := cl_W_in 1071 (by decide +kernel) rfl
def lc_waterAfter : List (Nat × Nat) := [(2, 1), (1, 2)]
set_option maxHeartbeats 4000000 in
set_option maxRecDepth 100000 in
theorem h_waterAfter {l : Launch} {dd : cl_D} {b : Nat} (hlt : l.stackTraces = false) (hd : cl_K dd = 248) {M : cl_M} {a1 : Int32} {a2 : Int32} {o : Except (Nat × cl_M) (Int32 × cl_M)} (h : f_X5_waterAfter M 0 a1 a2 = some o) (ho : lh_in lc_waterAfter o) : lh_Met l dd b yL_waterAfter cL_waterAfter 5 [(0, 10, 13, 30), (0, 10, 17, 13)] 8 136 2 [.ref b, .int a1, .int a2, .ref (b + 247)] M (lh_r lc_waterAfter o) (lh_M o) := by
  refine lh_of hlt (by decide) (Nat.le_of_ble_eq_true rfl) (fun p e s m below meth c ls C hN hT hw hl => ?_)
  have hx := C.1
  have hb := C.2.1
  have hRr := C.2.2.2.2.2.2.2.2.2.1
  refine lv_aload_n hx hb dL_waterAfter_0 rfl (lv_at hl 3 rfl) ?_
  refine lv_iconst (v := 0) hx hb dL_waterAfter_1 (by decide) ?_
  refine lv_aload_n hx hb dL_waterAfter_2 rfl (lv_at hl 0 rfl) ?_
  refine lv_iload_n hx hb dL_waterAfter_3 rfl (lv_at hl 1 rfl) ?_
  refine lv_iload_n hx hb dL_waterAfter_4 rfl (lv_at hl 2 rfl) ?_
  refine lh_V C hw hd (c_X5_waterAfter hlt (cl_s00 hd) h) cy_X5_waterAfter vy_X5_waterAfter nl_L_79 rfl rfl hl.1 (As := [.int a1, .int a2]) rfl ⟨⟨Nat.le_of_ble_eq_true rfl, Nat.le_of_ble_eq_true rfl⟩, Nat.le_of_ble_eq_true rfl, Nat.le_of_ble_eq_true rfl, Nat.le_of_ble_eq_true rfl⟩ dL_waterAfter_5 (fun q hq ce q9 H locs hw h9 hv9 hcl => ?_) (fun r M1 hq H locs hw => ?_)
  · obtain ⟨cz, hcz⟩ := ho q hq
    obtain ⟨k, M1⟩ := q
    subst hq
    have hcl : s.vm.findClass (cl_exn k) = some ce.cls := hcl
    have hw : cl_H dd b M1 s H locs := hw
    rcases (show k = 2 ∨ k = 1 from by simp only [lc_waterAfter, List.mem_cons, List.not_mem_nil, or_false, Prod.mk.injEq] at hcz; omega) with rfl | rfl
    · refine vx_catch C.2.2.2.1 [] { startPc := 0, endPc := 10, handlerPc := 13, catchType := 30 } [{ startPc := 0, endPc := 10, handlerPc := 17, catchType := 13 }] (by rw [hT]; rfl) (fun _ h => absurd h List.not_mem_nil) rfl (by decide) (C.2.2.2.2.1 _ lk_2) (va_Nw.use rfl (hRr.2 _ lq_2)) h9 hv9 hcl ?_
      refine lv_astore (lv' := [(4, .ref q9), (0, .ref b), (1, .int a1), (2, .int a2), (3, .ref (b + 247))]) hx hb dL_waterAfter_13 hl (by decide) rfl (fun ls hl => ?_)
      refine lv_iconst (v := 1) hx hb dL_waterAfter_15 (by decide) ?_
      exact cr_reti C hw dL_waterAfter_16
    · refine vx_catch C.2.2.2.1 [{ startPc := 0, endPc := 10, handlerPc := 13, catchType := 30 }] { startPc := 0, endPc := 10, handlerPc := 17, catchType := 13 } [] (by rw [hT]; rfl) (List.forall_mem_cons.mpr ⟨Or.inr ⟨by decide, _, C.2.2.2.2.1 _ lk_2, hN 1 2 (by decide) (by decide) (by decide) (by decide) (by decide)⟩, fun _ h => absurd h List.not_mem_nil⟩) rfl (by decide) (C.2.2.2.2.1 _ lk_1) (va_Nw.use rfl (hRr.2 _ lq_1)) h9 hv9 hcl ?_
      refine lv_astore (lv' := [(4, .ref q9), (0, .ref b), (1, .int a1), (2, .int a2), (3, .ref (b + 247))]) hx hb dL_waterAfter_17 hl (by decide) rfl (fun ls hl => ?_)
      refine lv_iconst (v := 2) hx hb dL_waterAfter_19 (by decide) ?_
      exact cr_reti C hw dL_waterAfter_20
  · subst hq
    refine lv_i2l (v := r.toInt64) hx hb dL_waterAfter_8 rfl ?_
    refine cr_last C hw hd (x := r) rfl rfl dL_waterAfter_9 (fun H locs hw => ?_)
    refine lv_goto (tgt := 21) hx hb dL_waterAfter_10 (by decide) ?_
    refine lv_iconst (v := 0) hx hb dL_waterAfter_21 (by decide) ?_
    exact cr_reti C hw dL_waterAfter_22
theorem cw_L_minutesToDry : Cond.codeWith yL_minutesToDry cL_minutesToDry 4 (some .int) [(0, 9, 12, 30)] ∈ cl_W := cl_W_in 1081 (by decide +kernel) rfl
theorem sw_L_minutesToDry : Cond.static yL_minutesToDry ∈ cl_W := cl_W_in 1080 (by decide +kernel) rfl
theorem nl_L_83 : Cond.methodLink RL 83 yX5_minutesToDry ∈ cl_W := cl_W_in 1082 (by decide +kernel) rfl
def lc_minutesToDry : List (Nat × Nat) := [(2, 1)]
set_option maxHeartbeats 4000000 in
set_option maxRecDepth 100000 in
theorem h_minutesToDry {l : Launch} {dd : cl_D} {b : Nat} (hlt : l.stackTraces = false) (hd : cl_K dd = 248) {M : cl_M} {a1 : Int32} {o : Except (Nat × cl_M) (Int32 × cl_M)} (h : f_X5_minutesToDry M 0 a1 = some o) (ho : lh_in lc_minutesToDry o) : lh_Met l dd b yL_minutesToDry cL_minutesToDry 4 [(0, 9, 12, 30)] 8 134 1 [.ref b, .int a1, .ref (b + 247)] M (lh_r lc_minutesToDry o) (lh_M o) := by
  refine lh_of hlt (by decide) (Nat.le_of_ble_eq_true rfl) (fun p e s m below meth c ls C hN hT hw hl => ?_)
  have hx := C.1
  have hb := C.2.1
  have hRr := C.2.2.2.2.2.2.2.2.2.1
  refine lv_aload_n hx hb dL_minutesToDry_0 rfl (lv_at hl 2 rfl) ?_
  refine lv_iconst (v := 0) hx hb dL_minutesToDry_1 (by decide) ?_
  refine lv_aload_n hx hb dL_minutesToDry_2 rfl (lv_at hl 0 rfl) ?_
  refine lv_iload_n hx hb dL_minutesToDry_3 rfl (lv_at hl 1 rfl) ?_
  refine lh_V C hw hd (c_X5_minutesToDry hlt (cl_s00 hd) h) cy_X5_minutesToDry vy_X5_minutesToDry nl_L_83 rfl rfl hl.1 (As := [.int a1]) rfl ⟨⟨Nat.le_of_ble_eq_true rfl, Nat.le_of_ble_eq_true rfl⟩, Nat.le_of_ble_eq_true rfl, Nat.le_of_ble_eq_true rfl, Nat.le_of_ble_eq_true rfl⟩ dL_minutesToDry_4 (fun q hq ce q9 H locs hw h9 hv9 hcl => ?_) (fun r M1 hq H locs hw => ?_)
  · obtain ⟨cz, hcz⟩ := ho q hq
    obtain ⟨k, M1⟩ := q
    subst hq
    have hcl : s.vm.findClass (cl_exn k) = some ce.cls := hcl
    have hw : cl_H dd b M1 s H locs := hw
    rcases (show k = 2 from by simp only [lc_minutesToDry, List.mem_cons, List.not_mem_nil, or_false, Prod.mk.injEq] at hcz; omega) with rfl
    · refine vx_catch C.2.2.2.1 [] { startPc := 0, endPc := 9, handlerPc := 12, catchType := 30 } [] (by rw [hT]; rfl) (fun _ h => absurd h List.not_mem_nil) rfl (by decide) (C.2.2.2.2.1 _ lk_2) (va_Nw.use rfl (hRr.2 _ lq_2)) h9 hv9 hcl ?_
      refine lv_astore_n (lv' := [(3, .ref q9), (0, .ref b), (1, .int a1), (2, .ref (b + 247))]) hx hb dL_minutesToDry_12 rfl hl (by decide) rfl (fun ls hl => ?_)
      refine lv_iconst (v := 1) hx hb dL_minutesToDry_13 (by decide) ?_
      exact cr_reti C hw dL_minutesToDry_14
  · subst hq
    refine lv_i2l (v := r.toInt64) hx hb dL_minutesToDry_7 rfl ?_
    refine cr_last C hw hd (x := r) rfl rfl dL_minutesToDry_8 (fun H locs hw => ?_)
    refine lv_goto (tgt := 15) hx hb dL_minutesToDry_9 (by decide) ?_
    refine lv_iconst (v := 0) hx hb dL_minutesToDry_15 (by decide) ?_
    exact cr_reti C hw dL_minutesToDry_16
theorem cw_L_minutesToFall : Cond.codeWith yL_minutesToFall cL_minutesToFall 4 (some .int) [(0, 9, 12, 30)] ∈ cl_W := cl_W_in 1089 (by decide +kernel) rfl
theorem sw_L_minutesToFall : Cond.static yL_minutesToFall ∈ cl_W := cl_W_in 1088 (by decide +kernel) rfl
theorem nl_L_86 : Cond.methodLink RL 86 yX5_minutesToFall ∈ cl_W := cl_W_in 1090 (by decide +kernel) rfl
def lc_minutesToFall : List (Nat × Nat) := [(2, 1)]
set_option maxHeartbeats 4000000 in
set_option maxRecDepth 100000 in
theorem h_minutesToFall {l : Launch} {dd : cl_D} {b : Nat} (hlt : l.stackTraces = false) (hd : cl_K dd = 248) {M : cl_M} {a1 : Int32} {o : Except (Nat × cl_M) (Int32 × cl_M)} (h : f_X5_minutesToFall M 0 a1 = some o) (ho : lh_in lc_minutesToFall o) : lh_Met l dd b yL_minutesToFall cL_minutesToFall 4 [(0, 9, 12, 30)] 8 133 1 [.ref b, .int a1, .ref (b + 247)] M (lh_r lc_minutesToFall o) (lh_M o) := by
  refine lh_of hlt (by decide) (Nat.le_of_ble_eq_true rfl) (fun p e s m below meth c ls C hN hT hw hl => ?_)
  have hx := C.1
  have hb := C.2.1
  have hRr := C.2.2.2.2.2.2.2.2.2.1
  refine lv_aload_n hx hb dL_minutesToFall_0 rfl (lv_at hl 2 rfl) ?_
  refine lv_iconst (v := 0) hx hb dL_minutesToFall_1 (by decide) ?_
  refine lv_aload_n hx hb dL_minutesToFall_2 rfl (lv_at hl 0 rfl) ?_
  refine lv_iload_n hx hb dL_minutesToFall_3 rfl (lv_at hl 1 rfl) ?_
  refine lh_V C hw hd (c_X5_minutesToFall hlt (cl_s00 hd) h) cy_X5_minutesToFall vy_X5_minutesToFall nl_L_86 rfl rfl hl.1 (As := [.int a1]) rfl ⟨⟨Nat.le_of_ble_eq_true rfl, Nat.le_of_ble_eq_true rfl⟩, Nat.le_of_ble_eq_true rfl, Nat.le_of_ble_eq_true rfl, Nat.le_of_ble_eq_true rfl⟩ dL_minutesToFall_4 (fun q hq ce q9 H locs hw h9 hv9 hcl => ?_) (fun r M1 hq H locs hw => ?_)
  · obtain ⟨cz, hcz⟩ := ho q hq
    obtain ⟨k, M1⟩ := q
    subst hq
    have hcl : s.vm.findClass (cl_exn k) = some ce.cls := hcl
    have hw : cl_H dd b M1 s H locs := hw
    rcases (show k = 2 from by simp only [lc_minutesToFall, List.mem_cons, List.not_mem_nil, or_false, Prod.mk.injEq] at hcz; omega) with rfl
    · refine vx_catch C.2.2.2.1 [] { startPc := 0, endPc := 9, handlerPc := 12, catchType := 30 } [] (by rw [hT]; rfl) (fun _ h => absurd h List.not_mem_nil) rfl (by decide) (C.2.2.2.2.1 _ lk_2) (va_Nw.use rfl (hRr.2 _ lq_2)) h9 hv9 hcl ?_
      refine lv_astore_n (lv' := [(3, .ref q9), (0, .ref b), (1, .int a1), (2, .ref (b + 247))]) hx hb dL_minutesToFall_12 rfl hl (by decide) rfl (fun ls hl => ?_)
      refine lv_iconst (v := 1) hx hb dL_minutesToFall_13 (by decide) ?_
      exact cr_reti C hw dL_minutesToFall_14
  · subst hq
    refine lv_i2l (v := r.toInt64) hx hb dL_minutesToFall_7 rfl ?_
    refine cr_last C hw hd (x := r) rfl rfl dL_minutesToFall_8 (fun H locs hw => ?_)
    refine lv_goto (tgt := 15) hx hb dL_minutesToFall_9 (by decide) ?_
    refine lv_iconst (v := 0) hx hb dL_minutesToFall_15 (by decide) ?_
    exact cr_reti C hw dL_minutesToFall_16
theorem cw_L_bestSpot : Cond.codeWith yL_bestSpot cL_bestSpot 4 (some .int) [(0, 9, 12, 30)] ∈ cl_W := cl_W_in 1096 (by decide +kernel) rfl
theorem sw_L_bestSpot : Cond.static yL_bestSpot ∈ cl_W := cl_W_in 1095 (by decide +kernel) rfl
theorem nl_L_89 : Cond.methodLink RL 89 yX5_bestSpot ∈ cl_W := cl_W_in 1097 (by decide +kernel) rfl
def lc_bestSpot : List (Nat × Nat) := [(2, 1)]
set_option maxHeartbeats 4000000 in
set_option maxRecDepth 100000 in
theorem h_bestSpot {l : Launch} {dd : cl_D} {b : Nat} (hlt : l.stackTraces = false) (hd : cl_K dd = 248) {M : cl_M} {a1 : Int32} {o : Except (Nat × cl_M) (Int32 × cl_M)} (h : f_X5_bestSpot M 0 a1 = some o) (ho : lh_in lc_bestSpot o) : lh_Met l dd b yL_bestSpot cL_bestSpot 4 [(0, 9, 12, 30)] 8 153 1 [.ref b, .int a1, .ref (b + 247)] M (lh_r lc_bestSpot o) (lh_M o) := by
  refine lh_of hlt (by decide) (Nat.le_of_ble_eq_true rfl) (fun p e s m below meth c ls C hN hT hw hl => ?_)
  have hx := C.1
  have hb := C.2.1
  have hRr := C.2.2.2.2.2.2.2.2.2.1
  refine lv_aload_n hx hb dL_bestSpot_0 rfl (lv_at hl 2 rfl) ?_
  refine lv_iconst (v := 0) hx hb dL_bestSpot_1 (by decide) ?_
  refine lv_aload_n hx hb dL_bestSpot_2 rfl (lv_at hl 0 rfl) ?_
  refine lv_iload_n hx hb dL_bestSpot_3 rfl (lv_at hl 1 rfl) ?_
  refine lh_V C hw hd (c_X5_bestSpot hlt (cl_s00 hd) h) cy_X5_bestSpot vy_X5_bestSpot nl_L_89 rfl rfl hl.1 (As := [.int a1]) rfl ⟨⟨Nat.le_of_ble_eq_true rfl, Nat.le_of_ble_eq_true rfl⟩, Nat.le_of_ble_eq_true rfl, Nat.le_of_ble_eq_true rfl, Nat.le_of_ble_eq_true rfl⟩ dL_bestSpot_4 (fun q hq ce q9 H locs hw h9 hv9 hcl => ?_) (fun r M1 hq H locs hw => ?_)
  · obtain ⟨cz, hcz⟩ := ho q hq
    obtain ⟨k, M1⟩ := q
    subst hq
    have hcl : s.vm.findClass (cl_exn k) = some ce.cls := hcl
    have hw : cl_H dd b M1 s H locs := hw
    rcases (show k = 2 from by simp only [lc_bestSpot, List.mem_cons, List.not_mem_nil, or_false, Prod.mk.injEq] at hcz; omega) with rfl
    · refine vx_catch C.2.2.2.1 [] { startPc := 0, endPc := 9, handlerPc := 12, catchType := 30 } [] (by rw [hT]; rfl) (fun _ h => absurd h List.not_mem_nil) rfl (by decide) (C.2.2.2.2.1 _ lk_2) (va_Nw.use rfl (hRr.2 _ lq_2)) h9 hv9 hcl ?_
      refine lv_astore_n (lv' := [(3, .ref q9), (0, .ref b), (1, .int a1), (2, .ref (b + 247))]) hx hb dL_bestSpot_12 rfl hl (by decide) rfl (fun ls hl => ?_)
      refine lv_iconst (v := 1) hx hb dL_bestSpot_13 (by decide) ?_
      exact cr_reti C hw dL_bestSpot_14
  · subst hq
    refine lv_i2l (v := r.toInt64) hx hb dL_bestSpot_7 rfl ?_
    refine cr_last C hw hd (x := r) rfl rfl dL_bestSpot_8 (fun H locs hw => ?_)
    refine lv_goto (tgt := 15) hx hb dL_bestSpot_9 (by decide) ?_
    refine lv_iconst (v := 0) hx hb dL_bestSpot_15 (by decide) ?_
    exact cr_reti C hw dL_bestSpot_16
theorem cw_L_addGarment : Cond.codeWith yL_addGarment cL_addGarment 7 (some .int) [(0, 14, 17, 13), (0, 14, 21, 95)] ∈ cl_W := cl_W_in 1109 (by decide +kernel) rfl
theorem sw_L_addGarment : Cond.static yL_addGarment ∈ cl_W := cl_W_in 1108 (by decide +kernel) rfl
theorem nl_L_92 : Cond.methodLink RL 92 yX5_addGarment ∈ cl_W := cl_W_in 1111 (by decide +kernel) rfl
def lc_addGarment : List (Nat × Nat) := [(1, 1), (3, 2)]
set_option maxHeartbeats 4000000 in
set_option maxRecDepth 100000 in
theorem h_addGarment {l : Launch} {dd : cl_D} {b : Nat} (hlt : l.stackTraces = false) (hd : cl_K dd = 248) {M : cl_M} {a1 : Int32} {a2 : Int32} {a3 : Int32} {a4 : Int32} {o : Except (Nat × cl_M) (Int32 × cl_M)} (h : f_X5_addGarment M 0 a1 a2 a3 a4 = some o) (ho : lh_in lc_addGarment o) : lh_Met l dd b yL_addGarment cL_addGarment 7 [(0, 14, 17, 13), (0, 14, 21, 95)] 8 148 5 [.ref b, .int a1, .int a2, .int a3, .int a4, .ref (b + 247)] M (lh_r lc_addGarment o) (lh_M o) := by
  refine lh_of hlt (by decide) (Nat.le_of_ble_eq_true rfl) (fun p e s m below meth c ls C hN hT hw hl => ?_)
  have hx := C.1
  have hb := C.2.1
  have hRr := C.2.2.2.2.2.2.2.2.2.1
  refine lv_aload hx hb dL_addGarment_0 (lv_at hl 5 rfl) ?_
  refine lv_iconst (v := 0) hx hb dL_addGarment_2 (by decide) ?_
  refine lv_aload_n hx hb dL_addGarment_3 rfl (lv_at hl 0 rfl) ?_
  refine lv_iload_n hx hb dL_addGarment_4 rfl (lv_at hl 1 rfl) ?_
  refine lv_iload_n hx hb dL_addGarment_5 rfl (lv_at hl 2 rfl) ?_
  refine lv_iload_n hx hb dL_addGarment_6 rfl (lv_at hl 3 rfl) ?_
  refine lv_iload hx hb dL_addGarment_7 (lv_at hl 4 rfl) ?_
  refine lh_V C hw hd (c_X5_addGarment hlt (cl_s00 hd) h) cy_X5_addGarment vy_X5_addGarment nl_L_92 rfl rfl hl.1 (As := [.int a1, .int a2, .int a3, .int a4]) rfl ⟨⟨Nat.le_of_ble_eq_true rfl, Nat.le_of_ble_eq_true rfl⟩, Nat.le_of_ble_eq_true rfl, Nat.le_of_ble_eq_true rfl, Nat.le_of_ble_eq_true rfl⟩ dL_addGarment_9 (fun q hq ce q9 H locs hw h9 hv9 hcl => ?_) (fun r M1 hq H locs hw => ?_)
  · obtain ⟨cz, hcz⟩ := ho q hq
    obtain ⟨k, M1⟩ := q
    subst hq
    have hcl : s.vm.findClass (cl_exn k) = some ce.cls := hcl
    have hw : cl_H dd b M1 s H locs := hw
    rcases (show k = 1 ∨ k = 3 from by simp only [lc_addGarment, List.mem_cons, List.not_mem_nil, or_false, Prod.mk.injEq] at hcz; omega) with rfl | rfl
    · refine vx_catch C.2.2.2.1 [] { startPc := 0, endPc := 14, handlerPc := 17, catchType := 13 } [{ startPc := 0, endPc := 14, handlerPc := 21, catchType := 95 }] (by rw [hT]; rfl) (fun _ h => absurd h List.not_mem_nil) rfl (by decide) (C.2.2.2.2.1 _ lk_1) (va_Nw.use rfl (hRr.2 _ lq_1)) h9 hv9 hcl ?_
      refine lv_astore (lv' := [(6, .ref q9), (0, .ref b), (1, .int a1), (2, .int a2), (3, .int a3), (4, .int a4), (5, .ref (b + 247))]) hx hb dL_addGarment_17 hl (by decide) rfl (fun ls hl => ?_)
      refine lv_iconst (v := 1) hx hb dL_addGarment_19 (by decide) ?_
      exact cr_reti C hw dL_addGarment_20
    · refine vx_catch C.2.2.2.1 [{ startPc := 0, endPc := 14, handlerPc := 17, catchType := 13 }] { startPc := 0, endPc := 14, handlerPc := 21, catchType := 95 } [] (by rw [hT]; rfl) (List.forall_mem_cons.mpr ⟨Or.inr ⟨by decide, _, C.2.2.2.2.1 _ lk_1, hN 3 1 (by decide) (by decide) (by decide) (by decide) (by decide)⟩, fun _ h => absurd h List.not_mem_nil⟩) rfl (by decide) (C.2.2.2.2.1 _ lk_3) (va_Nw.use rfl (hRr.2 _ lq_3)) h9 hv9 hcl ?_
      refine lv_astore (lv' := [(6, .ref q9), (0, .ref b), (1, .int a1), (2, .int a2), (3, .int a3), (4, .int a4), (5, .ref (b + 247))]) hx hb dL_addGarment_21 hl (by decide) rfl (fun ls hl => ?_)
      refine lv_iconst (v := 2) hx hb dL_addGarment_23 (by decide) ?_
      exact cr_reti C hw dL_addGarment_24
  · subst hq
    refine lv_i2l (v := r.toInt64) hx hb dL_addGarment_12 rfl ?_
    refine cr_last C hw hd (x := r) rfl rfl dL_addGarment_13 (fun H locs hw => ?_)
    refine lv_goto (tgt := 25) hx hb dL_addGarment_14 (by decide) ?_
    refine lv_iconst (v := 0) hx hb dL_addGarment_25 (by decide) ?_
    exact cr_reti C hw dL_addGarment_26
theorem cw_L_hang : Cond.codeWith yL_hang cL_hang 7 (some .int) [(0, 14, 17, 30), (0, 14, 21, 13), (0, 14, 25, 95)] ∈ cl_W := cl_W_in 1137 (by decide +kernel) rfl
theorem sw_L_hang : Cond.static yL_hang ∈ cl_W := cl_W_in 1136 (by decide +kernel) rfl
theorem nl_L_97 : Cond.methodLink RL 97 yX5_hang ∈ cl_W := cl_W_in 1138 (by decide +kernel) rfl
def lc_hang : List (Nat × Nat) := [(2, 1), (1, 2), (3, 3)]
set_option maxHeartbeats 4000000 in
set_option maxRecDepth 100000 in
theorem h_hang {l : Launch} {dd : cl_D} {b : Nat} (hlt : l.stackTraces = false) (hd : cl_K dd = 248) {M : cl_M} {a1 : Int32} {a2 : Int32} {a3 : Int32} {a4 : Int32} {o : Except (Nat × cl_M) (Int32 × cl_M)} (h : f_X5_hang M 0 a1 a2 a3 a4 = some o) (ho : lh_in lc_hang o) : lh_Met l dd b yL_hang cL_hang 7 [(0, 14, 17, 30), (0, 14, 21, 13), (0, 14, 25, 95)] 9 162 6 [.ref b, .int a1, .int a2, .int a3, .int a4, .ref (b + 247)] M (lh_r lc_hang o) (lh_M o) := by
  refine lh_of hlt (by decide) (Nat.le_of_ble_eq_true rfl) (fun p e s m below meth c ls C hN hT hw hl => ?_)
  have hx := C.1
  have hb := C.2.1
  have hRr := C.2.2.2.2.2.2.2.2.2.1
  refine lv_aload hx hb dL_hang_0 (lv_at hl 5 rfl) ?_
  refine lv_iconst (v := 0) hx hb dL_hang_2 (by decide) ?_
  refine lv_aload_n hx hb dL_hang_3 rfl (lv_at hl 0 rfl) ?_
  refine lv_iload_n hx hb dL_hang_4 rfl (lv_at hl 1 rfl) ?_
  refine lv_iload_n hx hb dL_hang_5 rfl (lv_at hl 2 rfl) ?_
  refine lv_iload_n hx hb dL_hang_6 rfl (lv_at hl 3 rfl) ?_
  refine lv_iload hx hb dL_hang_7 (lv_at hl 4 rfl) ?_
  refine lh_V C hw hd (c_X5_hang hlt (cl_s00 hd) h) cy_X5_hang vy_X5_hang nl_L_97 rfl rfl hl.1 (As := [.int a1, .int a2, .int a3, .int a4]) rfl ⟨⟨Nat.le_of_ble_eq_true rfl, Nat.le_of_ble_eq_true rfl⟩, Nat.le_of_ble_eq_true rfl, Nat.le_of_ble_eq_true rfl, Nat.le_of_ble_eq_true rfl⟩ dL_hang_9 (fun q hq ce q9 H locs hw h9 hv9 hcl => ?_) (fun r M1 hq H locs hw => ?_)
  · obtain ⟨cz, hcz⟩ := ho q hq
    obtain ⟨k, M1⟩ := q
    subst hq
    have hcl : s.vm.findClass (cl_exn k) = some ce.cls := hcl
    have hw : cl_H dd b M1 s H locs := hw
    rcases (show k = 2 ∨ k = 1 ∨ k = 3 from by simp only [lc_hang, List.mem_cons, List.not_mem_nil, or_false, Prod.mk.injEq] at hcz; omega) with rfl | rfl | rfl
    · refine vx_catch C.2.2.2.1 [] { startPc := 0, endPc := 14, handlerPc := 17, catchType := 30 } [{ startPc := 0, endPc := 14, handlerPc := 21, catchType := 13 }, { startPc := 0, endPc := 14, handlerPc := 25, catchType := 95 }] (by rw [hT]; rfl) (fun _ h => absurd h List.not_mem_nil) rfl (by decide) (C.2.2.2.2.1 _ lk_2) (va_Nw.use rfl (hRr.2 _ lq_2)) h9 hv9 hcl ?_
      refine lv_astore (lv' := [(6, .ref q9), (0, .ref b), (1, .int a1), (2, .int a2), (3, .int a3), (4, .int a4), (5, .ref (b + 247))]) hx hb dL_hang_17 hl (by decide) rfl (fun ls hl => ?_)
      refine lv_iconst (v := 1) hx hb dL_hang_19 (by decide) ?_
      exact cr_reti C hw dL_hang_20
    · refine vx_catch C.2.2.2.1 [{ startPc := 0, endPc := 14, handlerPc := 17, catchType := 30 }] { startPc := 0, endPc := 14, handlerPc := 21, catchType := 13 } [{ startPc := 0, endPc := 14, handlerPc := 25, catchType := 95 }] (by rw [hT]; rfl) (List.forall_mem_cons.mpr ⟨Or.inr ⟨by decide, _, C.2.2.2.2.1 _ lk_2, hN 1 2 (by decide) (by decide) (by decide) (by decide) (by decide)⟩, fun _ h => absurd h List.not_mem_nil⟩) rfl (by decide) (C.2.2.2.2.1 _ lk_1) (va_Nw.use rfl (hRr.2 _ lq_1)) h9 hv9 hcl ?_
      refine lv_astore (lv' := [(6, .ref q9), (0, .ref b), (1, .int a1), (2, .int a2), (3, .int a3), (4, .int a4), (5, .ref (b + 247))]) hx hb dL_hang_21 hl (by decide) rfl (fun ls hl => ?_)
      refine lv_iconst (v := 2) hx hb dL_hang_23 (by decide) ?_
      exact cr_reti C hw dL_hang_24
    · refine vx_catch C.2.2.2.1 [{ startPc := 0, endPc := 14, handlerPc := 17, catchType := 30 }, { startPc := 0, endPc := 14, handlerPc := 21, catchType := 13 }] { startPc := 0, endPc := 14, handlerPc := 25, catchType := 95 } [] (by rw [hT]; rfl) (List.forall_mem_cons.mpr ⟨Or.inr ⟨by decide, _, C.2.2.2.2.1 _ lk_2, hN 3 2 (by decide) (by decide) (by decide) (by decide) (by decide)⟩, List.forall_mem_cons.mpr ⟨Or.inr ⟨by decide, _, C.2.2.2.2.1 _ lk_1, hN 3 1 (by decide) (by decide) (by decide) (by decide) (by decide)⟩, fun _ h => absurd h List.not_mem_nil⟩⟩) rfl (by decide) (C.2.2.2.2.1 _ lk_3) (va_Nw.use rfl (hRr.2 _ lq_3)) h9 hv9 hcl ?_
      refine lv_astore (lv' := [(6, .ref q9), (0, .ref b), (1, .int a1), (2, .int a2), (3, .int a3), (4, .int a4), (5, .ref (b + 247))]) hx hb dL_hang_25 hl (by decide) rfl (fun ls hl => ?_)
      refine lv_iconst (v := 3) hx hb dL_hang_27 (by decide) ?_
      exact cr_reti C hw dL_hang_28
  · subst hq
    refine lv_i2l (v := r.toInt64) hx hb dL_hang_12 rfl ?_
    refine cr_last C hw hd (x := r) rfl rfl dL_hang_13 (fun H locs hw => ?_)
    refine lv_goto (tgt := 29) hx hb dL_hang_14 (by decide) ?_
    refine lv_iconst (v := 0) hx hb dL_hang_29 (by decide) ?_
    exact cr_reti C hw dL_hang_30
theorem cw_L_takeDown : Cond.codeWith yL_takeDown cL_takeDown 4 (some .int) [(0, 9, 12, 30), (0, 9, 15, 95)] ∈ cl_W := cl_W_in 1145 (by decide +kernel) rfl
theorem sw_L_takeDown : Cond.static yL_takeDown ∈ cl_W := cl_W_in 1144 (by decide +kernel) rfl
theorem nl_L_100 : Cond.methodLink RL 100 yX5_takeDown ∈ cl_W := cl_W_in 1146 (by decide +kernel) rfl
def lc_takeDown : List (Nat × Nat) := [(2, 1), (3, 2)]
set_option maxHeartbeats 4000000 in
set_option maxRecDepth 100000 in
theorem h_takeDown {l : Launch} {dd : cl_D} {b : Nat} (hlt : l.stackTraces = false) (hd : cl_K dd = 248) {M : cl_M} {a1 : Int32} {o : Except (Nat × cl_M) (Int32 × cl_M)} (h : f_X5_takeDown M 0 a1 = some o) (ho : lh_in lc_takeDown o) : lh_Met l dd b yL_takeDown cL_takeDown 4 [(0, 9, 12, 30), (0, 9, 15, 95)] 8 146 2 [.ref b, .int a1, .ref (b + 247)] M (lh_r lc_takeDown o) (lh_M o) := by
  refine lh_of hlt (by decide) (Nat.le_of_ble_eq_true rfl) (fun p e s m below meth c ls C hN hT hw hl => ?_)
  have hx := C.1
  have hb := C.2.1
  have hRr := C.2.2.2.2.2.2.2.2.2.1
  refine lv_aload_n hx hb dL_takeDown_0 rfl (lv_at hl 2 rfl) ?_
  refine lv_iconst (v := 0) hx hb dL_takeDown_1 (by decide) ?_
  refine lv_aload_n hx hb dL_takeDown_2 rfl (lv_at hl 0 rfl) ?_
  refine lv_iload_n hx hb dL_takeDown_3 rfl (lv_at hl 1 rfl) ?_
  refine lh_V C hw hd (c_X5_takeDown hlt (cl_s00 hd) h) cy_X5_takeDown vy_X5_takeDown nl_L_100 rfl rfl hl.1 (As := [.int a1]) rfl ⟨⟨Nat.le_of_ble_eq_true rfl, Nat.le_of_ble_eq_true rfl⟩, Nat.le_of_ble_eq_true rfl, Nat.le_of_ble_eq_true rfl, Nat.le_of_ble_eq_true rfl⟩ dL_takeDown_4 (fun q hq ce q9 H locs hw h9 hv9 hcl => ?_) (fun r M1 hq H locs hw => ?_)
  · obtain ⟨cz, hcz⟩ := ho q hq
    obtain ⟨k, M1⟩ := q
    subst hq
    have hcl : s.vm.findClass (cl_exn k) = some ce.cls := hcl
    have hw : cl_H dd b M1 s H locs := hw
    rcases (show k = 2 ∨ k = 3 from by simp only [lc_takeDown, List.mem_cons, List.not_mem_nil, or_false, Prod.mk.injEq] at hcz; omega) with rfl | rfl
    · refine vx_catch C.2.2.2.1 [] { startPc := 0, endPc := 9, handlerPc := 12, catchType := 30 } [{ startPc := 0, endPc := 9, handlerPc := 15, catchType := 95 }] (by rw [hT]; rfl) (fun _ h => absurd h List.not_mem_nil) rfl (by decide) (C.2.2.2.2.1 _ lk_2) (va_Nw.use rfl (hRr.2 _ lq_2)) h9 hv9 hcl ?_
      refine lv_astore_n (lv' := [(3, .ref q9), (0, .ref b), (1, .int a1), (2, .ref (b + 247))]) hx hb dL_takeDown_12 rfl hl (by decide) rfl (fun ls hl => ?_)
      refine lv_iconst (v := 1) hx hb dL_takeDown_13 (by decide) ?_
      exact cr_reti C hw dL_takeDown_14
    · refine vx_catch C.2.2.2.1 [{ startPc := 0, endPc := 9, handlerPc := 12, catchType := 30 }] { startPc := 0, endPc := 9, handlerPc := 15, catchType := 95 } [] (by rw [hT]; rfl) (List.forall_mem_cons.mpr ⟨Or.inr ⟨by decide, _, C.2.2.2.2.1 _ lk_2, hN 3 2 (by decide) (by decide) (by decide) (by decide) (by decide)⟩, fun _ h => absurd h List.not_mem_nil⟩) rfl (by decide) (C.2.2.2.2.1 _ lk_3) (va_Nw.use rfl (hRr.2 _ lq_3)) h9 hv9 hcl ?_
      refine lv_astore_n (lv' := [(3, .ref q9), (0, .ref b), (1, .int a1), (2, .ref (b + 247))]) hx hb dL_takeDown_15 rfl hl (by decide) rfl (fun ls hl => ?_)
      refine lv_iconst (v := 2) hx hb dL_takeDown_16 (by decide) ?_
      exact cr_reti C hw dL_takeDown_17
  · subst hq
    refine lv_i2l (v := r.toInt64) hx hb dL_takeDown_7 rfl ?_
    refine cr_last C hw hd (x := r) rfl rfl dL_takeDown_8 (fun H locs hw => ?_)
    refine lv_goto (tgt := 18) hx hb dL_takeDown_9 (by decide) ?_
    refine lv_iconst (v := 0) hx hb dL_takeDown_18 (by decide) ?_
    exact cr_reti C hw dL_takeDown_19
theorem cw_L_pickUp : Cond.codeWith yL_pickUp cL_pickUp 4 (some .int) [(0, 9, 12, 30), (0, 9, 15, 95)] ∈ cl_W := cl_W_in 1153 (by decide +kernel) rfl
theorem sw_L_pickUp : Cond.static yL_pickUp ∈ cl_W := cl_W_in 1152 (by decide +kernel) rfl
theorem nl_L_103 : Cond.methodLink RL 103 yX5_pickUp ∈ cl_W := cl_W_in 1154 (by decide +kernel) rfl
def lc_pickUp : List (Nat × Nat) := [(2, 1), (3, 2)]
set_option maxHeartbeats 4000000 in
set_option maxRecDepth 100000 in
theorem h_pickUp {l : Launch} {dd : cl_D} {b : Nat} (hlt : l.stackTraces = false) (hd : cl_K dd = 248) {M : cl_M} {a1 : Int32} {o : Except (Nat × cl_M) (Int32 × cl_M)} (h : f_X5_pickUp M 0 a1 = some o) (ho : lh_in lc_pickUp o) : lh_Met l dd b yL_pickUp cL_pickUp 4 [(0, 9, 12, 30), (0, 9, 15, 95)] 8 146 2 [.ref b, .int a1, .ref (b + 247)] M (lh_r lc_pickUp o) (lh_M o) := by
  refine lh_of hlt (by decide) (Nat.le_of_ble_eq_true rfl) (fun p e s m below meth c ls C hN hT hw hl => ?_)
  have hx := C.1
  have hb := C.2.1
  have hRr := C.2.2.2.2.2.2.2.2.2.1
  refine lv_aload_n hx hb dL_pickUp_0 rfl (lv_at hl 2 rfl) ?_
  refine lv_iconst (v := 0) hx hb dL_pickUp_1 (by decide) ?_
  refine lv_aload_n hx hb dL_pickUp_2 rfl (lv_at hl 0 rfl) ?_
  refine lv_iload_n hx hb dL_pickUp_3 rfl (lv_at hl 1 rfl) ?_
  refine lh_V C hw hd (c_X5_pickUp hlt (cl_s00 hd) h) cy_X5_pickUp vy_X5_pickUp nl_L_103 rfl rfl hl.1 (As := [.int a1]) rfl ⟨⟨Nat.le_of_ble_eq_true rfl, Nat.le_of_ble_eq_true rfl⟩, Nat.le_of_ble_eq_true rfl, Nat.le_of_ble_eq_true rfl, Nat.le_of_ble_eq_true rfl⟩ dL_pickUp_4 (fun q hq ce q9 H locs hw h9 hv9 hcl => ?_) (fun r M1 hq H locs hw => ?_)
  · obtain ⟨cz, hcz⟩ := ho q hq
    obtain ⟨k, M1⟩ := q
    subst hq
    have hcl : s.vm.findClass (cl_exn k) = some ce.cls := hcl
    have hw : cl_H dd b M1 s H locs := hw
    rcases (show k = 2 ∨ k = 3 from by simp only [lc_pickUp, List.mem_cons, List.not_mem_nil, or_false, Prod.mk.injEq] at hcz; omega) with rfl | rfl
    · refine vx_catch C.2.2.2.1 [] { startPc := 0, endPc := 9, handlerPc := 12, catchType := 30 } [{ startPc := 0, endPc := 9, handlerPc := 15, catchType := 95 }] (by rw [hT]; rfl) (fun _ h => absurd h List.not_mem_nil) rfl (by decide) (C.2.2.2.2.1 _ lk_2) (va_Nw.use rfl (hRr.2 _ lq_2)) h9 hv9 hcl ?_
      refine lv_astore_n (lv' := [(3, .ref q9), (0, .ref b), (1, .int a1), (2, .ref (b + 247))]) hx hb dL_pickUp_12 rfl hl (by decide) rfl (fun ls hl => ?_)
      refine lv_iconst (v := 1) hx hb dL_pickUp_13 (by decide) ?_
      exact cr_reti C hw dL_pickUp_14
    · refine vx_catch C.2.2.2.1 [{ startPc := 0, endPc := 9, handlerPc := 12, catchType := 30 }] { startPc := 0, endPc := 9, handlerPc := 15, catchType := 95 } [] (by rw [hT]; rfl) (List.forall_mem_cons.mpr ⟨Or.inr ⟨by decide, _, C.2.2.2.2.1 _ lk_2, hN 3 2 (by decide) (by decide) (by decide) (by decide) (by decide)⟩, fun _ h => absurd h List.not_mem_nil⟩) rfl (by decide) (C.2.2.2.2.1 _ lk_3) (va_Nw.use rfl (hRr.2 _ lq_3)) h9 hv9 hcl ?_
      refine lv_astore_n (lv' := [(3, .ref q9), (0, .ref b), (1, .int a1), (2, .ref (b + 247))]) hx hb dL_pickUp_15 rfl hl (by decide) rfl (fun ls hl => ?_)
      refine lv_iconst (v := 2) hx hb dL_pickUp_16 (by decide) ?_
      exact cr_reti C hw dL_pickUp_17
  · subst hq
    refine lv_i2l (v := r.toInt64) hx hb dL_pickUp_7 rfl ?_
    refine cr_last C hw hd (x := r) rfl rfl dL_pickUp_8 (fun H locs hw => ?_)
    refine lv_goto (tgt := 18) hx hb dL_pickUp_9 (by decide) ?_
    refine lv_iconst (v := 0) hx hb dL_pickUp_18 (by decide) ?_
    exact cr_reti C hw dL_pickUp_19
theorem cw_L_wash : Cond.codeWith yL_wash cL_wash 4 (some .int) [(0, 9, 12, 30), (0, 9, 15, 95)] ∈ cl_W := cl_W_in 1160 (by decide +kernel) rfl
theorem sw_L_wash : Cond.static yL_wash ∈ cl_W := cl_W_in 1159 (by decide +kernel) rfl
theorem nl_L_106 : Cond.methodLink RL 106 yX5_wash ∈ cl_W := cl_W_in 1161 (by decide +kernel) rfl
def lc_wash : List (Nat × Nat) := [(2, 1), (3, 2)]
set_option maxHeartbeats 4000000 in
set_option maxRecDepth 100000 in
theorem h_wash {l : Launch} {dd : cl_D} {b : Nat} (hlt : l.stackTraces = false) (hd : cl_K dd = 248) {M : cl_M} {a1 : Int32} {o : Except (Nat × cl_M) (Int32 × cl_M)} (h : f_X5_wash M 0 a1 = some o) (ho : lh_in lc_wash o) : lh_Met l dd b yL_wash cL_wash 4 [(0, 9, 12, 30), (0, 9, 15, 95)] 8 147 2 [.ref b, .int a1, .ref (b + 247)] M (lh_r lc_wash o) (lh_M o) := by
  refine lh_of hlt (by decide) (Nat.le_of_ble_eq_true rfl) (fun p e s m below meth c ls C hN hT hw hl => ?_)
  have hx := C.1
  have hb := C.2.1
  have hRr := C.2.2.2.2.2.2.2.2.2.1
  refine lv_aload_n hx hb dL_wash_0 rfl (lv_at hl 2 rfl) ?_
  refine lv_iconst (v := 0) hx hb dL_wash_1 (by decide) ?_
  refine lv_aload_n hx hb dL_wash_2 rfl (lv_at hl 0 rfl) ?_
  refine lv_iload_n hx hb dL_wash_3 rfl (lv_at hl 1 rfl) ?_
  refine lh_V C hw hd (c_X5_wash hlt (cl_s00 hd) h) cy_X5_wash vy_X5_wash nl_L_106 rfl rfl hl.1 (As := [.int a1]) rfl ⟨⟨Nat.le_of_ble_eq_true rfl, Nat.le_of_ble_eq_true rfl⟩, Nat.le_of_ble_eq_true rfl, Nat.le_of_ble_eq_true rfl, Nat.le_of_ble_eq_true rfl⟩ dL_wash_4 (fun q hq ce q9 H locs hw h9 hv9 hcl => ?_) (fun r M1 hq H locs hw => ?_)
  · obtain ⟨cz, hcz⟩ := ho q hq
    obtain ⟨k, M1⟩ := q
    subst hq
    have hcl : s.vm.findClass (cl_exn k) = some ce.cls := hcl
    have hw : cl_H dd b M1 s H locs := hw
    rcases (show k = 2 ∨ k = 3 from by simp only [lc_wash, List.mem_cons, List.not_mem_nil, or_false, Prod.mk.injEq] at hcz; omega) with rfl | rfl
    · refine vx_catch C.2.2.2.1 [] { startPc := 0, endPc := 9, handlerPc := 12, catchType := 30 } [{ startPc := 0, endPc := 9, handlerPc := 15, catchType := 95 }] (by rw [hT]; rfl) (fun _ h => absurd h List.not_mem_nil) rfl (by decide) (C.2.2.2.2.1 _ lk_2) (va_Nw.use rfl (hRr.2 _ lq_2)) h9 hv9 hcl ?_
      refine lv_astore_n (lv' := [(3, .ref q9), (0, .ref b), (1, .int a1), (2, .ref (b + 247))]) hx hb dL_wash_12 rfl hl (by decide) rfl (fun ls hl => ?_)
      refine lv_iconst (v := 1) hx hb dL_wash_13 (by decide) ?_
      exact cr_reti C hw dL_wash_14
    · refine vx_catch C.2.2.2.1 [{ startPc := 0, endPc := 9, handlerPc := 12, catchType := 30 }] { startPc := 0, endPc := 9, handlerPc := 15, catchType := 95 } [] (by rw [hT]; rfl) (List.forall_mem_cons.mpr ⟨Or.inr ⟨by decide, _, C.2.2.2.2.1 _ lk_2, hN 3 2 (by decide) (by decide) (by decide) (by decide) (by decide)⟩, fun _ h => absurd h List.not_mem_nil⟩) rfl (by decide) (C.2.2.2.2.1 _ lk_3) (va_Nw.use rfl (hRr.2 _ lq_3)) h9 hv9 hcl ?_
      refine lv_astore_n (lv' := [(3, .ref q9), (0, .ref b), (1, .int a1), (2, .ref (b + 247))]) hx hb dL_wash_15 rfl hl (by decide) rfl (fun ls hl => ?_)
      refine lv_iconst (v := 2) hx hb dL_wash_16 (by decide) ?_
      exact cr_reti C hw dL_wash_17
  · subst hq
    refine lv_i2l (v := r.toInt64) hx hb dL_wash_7 rfl ?_
    refine cr_last C hw hd (x := r) rfl rfl dL_wash_8 (fun H locs hw => ?_)
    refine lv_goto (tgt := 18) hx hb dL_wash_9 (by decide) ?_
    refine lv_iconst (v := 0) hx hb dL_wash_18 (by decide) ?_
    exact cr_reti C hw dL_wash_19
theorem cw_L_shift : Cond.codeWith yL_shift cL_shift 5 (some .int) [(0, 10, 13, 30), (0, 10, 17, 13), (0, 10, 21, 95)] ∈ cl_W := cl_W_in 1168 (by decide +kernel) rfl
theorem sw_L_shift : Cond.static yL_shift ∈ cl_W := cl_W_in 1167 (by decide +kernel) rfl
theorem nl_L_109 : Cond.methodLink RL 109 yX5_shift ∈ cl_W := cl_W_in 1169 (by decide +kernel) rfl
def lc_shift : List (Nat × Nat) := [(2, 1), (1, 2), (3, 3)]
set_option maxHeartbeats 4000000 in
set_option maxRecDepth 100000 in
theorem h_shift {l : Launch} {dd : cl_D} {b : Nat} (hlt : l.stackTraces = false) (hd : cl_K dd = 248) {M : cl_M} {a1 : Int32} {a2 : Int32} {o : Except (Nat × cl_M) (Int32 × cl_M)} (h : f_X5_shift M 0 a1 a2 = some o) (ho : lh_in lc_shift o) : lh_Met l dd b yL_shift cL_shift 5 [(0, 10, 13, 30), (0, 10, 17, 13), (0, 10, 21, 95)] 8 148 3 [.ref b, .int a1, .int a2, .ref (b + 247)] M (lh_r lc_shift o) (lh_M o) := by
  refine lh_of hlt (by decide) (Nat.le_of_ble_eq_true rfl) (fun p e s m below meth c ls C hN hT hw hl => ?_)
  have hx := C.1
  have hb := C.2.1
  have hRr := C.2.2.2.2.2.2.2.2.2.1
  refine lv_aload_n hx hb dL_shift_0 rfl (lv_at hl 3 rfl) ?_
  refine lv_iconst (v := 0) hx hb dL_shift_1 (by decide) ?_
  refine lv_aload_n hx hb dL_shift_2 rfl (lv_at hl 0 rfl) ?_
  refine lv_iload_n hx hb dL_shift_3 rfl (lv_at hl 1 rfl) ?_
  refine lv_iload_n hx hb dL_shift_4 rfl (lv_at hl 2 rfl) ?_
  refine lh_V C hw hd (c_X5_shift hlt (cl_s00 hd) h) cy_X5_shift vy_X5_shift nl_L_109 rfl rfl hl.1 (As := [.int a1, .int a2]) rfl ⟨⟨Nat.le_of_ble_eq_true rfl, Nat.le_of_ble_eq_true rfl⟩, Nat.le_of_ble_eq_true rfl, Nat.le_of_ble_eq_true rfl, Nat.le_of_ble_eq_true rfl⟩ dL_shift_5 (fun q hq ce q9 H locs hw h9 hv9 hcl => ?_) (fun r M1 hq H locs hw => ?_)
  · obtain ⟨cz, hcz⟩ := ho q hq
    obtain ⟨k, M1⟩ := q
    subst hq
    have hcl : s.vm.findClass (cl_exn k) = some ce.cls := hcl
    have hw : cl_H dd b M1 s H locs := hw
    rcases (show k = 2 ∨ k = 1 ∨ k = 3 from by simp only [lc_shift, List.mem_cons, List.not_mem_nil, or_false, Prod.mk.injEq] at hcz; omega) with rfl | rfl | rfl
    · refine vx_catch C.2.2.2.1 [] { startPc := 0, endPc := 10, handlerPc := 13, catchType := 30 } [{ startPc := 0, endPc := 10, handlerPc := 17, catchType := 13 }, { startPc := 0, endPc := 10, handlerPc := 21, catchType := 95 }] (by rw [hT]; rfl) (fun _ h => absurd h List.not_mem_nil) rfl (by decide) (C.2.2.2.2.1 _ lk_2) (va_Nw.use rfl (hRr.2 _ lq_2)) h9 hv9 hcl ?_
      refine lv_astore (lv' := [(4, .ref q9), (0, .ref b), (1, .int a1), (2, .int a2), (3, .ref (b + 247))]) hx hb dL_shift_13 hl (by decide) rfl (fun ls hl => ?_)
      refine lv_iconst (v := 1) hx hb dL_shift_15 (by decide) ?_
      exact cr_reti C hw dL_shift_16
    · refine vx_catch C.2.2.2.1 [{ startPc := 0, endPc := 10, handlerPc := 13, catchType := 30 }] { startPc := 0, endPc := 10, handlerPc := 17, catchType := 13 } [{ startPc := 0, endPc := 10, handlerPc := 21, catchType := 95 }] (by rw [hT]; rfl) (List.forall_mem_cons.mpr ⟨Or.inr ⟨by decide, _, C.2.2.2.2.1 _ lk_2, hN 1 2 (by decide) (by decide) (by decide) (by decide) (by decide)⟩, fun _ h => absurd h List.not_mem_nil⟩) rfl (by decide) (C.2.2.2.2.1 _ lk_1) (va_Nw.use rfl (hRr.2 _ lq_1)) h9 hv9 hcl ?_
      refine lv_astore (lv' := [(4, .ref q9), (0, .ref b), (1, .int a1), (2, .int a2), (3, .ref (b + 247))]) hx hb dL_shift_17 hl (by decide) rfl (fun ls hl => ?_)
      refine lv_iconst (v := 2) hx hb dL_shift_19 (by decide) ?_
      exact cr_reti C hw dL_shift_20
    · refine vx_catch C.2.2.2.1 [{ startPc := 0, endPc := 10, handlerPc := 13, catchType := 30 }, { startPc := 0, endPc := 10, handlerPc := 17, catchType := 13 }] { startPc := 0, endPc := 10, handlerPc := 21, catchType := 95 } [] (by rw [hT]; rfl) (List.forall_mem_cons.mpr ⟨Or.inr ⟨by decide, _, C.2.2.2.2.1 _ lk_2, hN 3 2 (by decide) (by decide) (by decide) (by decide) (by decide)⟩, List.forall_mem_cons.mpr ⟨Or.inr ⟨by decide, _, C.2.2.2.2.1 _ lk_1, hN 3 1 (by decide) (by decide) (by decide) (by decide) (by decide)⟩, fun _ h => absurd h List.not_mem_nil⟩⟩) rfl (by decide) (C.2.2.2.2.1 _ lk_3) (va_Nw.use rfl (hRr.2 _ lq_3)) h9 hv9 hcl ?_
      refine lv_astore (lv' := [(4, .ref q9), (0, .ref b), (1, .int a1), (2, .int a2), (3, .ref (b + 247))]) hx hb dL_shift_21 hl (by decide) rfl (fun ls hl => ?_)
      refine lv_iconst (v := 3) hx hb dL_shift_23 (by decide) ?_
      exact cr_reti C hw dL_shift_24
  · subst hq
    refine lv_i2l (v := r.toInt64) hx hb dL_shift_8 rfl ?_
    refine cr_last C hw hd (x := r) rfl rfl dL_shift_9 (fun H locs hw => ?_)
    refine lv_goto (tgt := 25) hx hb dL_shift_10 (by decide) ?_
    refine lv_iconst (v := 0) hx hb dL_shift_25 (by decide) ?_
    exact cr_reti C hw dL_shift_26
theorem cw_L_addShower : Cond.codeWith yL_addShower cL_addShower 6 (some .int) [(0, 12, 15, 13), (0, 12, 19, 95)] ∈ cl_W := cl_W_in 1177 (by decide +kernel) rfl
theorem sw_L_addShower : Cond.static yL_addShower ∈ cl_W := cl_W_in 1176 (by decide +kernel) rfl
theorem nl_L_112 : Cond.methodLink RL 112 yX5_addShower ∈ cl_W := cl_W_in 1178 (by decide +kernel) rfl
def lc_addShower : List (Nat × Nat) := [(1, 1), (3, 2)]
set_option maxHeartbeats 4000000 in
set_option maxRecDepth 100000 in
theorem h_addShower {l : Launch} {dd : cl_D} {b : Nat} (hlt : l.stackTraces = false) (hd : cl_K dd = 248) {M : cl_M} {a1 : Int32} {a2 : Int32} {a3 : Int32} {o : Except (Nat × cl_M) (Int32 × cl_M)} (h : f_X5_addShower M 0 a1 a2 a3 = some o) (ho : lh_in lc_addShower o) : lh_Met l dd b yL_addShower cL_addShower 6 [(0, 12, 15, 13), (0, 12, 19, 95)] 8 147 4 [.ref b, .int a1, .int a2, .int a3, .ref (b + 247)] M (lh_r lc_addShower o) (lh_M o) := by
  refine lh_of hlt (by decide) (Nat.le_of_ble_eq_true rfl) (fun p e s m below meth c ls C hN hT hw hl => ?_)
  have hx := C.1
  have hb := C.2.1
  have hRr := C.2.2.2.2.2.2.2.2.2.1
  refine lv_aload hx hb dL_addShower_0 (lv_at hl 4 rfl) ?_
  refine lv_iconst (v := 0) hx hb dL_addShower_2 (by decide) ?_
  refine lv_aload_n hx hb dL_addShower_3 rfl (lv_at hl 0 rfl) ?_
  refine lv_iload_n hx hb dL_addShower_4 rfl (lv_at hl 1 rfl) ?_
  refine lv_iload_n hx hb dL_addShower_5 rfl (lv_at hl 2 rfl) ?_
  refine lv_iload_n hx hb dL_addShower_6 rfl (lv_at hl 3 rfl) ?_
  refine lh_V C hw hd (c_X5_addShower hlt (cl_s00 hd) h) cy_X5_addShower vy_X5_addShower nl_L_112 rfl rfl hl.1 (As := [.int a1, .int a2, .int a3]) rfl ⟨⟨Nat.le_of_ble_eq_true rfl, Nat.le_of_ble_eq_true rfl⟩, Nat.le_of_ble_eq_true rfl, Nat.le_of_ble_eq_true rfl, Nat.le_of_ble_eq_true rfl⟩ dL_addShower_7 (fun q hq ce q9 H locs hw h9 hv9 hcl => ?_) (fun r M1 hq H locs hw => ?_)
  · obtain ⟨cz, hcz⟩ := ho q hq
    obtain ⟨k, M1⟩ := q
    subst hq
    have hcl : s.vm.findClass (cl_exn k) = some ce.cls := hcl
    have hw : cl_H dd b M1 s H locs := hw
    rcases (show k = 1 ∨ k = 3 from by simp only [lc_addShower, List.mem_cons, List.not_mem_nil, or_false, Prod.mk.injEq] at hcz; omega) with rfl | rfl
    · refine vx_catch C.2.2.2.1 [] { startPc := 0, endPc := 12, handlerPc := 15, catchType := 13 } [{ startPc := 0, endPc := 12, handlerPc := 19, catchType := 95 }] (by rw [hT]; rfl) (fun _ h => absurd h List.not_mem_nil) rfl (by decide) (C.2.2.2.2.1 _ lk_1) (va_Nw.use rfl (hRr.2 _ lq_1)) h9 hv9 hcl ?_
      refine lv_astore (lv' := [(5, .ref q9), (0, .ref b), (1, .int a1), (2, .int a2), (3, .int a3), (4, .ref (b + 247))]) hx hb dL_addShower_15 hl (by decide) rfl (fun ls hl => ?_)
      refine lv_iconst (v := 1) hx hb dL_addShower_17 (by decide) ?_
      exact cr_reti C hw dL_addShower_18
    · refine vx_catch C.2.2.2.1 [{ startPc := 0, endPc := 12, handlerPc := 15, catchType := 13 }] { startPc := 0, endPc := 12, handlerPc := 19, catchType := 95 } [] (by rw [hT]; rfl) (List.forall_mem_cons.mpr ⟨Or.inr ⟨by decide, _, C.2.2.2.2.1 _ lk_1, hN 3 1 (by decide) (by decide) (by decide) (by decide) (by decide)⟩, fun _ h => absurd h List.not_mem_nil⟩) rfl (by decide) (C.2.2.2.2.1 _ lk_3) (va_Nw.use rfl (hRr.2 _ lq_3)) h9 hv9 hcl ?_
      refine lv_astore (lv' := [(5, .ref q9), (0, .ref b), (1, .int a1), (2, .int a2), (3, .int a3), (4, .ref (b + 247))]) hx hb dL_addShower_19 hl (by decide) rfl (fun ls hl => ?_)
      refine lv_iconst (v := 2) hx hb dL_addShower_21 (by decide) ?_
      exact cr_reti C hw dL_addShower_22
  · subst hq
    refine lv_i2l (v := r.toInt64) hx hb dL_addShower_10 rfl ?_
    refine cr_last C hw hd (x := r) rfl rfl dL_addShower_11 (fun H locs hw => ?_)
    refine lv_goto (tgt := 23) hx hb dL_addShower_12 (by decide) ?_
    refine lv_iconst (v := 0) hx hb dL_addShower_23 (by decide) ?_
    exact cr_reti C hw dL_addShower_24
theorem cw_L_addSmoke : Cond.codeWith yL_addSmoke cL_addSmoke 5 (some .int) [(0, 10, 13, 13), (0, 10, 17, 95)] ∈ cl_W := cl_W_in 1185 (by decide +kernel) rfl
theorem sw_L_addSmoke : Cond.static yL_addSmoke ∈ cl_W := cl_W_in 1184 (by decide +kernel) rfl
theorem nl_L_116 : Cond.methodLink RL 116 yX5_addSmoke ∈ cl_W := cl_W_in 1186 (by decide +kernel) rfl
def lc_addSmoke : List (Nat × Nat) := [(1, 1), (3, 2)]
set_option maxHeartbeats 4000000 in
set_option maxRecDepth 100000 in
theorem h_addSmoke {l : Launch} {dd : cl_D} {b : Nat} (hlt : l.stackTraces = false) (hd : cl_K dd = 248) {M : cl_M} {a1 : Int32} {a2 : Int32} {o : Except (Nat × cl_M) (Int32 × cl_M)} (h : f_X5_addSmoke M 0 a1 a2 = some o) (ho : lh_in lc_addSmoke o) : lh_Met l dd b yL_addSmoke cL_addSmoke 5 [(0, 10, 13, 13), (0, 10, 17, 95)] 8 146 3 [.ref b, .int a1, .int a2, .ref (b + 247)] M (lh_r lc_addSmoke o) (lh_M o) := by
  refine lh_of hlt (by decide) (Nat.le_of_ble_eq_true rfl) (fun p e s m below meth c ls C hN hT hw hl => ?_)
  have hx := C.1
  have hb := C.2.1
  have hRr := C.2.2.2.2.2.2.2.2.2.1
  refine lv_aload_n hx hb dL_addSmoke_0 rfl (lv_at hl 3 rfl) ?_
  refine lv_iconst (v := 0) hx hb dL_addSmoke_1 (by decide) ?_
  refine lv_aload_n hx hb dL_addSmoke_2 rfl (lv_at hl 0 rfl) ?_
  refine lv_iload_n hx hb dL_addSmoke_3 rfl (lv_at hl 1 rfl) ?_
  refine lv_iload_n hx hb dL_addSmoke_4 rfl (lv_at hl 2 rfl) ?_
  refine lh_V C hw hd (c_X5_addSmoke hlt (cl_s00 hd) h) cy_X5_addSmoke vy_X5_addSmoke nl_L_116 rfl rfl hl.1 (As := [.int a1, .int a2]) rfl ⟨⟨Nat.le_of_ble_eq_true rfl, Nat.le_of_ble_eq_true rfl⟩, Nat.le_of_ble_eq_true rfl, Nat.le_of_ble_eq_true rfl, Nat.le_of_ble_eq_true rfl⟩ dL_addSmoke_5 (fun q hq ce q9 H locs hw h9 hv9 hcl => ?_) (fun r M1 hq H locs hw => ?_)
  · obtain ⟨cz, hcz⟩ := ho q hq
    obtain ⟨k, M1⟩ := q
    subst hq
    have hcl : s.vm.findClass (cl_exn k) = some ce.cls := hcl
    have hw : cl_H dd b M1 s H locs := hw
    rcases (show k = 1 ∨ k = 3 from by simp only [lc_addSmoke, List.mem_cons, List.not_mem_nil, or_false, Prod.mk.injEq] at hcz; omega) with rfl | rfl
    · refine vx_catch C.2.2.2.1 [] { startPc := 0, endPc := 10, handlerPc := 13, catchType := 13 } [{ startPc := 0, endPc := 10, handlerPc := 17, catchType := 95 }] (by rw [hT]; rfl) (fun _ h => absurd h List.not_mem_nil) rfl (by decide) (C.2.2.2.2.1 _ lk_1) (va_Nw.use rfl (hRr.2 _ lq_1)) h9 hv9 hcl ?_
      refine lv_astore (lv' := [(4, .ref q9), (0, .ref b), (1, .int a1), (2, .int a2), (3, .ref (b + 247))]) hx hb dL_addSmoke_13 hl (by decide) rfl (fun ls hl => ?_)
      refine lv_iconst (v := 1) hx hb dL_addSmoke_15 (by decide) ?_
      exact cr_reti C hw dL_addSmoke_16
    · refine vx_catch C.2.2.2.1 [{ startPc := 0, endPc := 10, handlerPc := 13, catchType := 13 }] { startPc := 0, endPc := 10, handlerPc := 17, catchType := 95 } [] (by rw [hT]; rfl) (List.forall_mem_cons.mpr ⟨Or.inr ⟨by decide, _, C.2.2.2.2.1 _ lk_1, hN 3 1 (by decide) (by decide) (by decide) (by decide) (by decide)⟩, fun _ h => absurd h List.not_mem_nil⟩) rfl (by decide) (C.2.2.2.2.1 _ lk_3) (va_Nw.use rfl (hRr.2 _ lq_3)) h9 hv9 hcl ?_
      refine lv_astore (lv' := [(4, .ref q9), (0, .ref b), (1, .int a1), (2, .int a2), (3, .ref (b + 247))]) hx hb dL_addSmoke_17 hl (by decide) rfl (fun ls hl => ?_)
      refine lv_iconst (v := 2) hx hb dL_addSmoke_19 (by decide) ?_
      exact cr_reti C hw dL_addSmoke_20
  · subst hq
    refine lv_i2l (v := r.toInt64) hx hb dL_addSmoke_8 rfl ?_
    refine cr_last C hw hd (x := r) rfl rfl dL_addSmoke_9 (fun H locs hw => ?_)
    refine lv_goto (tgt := 21) hx hb dL_addSmoke_10 (by decide) ?_
    refine lv_iconst (v := 0) hx hb dL_addSmoke_21 (by decide) ?_
    exact cr_reti C hw dL_addSmoke_22
theorem cw_L_setWind : Cond.codeWith yL_setWind cL_setWind 5 (some .int) [(0, 10, 13, 30), (0, 10, 17, 13)] ∈ cl_W := cl_W_in 1193 (by decide +kernel) rfl
theorem sw_L_setWind : Cond.static yL_setWind ∈ cl_W := cl_W_in 1192 (by decide +kernel) rfl
theorem nl_L_119 : Cond.methodLink RL 119 yX5_setWind ∈ cl_W := cl_W_in 1194 (by decide +kernel) rfl
def lc_setWind : List (Nat × Nat) := [(2, 1), (1, 2)]
set_option maxHeartbeats 4000000 in
set_option maxRecDepth 100000 in
theorem h_setWind {l : Launch} {dd : cl_D} {b : Nat} (hlt : l.stackTraces = false) (hd : cl_K dd = 248) {M : cl_M} {a1 : Int32} {a2 : Int32} {o : Except (Nat × cl_M) (Int32 × cl_M)} (h : f_X5_setWind M 0 a1 a2 = some o) (ho : lh_in lc_setWind o) : lh_Met l dd b yL_setWind cL_setWind 5 [(0, 10, 13, 30), (0, 10, 17, 13)] 8 147 1 [.ref b, .int a1, .int a2, .ref (b + 247)] M (lh_r lc_setWind o) (lh_M o) := by
  refine lh_of hlt (by decide) (Nat.le_of_ble_eq_true rfl) (fun p e s m below meth c ls C hN hT hw hl => ?_)
  have hx := C.1
  have hb := C.2.1
  have hRr := C.2.2.2.2.2.2.2.2.2.1
  refine lv_aload_n hx hb dL_setWind_0 rfl (lv_at hl 3 rfl) ?_
  refine lv_iconst (v := 0) hx hb dL_setWind_1 (by decide) ?_
  refine lv_aload_n hx hb dL_setWind_2 rfl (lv_at hl 0 rfl) ?_
  refine lv_iload_n hx hb dL_setWind_3 rfl (lv_at hl 1 rfl) ?_
  refine lv_iload_n hx hb dL_setWind_4 rfl (lv_at hl 2 rfl) ?_
  refine lh_V C hw hd (c_X5_setWind hlt (cl_s00 hd) h) cy_X5_setWind vy_X5_setWind nl_L_119 rfl rfl hl.1 (As := [.int a1, .int a2]) rfl ⟨⟨Nat.le_of_ble_eq_true rfl, Nat.le_of_ble_eq_true rfl⟩, Nat.le_of_ble_eq_true rfl, Nat.le_of_ble_eq_true rfl, Nat.le_of_ble_eq_true rfl⟩ dL_setWind_5 (fun q hq ce q9 H locs hw h9 hv9 hcl => ?_) (fun r M1 hq H locs hw => ?_)
  · obtain ⟨cz, hcz⟩ := ho q hq
    obtain ⟨k, M1⟩ := q
    subst hq
    have hcl : s.vm.findClass (cl_exn k) = some ce.cls := hcl
    have hw : cl_H dd b M1 s H locs := hw
    rcases (show k = 2 ∨ k = 1 from by simp only [lc_setWind, List.mem_cons, List.not_mem_nil, or_false, Prod.mk.injEq] at hcz; omega) with rfl | rfl
    · refine vx_catch C.2.2.2.1 [] { startPc := 0, endPc := 10, handlerPc := 13, catchType := 30 } [{ startPc := 0, endPc := 10, handlerPc := 17, catchType := 13 }] (by rw [hT]; rfl) (fun _ h => absurd h List.not_mem_nil) rfl (by decide) (C.2.2.2.2.1 _ lk_2) (va_Nw.use rfl (hRr.2 _ lq_2)) h9 hv9 hcl ?_
      refine lv_astore (lv' := [(4, .ref q9), (0, .ref b), (1, .int a1), (2, .int a2), (3, .ref (b + 247))]) hx hb dL_setWind_13 hl (by decide) rfl (fun ls hl => ?_)
      refine lv_iconst (v := 1) hx hb dL_setWind_15 (by decide) ?_
      exact cr_reti C hw dL_setWind_16
    · refine vx_catch C.2.2.2.1 [{ startPc := 0, endPc := 10, handlerPc := 13, catchType := 30 }] { startPc := 0, endPc := 10, handlerPc := 17, catchType := 13 } [] (by rw [hT]; rfl) (List.forall_mem_cons.mpr ⟨Or.inr ⟨by decide, _, C.2.2.2.2.1 _ lk_2, hN 1 2 (by decide) (by decide) (by decide) (by decide) (by decide)⟩, fun _ h => absurd h List.not_mem_nil⟩) rfl (by decide) (C.2.2.2.2.1 _ lk_1) (va_Nw.use rfl (hRr.2 _ lq_1)) h9 hv9 hcl ?_
      refine lv_astore (lv' := [(4, .ref q9), (0, .ref b), (1, .int a1), (2, .int a2), (3, .ref (b + 247))]) hx hb dL_setWind_17 hl (by decide) rfl (fun ls hl => ?_)
      refine lv_iconst (v := 2) hx hb dL_setWind_19 (by decide) ?_
      exact cr_reti C hw dL_setWind_20
  · subst hq
    refine lv_i2l (v := r.toInt64) hx hb dL_setWind_8 rfl ?_
    refine cr_last C hw hd (x := r) rfl rfl dL_setWind_9 (fun H locs hw => ?_)
    refine lv_goto (tgt := 21) hx hb dL_setWind_10 (by decide) ?_
    refine lv_iconst (v := 0) hx hb dL_setWind_21 (by decide) ?_
    exact cr_reti C hw dL_setWind_22
theorem cw_L_passMinutes : Cond.codeWith yL_passMinutes cL_passMinutes 4 (some .int) [(0, 9, 12, 13)] ∈ cl_W := cl_W_in 1201 (by decide +kernel) rfl
theorem sw_L_passMinutes : Cond.static yL_passMinutes ∈ cl_W := cl_W_in 1200 (by decide +kernel) rfl
theorem nl_L_122 : Cond.methodLink RL 122 yX5_passMinutes ∈ cl_W := cl_W_in 1202 (by decide +kernel) rfl
def lc_passMinutes : List (Nat × Nat) := [(1, 1)]
set_option maxHeartbeats 4000000 in
set_option maxRecDepth 100000 in
theorem h_passMinutes {l : Launch} {dd : cl_D} {b : Nat} (hlt : l.stackTraces = false) (hd : cl_K dd = 248) {M : cl_M} {a1 : Int32} {o : Except (Nat × cl_M) (Int32 × cl_M)} (h : f_X5_passMinutes M 0 a1 = some o) (ho : lh_in lc_passMinutes o) : lh_Met l dd b yL_passMinutes cL_passMinutes 4 [(0, 9, 12, 13)] 8 145 1 [.ref b, .int a1, .ref (b + 247)] M (lh_r lc_passMinutes o) (lh_M o) := by
  refine lh_of hlt (by decide) (Nat.le_of_ble_eq_true rfl) (fun p e s m below meth c ls C hN hT hw hl => ?_)
  have hx := C.1
  have hb := C.2.1
  have hRr := C.2.2.2.2.2.2.2.2.2.1
  refine lv_aload_n hx hb dL_passMinutes_0 rfl (lv_at hl 2 rfl) ?_
  refine lv_iconst (v := 0) hx hb dL_passMinutes_1 (by decide) ?_
  refine lv_aload_n hx hb dL_passMinutes_2 rfl (lv_at hl 0 rfl) ?_
  refine lv_iload_n hx hb dL_passMinutes_3 rfl (lv_at hl 1 rfl) ?_
  refine lh_V C hw hd (c_X5_passMinutes hlt (cl_s00 hd) h) cy_X5_passMinutes vy_X5_passMinutes nl_L_122 rfl rfl hl.1 (As := [.int a1]) rfl ⟨⟨Nat.le_of_ble_eq_true rfl, Nat.le_of_ble_eq_true rfl⟩, Nat.le_of_ble_eq_true rfl, Nat.le_of_ble_eq_true rfl, Nat.le_of_ble_eq_true rfl⟩ dL_passMinutes_4 (fun q hq ce q9 H locs hw h9 hv9 hcl => ?_) (fun r M1 hq H locs hw => ?_)
  · obtain ⟨cz, hcz⟩ := ho q hq
    obtain ⟨k, M1⟩ := q
    subst hq
    have hcl : s.vm.findClass (cl_exn k) = some ce.cls := hcl
    have hw : cl_H dd b M1 s H locs := hw
    rcases (show k = 1 from by simp only [lc_passMinutes, List.mem_cons, List.not_mem_nil, or_false, Prod.mk.injEq] at hcz; omega) with rfl
    · refine vx_catch C.2.2.2.1 [] { startPc := 0, endPc := 9, handlerPc := 12, catchType := 13 } [] (by rw [hT]; rfl) (fun _ h => absurd h List.not_mem_nil) rfl (by decide) (C.2.2.2.2.1 _ lk_1) (va_Nw.use rfl (hRr.2 _ lq_1)) h9 hv9 hcl ?_
      refine lv_astore_n (lv' := [(3, .ref q9), (0, .ref b), (1, .int a1), (2, .ref (b + 247))]) hx hb dL_passMinutes_12 rfl hl (by decide) rfl (fun ls hl => ?_)
      refine lv_iconst (v := 1) hx hb dL_passMinutes_13 (by decide) ?_
      exact cr_reti C hw dL_passMinutes_14
  · subst hq
    refine lv_i2l (v := r.toInt64) hx hb dL_passMinutes_7 rfl ?_
    refine cr_last C hw hd (x := r) rfl rfl dL_passMinutes_8 (fun H locs hw => ?_)
    refine lv_goto (tgt := 15) hx hb dL_passMinutes_9 (by decide) ?_
    refine lv_iconst (v := 0) hx hb dL_passMinutes_15 (by decide) ?_
    exact cr_reti C hw dL_passMinutes_16
theorem cw_L_undo : Cond.codeWith yL_undo cL_undo 3 (some .int) [(0, 8, 11, 95)] ∈ cl_W := cl_W_in 1208 (by decide +kernel) rfl
theorem sw_L_undo : Cond.static yL_undo ∈ cl_W := cl_W_in 1207 (by decide +kernel) rfl
theorem nl_L_125 : Cond.methodLink RL 125 yX5_undo ∈ cl_W := cl_W_in 1209 (by decide +kernel) rfl
def lc_undo : List (Nat × Nat) := [(3, 1)]
set_option maxHeartbeats 4000000 in
set_option maxRecDepth 100000 in
theorem h_undo {l : Launch} {dd : cl_D} {b : Nat} (hlt : l.stackTraces = false) (hd : cl_K dd = 248) {M : cl_M} {o : Except (Nat × cl_M) (Int32 × cl_M)} (h : f_X5_undo M 0 = some o) (ho : lh_in lc_undo o) : lh_Met l dd b yL_undo cL_undo 3 [(0, 8, 11, 95)] 8 144 1 [.ref b, .ref (b + 247)] M (lh_r lc_undo o) (lh_M o) := by
  refine lh_of hlt (by decide) (Nat.le_of_ble_eq_true rfl) (fun p e s m below meth c ls C hN hT hw hl => ?_)
  have hx := C.1
  have hb := C.2.1
  have hRr := C.2.2.2.2.2.2.2.2.2.1
  refine lv_aload_n hx hb dL_undo_0 rfl (lv_at hl 1 rfl) ?_
  refine lv_iconst (v := 0) hx hb dL_undo_1 (by decide) ?_
  refine lv_aload_n hx hb dL_undo_2 rfl (lv_at hl 0 rfl) ?_
  refine lh_V C hw hd (c_X5_undo hlt (cl_s00 hd) h) cy_X5_undo vy_X5_undo nl_L_125 rfl rfl hl.1 (As := []) rfl ⟨⟨Nat.le_of_ble_eq_true rfl, Nat.le_of_ble_eq_true rfl⟩, Nat.le_of_ble_eq_true rfl, Nat.le_of_ble_eq_true rfl, Nat.le_of_ble_eq_true rfl⟩ dL_undo_3 (fun q hq ce q9 H locs hw h9 hv9 hcl => ?_) (fun r M1 hq H locs hw => ?_)
  · obtain ⟨cz, hcz⟩ := ho q hq
    obtain ⟨k, M1⟩ := q
    subst hq
    have hcl : s.vm.findClass (cl_exn k) = some ce.cls := hcl
    have hw : cl_H dd b M1 s H locs := hw
    rcases (show k = 3 from by simp only [lc_undo, List.mem_cons, List.not_mem_nil, or_false, Prod.mk.injEq] at hcz; omega) with rfl
    · refine vx_catch C.2.2.2.1 [] { startPc := 0, endPc := 8, handlerPc := 11, catchType := 95 } [] (by rw [hT]; rfl) (fun _ h => absurd h List.not_mem_nil) rfl (by decide) (C.2.2.2.2.1 _ lk_3) (va_Nw.use rfl (hRr.2 _ lq_3)) h9 hv9 hcl ?_
      refine lv_astore_n (lv' := [(2, .ref q9), (0, .ref b), (1, .ref (b + 247))]) hx hb dL_undo_11 rfl hl (by decide) rfl (fun ls hl => ?_)
      refine lv_iconst (v := 1) hx hb dL_undo_12 (by decide) ?_
      exact cr_reti C hw dL_undo_13
  · subst hq
    refine lv_i2l (v := r.toInt64) hx hb dL_undo_6 rfl ?_
    refine cr_last C hw hd (x := r) rfl rfl dL_undo_7 (fun H locs hw => ?_)
    refine lv_goto (tgt := 14) hx hb dL_undo_8 (by decide) ?_
    refine lv_iconst (v := 0) hx hb dL_undo_14 (by decide) ?_
    exact cr_reti C hw dL_undo_15
theorem cw_L_save : Cond.codeWith yL_save cL_save 4 (some .int) [(0, 9, 12, 13)] ∈ cl_W := cl_W_in 1219 (by decide +kernel) rfl
theorem sw_L_save : Cond.static yL_save ∈ cl_W := cl_W_in 1218 (by decide +kernel) rfl
theorem nl_L_129 : Cond.methodLink RL 129 yX5_save ∈ cl_W := cl_W_in 1220 (by decide +kernel) rfl
def lc_save : List (Nat × Nat) := [(1, 1)]
set_option maxHeartbeats 4000000 in
set_option maxRecDepth 100000 in
theorem h_save {l : Launch} {dd : cl_D} {b : Nat} (hlt : l.stackTraces = false) (hd : cl_K dd = 248) {M : cl_M} {a1 : Int32} {o : Except (Nat × cl_M) (Int32 × cl_M)} (h : f_X5_save M 0 a1 = some o) (ho : lh_in lc_save o) : lh_Met l dd b yL_save cL_save 4 [(0, 9, 12, 13)] 8 133 1 [.ref b, .int a1, .ref (b + 247)] M (lh_r lc_save o) (lh_M o) := by
  refine lh_of hlt (by decide) (Nat.le_of_ble_eq_true rfl) (fun p e s m below meth c ls C hN hT hw hl => ?_)
  have hx := C.1
  have hb := C.2.1
  have hRr := C.2.2.2.2.2.2.2.2.2.1
  refine lv_aload_n hx hb dL_save_0 rfl (lv_at hl 2 rfl) ?_
  refine lv_iconst (v := 0) hx hb dL_save_1 (by decide) ?_
  refine lv_aload_n hx hb dL_save_2 rfl (lv_at hl 0 rfl) ?_
  refine lv_iload_n hx hb dL_save_3 rfl (lv_at hl 1 rfl) ?_
  refine lh_V C hw hd (c_X5_save hlt (cl_s00 hd) h) cy_X5_save vy_X5_save nl_L_129 rfl rfl hl.1 (As := [.int a1]) rfl ⟨⟨Nat.le_of_ble_eq_true rfl, Nat.le_of_ble_eq_true rfl⟩, Nat.le_of_ble_eq_true rfl, Nat.le_of_ble_eq_true rfl, Nat.le_of_ble_eq_true rfl⟩ dL_save_4 (fun q hq ce q9 H locs hw h9 hv9 hcl => ?_) (fun r M1 hq H locs hw => ?_)
  · obtain ⟨cz, hcz⟩ := ho q hq
    obtain ⟨k, M1⟩ := q
    subst hq
    have hcl : s.vm.findClass (cl_exn k) = some ce.cls := hcl
    have hw : cl_H dd b M1 s H locs := hw
    rcases (show k = 1 from by simp only [lc_save, List.mem_cons, List.not_mem_nil, or_false, Prod.mk.injEq] at hcz; omega) with rfl
    · refine vx_catch C.2.2.2.1 [] { startPc := 0, endPc := 9, handlerPc := 12, catchType := 13 } [] (by rw [hT]; rfl) (fun _ h => absurd h List.not_mem_nil) rfl (by decide) (C.2.2.2.2.1 _ lk_1) (va_Nw.use rfl (hRr.2 _ lq_1)) h9 hv9 hcl ?_
      refine lv_astore_n (lv' := [(3, .ref q9), (0, .ref b), (1, .int a1), (2, .ref (b + 247))]) hx hb dL_save_12 rfl hl (by decide) rfl (fun ls hl => ?_)
      refine lv_iconst (v := 1) hx hb dL_save_13 (by decide) ?_
      exact cr_reti C hw dL_save_14
  · subst hq
    refine lv_i2l (v := r.toInt64) hx hb dL_save_7 rfl ?_
    refine cr_last C hw hd (x := r) rfl rfl dL_save_8 (fun H locs hw => ?_)
    refine lv_goto (tgt := 15) hx hb dL_save_9 (by decide) ?_
    refine lv_iconst (v := 0) hx hb dL_save_15 (by decide) ?_
    exact cr_reti C hw dL_save_16
theorem cw_L_restore : Cond.codeWith yL_restore cL_restore 4 (some .int) [(0, 9, 12, 13), (0, 9, 15, 135)] ∈ cl_W := cl_W_in 1226 (by decide +kernel) rfl
theorem sw_L_restore : Cond.static yL_restore ∈ cl_W := cl_W_in 1225 (by decide +kernel) rfl
theorem nl_L_132 : Cond.methodLink RL 132 yX5_restore ∈ cl_W := cl_W_in 1228 (by decide +kernel) rfl
def lc_restore : List (Nat × Nat) := [(1, 1), (4, 2)]
set_option maxHeartbeats 4000000 in
set_option maxRecDepth 100000 in
theorem h_restore {l : Launch} {dd : cl_D} {b : Nat} (hlt : l.stackTraces = false) (hd : cl_K dd = 248) {M : cl_M} {a1 : Int32} {o : Except (Nat × cl_M) (Int32 × cl_M)} (h : f_X5_restore M 0 a1 = some o) (ho : lh_in lc_restore o) : lh_Met l dd b yL_restore cL_restore 4 [(0, 9, 12, 13), (0, 9, 15, 135)] 8 133 2 [.ref b, .int a1, .ref (b + 247)] M (lh_r lc_restore o) (lh_M o) := by
  refine lh_of hlt (by decide) (Nat.le_of_ble_eq_true rfl) (fun p e s m below meth c ls C hN hT hw hl => ?_)
  have hx := C.1
  have hb := C.2.1
  have hRr := C.2.2.2.2.2.2.2.2.2.1
  refine lv_aload_n hx hb dL_restore_0 rfl (lv_at hl 2 rfl) ?_
  refine lv_iconst (v := 0) hx hb dL_restore_1 (by decide) ?_
  refine lv_aload_n hx hb dL_restore_2 rfl (lv_at hl 0 rfl) ?_
  refine lv_iload_n hx hb dL_restore_3 rfl (lv_at hl 1 rfl) ?_
  refine lh_V C hw hd (c_X5_restore hlt (cl_s00 hd) h) cy_X5_restore vy_X5_restore nl_L_132 rfl rfl hl.1 (As := [.int a1]) rfl ⟨⟨Nat.le_of_ble_eq_true rfl, Nat.le_of_ble_eq_true rfl⟩, Nat.le_of_ble_eq_true rfl, Nat.le_of_ble_eq_true rfl, Nat.le_of_ble_eq_true rfl⟩ dL_restore_4 (fun q hq ce q9 H locs hw h9 hv9 hcl => ?_) (fun r M1 hq H locs hw => ?_)
  · obtain ⟨cz, hcz⟩ := ho q hq
    obtain ⟨k, M1⟩ := q
    subst hq
    have hcl : s.vm.findClass (cl_exn k) = some ce.cls := hcl
    have hw : cl_H dd b M1 s H locs := hw
    rcases (show k = 1 ∨ k = 4 from by simp only [lc_restore, List.mem_cons, List.not_mem_nil, or_false, Prod.mk.injEq] at hcz; omega) with rfl | rfl
    · refine vx_catch C.2.2.2.1 [] { startPc := 0, endPc := 9, handlerPc := 12, catchType := 13 } [{ startPc := 0, endPc := 9, handlerPc := 15, catchType := 135 }] (by rw [hT]; rfl) (fun _ h => absurd h List.not_mem_nil) rfl (by decide) (C.2.2.2.2.1 _ lk_1) (va_Nw.use rfl (hRr.2 _ lq_1)) h9 hv9 hcl ?_
      refine lv_astore_n (lv' := [(3, .ref q9), (0, .ref b), (1, .int a1), (2, .ref (b + 247))]) hx hb dL_restore_12 rfl hl (by decide) rfl (fun ls hl => ?_)
      refine lv_iconst (v := 1) hx hb dL_restore_13 (by decide) ?_
      exact cr_reti C hw dL_restore_14
    · refine vx_catch C.2.2.2.1 [{ startPc := 0, endPc := 9, handlerPc := 12, catchType := 13 }] { startPc := 0, endPc := 9, handlerPc := 15, catchType := 135 } [] (by rw [hT]; rfl) (List.forall_mem_cons.mpr ⟨Or.inr ⟨by decide, _, C.2.2.2.2.1 _ lk_1, hN 4 1 (by decide) (by decide) (by decide) (by decide) (by decide)⟩, fun _ h => absurd h List.not_mem_nil⟩) rfl (by decide) (C.2.2.2.2.1 _ lk_4) (va_Nw.use rfl (hRr.2 _ lq_4)) h9 hv9 hcl ?_
      refine lv_astore_n (lv' := [(3, .ref q9), (0, .ref b), (1, .int a1), (2, .ref (b + 247))]) hx hb dL_restore_15 rfl hl (by decide) rfl (fun ls hl => ?_)
      refine lv_iconst (v := 2) hx hb dL_restore_16 (by decide) ?_
      exact cr_reti C hw dL_restore_17
  · subst hq
    refine lv_i2l (v := r.toInt64) hx hb dL_restore_7 rfl ?_
    refine cr_last C hw hd (x := r) rfl rfl dL_restore_8 (fun H locs hw => ?_)
    refine lv_goto (tgt := 18) hx hb dL_restore_9 (by decide) ?_
    refine lv_iconst (v := 0) hx hb dL_restore_18 (by decide) ?_
    exact cr_reti C hw dL_restore_19
