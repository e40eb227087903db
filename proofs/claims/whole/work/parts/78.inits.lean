/-! the constructors of the class: words, contracts, walks -/
theorem cd_X5_init : Cond.code yX5_init cX5_init 2 none ∈ cl_W := cl_W_in 113 (by decide +kernel) rfl
theorem im_X5_init : Cond.instanceMethod yX5_init ∈ cl_W := cl_W_in 112 (by decide +kernel) rfl
theorem ob_X5 : Cond.methodLink RX5 1 Lib.objectInit ∈ cl_W := cl_W_in 114 (by decide +kernel) rfl
theorem is_X5 : Cond.instantiable RX5 8 ∈ cl_W := cl_W_in 110 (by decide +kernel) rfl
theorem cy_X5_init : cl_cy yX5_init cX5_init 2 none 0 := ⟨in_ClothesLine, cd_X5_init, by decide +kernel, by decide +kernel, by decide +kernel⟩
theorem cd_X3_init : Cond.code yX3_init cX3_init 1 none ∈ cl_W := cl_W_in 121 (by decide +kernel) rfl
theorem im_X3_init : Cond.instanceMethod yX3_init ∈ cl_W := cl_W_in 120 (by decide +kernel) rfl
theorem ob_X3 : Cond.methodLink RX3 3 Lib.objectInit ∈ cl_W := cl_W_in 122 (by decide +kernel) rfl
theorem is_X3 : Cond.instantiable RX3 10 ∈ cl_W := cl_W_in 118 (by decide +kernel) rfl
theorem cy_X3_init : cl_cy yX3_init cX3_init 1 none 0 := ⟨in_ClothesLine_TextReader, cd_X3_init, by decide +kernel, by decide +kernel, by decide +kernel⟩
theorem cd_X2_init : Cond.code yX2_init cX2_init 2 none ∈ cl_W := cl_W_in 161 (by decide +kernel) rfl
theorem im_X2_init : Cond.instanceMethod yX2_init ∈ cl_W := cl_W_in 160 (by decide +kernel) rfl
theorem ob_X2 : Cond.methodLink RX2 3 Lib.objectInit ∈ cl_W := cl_W_in 162 (by decide +kernel) rfl
theorem is_X2 : Cond.instantiable RX2 6 ∈ cl_W := cl_W_in 158 (by decide +kernel) rfl
theorem cy_X2_init : cl_cy yX2_init cX2_init 2 none 0 := ⟨in_ClothesLine_Line, cd_X2_init, by decide +kernel, by decide +kernel, by decide +kernel⟩
theorem cd_X4_init : Cond.code yX4_init cX4_init 1 none ∈ cl_W := cl_W_in 167 (by decide +kernel) rfl
theorem im_X4_init : Cond.instanceMethod yX4_init ∈ cl_W := cl_W_in 166 (by decide +kernel) rfl
theorem ob_X4 : Cond.methodLink RX4 3 Lib.objectInit ∈ cl_W := cl_W_in 168 (by decide +kernel) rfl
theorem is_X4 : Cond.instantiable RX4 10 ∈ cl_W := cl_W_in 164 (by decide +kernel) rfl
theorem cy_X4_init : cl_cy yX4_init cX4_init 1 none 0 := ⟨in_ClothesLine_Weather, cd_X4_init, by decide +kernel, by decide +kernel, by decide +kernel⟩
theorem cd_X0_init : Cond.code yX0_init cX0_init 1 none ∈ cl_W := cl_W_in 214 (by decide +kernel) rfl
theorem im_X0_init : Cond.instanceMethod yX0_init ∈ cl_W := cl_W_in 213 (by decide +kernel) rfl
theorem ob_X0 : Cond.methodLink RX0 3 Lib.objectInit ∈ cl_W := cl_W_in 215 (by decide +kernel) rfl
theorem is_X0 : Cond.instantiable RX0 15 ∈ cl_W := cl_W_in 211 (by decide +kernel) rfl
theorem cy_X0_init : cl_cy yX0_init cX0_init 1 none 0 := ⟨in_ClothesLine_Garment, cd_X0_init, by decide +kernel, by decide +kernel, by decide +kernel⟩
theorem cd_X1_init : Cond.code yX1_init cX1_init 2 none ∈ cl_W := cl_W_in 312 (by decide +kernel) rfl
theorem im_X1_init : Cond.instanceMethod yX1_init ∈ cl_W := cl_W_in 311 (by decide +kernel) rfl
theorem ob_X1 : Cond.methodLink RX1 3 Lib.objectInit ∈ cl_W := cl_W_in 313 (by decide +kernel) rfl
theorem is_X1 : Cond.instantiable RX1 3 ∈ cl_W := cl_W_in 309 (by decide +kernel) rfl
theorem cy_X1_init : cl_cy yX1_init cX1_init 2 none 0 := ⟨in_ClothesLine_History, cd_X1_init, by decide +kernel, by decide +kernel, by decide +kernel⟩
theorem cd_X6_init : Cond.code yX6_init cX6_init 3 none ∈ cl_W := cl_W_in 1252 (by decide +kernel) rfl
theorem im_X6_init : Cond.instanceMethod yX6_init ∈ cl_W := cl_W_in 1251 (by decide +kernel) rfl
theorem ob_X6 : Cond.methodLink RX6 1 Lib.objectInit ∈ cl_W := cl_W_in 1253 (by decide +kernel) rfl
theorem is_X6 : Cond.instantiable RX6 19 ∈ cl_W := cl_W_in 1249 (by decide +kernel) rfl
theorem cy_X6_init : cl_cy yX6_init cX6_init 3 none 0 := ⟨in_ClothesLineModel, cd_X6_init, by decide +kernel, by decide +kernel, by decide +kernel⟩
theorem im_obj : Cond.instanceMethod Lib.objectInit ∈ cl_W := cl_W_in 115 (by decide +kernel) rfl
theorem cd_obj : Cond.code Lib.objectInit ⟨#[0xb1]⟩ 1 none ∈ cl_W := cl_W_in 116 (by decide +kernel) rfl
theorem mi_X5_18 : Cond.methodLink RX5 18 yX2_init ∈ cl_W := cl_W_in 159 (by decide +kernel) rfl
theorem mi_X5_28 : Cond.methodLink RX5 28 yX1_init ∈ cl_W := cl_W_in 310 (by decide +kernel) rfl
theorem mi_X1_17 : Cond.methodLink RX1 17 yX2_init ∈ cl_W := cl_W_in 316 (by decide +kernel) rfl
theorem mi_X5_9 : Cond.methodLinkNest RX5 9 yX3_init "ClothesLine" ∈ cl_N := cl_N_in 119 (by decide +kernel) rfl
theorem mi_X2_11 : Cond.methodLinkNest RX2 11 yX4_init "ClothesLine" ∈ cl_N := cl_N_in 165 (by decide +kernel) rfl
theorem mi_X2_24 : Cond.methodLinkNest RX2 24 yX0_init "ClothesLine" ∈ cl_N := cl_N_in 212 (by decide +kernel) rfl
theorem ck_X5_7 : Cond.classLink RX5 7 RX3 ∈ cl_W := cl_W_in 117 (by decide +kernel) rfl
theorem ck_X5_16 : Cond.classLink RX5 16 RX2 ∈ cl_W := cl_W_in 157 (by decide +kernel) rfl
theorem ck_X2_9 : Cond.classLink RX2 9 RX4 ∈ cl_W := cl_W_in 163 (by decide +kernel) rfl
theorem ck_X2_18 : Cond.classLink RX2 18 RX0 ∈ cl_W := cl_W_in 209 (by decide +kernel) rfl
theorem ck_X5_26 : Cond.classLink RX5 26 RX1 ∈ cl_W := cl_W_in 308 (by decide +kernel) rfl
theorem ck_X1_9 : Cond.classLink RX1 9 RX2 ∈ cl_W := cl_W_in 314 (by decide +kernel) rfl
theorem ac_int : Cond.arrayClass .int ∈ cl_W := cl_W_in 156 (by decide +kernel) rfl
theorem ac_boolean : Cond.arrayClass .boolean ∈ cl_W := cl_W_in 642 (by decide +kernel) rfl
theorem ac_long : Cond.arrayClass .long ∈ cl_W := cl_W_in 1884 (by decide +kernel) rfl
/-- a cell of a shape, as the constructors leave it -/
def nw_r (s : Nat) : Nat → Int32 := fun j => if s = 0 ∧ j = 7 ∨ s = 3 ∧ j = 9 ∨ s = 6 ∧ j = 3 then -1 else 0
def nw_e (dd : cl_D) (s ln b t : Nat) (r : Nat → Int32) : va_E := match s with
  | 0 => .inr (0, cl_f0 b t r)
  | 1 => .inr (1, cl_f1 b t r)
  | 2 => .inr (2, cl_f2 b t r)
  | 3 => .inr (3, cl_f3 b t r)
  | 4 => .inr (4, cl_f4 b t r)
  | 5 => .inr (5, cl_f5 b t r)
  | 6 => .inr (6, cl_f6 b t r)
  | 7 => .inl (dd.2.1 0, ln, .inl r)
  | 8 => .inl (dd.2.1 1, ln, .inl r)
  | 9 => .inl (dd.2.1 2, ln, .inr (.inr (.inr (.inr (fun j => if j < ln then some (b + (t + 1 + j)) else none)))))
  | 10 => .inl (dd.2.1 3, ln, .inr (.inr (.inr (.inr (fun j => if j < ln then some (b + (t + 1 + 19 * j)) else none)))))
  | 11 => .inl (dd.2.1 3, ln, .inr (.inr (.inr (.inr (fun j => if j < ln then some (b + (t + 3 + 19 * j)) else none)))))
  | _ => .inl (dd.2.1 4, 1, .inr (.inl (fun j => (r j).toInt64)))
def nw_E (dd : cl_D) (a t0 : Nat) : Nat → va_E := fun k => nw_e dd (cl_s0 (t0 + k)) (cl_ln (t0 + k)) a k (nw_r (cl_s0 (t0 + k)))
theorem nw_e_shift (dd : cl_D) (s ln a q j : Nat) (r : Nat → Int32) : nw_e dd s ln (a + q) j r = nw_e dd s ln a (q + j) r := by
  have e : ∀ x, a + q + (j + x) = a + (q + j + x) := fun x => by omega
  have e2 : ∀ x y, a + q + (j + x + y) = a + (q + j + x + y) := fun x y => by omega
  unfold nw_e
  split <;> simp only [cl_f0, cl_f1, cl_f2, cl_f3, cl_f4, cl_f5, cl_f6, e, e2]
theorem nw_E_at {dd : cl_D} {a t0 tc q j : Nat} (hs : cl_s0 (tc + j) = cl_s0 (t0 + (q + j))) (hl : cl_ln (tc + j) = cl_ln (t0 + (q + j))) : nw_E dd (a + q) tc j = nw_E dd a t0 (q + j) := by
  unfold nw_E
  rw [nw_e_shift, hs, hl]
/-- while an array of references is being filled -/
def nw_F (dd : cl_D) (a t0 tA : Nat) (cA : ClassId) (N p st i : Nat) : Nat → va_E := fun k => if k = tA then .inl (cA, N, .inr (.inr (.inr (.inr (fun j => if j < i then some (a + (p + st * j)) else none))))) else nw_E dd a t0 k
theorem nw_F_step {dd : cl_D} {a t0 tA tc N p st i n : Nat} {cA : ClassId} {x : Int32} (hx : x.toNatClampNeg = i) (hA : tA < n) (hn : n = p + st * i) (hs : ∀ j, j < st → cl_s0 (tc + j) = cl_s0 (t0 + (n + j)) ∧ cl_ln (tc + j) = cl_ln (t0 + (n + j))) {E : Nat → va_E} (hE : ∀ k, k < n → E k = nw_F dd a t0 tA cA N p st i k) {f : Nat → Option Nat} (hf : f = fun j => if j < i then some (a + (p + st * j)) else none) :
    ∀ k, k < n + st → va_up (nw_app n E (nw_E dd (a + n) tc)) tA (.inl (cA, N, .inr (.inr (.inr (.inr (va_up f x.toNatClampNeg (some (a + n)))))))) k = nw_F dd a t0 tA cA N p st (i + 1) k := by
  intro k hk
  unfold nw_F va_up
  by_cases q : k = tA
  · rw [if_pos q, if_pos q, hf, hx]
    congr 7
    funext j
    by_cases q2 : j = i
    · rw [if_pos q2, q2, if_pos (by omega), hn]
    · rw [if_neg q2]
      show (if j < i then some (a + (p + st * j)) else none) = _
      by_cases q3 : j < i
      · rw [if_pos q3, if_pos (by omega)]
      · rw [if_neg q3, if_neg (by omega)]
  · rw [if_neg q, if_neg q]
    unfold nw_app
    by_cases q2 : k < n
    · rw [if_pos q2, hE k q2, nw_F, if_neg q]
    · rw [if_neg q2]
      obtain ⟨j, rfl⟩ : ∃ j, k = n + j := ⟨k - n, by omega⟩
      rw [show n + j - n = j by omega]
      exact nw_E_at (hs j (by omega)).1 (hs j (by omega)).2
theorem nw_app_lt {n k : Nat} {E E1 : Nat → va_E} (h : k < n) : nw_app n E E1 k = E k := if_pos h
theorem nw_app_ge {n j : Nat} {E E1 : Nat → va_E} : nw_app n E E1 (n + j) = E1 j := by
  unfold nw_app
  rw [if_neg (by omega), show n + j - n = j by omega]
theorem nw_up_s {E : Nat → va_E} {t : Nat} {x : va_E} : va_up E t x t = x := by simp [va_up]
theorem nw_up_n {E : Nat → va_E} {t k : Nat} {x : va_E} (h : k ≠ t) : va_up E t x k = E k := by simp [va_up, h]
theorem nw_ge {i n : Nat} (hi : i < n) (hn : n < 2 ^ 31) : ¬ (nI n ≤ nI i) := fun q => absurd ((nI_leI (by omega) (by omega)).mp q) (by omega)
def nw_00 : List Value := [.int 0, .int 0, .int 0, .int 0, .int 0, .int 0, .int 0, .int 0, .int 0, .int 0, .int 0, .int 0, .int 0, .int 0, .int 0]
theorem nw_d0 : ∀ j, j < 15 → defaultValue (tyX0 j) = vp_V nw_00 j := by decide +kernel
def nw_01 : List Value := [.null, .int 0, .int 0]
theorem nw_d1 : ∀ j, j < 3 → defaultValue (tyX1 j) = vp_V nw_01 j := by decide +kernel
def nw_02 : List Value := [.int 0, .int 0, .int 0, .int 0, .null, .null]
theorem nw_d2 : ∀ j, j < 6 → defaultValue (tyX2 j) = vp_V nw_02 j := by decide +kernel
def nw_03 : List Value := [.null, .int 0, .int 0, .int 0, .int 0, .int 0, .int 0, .null, .int 0, .int 0]
theorem nw_d3 : ∀ j, j < 10 → defaultValue (tyX3 j) = vp_V nw_03 j := by decide +kernel
def nw_04 : List Value := [.int 0, .null, .int 0, .null, .null, .null, .int 0, .null, .null, .int 0]
theorem nw_d4 : ∀ j, j < 10 → defaultValue (tyX4 j) = vp_V nw_04 j := by decide +kernel
def nw_05 : List Value := [.null, .null, .null, .null, .null, .null, .null, .int 0]
theorem nw_d5 : ∀ j, j < 8 → defaultValue (tyX5 j) = vp_V nw_05 j := by decide +kernel
def nw_06 : List Value := [.null, .int 0, .int 0, .int 0, .int 0, .null, .null, .null, .null, .int 0, .null, .null, .null, .null, .int 0, .int 0, .int 0, .int 0, .int 0]
theorem nw_d6 : ∀ j, j < 19 → defaultValue (tyX6 j) = vp_V nw_06 j := by decide +kernel
set_option maxHeartbeats 4000000 in
set_option maxRecDepth 100000 in
theorem c_X0_init (l : Launch) (hlt : l.stackTraces = false) (dd : cl_D) (a : Nat) : nw_M l dd a yX0_init cX0_init 1 1 0 0 12 (.inr (0, nw_00)) 1 (nw_E dd a 13) := by
  refine nw_of hlt (by decide) rfl (Nat.le_of_ble_eq_true rfl) (fun p e s m below meth c ls C hA hin hz hw hl => ?_)
  have hx := C.1
  have hb := C.2.1
  refine lv_aload_n hx hb dX0_init_0 rfl (lv_at hl 0 rfl) ?_
  refine nw_obj C ob_X0 im_obj cd_obj hl.1 ⟨Nat.le_of_ble_eq_true rfl, Nat.le_of_ble_eq_true rfl⟩ dX0_init_1 ?_
  refine lv_aload_n hx hb dX0_init_4 rfl (lv_at hl 0 rfl) ?_
  refine lv_iconst (v := -1) hx hb dX0_init_5 (by decide) ?_
  refine nw_put C hw (t := 0) (by omega) rfl rfl cl_inW0 tyX0 tyX0_ok nmX0 7 (by decide) fl_X0_9 rfl rfl rfl rfl (Nat.le_of_ble_eq_true rfl) rfl dX0_init_6 (fun H locs hw => ?_)
  exact nw_ret C hw (fun k hk => by rw [show k = 0 by omega]; rfl) dX0_init_9
set_option maxHeartbeats 4000000 in
set_option maxRecDepth 100000 in
theorem c_X4_init (l : Launch) (hlt : l.stackTraces = false) (dd : cl_D) (a : Nat) : nw_M l dd a yX4_init cX4_init 1 1 6 28 12 (.inr (4, nw_04)) 7 (nw_E dd a 5) := by
  refine nw_of hlt (by decide) rfl (Nat.le_of_ble_eq_true rfl) (fun p e s m below meth c ls C hA hin hz hw hl => ?_)
  have hx := C.1
  have hb := C.2.1
  refine lv_aload_n hx hb dX4_init_0 rfl (lv_at hl 0 rfl) ?_
  refine nw_obj C ob_X4 im_obj cd_obj hl.1 ⟨Nat.le_of_ble_eq_true rfl, Nat.le_of_ble_eq_true rfl⟩ dX4_init_1 ?_
  refine lv_aload_n hx hb dX4_init_4 rfl (lv_at hl 0 rfl) ?_
  refine lv_bipush (v := 8) hx hb dX4_init_5 (by decide) ?_
  refine nw_newi C hw (by omega) (Or.inl (by omega)) ac_int (N := 8) (by decide) (by decide) (by decide) ⟨Nat.le_of_ble_eq_true rfl, Nat.le_of_ble_eq_true rfl⟩ dX4_init_7 (fun H hw => ?_)
  refine nw_putF C hw hin (t := 0) (by omega) rfl rfl cl_inW4 tyX4 tyX4_ok nmX4 1 (by decide) fl_X4_9 rfl rfl rfl rfl rfl (Nat.le_of_ble_eq_true rfl) rfl dX4_init_9 (fun H locs hw => ?_)
  refine lv_aload_n hx hb dX4_init_12 rfl (lv_at hl 0 rfl) ?_
  refine lv_iconst (v := 4) hx hb dX4_init_13 (by decide) ?_
  refine nw_newi C hw (by omega) (Or.inl (by omega)) ac_int (N := 4) (by decide) (by decide) (by decide) ⟨Nat.le_of_ble_eq_true rfl, Nat.le_of_ble_eq_true rfl⟩ dX4_init_14 (fun H hw => ?_)
  refine nw_putF C hw hin (t := 0) (by omega) rfl rfl cl_inW4 tyX4 tyX4_ok nmX4 3 (by decide) fl_X4_15 rfl rfl rfl rfl rfl (Nat.le_of_ble_eq_true rfl) rfl dX4_init_16 (fun H locs hw => ?_)
  refine lv_aload_n hx hb dX4_init_19 rfl (lv_at hl 0 rfl) ?_
  refine lv_iconst (v := 4) hx hb dX4_init_20 (by decide) ?_
  refine nw_newi C hw (by omega) (Or.inl (by omega)) ac_int (N := 4) (by decide) (by decide) (by decide) ⟨Nat.le_of_ble_eq_true rfl, Nat.le_of_ble_eq_true rfl⟩ dX4_init_21 (fun H hw => ?_)
  refine nw_putF C hw hin (t := 0) (by omega) rfl rfl cl_inW4 tyX4 tyX4_ok nmX4 4 (by decide) fl_X4_18 rfl rfl rfl rfl rfl (Nat.le_of_ble_eq_true rfl) rfl dX4_init_23 (fun H locs hw => ?_)
  refine lv_aload_n hx hb dX4_init_26 rfl (lv_at hl 0 rfl) ?_
  refine lv_iconst (v := 4) hx hb dX4_init_27 (by decide) ?_
  refine nw_newi C hw (by omega) (Or.inl (by omega)) ac_int (N := 4) (by decide) (by decide) (by decide) ⟨Nat.le_of_ble_eq_true rfl, Nat.le_of_ble_eq_true rfl⟩ dX4_init_28 (fun H hw => ?_)
  refine nw_putF C hw hin (t := 0) (by omega) rfl rfl cl_inW4 tyX4 tyX4_ok nmX4 5 (by decide) fl_X4_21 rfl rfl rfl rfl rfl (Nat.le_of_ble_eq_true rfl) rfl dX4_init_30 (fun H locs hw => ?_)
  refine lv_aload_n hx hb dX4_init_33 rfl (lv_at hl 0 rfl) ?_
  refine lv_iconst (v := 4) hx hb dX4_init_34 (by decide) ?_
  refine nw_newi C hw (by omega) (Or.inl (by omega)) ac_int (N := 4) (by decide) (by decide) (by decide) ⟨Nat.le_of_ble_eq_true rfl, Nat.le_of_ble_eq_true rfl⟩ dX4_init_35 (fun H hw => ?_)
  refine nw_putF C hw hin (t := 0) (by omega) rfl rfl cl_inW4 tyX4 tyX4_ok nmX4 7 (by decide) fl_X4_24 rfl rfl rfl rfl rfl (Nat.le_of_ble_eq_true rfl) rfl dX4_init_37 (fun H locs hw => ?_)
  refine lv_aload_n hx hb dX4_init_40 rfl (lv_at hl 0 rfl) ?_
  refine lv_iconst (v := 4) hx hb dX4_init_41 (by decide) ?_
  refine nw_newi C hw (by omega) (Or.inl (by omega)) ac_int (N := 4) (by decide) (by decide) (by decide) ⟨Nat.le_of_ble_eq_true rfl, Nat.le_of_ble_eq_true rfl⟩ dX4_init_42 (fun H hw => ?_)
  refine nw_putF C hw hin (t := 0) (by omega) rfl rfl cl_inW4 tyX4 tyX4_ok nmX4 8 (by decide) fl_X4_27 rfl rfl rfl rfl rfl (Nat.le_of_ble_eq_true rfl) rfl dX4_init_44 (fun H locs hw => ?_)
  exact nw_ret C hw (fun k hk => by rcases (show k = 0 ∨ k = 1 ∨ k = 2 ∨ k = 3 ∨ k = 4 ∨ k = 5 ∨ k = 6 by omega) with rfl | rfl | rfl | rfl | rfl | rfl | rfl <;> rfl) dX4_init_47
set_option maxHeartbeats 4000000 in
set_option maxRecDepth 100000 in
theorem c_X3_init (l : Launch) (hlt : l.stackTraces = false) (dd : cl_D) (a : Nat) : nw_M l dd a yX3_init cX3_init 1 1 2 704 12 (.inr (3, nw_03)) 3 (nw_E dd a 1) := by
  refine nw_of hlt (by decide) rfl (Nat.le_of_ble_eq_true rfl) (fun p e s m below meth c ls C hA hin hz hw hl => ?_)
  have hx := C.1
  have hb := C.2.1
  refine lv_aload_n hx hb dX3_init_0 rfl (lv_at hl 0 rfl) ?_
  refine nw_obj C ob_X3 im_obj cd_obj hl.1 ⟨Nat.le_of_ble_eq_true rfl, Nat.le_of_ble_eq_true rfl⟩ dX3_init_1 ?_
  refine lv_aload_n hx hb dX3_init_4 rfl (lv_at hl 0 rfl) ?_
  refine lv_sipush (v := 700) hx hb dX3_init_5 (by decide) ?_
  refine nw_newi C hw (by omega) (Or.inl (by omega)) ac_int (N := 700) (by decide) (by decide) (by decide) ⟨Nat.le_of_ble_eq_true rfl, Nat.le_of_ble_eq_true rfl⟩ dX3_init_8 (fun H hw => ?_)
  refine nw_putF C hw hin (t := 0) (by omega) rfl rfl cl_inW3 tyX3 tyX3_ok nmX3 0 (by decide) fl_X3_9 rfl rfl rfl rfl rfl (Nat.le_of_ble_eq_true rfl) rfl dX3_init_10 (fun H locs hw => ?_)
  refine lv_aload_n hx hb dX3_init_13 rfl (lv_at hl 0 rfl) ?_
  refine lv_iconst (v := 4) hx hb dX3_init_14 (by decide) ?_
  refine nw_newi C hw (by omega) (Or.inl (by omega)) ac_int (N := 4) (by decide) (by decide) (by decide) ⟨Nat.le_of_ble_eq_true rfl, Nat.le_of_ble_eq_true rfl⟩ dX3_init_15 (fun H hw => ?_)
  refine nw_putF C hw hin (t := 0) (by omega) rfl rfl cl_inW3 tyX3 tyX3_ok nmX3 7 (by decide) fl_X3_15 rfl rfl rfl rfl rfl (Nat.le_of_ble_eq_true rfl) rfl dX3_init_17 (fun H locs hw => ?_)
  refine lv_aload_n hx hb dX3_init_20 rfl (lv_at hl 0 rfl) ?_
  refine lv_iconst (v := -1) hx hb dX3_init_21 (by decide) ?_
  refine nw_put C hw (t := 0) (by omega) rfl rfl cl_inW3 tyX3 tyX3_ok nmX3 9 (by decide) fl_X3_18 rfl rfl rfl rfl (Nat.le_of_ble_eq_true rfl) rfl dX3_init_22 (fun H locs hw => ?_)
  exact nw_ret C hw (fun k hk => by rcases (show k = 0 ∨ k = 1 ∨ k = 2 by omega) with rfl | rfl | rfl <;> rfl) dX3_init_25
