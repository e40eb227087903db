/-! the law's loop: what stands at its head, the script's ints -/
def lb_C (p : Program) (l : Launch) (s : State) (m : MethodId) (args : Array Value) (meth : Method) (c : Code) (dd : cl_D) (b scr L : Nat) (xs : Nat → Int32) : Prop :=
  cl_C p l s m args meth c cL_law RL 9 (some .boolean) dd b ∧ lh_NC s ∧ cl_K dd = 248 ∧ va_X scr L xs s s.heap ∧ scr < s.heap.size ∧ b = s.heap.size
abbrev lb_l (scr b i : Nat) : List (Nat × Value) := [(4, .int (nI i)), (0, .ref scr), (1, .ref b), (2, .ref (b + 237)), (3, .ref (b + 247))]
theorem lf_cmp {r : UInt64} (h : FP.Core.dIsNaN r = false) : Op.cmpValue (FP.dcmp r r) .l = 0 := by
  rw [show FP.dcmp r r = some .eq from FP.Core.dcmp_self ((FP.Core.notNaN_iff r).mp h)]
  rfl
theorem lf_f2d {r : UInt32} (h : FP.Core.fIsNaN r = false) : FP.Core.dIsNaN (FP.f2d r) = false := by
  rw [FP.f2d, if_neg (by rw [h]; decide)]
  exact FP.Core.f2d_out h
theorem lf_lcmp {x y : Int64} (h : x = y) : lg_cmp x y = 0 := by
  rw [h, lg_cmp, if_neg (show ¬ (y < y) by rw [Int64.lt_iff_toInt_lt]; omega), if_pos rfl]
theorem lh_okz {B : Nat} {cs : List (Nat × Nat)} {x : Option (Except (Nat × cl_M) (Int32 × cl_M))} {y : cl_M → Option (Int32 × cl_M)} (hc : ∀ q ∈ cs, lh_c cs q.1 = q.2 ∧ 0 < q.2 ∧ q.2 < 100) (h : cx_ok B cs x y) :
    ∃ o w M2, x = some o ∧ lh_in cs o ∧ y (lh_M o) = some (w, M2) ∧ M2 237 4 = lh_r cs o ∧ cx_R B M2 ∧ (lh_r cs o = 0 → M2 247 0 = w ∧ ∃ M1, o = .ok (w, M1)) := by
  rcases h with ⟨v, M1, e, hy⟩ | ⟨k, c, M1, w, hm, e, hy⟩
  · obtain ⟨M2, h1, h2, h3, h4⟩ := hy (cl_ms M1 247 0 v) (fun q hq => cl_row_n hq)
    refine ⟨.ok (v, M1), v, M2, e, fun q hq => (by cases hq), h1, h2, h4, fun _ => ⟨?_, M1, rfl⟩⟩
    rw [h3, cl_ms, cl_row_s, pk_us]
  · obtain ⟨M2, h1, h2, h3, h4⟩ := hy M1 (fun q hq => rfl)
    obtain ⟨c1, c2, c3⟩ := hc _ hm
    have c1 : lh_c cs k = c := c1
    have c2 : 0 < c := c2
    have c3 : c < 100 := c3
    refine ⟨.error (k, M1), w, M2, e, fun q hq => (by cases hq; exact ⟨c, hm⟩), h1, by rw [h2, lh_r, c1], h4, fun z => ?_⟩
    have z : nI (lh_c cs k) = 0 := z
    rw [c1] at z
    exact absurd ((nI_eq (a := c) (b := 0) (by omega) (by omega)).mp z) (by omega)
theorem lz_isDirty {M : cl_M} {a : Int32} {o : Except (Nat × cl_M) (Int32 × cl_M)} (h : f_X5_isDirty M 0 a = some o) : ∀ q, o = .ok q → q.1 = 0 ∨ q.1 = 1 := by
  intro q hq
  rw [hq, f_X5_isDirty] at h
  obtain ⟨o1, e1, e2, e3⟩ := cl_x2_e h
  match o1, e2, e3 with
  | .error k, e2, e3 => exact absurd (e2 k rfl) (by intro z; cases z)
  | .ok (v, M4), e2, e3 =>
    obtain ⟨q1, q2⟩ := cl_grd (e3 v M4 rfl)
    cases q2
    simp only [cl_bz, Bool.or_eq_true, beq_iff_eq] at q1
    exact q1
section LBR
variable {p : Program} {l : Launch} {e : Env} {R : Room} {s : State} {m : MethodId} {args : Array Value} {below : List Frame} {meth : Method} {c : Code} {H : Heap} {locs : List Loc} {cells slots : Nat} {Q : State → Prop} {pc : Nat} {ls : Array Slot} {rest : List Value} {dd : cl_D} {b scr L : Nat} {xs : Nat → Int32} {M : cl_M}
theorem lb_arg (V : lb_C p l s m args meth c dd b scr L xs) (h : cl_H dd b M s H locs) {i j : Nat} {jf : Int} (h0 : ls[0]? = some (.val (.ref scr))) (h4 : ls[4]? = some (.val (.int (nI i)))) (d0 : decode cL_law pc = .ok (.aload_n 0, 1)) (d1 : decode cL_law (pc + 1) = .ok (.iload 4, 2)) (d2 : decode cL_law (pc + 1 + 2) = .ok (.iconst jf, 1)) (d3 : decode cL_law (pc + 1 + 2 + 1) = .ok (.iadd, 1)) (d4 : decode cL_law (pc + 1 + 2 + 1 + 1) = .ok (.iaload, 1)) (hj : Int32.ofInt jf = nI j) (hij : i + j < L) (hL : L ≤ 3072) (kk : W p l e R s m args below meth c H locs cells slots Q (F0 m (pc + 1 + 2 + 1 + 1 + 1) ls (.int (xs (i + j)) :: rest))) : W p l e R s m args below meth c H locs cells slots Q (F0 m pc ls rest) := by
  obtain ⟨C, hN, hd, hX, hsb, hbs⟩ := V
  have hx := C.1
  have hb := C.2.1
  refine lv_aload_n hx hb d0 rfl h0 ?_
  refine lv_iload hx hb d1 h4 ?_
  refine lv_iconst (v := nI j) hx hb d2 hj ?_
  refine lv_iadd hx hb d3 ?_
  refine cr_top (nI_add i j).symm ?_
  refine va_sld (A := cl_A b) hx hb hX hsb (by show ¬ (b ≤ scr); omega) h.2 (cl_inb_in (cu_inb hij (by omega))) d4 ?_
  rw [nI_clamp (by omega)]
  exact kk
end LBR
theorem lo_141 : Cond.methodLink RL 141 yX5_feed ∈ cl_W := cl_W_in 644 (by decide +kernel) rfl
theorem lo_145 : Cond.methodLink RL 145 yX6_feed ∈ cl_W := cl_W_in 1568 (by decide +kernel) rfl
theorem lo_146 : Cond.methodLink RL 146 yX5_loadSetup ∈ cl_W := cl_W_in 659 (by decide +kernel) rfl
theorem lo_149 : Cond.methodLink RL 149 yX6_loadSetup ∈ cl_W := cl_W_in 1575 (by decide +kernel) rfl
theorem lo_150 : Cond.methodLink RL 150 yX5_runScript ∈ cl_W := cl_W_in 682 (by decide +kernel) rfl
theorem lo_153 : Cond.methodLink RL 153 yX6_runScript ∈ cl_W := cl_W_in 1576 (by decide +kernel) rfl
theorem lo_154 : Cond.methodLink RL 154 yX5_errorCode ∈ cl_W := cl_W_in 693 (by decide +kernel) rfl
theorem lo_157 : Cond.methodLink RL 157 yX6_errorCode ∈ cl_W := cl_W_in 1584 (by decide +kernel) rfl
theorem lo_158 : Cond.methodLink RL 158 yX5_errorPosition ∈ cl_W := cl_W_in 697 (by decide +kernel) rfl
theorem lo_161 : Cond.methodLink RL 161 yX6_errorPosition ∈ cl_W := cl_W_in 1592 (by decide +kernel) rfl
theorem lo_162 : Cond.methodLink RL 162 yX5_minute ∈ cl_W := cl_W_in 701 (by decide +kernel) rfl
theorem lo_165 : Cond.methodLink RL 165 yX6_minute ∈ cl_W := cl_W_in 1596 (by decide +kernel) rfl
theorem lo_166 : Cond.methodLink RL 166 yX5_shadowWidth ∈ cl_W := cl_W_in 705 (by decide +kernel) rfl
theorem lo_169 : Cond.methodLink RL 169 yX6_shadowWidth ∈ cl_W := cl_W_in 1600 (by decide +kernel) rfl
theorem lo_170 : Cond.methodLink RL 170 yX5_undoCount ∈ cl_W := cl_W_in 709 (by decide +kernel) rfl
theorem lo_173 : Cond.methodLink RL 173 yX6_undoCount ∈ cl_W := cl_W_in 1604 (by decide +kernel) rfl
theorem lo_174 : Cond.methodLink RL 174 yL_windIn ∈ cl_W := cl_W_in 819 (by decide +kernel) rfl
theorem lo_179 : Cond.methodLink RL 179 yX6_windIn ∈ cl_W := cl_W_in 1608 (by decide +kernel) rfl
theorem lo_180 : Cond.methodLink RL 180 yX6_thrown ∈ cl_W := cl_W_in 1564 (by decide +kernel) rfl
theorem lo_183 : Cond.methodLink RL 183 yL_rainIn ∈ cl_W := cl_W_in 900 (by decide +kernel) rfl
theorem lo_185 : Cond.methodLink RL 185 yX6_rainIn ∈ cl_W := cl_W_in 1620 (by decide +kernel) rfl
theorem lo_186 : Cond.methodLink RL 186 yL_sunnySpots ∈ cl_W := cl_W_in 908 (by decide +kernel) rfl
theorem lo_188 : Cond.methodLink RL 188 yX6_sunnySpots ∈ cl_W := cl_W_in 1624 (by decide +kernel) rfl
theorem lo_189 : Cond.methodLink RL 189 yL_smokySpots ∈ cl_W := cl_W_in 915 (by decide +kernel) rfl
theorem lo_191 : Cond.methodLink RL 191 yX6_smokySpots ∈ cl_W := cl_W_in 1628 (by decide +kernel) rfl
theorem lo_192 : Cond.methodLink RL 192 yX5_minutesToRain ∈ cl_W := cl_W_in 713 (by decide +kernel) rfl
theorem lo_195 : Cond.methodLink RL 195 yX6_minutesToRain ∈ cl_W := cl_W_in 1632 (by decide +kernel) rfl
theorem lo_196 : Cond.methodLink RL 196 yX5_woodenLeft ∈ cl_W := cl_W_in 722 (by decide +kernel) rfl
theorem lo_199 : Cond.methodLink RL 199 yX6_woodenLeft ∈ cl_W := cl_W_in 1636 (by decide +kernel) rfl
theorem lo_200 : Cond.methodLink RL 200 yX5_steelLeft ∈ cl_W := cl_W_in 727 (by decide +kernel) rfl
theorem lo_203 : Cond.methodLink RL 203 yX6_steelLeft ∈ cl_W := cl_W_in 1640 (by decide +kernel) rfl
theorem lo_204 : Cond.methodLink RL 204 yX5_freeSpots ∈ cl_W := cl_W_in 732 (by decide +kernel) rfl
theorem lo_207 : Cond.methodLink RL 207 yX6_freeSpots ∈ cl_W := cl_W_in 1644 (by decide +kernel) rfl
theorem lo_208 : Cond.methodLink RL 208 yX5_longestGap ∈ cl_W := cl_W_in 738 (by decide +kernel) rfl
theorem lo_211 : Cond.methodLink RL 211 yX6_longestGap ∈ cl_W := cl_W_in 1652 (by decide +kernel) rfl
theorem lo_212 : Cond.methodLink RL 212 yL_garmentAt ∈ cl_W := cl_W_in 923 (by decide +kernel) rfl
theorem lo_214 : Cond.methodLink RL 214 yX6_garmentAt ∈ cl_W := cl_W_in 1659 (by decide +kernel) rfl
theorem lo_215 : Cond.methodLink RL 215 yX5_garmentByPlace ∈ cl_W := cl_W_in 743 (by decide +kernel) rfl
theorem lo_218 : Cond.methodLink RL 218 yX6_garmentByPlace ∈ cl_W := cl_W_in 1671 (by decide +kernel) rfl
theorem lo_219 : Cond.methodLink RL 219 yX5_garmentCount ∈ cl_W := cl_W_in 751 (by decide +kernel) rfl
theorem lo_222 : Cond.methodLink RL 222 yX6_garmentCount ∈ cl_W := cl_W_in 1675 (by decide +kernel) rfl
theorem lo_223 : Cond.methodLink RL 223 yL_stateOf ∈ cl_W := cl_W_in 930 (by decide +kernel) rfl
theorem lo_225 : Cond.methodLink RL 225 yX6_stateOf ∈ cl_W := cl_W_in 1679 (by decide +kernel) rfl
theorem lo_226 : Cond.methodLink RL 226 yL_widthOf ∈ cl_W := cl_W_in 958 (by decide +kernel) rfl
theorem lo_228 : Cond.methodLink RL 228 yX6_widthOf ∈ cl_W := cl_W_in 1691 (by decide +kernel) rfl
theorem lo_229 : Cond.methodLink RL 229 yL_dryWeight ∈ cl_W := cl_W_in 965 (by decide +kernel) rfl
theorem lo_231 : Cond.methodLink RL 231 yX6_dryWeight ∈ cl_W := cl_W_in 1695 (by decide +kernel) rfl
theorem lo_232 : Cond.methodLink RL 232 yL_capacityOf ∈ cl_W := cl_W_in 972 (by decide +kernel) rfl
theorem lo_234 : Cond.methodLink RL 234 yX6_capacityOf ∈ cl_W := cl_W_in 1699 (by decide +kernel) rfl
theorem lo_235 : Cond.methodLink RL 235 yL_waterOf ∈ cl_W := cl_W_in 979 (by decide +kernel) rfl
theorem lo_237 : Cond.methodLink RL 237 yX6_waterOf ∈ cl_W := cl_W_in 1703 (by decide +kernel) rfl
theorem lo_238 : Cond.methodLink RL 238 yL_weightOf ∈ cl_W := cl_W_in 986 (by decide +kernel) rfl
theorem lo_240 : Cond.methodLink RL 240 yX6_weightOf ∈ cl_W := cl_W_in 1707 (by decide +kernel) rfl
theorem lo_241 : Cond.methodLink RL 241 yL_smellOf ∈ cl_W := cl_W_in 994 (by decide +kernel) rfl
theorem lo_243 : Cond.methodLink RL 243 yX6_smellOf ∈ cl_W := cl_W_in 1711 (by decide +kernel) rfl
theorem lo_244 : Cond.methodLink RL 244 yL_spotOf ∈ cl_W := cl_W_in 1001 (by decide +kernel) rfl
theorem lo_246 : Cond.methodLink RL 246 yX6_spotOf ∈ cl_W := cl_W_in 1715 (by decide +kernel) rfl
theorem lo_247 : Cond.methodLink RL 247 yL_woodenOf ∈ cl_W := cl_W_in 1008 (by decide +kernel) rfl
theorem lo_249 : Cond.methodLink RL 249 yX6_woodenOf ∈ cl_W := cl_W_in 1719 (by decide +kernel) rfl
theorem lo_250 : Cond.methodLink RL 250 yL_steelOf ∈ cl_W := cl_W_in 1015 (by decide +kernel) rfl
theorem lo_252 : Cond.methodLink RL 252 yX6_steelOf ∈ cl_W := cl_W_in 1723 (by decide +kernel) rfl
theorem lo_253 : Cond.methodLink RL 253 yL_holdOf ∈ cl_W := cl_W_in 1022 (by decide +kernel) rfl
theorem lo_255 : Cond.methodLink RL 255 yX6_holdOf ∈ cl_W := cl_W_in 1727 (by decide +kernel) rfl
theorem lo_256 : Cond.methodLink RL 256 yL_fallsOf ∈ cl_W := cl_W_in 1030 (by decide +kernel) rfl
theorem lo_258 : Cond.methodLink RL 258 yX6_fallsOf ∈ cl_W := cl_W_in 1731 (by decide +kernel) rfl
theorem lo_259 : Cond.methodLink RL 259 yL_isDirty ∈ cl_W := cl_W_in 1037 (by decide +kernel) rfl
theorem lo_261 : Cond.methodLink RL 261 yX6_isDirty ∈ cl_W := cl_W_in 1735 (by decide +kernel) rfl
theorem lo_262 : Cond.methodLink RL 262 yL_garmentsIn ∈ cl_W := cl_W_in 1044 (by decide +kernel) rfl
theorem lo_264 : Cond.methodLink RL 264 yX6_garmentsIn ∈ cl_W := cl_W_in 1739 (by decide +kernel) rfl
theorem lo_265 : Cond.methodLink RL 265 yX5_dryGarments ∈ cl_W := cl_W_in 755 (by decide +kernel) rfl
theorem lo_268 : Cond.methodLink RL 268 yX6_dryGarments ∈ cl_W := cl_W_in 1743 (by decide +kernel) rfl
theorem lo_269 : Cond.methodLink RL 269 yL_hangObstacle ∈ cl_W := cl_W_in 1051 (by decide +kernel) rfl
theorem lo_272 : Cond.methodLink RL 272 yX6_hangObstacle ∈ cl_W := cl_W_in 1751 (by decide +kernel) rfl
theorem lo_273 : Cond.methodLink RL 273 yL_fewestPegs ∈ cl_W := cl_W_in 1059 (by decide +kernel) rfl
theorem lo_275 : Cond.methodLink RL 275 yX6_fewestPegs ∈ cl_W := cl_W_in 1759 (by decide +kernel) rfl
theorem lo_276 : Cond.methodLink RL 276 yX5_waterInAll ∈ cl_W := cl_W_in 759 (by decide +kernel) rfl
theorem lo_279 : Cond.methodLink RL 279 yX6_waterInAll ∈ cl_W := cl_W_in 1763 (by decide +kernel) rfl
theorem lo_280 : Cond.methodLink RL 280 yX5_waterCame ∈ cl_W := cl_W_in 763 (by decide +kernel) rfl
theorem lo_283 : Cond.methodLink RL 283 yX6_waterCame ∈ cl_W := cl_W_in 1771 (by decide +kernel) rfl
theorem lo_284 : Cond.methodLink RL 284 yX5_driedBySun ∈ cl_W := cl_W_in 767 (by decide +kernel) rfl
theorem lo_287 : Cond.methodLink RL 287 yX6_driedBySun ∈ cl_W := cl_W_in 1775 (by decide +kernel) rfl
theorem lo_288 : Cond.methodLink RL 288 yX5_driedByWind ∈ cl_W := cl_W_in 771 (by decide +kernel) rfl
theorem lo_291 : Cond.methodLink RL 291 yX6_driedByWind ∈ cl_W := cl_W_in 1779 (by decide +kernel) rfl
theorem lo_292 : Cond.methodLink RL 292 yX5_consistencyError ∈ cl_W := cl_W_in 775 (by decide +kernel) rfl
theorem lo_295 : Cond.methodLink RL 295 yX6_consistencyError ∈ cl_W := cl_W_in 1783 (by decide +kernel) rfl
theorem lo_296 : Cond.methodLink RL 296 yX5_meanWater ∈ cl_W := cl_W_in 791 (by decide +kernel) rfl
theorem lo_300 : Cond.methodLink RL 300 yX6_meanWater ∈ cl_W := cl_W_in 1788 (by decide +kernel) rfl
theorem lo_301 : Cond.methodLink RL 301 yX5_dryShare ∈ cl_W := cl_W_in 795 (by decide +kernel) rfl
theorem lo_305 : Cond.methodLink RL 305 yX6_dryShare ∈ cl_W := cl_W_in 1792 (by decide +kernel) rfl
theorem lo_306 : Cond.methodLink RL 306 yL_waterAfter ∈ cl_W := cl_W_in 1068 (by decide +kernel) rfl
theorem lo_309 : Cond.methodLink RL 309 yX6_waterAfter ∈ cl_W := cl_W_in 1796 (by decide +kernel) rfl
theorem lo_310 : Cond.methodLink RL 310 yL_minutesToDry ∈ cl_W := cl_W_in 1079 (by decide +kernel) rfl
theorem lo_312 : Cond.methodLink RL 312 yX6_minutesToDry ∈ cl_W := cl_W_in 1800 (by decide +kernel) rfl
theorem lo_313 : Cond.methodLink RL 313 yL_minutesToFall ∈ cl_W := cl_W_in 1087 (by decide +kernel) rfl
theorem lo_315 : Cond.methodLink RL 315 yX6_minutesToFall ∈ cl_W := cl_W_in 1804 (by decide +kernel) rfl
theorem lo_316 : Cond.methodLink RL 316 yX5_garmentsAtRisk ∈ cl_W := cl_W_in 801 (by decide +kernel) rfl
theorem lo_319 : Cond.methodLink RL 319 yX6_garmentsAtRisk ∈ cl_W := cl_W_in 1808 (by decide +kernel) rfl
theorem lo_320 : Cond.methodLink RL 320 yL_bestSpot ∈ cl_W := cl_W_in 1094 (by decide +kernel) rfl
theorem lo_322 : Cond.methodLink RL 322 yX6_bestSpot ∈ cl_W := cl_W_in 1812 (by decide +kernel) rfl
theorem lo_323 : Cond.methodLink RL 323 yL_addGarment ∈ cl_W := cl_W_in 1107 (by decide +kernel) rfl
theorem lo_325 : Cond.methodLink RL 325 yX6_addGarment ∈ cl_W := cl_W_in 1820 (by decide +kernel) rfl
theorem lo_326 : Cond.methodLink RL 326 yL_hang ∈ cl_W := cl_W_in 1135 (by decide +kernel) rfl
theorem lo_328 : Cond.methodLink RL 328 yX6_hang ∈ cl_W := cl_W_in 1828 (by decide +kernel) rfl
theorem lo_329 : Cond.methodLink RL 329 yL_takeDown ∈ cl_W := cl_W_in 1143 (by decide +kernel) rfl
theorem lo_331 : Cond.methodLink RL 331 yX6_takeDown ∈ cl_W := cl_W_in 1832 (by decide +kernel) rfl
theorem lo_332 : Cond.methodLink RL 332 yL_pickUp ∈ cl_W := cl_W_in 1151 (by decide +kernel) rfl
theorem lo_334 : Cond.methodLink RL 334 yX6_pickUp ∈ cl_W := cl_W_in 1836 (by decide +kernel) rfl
theorem lo_335 : Cond.methodLink RL 335 yL_wash ∈ cl_W := cl_W_in 1158 (by decide +kernel) rfl
theorem lo_337 : Cond.methodLink RL 337 yX6_wash ∈ cl_W := cl_W_in 1840 (by decide +kernel) rfl
theorem lo_338 : Cond.methodLink RL 338 yL_shift ∈ cl_W := cl_W_in 1166 (by decide +kernel) rfl
theorem lo_340 : Cond.methodLink RL 340 yX6_shift ∈ cl_W := cl_W_in 1844 (by decide +kernel) rfl
theorem lo_341 : Cond.methodLink RL 341 yL_addShower ∈ cl_W := cl_W_in 1175 (by decide +kernel) rfl
theorem lo_344 : Cond.methodLink RL 344 yX6_addShower ∈ cl_W := cl_W_in 1848 (by decide +kernel) rfl
theorem lo_345 : Cond.methodLink RL 345 yL_addSmoke ∈ cl_W := cl_W_in 1183 (by decide +kernel) rfl
theorem lo_347 : Cond.methodLink RL 347 yX6_addSmoke ∈ cl_W := cl_W_in 1852 (by decide +kernel) rfl
theorem lo_348 : Cond.methodLink RL 348 yL_setWind ∈ cl_W := cl_W_in 1191 (by decide +kernel) rfl
theorem lo_350 : Cond.methodLink RL 350 yX6_setWind ∈ cl_W := cl_W_in 1856 (by decide +kernel) rfl
theorem lo_351 : Cond.methodLink RL 351 yL_passMinutes ∈ cl_W := cl_W_in 1199 (by decide +kernel) rfl
theorem lo_353 : Cond.methodLink RL 353 yX6_passMinutes ∈ cl_W := cl_W_in 1860 (by decide +kernel) rfl
theorem lo_354 : Cond.methodLink RL 354 yL_undo ∈ cl_W := cl_W_in 1206 (by decide +kernel) rfl
theorem lo_357 : Cond.methodLink RL 357 yX6_undo ∈ cl_W := cl_W_in 1864 (by decide +kernel) rfl
theorem lo_358 : Cond.methodLink RL 358 yL_save ∈ cl_W := cl_W_in 1217 (by decide +kernel) rfl
theorem lo_360 : Cond.methodLink RL 360 yX6_save ∈ cl_W := cl_W_in 1868 (by decide +kernel) rfl
theorem lo_361 : Cond.methodLink RL 361 yL_restore ∈ cl_W := cl_W_in 1224 (by decide +kernel) rfl
theorem lo_363 : Cond.methodLink RL 363 yX6_restore ∈ cl_W := cl_W_in 1872 (by decide +kernel) rfl
theorem lo_364 : Cond.methodLink RL 364 yX5_writeLine ∈ cl_W := cl_W_in 810 (by decide +kernel) rfl
theorem lo_367 : Cond.methodLink RL 367 yX6_writeLine ∈ cl_W := cl_W_in 1876 (by decide +kernel) rfl
theorem lo_368 : Cond.methodLink RL 368 yX5_outputByte ∈ cl_W := cl_W_in 815 (by decide +kernel) rfl
theorem lo_371 : Cond.methodLink RL 371 yX6_outputByte ∈ cl_W := cl_W_in 1880 (by decide +kernel) rfl
theorem cyX5_meanWater : cl_cy yX5_meanWater cX5_meanWater 1 (some .double) 0 := ⟨in_ClothesLine, List.mem_filter.mpr ⟨by decide +kernel, rfl⟩, by decide +kernel, by decide +kernel, by decide +kernel⟩
theorem vyX5_meanWater : cl_vy yX5_meanWater := ⟨List.mem_filter.mpr ⟨by decide +kernel, rfl⟩, List.mem_filter.mpr ⟨by decide +kernel, rfl⟩⟩
theorem cyX6_meanWater : cl_cy yX6_meanWater cX6_meanWater 1 (some .double) 0 := ⟨in_ClothesLineModel, List.mem_filter.mpr ⟨by decide +kernel, rfl⟩, by decide +kernel, by decide +kernel, by decide +kernel⟩
theorem vyX6_meanWater : cl_vy yX6_meanWater := ⟨List.mem_filter.mpr ⟨by decide +kernel, rfl⟩, List.mem_filter.mpr ⟨by decide +kernel, rfl⟩⟩
theorem cyX5_dryShare : cl_cy yX5_dryShare cX5_dryShare 1 (some .float) 0 := ⟨in_ClothesLine, List.mem_filter.mpr ⟨by decide +kernel, rfl⟩, by decide +kernel, by decide +kernel, by decide +kernel⟩
theorem vyX5_dryShare : cl_vy yX5_dryShare := ⟨List.mem_filter.mpr ⟨by decide +kernel, rfl⟩, List.mem_filter.mpr ⟨by decide +kernel, rfl⟩⟩
theorem cyX6_dryShare : cl_cy yX6_dryShare cX6_dryShare 1 (some .float) 0 := ⟨in_ClothesLineModel, List.mem_filter.mpr ⟨by decide +kernel, rfl⟩, by decide +kernel, by decide +kernel, by decide +kernel⟩
theorem vyX6_dryShare : cl_vy yX6_dryShare := ⟨List.mem_filter.mpr ⟨by decide +kernel, rfl⟩, List.mem_filter.mpr ⟨by decide +kernel, rfl⟩⟩
