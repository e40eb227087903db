/-! what is asked and changes nothing, on both sides -/
theorem cx_zr {M N : cl_M} (h : cx_n M N) {v : Int32} : cl_ms N 237 4 v = cl_row (cl_ms N 237 4 v) 239 (M 239) := by
  have z := cu_rowN (cl_ms N 237 4 v)
  rwa [cx_t9, h 239 (by decide)] at z
theorem cx_z0 {M : cl_M} {v : Int32} : cl_ms M 237 4 v = cl_row (cl_ms M 237 4 v) 239 (M 239) := cx_zr (fun _ _ => rfl)
theorem cx_e0_p {B : Nat} {M : cl_M} {x : Option Int32} {y : cl_M → Option (Int32 × cl_M)} (R : cx_R B M) (v : Int32) (h : x = some v) (hy : y M = some (v, cl_ms M 237 4 0)) : cx_e0 B M x y := ⟨v, _, h, hy, cx_R_s R cx_t⟩
theorem cx_ok_p {B : Nat} {cs : List (Nat × Nat)} {M : cl_M} {x : Option (Except (Nat × cl_M) (Int32 × cl_M))} {y : cl_M → Option (Int32 × cl_M)} (R : cx_R B M) (v : Int32) (h : x = some (.ok (v, M))) (hy : ∀ N, cx_n M N → y N = some (v, cl_ms N 237 4 0)) : cx_ok B cs x y := Or.inl ⟨v, M, h, cx_y_q R hy⟩
theorem cx_ok_e {B : Nat} {cs : List (Nat × Nat)} {M : cl_M} {x : Option (Except (Nat × cl_M) (Int32 × cl_M))} {y : cl_M → Option (Int32 × cl_M)} (R : cx_R B M) (e c : Nat) (v : Int32) (hm : (e, c) ∈ cs) (h : x = some (.error (e, M))) (hy : ∀ N, cx_n M N → y N = some (v, cl_ms N 237 4 (nI c))) : cx_ok B cs x y := Or.inr ⟨e, c, M, v, hm, h, cx_y_q R hy⟩
theorem cx_minute (M : cl_M) (a : Int32) : (∃ q, q ≤ 99999 ∧ a = nI q ∧ f_X5_requireRange M a 0 99999 = some (.ok M) ∧ ∀ N, f_X6_isMinute N 237 a = some (1, cl_ms N 237 4 0)) ∨ (f_X5_requireRange M a 0 99999 = some (.error (1, M)) ∧ ∀ N, f_X6_isMinute N 237 a = some (0, cl_ms N 237 4 (nI 1))) := by
  rcases cx_req (M := M) (a := a) (b := 0) (c := 99999) with ⟨h, h2, h3, h4⟩ | ⟨h3, h4⟩
  · obtain ⟨q, hq, rfl⟩ := cx_nat (n := 99999) (by omega) h h2
    refine Or.inl ⟨q, hq, rfl, h3, fun N => ?_⟩
    rw [f_X6_isMinute, cl_let, h4, Option.bind_some, cx_fails1, cu_b2, if_pos rfl]
    rfl
  · refine Or.inr ⟨h3, fun N => ?_⟩
    rw [f_X6_isMinute, cl_let, h4, Option.bind_some, cx_fails0, cu_b2, if_neg (by decide), cx_tt]
    rfl
theorem cx_x2 {v : Nat} {M : cl_M} {f : Nat → cl_M → Option (Except (Nat × cl_M) (Int32 × cl_M))} : cl_x2 (some (.ok (v, M))) f = f v M := rfl
theorem cx_x1 {M : cl_M} {f : cl_M → Option (Except (Nat × cl_M) (Int32 × cl_M))} : cl_x1 (some (.ok M)) f = f M := rfl
theorem cx_x2e {e : Nat} {M : cl_M} {f : Nat → cl_M → Option (Except (Nat × cl_M) (Int32 × cl_M))} : cl_x2 (some (.error (e, M))) f = some (.error (e, M)) := rfl
theorem cx_x1e {e : Nat} {M : cl_M} {f : cl_M → Option (Except (Nat × cl_M) (Int32 × cl_M))} : cl_x1 (some (.error (e, M))) f = some (.error (e, M)) := rfl
/-- the weather of the line -/
theorem cx_F {B : Nat} {M : cl_M} (R : cx_R B M) : cw_F (cw_x (M 239)) ∧ cw_C M 5 (cw_x (M 239)) := by
  obtain ⟨g, m, hm, L⟩ := R.1
  exact ⟨L.1.2.2.2.2.2.1, L.1.2.2.2.2.2.2⟩
variable {B : Nat} {M : cl_M}
theorem an_errorCode (R : cx_R B M) : cx_e0 B M (f_X5_errorCode M 0) (fun N => f_X6_errorCode N 237) := cx_e0_p R (M 1 8) rfl (by show some (M 237 2, _) = _; rw [R.2.2.1.1])
theorem an_errorPosition (R : cx_R B M) : cx_e0 B M (f_X5_errorPosition M 0) (fun N => f_X6_errorPosition N 237) := cx_e0_p R (M 1 9) rfl (by show some (M 237 3, _) = _; rw [R.2.2.1.2])
theorem an_minute (R : cx_R B M) : cx_e0 B M (f_X5_minute M 0) (fun N => f_X6_minute N 237) := by
  obtain ⟨g, m, hm, L⟩ := R.1
  exact cx_e0_p R (M 4 2) rfl (by show some (M 239 0, _) = _; rw [L.1.2.2.2.1, L.1.2.2.2.2.1])
theorem an_garmentCount (R : cx_R B M) : cx_e0 B M (f_X5_garmentCount M 0) (fun N => f_X6_garmentCount N 237) := by
  obtain ⟨g, m, hm, L⟩ := R.1
  exact cx_e0_p R (M 4 3) rfl (by show some (M 239 7, _) = _; rw [L.1.2.1, L.1.2.2.1])
theorem an_shadowWidth (R : cx_R B M) : cx_e0 B M (f_X5_shadowWidth M 0) (fun N => f_X6_shadowWidth N 237) :=
  cx_e0_p R (M 5 0) rfl (by show some (M 239 1, _) = _; rw [(cx_F R).2.1]; rfl)
theorem an_undoCount (R : cx_R B M) : cx_e0 B M (f_X5_undoCount M 0) (fun N => f_X6_undoCount N 237) := by
  obtain ⟨h, q, h8, q8, y1, y2, -⟩ := R.2.2.2.1
  exact cx_e0_p R (M 42 2) rfl (by show some (M 237 9, _) = _; rw [y1, y2])
theorem an_windIn (R : cx_R B M) (a : Int32) : cx_ok B [(1, 1)] (f_X5_windIn M 0 a) (fun N => f_X6_windIn N 237 a) := by
  obtain ⟨F, C⟩ := cx_F R
  rcases cx_minute M a with ⟨q, hq, rfl, h1, h2⟩ | ⟨h1, h2⟩
  · have e := cw_windC F C (m := q) (by omega)
    refine cx_ok_p R (nI (cw_wind (cw_x (M 239)) q)) ?_ fun N hN => ?_
    · rw [f_X5_windIn, h1]
      show (f_X4_windAt M 5 (nI q)).bind _ = _
      rw [e]
      rfl
    · have e := cw_windN (N := cl_ms N 237 4 0) F (show cw_x ((cl_ms N 237 4 0) 239) = _ by rw [cx_t9, hN 239 (by decide)]) (m := q) (by omega)
      show f_X6_windIn N 237 (nI q) = _
      rw [f_X6_windIn, h2, cu_b2, if_neg (by decide), e]
      rfl
  · refine cx_ok_e R 1 1 0 (by decide) (by rw [f_X5_windIn, h1]; rfl) fun N hN => ?_
    show f_X6_windIn N 237 a = _
    rw [f_X6_windIn, h2, cu_b2, if_pos rfl]
    rfl
theorem an_rainIn (R : cx_R B M) (a : Int32) : cx_ok B [(1, 1)] (f_X5_rainIn M 0 a) (fun N => f_X6_rainIn N 237 a) := by
  obtain ⟨F, C⟩ := cx_F R
  rcases cx_minute M a with ⟨q, hq, rfl, h1, h2⟩ | ⟨h1, h2⟩
  · have e := cw_rainC F C (m := q) (by omega)
    refine cx_ok_p R (nI (cw_rain (cw_x (M 239)) q)) ?_ fun N hN => ?_
    · rw [f_X5_rainIn, h1]
      show (f_X4_rainAt M 5 (nI q)).bind _ = _
      rw [e]
      rfl
    · have e := cw_rainN (N := cl_ms N 237 4 0) F (show cw_x ((cl_ms N 237 4 0) 239) = _ by rw [cx_t9, hN 239 (by decide)]) (m := q) (by omega)
      show f_X6_rainIn N 237 (nI q) = _
      rw [f_X6_rainIn, h2, cu_b2, if_neg (by decide), e]
      rfl
  · refine cx_ok_e R 1 1 0 (by decide) (by rw [f_X5_rainIn, h1]; rfl) fun N hN => ?_
    show f_X6_rainIn N 237 a = _
    rw [f_X6_rainIn, h2, cu_b2, if_pos rfl]
    rfl
theorem an_sunnySpots (R : cx_R B M) (a : Int32) : cx_ok B [(1, 1)] (f_X5_sunnySpots M 0 a) (fun N => f_X6_sunnySpots N 237 a) := by
  obtain ⟨F, C⟩ := cx_F R
  rcases cx_minute M a with ⟨q, hq, rfl, h1, h2⟩ | ⟨h1, h2⟩
  · have e := cw_sunnyC F C (m := q) (by omega)
    refine cx_ok_p R (cw_sunny (cw_x (M 239)) q) ?_ fun N hN => ?_
    · rw [f_X5_sunnySpots, h1]
      show (f_X4_sunnyAt M 5 (nI q)).bind _ = _
      rw [e]
      rfl
    · have e := cw_sunnyN (N := cl_ms N 237 4 0) F (show cw_x ((cl_ms N 237 4 0) 239) = _ by rw [cx_t9, hN 239 (by decide)]) (m := q) (by omega)
      show f_X6_sunnySpots N 237 (nI q) = _
      rw [f_X6_sunnySpots, h2, cu_b2, if_neg (by decide), e]
      rfl
  · refine cx_ok_e R 1 1 0 (by decide) (by rw [f_X5_sunnySpots, h1]; rfl) fun N hN => ?_
    show f_X6_sunnySpots N 237 a = _
    rw [f_X6_sunnySpots, h2, cu_b2, if_pos rfl]
    rfl
theorem an_smokySpots (R : cx_R B M) (a : Int32) : cx_ok B [(1, 1)] (f_X5_smokySpots M 0 a) (fun N => f_X6_smokySpots N 237 a) := by
  obtain ⟨F, C⟩ := cx_F R
  rcases cx_minute M a with ⟨q, hq, rfl, h1, h2⟩ | ⟨h1, h2⟩
  · have e := cw_smokyC F C (m := q) (by omega)
    refine cx_ok_p R (cw_smoky (cw_x (M 239)) q) ?_ fun N hN => ?_
    · rw [f_X5_smokySpots, h1]
      show (f_X4_smokyAt M 5 (nI q)).bind _ = _
      rw [e]
      rfl
    · have e := cw_smokyN (N := cl_ms N 237 4 0) F (show cw_x ((cl_ms N 237 4 0) 239) = _ by rw [cx_t9, hN 239 (by decide)]) (m := q) (by omega)
      show f_X6_smokySpots N 237 (nI q) = _
      rw [f_X6_smokySpots, h2, cu_b2, if_neg (by decide), e]
      rfl
  · refine cx_ok_e R 1 1 0 (by decide) (by rw [f_X5_smokySpots, h1]; rfl) fun N hN => ?_
    show f_X6_smokySpots N 237 a = _
    rw [f_X6_smokySpots, h2, cu_b2, if_pos rfl]
    rfl
theorem an_minutesToRain (R : cx_R B M) (hB : B < 2 ^ 30) : cx_e0 B M (f_X5_minutesToRain M 0) (fun N => f_X6_minutesToRain N 237) := by
  obtain ⟨g, m, hm, L⟩ := R.1
  obtain ⟨F, C⟩ := cx_F R
  obtain ⟨y, e1, e2⟩ := cw_wait (N := M) F C rfl (m := m) (by omega) L.1.2.2.2.2.1
  refine cx_e0_p R y ?_ e2
  show (f_X4_waitForRain M 5 (M 4 2)).bind _ = _
  rw [L.1.2.2.2.1, e1]
  rfl
theorem an_woodenLeft (R : cx_R B M) : cx_e0 B M (f_X5_woodenLeft M 0) (fun N => f_X6_woodenLeft N 237) := by
  obtain ⟨g, m, hm, L⟩ := R.1
  exact cx_e0_p R (M 239 2) (by show (f_X2_woodenInBag M 4).bind _ = _; rw [ck_wood L]; rfl) rfl
theorem an_steelLeft (R : cx_R B M) : cx_e0 B M (f_X5_steelLeft M 0) (fun N => f_X6_steelLeft N 237) := by
  obtain ⟨g, m, hm, L⟩ := R.1
  exact cx_e0_p R (M 239 3) (by show (f_X2_steelInBag M 4).bind _ = _; rw [ck_steel L]; rfl) rfl
theorem cx_free {N r : _} {n m : Nat} (L : cg_L M 4 r n m) : f_X6_free (cl_row N 239 r) 237 = some (16777215 &&& (ck_oc M 4 n ^^^ (-1))) := by
  rw [f_X6_free, ck_taken L]
  rfl
theorem an_freeSpots (R : cx_R B M) : cx_e0 B M (f_X5_freeSpots M 0) (fun N => f_X6_freeSpots N 237) := by
  obtain ⟨g, m, hm, L⟩ := R.1
  refine cx_e0_p R (16777215 &&& (ck_oc M 4 g ^^^ (-1))) (by show (f_X2_occupied M 4).bind _ = _; rw [ck_occ L]; rfl) ?_
  have e := cx_free (N := M) L
  rw [← cu_rowN] at e
  show f_X6_freeSpots M 237 = _
  rw [f_X6_freeSpots, e]
  rfl
theorem an_longestGap (R : cx_R B M) : cx_e0 B M (f_X5_longestGap M 0) (fun N => f_X6_longestGap N 237) := by
  obtain ⟨g, m, hm, L⟩ := R.1
  obtain ⟨v, e1, e2⟩ := ck_gap (M := M) (N := cl_ms M 237 4 0) (x := ck_oc M 4 g)
  refine cx_e0_p R v (by rw [f_X5_longestGap, show 0 + 4 = 4 from rfl, ck_occ L, Option.bind_some]; exact e1) ?_
  have e := cx_free (N := cl_ms M 237 4 0) L
  rw [← cx_z0] at e
  show f_X6_longestGap M 237 = _
  rw [f_X6_longestGap, cl_let, e, Option.bind_some]
  exact e2
theorem an_garmentAt (R : cx_R B M) (a : Int32) : cx_ok B [(1, 1)] (f_X5_garmentAt M 0 a) (fun N => f_X6_garmentAt N 237 a) := by
  obtain ⟨n, m, hm, L⟩ := R.1
  have hn := L.1.1
  rcases cx_req (M := M) (a := a) (b := 0) (c := 23) with ⟨h, h2, h3, h4⟩ | ⟨h3, h4⟩
  · refine cx_ok_p R (cq_on (cg_G M 4) a n 0) ?_ fun N hN => ?_
    · rw [f_X5_garmentAt, h3]
      show (f_X2_occupant M 4 a).bind _ = _
      rw [cq_onC hn L.1.2.1]
      rfl
    · have e := cq_onN (N := cl_ms N 237 4 0) (s := a) hn L.1.2.2.1 (ck_G L)
      rw [← cx_zr hN] at e
      show f_X6_garmentAt N 237 a = _
      rw [f_X6_garmentAt, cl_let, f_X6_isSpot, h4, Option.bind_some, cx_fails1, cu_b2, if_pos rfl, f_X6_isSpot_20, if_pos (by decide), cu_b2, if_neg (by decide), e]
      rfl
  · refine cx_ok_e R 1 1 0 (by decide) (by rw [f_X5_garmentAt, h3]; rfl) fun N hN => ?_
    show f_X6_garmentAt N 237 a = _
    rw [f_X6_garmentAt, cl_let, f_X6_isSpot, h4, Option.bind_some, cx_fails0, cu_b2, if_neg (by decide), f_X6_isSpot_20, if_pos (by decide), cu_b2, if_pos rfl, cx_tt]
    rfl
theorem an_garmentsIn (R : cx_R B M) (a : Int32) : cx_ok B [(1, 1)] (f_X5_garmentsIn M 0 a) (fun N => f_X6_garmentsIn N 237 a) := by
  obtain ⟨n, m, hm, L⟩ := R.1
  have hn := L.1.1
  rcases cx_req (M := M) (a := a) (b := 0) (c := 2) with ⟨h, h2, h3, h4⟩ | ⟨h3, h4⟩
  · have e1 := cq_state (M := M) (t := 4) (a := a) hn L.1.2.1
    refine cx_ok_p R (cu_it (fun i x => if M (4 + 8 + 1 + i) 6 = a then x ||| (1 <<< (nI i &&& 31)) else x) n 0) ?_ fun N hN => ?_
    · rw [f_X5_garmentsIn, h3]
      show (f_X2_setInState M 4 a).bind _ = _
      rw [e1]
      rfl
    · have e := cq_stateN (N := cl_ms N 237 4 0) (a := a) hn L.1.2.2.1 (ck_G L)
      rw [← cx_zr hN] at e
      show f_X6_garmentsIn N 237 a = _
      rw [f_X6_garmentsIn, cl_let, h4, Option.bind_some, cx_fails1, cu_b2, if_pos rfl, e]
      rfl
  · refine cx_ok_e R 1 1 0 (by decide) (by rw [f_X5_garmentsIn, h3]; rfl) fun N hN => ?_
    show f_X6_garmentsIn N 237 a = _
    rw [f_X6_garmentsIn, cl_let, h4, Option.bind_some, cx_fails0, cu_b2, if_neg (by decide), cx_tt]
    rfl
theorem an_garmentByPlace (R : cx_R B M) (a : Int32) : cx_e0 B M (f_X5_garmentByPlace M 0 a) (fun N => f_X6_garmentByPlace N 237 a) := by
  obtain ⟨n, m, hm, L⟩ := R.1
  obtain ⟨v, e1, e2⟩ := ck_place (N := cl_ms M 237 4 0) L (a := a)
  refine cx_e0_p R v e1 ?_
  rw [← cx_z0] at e2
  show f_X6_garmentByPlace M 237 a = _
  rw [f_X6_garmentByPlace, cl_let, e2]
theorem an_stateOf (R : cx_R B M) (a : Int32) : cx_ok B [(2, 1)] (f_X5_stateOf M 0 a) (fun N => f_X6_stateOf N 237 a) := by
  obtain ⟨n, m, hm, L⟩ := R.1
  have hn := L.1.1
  rcases cx_known L a with ⟨g, hg, rfl, h1, h2⟩ | ⟨h1, h2⟩
  · obtain ⟨hE, hW⟩ := ck_G L g hg
    refine cx_ok_p R (M (4 + 9 + g) 6) ?_ fun N hN => ?_
    · rw [f_X5_stateOf, h1]
      rfl
    · have e := cm_of6 (N := cl_ms N 237 4 0) (r := M 239) (g := g) (by omega)
      rw [← cx_zr hN] at e
      show f_X6_stateOf N 237 (nI g) = _
      rw [f_X6_stateOf, f_X6_asked, h2 N (by rw [hN 239 (by decide)]; exact L.1.2.2.1), cu_b2, if_neg (by decide), e, hE.2.1]
      rfl
  · refine cx_ok_e R 2 1 0 (by decide) (by rw [f_X5_stateOf, h1]; rfl) fun N hN => ?_
    show f_X6_stateOf N 237 a = _
    rw [f_X6_stateOf, f_X6_asked, h2 N (by rw [hN 239 (by decide)]; exact L.1.2.2.1), cu_b2, if_pos rfl]
    rfl
theorem an_widthOf (R : cx_R B M) (a : Int32) : cx_ok B [(2, 1)] (f_X5_widthOf M 0 a) (fun N => f_X6_widthOf N 237 a) := by
  obtain ⟨n, m, hm, L⟩ := R.1
  have hn := L.1.1
  rcases cx_known L a with ⟨g, hg, rfl, h1, h2⟩ | ⟨h1, h2⟩
  · obtain ⟨hE, hW⟩ := ck_G L g hg
    refine cx_ok_p R (M (4 + 9 + g) 0) ?_ fun N hN => ?_
    · rw [f_X5_widthOf, h1]
      rfl
    · have e := cm_of0 (N := cl_ms N 237 4 0) (r := M 239) (g := g) (by omega)
      rw [← cx_zr hN] at e
      show f_X6_widthOf N 237 (nI g) = _
      rw [f_X6_widthOf, f_X6_asked, h2 N (by rw [hN 239 (by decide)]; exact L.1.2.2.1), cu_b2, if_neg (by decide), e, hE.1.1]
      rfl
  · refine cx_ok_e R 2 1 0 (by decide) (by rw [f_X5_widthOf, h1]; rfl) fun N hN => ?_
    show f_X6_widthOf N 237 a = _
    rw [f_X6_widthOf, f_X6_asked, h2 N (by rw [hN 239 (by decide)]; exact L.1.2.2.1), cu_b2, if_pos rfl]
    rfl
theorem an_dryWeight (R : cx_R B M) (a : Int32) : cx_ok B [(2, 1)] (f_X5_dryWeight M 0 a) (fun N => f_X6_dryWeight N 237 a) := by
  obtain ⟨n, m, hm, L⟩ := R.1
  have hn := L.1.1
  rcases cx_known L a with ⟨g, hg, rfl, h1, h2⟩ | ⟨h1, h2⟩
  · obtain ⟨hE, hW⟩ := ck_G L g hg
    refine cx_ok_p R (M (4 + 9 + g) 1) ?_ fun N hN => ?_
    · rw [f_X5_dryWeight, h1]
      rfl
    · have e := cm_of1 (N := cl_ms N 237 4 0) (r := M 239) (g := g) (by omega)
      rw [← cx_zr hN] at e
      show f_X6_dryWeight N 237 (nI g) = _
      rw [f_X6_dryWeight, f_X6_asked, h2 N (by rw [hN 239 (by decide)]; exact L.1.2.2.1), cu_b2, if_neg (by decide), e, hE.1.2.1]
      rfl
  · refine cx_ok_e R 2 1 0 (by decide) (by rw [f_X5_dryWeight, h1]; rfl) fun N hN => ?_
    show f_X6_dryWeight N 237 a = _
    rw [f_X6_dryWeight, f_X6_asked, h2 N (by rw [hN 239 (by decide)]; exact L.1.2.2.1), cu_b2, if_pos rfl]
    rfl
theorem an_capacityOf (R : cx_R B M) (a : Int32) : cx_ok B [(2, 1)] (f_X5_capacityOf M 0 a) (fun N => f_X6_capacityOf N 237 a) := by
  obtain ⟨n, m, hm, L⟩ := R.1
  have hn := L.1.1
  rcases cx_known L a with ⟨g, hg, rfl, h1, h2⟩ | ⟨h1, h2⟩
  · obtain ⟨hE, hW⟩ := ck_G L g hg
    refine cx_ok_p R (M (4 + 9 + g) 2) ?_ fun N hN => ?_
    · rw [f_X5_capacityOf, h1]
      rfl
    · have e := cm_of2 (N := cl_ms N 237 4 0) (r := M 239) (g := g) (by omega)
      rw [← cx_zr hN] at e
      show f_X6_capacityOf N 237 (nI g) = _
      rw [f_X6_capacityOf, f_X6_asked, h2 N (by rw [hN 239 (by decide)]; exact L.1.2.2.1), cu_b2, if_neg (by decide), e, hE.1.2.2.1]
      rfl
  · refine cx_ok_e R 2 1 0 (by decide) (by rw [f_X5_capacityOf, h1]; rfl) fun N hN => ?_
    show f_X6_capacityOf N 237 a = _
    rw [f_X6_capacityOf, f_X6_asked, h2 N (by rw [hN 239 (by decide)]; exact L.1.2.2.1), cu_b2, if_pos rfl]
    rfl
theorem an_waterOf (R : cx_R B M) (a : Int32) : cx_ok B [(2, 1)] (f_X5_waterOf M 0 a) (fun N => f_X6_waterOf N 237 a) := by
  obtain ⟨n, m, hm, L⟩ := R.1
  have hn := L.1.1
  rcases cx_known L a with ⟨g, hg, rfl, h1, h2⟩ | ⟨h1, h2⟩
  · obtain ⟨hE, hW⟩ := ck_G L g hg
    refine cx_ok_p R (M (4 + 9 + g) 3) ?_ fun N hN => ?_
    · rw [f_X5_waterOf, h1]
      rfl
    · have e := cm_of3 (N := cl_ms N 237 4 0) (r := M 239) (g := g) (by omega)
      rw [← cx_zr hN] at e
      show f_X6_waterOf N 237 (nI g) = _
      rw [f_X6_waterOf, f_X6_asked, h2 N (by rw [hN 239 (by decide)]; exact L.1.2.2.1), cu_b2, if_neg (by decide), e, hE.1.2.2.2.1]
      rfl
  · refine cx_ok_e R 2 1 0 (by decide) (by rw [f_X5_waterOf, h1]; rfl) fun N hN => ?_
    show f_X6_waterOf N 237 a = _
    rw [f_X6_waterOf, f_X6_asked, h2 N (by rw [hN 239 (by decide)]; exact L.1.2.2.1), cu_b2, if_pos rfl]
    rfl
theorem an_smellOf (R : cx_R B M) (a : Int32) : cx_ok B [(2, 1)] (f_X5_smellOf M 0 a) (fun N => f_X6_smellOf N 237 a) := by
  obtain ⟨n, m, hm, L⟩ := R.1
  have hn := L.1.1
  rcases cx_known L a with ⟨g, hg, rfl, h1, h2⟩ | ⟨h1, h2⟩
  · obtain ⟨hE, hW⟩ := ck_G L g hg
    refine cx_ok_p R (M (4 + 9 + g) 4) ?_ fun N hN => ?_
    · rw [f_X5_smellOf, h1]
      rfl
    · have e := cm_of4 (N := cl_ms N 237 4 0) (r := M 239) (g := g) (by omega)
      rw [← cx_zr hN] at e
      show f_X6_smellOf N 237 (nI g) = _
      rw [f_X6_smellOf, f_X6_asked, h2 N (by rw [hN 239 (by decide)]; exact L.1.2.2.1), cu_b2, if_neg (by decide), e, hE.1.2.2.2.2.1]
      rfl
  · refine cx_ok_e R 2 1 0 (by decide) (by rw [f_X5_smellOf, h1]; rfl) fun N hN => ?_
    show f_X6_smellOf N 237 a = _
    rw [f_X6_smellOf, f_X6_asked, h2 N (by rw [hN 239 (by decide)]; exact L.1.2.2.1), cu_b2, if_pos rfl]
    rfl
theorem an_spotOf (R : cx_R B M) (a : Int32) : cx_ok B [(2, 1)] (f_X5_spotOf M 0 a) (fun N => f_X6_spotOf N 237 a) := by
  obtain ⟨n, m, hm, L⟩ := R.1
  have hn := L.1.1
  rcases cx_known L a with ⟨g, hg, rfl, h1, h2⟩ | ⟨h1, h2⟩
  · obtain ⟨hE, hW⟩ := ck_G L g hg
    refine cx_ok_p R (M (4 + 9 + g) 7) ?_ fun N hN => ?_
    · rw [f_X5_spotOf, h1]
      rfl
    · have e := cm_of7 (N := cl_ms N 237 4 0) (r := M 239) (g := g) (by omega)
      rw [← cx_zr hN] at e
      show f_X6_spotOf N 237 (nI g) = _
      rw [f_X6_spotOf, f_X6_asked, h2 N (by rw [hN 239 (by decide)]; exact L.1.2.2.1), cu_b2, if_neg (by decide), e, hE.2.2.1]
      rfl
  · refine cx_ok_e R 2 1 0 (by decide) (by rw [f_X5_spotOf, h1]; rfl) fun N hN => ?_
    show f_X6_spotOf N 237 a = _
    rw [f_X6_spotOf, f_X6_asked, h2 N (by rw [hN 239 (by decide)]; exact L.1.2.2.1), cu_b2, if_pos rfl]
    rfl
theorem an_woodenOf (R : cx_R B M) (a : Int32) : cx_ok B [(2, 1)] (f_X5_woodenOf M 0 a) (fun N => f_X6_woodenOf N 237 a) := by
  obtain ⟨n, m, hm, L⟩ := R.1
  have hn := L.1.1
  rcases cx_known L a with ⟨g, hg, rfl, h1, h2⟩ | ⟨h1, h2⟩
  · obtain ⟨hE, hW⟩ := ck_G L g hg
    refine cx_ok_p R (M (4 + 9 + g) 9) ?_ fun N hN => ?_
    · rw [f_X5_woodenOf, h1]
      rfl
    · have e := cm_of8 (N := cl_ms N 237 4 0) (r := M 239) (g := g) (by omega)
      rw [← cx_zr hN] at e
      show f_X6_woodenOf N 237 (nI g) = _
      rw [f_X6_woodenOf, f_X6_asked, h2 N (by rw [hN 239 (by decide)]; exact L.1.2.2.1), cu_b2, if_neg (by decide), e, hE.2.2.2.1]
      rfl
  · refine cx_ok_e R 2 1 0 (by decide) (by rw [f_X5_woodenOf, h1]; rfl) fun N hN => ?_
    show f_X6_woodenOf N 237 a = _
    rw [f_X6_woodenOf, f_X6_asked, h2 N (by rw [hN 239 (by decide)]; exact L.1.2.2.1), cu_b2, if_pos rfl]
    rfl
theorem an_steelOf (R : cx_R B M) (a : Int32) : cx_ok B [(2, 1)] (f_X5_steelOf M 0 a) (fun N => f_X6_steelOf N 237 a) := by
  obtain ⟨n, m, hm, L⟩ := R.1
  have hn := L.1.1
  rcases cx_known L a with ⟨g, hg, rfl, h1, h2⟩ | ⟨h1, h2⟩
  · obtain ⟨hE, hW⟩ := ck_G L g hg
    refine cx_ok_p R (M (4 + 9 + g) 10) ?_ fun N hN => ?_
    · rw [f_X5_steelOf, h1]
      rfl
    · have e := cm_of9 (N := cl_ms N 237 4 0) (r := M 239) (g := g) (by omega)
      rw [← cx_zr hN] at e
      show f_X6_steelOf N 237 (nI g) = _
      rw [f_X6_steelOf, f_X6_asked, h2 N (by rw [hN 239 (by decide)]; exact L.1.2.2.1), cu_b2, if_neg (by decide), e, hE.2.2.2.2.1]
      rfl
  · refine cx_ok_e R 2 1 0 (by decide) (by rw [f_X5_steelOf, h1]; rfl) fun N hN => ?_
    show f_X6_steelOf N 237 a = _
    rw [f_X6_steelOf, f_X6_asked, h2 N (by rw [hN 239 (by decide)]; exact L.1.2.2.1), cu_b2, if_pos rfl]
    rfl
theorem an_fallsOf (R : cx_R B M) (a : Int32) : cx_ok B [(2, 1)] (f_X5_fallsOf M 0 a) (fun N => f_X6_fallsOf N 237 a) := by
  obtain ⟨n, m, hm, L⟩ := R.1
  have hn := L.1.1
  rcases cx_known L a with ⟨g, hg, rfl, h1, h2⟩ | ⟨h1, h2⟩
  · obtain ⟨hE, hW⟩ := ck_G L g hg
    refine cx_ok_p R (M (4 + 9 + g) 11) ?_ fun N hN => ?_
    · rw [f_X5_fallsOf, h1]
      rfl
    · have e := cm_of10 (N := cl_ms N 237 4 0) (r := M 239) (g := g) (by omega)
      rw [← cx_zr hN] at e
      show f_X6_fallsOf N 237 (nI g) = _
      rw [f_X6_fallsOf, f_X6_asked, h2 N (by rw [hN 239 (by decide)]; exact L.1.2.2.1), cu_b2, if_neg (by decide), e, hE.2.2.2.2.2]
      rfl
  · refine cx_ok_e R 2 1 0 (by decide) (by rw [f_X5_fallsOf, h1]; rfl) fun N hN => ?_
    show f_X6_fallsOf N 237 a = _
    rw [f_X6_fallsOf, f_X6_asked, h2 N (by rw [hN 239 (by decide)]; exact L.1.2.2.1), cu_b2, if_pos rfl]
    rfl
theorem an_isDirty (R : cx_R B M) (a : Int32) : cx_ok B [(2, 1)] (f_X5_isDirty M 0 a) (fun N => f_X6_isDirty N 237 a) := by
  obtain ⟨n, m, hm, L⟩ := R.1
  have hn := L.1.1
  rcases cx_known L a with ⟨g, hg, rfl, h1, h2⟩ | ⟨h1, h2⟩
  · obtain ⟨hE, hW⟩ := ck_G L g hg
    refine cx_ok_p R (M (4 + 9 + g) 5) ?_ fun N hN => ?_
    · rw [f_X5_isDirty, h1]
      show (if cl_bz (M (4 + 9 + g) 5) = true then _ else _) = _
      rw [if_pos (cg_bz hW)]
    · have e := cm_of5 (N := cl_ms N 237 4 0) (r := M 239) (g := g) (by omega)
      rw [← cx_zr hN] at e
      show f_X6_isDirty N 237 (nI g) = _
      rw [f_X6_isDirty, f_X6_asked, h2 N (by rw [hN 239 (by decide)]; exact L.1.2.2.1), cu_b2, if_neg (by decide), e, hE.1.2.2.2.2.2]
      obtain ⟨w, a, c, v, -, -, ⟨h | h, -⟩, -⟩ := hW
      · show (if cg_G M 4 g 5 = 1 then _ else _) = some (cg_G M 4 g 5, _)
        rw [h]
        rfl
      · show (if cg_G M 4 g 5 = 1 then _ else _) = some (cg_G M 4 g 5, _)
        rw [h]
        rfl
  · refine cx_ok_e R 2 1 0 (by decide) (by rw [f_X5_isDirty, h1]; rfl) fun N hN => ?_
    show f_X6_isDirty N 237 a = _
    rw [f_X6_isDirty, f_X6_asked, h2 N (by rw [hN 239 (by decide)]; exact L.1.2.2.1), cu_b2, if_pos rfl]
    rfl
theorem an_weightOf (R : cx_R B M) (a : Int32) : cx_ok B [(2, 1)] (f_X5_weightOf M 0 a) (fun N => f_X6_weightOf N 237 a) := by
  obtain ⟨n, m, hm, L⟩ := R.1
  have hn := L.1.1
  rcases cx_known L a with ⟨g, hg, rfl, h1, h2⟩ | ⟨h1, h2⟩
  · obtain ⟨hE, hW⟩ := ck_G L g hg
    refine cx_ok_p R (cg_weight (M (4 + 9 + g))) ?_ fun N hN => ?_
    · rw [f_X5_weightOf, h1, cx_x2]
      rw [cg_weightC]
      rfl
    · have e := cg_weightN (N := cl_ms N 237 4 0) (r := M 239) (g := g) (by omega) hE
      rw [← cx_zr hN] at e
      show f_X6_weightOf N 237 (nI g) = _
      rw [f_X6_weightOf, h2 N (by rw [hN 239 (by decide)]; exact L.1.2.2.1), cu_b2, if_neg (by decide), e]
      rfl
  · refine cx_ok_e R 2 1 0 (by decide) (by rw [f_X5_weightOf, h1]; rfl) fun N hN => ?_
    show f_X6_weightOf N 237 a = _
    rw [f_X6_weightOf, h2 N (by rw [hN 239 (by decide)]; exact L.1.2.2.1), cu_b2, if_pos rfl]
    rfl
theorem an_holdOf (R : cx_R B M) (a : Int32) : cx_ok B [(2, 1)] (f_X5_holdOf M 0 a) (fun N => f_X6_holdOf N 237 a) := by
  obtain ⟨n, m, hm, L⟩ := R.1
  have hn := L.1.1
  rcases cx_known L a with ⟨g, hg, rfl, h1, h2⟩ | ⟨h1, h2⟩
  · obtain ⟨hE, hW⟩ := ck_G L g hg
    refine cx_ok_p R (cg_hold (M (4 + 9 + g))) ?_ fun N hN => ?_
    · rw [f_X5_holdOf, h1, cx_x2]
      rw [cg_holdC]
      rfl
    · have e := cg_holdN (N := cl_ms N 237 4 0) (r := M 239) (g := g) (by omega) hE
      rw [← cx_zr hN] at e
      show f_X6_holdOf N 237 (nI g) = _
      rw [f_X6_holdOf, h2 N (by rw [hN 239 (by decide)]; exact L.1.2.2.1), cu_b2, if_neg (by decide), e]
      rfl
  · refine cx_ok_e R 2 1 0 (by decide) (by rw [f_X5_holdOf, h1]; rfl) fun N hN => ?_
    show f_X6_holdOf N 237 a = _
    rw [f_X6_holdOf, h2 N (by rw [hN 239 (by decide)]; exact L.1.2.2.1), cu_b2, if_pos rfl]
    rfl
theorem an_dryGarments (R : cx_R B M) : cx_e0 B M (f_X5_dryGarments M 0) (fun N => f_X6_dryGarments N 237) := by
  obtain ⟨n, m, hm, L⟩ := R.1
  refine cx_e0_p R (cu_it (fun i x => if M (0 + 4 + 8 + 1 + i) 3 = 0 then x ||| (1 <<< (nI i &&& 31)) else x) n 0) (cq_dry L.1.1 L.1.2.1) ?_
  have e := cq_dryN (N := M) L.1.1 L.1.2.2.1 (ck_G L)
  rw [← cu_rowN] at e
  show f_X6_dryGarments M 237 = _
  rw [f_X6_dryGarments, e]
  show some (_, _) = _
  have hh : ∀ i, M (4 + 9 + i) = M (0 + 4 + 8 + 1 + i) := fun i => by rw [show 4 + 9 + i = 0 + 4 + 8 + 1 + i by omega]
  simp only [cg_G, hh]
theorem an_waterInAll (R : cx_R B M) : cx_e0 B M (f_X5_waterInAll M 0) (fun N => f_X6_waterInAll N 237) := by
  obtain ⟨n, m, hm, L⟩ := R.1
  refine cx_e0_p R (cu_it (fun i x => x + M (0 + 4 + 8 + 1 + i) 3) n 0) (cq_water L.1.1 L.1.2.1) ?_
  have e := cq_waterN (N := M) L.1.1 L.1.2.2.1 (ck_G L)
  rw [← cu_rowN] at e
  show f_X6_waterInAll M 237 = _
  rw [f_X6_waterInAll, e]
  show some (_, _) = _
  have hh : ∀ i, M (4 + 9 + i) = M (0 + 4 + 8 + 1 + i) := fun i => by rw [show 4 + 9 + i = 0 + 4 + 8 + 1 + i by omega]
  simp only [cg_G, hh]
theorem cx_waterCame {n m : Nat} (L : cg_L M 4 (M 239) n m) : f_X5_waterCame M 0 = some (M 239 8) := by
  have e := cq_came (M := M) (t := 0) L.1.1 L.1.2.1
  rw [e, cu_it_sm, L.2.2.2.1.1]
theorem an_waterCame (R : cx_R B M) : cx_e0 B M (f_X5_waterCame M 0) (fun N => f_X6_waterCame N 237) := by
  obtain ⟨n, m, hm, L⟩ := R.1
  exact cx_e0_p R (M 239 8) (cx_waterCame L) rfl
theorem cx_driedBySun {n m : Nat} (L : cg_L M 4 (M 239) n m) : f_X5_driedBySun M 0 = some (M 239 9) := by
  have e := cq_sun (M := M) (t := 0) L.1.1 L.1.2.1
  rw [e, cu_it_sm, L.2.2.2.1.2.1]
theorem an_driedBySun (R : cx_R B M) : cx_e0 B M (f_X5_driedBySun M 0) (fun N => f_X6_driedBySun N 237) := by
  obtain ⟨n, m, hm, L⟩ := R.1
  exact cx_e0_p R (M 239 9) (cx_driedBySun L) rfl
theorem cx_driedByWind {n m : Nat} (L : cg_L M 4 (M 239) n m) : f_X5_driedByWind M 0 = some (M 239 10) := by
  have e := cq_bywind (M := M) (t := 0) L.1.1 L.1.2.1
  rw [e, cu_it_sm, L.2.2.2.1.2.2]
theorem an_driedByWind (R : cx_R B M) : cx_e0 B M (f_X5_driedByWind M 0) (fun N => f_X6_driedByWind N 237) := by
  obtain ⟨n, m, hm, L⟩ := R.1
  exact cx_e0_p R (M 239 10) (cx_driedByWind L) rfl
theorem an_consistencyError (R : cx_R B M) : cx_e0 B M (f_X5_consistencyError M 0) (fun N => f_X6_consistencyError N 237) := by
  obtain ⟨n, m, hm, L⟩ := R.1
  have e1 := cq_water (M := M) (t := 0) L.1.1 L.1.2.1
  have e := cq_waterN (N := cl_ms M 237 4 0) L.1.1 L.1.2.2.1 (ck_G L)
  have hh : ∀ i, M (4 + 9 + i) = M (0 + 4 + 8 + 1 + i) := fun i => by rw [show 4 + 9 + i = 0 + 4 + 8 + 1 + i by omega]
  simp only [cg_G, hh] at e
  rw [← cx_z0] at e
  generalize cu_it (fun i x => x + M (0 + 4 + 8 + 1 + i) 3) n 0 = W at e e1
  have ec := ck_countN (N := cl_ms M 237 4 0) L (a := if 0 ≤ M 239 8 - M 239 9 - M 239 10 - W then M 239 8 - M 239 9 - M 239 10 - W else 0 - (M 239 8 - M 239 9 - M 239 10 - W))
  rw [← cx_z0] at ec
  refine cx_e0_p R (if 0 ≤ M 239 8 - M 239 9 - M 239 10 - W then M 239 8 - M 239 9 - M 239 10 - W else 0 - (M 239 8 - M 239 9 - M 239 10 - W)) ?_ ?_
  · rw [f_X5_consistencyError, cx_waterCame L, Option.bind_some, cx_driedBySun L, Option.bind_some, cx_driedByWind L, Option.bind_some, cl_let, e1, Option.bind_some, show 0 + 4 = 4 from rfl, ck_twice L, Option.bind_some, Int32.add_zero]
  · show f_X6_consistencyError M 237 = _
    rw [f_X6_consistencyError, cl_let, e, Option.bind_some, cl_let]
    have h9 : ∀ k, (cl_ms M 237 4 0) (237 + 2) k = M 239 k := fun k => by rw [show 237 + 2 = 239 from rfl, cx_t9]
    rw [h9, h9, h9]
    exact ec
