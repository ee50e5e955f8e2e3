set_option maxHeartbeats 4000000 in
set_option maxRecDepth 100000 in
theorem lc_9 {p : Program} {l : Launch} {e : Env} {s : State} {m : MethodId} {bb L : Nat} {below : List Frame} {meth : Method} {c : Code} {xs : Nat → Int32} {D : va_G} {ad am : Nat → Nat} {cI cO : ClassId} {tt i : Nat} (C : LX p s m meth c bb L xs D cI cO tt i) (kk : LG p l e s m bb below meth c D ad am cI cO i 1249) : LG p l e s m bb below meth c D ad am cI cO i 503 := by
  obtain ⟨C0, hK, hZ, hN, hi, hL⟩ := C
  obtain ⟨hx, hb, hr, hml, hown, hts0, hX, hbl, hlocks, hgv⟩ := C0
  have hown : s.vm.findClass RL = some m.cls := hown
  have hb : c.code = cL_law := hb
  have hts : ∀ w ∈ wsL_law, w.before #[Value.ref bb] s = true := fun w h => hts0 w (wsL_law_in w h)
  have hA : ∀ q : Nat, s.heap.size ≤ q → (fun q : Nat => s.heap.size ≤ q) q := fun _ h => h
  have hbA : ¬ (fun q : Nat => s.heap.size ≤ q) bb := Nat.not_le.mpr hbl
  intro g b d y zz j f v hI hM H locs ls hP hD hS hl
  refine lv_aload_n hx hb dL_law_503 rfl (lv_at hl 2 rfl) ?_
  refine lv_aload_n hx hb dL_law_504 rfl (lv_at hl 1 rfl) ?_
  refine lv_iload_n hx hb dL_law_505 rfl (lv_at hl 0 rfl) ?_
  refine lv_iconst (v := 1) hx hb dL_law_506 (by decide) ?_
  refine lv_iadd hx hb dL_law_507 ?_
  refine tpI (y := nI (i + 1)) (nI_add i 1) ?_
  refine va_sld hx hb hX hbl hbA hS (vp_in_nI (show i + 1 < L by omega) (by omega)) dL_law_508 ?_
  refine tpI (y := sx xs i 1) rfl ?_
  refine lv_aload_n hx hb dL_law_509 rfl (lv_at hl 1 rfl) ?_
  refine lv_iload_n hx hb dL_law_510 rfl (lv_at hl 0 rfl) ?_
  refine lv_iconst (v := 2) hx hb dL_law_511 (by decide) ?_
  refine lv_iadd hx hb dL_law_512 ?_
  refine tpI (y := nI (i + 2)) (nI_add i 2) ?_
  refine va_sld hx hb hX hbl hbA hS (vp_in_nI (show i + 2 < L by omega) (by omega)) dL_law_513 ?_
  refine tpI (y := sx xs i 2) rfl ?_
  refine mcI (wf := fun u : (Nat → Nat → Int32) × (Nat → Int32) × (Nat → Nat → Int64) => LW ad cI cO u.1 u.2.1 u.2.2 (MW am cI g y zz j f v [])) (va_runV (As := [.int (sx xs i 1), .int (sx xs i 2)]) (rest := []) ⟨hx, hb, hml, hown, hts⟩ (kX4_about l D cI cO tt ad g b d (MW am cI g y zz j f v []) H.size (sx xs i 1) (sx xs i 2) hI) (cwV 2 hts gL_law_X4_about rfl rfl rfl (by decide +kernel) ⟨(Nat.le_of_ble_eq_true rfl), (Nat.le_of_ble_eq_true rfl)⟩) (mwV hK hZ hN hP hD hS hA (va_recv hK hP (ci := 4) (q0 := 0) rfl rfl)) rfl rfl hl.1 rfl (lv_room (Nat.le_of_ble_eq_true rfl)) dL_law_514 ⟨(Nat.le_of_ble_eq_true rfl), (Nat.le_of_ble_eq_true rfl)⟩) hD hS hA (fun rX4 u H locs hu hP hD hS => ?_)
  obtain ⟨g1, b1, d1⟩ := u
  obtain ⟨e1, e2⟩ := hu
  have hP : va_P D vwCl (LW ad cI cO g1 b1 d1 (MW am cI g y zz j f v [])) H := hP
  have hD : va_D (fun q : Nat => s.heap.size ≤ q) (LW ad cI cO g1 b1 d1 (MW am cI g y zz j f v [])) := hD
  refine lv_aload_n hx hb dL_law_517 rfl (lv_at hl 3 rfl) ?_
  refine lv_aload_n hx hb dL_law_518 rfl (lv_at hl 1 rfl) ?_
  refine lv_iload_n hx hb dL_law_519 rfl (lv_at hl 0 rfl) ?_
  refine lv_iconst (v := 1) hx hb dL_law_520 (by decide) ?_
  refine lv_iadd hx hb dL_law_521 ?_
  refine tpI (y := nI (i + 1)) (nI_add i 1) ?_
  refine va_sld hx hb hX hbl hbA hS (vp_in_nI (show i + 1 < L by omega) (by omega)) dL_law_522 ?_
  refine tpI (y := sx xs i 1) rfl ?_
  refine lv_aload_n hx hb dL_law_523 rfl (lv_at hl 1 rfl) ?_
  refine lv_iload_n hx hb dL_law_524 rfl (lv_at hl 0 rfl) ?_
  refine lv_iconst (v := 2) hx hb dL_law_525 (by decide) ?_
  refine lv_iadd hx hb dL_law_526 ?_
  refine tpI (y := nI (i + 2)) (nI_add i 2) ?_
  refine va_sld hx hb hX hbl hbA hS (vp_in_nI (show i + 2 < L by omega) (by omega)) dL_law_527 ?_
  refine tpI (y := sx xs i 2) rfl ?_
  have hP := swP hP
  have hD := swD hD
  refine mcI (wf := fun u : (Nat → Nat → Int32) × (Nat → Int32) × (Nat → Int32) × (Nat → Int64) × (Nat → Int32) × (Nat → Int32) => MW am cI u.1 u.2.1 u.2.2.1 u.2.2.2.1 u.2.2.2.2.1 u.2.2.2.2.2 (LW ad cI cO g1 b1 d1 [])) (va_runV (As := [.int (sx xs i 1), .int (sx xs i 2)]) (rest := [.int rX4]) ⟨hx, hb, hml, hown, hts⟩ (kX5_about l D cI cO tt am g y zz j f v (LW ad cI cO g1 b1 d1 []) H.size (sx xs i 1) (sx xs i 2) hI hM) (cwV 2 hts gL_law_X5_about rfl rfl rfl (by decide +kernel) ⟨(Nat.le_of_ble_eq_true rfl), (Nat.le_of_ble_eq_true rfl)⟩) (mwV hK hZ hN hP hD hS hA (va_recv hK hP (ci := 5) (q0 := 0) rfl rfl)) rfl rfl hl.1 rfl (lv_room (Nat.le_of_ble_eq_true rfl)) dL_law_528 ⟨(Nat.le_of_ble_eq_true rfl), (Nat.le_of_ble_eq_true rfl)⟩) hD hS hA (fun rX5 u H locs hu hP hD hS => ?_)
  obtain ⟨g2, y2, zz2, j2, f2, v2⟩ := u
  obtain ⟨e3, e4, hM2⟩ := hu
  have hP : va_P D vwCl (MW am cI g2 y2 zz2 j2 f2 v2 (LW ad cI cO g1 b1 d1 [])) H := hP
  have hD : va_D (fun q : Nat => s.heap.size ≤ q) (MW am cI g2 y2 zz2 j2 f2 v2 (LW ad cI cO g1 b1 d1 [])) := hD
  have hP := bkP hP
  have hD := bkD hD
  refine lv_icmp_eq (tgt := 1249) hx hb dL_law_531 (by decide) (fun c_9 => ?_) (fun c_9 => absurd (by rw [e1, e3]) c_9)
  have e5 : g2 = g1 := e4.trans e2.symm
  subst e5
  exact kk _ b1 d1 y2 zz2 j2 f2 v2 (by rw [e4]; exact hI) hM2 _ _ _ hP hD hS hl
set_option maxHeartbeats 4000000 in
set_option maxRecDepth 100000 in
theorem lc_10 {p : Program} {l : Launch} {e : Env} {s : State} {m : MethodId} {bb L : Nat} {below : List Frame} {meth : Method} {c : Code} {xs : Nat → Int32} {D : va_G} {ad am : Nat → Nat} {cI cO : ClassId} {tt i : Nat} (C : LX p s m meth c bb L xs D cI cO tt i) (kk : LG p l e s m bb below meth c D ad am cI cO i 1249) : LG p l e s m bb below meth c D ad am cI cO i 536 := by
  obtain ⟨C0, hK, hZ, hN, hi, hL⟩ := C
  obtain ⟨hx, hb, hr, hml, hown, hts0, hX, hbl, hlocks, hgv⟩ := C0
  have hown : s.vm.findClass RL = some m.cls := hown
  have hb : c.code = cL_law := hb
  have hts : ∀ w ∈ wsL_law, w.before #[Value.ref bb] s = true := fun w h => hts0 w (wsL_law_in w h)
  have hA : ∀ q : Nat, s.heap.size ≤ q → (fun q : Nat => s.heap.size ≤ q) q := fun _ h => h
  have hbA : ¬ (fun q : Nat => s.heap.size ≤ q) bb := Nat.not_le.mpr hbl
  intro g b d y zz j f v hI hM H locs ls hP hD hS hl
  refine lv_aload_n hx hb dL_law_536 rfl (lv_at hl 2 rfl) ?_
  refine lv_aload_n hx hb dL_law_537 rfl (lv_at hl 1 rfl) ?_
  refine lv_iload_n hx hb dL_law_538 rfl (lv_at hl 0 rfl) ?_
  refine lv_iconst (v := 1) hx hb dL_law_539 (by decide) ?_
  refine lv_iadd hx hb dL_law_540 ?_
  refine tpI (y := nI (i + 1)) (nI_add i 1) ?_
  refine va_sld hx hb hX hbl hbA hS (vp_in_nI (show i + 1 < L by omega) (by omega)) dL_law_541 ?_
  refine tpI (y := sx xs i 1) rfl ?_
  refine lv_aload_n hx hb dL_law_542 rfl (lv_at hl 1 rfl) ?_
  refine lv_iload_n hx hb dL_law_543 rfl (lv_at hl 0 rfl) ?_
  refine lv_iconst (v := 2) hx hb dL_law_544 (by decide) ?_
  refine lv_iadd hx hb dL_law_545 ?_
  refine tpI (y := nI (i + 2)) (nI_add i 2) ?_
  refine va_sld hx hb hX hbl hbA hS (vp_in_nI (show i + 2 < L by omega) (by omega)) dL_law_546 ?_
  refine tpI (y := sx xs i 2) rfl ?_
  refine mcL (wf := fun u : (Nat → Nat → Int32) × (Nat → Int32) × (Nat → Nat → Int64) => LW ad cI cO u.1 u.2.1 u.2.2 (MW am cI g y zz j f v [])) (va_runV (As := [.int (sx xs i 1), .int (sx xs i 2)]) (rest := []) ⟨hx, hb, hml, hown, hts⟩ (kX4_own l D cI cO tt ad g b d (MW am cI g y zz j f v []) H.size (sx xs i 1) (sx xs i 2) hI) (cwV 2 hts gL_law_X4_own rfl rfl rfl (by decide +kernel) ⟨(Nat.le_of_ble_eq_true rfl), (Nat.le_of_ble_eq_true rfl)⟩) (mwV hK hZ hN hP hD hS hA (va_recv hK hP (ci := 4) (q0 := 0) rfl rfl)) rfl rfl hl.1 rfl (lv_room (Nat.le_of_ble_eq_true rfl)) dL_law_547 ⟨(Nat.le_of_ble_eq_true rfl), (Nat.le_of_ble_eq_true rfl)⟩) hD hS hA (fun rX4 u H locs hu hP hD hS => ?_)
  obtain ⟨g1, b1, d1⟩ := u
  obtain ⟨e1, e2⟩ := hu
  have hP : va_P D vwCl (LW ad cI cO g1 b1 d1 (MW am cI g y zz j f v [])) H := hP
  have hD : va_D (fun q : Nat => s.heap.size ≤ q) (LW ad cI cO g1 b1 d1 (MW am cI g y zz j f v [])) := hD
  refine lv_aload_n hx hb dL_law_550 rfl (lv_at hl 3 rfl) ?_
  refine lv_aload_n hx hb dL_law_551 rfl (lv_at hl 1 rfl) ?_
  refine lv_iload_n hx hb dL_law_552 rfl (lv_at hl 0 rfl) ?_
  refine lv_iconst (v := 1) hx hb dL_law_553 (by decide) ?_
  refine lv_iadd hx hb dL_law_554 ?_
  refine tpI (y := nI (i + 1)) (nI_add i 1) ?_
  refine va_sld hx hb hX hbl hbA hS (vp_in_nI (show i + 1 < L by omega) (by omega)) dL_law_555 ?_
  refine tpI (y := sx xs i 1) rfl ?_
  refine lv_aload_n hx hb dL_law_556 rfl (lv_at hl 1 rfl) ?_
  refine lv_iload_n hx hb dL_law_557 rfl (lv_at hl 0 rfl) ?_
  refine lv_iconst (v := 2) hx hb dL_law_558 (by decide) ?_
  refine lv_iadd hx hb dL_law_559 ?_
  refine tpI (y := nI (i + 2)) (nI_add i 2) ?_
  refine va_sld hx hb hX hbl hbA hS (vp_in_nI (show i + 2 < L by omega) (by omega)) dL_law_560 ?_
  refine tpI (y := sx xs i 2) rfl ?_
  have hP := swP hP
  have hD := swD hD
  refine mcL (wf := fun u : (Nat → Nat → Int32) × (Nat → Int32) × (Nat → Int32) × (Nat → Int64) × (Nat → Int32) × (Nat → Int32) => MW am cI u.1 u.2.1 u.2.2.1 u.2.2.2.1 u.2.2.2.2.1 u.2.2.2.2.2 (LW ad cI cO g1 b1 d1 [])) (va_runV (As := [.int (sx xs i 1), .int (sx xs i 2)]) (rest := [.long rX4]) ⟨hx, hb, hml, hown, hts⟩ (kX5_own l D cI cO tt am g y zz j f v (LW ad cI cO g1 b1 d1 []) H.size (sx xs i 1) (sx xs i 2) hI hM) (cwV 2 hts gL_law_X5_own rfl rfl rfl (by decide +kernel) ⟨(Nat.le_of_ble_eq_true rfl), (Nat.le_of_ble_eq_true rfl)⟩) (mwV hK hZ hN hP hD hS hA (va_recv hK hP (ci := 5) (q0 := 0) rfl rfl)) rfl rfl hl.1 rfl (lv_room (Nat.le_of_ble_eq_true rfl)) dL_law_561 ⟨(Nat.le_of_ble_eq_true rfl), (Nat.le_of_ble_eq_true rfl)⟩) hD hS hA (fun rX5 u H locs hu hP hD hS => ?_)
  obtain ⟨g2, y2, zz2, j2, f2, v2⟩ := u
  obtain ⟨e3, e4, hM2⟩ := hu
  have hP : va_P D vwCl (MW am cI g2 y2 zz2 j2 f2 v2 (LW ad cI cO g1 b1 d1 [])) H := hP
  have hD : va_D (fun q : Nat => s.heap.size ≤ q) (MW am cI g2 y2 zz2 j2 f2 v2 (LW ad cI cO g1 b1 d1 [])) := hD
  have hP := bkP hP
  have hD := bkD hD
  refine W.lcmp hx hb dL_law_564 ?_
  refine lv_if_eq (tgt := 1249) hx hb dL_law_565 (by decide) (fun c_9 => ?_) (fun c_9 => absurd ((lg_cmp_eq _ _).mpr (by rw [e1, e3])) c_9)
  have e5 : g2 = g1 := e4.trans e2.symm
  subst e5
  exact kk _ b1 d1 y2 zz2 j2 f2 v2 (by rw [e4]; exact hI) hM2 _ _ _ hP hD hS hl
set_option maxHeartbeats 4000000 in
set_option maxRecDepth 100000 in
theorem lc_11 {p : Program} {l : Launch} {e : Env} {s : State} {m : MethodId} {bb L : Nat} {below : List Frame} {meth : Method} {c : Code} {xs : Nat → Int32} {D : va_G} {ad am : Nat → Nat} {cI cO : ClassId} {tt i : Nat} (C : LX p s m meth c bb L xs D cI cO tt i) (kk : LG p l e s m bb below meth c D ad am cI cO i 1249) : LG p l e s m bb below meth c D ad am cI cO i 570 := by
  obtain ⟨C0, hK, hZ, hN, hi, hL⟩ := C
  obtain ⟨hx, hb, hr, hml, hown, hts0, hX, hbl, hlocks, hgv⟩ := C0
  have hown : s.vm.findClass RL = some m.cls := hown
  have hb : c.code = cL_law := hb
  have hts : ∀ w ∈ wsL_law, w.before #[Value.ref bb] s = true := fun w h => hts0 w (wsL_law_in w h)
  have hA : ∀ q : Nat, s.heap.size ≤ q → (fun q : Nat => s.heap.size ≤ q) q := fun _ h => h
  have hbA : ¬ (fun q : Nat => s.heap.size ≤ q) bb := Nat.not_le.mpr hbl
  intro g b d y zz j f v hI hM H locs ls hP hD hS hl
  refine lv_aload_n hx hb dL_law_570 rfl (lv_at hl 2 rfl) ?_
  refine lv_aload_n hx hb dL_law_571 rfl (lv_at hl 1 rfl) ?_
  refine lv_iload_n hx hb dL_law_572 rfl (lv_at hl 0 rfl) ?_
  refine lv_iconst (v := 1) hx hb dL_law_573 (by decide) ?_
  refine lv_iadd hx hb dL_law_574 ?_
  refine tpI (y := nI (i + 1)) (nI_add i 1) ?_
  refine va_sld hx hb hX hbl hbA hS (vp_in_nI (show i + 1 < L by omega) (by omega)) dL_law_575 ?_
  refine tpI (y := sx xs i 1) rfl ?_
  refine mcI (wf := fun u : (Nat → Nat → Int32) × (Nat → Int32) × (Nat → Nat → Int64) => LW ad cI cO u.1 u.2.1 u.2.2 (MW am cI g y zz j f v [])) (va_runV (As := [.int (sx xs i 1)]) (rest := []) ⟨hx, hb, hml, hown, hts⟩ (kX4_motion l D cI cO tt ad g b d (MW am cI g y zz j f v []) H.size (sx xs i 1) ) (cwV 1 hts gL_law_X4_motion rfl rfl rfl (by decide +kernel) ⟨(Nat.le_of_ble_eq_true rfl), (Nat.le_of_ble_eq_true rfl)⟩) (mwV hK hZ hN hP hD hS hA (va_recv hK hP (ci := 4) (q0 := 0) rfl rfl)) rfl rfl hl.1 rfl (lv_room (Nat.le_of_ble_eq_true rfl)) dL_law_576 ⟨(Nat.le_of_ble_eq_true rfl), (Nat.le_of_ble_eq_true rfl)⟩) hD hS hA (fun rX4 u H locs hu hP hD hS => ?_)
  obtain ⟨g1, b1, d1⟩ := u
  obtain ⟨e1, e2⟩ := hu
  have hP : va_P D vwCl (LW ad cI cO g1 b1 d1 (MW am cI g y zz j f v [])) H := hP
  have hD : va_D (fun q : Nat => s.heap.size ≤ q) (LW ad cI cO g1 b1 d1 (MW am cI g y zz j f v [])) := hD
  refine lv_aload_n hx hb dL_law_579 rfl (lv_at hl 3 rfl) ?_
  refine lv_aload_n hx hb dL_law_580 rfl (lv_at hl 1 rfl) ?_
  refine lv_iload_n hx hb dL_law_581 rfl (lv_at hl 0 rfl) ?_
  refine lv_iconst (v := 1) hx hb dL_law_582 (by decide) ?_
  refine lv_iadd hx hb dL_law_583 ?_
  refine tpI (y := nI (i + 1)) (nI_add i 1) ?_
  refine va_sld hx hb hX hbl hbA hS (vp_in_nI (show i + 1 < L by omega) (by omega)) dL_law_584 ?_
  refine tpI (y := sx xs i 1) rfl ?_
  have hP := swP hP
  have hD := swD hD
  refine mcI (wf := fun u : (Nat → Nat → Int32) × (Nat → Int32) × (Nat → Int32) × (Nat → Int64) × (Nat → Int32) × (Nat → Int32) => MW am cI u.1 u.2.1 u.2.2.1 u.2.2.2.1 u.2.2.2.2.1 u.2.2.2.2.2 (LW ad cI cO g1 b1 d1 [])) (va_runV (As := [.int (sx xs i 1)]) (rest := [.int rX4]) ⟨hx, hb, hml, hown, hts⟩ (kX5_motion l D cI cO tt am g y zz j f v (LW ad cI cO g1 b1 d1 []) H.size (sx xs i 1) hI hM) (cwV 1 hts gL_law_X5_motion rfl rfl rfl (by decide +kernel) ⟨(Nat.le_of_ble_eq_true rfl), (Nat.le_of_ble_eq_true rfl)⟩) (mwV hK hZ hN hP hD hS hA (va_recv hK hP (ci := 5) (q0 := 0) rfl rfl)) rfl rfl hl.1 rfl (lv_room (Nat.le_of_ble_eq_true rfl)) dL_law_585 ⟨(Nat.le_of_ble_eq_true rfl), (Nat.le_of_ble_eq_true rfl)⟩) hD hS hA (fun rX5 u H locs hu hP hD hS => ?_)
  obtain ⟨g2, y2, zz2, j2, f2, v2⟩ := u
  obtain ⟨e3, e4, hM2⟩ := hu
  have hP : va_P D vwCl (MW am cI g2 y2 zz2 j2 f2 v2 (LW ad cI cO g1 b1 d1 [])) H := hP
  have hD : va_D (fun q : Nat => s.heap.size ≤ q) (MW am cI g2 y2 zz2 j2 f2 v2 (LW ad cI cO g1 b1 d1 [])) := hD
  have hP := bkP hP
  have hD := bkD hD
  refine lv_icmp_eq (tgt := 1249) hx hb dL_law_588 (by decide) (fun c_9 => ?_) (fun c_9 => absurd (by rw [e1, e3]) c_9)
  have e5 : g2 = g1 := e4.trans e2.symm
  subst e5
  exact kk _ b1 d1 y2 zz2 j2 f2 v2 (by rw [e4]; exact WI_motion hI _) hM2 _ _ _ hP hD hS hl
set_option maxHeartbeats 4000000 in
set_option maxRecDepth 100000 in
theorem lc_12 {p : Program} {l : Launch} {e : Env} {s : State} {m : MethodId} {bb L : Nat} {below : List Frame} {meth : Method} {c : Code} {xs : Nat → Int32} {D : va_G} {ad am : Nat → Nat} {cI cO : ClassId} {tt i : Nat} (C : LX p s m meth c bb L xs D cI cO tt i) (kk : LG p l e s m bb below meth c D ad am cI cO i 1249) : LG p l e s m bb below meth c D ad am cI cO i 593 := by
  obtain ⟨C0, hK, hZ, hN, hi, hL⟩ := C
  obtain ⟨hx, hb, hr, hml, hown, hts0, hX, hbl, hlocks, hgv⟩ := C0
  have hown : s.vm.findClass RL = some m.cls := hown
  have hb : c.code = cL_law := hb
  have hts : ∀ w ∈ wsL_law, w.before #[Value.ref bb] s = true := fun w h => hts0 w (wsL_law_in w h)
  have hA : ∀ q : Nat, s.heap.size ≤ q → (fun q : Nat => s.heap.size ≤ q) q := fun _ h => h
  have hbA : ¬ (fun q : Nat => s.heap.size ≤ q) bb := Nat.not_le.mpr hbl
  intro g b d y zz j f v hI hM H locs ls hP hD hS hl
  refine lv_aload_n hx hb dL_law_593 rfl (lv_at hl 2 rfl) ?_
  refine lv_aload_n hx hb dL_law_594 rfl (lv_at hl 1 rfl) ?_
  refine lv_iload_n hx hb dL_law_595 rfl (lv_at hl 0 rfl) ?_
  refine lv_iconst (v := 1) hx hb dL_law_596 (by decide) ?_
  refine lv_iadd hx hb dL_law_597 ?_
  refine tpI (y := nI (i + 1)) (nI_add i 1) ?_
  refine va_sld hx hb hX hbl hbA hS (vp_in_nI (show i + 1 < L by omega) (by omega)) dL_law_598 ?_
  refine tpI (y := sx xs i 1) rfl ?_
  refine mcI (wf := fun u : (Nat → Nat → Int32) × (Nat → Int32) × (Nat → Nat → Int64) => LW ad cI cO u.1 u.2.1 u.2.2 (MW am cI g y zz j f v [])) (va_runV (As := [.int (sx xs i 1)]) (rest := []) ⟨hx, hb, hml, hown, hts⟩ (kX4_skew l D cI cO tt ad g b d (MW am cI g y zz j f v []) H.size (sx xs i 1) ) (cwV 1 hts gL_law_X4_skew rfl rfl rfl (by decide +kernel) ⟨(Nat.le_of_ble_eq_true rfl), (Nat.le_of_ble_eq_true rfl)⟩) (mwV hK hZ hN hP hD hS hA (va_recv hK hP (ci := 4) (q0 := 0) rfl rfl)) rfl rfl hl.1 rfl (lv_room (Nat.le_of_ble_eq_true rfl)) dL_law_599 ⟨(Nat.le_of_ble_eq_true rfl), (Nat.le_of_ble_eq_true rfl)⟩) hD hS hA (fun rX4 u H locs hu hP hD hS => ?_)
  obtain ⟨g1, b1, d1⟩ := u
  obtain ⟨e1, e2⟩ := hu
  have hP : va_P D vwCl (LW ad cI cO g1 b1 d1 (MW am cI g y zz j f v [])) H := hP
  have hD : va_D (fun q : Nat => s.heap.size ≤ q) (LW ad cI cO g1 b1 d1 (MW am cI g y zz j f v [])) := hD
  refine lv_aload_n hx hb dL_law_602 rfl (lv_at hl 3 rfl) ?_
  refine lv_aload_n hx hb dL_law_603 rfl (lv_at hl 1 rfl) ?_
  refine lv_iload_n hx hb dL_law_604 rfl (lv_at hl 0 rfl) ?_
  refine lv_iconst (v := 1) hx hb dL_law_605 (by decide) ?_
  refine lv_iadd hx hb dL_law_606 ?_
  refine tpI (y := nI (i + 1)) (nI_add i 1) ?_
  refine va_sld hx hb hX hbl hbA hS (vp_in_nI (show i + 1 < L by omega) (by omega)) dL_law_607 ?_
  refine tpI (y := sx xs i 1) rfl ?_
  have hP := swP hP
  have hD := swD hD
  refine mcI (wf := fun u : (Nat → Nat → Int32) × (Nat → Int32) × (Nat → Int32) × (Nat → Int64) × (Nat → Int32) × (Nat → Int32) => MW am cI u.1 u.2.1 u.2.2.1 u.2.2.2.1 u.2.2.2.2.1 u.2.2.2.2.2 (LW ad cI cO g1 b1 d1 [])) (va_runV (As := [.int (sx xs i 1)]) (rest := [.int rX4]) ⟨hx, hb, hml, hown, hts⟩ (kX5_skew l D cI cO tt am g y zz j f v (LW ad cI cO g1 b1 d1 []) H.size (sx xs i 1) hI hM) (cwV 1 hts gL_law_X5_skew rfl rfl rfl (by decide +kernel) ⟨(Nat.le_of_ble_eq_true rfl), (Nat.le_of_ble_eq_true rfl)⟩) (mwV hK hZ hN hP hD hS hA (va_recv hK hP (ci := 5) (q0 := 0) rfl rfl)) rfl rfl hl.1 rfl (lv_room (Nat.le_of_ble_eq_true rfl)) dL_law_608 ⟨(Nat.le_of_ble_eq_true rfl), (Nat.le_of_ble_eq_true rfl)⟩) hD hS hA (fun rX5 u H locs hu hP hD hS => ?_)
  obtain ⟨g2, y2, zz2, j2, f2, v2⟩ := u
  obtain ⟨e3, e4, hM2⟩ := hu
  have hP : va_P D vwCl (MW am cI g2 y2 zz2 j2 f2 v2 (LW ad cI cO g1 b1 d1 [])) H := hP
  have hD : va_D (fun q : Nat => s.heap.size ≤ q) (MW am cI g2 y2 zz2 j2 f2 v2 (LW ad cI cO g1 b1 d1 [])) := hD
  have hP := bkP hP
  have hD := bkD hD
  refine lv_icmp_eq (tgt := 1249) hx hb dL_law_611 (by decide) (fun c_9 => ?_) (fun c_9 => absurd (by rw [e1, e3]) c_9)
  have e5 : g2 = g1 := e4.trans e2.symm
  subst e5
  exact kk _ b1 d1 y2 zz2 j2 f2 v2 (by rw [e4]; exact WI_skew hI _) hM2 _ _ _ hP hD hS hl
set_option maxHeartbeats 4000000 in
set_option maxRecDepth 100000 in
theorem lc_13 {p : Program} {l : Launch} {e : Env} {s : State} {m : MethodId} {bb L : Nat} {below : List Frame} {meth : Method} {c : Code} {xs : Nat → Int32} {D : va_G} {ad am : Nat → Nat} {cI cO : ClassId} {tt i : Nat} (C : LX p s m meth c bb L xs D cI cO tt i) (kk : LG p l e s m bb below meth c D ad am cI cO i 1249) : LG p l e s m bb below meth c D ad am cI cO i 616 := by
  obtain ⟨C0, hK, hZ, hN, hi, hL⟩ := C
  obtain ⟨hx, hb, hr, hml, hown, hts0, hX, hbl, hlocks, hgv⟩ := C0
  have hown : s.vm.findClass RL = some m.cls := hown
  have hb : c.code = cL_law := hb
  have hts : ∀ w ∈ wsL_law, w.before #[Value.ref bb] s = true := fun w h => hts0 w (wsL_law_in w h)
  have hA : ∀ q : Nat, s.heap.size ≤ q → (fun q : Nat => s.heap.size ≤ q) q := fun _ h => h
  have hbA : ¬ (fun q : Nat => s.heap.size ≤ q) bb := Nat.not_le.mpr hbl
  intro g b d y zz j f v hI hM H locs ls hP hD hS hl
  refine lv_aload_n hx hb dL_law_616 rfl (lv_at hl 2 rfl) ?_
  refine lv_aload_n hx hb dL_law_617 rfl (lv_at hl 1 rfl) ?_
  refine lv_iload_n hx hb dL_law_618 rfl (lv_at hl 0 rfl) ?_
  refine lv_iconst (v := 1) hx hb dL_law_619 (by decide) ?_
  refine lv_iadd hx hb dL_law_620 ?_
  refine tpI (y := nI (i + 1)) (nI_add i 1) ?_
  refine va_sld hx hb hX hbl hbA hS (vp_in_nI (show i + 1 < L by omega) (by omega)) dL_law_621 ?_
  refine tpI (y := sx xs i 1) rfl ?_
  refine lv_aload_n hx hb dL_law_622 rfl (lv_at hl 1 rfl) ?_
  refine lv_iload_n hx hb dL_law_623 rfl (lv_at hl 0 rfl) ?_
  refine lv_iconst (v := 2) hx hb dL_law_624 (by decide) ?_
  refine lv_iadd hx hb dL_law_625 ?_
  refine tpI (y := nI (i + 2)) (nI_add i 2) ?_
  refine va_sld hx hb hX hbl hbA hS (vp_in_nI (show i + 2 < L by omega) (by omega)) dL_law_626 ?_
  refine tpI (y := sx xs i 2) rfl ?_
  refine lv_if_eq (tgt := 634) hx hb dL_law_627 (by decide) (fun c_1 => ?_) (fun c_1 => ?_)
  · refine lv_iconst (v := 0) hx hb dL_law_634 (by decide) ?_
    refine lv_aload_n hx hb dL_law_635 rfl (lv_at hl 1 rfl) ?_
    refine lv_iload_n hx hb dL_law_636 rfl (lv_at hl 0 rfl) ?_
    refine lv_iconst (v := 3) hx hb dL_law_637 (by decide) ?_
    refine lv_iadd hx hb dL_law_638 ?_
    refine tpI (y := nI (i + 3)) (nI_add i 3) ?_
    refine va_sld hx hb hX hbl hbA hS (vp_in_nI (show i + 3 < L by omega) (by omega)) dL_law_639 ?_
    refine tpI (y := sx xs i 3) rfl ?_
    refine mcI (wf := fun u : (Nat → Nat → Int32) × (Nat → Int32) × (Nat → Nat → Int64) => LW ad cI cO u.1 u.2.1 u.2.2 (MW am cI g y zz j f v [])) (va_runV (As := [.int (sx xs i 1), .int 0, .int (sx xs i 3)]) (rest := []) ⟨hx, hb, hml, hown, hts⟩ (kX4_laws l D cI cO tt ad g b d (MW am cI g y zz j f v []) H.size (sx xs i 1) 0 (sx xs i 3) (Or.inl rfl)) (cwV 3 hts gL_law_X4_laws rfl rfl rfl (by decide +kernel) ⟨(Nat.le_of_ble_eq_true rfl), (Nat.le_of_ble_eq_true rfl)⟩) (mwV hK hZ hN hP hD hS hA (va_recv hK hP (ci := 4) (q0 := 0) rfl rfl)) rfl rfl hl.1 rfl (lv_room (Nat.le_of_ble_eq_true rfl)) dL_law_640 ⟨(Nat.le_of_ble_eq_true rfl), (Nat.le_of_ble_eq_true rfl)⟩) hD hS hA (fun rX4 u H locs hu hP hD hS => ?_)
    obtain ⟨g1, b1, d1⟩ := u
    obtain ⟨e1, e2⟩ := hu
    have hP : va_P D vwCl (LW ad cI cO g1 b1 d1 (MW am cI g y zz j f v [])) H := hP
    have hD : va_D (fun q : Nat => s.heap.size ≤ q) (LW ad cI cO g1 b1 d1 (MW am cI g y zz j f v [])) := hD
    refine lv_aload_n hx hb dL_law_643 rfl (lv_at hl 3 rfl) ?_
    refine lv_aload_n hx hb dL_law_644 rfl (lv_at hl 1 rfl) ?_
    refine lv_iload_n hx hb dL_law_645 rfl (lv_at hl 0 rfl) ?_
    refine lv_iconst (v := 1) hx hb dL_law_646 (by decide) ?_
    refine lv_iadd hx hb dL_law_647 ?_
    refine tpI (y := nI (i + 1)) (nI_add i 1) ?_
    refine va_sld hx hb hX hbl hbA hS (vp_in_nI (show i + 1 < L by omega) (by omega)) dL_law_648 ?_
    refine tpI (y := sx xs i 1) rfl ?_
    refine lv_aload_n hx hb dL_law_649 rfl (lv_at hl 1 rfl) ?_
    refine lv_iload_n hx hb dL_law_650 rfl (lv_at hl 0 rfl) ?_
    refine lv_iconst (v := 2) hx hb dL_law_651 (by decide) ?_
    refine lv_iadd hx hb dL_law_652 ?_
    refine tpI (y := nI (i + 2)) (nI_add i 2) ?_
    refine va_sld hx hb hX hbl hbA hS (vp_in_nI (show i + 2 < L by omega) (by omega)) dL_law_653 ?_
    refine tpI (y := sx xs i 2) rfl ?_
    refine lv_if_eq (tgt := 661) hx hb dL_law_654 (by decide) (fun c_2 => ?_) (fun c_2 => absurd c_1 c_2)
    refine lv_iconst (v := 0) hx hb dL_law_661 (by decide) ?_
    refine lv_aload_n hx hb dL_law_662 rfl (lv_at hl 1 rfl) ?_
    refine lv_iload_n hx hb dL_law_663 rfl (lv_at hl 0 rfl) ?_
    refine lv_iconst (v := 3) hx hb dL_law_664 (by decide) ?_
    refine lv_iadd hx hb dL_law_665 ?_
    refine tpI (y := nI (i + 3)) (nI_add i 3) ?_
    refine va_sld hx hb hX hbl hbA hS (vp_in_nI (show i + 3 < L by omega) (by omega)) dL_law_666 ?_
    refine tpI (y := sx xs i 3) rfl ?_
    have hP := swP hP
    have hD := swD hD
    refine mcI (wf := fun u : (Nat → Nat → Int32) × (Nat → Int32) × (Nat → Int32) × (Nat → Int64) × (Nat → Int32) × (Nat → Int32) => MW am cI u.1 u.2.1 u.2.2.1 u.2.2.2.1 u.2.2.2.2.1 u.2.2.2.2.2 (LW ad cI cO g1 b1 d1 [])) (va_runV (As := [.int (sx xs i 1), .int 0, .int (sx xs i 3)]) (rest := [.int rX4]) ⟨hx, hb, hml, hown, hts⟩ (kX5_laws l D cI cO tt am g y zz j f v (LW ad cI cO g1 b1 d1 []) H.size (sx xs i 1) 0 (sx xs i 3) hI hM (Or.inl rfl)) (cwV 3 hts gL_law_X5_laws rfl rfl rfl (by decide +kernel) ⟨(Nat.le_of_ble_eq_true rfl), (Nat.le_of_ble_eq_true rfl)⟩) (mwV hK hZ hN hP hD hS hA (va_recv hK hP (ci := 5) (q0 := 0) rfl rfl)) rfl rfl hl.1 rfl (lv_room (Nat.le_of_ble_eq_true rfl)) dL_law_667 ⟨(Nat.le_of_ble_eq_true rfl), (Nat.le_of_ble_eq_true rfl)⟩) hD hS hA (fun rX5 u H locs hu hP hD hS => ?_)
    obtain ⟨g2, y2, zz2, j2, f2, v2⟩ := u
    obtain ⟨e3, e4, hM2⟩ := hu
    have hP : va_P D vwCl (MW am cI g2 y2 zz2 j2 f2 v2 (LW ad cI cO g1 b1 d1 [])) H := hP
    have hD : va_D (fun q : Nat => s.heap.size ≤ q) (MW am cI g2 y2 zz2 j2 f2 v2 (LW ad cI cO g1 b1 d1 [])) := hD
    have hP := bkP hP
    have hD := bkD hD
    refine lv_icmp_eq (tgt := 1249) hx hb dL_law_670 (by decide) (fun c_9 => ?_) (fun c_9 => absurd (by rw [e1, e3]) c_9)
    have e5 : g2 = g1 := e4.trans e2.symm
    subst e5
    exact kk _ b1 d1 y2 zz2 j2 f2 v2 (by rw [e4]; exact WI_laws hI _ _ _ (Or.inl rfl)) hM2 _ _ _ hP hD hS hl
  · refine lv_iconst (v := 1) hx hb dL_law_630 (by decide) ?_
    refine lv_goto (tgt := 635) hx hb dL_law_631 (by decide) ?_
    refine lv_aload_n hx hb dL_law_635 rfl (lv_at hl 1 rfl) ?_
    refine lv_iload_n hx hb dL_law_636 rfl (lv_at hl 0 rfl) ?_
    refine lv_iconst (v := 3) hx hb dL_law_637 (by decide) ?_
    refine lv_iadd hx hb dL_law_638 ?_
    refine tpI (y := nI (i + 3)) (nI_add i 3) ?_
    refine va_sld hx hb hX hbl hbA hS (vp_in_nI (show i + 3 < L by omega) (by omega)) dL_law_639 ?_
    refine tpI (y := sx xs i 3) rfl ?_
    refine mcI (wf := fun u : (Nat → Nat → Int32) × (Nat → Int32) × (Nat → Nat → Int64) => LW ad cI cO u.1 u.2.1 u.2.2 (MW am cI g y zz j f v [])) (va_runV (As := [.int (sx xs i 1), .int 1, .int (sx xs i 3)]) (rest := []) ⟨hx, hb, hml, hown, hts⟩ (kX4_laws l D cI cO tt ad g b d (MW am cI g y zz j f v []) H.size (sx xs i 1) 1 (sx xs i 3) (Or.inr rfl)) (cwV 3 hts gL_law_X4_laws rfl rfl rfl (by decide +kernel) ⟨(Nat.le_of_ble_eq_true rfl), (Nat.le_of_ble_eq_true rfl)⟩) (mwV hK hZ hN hP hD hS hA (va_recv hK hP (ci := 4) (q0 := 0) rfl rfl)) rfl rfl hl.1 rfl (lv_room (Nat.le_of_ble_eq_true rfl)) dL_law_640 ⟨(Nat.le_of_ble_eq_true rfl), (Nat.le_of_ble_eq_true rfl)⟩) hD hS hA (fun rX4 u H locs hu hP hD hS => ?_)
    obtain ⟨g1, b1, d1⟩ := u
    obtain ⟨e1, e2⟩ := hu
    have hP : va_P D vwCl (LW ad cI cO g1 b1 d1 (MW am cI g y zz j f v [])) H := hP
    have hD : va_D (fun q : Nat => s.heap.size ≤ q) (LW ad cI cO g1 b1 d1 (MW am cI g y zz j f v [])) := hD
    refine lv_aload_n hx hb dL_law_643 rfl (lv_at hl 3 rfl) ?_
    refine lv_aload_n hx hb dL_law_644 rfl (lv_at hl 1 rfl) ?_
    refine lv_iload_n hx hb dL_law_645 rfl (lv_at hl 0 rfl) ?_
    refine lv_iconst (v := 1) hx hb dL_law_646 (by decide) ?_
    refine lv_iadd hx hb dL_law_647 ?_
    refine tpI (y := nI (i + 1)) (nI_add i 1) ?_
    refine va_sld hx hb hX hbl hbA hS (vp_in_nI (show i + 1 < L by omega) (by omega)) dL_law_648 ?_
    refine tpI (y := sx xs i 1) rfl ?_
    refine lv_aload_n hx hb dL_law_649 rfl (lv_at hl 1 rfl) ?_
    refine lv_iload_n hx hb dL_law_650 rfl (lv_at hl 0 rfl) ?_
    refine lv_iconst (v := 2) hx hb dL_law_651 (by decide) ?_
    refine lv_iadd hx hb dL_law_652 ?_
    refine tpI (y := nI (i + 2)) (nI_add i 2) ?_
    refine va_sld hx hb hX hbl hbA hS (vp_in_nI (show i + 2 < L by omega) (by omega)) dL_law_653 ?_
    refine tpI (y := sx xs i 2) rfl ?_
    refine lv_if_eq (tgt := 661) hx hb dL_law_654 (by decide) (fun c_3 => absurd c_3 c_1) (fun c_3 => ?_)
    refine lv_iconst (v := 1) hx hb dL_law_657 (by decide) ?_
    refine lv_goto (tgt := 662) hx hb dL_law_658 (by decide) ?_
    refine lv_aload_n hx hb dL_law_662 rfl (lv_at hl 1 rfl) ?_
    refine lv_iload_n hx hb dL_law_663 rfl (lv_at hl 0 rfl) ?_
    refine lv_iconst (v := 3) hx hb dL_law_664 (by decide) ?_
    refine lv_iadd hx hb dL_law_665 ?_
    refine tpI (y := nI (i + 3)) (nI_add i 3) ?_
    refine va_sld hx hb hX hbl hbA hS (vp_in_nI (show i + 3 < L by omega) (by omega)) dL_law_666 ?_
    refine tpI (y := sx xs i 3) rfl ?_
    have hP := swP hP
    have hD := swD hD
    refine mcI (wf := fun u : (Nat → Nat → Int32) × (Nat → Int32) × (Nat → Int32) × (Nat → Int64) × (Nat → Int32) × (Nat → Int32) => MW am cI u.1 u.2.1 u.2.2.1 u.2.2.2.1 u.2.2.2.2.1 u.2.2.2.2.2 (LW ad cI cO g1 b1 d1 [])) (va_runV (As := [.int (sx xs i 1), .int 1, .int (sx xs i 3)]) (rest := [.int rX4]) ⟨hx, hb, hml, hown, hts⟩ (kX5_laws l D cI cO tt am g y zz j f v (LW ad cI cO g1 b1 d1 []) H.size (sx xs i 1) 1 (sx xs i 3) hI hM (Or.inr rfl)) (cwV 3 hts gL_law_X5_laws rfl rfl rfl (by decide +kernel) ⟨(Nat.le_of_ble_eq_true rfl), (Nat.le_of_ble_eq_true rfl)⟩) (mwV hK hZ hN hP hD hS hA (va_recv hK hP (ci := 5) (q0 := 0) rfl rfl)) rfl rfl hl.1 rfl (lv_room (Nat.le_of_ble_eq_true rfl)) dL_law_667 ⟨(Nat.le_of_ble_eq_true rfl), (Nat.le_of_ble_eq_true rfl)⟩) hD hS hA (fun rX5 u H locs hu hP hD hS => ?_)
    obtain ⟨g2, y2, zz2, j2, f2, v2⟩ := u
    obtain ⟨e3, e4, hM2⟩ := hu
    have hP : va_P D vwCl (MW am cI g2 y2 zz2 j2 f2 v2 (LW ad cI cO g1 b1 d1 [])) H := hP
    have hD : va_D (fun q : Nat => s.heap.size ≤ q) (MW am cI g2 y2 zz2 j2 f2 v2 (LW ad cI cO g1 b1 d1 [])) := hD
    have hP := bkP hP
    have hD := bkD hD
    refine lv_icmp_eq (tgt := 1249) hx hb dL_law_670 (by decide) (fun c_9 => ?_) (fun c_9 => absurd (by rw [e1, e3]) c_9)
    have e5 : g2 = g1 := e4.trans e2.symm
    subst e5
    exact kk _ b1 d1 y2 zz2 j2 f2 v2 (by rw [e4]; exact WI_laws hI _ _ _ (Or.inr rfl)) hM2 _ _ _ hP hD hS hl
set_option maxHeartbeats 4000000 in
set_option maxRecDepth 100000 in
theorem lc_14 {p : Program} {l : Launch} {e : Env} {s : State} {m : MethodId} {bb L : Nat} {below : List Frame} {meth : Method} {c : Code} {xs : Nat → Int32} {D : va_G} {ad am : Nat → Nat} {cI cO : ClassId} {tt i : Nat} (C : LX p s m meth c bb L xs D cI cO tt i) (kk : LG p l e s m bb below meth c D ad am cI cO i 1249) : LG p l e s m bb below meth c D ad am cI cO i 675 := by
  obtain ⟨C0, hK, hZ, hN, hi, hL⟩ := C
  obtain ⟨hx, hb, hr, hml, hown, hts0, hX, hbl, hlocks, hgv⟩ := C0
  have hown : s.vm.findClass RL = some m.cls := hown
  have hb : c.code = cL_law := hb
  have hts : ∀ w ∈ wsL_law, w.before #[Value.ref bb] s = true := fun w h => hts0 w (wsL_law_in w h)
  have hA : ∀ q : Nat, s.heap.size ≤ q → (fun q : Nat => s.heap.size ≤ q) q := fun _ h => h
  have hbA : ¬ (fun q : Nat => s.heap.size ≤ q) bb := Nat.not_le.mpr hbl
  intro g b d y zz j f v hI hM H locs ls hP hD hS hl
  refine lv_aload_n hx hb dL_law_675 rfl (lv_at hl 2 rfl) ?_
  refine lv_aload_n hx hb dL_law_676 rfl (lv_at hl 1 rfl) ?_
  refine lv_iload_n hx hb dL_law_677 rfl (lv_at hl 0 rfl) ?_
  refine lv_iconst (v := 1) hx hb dL_law_678 (by decide) ?_
  refine lv_iadd hx hb dL_law_679 ?_
  refine tpI (y := nI (i + 1)) (nI_add i 1) ?_
  refine va_sld hx hb hX hbl hbA hS (vp_in_nI (show i + 1 < L by omega) (by omega)) dL_law_680 ?_
  refine tpI (y := sx xs i 1) rfl ?_
  refine lv_aload_n hx hb dL_law_681 rfl (lv_at hl 1 rfl) ?_
  refine lv_iload_n hx hb dL_law_682 rfl (lv_at hl 0 rfl) ?_
  refine lv_iconst (v := 2) hx hb dL_law_683 (by decide) ?_
  refine lv_iadd hx hb dL_law_684 ?_
  refine tpI (y := nI (i + 2)) (nI_add i 2) ?_
  refine va_sld hx hb hX hbl hbA hS (vp_in_nI (show i + 2 < L by omega) (by omega)) dL_law_685 ?_
  refine tpI (y := sx xs i 2) rfl ?_
  refine lv_aload_n hx hb dL_law_686 rfl (lv_at hl 1 rfl) ?_
  refine lv_iload_n hx hb dL_law_687 rfl (lv_at hl 0 rfl) ?_
  refine lv_iconst (v := 3) hx hb dL_law_688 (by decide) ?_
  refine lv_iadd hx hb dL_law_689 ?_
  refine tpI (y := nI (i + 3)) (nI_add i 3) ?_
  refine va_sld hx hb hX hbl hbA hS (vp_in_nI (show i + 3 < L by omega) (by omega)) dL_law_690 ?_
  refine tpI (y := sx xs i 3) rfl ?_
  refine lv_aload_n hx hb dL_law_691 rfl (lv_at hl 1 rfl) ?_
  refine lv_iload_n hx hb dL_law_692 rfl (lv_at hl 0 rfl) ?_
  refine lv_iconst (v := 4) hx hb dL_law_693 (by decide) ?_
  refine lv_iadd hx hb dL_law_694 ?_
  refine tpI (y := nI (i + 4)) (nI_add i 4) ?_
  refine va_sld hx hb hX hbl hbA hS (vp_in_nI (show i + 4 < L by omega) (by omega)) dL_law_695 ?_
  refine tpI (y := sx xs i 4) rfl ?_
  refine lv_aload_n hx hb dL_law_696 rfl (lv_at hl 1 rfl) ?_
  refine lv_iload_n hx hb dL_law_697 rfl (lv_at hl 0 rfl) ?_
  refine lv_iconst (v := 5) hx hb dL_law_698 (by decide) ?_
  refine lv_iadd hx hb dL_law_699 ?_
  refine tpI (y := nI (i + 5)) (nI_add i 5) ?_
  refine va_sld hx hb hX hbl hbA hS (vp_in_nI (show i + 5 < L by omega) (by omega)) dL_law_700 ?_
  refine tpI (y := sx xs i 5) rfl ?_
  refine mcI (wf := fun u : (Nat → Nat → Int32) × (Nat → Int32) × (Nat → Nat → Int64) => LW ad cI cO u.1 u.2.1 u.2.2 (MW am cI g y zz j f v [])) (va_runV (As := [.int (sx xs i 1), .int (sx xs i 2), .int (sx xs i 3), .int (sx xs i 4), .int (sx xs i 5)]) (rest := []) ⟨hx, hb, hml, hown, hts⟩ (kX4_answer l D cI cO tt ad g b d (MW am cI g y zz j f v []) H.size (sx xs i 1) (sx xs i 2) (sx xs i 3) (sx xs i 4) (sx xs i 5) ) (cwV 5 hts gL_law_X4_answer rfl rfl rfl (by decide +kernel) ⟨(Nat.le_of_ble_eq_true rfl), (Nat.le_of_ble_eq_true rfl)⟩) (mwV hK hZ hN hP hD hS hA (va_recv hK hP (ci := 4) (q0 := 0) rfl rfl)) rfl rfl hl.1 rfl (lv_room (Nat.le_of_ble_eq_true rfl)) dL_law_701 ⟨(Nat.le_of_ble_eq_true rfl), (Nat.le_of_ble_eq_true rfl)⟩) hD hS hA (fun rX4 u H locs hu hP hD hS => ?_)
  obtain ⟨g1, b1, d1⟩ := u
  obtain ⟨e1, e2⟩ := hu
  have hP : va_P D vwCl (LW ad cI cO g1 b1 d1 (MW am cI g y zz j f v [])) H := hP
  have hD : va_D (fun q : Nat => s.heap.size ≤ q) (LW ad cI cO g1 b1 d1 (MW am cI g y zz j f v [])) := hD
  refine lv_aload_n hx hb dL_law_704 rfl (lv_at hl 3 rfl) ?_
  refine lv_aload_n hx hb dL_law_705 rfl (lv_at hl 1 rfl) ?_
  refine lv_iload_n hx hb dL_law_706 rfl (lv_at hl 0 rfl) ?_
  refine lv_iconst (v := 1) hx hb dL_law_707 (by decide) ?_
  refine lv_iadd hx hb dL_law_708 ?_
  refine tpI (y := nI (i + 1)) (nI_add i 1) ?_
  refine va_sld hx hb hX hbl hbA hS (vp_in_nI (show i + 1 < L by omega) (by omega)) dL_law_709 ?_
  refine tpI (y := sx xs i 1) rfl ?_
  refine lv_aload_n hx hb dL_law_710 rfl (lv_at hl 1 rfl) ?_
  refine lv_iload_n hx hb dL_law_711 rfl (lv_at hl 0 rfl) ?_
  refine lv_iconst (v := 2) hx hb dL_law_712 (by decide) ?_
  refine lv_iadd hx hb dL_law_713 ?_
  refine tpI (y := nI (i + 2)) (nI_add i 2) ?_
  refine va_sld hx hb hX hbl hbA hS (vp_in_nI (show i + 2 < L by omega) (by omega)) dL_law_714 ?_
  refine tpI (y := sx xs i 2) rfl ?_
  refine lv_aload_n hx hb dL_law_715 rfl (lv_at hl 1 rfl) ?_
  refine lv_iload_n hx hb dL_law_716 rfl (lv_at hl 0 rfl) ?_
  refine lv_iconst (v := 3) hx hb dL_law_717 (by decide) ?_
  refine lv_iadd hx hb dL_law_718 ?_
  refine tpI (y := nI (i + 3)) (nI_add i 3) ?_
  refine va_sld hx hb hX hbl hbA hS (vp_in_nI (show i + 3 < L by omega) (by omega)) dL_law_719 ?_
  refine tpI (y := sx xs i 3) rfl ?_
  refine lv_aload_n hx hb dL_law_720 rfl (lv_at hl 1 rfl) ?_
  refine lv_iload_n hx hb dL_law_721 rfl (lv_at hl 0 rfl) ?_
  refine lv_iconst (v := 4) hx hb dL_law_722 (by decide) ?_
  refine lv_iadd hx hb dL_law_723 ?_
  refine tpI (y := nI (i + 4)) (nI_add i 4) ?_
  refine va_sld hx hb hX hbl hbA hS (vp_in_nI (show i + 4 < L by omega) (by omega)) dL_law_724 ?_
  refine tpI (y := sx xs i 4) rfl ?_
  refine lv_aload_n hx hb dL_law_725 rfl (lv_at hl 1 rfl) ?_
  refine lv_iload_n hx hb dL_law_726 rfl (lv_at hl 0 rfl) ?_
  refine lv_iconst (v := 5) hx hb dL_law_727 (by decide) ?_
  refine lv_iadd hx hb dL_law_728 ?_
  refine tpI (y := nI (i + 5)) (nI_add i 5) ?_
  refine va_sld hx hb hX hbl hbA hS (vp_in_nI (show i + 5 < L by omega) (by omega)) dL_law_729 ?_
  refine tpI (y := sx xs i 5) rfl ?_
  have hP := swP hP
  have hD := swD hD
  refine mcI (wf := fun u : (Nat → Nat → Int32) × (Nat → Int32) × (Nat → Int32) × (Nat → Int64) × (Nat → Int32) × (Nat → Int32) => MW am cI u.1 u.2.1 u.2.2.1 u.2.2.2.1 u.2.2.2.2.1 u.2.2.2.2.2 (LW ad cI cO g1 b1 d1 [])) (va_runV (As := [.int (sx xs i 1), .int (sx xs i 2), .int (sx xs i 3), .int (sx xs i 4), .int (sx xs i 5)]) (rest := [.int rX4]) ⟨hx, hb, hml, hown, hts⟩ (kX5_answer l D cI cO tt am g y zz j f v (LW ad cI cO g1 b1 d1 []) H.size (sx xs i 1) (sx xs i 2) (sx xs i 3) (sx xs i 4) (sx xs i 5) hI hM) (cwV 5 hts gL_law_X5_answer rfl rfl rfl (by decide +kernel) ⟨(Nat.le_of_ble_eq_true rfl), (Nat.le_of_ble_eq_true rfl)⟩) (mwV hK hZ hN hP hD hS hA (va_recv hK hP (ci := 5) (q0 := 0) rfl rfl)) rfl rfl hl.1 rfl (lv_room (Nat.le_of_ble_eq_true rfl)) dL_law_730 ⟨(Nat.le_of_ble_eq_true rfl), (Nat.le_of_ble_eq_true rfl)⟩) hD hS hA (fun rX5 u H locs hu hP hD hS => ?_)
  obtain ⟨g2, y2, zz2, j2, f2, v2⟩ := u
  obtain ⟨e3, e4, hM2⟩ := hu
  have hP : va_P D vwCl (MW am cI g2 y2 zz2 j2 f2 v2 (LW ad cI cO g1 b1 d1 [])) H := hP
  have hD : va_D (fun q : Nat => s.heap.size ≤ q) (MW am cI g2 y2 zz2 j2 f2 v2 (LW ad cI cO g1 b1 d1 [])) := hD
  have hP := bkP hP
  have hD := bkD hD
  refine lv_icmp_eq (tgt := 1249) hx hb dL_law_733 (by decide) (fun c_9 => ?_) (fun c_9 => absurd (by rw [e1, e3]) c_9)
  have e5 : g2 = g1 := e4.trans e2.symm
  subst e5
  exact kk _ b1 d1 y2 zz2 j2 f2 v2 (by rw [e4]; exact hI) hM2 _ _ _ hP hD hS hl
set_option maxHeartbeats 4000000 in
set_option maxRecDepth 100000 in
theorem lc_15 {p : Program} {l : Launch} {e : Env} {s : State} {m : MethodId} {bb L : Nat} {below : List Frame} {meth : Method} {c : Code} {xs : Nat → Int32} {D : va_G} {ad am : Nat → Nat} {cI cO : ClassId} {tt i : Nat} (C : LX p s m meth c bb L xs D cI cO tt i) (kk : LG p l e s m bb below meth c D ad am cI cO i 1249) : LG p l e s m bb below meth c D ad am cI cO i 738 := by
  obtain ⟨C0, hK, hZ, hN, hi, hL⟩ := C
  obtain ⟨hx, hb, hr, hml, hown, hts0, hX, hbl, hlocks, hgv⟩ := C0
  have hown : s.vm.findClass RL = some m.cls := hown
  have hb : c.code = cL_law := hb
  have hts : ∀ w ∈ wsL_law, w.before #[Value.ref bb] s = true := fun w h => hts0 w (wsL_law_in w h)
  have hA : ∀ q : Nat, s.heap.size ≤ q → (fun q : Nat => s.heap.size ≤ q) q := fun _ h => h
  have hbA : ¬ (fun q : Nat => s.heap.size ≤ q) bb := Nat.not_le.mpr hbl
  intro g b d y zz j f v hI hM H locs ls hP hD hS hl
  refine lv_aload_n hx hb dL_law_738 rfl (lv_at hl 2 rfl) ?_
  refine lv_aload_n hx hb dL_law_739 rfl (lv_at hl 1 rfl) ?_
  refine lv_iload_n hx hb dL_law_740 rfl (lv_at hl 0 rfl) ?_
  refine lv_iconst (v := 1) hx hb dL_law_741 (by decide) ?_
  refine lv_iadd hx hb dL_law_742 ?_
  refine tpI (y := nI (i + 1)) (nI_add i 1) ?_
  refine va_sld hx hb hX hbl hbA hS (vp_in_nI (show i + 1 < L by omega) (by omega)) dL_law_743 ?_
  refine tpI (y := sx xs i 1) rfl ?_
  refine lv_aload_n hx hb dL_law_744 rfl (lv_at hl 1 rfl) ?_
  refine lv_iload_n hx hb dL_law_745 rfl (lv_at hl 0 rfl) ?_
  refine lv_iconst (v := 2) hx hb dL_law_746 (by decide) ?_
  refine lv_iadd hx hb dL_law_747 ?_
  refine tpI (y := nI (i + 2)) (nI_add i 2) ?_
  refine va_sld hx hb hX hbl hbA hS (vp_in_nI (show i + 2 < L by omega) (by omega)) dL_law_748 ?_
  refine tpI (y := sx xs i 2) rfl ?_
  refine lv_aload_n hx hb dL_law_749 rfl (lv_at hl 1 rfl) ?_
  refine lv_iload_n hx hb dL_law_750 rfl (lv_at hl 0 rfl) ?_
  refine lv_iconst (v := 3) hx hb dL_law_751 (by decide) ?_
  refine lv_iadd hx hb dL_law_752 ?_
  refine tpI (y := nI (i + 3)) (nI_add i 3) ?_
  refine va_sld hx hb hX hbl hbA hS (vp_in_nI (show i + 3 < L by omega) (by omega)) dL_law_753 ?_
  refine tpI (y := sx xs i 3) rfl ?_
  refine lv_aload_n hx hb dL_law_754 rfl (lv_at hl 1 rfl) ?_
  refine lv_iload_n hx hb dL_law_755 rfl (lv_at hl 0 rfl) ?_
  refine lv_iconst (v := 4) hx hb dL_law_756 (by decide) ?_
  refine lv_iadd hx hb dL_law_757 ?_
  refine tpI (y := nI (i + 4)) (nI_add i 4) ?_
  refine va_sld hx hb hX hbl hbA hS (vp_in_nI (show i + 4 < L by omega) (by omega)) dL_law_758 ?_
  refine tpI (y := sx xs i 4) rfl ?_
  refine lv_aload_n hx hb dL_law_759 rfl (lv_at hl 1 rfl) ?_
  refine lv_iload_n hx hb dL_law_760 rfl (lv_at hl 0 rfl) ?_
  refine lv_iconst (v := 5) hx hb dL_law_761 (by decide) ?_
  refine lv_iadd hx hb dL_law_762 ?_
  refine tpI (y := nI (i + 5)) (nI_add i 5) ?_
  refine va_sld hx hb hX hbl hbA hS (vp_in_nI (show i + 5 < L by omega) (by omega)) dL_law_763 ?_
  refine tpI (y := sx xs i 5) rfl ?_
  refine pcI (va_runV (As := [.int (sx xs i 1), .int (sx xs i 2), .int (sx xs i 3), .int (sx xs i 4), .int (sx xs i 5)]) (rest := []) ⟨hx, hb, hml, hown, hts⟩ (kX4_beam l D cI cO tt ad g b d (MW am cI g y zz j f v []) H (sx xs i 1) (sx xs i 2) (sx xs i 3) (sx xs i 4) (sx xs i 5) ) (cwV 5 hts gL_law_X4_beam rfl rfl rfl (by decide +kernel) ⟨(Nat.le_of_ble_eq_true rfl), (Nat.le_of_ble_eq_true rfl)⟩) (pwV hK hZ hN hP hS (va_recv hK hP (ci := 4) (q0 := 0) rfl rfl)) rfl rfl hl.1 rfl (lv_room (Nat.le_of_ble_eq_true rfl)) dL_law_764 ⟨(Nat.le_of_ble_eq_true rfl), (Nat.le_of_ble_eq_true rfl)⟩) hS (fun locs hS => ?_)
  refine lv_aload_n hx hb dL_law_767 rfl (lv_at hl 3 rfl) ?_
  refine lv_aload_n hx hb dL_law_768 rfl (lv_at hl 1 rfl) ?_
  refine lv_iload_n hx hb dL_law_769 rfl (lv_at hl 0 rfl) ?_
  refine lv_iconst (v := 1) hx hb dL_law_770 (by decide) ?_
  refine lv_iadd hx hb dL_law_771 ?_
  refine tpI (y := nI (i + 1)) (nI_add i 1) ?_
  refine va_sld hx hb hX hbl hbA hS (vp_in_nI (show i + 1 < L by omega) (by omega)) dL_law_772 ?_
  refine tpI (y := sx xs i 1) rfl ?_
  refine lv_aload_n hx hb dL_law_773 rfl (lv_at hl 1 rfl) ?_
  refine lv_iload_n hx hb dL_law_774 rfl (lv_at hl 0 rfl) ?_
  refine lv_iconst (v := 2) hx hb dL_law_775 (by decide) ?_
  refine lv_iadd hx hb dL_law_776 ?_
  refine tpI (y := nI (i + 2)) (nI_add i 2) ?_
  refine va_sld hx hb hX hbl hbA hS (vp_in_nI (show i + 2 < L by omega) (by omega)) dL_law_777 ?_
  refine tpI (y := sx xs i 2) rfl ?_
  refine lv_aload_n hx hb dL_law_778 rfl (lv_at hl 1 rfl) ?_
  refine lv_iload_n hx hb dL_law_779 rfl (lv_at hl 0 rfl) ?_
  refine lv_iconst (v := 3) hx hb dL_law_780 (by decide) ?_
  refine lv_iadd hx hb dL_law_781 ?_
  refine tpI (y := nI (i + 3)) (nI_add i 3) ?_
  refine va_sld hx hb hX hbl hbA hS (vp_in_nI (show i + 3 < L by omega) (by omega)) dL_law_782 ?_
  refine tpI (y := sx xs i 3) rfl ?_
  refine lv_aload_n hx hb dL_law_783 rfl (lv_at hl 1 rfl) ?_
  refine lv_iload_n hx hb dL_law_784 rfl (lv_at hl 0 rfl) ?_
  refine lv_iconst (v := 4) hx hb dL_law_785 (by decide) ?_
  refine lv_iadd hx hb dL_law_786 ?_
  refine tpI (y := nI (i + 4)) (nI_add i 4) ?_
  refine va_sld hx hb hX hbl hbA hS (vp_in_nI (show i + 4 < L by omega) (by omega)) dL_law_787 ?_
  refine tpI (y := sx xs i 4) rfl ?_
  refine lv_aload_n hx hb dL_law_788 rfl (lv_at hl 1 rfl) ?_
  refine lv_iload_n hx hb dL_law_789 rfl (lv_at hl 0 rfl) ?_
  refine lv_iconst (v := 5) hx hb dL_law_790 (by decide) ?_
  refine lv_iadd hx hb dL_law_791 ?_
  refine tpI (y := nI (i + 5)) (nI_add i 5) ?_
  refine va_sld hx hb hX hbl hbA hS (vp_in_nI (show i + 5 < L by omega) (by omega)) dL_law_792 ?_
  refine tpI (y := sx xs i 5) rfl ?_
  have hP := swP hP
  have hD := swD hD
  refine pcI (va_runV (As := [.int (sx xs i 1), .int (sx xs i 2), .int (sx xs i 3), .int (sx xs i 4), .int (sx xs i 5)]) (rest := [.int (fBeam (sx xs i 1) (sx xs i 2) (sx xs i 3) (sx xs i 4) (sx xs i 5))]) ⟨hx, hb, hml, hown, hts⟩ (kX5_beam l D cI cO tt am g y zz j f v (LW ad cI cO g b d []) H (sx xs i 1) (sx xs i 2) (sx xs i 3) (sx xs i 4) (sx xs i 5) ) (cwV 5 hts gL_law_X5_beam rfl rfl rfl (by decide +kernel) ⟨(Nat.le_of_ble_eq_true rfl), (Nat.le_of_ble_eq_true rfl)⟩) (pwV hK hZ hN hP hS (va_recv hK hP (ci := 5) (q0 := 0) rfl rfl)) rfl rfl hl.1 rfl (lv_room (Nat.le_of_ble_eq_true rfl)) dL_law_793 ⟨(Nat.le_of_ble_eq_true rfl), (Nat.le_of_ble_eq_true rfl)⟩) hS (fun locs hS => ?_)
  have hP := bkP hP
  have hD := bkD hD
  refine lv_icmp_eq (tgt := 1249) hx hb dL_law_796 (by decide) (fun c_9 => ?_) (fun c_9 => absurd rfl c_9)
  exact kk _ b d y zz j f v hI hM _ _ _ hP hD hS hl
set_option maxHeartbeats 4000000 in
set_option maxRecDepth 100000 in
theorem lc_16 {p : Program} {l : Launch} {e : Env} {s : State} {m : MethodId} {bb L : Nat} {below : List Frame} {meth : Method} {c : Code} {xs : Nat → Int32} {D : va_G} {ad am : Nat → Nat} {cI cO : ClassId} {tt i : Nat} (C : LX p s m meth c bb L xs D cI cO tt i) (kk : LG p l e s m bb below meth c D ad am cI cO i 1249) : LG p l e s m bb below meth c D ad am cI cO i 801 := by
  obtain ⟨C0, hK, hZ, hN, hi, hL⟩ := C
  obtain ⟨hx, hb, hr, hml, hown, hts0, hX, hbl, hlocks, hgv⟩ := C0
  have hown : s.vm.findClass RL = some m.cls := hown
  have hb : c.code = cL_law := hb
  have hts : ∀ w ∈ wsL_law, w.before #[Value.ref bb] s = true := fun w h => hts0 w (wsL_law_in w h)
  have hA : ∀ q : Nat, s.heap.size ≤ q → (fun q : Nat => s.heap.size ≤ q) q := fun _ h => h
  have hbA : ¬ (fun q : Nat => s.heap.size ≤ q) bb := Nat.not_le.mpr hbl
  intro g b d y zz j f v hI hM H locs ls hP hD hS hl
  refine lv_aload_n hx hb dL_law_801 rfl (lv_at hl 2 rfl) ?_
  refine lv_aload_n hx hb dL_law_802 rfl (lv_at hl 1 rfl) ?_
  refine lv_iload_n hx hb dL_law_803 rfl (lv_at hl 0 rfl) ?_
  refine lv_iconst (v := 1) hx hb dL_law_804 (by decide) ?_
  refine lv_iadd hx hb dL_law_805 ?_
  refine tpI (y := nI (i + 1)) (nI_add i 1) ?_
  refine va_sld hx hb hX hbl hbA hS (vp_in_nI (show i + 1 < L by omega) (by omega)) dL_law_806 ?_
  refine tpI (y := sx xs i 1) rfl ?_
  refine lv_aload_n hx hb dL_law_807 rfl (lv_at hl 1 rfl) ?_
  refine lv_iload_n hx hb dL_law_808 rfl (lv_at hl 0 rfl) ?_
  refine lv_iconst (v := 2) hx hb dL_law_809 (by decide) ?_
  refine lv_iadd hx hb dL_law_810 ?_
  refine tpI (y := nI (i + 2)) (nI_add i 2) ?_
  refine va_sld hx hb hX hbl hbA hS (vp_in_nI (show i + 2 < L by omega) (by omega)) dL_law_811 ?_
  refine tpI (y := sx xs i 2) rfl ?_
  refine lv_aload_n hx hb dL_law_812 rfl (lv_at hl 1 rfl) ?_
  refine lv_iload_n hx hb dL_law_813 rfl (lv_at hl 0 rfl) ?_
  refine lv_iconst (v := 3) hx hb dL_law_814 (by decide) ?_
  refine lv_iadd hx hb dL_law_815 ?_
  refine tpI (y := nI (i + 3)) (nI_add i 3) ?_
  refine va_sld hx hb hX hbl hbA hS (vp_in_nI (show i + 3 < L by omega) (by omega)) dL_law_816 ?_
  refine tpI (y := sx xs i 3) rfl ?_
  refine lv_aload_n hx hb dL_law_817 rfl (lv_at hl 1 rfl) ?_
  refine lv_iload_n hx hb dL_law_818 rfl (lv_at hl 0 rfl) ?_
  refine lv_iconst (v := 4) hx hb dL_law_819 (by decide) ?_
  refine lv_iadd hx hb dL_law_820 ?_
  refine tpI (y := nI (i + 4)) (nI_add i 4) ?_
  refine va_sld hx hb hX hbl hbA hS (vp_in_nI (show i + 4 < L by omega) (by omega)) dL_law_821 ?_
  refine tpI (y := sx xs i 4) rfl ?_
  refine pcI (va_runV (As := [.int (sx xs i 1), .int (sx xs i 2), .int (sx xs i 3), .int (sx xs i 4)]) (rest := []) ⟨hx, hb, hml, hown, hts⟩ (kX4_turned l D cI cO tt ad g b d (MW am cI g y zz j f v []) H (sx xs i 1) (sx xs i 2) (sx xs i 3) (sx xs i 4) ) (cwV 4 hts gL_law_X4_turned rfl rfl rfl (by decide +kernel) ⟨(Nat.le_of_ble_eq_true rfl), (Nat.le_of_ble_eq_true rfl)⟩) (pwV hK hZ hN hP hS (va_recv hK hP (ci := 4) (q0 := 0) rfl rfl)) rfl rfl hl.1 rfl (lv_room (Nat.le_of_ble_eq_true rfl)) dL_law_822 ⟨(Nat.le_of_ble_eq_true rfl), (Nat.le_of_ble_eq_true rfl)⟩) hS (fun locs hS => ?_)
  refine lv_aload_n hx hb dL_law_825 rfl (lv_at hl 3 rfl) ?_
  refine lv_aload_n hx hb dL_law_826 rfl (lv_at hl 1 rfl) ?_
  refine lv_iload_n hx hb dL_law_827 rfl (lv_at hl 0 rfl) ?_
  refine lv_iconst (v := 1) hx hb dL_law_828 (by decide) ?_
  refine lv_iadd hx hb dL_law_829 ?_
  refine tpI (y := nI (i + 1)) (nI_add i 1) ?_
  refine va_sld hx hb hX hbl hbA hS (vp_in_nI (show i + 1 < L by omega) (by omega)) dL_law_830 ?_
  refine tpI (y := sx xs i 1) rfl ?_
  refine lv_aload_n hx hb dL_law_831 rfl (lv_at hl 1 rfl) ?_
  refine lv_iload_n hx hb dL_law_832 rfl (lv_at hl 0 rfl) ?_
  refine lv_iconst (v := 2) hx hb dL_law_833 (by decide) ?_
  refine lv_iadd hx hb dL_law_834 ?_
  refine tpI (y := nI (i + 2)) (nI_add i 2) ?_
  refine va_sld hx hb hX hbl hbA hS (vp_in_nI (show i + 2 < L by omega) (by omega)) dL_law_835 ?_
  refine tpI (y := sx xs i 2) rfl ?_
  refine lv_aload_n hx hb dL_law_836 rfl (lv_at hl 1 rfl) ?_
  refine lv_iload_n hx hb dL_law_837 rfl (lv_at hl 0 rfl) ?_
  refine lv_iconst (v := 3) hx hb dL_law_838 (by decide) ?_
  refine lv_iadd hx hb dL_law_839 ?_
  refine tpI (y := nI (i + 3)) (nI_add i 3) ?_
  refine va_sld hx hb hX hbl hbA hS (vp_in_nI (show i + 3 < L by omega) (by omega)) dL_law_840 ?_
  refine tpI (y := sx xs i 3) rfl ?_
  refine lv_aload_n hx hb dL_law_841 rfl (lv_at hl 1 rfl) ?_
  refine lv_iload_n hx hb dL_law_842 rfl (lv_at hl 0 rfl) ?_
  refine lv_iconst (v := 4) hx hb dL_law_843 (by decide) ?_
  refine lv_iadd hx hb dL_law_844 ?_
  refine tpI (y := nI (i + 4)) (nI_add i 4) ?_
  refine va_sld hx hb hX hbl hbA hS (vp_in_nI (show i + 4 < L by omega) (by omega)) dL_law_845 ?_
  refine tpI (y := sx xs i 4) rfl ?_
  have hP := swP hP
  have hD := swD hD
  refine mcI (wf := fun u : (Nat → Nat → Int32) × (Nat → Int32) × (Nat → Int32) × (Nat → Int64) × (Nat → Int32) × (Nat → Int32) => MW am cI u.1 u.2.1 u.2.2.1 u.2.2.2.1 u.2.2.2.2.1 u.2.2.2.2.2 (LW ad cI cO g b d [])) (va_runV (As := [.int (sx xs i 1), .int (sx xs i 2), .int (sx xs i 3), .int (sx xs i 4)]) (rest := [.int (fTurned (sx xs i 1) (sx xs i 2) (sx xs i 3) (sx xs i 4))]) ⟨hx, hb, hml, hown, hts⟩ (kX5_turned l D cI cO tt am g y zz j f v (LW ad cI cO g b d []) H.size (sx xs i 1) (sx xs i 2) (sx xs i 3) (sx xs i 4) hI hM) (cwV 4 hts gL_law_X5_turned rfl rfl rfl (by decide +kernel) ⟨(Nat.le_of_ble_eq_true rfl), (Nat.le_of_ble_eq_true rfl)⟩) (mwV hK hZ hN hP hD hS hA (va_recv hK hP (ci := 5) (q0 := 0) rfl rfl)) rfl rfl hl.1 rfl (lv_room (Nat.le_of_ble_eq_true rfl)) dL_law_846 ⟨(Nat.le_of_ble_eq_true rfl), (Nat.le_of_ble_eq_true rfl)⟩) hD hS hA (fun rX5 u H locs hu hP hD hS => ?_)
  obtain ⟨g2, y2, zz2, j2, f2, v2⟩ := u
  obtain ⟨e3, e4, hM2⟩ := hu
  have hP : va_P D vwCl (MW am cI g2 y2 zz2 j2 f2 v2 (LW ad cI cO g b d [])) H := hP
  have hD : va_D (fun q : Nat => s.heap.size ≤ q) (MW am cI g2 y2 zz2 j2 f2 v2 (LW ad cI cO g b d [])) := hD
  have hP := bkP hP
  have hD := bkD hD
  refine lv_icmp_eq (tgt := 1249) hx hb dL_law_849 (by decide) (fun c_9 => ?_) (fun c_9 => absurd (by rw [e3]) c_9)
  have e5 : g2 = g := e4
  subst e5
  exact kk _ b d y2 zz2 j2 f2 v2 hI hM2 _ _ _ hP hD hS hl
set_option maxHeartbeats 4000000 in
set_option maxRecDepth 100000 in
theorem lc_17 {p : Program} {l : Launch} {e : Env} {s : State} {m : MethodId} {bb L : Nat} {below : List Frame} {meth : Method} {c : Code} {xs : Nat → Int32} {D : va_G} {ad am : Nat → Nat} {cI cO : ClassId} {tt i : Nat} (C : LX p s m meth c bb L xs D cI cO tt i) (kk : LG p l e s m bb below meth c D ad am cI cO i 1249) : LG p l e s m bb below meth c D ad am cI cO i 854 := by
  obtain ⟨C0, hK, hZ, hN, hi, hL⟩ := C
  obtain ⟨hx, hb, hr, hml, hown, hts0, hX, hbl, hlocks, hgv⟩ := C0
  have hown : s.vm.findClass RL = some m.cls := hown
  have hb : c.code = cL_law := hb
  have hts : ∀ w ∈ wsL_law, w.before #[Value.ref bb] s = true := fun w h => hts0 w (wsL_law_in w h)
  have hA : ∀ q : Nat, s.heap.size ≤ q → (fun q : Nat => s.heap.size ≤ q) q := fun _ h => h
  have hbA : ¬ (fun q : Nat => s.heap.size ≤ q) bb := Nat.not_le.mpr hbl
  intro g b d y zz j f v hI hM H locs ls hP hD hS hl
  refine lv_aload_n hx hb dL_law_854 rfl (lv_at hl 2 rfl) ?_
  refine lv_aload_n hx hb dL_law_855 rfl (lv_at hl 1 rfl) ?_
  refine lv_iload_n hx hb dL_law_856 rfl (lv_at hl 0 rfl) ?_
  refine lv_iconst (v := 1) hx hb dL_law_857 (by decide) ?_
  refine lv_iadd hx hb dL_law_858 ?_
  refine tpI (y := nI (i + 1)) (nI_add i 1) ?_
  refine va_sld hx hb hX hbl hbA hS (vp_in_nI (show i + 1 < L by omega) (by omega)) dL_law_859 ?_
  refine tpI (y := sx xs i 1) rfl ?_
  refine lv_aload_n hx hb dL_law_860 rfl (lv_at hl 1 rfl) ?_
  refine lv_iload_n hx hb dL_law_861 rfl (lv_at hl 0 rfl) ?_
  refine lv_iconst (v := 2) hx hb dL_law_862 (by decide) ?_
  refine lv_iadd hx hb dL_law_863 ?_
  refine tpI (y := nI (i + 2)) (nI_add i 2) ?_
  refine va_sld hx hb hX hbl hbA hS (vp_in_nI (show i + 2 < L by omega) (by omega)) dL_law_864 ?_
  refine tpI (y := sx xs i 2) rfl ?_
  refine mcI (wf := fun u : (Nat → Nat → Int32) × (Nat → Int32) × (Nat → Nat → Int64) => LW ad cI cO u.1 u.2.1 u.2.2 (MW am cI g y zz j f v [])) (va_runV (As := [.int (sx xs i 1), .int (sx xs i 2)]) (rest := []) ⟨hx, hb, hml, hown, hts⟩ (kX4_fate l D cI cO tt ad g b d (MW am cI g y zz j f v []) H.size (sx xs i 1) (sx xs i 2) hI) (cwV 2 hts gL_law_X4_fate rfl rfl rfl (by decide +kernel) ⟨(Nat.le_of_ble_eq_true rfl), (Nat.le_of_ble_eq_true rfl)⟩) (mwV hK hZ hN hP hD hS hA (va_recv hK hP (ci := 4) (q0 := 0) rfl rfl)) rfl rfl hl.1 rfl (lv_room (Nat.le_of_ble_eq_true rfl)) dL_law_865 ⟨(Nat.le_of_ble_eq_true rfl), (Nat.le_of_ble_eq_true rfl)⟩) hD hS hA (fun rX4 u H locs hu hP hD hS => ?_)
  obtain ⟨g1, b1, d1⟩ := u
  obtain ⟨e1, e2⟩ := hu
  have hP : va_P D vwCl (LW ad cI cO g1 b1 d1 (MW am cI g y zz j f v [])) H := hP
  have hD : va_D (fun q : Nat => s.heap.size ≤ q) (LW ad cI cO g1 b1 d1 (MW am cI g y zz j f v [])) := hD
  refine lv_aload_n hx hb dL_law_868 rfl (lv_at hl 3 rfl) ?_
  refine lv_aload_n hx hb dL_law_869 rfl (lv_at hl 1 rfl) ?_
  refine lv_iload_n hx hb dL_law_870 rfl (lv_at hl 0 rfl) ?_
  refine lv_iconst (v := 1) hx hb dL_law_871 (by decide) ?_
  refine lv_iadd hx hb dL_law_872 ?_
  refine tpI (y := nI (i + 1)) (nI_add i 1) ?_
  refine va_sld hx hb hX hbl hbA hS (vp_in_nI (show i + 1 < L by omega) (by omega)) dL_law_873 ?_
  refine tpI (y := sx xs i 1) rfl ?_
  refine lv_aload_n hx hb dL_law_874 rfl (lv_at hl 1 rfl) ?_
  refine lv_iload_n hx hb dL_law_875 rfl (lv_at hl 0 rfl) ?_
  refine lv_iconst (v := 2) hx hb dL_law_876 (by decide) ?_
  refine lv_iadd hx hb dL_law_877 ?_
  refine tpI (y := nI (i + 2)) (nI_add i 2) ?_
  refine va_sld hx hb hX hbl hbA hS (vp_in_nI (show i + 2 < L by omega) (by omega)) dL_law_878 ?_
  refine tpI (y := sx xs i 2) rfl ?_
  have hP := swP hP
  have hD := swD hD
  refine mcI (wf := fun u : (Nat → Nat → Int32) × (Nat → Int32) × (Nat → Int32) × (Nat → Int64) × (Nat → Int32) × (Nat → Int32) => MW am cI u.1 u.2.1 u.2.2.1 u.2.2.2.1 u.2.2.2.2.1 u.2.2.2.2.2 (LW ad cI cO g1 b1 d1 [])) (va_runV (As := [.int (sx xs i 1), .int (sx xs i 2)]) (rest := [.int rX4]) ⟨hx, hb, hml, hown, hts⟩ (kX5_fate l D cI cO tt am g y zz j f v (LW ad cI cO g1 b1 d1 []) H.size (sx xs i 1) (sx xs i 2) hI hM) (cwV 2 hts gL_law_X5_fate rfl rfl rfl (by decide +kernel) ⟨(Nat.le_of_ble_eq_true rfl), (Nat.le_of_ble_eq_true rfl)⟩) (mwV hK hZ hN hP hD hS hA (va_recv hK hP (ci := 5) (q0 := 0) rfl rfl)) rfl rfl hl.1 rfl (lv_room (Nat.le_of_ble_eq_true rfl)) dL_law_879 ⟨(Nat.le_of_ble_eq_true rfl), (Nat.le_of_ble_eq_true rfl)⟩) hD hS hA (fun rX5 u H locs hu hP hD hS => ?_)
  obtain ⟨g2, y2, zz2, j2, f2, v2⟩ := u
  obtain ⟨e3, e4, hM2⟩ := hu
  have hP : va_P D vwCl (MW am cI g2 y2 zz2 j2 f2 v2 (LW ad cI cO g1 b1 d1 [])) H := hP
  have hD : va_D (fun q : Nat => s.heap.size ≤ q) (MW am cI g2 y2 zz2 j2 f2 v2 (LW ad cI cO g1 b1 d1 [])) := hD
  have hP := bkP hP
  have hD := bkD hD
  refine lv_icmp_eq (tgt := 1249) hx hb dL_law_882 (by decide) (fun c_9 => ?_) (fun c_9 => absurd (by rw [e1, e3]) c_9)
  have e5 : g2 = g1 := e4.trans e2.symm
  subst e5
  exact kk _ b1 d1 y2 zz2 j2 f2 v2 (by rw [e4]; exact hI) hM2 _ _ _ hP hD hS hl
