set_option maxHeartbeats 4000000 in
set_option maxRecDepth 100000 in
theorem lc_18 {p : Program} {l : Launch} {e : Env} {s : State} {m : MethodId} {bb L : Nat} {below : List Frame} {meth : Method} {c : Code} {xs : Nat → Int32} {D : va_G} {ad am : Nat → Nat} {cI cO : ClassId} {tt i : Nat} (C : LX p s m meth c bb L xs D cI cO tt i) (kk : LG p l e s m bb below meth c D ad am cI cO i 1249) : LG p l e s m bb below meth c D ad am cI cO i 887 := by
  obtain ⟨C0, hK, hZ, hN, hi, hL⟩ := C
  obtain ⟨hx, hb, hr, hml, hown, hts0, hX, hbl, hlocks, hgv⟩ := C0
  have hown : s.vm.findClass RL = some m.cls := hown
  have hb : c.code = cL_law := hb
  have hts : ∀ w ∈ wsL_law, w.before #[Value.ref bb] s = true := fun w h => hts0 w (wsL_law_in w h)
  have hA : ∀ q : Nat, s.heap.size ≤ q → (fun q : Nat => s.heap.size ≤ q) q := fun _ h => h
  have hbA : ¬ (fun q : Nat => s.heap.size ≤ q) bb := Nat.not_le.mpr hbl
  intro g b d y zz j f v hI hM H locs ls hP hD hS hl
  refine lv_aload_n hx hb dL_law_887 rfl (lv_at hl 2 rfl) ?_
  refine lv_aload_n hx hb dL_law_888 rfl (lv_at hl 1 rfl) ?_
  refine lv_iload_n hx hb dL_law_889 rfl (lv_at hl 0 rfl) ?_
  refine lv_iconst (v := 1) hx hb dL_law_890 (by decide) ?_
  refine lv_iadd hx hb dL_law_891 ?_
  refine tpI (y := nI (i + 1)) (nI_add i 1) ?_
  refine va_sld hx hb hX hbl hbA hS (vp_in_nI (show i + 1 < L by omega) (by omega)) dL_law_892 ?_
  refine tpI (y := sx xs i 1) rfl ?_
  refine lv_aload_n hx hb dL_law_893 rfl (lv_at hl 1 rfl) ?_
  refine lv_iload_n hx hb dL_law_894 rfl (lv_at hl 0 rfl) ?_
  refine lv_iconst (v := 2) hx hb dL_law_895 (by decide) ?_
  refine lv_iadd hx hb dL_law_896 ?_
  refine tpI (y := nI (i + 2)) (nI_add i 2) ?_
  refine va_sld hx hb hX hbl hbA hS (vp_in_nI (show i + 2 < L by omega) (by omega)) dL_law_897 ?_
  refine tpI (y := sx xs i 2) rfl ?_
  refine lv_aload_n hx hb dL_law_898 rfl (lv_at hl 1 rfl) ?_
  refine lv_iload_n hx hb dL_law_899 rfl (lv_at hl 0 rfl) ?_
  refine lv_iconst (v := 3) hx hb dL_law_900 (by decide) ?_
  refine lv_iadd hx hb dL_law_901 ?_
  refine tpI (y := nI (i + 3)) (nI_add i 3) ?_
  refine va_sld hx hb hX hbl hbA hS (vp_in_nI (show i + 3 < L by omega) (by omega)) dL_law_902 ?_
  refine tpI (y := sx xs i 3) rfl ?_
  refine mcL (wf := fun u : (Nat → Nat → Int32) × (Nat → Int32) × (Nat → Nat → Int64) => LW ad cI cO u.1 u.2.1 u.2.2 (MW am cI g y zz j f v [])) (va_runV (As := [.int (sx xs i 1), .int (sx xs i 2), .int (sx xs i 3)]) (rest := []) ⟨hx, hb, hml, hown, hts⟩ (kX4_pace l D cI cO tt ad g b d (MW am cI g y zz j f v []) H.size (sx xs i 1) (sx xs i 2) (sx xs i 3) hI) (cwV 3 hts gL_law_X4_pace rfl rfl rfl (by decide +kernel) ⟨(Nat.le_of_ble_eq_true rfl), (Nat.le_of_ble_eq_true rfl)⟩) (mwV hK hZ hN hP hD hS hA (va_recv hK hP (ci := 4) (q0 := 0) rfl rfl)) rfl rfl hl.1 rfl (lv_room (Nat.le_of_ble_eq_true rfl)) dL_law_903 ⟨(Nat.le_of_ble_eq_true rfl), (Nat.le_of_ble_eq_true rfl)⟩) hD hS hA (fun rX4 u H locs hu hP hD hS => ?_)
  obtain ⟨g1, b1, d1⟩ := u
  obtain ⟨e1, e2⟩ := hu
  have hP : va_P D vwCl (LW ad cI cO g1 b1 d1 (MW am cI g y zz j f v [])) H := hP
  have hD : va_D (fun q : Nat => s.heap.size ≤ q) (LW ad cI cO g1 b1 d1 (MW am cI g y zz j f v [])) := hD
  refine lv_aload_n hx hb dL_law_906 rfl (lv_at hl 3 rfl) ?_
  refine lv_aload_n hx hb dL_law_907 rfl (lv_at hl 1 rfl) ?_
  refine lv_iload_n hx hb dL_law_908 rfl (lv_at hl 0 rfl) ?_
  refine lv_iconst (v := 1) hx hb dL_law_909 (by decide) ?_
  refine lv_iadd hx hb dL_law_910 ?_
  refine tpI (y := nI (i + 1)) (nI_add i 1) ?_
  refine va_sld hx hb hX hbl hbA hS (vp_in_nI (show i + 1 < L by omega) (by omega)) dL_law_911 ?_
  refine tpI (y := sx xs i 1) rfl ?_
  refine lv_aload_n hx hb dL_law_912 rfl (lv_at hl 1 rfl) ?_
  refine lv_iload_n hx hb dL_law_913 rfl (lv_at hl 0 rfl) ?_
  refine lv_iconst (v := 2) hx hb dL_law_914 (by decide) ?_
  refine lv_iadd hx hb dL_law_915 ?_
  refine tpI (y := nI (i + 2)) (nI_add i 2) ?_
  refine va_sld hx hb hX hbl hbA hS (vp_in_nI (show i + 2 < L by omega) (by omega)) dL_law_916 ?_
  refine tpI (y := sx xs i 2) rfl ?_
  refine lv_aload_n hx hb dL_law_917 rfl (lv_at hl 1 rfl) ?_
  refine lv_iload_n hx hb dL_law_918 rfl (lv_at hl 0 rfl) ?_
  refine lv_iconst (v := 3) hx hb dL_law_919 (by decide) ?_
  refine lv_iadd hx hb dL_law_920 ?_
  refine tpI (y := nI (i + 3)) (nI_add i 3) ?_
  refine va_sld hx hb hX hbl hbA hS (vp_in_nI (show i + 3 < L by omega) (by omega)) dL_law_921 ?_
  refine tpI (y := sx xs i 3) rfl ?_
  have hP := swP hP
  have hD := swD hD
  refine mcL (wf := fun u : (Nat → Nat → Int32) × (Nat → Int32) × (Nat → Int32) × (Nat → Int64) × (Nat → Int32) × (Nat → Int32) => MW am cI u.1 u.2.1 u.2.2.1 u.2.2.2.1 u.2.2.2.2.1 u.2.2.2.2.2 (LW ad cI cO g1 b1 d1 [])) (va_runV (As := [.int (sx xs i 1), .int (sx xs i 2), .int (sx xs i 3)]) (rest := [.long rX4]) ⟨hx, hb, hml, hown, hts⟩ (kX5_pace l D cI cO tt am g y zz j f v (LW ad cI cO g1 b1 d1 []) H.size (sx xs i 1) (sx xs i 2) (sx xs i 3) hI hM) (cwV 3 hts gL_law_X5_pace rfl rfl rfl (by decide +kernel) ⟨(Nat.le_of_ble_eq_true rfl), (Nat.le_of_ble_eq_true rfl)⟩) (mwV hK hZ hN hP hD hS hA (va_recv hK hP (ci := 5) (q0 := 0) rfl rfl)) rfl rfl hl.1 rfl (lv_room (Nat.le_of_ble_eq_true rfl)) dL_law_922 ⟨(Nat.le_of_ble_eq_true rfl), (Nat.le_of_ble_eq_true rfl)⟩) hD hS hA (fun rX5 u H locs hu hP hD hS => ?_)
  obtain ⟨g2, y2, zz2, j2, f2, v2⟩ := u
  obtain ⟨e3, e4, hM2⟩ := hu
  have hP : va_P D vwCl (MW am cI g2 y2 zz2 j2 f2 v2 (LW ad cI cO g1 b1 d1 [])) H := hP
  have hD : va_D (fun q : Nat => s.heap.size ≤ q) (MW am cI g2 y2 zz2 j2 f2 v2 (LW ad cI cO g1 b1 d1 [])) := hD
  have hP := bkP hP
  have hD := bkD hD
  refine W.lcmp hx hb dL_law_925 ?_
  refine lv_if_eq (tgt := 1249) hx hb dL_law_926 (by decide) (fun c_9 => ?_) (fun c_9 => absurd ((lg_cmp_eq _ _).mpr (by rw [e1, e3])) c_9)
  have e5 : g2 = g1 := e4.trans e2.symm
  subst e5
  exact kk _ b1 d1 y2 zz2 j2 f2 v2 (by rw [e4]; exact hI) hM2 _ _ _ hP hD hS hl
set_option maxHeartbeats 4000000 in
set_option maxRecDepth 100000 in
theorem lc_19 {p : Program} {l : Launch} {e : Env} {s : State} {m : MethodId} {bb L : Nat} {below : List Frame} {meth : Method} {c : Code} {xs : Nat → Int32} {D : va_G} {ad am : Nat → Nat} {cI cO : ClassId} {tt i : Nat} (C : LX p s m meth c bb L xs D cI cO tt i) (kk : LG p l e s m bb below meth c D ad am cI cO i 1249) : LG p l e s m bb below meth c D ad am cI cO i 931 := by
  obtain ⟨C0, hK, hZ, hN, hi, hL⟩ := C
  obtain ⟨hx, hb, hr, hml, hown, hts0, hX, hbl, hlocks, hgv⟩ := C0
  have hown : s.vm.findClass RL = some m.cls := hown
  have hb : c.code = cL_law := hb
  have hts : ∀ w ∈ wsL_law, w.before #[Value.ref bb] s = true := fun w h => hts0 w (wsL_law_in w h)
  have hA : ∀ q : Nat, s.heap.size ≤ q → (fun q : Nat => s.heap.size ≤ q) q := fun _ h => h
  have hbA : ¬ (fun q : Nat => s.heap.size ≤ q) bb := Nat.not_le.mpr hbl
  intro g b d y zz j f v hI hM H locs ls hP hD hS hl
  refine lv_aload_n hx hb dL_law_931 rfl (lv_at hl 2 rfl) ?_
  refine lv_aload_n hx hb dL_law_932 rfl (lv_at hl 1 rfl) ?_
  refine lv_iload_n hx hb dL_law_933 rfl (lv_at hl 0 rfl) ?_
  refine lv_iconst (v := 1) hx hb dL_law_934 (by decide) ?_
  refine lv_iadd hx hb dL_law_935 ?_
  refine tpI (y := nI (i + 1)) (nI_add i 1) ?_
  refine va_sld hx hb hX hbl hbA hS (vp_in_nI (show i + 1 < L by omega) (by omega)) dL_law_936 ?_
  refine tpI (y := sx xs i 1) rfl ?_
  refine mcI (wf := fun u : (Nat → Nat → Int32) × (Nat → Int32) × (Nat → Nat → Int64) => LW ad cI cO u.1 u.2.1 u.2.2 (MW am cI g y zz j f v [])) (va_runV (As := [.int (sx xs i 1)]) (rest := []) ⟨hx, hb, hml, hown, hts⟩ (kX4_fates l D cI cO tt ad g b d (MW am cI g y zz j f v []) H.size (sx xs i 1) hI) (cwV 1 hts gL_law_X4_fates rfl rfl rfl (by decide +kernel) ⟨(Nat.le_of_ble_eq_true rfl), (Nat.le_of_ble_eq_true rfl)⟩) (mwV hK hZ hN hP hD hS hA (va_recv hK hP (ci := 4) (q0 := 0) rfl rfl)) rfl rfl hl.1 rfl (lv_room (Nat.le_of_ble_eq_true rfl)) dL_law_937 ⟨(Nat.le_of_ble_eq_true rfl), (Nat.le_of_ble_eq_true rfl)⟩) hD hS hA (fun rX4 u H locs hu hP hD hS => ?_)
  obtain ⟨g1, b1, d1⟩ := u
  obtain ⟨e1, e2⟩ := hu
  have hP : va_P D vwCl (LW ad cI cO g1 b1 d1 (MW am cI g y zz j f v [])) H := hP
  have hD : va_D (fun q : Nat => s.heap.size ≤ q) (LW ad cI cO g1 b1 d1 (MW am cI g y zz j f v [])) := hD
  refine lv_aload_n hx hb dL_law_940 rfl (lv_at hl 3 rfl) ?_
  refine lv_aload_n hx hb dL_law_941 rfl (lv_at hl 1 rfl) ?_
  refine lv_iload_n hx hb dL_law_942 rfl (lv_at hl 0 rfl) ?_
  refine lv_iconst (v := 1) hx hb dL_law_943 (by decide) ?_
  refine lv_iadd hx hb dL_law_944 ?_
  refine tpI (y := nI (i + 1)) (nI_add i 1) ?_
  refine va_sld hx hb hX hbl hbA hS (vp_in_nI (show i + 1 < L by omega) (by omega)) dL_law_945 ?_
  refine tpI (y := sx xs i 1) rfl ?_
  have hP := swP hP
  have hD := swD hD
  refine mcI (wf := fun u : (Nat → Nat → Int32) × (Nat → Int32) × (Nat → Int32) × (Nat → Int64) × (Nat → Int32) × (Nat → Int32) => MW am cI u.1 u.2.1 u.2.2.1 u.2.2.2.1 u.2.2.2.2.1 u.2.2.2.2.2 (LW ad cI cO g1 b1 d1 [])) (va_runV (As := [.int (sx xs i 1)]) (rest := [.int rX4]) ⟨hx, hb, hml, hown, hts⟩ (kX5_fates l D cI cO tt am g y zz j f v (LW ad cI cO g1 b1 d1 []) H.size (sx xs i 1) hI hM) (cwV 1 hts gL_law_X5_fates rfl rfl rfl (by decide +kernel) ⟨(Nat.le_of_ble_eq_true rfl), (Nat.le_of_ble_eq_true rfl)⟩) (mwV hK hZ hN hP hD hS hA (va_recv hK hP (ci := 5) (q0 := 0) rfl rfl)) rfl rfl hl.1 rfl (lv_room (Nat.le_of_ble_eq_true rfl)) dL_law_946 ⟨(Nat.le_of_ble_eq_true rfl), (Nat.le_of_ble_eq_true rfl)⟩) hD hS hA (fun rX5 u H locs hu hP hD hS => ?_)
  obtain ⟨g2, y2, zz2, j2, f2, v2⟩ := u
  obtain ⟨e3, e4, hM2⟩ := hu
  have hP : va_P D vwCl (MW am cI g2 y2 zz2 j2 f2 v2 (LW ad cI cO g1 b1 d1 [])) H := hP
  have hD : va_D (fun q : Nat => s.heap.size ≤ q) (MW am cI g2 y2 zz2 j2 f2 v2 (LW ad cI cO g1 b1 d1 [])) := hD
  have hP := bkP hP
  have hD := bkD hD
  refine lv_icmp_eq (tgt := 1249) hx hb dL_law_949 (by decide) (fun c_9 => ?_) (fun c_9 => absurd (by rw [e1, e3]) c_9)
  have e5 : g2 = g1 := e4.trans e2.symm
  subst e5
  exact kk _ b1 d1 y2 zz2 j2 f2 v2 (by rw [e4]; exact hI) hM2 _ _ _ hP hD hS hl
set_option maxHeartbeats 4000000 in
set_option maxRecDepth 100000 in
theorem lc_20 {p : Program} {l : Launch} {e : Env} {s : State} {m : MethodId} {bb L : Nat} {below : List Frame} {meth : Method} {c : Code} {xs : Nat → Int32} {D : va_G} {ad am : Nat → Nat} {cI cO : ClassId} {tt i : Nat} (C : LX p s m meth c bb L xs D cI cO tt i) (kk : LG p l e s m bb below meth c D ad am cI cO i 1249) : LG p l e s m bb below meth c D ad am cI cO i 954 := by
  obtain ⟨C0, hK, hZ, hN, hi, hL⟩ := C
  obtain ⟨hx, hb, hr, hml, hown, hts0, hX, hbl, hlocks, hgv⟩ := C0
  have hown : s.vm.findClass RL = some m.cls := hown
  have hb : c.code = cL_law := hb
  have hts : ∀ w ∈ wsL_law, w.before #[Value.ref bb] s = true := fun w h => hts0 w (wsL_law_in w h)
  have hA : ∀ q : Nat, s.heap.size ≤ q → (fun q : Nat => s.heap.size ≤ q) q := fun _ h => h
  have hbA : ¬ (fun q : Nat => s.heap.size ≤ q) bb := Nat.not_le.mpr hbl
  intro g b d y zz j f v hI hM H locs ls hP hD hS hl
  refine lv_aload_n hx hb dL_law_954 rfl (lv_at hl 2 rfl) ?_
  refine lv_aload_n hx hb dL_law_955 rfl (lv_at hl 1 rfl) ?_
  refine lv_iload_n hx hb dL_law_956 rfl (lv_at hl 0 rfl) ?_
  refine lv_iconst (v := 1) hx hb dL_law_957 (by decide) ?_
  refine lv_iadd hx hb dL_law_958 ?_
  refine tpI (y := nI (i + 1)) (nI_add i 1) ?_
  refine va_sld hx hb hX hbl hbA hS (vp_in_nI (show i + 1 < L by omega) (by omega)) dL_law_959 ?_
  refine tpI (y := sx xs i 1) rfl ?_
  refine lv_aload_n hx hb dL_law_960 rfl (lv_at hl 1 rfl) ?_
  refine lv_iload_n hx hb dL_law_961 rfl (lv_at hl 0 rfl) ?_
  refine lv_iconst (v := 2) hx hb dL_law_962 (by decide) ?_
  refine lv_iadd hx hb dL_law_963 ?_
  refine tpI (y := nI (i + 2)) (nI_add i 2) ?_
  refine va_sld hx hb hX hbl hbA hS (vp_in_nI (show i + 2 < L by omega) (by omega)) dL_law_964 ?_
  refine tpI (y := sx xs i 2) rfl ?_
  refine lv_aload_n hx hb dL_law_965 rfl (lv_at hl 1 rfl) ?_
  refine lv_iload_n hx hb dL_law_966 rfl (lv_at hl 0 rfl) ?_
  refine lv_iconst (v := 3) hx hb dL_law_967 (by decide) ?_
  refine lv_iadd hx hb dL_law_968 ?_
  refine tpI (y := nI (i + 3)) (nI_add i 3) ?_
  refine va_sld hx hb hX hbl hbA hS (vp_in_nI (show i + 3 < L by omega) (by omega)) dL_law_969 ?_
  refine tpI (y := sx xs i 3) rfl ?_
  refine lv_aload_n hx hb dL_law_970 rfl (lv_at hl 1 rfl) ?_
  refine lv_iload_n hx hb dL_law_971 rfl (lv_at hl 0 rfl) ?_
  refine lv_iconst (v := 4) hx hb dL_law_972 (by decide) ?_
  refine lv_iadd hx hb dL_law_973 ?_
  refine tpI (y := nI (i + 4)) (nI_add i 4) ?_
  refine va_sld hx hb hX hbl hbA hS (vp_in_nI (show i + 4 < L by omega) (by omega)) dL_law_974 ?_
  refine tpI (y := sx xs i 4) rfl ?_
  refine lv_aload_n hx hb dL_law_975 rfl (lv_at hl 1 rfl) ?_
  refine lv_iload_n hx hb dL_law_976 rfl (lv_at hl 0 rfl) ?_
  refine lv_iconst (v := 5) hx hb dL_law_977 (by decide) ?_
  refine lv_iadd hx hb dL_law_978 ?_
  refine tpI (y := nI (i + 5)) (nI_add i 5) ?_
  refine va_sld hx hb hX hbl hbA hS (vp_in_nI (show i + 5 < L by omega) (by omega)) dL_law_979 ?_
  refine tpI (y := sx xs i 5) rfl ?_
  refine mcL (wf := fun u : (Nat → Nat → Int32) × (Nat → Int32) × (Nat → Nat → Int64) => LW ad cI cO u.1 u.2.1 u.2.2 (MW am cI g y zz j f v [])) (va_runV (As := [.int (sx xs i 1), .int (sx xs i 2), .int (sx xs i 3), .int (sx xs i 4), .int (sx xs i 5)]) (rest := []) ⟨hx, hb, hml, hown, hts⟩ (kX4_box l D cI cO tt ad g b d (MW am cI g y zz j f v []) H.size (sx xs i 1) (sx xs i 2) (sx xs i 3) (sx xs i 4) (sx xs i 5) hI) (cwV 5 hts gL_law_X4_box rfl rfl rfl (by decide +kernel) ⟨(Nat.le_of_ble_eq_true rfl), (Nat.le_of_ble_eq_true rfl)⟩) (mwV hK hZ hN hP hD hS hA (va_recv hK hP (ci := 4) (q0 := 0) rfl rfl)) rfl rfl hl.1 rfl (lv_room (Nat.le_of_ble_eq_true rfl)) dL_law_980 ⟨(Nat.le_of_ble_eq_true rfl), (Nat.le_of_ble_eq_true rfl)⟩) hD hS hA (fun rX4 u H locs hu hP hD hS => ?_)
  obtain ⟨g1, b1, d1⟩ := u
  obtain ⟨e1, e2⟩ := hu
  have hP : va_P D vwCl (LW ad cI cO g1 b1 d1 (MW am cI g y zz j f v [])) H := hP
  have hD : va_D (fun q : Nat => s.heap.size ≤ q) (LW ad cI cO g1 b1 d1 (MW am cI g y zz j f v [])) := hD
  refine lv_aload_n hx hb dL_law_983 rfl (lv_at hl 3 rfl) ?_
  refine lv_aload_n hx hb dL_law_984 rfl (lv_at hl 1 rfl) ?_
  refine lv_iload_n hx hb dL_law_985 rfl (lv_at hl 0 rfl) ?_
  refine lv_iconst (v := 1) hx hb dL_law_986 (by decide) ?_
  refine lv_iadd hx hb dL_law_987 ?_
  refine tpI (y := nI (i + 1)) (nI_add i 1) ?_
  refine va_sld hx hb hX hbl hbA hS (vp_in_nI (show i + 1 < L by omega) (by omega)) dL_law_988 ?_
  refine tpI (y := sx xs i 1) rfl ?_
  refine lv_aload_n hx hb dL_law_989 rfl (lv_at hl 1 rfl) ?_
  refine lv_iload_n hx hb dL_law_990 rfl (lv_at hl 0 rfl) ?_
  refine lv_iconst (v := 2) hx hb dL_law_991 (by decide) ?_
  refine lv_iadd hx hb dL_law_992 ?_
  refine tpI (y := nI (i + 2)) (nI_add i 2) ?_
  refine va_sld hx hb hX hbl hbA hS (vp_in_nI (show i + 2 < L by omega) (by omega)) dL_law_993 ?_
  refine tpI (y := sx xs i 2) rfl ?_
  refine lv_aload_n hx hb dL_law_994 rfl (lv_at hl 1 rfl) ?_
  refine lv_iload_n hx hb dL_law_995 rfl (lv_at hl 0 rfl) ?_
  refine lv_iconst (v := 3) hx hb dL_law_996 (by decide) ?_
  refine lv_iadd hx hb dL_law_997 ?_
  refine tpI (y := nI (i + 3)) (nI_add i 3) ?_
  refine va_sld hx hb hX hbl hbA hS (vp_in_nI (show i + 3 < L by omega) (by omega)) dL_law_998 ?_
  refine tpI (y := sx xs i 3) rfl ?_
  refine lv_aload_n hx hb dL_law_999 rfl (lv_at hl 1 rfl) ?_
  refine lv_iload_n hx hb dL_law_1000 rfl (lv_at hl 0 rfl) ?_
  refine lv_iconst (v := 4) hx hb dL_law_1001 (by decide) ?_
  refine lv_iadd hx hb dL_law_1002 ?_
  refine tpI (y := nI (i + 4)) (nI_add i 4) ?_
  refine va_sld hx hb hX hbl hbA hS (vp_in_nI (show i + 4 < L by omega) (by omega)) dL_law_1003 ?_
  refine tpI (y := sx xs i 4) rfl ?_
  refine lv_aload_n hx hb dL_law_1004 rfl (lv_at hl 1 rfl) ?_
  refine lv_iload_n hx hb dL_law_1005 rfl (lv_at hl 0 rfl) ?_
  refine lv_iconst (v := 5) hx hb dL_law_1006 (by decide) ?_
  refine lv_iadd hx hb dL_law_1007 ?_
  refine tpI (y := nI (i + 5)) (nI_add i 5) ?_
  refine va_sld hx hb hX hbl hbA hS (vp_in_nI (show i + 5 < L by omega) (by omega)) dL_law_1008 ?_
  refine tpI (y := sx xs i 5) rfl ?_
  have hP := swP hP
  have hD := swD hD
  refine mcL (wf := fun u : (Nat → Nat → Int32) × (Nat → Int32) × (Nat → Int32) × (Nat → Int64) × (Nat → Int32) × (Nat → Int32) => MW am cI u.1 u.2.1 u.2.2.1 u.2.2.2.1 u.2.2.2.2.1 u.2.2.2.2.2 (LW ad cI cO g1 b1 d1 [])) (va_runV (As := [.int (sx xs i 1), .int (sx xs i 2), .int (sx xs i 3), .int (sx xs i 4), .int (sx xs i 5)]) (rest := [.long rX4]) ⟨hx, hb, hml, hown, hts⟩ (kX5_box l D cI cO tt am g y zz j f v (LW ad cI cO g1 b1 d1 []) H.size (sx xs i 1) (sx xs i 2) (sx xs i 3) (sx xs i 4) (sx xs i 5) hI hM) (cwV 5 hts gL_law_X5_box rfl rfl rfl (by decide +kernel) ⟨(Nat.le_of_ble_eq_true rfl), (Nat.le_of_ble_eq_true rfl)⟩) (mwV hK hZ hN hP hD hS hA (va_recv hK hP (ci := 5) (q0 := 0) rfl rfl)) rfl rfl hl.1 rfl (lv_room (Nat.le_of_ble_eq_true rfl)) dL_law_1009 ⟨(Nat.le_of_ble_eq_true rfl), (Nat.le_of_ble_eq_true rfl)⟩) hD hS hA (fun rX5 u H locs hu hP hD hS => ?_)
  obtain ⟨g2, y2, zz2, j2, f2, v2⟩ := u
  obtain ⟨e3, e4, hM2⟩ := hu
  have hP : va_P D vwCl (MW am cI g2 y2 zz2 j2 f2 v2 (LW ad cI cO g1 b1 d1 [])) H := hP
  have hD : va_D (fun q : Nat => s.heap.size ≤ q) (MW am cI g2 y2 zz2 j2 f2 v2 (LW ad cI cO g1 b1 d1 [])) := hD
  have hP := bkP hP
  have hD := bkD hD
  refine W.lcmp hx hb dL_law_1012 ?_
  refine lv_if_eq (tgt := 1249) hx hb dL_law_1013 (by decide) (fun c_9 => ?_) (fun c_9 => absurd ((lg_cmp_eq _ _).mpr (by rw [e1, e3])) c_9)
  have e5 : g2 = g1 := e4.trans e2.symm
  subst e5
  exact kk _ b1 d1 y2 zz2 j2 f2 v2 (by rw [e4]; exact hI) hM2 _ _ _ hP hD hS hl
set_option maxHeartbeats 4000000 in
set_option maxRecDepth 100000 in
theorem lc_21 {p : Program} {l : Launch} {e : Env} {s : State} {m : MethodId} {bb L : Nat} {below : List Frame} {meth : Method} {c : Code} {xs : Nat → Int32} {D : va_G} {ad am : Nat → Nat} {cI cO : ClassId} {tt i : Nat} (C : LX p s m meth c bb L xs D cI cO tt i) (kk : LG p l e s m bb below meth c D ad am cI cO i 1249) : LG p l e s m bb below meth c D ad am cI cO i 1018 := by
  obtain ⟨C0, hK, hZ, hN, hi, hL⟩ := C
  obtain ⟨hx, hb, hr, hml, hown, hts0, hX, hbl, hlocks, hgv⟩ := C0
  have hown : s.vm.findClass RL = some m.cls := hown
  have hb : c.code = cL_law := hb
  have hts : ∀ w ∈ wsL_law, w.before #[Value.ref bb] s = true := fun w h => hts0 w (wsL_law_in w h)
  have hA : ∀ q : Nat, s.heap.size ≤ q → (fun q : Nat => s.heap.size ≤ q) q := fun _ h => h
  have hbA : ¬ (fun q : Nat => s.heap.size ≤ q) bb := Nat.not_le.mpr hbl
  intro g b d y zz j f v hI hM H locs ls hP hD hS hl
  refine lv_aload_n hx hb dL_law_1018 rfl (lv_at hl 2 rfl) ?_
  refine lv_aload_n hx hb dL_law_1019 rfl (lv_at hl 1 rfl) ?_
  refine lv_iload_n hx hb dL_law_1020 rfl (lv_at hl 0 rfl) ?_
  refine lv_iconst (v := 1) hx hb dL_law_1021 (by decide) ?_
  refine lv_iadd hx hb dL_law_1022 ?_
  refine tpI (y := nI (i + 1)) (nI_add i 1) ?_
  refine va_sld hx hb hX hbl hbA hS (vp_in_nI (show i + 1 < L by omega) (by omega)) dL_law_1023 ?_
  refine tpI (y := sx xs i 1) rfl ?_
  refine lv_aload_n hx hb dL_law_1024 rfl (lv_at hl 1 rfl) ?_
  refine lv_iload_n hx hb dL_law_1025 rfl (lv_at hl 0 rfl) ?_
  refine lv_iconst (v := 2) hx hb dL_law_1026 (by decide) ?_
  refine lv_iadd hx hb dL_law_1027 ?_
  refine tpI (y := nI (i + 2)) (nI_add i 2) ?_
  refine va_sld hx hb hX hbl hbA hS (vp_in_nI (show i + 2 < L by omega) (by omega)) dL_law_1028 ?_
  refine tpI (y := sx xs i 2) rfl ?_
  refine lv_aload_n hx hb dL_law_1029 rfl (lv_at hl 1 rfl) ?_
  refine lv_iload_n hx hb dL_law_1030 rfl (lv_at hl 0 rfl) ?_
  refine lv_iconst (v := 3) hx hb dL_law_1031 (by decide) ?_
  refine lv_iadd hx hb dL_law_1032 ?_
  refine tpI (y := nI (i + 3)) (nI_add i 3) ?_
  refine va_sld hx hb hX hbl hbA hS (vp_in_nI (show i + 3 < L by omega) (by omega)) dL_law_1033 ?_
  refine tpI (y := sx xs i 3) rfl ?_
  refine lv_aload_n hx hb dL_law_1034 rfl (lv_at hl 1 rfl) ?_
  refine lv_iload_n hx hb dL_law_1035 rfl (lv_at hl 0 rfl) ?_
  refine lv_iconst (v := 4) hx hb dL_law_1036 (by decide) ?_
  refine lv_iadd hx hb dL_law_1037 ?_
  refine tpI (y := nI (i + 4)) (nI_add i 4) ?_
  refine va_sld hx hb hX hbl hbA hS (vp_in_nI (show i + 4 < L by omega) (by omega)) dL_law_1038 ?_
  refine tpI (y := sx xs i 4) rfl ?_
  refine lv_aload_n hx hb dL_law_1039 rfl (lv_at hl 1 rfl) ?_
  refine lv_iload_n hx hb dL_law_1040 rfl (lv_at hl 0 rfl) ?_
  refine lv_iconst (v := 5) hx hb dL_law_1041 (by decide) ?_
  refine lv_iadd hx hb dL_law_1042 ?_
  refine tpI (y := nI (i + 5)) (nI_add i 5) ?_
  refine va_sld hx hb hX hbl hbA hS (vp_in_nI (show i + 5 < L by omega) (by omega)) dL_law_1043 ?_
  refine tpI (y := sx xs i 5) rfl ?_
  refine mcL (wf := fun u : (Nat → Nat → Int32) × (Nat → Int32) × (Nat → Nat → Int64) => LW ad cI cO u.1 u.2.1 u.2.2 (MW am cI g y zz j f v [])) (va_runV (As := [.int (sx xs i 1), .int (sx xs i 2), .int (sx xs i 3), .int (sx xs i 4), .int (sx xs i 5)]) (rest := []) ⟨hx, hb, hml, hown, hts⟩ (kX4_mean l D cI cO tt ad g b d (MW am cI g y zz j f v []) H.size (sx xs i 1) (sx xs i 2) (sx xs i 3) (sx xs i 4) (sx xs i 5) hI) (cwV 5 hts gL_law_X4_mean rfl rfl rfl (by decide +kernel) ⟨(Nat.le_of_ble_eq_true rfl), (Nat.le_of_ble_eq_true rfl)⟩) (mwV hK hZ hN hP hD hS hA (va_recv hK hP (ci := 4) (q0 := 0) rfl rfl)) rfl rfl hl.1 rfl (lv_room (Nat.le_of_ble_eq_true rfl)) dL_law_1044 ⟨(Nat.le_of_ble_eq_true rfl), (Nat.le_of_ble_eq_true rfl)⟩) hD hS hA (fun rX4 u H locs hu hP hD hS => ?_)
  obtain ⟨g1, b1, d1⟩ := u
  obtain ⟨e1, e2⟩ := hu
  have hP : va_P D vwCl (LW ad cI cO g1 b1 d1 (MW am cI g y zz j f v [])) H := hP
  have hD : va_D (fun q : Nat => s.heap.size ≤ q) (LW ad cI cO g1 b1 d1 (MW am cI g y zz j f v [])) := hD
  refine lv_aload_n hx hb dL_law_1047 rfl (lv_at hl 3 rfl) ?_
  refine lv_aload_n hx hb dL_law_1048 rfl (lv_at hl 1 rfl) ?_
  refine lv_iload_n hx hb dL_law_1049 rfl (lv_at hl 0 rfl) ?_
  refine lv_iconst (v := 1) hx hb dL_law_1050 (by decide) ?_
  refine lv_iadd hx hb dL_law_1051 ?_
  refine tpI (y := nI (i + 1)) (nI_add i 1) ?_
  refine va_sld hx hb hX hbl hbA hS (vp_in_nI (show i + 1 < L by omega) (by omega)) dL_law_1052 ?_
  refine tpI (y := sx xs i 1) rfl ?_
  refine lv_aload_n hx hb dL_law_1053 rfl (lv_at hl 1 rfl) ?_
  refine lv_iload_n hx hb dL_law_1054 rfl (lv_at hl 0 rfl) ?_
  refine lv_iconst (v := 2) hx hb dL_law_1055 (by decide) ?_
  refine lv_iadd hx hb dL_law_1056 ?_
  refine tpI (y := nI (i + 2)) (nI_add i 2) ?_
  refine va_sld hx hb hX hbl hbA hS (vp_in_nI (show i + 2 < L by omega) (by omega)) dL_law_1057 ?_
  refine tpI (y := sx xs i 2) rfl ?_
  refine lv_aload_n hx hb dL_law_1058 rfl (lv_at hl 1 rfl) ?_
  refine lv_iload_n hx hb dL_law_1059 rfl (lv_at hl 0 rfl) ?_
  refine lv_iconst (v := 3) hx hb dL_law_1060 (by decide) ?_
  refine lv_iadd hx hb dL_law_1061 ?_
  refine tpI (y := nI (i + 3)) (nI_add i 3) ?_
  refine va_sld hx hb hX hbl hbA hS (vp_in_nI (show i + 3 < L by omega) (by omega)) dL_law_1062 ?_
  refine tpI (y := sx xs i 3) rfl ?_
  refine lv_aload_n hx hb dL_law_1063 rfl (lv_at hl 1 rfl) ?_
  refine lv_iload_n hx hb dL_law_1064 rfl (lv_at hl 0 rfl) ?_
  refine lv_iconst (v := 4) hx hb dL_law_1065 (by decide) ?_
  refine lv_iadd hx hb dL_law_1066 ?_
  refine tpI (y := nI (i + 4)) (nI_add i 4) ?_
  refine va_sld hx hb hX hbl hbA hS (vp_in_nI (show i + 4 < L by omega) (by omega)) dL_law_1067 ?_
  refine tpI (y := sx xs i 4) rfl ?_
  refine lv_aload_n hx hb dL_law_1068 rfl (lv_at hl 1 rfl) ?_
  refine lv_iload_n hx hb dL_law_1069 rfl (lv_at hl 0 rfl) ?_
  refine lv_iconst (v := 5) hx hb dL_law_1070 (by decide) ?_
  refine lv_iadd hx hb dL_law_1071 ?_
  refine tpI (y := nI (i + 5)) (nI_add i 5) ?_
  refine va_sld hx hb hX hbl hbA hS (vp_in_nI (show i + 5 < L by omega) (by omega)) dL_law_1072 ?_
  refine tpI (y := sx xs i 5) rfl ?_
  have hP := swP hP
  have hD := swD hD
  refine mcL (wf := fun u : (Nat → Nat → Int32) × (Nat → Int32) × (Nat → Int32) × (Nat → Int64) × (Nat → Int32) × (Nat → Int32) => MW am cI u.1 u.2.1 u.2.2.1 u.2.2.2.1 u.2.2.2.2.1 u.2.2.2.2.2 (LW ad cI cO g1 b1 d1 [])) (va_runV (As := [.int (sx xs i 1), .int (sx xs i 2), .int (sx xs i 3), .int (sx xs i 4), .int (sx xs i 5)]) (rest := [.long rX4]) ⟨hx, hb, hml, hown, hts⟩ (kX5_mean l D cI cO tt am g y zz j f v (LW ad cI cO g1 b1 d1 []) H.size (sx xs i 1) (sx xs i 2) (sx xs i 3) (sx xs i 4) (sx xs i 5) hI hM) (cwV 5 hts gL_law_X5_mean rfl rfl rfl (by decide +kernel) ⟨(Nat.le_of_ble_eq_true rfl), (Nat.le_of_ble_eq_true rfl)⟩) (mwV hK hZ hN hP hD hS hA (va_recv hK hP (ci := 5) (q0 := 0) rfl rfl)) rfl rfl hl.1 rfl (lv_room (Nat.le_of_ble_eq_true rfl)) dL_law_1073 ⟨(Nat.le_of_ble_eq_true rfl), (Nat.le_of_ble_eq_true rfl)⟩) hD hS hA (fun rX5 u H locs hu hP hD hS => ?_)
  obtain ⟨g2, y2, zz2, j2, f2, v2⟩ := u
  obtain ⟨e3, e4, hM2⟩ := hu
  have hP : va_P D vwCl (MW am cI g2 y2 zz2 j2 f2 v2 (LW ad cI cO g1 b1 d1 [])) H := hP
  have hD : va_D (fun q : Nat => s.heap.size ≤ q) (MW am cI g2 y2 zz2 j2 f2 v2 (LW ad cI cO g1 b1 d1 [])) := hD
  have hP := bkP hP
  have hD := bkD hD
  refine W.lcmp hx hb dL_law_1076 ?_
  refine lv_if_eq (tgt := 1249) hx hb dL_law_1077 (by decide) (fun c_9 => ?_) (fun c_9 => absurd ((lg_cmp_eq _ _).mpr (by rw [e1, e3])) c_9)
  have e5 : g2 = g1 := e4.trans e2.symm
  subst e5
  exact kk _ b1 d1 y2 zz2 j2 f2 v2 (by rw [e4]; exact hI) hM2 _ _ _ hP hD hS hl
set_option maxHeartbeats 4000000 in
set_option maxRecDepth 100000 in
theorem lc_22 {p : Program} {l : Launch} {e : Env} {s : State} {m : MethodId} {bb L : Nat} {below : List Frame} {meth : Method} {c : Code} {xs : Nat → Int32} {D : va_G} {ad am : Nat → Nat} {cI cO : ClassId} {tt i : Nat} (C : LX p s m meth c bb L xs D cI cO tt i) (kk : LG p l e s m bb below meth c D ad am cI cO i 1249) : LG p l e s m bb below meth c D ad am cI cO i 1082 := by
  obtain ⟨C0, hK, hZ, hN, hi, hL⟩ := C
  obtain ⟨hx, hb, hr, hml, hown, hts0, hX, hbl, hlocks, hgv⟩ := C0
  have hown : s.vm.findClass RL = some m.cls := hown
  have hb : c.code = cL_law := hb
  have hts : ∀ w ∈ wsL_law, w.before #[Value.ref bb] s = true := fun w h => hts0 w (wsL_law_in w h)
  have hA : ∀ q : Nat, s.heap.size ≤ q → (fun q : Nat => s.heap.size ≤ q) q := fun _ h => h
  have hbA : ¬ (fun q : Nat => s.heap.size ≤ q) bb := Nat.not_le.mpr hbl
  intro g b d y zz j f v hI hM H locs ls hP hD hS hl
  refine lv_aload_n hx hb dL_law_1082 rfl (lv_at hl 2 rfl) ?_
  refine lv_aload_n hx hb dL_law_1083 rfl (lv_at hl 1 rfl) ?_
  refine lv_iload_n hx hb dL_law_1084 rfl (lv_at hl 0 rfl) ?_
  refine lv_iconst (v := 1) hx hb dL_law_1085 (by decide) ?_
  refine lv_iadd hx hb dL_law_1086 ?_
  refine tpI (y := nI (i + 1)) (nI_add i 1) ?_
  refine va_sld hx hb hX hbl hbA hS (vp_in_nI (show i + 1 < L by omega) (by omega)) dL_law_1087 ?_
  refine tpI (y := sx xs i 1) rfl ?_
  refine lv_aload_n hx hb dL_law_1088 rfl (lv_at hl 1 rfl) ?_
  refine lv_iload_n hx hb dL_law_1089 rfl (lv_at hl 0 rfl) ?_
  refine lv_iconst (v := 2) hx hb dL_law_1090 (by decide) ?_
  refine lv_iadd hx hb dL_law_1091 ?_
  refine tpI (y := nI (i + 2)) (nI_add i 2) ?_
  refine va_sld hx hb hX hbl hbA hS (vp_in_nI (show i + 2 < L by omega) (by omega)) dL_law_1092 ?_
  refine tpI (y := sx xs i 2) rfl ?_
  refine lv_aload_n hx hb dL_law_1093 rfl (lv_at hl 1 rfl) ?_
  refine lv_iload_n hx hb dL_law_1094 rfl (lv_at hl 0 rfl) ?_
  refine lv_iconst (v := 3) hx hb dL_law_1095 (by decide) ?_
  refine lv_iadd hx hb dL_law_1096 ?_
  refine tpI (y := nI (i + 3)) (nI_add i 3) ?_
  refine va_sld hx hb hX hbl hbA hS (vp_in_nI (show i + 3 < L by omega) (by omega)) dL_law_1097 ?_
  refine tpI (y := sx xs i 3) rfl ?_
  refine mcL (wf := fun u : (Nat → Nat → Int32) × (Nat → Int32) × (Nat → Nat → Int64) => LW ad cI cO u.1 u.2.1 u.2.2 (MW am cI g y zz j f v [])) (va_runV (As := [.int (sx xs i 1), .int (sx xs i 2), .int (sx xs i 3)]) (rest := []) ⟨hx, hb, hml, hown, hts⟩ (kX4_flow l D cI cO tt ad g b d (MW am cI g y zz j f v []) H.size (sx xs i 1) (sx xs i 2) (sx xs i 3) hI) (cwV 3 hts gL_law_X4_flow rfl rfl rfl (by decide +kernel) ⟨(Nat.le_of_ble_eq_true rfl), (Nat.le_of_ble_eq_true rfl)⟩) (mwV hK hZ hN hP hD hS hA (va_recv hK hP (ci := 4) (q0 := 0) rfl rfl)) rfl rfl hl.1 rfl (lv_room (Nat.le_of_ble_eq_true rfl)) dL_law_1098 ⟨(Nat.le_of_ble_eq_true rfl), (Nat.le_of_ble_eq_true rfl)⟩) hD hS hA (fun rX4 u H locs hu hP hD hS => ?_)
  obtain ⟨g1, b1, d1⟩ := u
  obtain ⟨e1, e2⟩ := hu
  have hP : va_P D vwCl (LW ad cI cO g1 b1 d1 (MW am cI g y zz j f v [])) H := hP
  have hD : va_D (fun q : Nat => s.heap.size ≤ q) (LW ad cI cO g1 b1 d1 (MW am cI g y zz j f v [])) := hD
  refine lv_aload_n hx hb dL_law_1101 rfl (lv_at hl 3 rfl) ?_
  refine lv_aload_n hx hb dL_law_1102 rfl (lv_at hl 1 rfl) ?_
  refine lv_iload_n hx hb dL_law_1103 rfl (lv_at hl 0 rfl) ?_
  refine lv_iconst (v := 1) hx hb dL_law_1104 (by decide) ?_
  refine lv_iadd hx hb dL_law_1105 ?_
  refine tpI (y := nI (i + 1)) (nI_add i 1) ?_
  refine va_sld hx hb hX hbl hbA hS (vp_in_nI (show i + 1 < L by omega) (by omega)) dL_law_1106 ?_
  refine tpI (y := sx xs i 1) rfl ?_
  refine lv_aload_n hx hb dL_law_1107 rfl (lv_at hl 1 rfl) ?_
  refine lv_iload_n hx hb dL_law_1108 rfl (lv_at hl 0 rfl) ?_
  refine lv_iconst (v := 2) hx hb dL_law_1109 (by decide) ?_
  refine lv_iadd hx hb dL_law_1110 ?_
  refine tpI (y := nI (i + 2)) (nI_add i 2) ?_
  refine va_sld hx hb hX hbl hbA hS (vp_in_nI (show i + 2 < L by omega) (by omega)) dL_law_1111 ?_
  refine tpI (y := sx xs i 2) rfl ?_
  refine lv_aload_n hx hb dL_law_1112 rfl (lv_at hl 1 rfl) ?_
  refine lv_iload_n hx hb dL_law_1113 rfl (lv_at hl 0 rfl) ?_
  refine lv_iconst (v := 3) hx hb dL_law_1114 (by decide) ?_
  refine lv_iadd hx hb dL_law_1115 ?_
  refine tpI (y := nI (i + 3)) (nI_add i 3) ?_
  refine va_sld hx hb hX hbl hbA hS (vp_in_nI (show i + 3 < L by omega) (by omega)) dL_law_1116 ?_
  refine tpI (y := sx xs i 3) rfl ?_
  have hP := swP hP
  have hD := swD hD
  refine mcL (wf := fun u : (Nat → Nat → Int32) × (Nat → Int32) × (Nat → Int32) × (Nat → Int64) × (Nat → Int32) × (Nat → Int32) => MW am cI u.1 u.2.1 u.2.2.1 u.2.2.2.1 u.2.2.2.2.1 u.2.2.2.2.2 (LW ad cI cO g1 b1 d1 [])) (va_runV (As := [.int (sx xs i 1), .int (sx xs i 2), .int (sx xs i 3)]) (rest := [.long rX4]) ⟨hx, hb, hml, hown, hts⟩ (kX5_flow l D cI cO tt am g y zz j f v (LW ad cI cO g1 b1 d1 []) H.size (sx xs i 1) (sx xs i 2) (sx xs i 3) hI hM) (cwV 3 hts gL_law_X5_flow rfl rfl rfl (by decide +kernel) ⟨(Nat.le_of_ble_eq_true rfl), (Nat.le_of_ble_eq_true rfl)⟩) (mwV hK hZ hN hP hD hS hA (va_recv hK hP (ci := 5) (q0 := 0) rfl rfl)) rfl rfl hl.1 rfl (lv_room (Nat.le_of_ble_eq_true rfl)) dL_law_1117 ⟨(Nat.le_of_ble_eq_true rfl), (Nat.le_of_ble_eq_true rfl)⟩) hD hS hA (fun rX5 u H locs hu hP hD hS => ?_)
  obtain ⟨g2, y2, zz2, j2, f2, v2⟩ := u
  obtain ⟨e3, e4, hM2⟩ := hu
  have hP : va_P D vwCl (MW am cI g2 y2 zz2 j2 f2 v2 (LW ad cI cO g1 b1 d1 [])) H := hP
  have hD : va_D (fun q : Nat => s.heap.size ≤ q) (MW am cI g2 y2 zz2 j2 f2 v2 (LW ad cI cO g1 b1 d1 [])) := hD
  have hP := bkP hP
  have hD := bkD hD
  refine W.lcmp hx hb dL_law_1120 ?_
  refine lv_if_eq (tgt := 1249) hx hb dL_law_1121 (by decide) (fun c_9 => ?_) (fun c_9 => absurd ((lg_cmp_eq _ _).mpr (by rw [e1, e3])) c_9)
  have e5 : g2 = g1 := e4.trans e2.symm
  subst e5
  exact kk _ b1 d1 y2 zz2 j2 f2 v2 (by rw [e4]; exact hI) hM2 _ _ _ hP hD hS hl
set_option maxHeartbeats 4000000 in
set_option maxRecDepth 100000 in
theorem lc_23 {p : Program} {l : Launch} {e : Env} {s : State} {m : MethodId} {bb L : Nat} {below : List Frame} {meth : Method} {c : Code} {xs : Nat → Int32} {D : va_G} {ad am : Nat → Nat} {cI cO : ClassId} {tt i : Nat} (C : LX p s m meth c bb L xs D cI cO tt i) (kk : LG p l e s m bb below meth c D ad am cI cO i 1249) : LG p l e s m bb below meth c D ad am cI cO i 1126 := by
  obtain ⟨C0, hK, hZ, hN, hi, hL⟩ := C
  obtain ⟨hx, hb, hr, hml, hown, hts0, hX, hbl, hlocks, hgv⟩ := C0
  have hown : s.vm.findClass RL = some m.cls := hown
  have hb : c.code = cL_law := hb
  have hts : ∀ w ∈ wsL_law, w.before #[Value.ref bb] s = true := fun w h => hts0 w (wsL_law_in w h)
  have hA : ∀ q : Nat, s.heap.size ≤ q → (fun q : Nat => s.heap.size ≤ q) q := fun _ h => h
  have hbA : ¬ (fun q : Nat => s.heap.size ≤ q) bb := Nat.not_le.mpr hbl
  intro g b d y zz j f v hI hM H locs ls hP hD hS hl
  refine lv_aload_n hx hb dL_law_1126 rfl (lv_at hl 2 rfl) ?_
  refine lv_aload_n hx hb dL_law_1127 rfl (lv_at hl 1 rfl) ?_
  refine lv_iload_n hx hb dL_law_1128 rfl (lv_at hl 0 rfl) ?_
  refine lv_iconst (v := 1) hx hb dL_law_1129 (by decide) ?_
  refine lv_iadd hx hb dL_law_1130 ?_
  refine tpI (y := nI (i + 1)) (nI_add i 1) ?_
  refine va_sld hx hb hX hbl hbA hS (vp_in_nI (show i + 1 < L by omega) (by omega)) dL_law_1131 ?_
  refine tpI (y := sx xs i 1) rfl ?_
  refine lv_aload_n hx hb dL_law_1132 rfl (lv_at hl 1 rfl) ?_
  refine lv_iload_n hx hb dL_law_1133 rfl (lv_at hl 0 rfl) ?_
  refine lv_iconst (v := 2) hx hb dL_law_1134 (by decide) ?_
  refine lv_iadd hx hb dL_law_1135 ?_
  refine tpI (y := nI (i + 2)) (nI_add i 2) ?_
  refine va_sld hx hb hX hbl hbA hS (vp_in_nI (show i + 2 < L by omega) (by omega)) dL_law_1136 ?_
  refine tpI (y := sx xs i 2) rfl ?_
  refine lv_aload_n hx hb dL_law_1137 rfl (lv_at hl 1 rfl) ?_
  refine lv_iload_n hx hb dL_law_1138 rfl (lv_at hl 0 rfl) ?_
  refine lv_iconst (v := 3) hx hb dL_law_1139 (by decide) ?_
  refine lv_iadd hx hb dL_law_1140 ?_
  refine tpI (y := nI (i + 3)) (nI_add i 3) ?_
  refine va_sld hx hb hX hbl hbA hS (vp_in_nI (show i + 3 < L by omega) (by omega)) dL_law_1141 ?_
  refine tpI (y := sx xs i 3) rfl ?_
  refine lv_aload_n hx hb dL_law_1142 rfl (lv_at hl 1 rfl) ?_
  refine lv_iload_n hx hb dL_law_1143 rfl (lv_at hl 0 rfl) ?_
  refine lv_iconst (v := 4) hx hb dL_law_1144 (by decide) ?_
  refine lv_iadd hx hb dL_law_1145 ?_
  refine tpI (y := nI (i + 4)) (nI_add i 4) ?_
  refine va_sld hx hb hX hbl hbA hS (vp_in_nI (show i + 4 < L by omega) (by omega)) dL_law_1146 ?_
  refine tpI (y := sx xs i 4) rfl ?_
  refine mcI (wf := fun u : (Nat → Nat → Int32) × (Nat → Int32) × (Nat → Nat → Int64) => LW ad cI cO u.1 u.2.1 u.2.2 (MW am cI g y zz j f v [])) (va_runV (As := [.int (sx xs i 1), .int (sx xs i 2), .int (sx xs i 3), .int (sx xs i 4)]) (rest := []) ⟨hx, hb, hml, hown, hts⟩ (kX4_askew l D cI cO tt ad g b d (MW am cI g y zz j f v []) H.size (sx xs i 1) (sx xs i 2) (sx xs i 3) (sx xs i 4) hI) (cwV 4 hts gL_law_X4_askew rfl rfl rfl (by decide +kernel) ⟨(Nat.le_of_ble_eq_true rfl), (Nat.le_of_ble_eq_true rfl)⟩) (mwV hK hZ hN hP hD hS hA (va_recv hK hP (ci := 4) (q0 := 0) rfl rfl)) rfl rfl hl.1 rfl (lv_room (Nat.le_of_ble_eq_true rfl)) dL_law_1147 ⟨(Nat.le_of_ble_eq_true rfl), (Nat.le_of_ble_eq_true rfl)⟩) hD hS hA (fun rX4 u H locs hu hP hD hS => ?_)
  obtain ⟨g1, b1, d1⟩ := u
  obtain ⟨e1, e2⟩ := hu
  have hP : va_P D vwCl (LW ad cI cO g1 b1 d1 (MW am cI g y zz j f v [])) H := hP
  have hD : va_D (fun q : Nat => s.heap.size ≤ q) (LW ad cI cO g1 b1 d1 (MW am cI g y zz j f v [])) := hD
  refine lv_aload_n hx hb dL_law_1150 rfl (lv_at hl 3 rfl) ?_
  refine lv_aload_n hx hb dL_law_1151 rfl (lv_at hl 1 rfl) ?_
  refine lv_iload_n hx hb dL_law_1152 rfl (lv_at hl 0 rfl) ?_
  refine lv_iconst (v := 1) hx hb dL_law_1153 (by decide) ?_
  refine lv_iadd hx hb dL_law_1154 ?_
  refine tpI (y := nI (i + 1)) (nI_add i 1) ?_
  refine va_sld hx hb hX hbl hbA hS (vp_in_nI (show i + 1 < L by omega) (by omega)) dL_law_1155 ?_
  refine tpI (y := sx xs i 1) rfl ?_
  refine lv_aload_n hx hb dL_law_1156 rfl (lv_at hl 1 rfl) ?_
  refine lv_iload_n hx hb dL_law_1157 rfl (lv_at hl 0 rfl) ?_
  refine lv_iconst (v := 2) hx hb dL_law_1158 (by decide) ?_
  refine lv_iadd hx hb dL_law_1159 ?_
  refine tpI (y := nI (i + 2)) (nI_add i 2) ?_
  refine va_sld hx hb hX hbl hbA hS (vp_in_nI (show i + 2 < L by omega) (by omega)) dL_law_1160 ?_
  refine tpI (y := sx xs i 2) rfl ?_
  refine lv_aload_n hx hb dL_law_1161 rfl (lv_at hl 1 rfl) ?_
  refine lv_iload_n hx hb dL_law_1162 rfl (lv_at hl 0 rfl) ?_
  refine lv_iconst (v := 3) hx hb dL_law_1163 (by decide) ?_
  refine lv_iadd hx hb dL_law_1164 ?_
  refine tpI (y := nI (i + 3)) (nI_add i 3) ?_
  refine va_sld hx hb hX hbl hbA hS (vp_in_nI (show i + 3 < L by omega) (by omega)) dL_law_1165 ?_
  refine tpI (y := sx xs i 3) rfl ?_
  refine lv_aload_n hx hb dL_law_1166 rfl (lv_at hl 1 rfl) ?_
  refine lv_iload_n hx hb dL_law_1167 rfl (lv_at hl 0 rfl) ?_
  refine lv_iconst (v := 4) hx hb dL_law_1168 (by decide) ?_
  refine lv_iadd hx hb dL_law_1169 ?_
  refine tpI (y := nI (i + 4)) (nI_add i 4) ?_
  refine va_sld hx hb hX hbl hbA hS (vp_in_nI (show i + 4 < L by omega) (by omega)) dL_law_1170 ?_
  refine tpI (y := sx xs i 4) rfl ?_
  have hP := swP hP
  have hD := swD hD
  refine mcI (wf := fun u : (Nat → Nat → Int32) × (Nat → Int32) × (Nat → Int32) × (Nat → Int64) × (Nat → Int32) × (Nat → Int32) => MW am cI u.1 u.2.1 u.2.2.1 u.2.2.2.1 u.2.2.2.2.1 u.2.2.2.2.2 (LW ad cI cO g1 b1 d1 [])) (va_runV (As := [.int (sx xs i 1), .int (sx xs i 2), .int (sx xs i 3), .int (sx xs i 4)]) (rest := [.int rX4]) ⟨hx, hb, hml, hown, hts⟩ (kX5_askew l D cI cO tt am g y zz j f v (LW ad cI cO g1 b1 d1 []) H.size (sx xs i 1) (sx xs i 2) (sx xs i 3) (sx xs i 4) hI hM) (cwV 4 hts gL_law_X5_askew rfl rfl rfl (by decide +kernel) ⟨(Nat.le_of_ble_eq_true rfl), (Nat.le_of_ble_eq_true rfl)⟩) (mwV hK hZ hN hP hD hS hA (va_recv hK hP (ci := 5) (q0 := 0) rfl rfl)) rfl rfl hl.1 rfl (lv_room (Nat.le_of_ble_eq_true rfl)) dL_law_1171 ⟨(Nat.le_of_ble_eq_true rfl), (Nat.le_of_ble_eq_true rfl)⟩) hD hS hA (fun rX5 u H locs hu hP hD hS => ?_)
  obtain ⟨g2, y2, zz2, j2, f2, v2⟩ := u
  obtain ⟨e3, e4, hM2⟩ := hu
  have hP : va_P D vwCl (MW am cI g2 y2 zz2 j2 f2 v2 (LW ad cI cO g1 b1 d1 [])) H := hP
  have hD : va_D (fun q : Nat => s.heap.size ≤ q) (MW am cI g2 y2 zz2 j2 f2 v2 (LW ad cI cO g1 b1 d1 [])) := hD
  have hP := bkP hP
  have hD := bkD hD
  refine lv_icmp_eq (tgt := 1249) hx hb dL_law_1174 (by decide) (fun c_9 => ?_) (fun c_9 => absurd (by rw [e1, e3]) c_9)
  have e5 : g2 = g1 := e4.trans e2.symm
  subst e5
  exact kk _ b1 d1 y2 zz2 j2 f2 v2 (by rw [e4]; exact hI) hM2 _ _ _ hP hD hS hl
set_option maxHeartbeats 4000000 in
set_option maxRecDepth 100000 in
theorem lc_24 {p : Program} {l : Launch} {e : Env} {s : State} {m : MethodId} {bb L : Nat} {below : List Frame} {meth : Method} {c : Code} {xs : Nat → Int32} {D : va_G} {ad am : Nat → Nat} {cI cO : ClassId} {tt i : Nat} (C : LX p s m meth c bb L xs D cI cO tt i) (kk : LG p l e s m bb below meth c D ad am cI cO i 1249) : LG p l e s m bb below meth c D ad am cI cO i 1179 := by
  obtain ⟨C0, hK, hZ, hN, hi, hL⟩ := C
  obtain ⟨hx, hb, hr, hml, hown, hts0, hX, hbl, hlocks, hgv⟩ := C0
  have hown : s.vm.findClass RL = some m.cls := hown
  have hb : c.code = cL_law := hb
  have hts : ∀ w ∈ wsL_law, w.before #[Value.ref bb] s = true := fun w h => hts0 w (wsL_law_in w h)
  have hA : ∀ q : Nat, s.heap.size ≤ q → (fun q : Nat => s.heap.size ≤ q) q := fun _ h => h
  have hbA : ¬ (fun q : Nat => s.heap.size ≤ q) bb := Nat.not_le.mpr hbl
  intro g b d y zz j f v hI hM H locs ls hP hD hS hl
  refine lv_aload_n hx hb dL_law_1179 rfl (lv_at hl 2 rfl) ?_
  refine lv_aload_n hx hb dL_law_1180 rfl (lv_at hl 1 rfl) ?_
  refine lv_iload_n hx hb dL_law_1181 rfl (lv_at hl 0 rfl) ?_
  refine lv_iconst (v := 1) hx hb dL_law_1182 (by decide) ?_
  refine lv_iadd hx hb dL_law_1183 ?_
  refine tpI (y := nI (i + 1)) (nI_add i 1) ?_
  refine va_sld hx hb hX hbl hbA hS (vp_in_nI (show i + 1 < L by omega) (by omega)) dL_law_1184 ?_
  refine tpI (y := sx xs i 1) rfl ?_
  refine lv_aload_n hx hb dL_law_1185 rfl (lv_at hl 1 rfl) ?_
  refine lv_iload_n hx hb dL_law_1186 rfl (lv_at hl 0 rfl) ?_
  refine lv_iconst (v := 2) hx hb dL_law_1187 (by decide) ?_
  refine lv_iadd hx hb dL_law_1188 ?_
  refine tpI (y := nI (i + 2)) (nI_add i 2) ?_
  refine va_sld hx hb hX hbl hbA hS (vp_in_nI (show i + 2 < L by omega) (by omega)) dL_law_1189 ?_
  refine tpI (y := sx xs i 2) rfl ?_
  refine pcI (va_runV (As := [.int (sx xs i 1), .int (sx xs i 2)]) (rest := []) ⟨hx, hb, hml, hown, hts⟩ (kX4_closes l D cI cO tt ad g b d (MW am cI g y zz j f v []) H (sx xs i 1) (sx xs i 2) hI) (cwV 2 hts gL_law_X4_closes rfl rfl rfl (by decide +kernel) ⟨(Nat.le_of_ble_eq_true rfl), (Nat.le_of_ble_eq_true rfl)⟩) (pwV hK hZ hN hP hS (va_recv hK hP (ci := 4) (q0 := 0) rfl rfl)) rfl rfl hl.1 rfl (lv_room (Nat.le_of_ble_eq_true rfl)) dL_law_1190 ⟨(Nat.le_of_ble_eq_true rfl), (Nat.le_of_ble_eq_true rfl)⟩) hS (fun locs hS => ?_)
  refine lv_aload_n hx hb dL_law_1193 rfl (lv_at hl 3 rfl) ?_
  refine lv_aload_n hx hb dL_law_1194 rfl (lv_at hl 1 rfl) ?_
  refine lv_iload_n hx hb dL_law_1195 rfl (lv_at hl 0 rfl) ?_
  refine lv_iconst (v := 1) hx hb dL_law_1196 (by decide) ?_
  refine lv_iadd hx hb dL_law_1197 ?_
  refine tpI (y := nI (i + 1)) (nI_add i 1) ?_
  refine va_sld hx hb hX hbl hbA hS (vp_in_nI (show i + 1 < L by omega) (by omega)) dL_law_1198 ?_
  refine tpI (y := sx xs i 1) rfl ?_
  refine lv_aload_n hx hb dL_law_1199 rfl (lv_at hl 1 rfl) ?_
  refine lv_iload_n hx hb dL_law_1200 rfl (lv_at hl 0 rfl) ?_
  refine lv_iconst (v := 2) hx hb dL_law_1201 (by decide) ?_
  refine lv_iadd hx hb dL_law_1202 ?_
  refine tpI (y := nI (i + 2)) (nI_add i 2) ?_
  refine va_sld hx hb hX hbl hbA hS (vp_in_nI (show i + 2 < L by omega) (by omega)) dL_law_1203 ?_
  refine tpI (y := sx xs i 2) rfl ?_
  have hP := swP hP
  have hD := swD hD
  refine pcI (va_runV (As := [.int (sx xs i 1), .int (sx xs i 2)]) (rest := [.int (fCloses g (sx xs i 1) (sx xs i 2))]) ⟨hx, hb, hml, hown, hts⟩ (kX5_closes l D cI cO tt am g y zz j f v (LW ad cI cO g b d []) H (sx xs i 1) (sx xs i 2) hI) (cwV 2 hts gL_law_X5_closes rfl rfl rfl (by decide +kernel) ⟨(Nat.le_of_ble_eq_true rfl), (Nat.le_of_ble_eq_true rfl)⟩) (pwV hK hZ hN hP hS (va_recv hK hP (ci := 5) (q0 := 0) rfl rfl)) rfl rfl hl.1 rfl (lv_room (Nat.le_of_ble_eq_true rfl)) dL_law_1204 ⟨(Nat.le_of_ble_eq_true rfl), (Nat.le_of_ble_eq_true rfl)⟩) hS (fun locs hS => ?_)
  have hP := bkP hP
  have hD := bkD hD
  refine lv_icmp_eq (tgt := 1249) hx hb dL_law_1207 (by decide) (fun c_9 => ?_) (fun c_9 => absurd rfl c_9)
  exact kk _ b d y zz j f v hI hM _ _ _ hP hD hS hl
set_option maxHeartbeats 4000000 in
set_option maxRecDepth 100000 in
theorem lc_25 {p : Program} {l : Launch} {e : Env} {s : State} {m : MethodId} {bb L : Nat} {below : List Frame} {meth : Method} {c : Code} {xs : Nat → Int32} {D : va_G} {ad am : Nat → Nat} {cI cO : ClassId} {tt i : Nat} (C : LX p s m meth c bb L xs D cI cO tt i) (kk : LG p l e s m bb below meth c D ad am cI cO i 1249) : LG p l e s m bb below meth c D ad am cI cO i 1212 := by
  obtain ⟨C0, hK, hZ, hN, hi, hL⟩ := C
  obtain ⟨hx, hb, hr, hml, hown, hts0, hX, hbl, hlocks, hgv⟩ := C0
  have hown : s.vm.findClass RL = some m.cls := hown
  have hb : c.code = cL_law := hb
  have hts : ∀ w ∈ wsL_law, w.before #[Value.ref bb] s = true := fun w h => hts0 w (wsL_law_in w h)
  have hA : ∀ q : Nat, s.heap.size ≤ q → (fun q : Nat => s.heap.size ≤ q) q := fun _ h => h
  have hbA : ¬ (fun q : Nat => s.heap.size ≤ q) bb := Nat.not_le.mpr hbl
  intro g b d y zz j f v hI hM H locs ls hP hD hS hl
  refine lv_aload_n hx hb dL_law_1212 rfl (lv_at hl 2 rfl) ?_
  refine lv_aload_n hx hb dL_law_1213 rfl (lv_at hl 1 rfl) ?_
  refine lv_iload_n hx hb dL_law_1214 rfl (lv_at hl 0 rfl) ?_
  refine lv_iconst (v := 1) hx hb dL_law_1215 (by decide) ?_
  refine lv_iadd hx hb dL_law_1216 ?_
  refine tpI (y := nI (i + 1)) (nI_add i 1) ?_
  refine va_sld hx hb hX hbl hbA hS (vp_in_nI (show i + 1 < L by omega) (by omega)) dL_law_1217 ?_
  refine tpI (y := sx xs i 1) rfl ?_
  refine pcI (va_runV (As := [.int (sx xs i 1)]) (rest := []) ⟨hx, hb, hml, hown, hts⟩ (kX4_count l D cI cO tt ad g b d (MW am cI g y zz j f v []) H (sx xs i 1) ) (cwV 1 hts gL_law_X4_count rfl rfl rfl (by decide +kernel) ⟨(Nat.le_of_ble_eq_true rfl), (Nat.le_of_ble_eq_true rfl)⟩) (pwV hK hZ hN hP hS (va_recv hK hP (ci := 4) (q0 := 0) rfl rfl)) rfl rfl hl.1 rfl (lv_room (Nat.le_of_ble_eq_true rfl)) dL_law_1218 ⟨(Nat.le_of_ble_eq_true rfl), (Nat.le_of_ble_eq_true rfl)⟩) hS (fun locs hS => ?_)
  refine lv_aload_n hx hb dL_law_1221 rfl (lv_at hl 3 rfl) ?_
  refine lv_aload_n hx hb dL_law_1222 rfl (lv_at hl 1 rfl) ?_
  refine lv_iload_n hx hb dL_law_1223 rfl (lv_at hl 0 rfl) ?_
  refine lv_iconst (v := 1) hx hb dL_law_1224 (by decide) ?_
  refine lv_iadd hx hb dL_law_1225 ?_
  refine tpI (y := nI (i + 1)) (nI_add i 1) ?_
  refine va_sld hx hb hX hbl hbA hS (vp_in_nI (show i + 1 < L by omega) (by omega)) dL_law_1226 ?_
  refine tpI (y := sx xs i 1) rfl ?_
  have hP := swP hP
  have hD := swD hD
  refine pcI (va_runV (As := [.int (sx xs i 1)]) (rest := [.int (fCount g (sx xs i 1))]) ⟨hx, hb, hml, hown, hts⟩ (kX5_count l D cI cO tt am g y zz j f v (LW ad cI cO g b d []) H (sx xs i 1) ) (cwV 1 hts gL_law_X5_count rfl rfl rfl (by decide +kernel) ⟨(Nat.le_of_ble_eq_true rfl), (Nat.le_of_ble_eq_true rfl)⟩) (pwV hK hZ hN hP hS (va_recv hK hP (ci := 5) (q0 := 0) rfl rfl)) rfl rfl hl.1 rfl (lv_room (Nat.le_of_ble_eq_true rfl)) dL_law_1227 ⟨(Nat.le_of_ble_eq_true rfl), (Nat.le_of_ble_eq_true rfl)⟩) hS (fun locs hS => ?_)
  have hP := bkP hP
  have hD := bkD hD
  refine lv_icmp_eq (tgt := 1249) hx hb dL_law_1230 (by decide) (fun c_9 => ?_) (fun c_9 => absurd rfl c_9)
  exact kk _ b d y zz j f v hI hM _ _ _ hP hD hS hl
set_option maxHeartbeats 4000000 in
set_option maxRecDepth 100000 in
theorem lc_26 {p : Program} {l : Launch} {e : Env} {s : State} {m : MethodId} {bb L : Nat} {below : List Frame} {meth : Method} {c : Code} {xs : Nat → Int32} {D : va_G} {ad am : Nat → Nat} {cI cO : ClassId} {tt i : Nat} (C : LX p s m meth c bb L xs D cI cO tt i) (kk : LG p l e s m bb below meth c D ad am cI cO i 1249) : LG p l e s m bb below meth c D ad am cI cO i 1235 := by
  obtain ⟨C0, hK, hZ, hN, hi, hL⟩ := C
  obtain ⟨hx, hb, hr, hml, hown, hts0, hX, hbl, hlocks, hgv⟩ := C0
  have hown : s.vm.findClass RL = some m.cls := hown
  have hb : c.code = cL_law := hb
  have hts : ∀ w ∈ wsL_law, w.before #[Value.ref bb] s = true := fun w h => hts0 w (wsL_law_in w h)
  have hA : ∀ q : Nat, s.heap.size ≤ q → (fun q : Nat => s.heap.size ≤ q) q := fun _ h => h
  have hbA : ¬ (fun q : Nat => s.heap.size ≤ q) bb := Nat.not_le.mpr hbl
  intro g b d y zz j f v hI hM H locs ls hP hD hS hl
  refine lv_aload_n hx hb dL_law_1235 rfl (lv_at hl 2 rfl) ?_
  refine mcL (wf := fun u : (Nat → Nat → Int32) × (Nat → Int32) × (Nat → Nat → Int64) => LW ad cI cO u.1 u.2.1 u.2.2 (MW am cI g y zz j f v [])) (va_runV (As := []) (rest := []) ⟨hx, hb, hml, hown, hts⟩ (kX4_digest l D cI cO tt ad g b d (MW am cI g y zz j f v []) H.size  hI) (cwV 0 hts gL_law_X4_digest rfl rfl rfl (by decide +kernel) ⟨(Nat.le_of_ble_eq_true rfl), (Nat.le_of_ble_eq_true rfl)⟩) (mwV hK hZ hN hP hD hS hA (va_recv hK hP (ci := 4) (q0 := 0) rfl rfl)) rfl rfl hl.1 rfl (lv_room (Nat.le_of_ble_eq_true rfl)) dL_law_1236 ⟨(Nat.le_of_ble_eq_true rfl), (Nat.le_of_ble_eq_true rfl)⟩) hD hS hA (fun rX4 u H locs hu hP hD hS => ?_)
  obtain ⟨g1, b1, d1⟩ := u
  obtain ⟨e1, e2⟩ := hu
  have hP : va_P D vwCl (LW ad cI cO g1 b1 d1 (MW am cI g y zz j f v [])) H := hP
  have hD : va_D (fun q : Nat => s.heap.size ≤ q) (LW ad cI cO g1 b1 d1 (MW am cI g y zz j f v [])) := hD
  refine lv_aload_n hx hb dL_law_1239 rfl (lv_at hl 3 rfl) ?_
  have hP := swP hP
  have hD := swD hD
  refine mcL (wf := fun u : (Nat → Nat → Int32) × (Nat → Int32) × (Nat → Int32) × (Nat → Int64) × (Nat → Int32) × (Nat → Int32) => MW am cI u.1 u.2.1 u.2.2.1 u.2.2.2.1 u.2.2.2.2.1 u.2.2.2.2.2 (LW ad cI cO g1 b1 d1 [])) (va_runV (As := []) (rest := [.long rX4]) ⟨hx, hb, hml, hown, hts⟩ (kX5_digest l D cI cO tt am g y zz j f v (LW ad cI cO g1 b1 d1 []) H.size  hI hM) (cwV 0 hts gL_law_X5_digest rfl rfl rfl (by decide +kernel) ⟨(Nat.le_of_ble_eq_true rfl), (Nat.le_of_ble_eq_true rfl)⟩) (mwV hK hZ hN hP hD hS hA (va_recv hK hP (ci := 5) (q0 := 0) rfl rfl)) rfl rfl hl.1 rfl (lv_room (Nat.le_of_ble_eq_true rfl)) dL_law_1240 ⟨(Nat.le_of_ble_eq_true rfl), (Nat.le_of_ble_eq_true rfl)⟩) hD hS hA (fun rX5 u H locs hu hP hD hS => ?_)
  obtain ⟨g2, y2, zz2, j2, f2, v2⟩ := u
  obtain ⟨e3, e4, hM2⟩ := hu
  have hP : va_P D vwCl (MW am cI g2 y2 zz2 j2 f2 v2 (LW ad cI cO g1 b1 d1 [])) H := hP
  have hD : va_D (fun q : Nat => s.heap.size ≤ q) (MW am cI g2 y2 zz2 j2 f2 v2 (LW ad cI cO g1 b1 d1 [])) := hD
  have hP := bkP hP
  have hD := bkD hD
  refine W.lcmp hx hb dL_law_1243 ?_
  refine lv_if_eq (tgt := 1249) hx hb dL_law_1244 (by decide) (fun c_9 => ?_) (fun c_9 => absurd ((lg_cmp_eq _ _).mpr (by rw [e1, e3])) c_9)
  have e5 : g2 = g1 := e4.trans e2.symm
  subst e5
  exact kk _ b1 d1 y2 zz2 j2 f2 v2 (by rw [e4]; exact hI) hM2 _ _ _ hP hD hS hl
