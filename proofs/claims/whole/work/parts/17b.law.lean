set_option maxHeartbeats 4000000 in
set_option maxRecDepth 100000 in
theorem lc_2 {p : Program} {l : Launch} {e : Env} {s : State} {m : MethodId} {bb L : Nat} {below : List Frame} {meth : Method} {c : Code} {xs : Nat → Int32} {D : va_G} {ad am : Nat → Nat} {cI cO : ClassId} {tt i : Nat} (C : LX p s m meth c bb L xs D cI cO tt i) (kk : LG p l e s m bb below meth c D ad am cI cO i 1249) : LG p l e s m bb below meth c D ad am cI cO i 222 := by
  obtain ⟨C0, hK, hZ, hN, hi, hL⟩ := C
  obtain ⟨hx, hb, hr, hml, hown, hts0, hX, hbl, hlocks, hgv⟩ := C0
  have hown : s.vm.findClass RL = some m.cls := hown
  have hb : c.code = cL_law := hb
  have hts : ∀ w ∈ wsL_law, w.before #[Value.ref bb] s = true := fun w h => hts0 w (wsL_law_in w h)
  have hA : ∀ q : Nat, s.heap.size ≤ q → (fun q : Nat => s.heap.size ≤ q) q := fun _ h => h
  have hbA : ¬ (fun q : Nat => s.heap.size ≤ q) bb := Nat.not_le.mpr hbl
  intro g b d y zz j f v hI hM H locs ls hP hD hS hl
  refine lv_aload_n hx hb dL_law_222 rfl (lv_at hl 2 rfl) ?_
  refine lv_aload_n hx hb dL_law_223 rfl (lv_at hl 1 rfl) ?_
  refine lv_iload_n hx hb dL_law_224 rfl (lv_at hl 0 rfl) ?_
  refine lv_iconst (v := 1) hx hb dL_law_225 (by decide) ?_
  refine lv_iadd hx hb dL_law_226 ?_
  refine tpI (y := nI (i + 1)) (nI_add i 1) ?_
  refine va_sld hx hb hX hbl hbA hS (vp_in_nI (show i + 1 < L by omega) (by omega)) dL_law_227 ?_
  refine tpI (y := sx xs i 1) rfl ?_
  refine lv_aload_n hx hb dL_law_228 rfl (lv_at hl 1 rfl) ?_
  refine lv_iload_n hx hb dL_law_229 rfl (lv_at hl 0 rfl) ?_
  refine lv_iconst (v := 2) hx hb dL_law_230 (by decide) ?_
  refine lv_iadd hx hb dL_law_231 ?_
  refine tpI (y := nI (i + 2)) (nI_add i 2) ?_
  refine va_sld hx hb hX hbl hbA hS (vp_in_nI (show i + 2 < L by omega) (by omega)) dL_law_232 ?_
  refine tpI (y := sx xs i 2) rfl ?_
  refine lv_aload_n hx hb dL_law_233 rfl (lv_at hl 1 rfl) ?_
  refine lv_iload_n hx hb dL_law_234 rfl (lv_at hl 0 rfl) ?_
  refine lv_iconst (v := 3) hx hb dL_law_235 (by decide) ?_
  refine lv_iadd hx hb dL_law_236 ?_
  refine tpI (y := nI (i + 3)) (nI_add i 3) ?_
  refine va_sld hx hb hX hbl hbA hS (vp_in_nI (show i + 3 < L by omega) (by omega)) dL_law_237 ?_
  refine tpI (y := sx xs i 3) rfl ?_
  refine lv_aload_n hx hb dL_law_238 rfl (lv_at hl 1 rfl) ?_
  refine lv_iload_n hx hb dL_law_239 rfl (lv_at hl 0 rfl) ?_
  refine lv_iconst (v := 4) hx hb dL_law_240 (by decide) ?_
  refine lv_iadd hx hb dL_law_241 ?_
  refine tpI (y := nI (i + 4)) (nI_add i 4) ?_
  refine va_sld hx hb hX hbl hbA hS (vp_in_nI (show i + 4 < L by omega) (by omega)) dL_law_242 ?_
  refine tpI (y := sx xs i 4) rfl ?_
  refine mcI (wf := fun u : (Nat → Nat → Int32) × (Nat → Int32) × (Nat → Nat → Int64) => LW ad cI cO u.1 u.2.1 u.2.2 (MW am cI g y zz j f v [])) (va_runV (As := [.int (sx xs i 1), .int (sx xs i 2), .int (sx xs i 3), .int (sx xs i 4)]) (rest := []) ⟨hx, hb, hml, hown, hts⟩ (kX4_put l D cI cO tt ad g b d (MW am cI g y zz j f v []) H.size (sx xs i 1) (sx xs i 2) (sx xs i 3) (sx xs i 4) hI) (cwV 4 hts gL_law_X4_put rfl rfl rfl (by decide +kernel) ⟨(Nat.le_of_ble_eq_true rfl), (Nat.le_of_ble_eq_true rfl)⟩) (mwV hK hZ hN hP hD hS hA (va_recv hK hP (ci := 4) (q0 := 0) rfl rfl)) rfl rfl hl.1 rfl (lv_room (Nat.le_of_ble_eq_true rfl)) dL_law_243 ⟨(Nat.le_of_ble_eq_true rfl), (Nat.le_of_ble_eq_true rfl)⟩) hD hS hA (fun rX4 u H locs hu hP hD hS => ?_)
  obtain ⟨g1, b1, d1⟩ := u
  obtain ⟨e1, e2⟩ := hu
  have hP : va_P D vwCl (LW ad cI cO g1 b1 d1 (MW am cI g y zz j f v [])) H := hP
  have hD : va_D (fun q : Nat => s.heap.size ≤ q) (LW ad cI cO g1 b1 d1 (MW am cI g y zz j f v [])) := hD
  refine lv_aload_n hx hb dL_law_246 rfl (lv_at hl 3 rfl) ?_
  refine lv_aload_n hx hb dL_law_247 rfl (lv_at hl 1 rfl) ?_
  refine lv_iload_n hx hb dL_law_248 rfl (lv_at hl 0 rfl) ?_
  refine lv_iconst (v := 1) hx hb dL_law_249 (by decide) ?_
  refine lv_iadd hx hb dL_law_250 ?_
  refine tpI (y := nI (i + 1)) (nI_add i 1) ?_
  refine va_sld hx hb hX hbl hbA hS (vp_in_nI (show i + 1 < L by omega) (by omega)) dL_law_251 ?_
  refine tpI (y := sx xs i 1) rfl ?_
  refine lv_aload_n hx hb dL_law_252 rfl (lv_at hl 1 rfl) ?_
  refine lv_iload_n hx hb dL_law_253 rfl (lv_at hl 0 rfl) ?_
  refine lv_iconst (v := 2) hx hb dL_law_254 (by decide) ?_
  refine lv_iadd hx hb dL_law_255 ?_
  refine tpI (y := nI (i + 2)) (nI_add i 2) ?_
  refine va_sld hx hb hX hbl hbA hS (vp_in_nI (show i + 2 < L by omega) (by omega)) dL_law_256 ?_
  refine tpI (y := sx xs i 2) rfl ?_
  refine lv_aload_n hx hb dL_law_257 rfl (lv_at hl 1 rfl) ?_
  refine lv_iload_n hx hb dL_law_258 rfl (lv_at hl 0 rfl) ?_
  refine lv_iconst (v := 3) hx hb dL_law_259 (by decide) ?_
  refine lv_iadd hx hb dL_law_260 ?_
  refine tpI (y := nI (i + 3)) (nI_add i 3) ?_
  refine va_sld hx hb hX hbl hbA hS (vp_in_nI (show i + 3 < L by omega) (by omega)) dL_law_261 ?_
  refine tpI (y := sx xs i 3) rfl ?_
  refine lv_aload_n hx hb dL_law_262 rfl (lv_at hl 1 rfl) ?_
  refine lv_iload_n hx hb dL_law_263 rfl (lv_at hl 0 rfl) ?_
  refine lv_iconst (v := 4) hx hb dL_law_264 (by decide) ?_
  refine lv_iadd hx hb dL_law_265 ?_
  refine tpI (y := nI (i + 4)) (nI_add i 4) ?_
  refine va_sld hx hb hX hbl hbA hS (vp_in_nI (show i + 4 < L by omega) (by omega)) dL_law_266 ?_
  refine tpI (y := sx xs i 4) rfl ?_
  have hP := swP hP
  have hD := swD hD
  refine mcI (wf := fun u : (Nat → Nat → Int32) × (Nat → Int32) × (Nat → Int32) × (Nat → Int64) × (Nat → Int32) × (Nat → Int32) => MW am cI u.1 u.2.1 u.2.2.1 u.2.2.2.1 u.2.2.2.2.1 u.2.2.2.2.2 (LW ad cI cO g1 b1 d1 [])) (va_runV (As := [.int (sx xs i 1), .int (sx xs i 2), .int (sx xs i 3), .int (sx xs i 4)]) (rest := [.int rX4]) ⟨hx, hb, hml, hown, hts⟩ (kX5_put l D cI cO tt am g y zz j f v (LW ad cI cO g1 b1 d1 []) H.size (sx xs i 1) (sx xs i 2) (sx xs i 3) (sx xs i 4) hI hM) (cwV 4 hts gL_law_X5_put rfl rfl rfl (by decide +kernel) ⟨(Nat.le_of_ble_eq_true rfl), (Nat.le_of_ble_eq_true rfl)⟩) (mwV hK hZ hN hP hD hS hA (va_recv hK hP (ci := 5) (q0 := 0) rfl rfl)) rfl rfl hl.1 rfl (lv_room (Nat.le_of_ble_eq_true rfl)) dL_law_267 ⟨(Nat.le_of_ble_eq_true rfl), (Nat.le_of_ble_eq_true rfl)⟩) hD hS hA (fun rX5 u H locs hu hP hD hS => ?_)
  obtain ⟨g2, y2, zz2, j2, f2, v2⟩ := u
  obtain ⟨e3, e4, hM2⟩ := hu
  have hP : va_P D vwCl (MW am cI g2 y2 zz2 j2 f2 v2 (LW ad cI cO g1 b1 d1 [])) H := hP
  have hD : va_D (fun q : Nat => s.heap.size ≤ q) (MW am cI g2 y2 zz2 j2 f2 v2 (LW ad cI cO g1 b1 d1 [])) := hD
  have hP := bkP hP
  have hD := bkD hD
  refine lv_icmp_eq (tgt := 1249) hx hb dL_law_270 (by decide) (fun c_9 => ?_) (fun c_9 => absurd (by rw [e1, e3]) c_9)
  have e5 : g2 = g1 := e4.trans e2.symm
  subst e5
  exact kk _ b1 d1 y2 zz2 j2 f2 v2 (by rw [e4]; exact WI_put hI _ _ _ _) hM2 _ _ _ hP hD hS hl
set_option maxHeartbeats 4000000 in
set_option maxRecDepth 100000 in
theorem lc_3 {p : Program} {l : Launch} {e : Env} {s : State} {m : MethodId} {bb L : Nat} {below : List Frame} {meth : Method} {c : Code} {xs : Nat → Int32} {D : va_G} {ad am : Nat → Nat} {cI cO : ClassId} {tt i : Nat} (C : LX p s m meth c bb L xs D cI cO tt i) (kk : LG p l e s m bb below meth c D ad am cI cO i 1249) : LG p l e s m bb below meth c D ad am cI cO i 275 := by
  obtain ⟨C0, hK, hZ, hN, hi, hL⟩ := C
  obtain ⟨hx, hb, hr, hml, hown, hts0, hX, hbl, hlocks, hgv⟩ := C0
  have hown : s.vm.findClass RL = some m.cls := hown
  have hb : c.code = cL_law := hb
  have hts : ∀ w ∈ wsL_law, w.before #[Value.ref bb] s = true := fun w h => hts0 w (wsL_law_in w h)
  have hA : ∀ q : Nat, s.heap.size ≤ q → (fun q : Nat => s.heap.size ≤ q) q := fun _ h => h
  have hbA : ¬ (fun q : Nat => s.heap.size ≤ q) bb := Nat.not_le.mpr hbl
  intro g b d y zz j f v hI hM H locs ls hP hD hS hl
  refine lv_aload_n hx hb dL_law_275 rfl (lv_at hl 2 rfl) ?_
  refine lv_aload_n hx hb dL_law_276 rfl (lv_at hl 1 rfl) ?_
  refine lv_iload_n hx hb dL_law_277 rfl (lv_at hl 0 rfl) ?_
  refine lv_iconst (v := 1) hx hb dL_law_278 (by decide) ?_
  refine lv_iadd hx hb dL_law_279 ?_
  refine tpI (y := nI (i + 1)) (nI_add i 1) ?_
  refine va_sld hx hb hX hbl hbA hS (vp_in_nI (show i + 1 < L by omega) (by omega)) dL_law_280 ?_
  refine tpI (y := sx xs i 1) rfl ?_
  refine lv_aload_n hx hb dL_law_281 rfl (lv_at hl 1 rfl) ?_
  refine lv_iload_n hx hb dL_law_282 rfl (lv_at hl 0 rfl) ?_
  refine lv_iconst (v := 2) hx hb dL_law_283 (by decide) ?_
  refine lv_iadd hx hb dL_law_284 ?_
  refine tpI (y := nI (i + 2)) (nI_add i 2) ?_
  refine va_sld hx hb hX hbl hbA hS (vp_in_nI (show i + 2 < L by omega) (by omega)) dL_law_285 ?_
  refine tpI (y := sx xs i 2) rfl ?_
  refine lv_aload_n hx hb dL_law_286 rfl (lv_at hl 1 rfl) ?_
  refine lv_iload_n hx hb dL_law_287 rfl (lv_at hl 0 rfl) ?_
  refine lv_iconst (v := 3) hx hb dL_law_288 (by decide) ?_
  refine lv_iadd hx hb dL_law_289 ?_
  refine tpI (y := nI (i + 3)) (nI_add i 3) ?_
  refine va_sld hx hb hX hbl hbA hS (vp_in_nI (show i + 3 < L by omega) (by omega)) dL_law_290 ?_
  refine tpI (y := sx xs i 3) rfl ?_
  refine mcI (wf := fun u : (Nat → Nat → Int32) × (Nat → Int32) × (Nat → Nat → Int64) => LW ad cI cO u.1 u.2.1 u.2.2 (MW am cI g y zz j f v [])) (va_runV (As := [.int (sx xs i 1), .int (sx xs i 2), .int (sx xs i 3)]) (rest := []) ⟨hx, hb, hml, hown, hts⟩ (kX4_get l D cI cO tt ad g b d (MW am cI g y zz j f v []) H.size (sx xs i 1) (sx xs i 2) (sx xs i 3) hI) (cwV 3 hts gL_law_X4_get rfl rfl rfl (by decide +kernel) ⟨(Nat.le_of_ble_eq_true rfl), (Nat.le_of_ble_eq_true rfl)⟩) (mwV hK hZ hN hP hD hS hA (va_recv hK hP (ci := 4) (q0 := 0) rfl rfl)) rfl rfl hl.1 rfl (lv_room (Nat.le_of_ble_eq_true rfl)) dL_law_291 ⟨(Nat.le_of_ble_eq_true rfl), (Nat.le_of_ble_eq_true rfl)⟩) hD hS hA (fun rX4 u H locs hu hP hD hS => ?_)
  obtain ⟨g1, b1, d1⟩ := u
  obtain ⟨e1, e2⟩ := hu
  have hP : va_P D vwCl (LW ad cI cO g1 b1 d1 (MW am cI g y zz j f v [])) H := hP
  have hD : va_D (fun q : Nat => s.heap.size ≤ q) (LW ad cI cO g1 b1 d1 (MW am cI g y zz j f v [])) := hD
  refine lv_aload_n hx hb dL_law_294 rfl (lv_at hl 3 rfl) ?_
  refine lv_aload_n hx hb dL_law_295 rfl (lv_at hl 1 rfl) ?_
  refine lv_iload_n hx hb dL_law_296 rfl (lv_at hl 0 rfl) ?_
  refine lv_iconst (v := 1) hx hb dL_law_297 (by decide) ?_
  refine lv_iadd hx hb dL_law_298 ?_
  refine tpI (y := nI (i + 1)) (nI_add i 1) ?_
  refine va_sld hx hb hX hbl hbA hS (vp_in_nI (show i + 1 < L by omega) (by omega)) dL_law_299 ?_
  refine tpI (y := sx xs i 1) rfl ?_
  refine lv_aload_n hx hb dL_law_300 rfl (lv_at hl 1 rfl) ?_
  refine lv_iload_n hx hb dL_law_301 rfl (lv_at hl 0 rfl) ?_
  refine lv_iconst (v := 2) hx hb dL_law_302 (by decide) ?_
  refine lv_iadd hx hb dL_law_303 ?_
  refine tpI (y := nI (i + 2)) (nI_add i 2) ?_
  refine va_sld hx hb hX hbl hbA hS (vp_in_nI (show i + 2 < L by omega) (by omega)) dL_law_304 ?_
  refine tpI (y := sx xs i 2) rfl ?_
  refine lv_aload_n hx hb dL_law_305 rfl (lv_at hl 1 rfl) ?_
  refine lv_iload_n hx hb dL_law_306 rfl (lv_at hl 0 rfl) ?_
  refine lv_iconst (v := 3) hx hb dL_law_307 (by decide) ?_
  refine lv_iadd hx hb dL_law_308 ?_
  refine tpI (y := nI (i + 3)) (nI_add i 3) ?_
  refine va_sld hx hb hX hbl hbA hS (vp_in_nI (show i + 3 < L by omega) (by omega)) dL_law_309 ?_
  refine tpI (y := sx xs i 3) rfl ?_
  have hP := swP hP
  have hD := swD hD
  refine mcI (wf := fun u : (Nat → Nat → Int32) × (Nat → Int32) × (Nat → Int32) × (Nat → Int64) × (Nat → Int32) × (Nat → Int32) => MW am cI u.1 u.2.1 u.2.2.1 u.2.2.2.1 u.2.2.2.2.1 u.2.2.2.2.2 (LW ad cI cO g1 b1 d1 [])) (va_runV (As := [.int (sx xs i 1), .int (sx xs i 2), .int (sx xs i 3)]) (rest := [.int rX4]) ⟨hx, hb, hml, hown, hts⟩ (kX5_get l D cI cO tt am g y zz j f v (LW ad cI cO g1 b1 d1 []) H.size (sx xs i 1) (sx xs i 2) (sx xs i 3) hI hM) (cwV 3 hts gL_law_X5_get rfl rfl rfl (by decide +kernel) ⟨(Nat.le_of_ble_eq_true rfl), (Nat.le_of_ble_eq_true rfl)⟩) (mwV hK hZ hN hP hD hS hA (va_recv hK hP (ci := 5) (q0 := 0) rfl rfl)) rfl rfl hl.1 rfl (lv_room (Nat.le_of_ble_eq_true rfl)) dL_law_310 ⟨(Nat.le_of_ble_eq_true rfl), (Nat.le_of_ble_eq_true rfl)⟩) hD hS hA (fun rX5 u H locs hu hP hD hS => ?_)
  obtain ⟨g2, y2, zz2, j2, f2, v2⟩ := u
  obtain ⟨e3, e4, hM2⟩ := hu
  have hP : va_P D vwCl (MW am cI g2 y2 zz2 j2 f2 v2 (LW ad cI cO g1 b1 d1 [])) H := hP
  have hD : va_D (fun q : Nat => s.heap.size ≤ q) (MW am cI g2 y2 zz2 j2 f2 v2 (LW ad cI cO g1 b1 d1 [])) := hD
  have hP := bkP hP
  have hD := bkD hD
  refine lv_icmp_eq (tgt := 1249) hx hb dL_law_313 (by decide) (fun c_9 => ?_) (fun c_9 => absurd (by rw [e1, e3]) c_9)
  have e5 : g2 = g1 := e4.trans e2.symm
  subst e5
  exact kk _ b1 d1 y2 zz2 j2 f2 v2 (by rw [e4]; exact WI_get hI _ _ _) hM2 _ _ _ hP hD hS hl
set_option maxHeartbeats 4000000 in
set_option maxRecDepth 100000 in
theorem lc_4 {p : Program} {l : Launch} {e : Env} {s : State} {m : MethodId} {bb L : Nat} {below : List Frame} {meth : Method} {c : Code} {xs : Nat → Int32} {D : va_G} {ad am : Nat → Nat} {cI cO : ClassId} {tt i : Nat} (C : LX p s m meth c bb L xs D cI cO tt i) (kk : LG p l e s m bb below meth c D ad am cI cO i 1249) : LG p l e s m bb below meth c D ad am cI cO i 318 := by
  obtain ⟨C0, hK, hZ, hN, hi, hL⟩ := C
  obtain ⟨hx, hb, hr, hml, hown, hts0, hX, hbl, hlocks, hgv⟩ := C0
  have hown : s.vm.findClass RL = some m.cls := hown
  have hb : c.code = cL_law := hb
  have hts : ∀ w ∈ wsL_law, w.before #[Value.ref bb] s = true := fun w h => hts0 w (wsL_law_in w h)
  have hA : ∀ q : Nat, s.heap.size ≤ q → (fun q : Nat => s.heap.size ≤ q) q := fun _ h => h
  have hbA : ¬ (fun q : Nat => s.heap.size ≤ q) bb := Nat.not_le.mpr hbl
  intro g b d y zz j f v hI hM H locs ls hP hD hS hl
  refine lv_aload_n hx hb dL_law_318 rfl (lv_at hl 2 rfl) ?_
  refine lv_aload_n hx hb dL_law_319 rfl (lv_at hl 1 rfl) ?_
  refine lv_iload_n hx hb dL_law_320 rfl (lv_at hl 0 rfl) ?_
  refine lv_iconst (v := 1) hx hb dL_law_321 (by decide) ?_
  refine lv_iadd hx hb dL_law_322 ?_
  refine tpI (y := nI (i + 1)) (nI_add i 1) ?_
  refine va_sld hx hb hX hbl hbA hS (vp_in_nI (show i + 1 < L by omega) (by omega)) dL_law_323 ?_
  refine tpI (y := sx xs i 1) rfl ?_
  refine lv_aload_n hx hb dL_law_324 rfl (lv_at hl 1 rfl) ?_
  refine lv_iload_n hx hb dL_law_325 rfl (lv_at hl 0 rfl) ?_
  refine lv_iconst (v := 2) hx hb dL_law_326 (by decide) ?_
  refine lv_iadd hx hb dL_law_327 ?_
  refine tpI (y := nI (i + 2)) (nI_add i 2) ?_
  refine va_sld hx hb hX hbl hbA hS (vp_in_nI (show i + 2 < L by omega) (by omega)) dL_law_328 ?_
  refine tpI (y := sx xs i 2) rfl ?_
  refine lv_aload_n hx hb dL_law_329 rfl (lv_at hl 1 rfl) ?_
  refine lv_iload_n hx hb dL_law_330 rfl (lv_at hl 0 rfl) ?_
  refine lv_iconst (v := 3) hx hb dL_law_331 (by decide) ?_
  refine lv_iadd hx hb dL_law_332 ?_
  refine tpI (y := nI (i + 3)) (nI_add i 3) ?_
  refine va_sld hx hb hX hbl hbA hS (vp_in_nI (show i + 3 < L by omega) (by omega)) dL_law_333 ?_
  refine tpI (y := sx xs i 3) rfl ?_
  refine lv_aload_n hx hb dL_law_334 rfl (lv_at hl 1 rfl) ?_
  refine lv_iload_n hx hb dL_law_335 rfl (lv_at hl 0 rfl) ?_
  refine lv_iconst (v := 4) hx hb dL_law_336 (by decide) ?_
  refine lv_iadd hx hb dL_law_337 ?_
  refine tpI (y := nI (i + 4)) (nI_add i 4) ?_
  refine va_sld hx hb hX hbl hbA hS (vp_in_nI (show i + 4 < L by omega) (by omega)) dL_law_338 ?_
  refine tpI (y := sx xs i 4) rfl ?_
  refine lv_aload_n hx hb dL_law_339 rfl (lv_at hl 1 rfl) ?_
  refine lv_iload_n hx hb dL_law_340 rfl (lv_at hl 0 rfl) ?_
  refine lv_iconst (v := 5) hx hb dL_law_341 (by decide) ?_
  refine lv_iadd hx hb dL_law_342 ?_
  refine tpI (y := nI (i + 5)) (nI_add i 5) ?_
  refine va_sld hx hb hX hbl hbA hS (vp_in_nI (show i + 5 < L by omega) (by omega)) dL_law_343 ?_
  refine tpI (y := sx xs i 5) rfl ?_
  refine mcI (wf := fun u : (Nat → Nat → Int32) × (Nat → Int32) × (Nat → Nat → Int64) => LW ad cI cO u.1 u.2.1 u.2.2 (MW am cI g y zz j f v [])) (va_runV (As := [.int (sx xs i 1), .int (sx xs i 2), .int (sx xs i 3), .int (sx xs i 4), .int (sx xs i 5)]) (rest := []) ⟨hx, hb, hml, hown, hts⟩ (kX4_copy l D cI cO tt ad g b d (MW am cI g y zz j f v []) H.size (sx xs i 1) (sx xs i 2) (sx xs i 3) (sx xs i 4) (sx xs i 5) hI) (cwV 5 hts gL_law_X4_copy rfl rfl rfl (by decide +kernel) ⟨(Nat.le_of_ble_eq_true rfl), (Nat.le_of_ble_eq_true rfl)⟩) (mwV hK hZ hN hP hD hS hA (va_recv hK hP (ci := 4) (q0 := 0) rfl rfl)) rfl rfl hl.1 rfl (lv_room (Nat.le_of_ble_eq_true rfl)) dL_law_344 ⟨(Nat.le_of_ble_eq_true rfl), (Nat.le_of_ble_eq_true rfl)⟩) hD hS hA (fun rX4 u H locs hu hP hD hS => ?_)
  obtain ⟨g1, b1, d1⟩ := u
  obtain ⟨e1, e2⟩ := hu
  have hP : va_P D vwCl (LW ad cI cO g1 b1 d1 (MW am cI g y zz j f v [])) H := hP
  have hD : va_D (fun q : Nat => s.heap.size ≤ q) (LW ad cI cO g1 b1 d1 (MW am cI g y zz j f v [])) := hD
  refine lv_aload_n hx hb dL_law_347 rfl (lv_at hl 3 rfl) ?_
  refine lv_aload_n hx hb dL_law_348 rfl (lv_at hl 1 rfl) ?_
  refine lv_iload_n hx hb dL_law_349 rfl (lv_at hl 0 rfl) ?_
  refine lv_iconst (v := 1) hx hb dL_law_350 (by decide) ?_
  refine lv_iadd hx hb dL_law_351 ?_
  refine tpI (y := nI (i + 1)) (nI_add i 1) ?_
  refine va_sld hx hb hX hbl hbA hS (vp_in_nI (show i + 1 < L by omega) (by omega)) dL_law_352 ?_
  refine tpI (y := sx xs i 1) rfl ?_
  refine lv_aload_n hx hb dL_law_353 rfl (lv_at hl 1 rfl) ?_
  refine lv_iload_n hx hb dL_law_354 rfl (lv_at hl 0 rfl) ?_
  refine lv_iconst (v := 2) hx hb dL_law_355 (by decide) ?_
  refine lv_iadd hx hb dL_law_356 ?_
  refine tpI (y := nI (i + 2)) (nI_add i 2) ?_
  refine va_sld hx hb hX hbl hbA hS (vp_in_nI (show i + 2 < L by omega) (by omega)) dL_law_357 ?_
  refine tpI (y := sx xs i 2) rfl ?_
  refine lv_aload_n hx hb dL_law_358 rfl (lv_at hl 1 rfl) ?_
  refine lv_iload_n hx hb dL_law_359 rfl (lv_at hl 0 rfl) ?_
  refine lv_iconst (v := 3) hx hb dL_law_360 (by decide) ?_
  refine lv_iadd hx hb dL_law_361 ?_
  refine tpI (y := nI (i + 3)) (nI_add i 3) ?_
  refine va_sld hx hb hX hbl hbA hS (vp_in_nI (show i + 3 < L by omega) (by omega)) dL_law_362 ?_
  refine tpI (y := sx xs i 3) rfl ?_
  refine lv_aload_n hx hb dL_law_363 rfl (lv_at hl 1 rfl) ?_
  refine lv_iload_n hx hb dL_law_364 rfl (lv_at hl 0 rfl) ?_
  refine lv_iconst (v := 4) hx hb dL_law_365 (by decide) ?_
  refine lv_iadd hx hb dL_law_366 ?_
  refine tpI (y := nI (i + 4)) (nI_add i 4) ?_
  refine va_sld hx hb hX hbl hbA hS (vp_in_nI (show i + 4 < L by omega) (by omega)) dL_law_367 ?_
  refine tpI (y := sx xs i 4) rfl ?_
  refine lv_aload_n hx hb dL_law_368 rfl (lv_at hl 1 rfl) ?_
  refine lv_iload_n hx hb dL_law_369 rfl (lv_at hl 0 rfl) ?_
  refine lv_iconst (v := 5) hx hb dL_law_370 (by decide) ?_
  refine lv_iadd hx hb dL_law_371 ?_
  refine tpI (y := nI (i + 5)) (nI_add i 5) ?_
  refine va_sld hx hb hX hbl hbA hS (vp_in_nI (show i + 5 < L by omega) (by omega)) dL_law_372 ?_
  refine tpI (y := sx xs i 5) rfl ?_
  have hP := swP hP
  have hD := swD hD
  refine mcI (wf := fun u : (Nat → Nat → Int32) × (Nat → Int32) × (Nat → Int32) × (Nat → Int64) × (Nat → Int32) × (Nat → Int32) => MW am cI u.1 u.2.1 u.2.2.1 u.2.2.2.1 u.2.2.2.2.1 u.2.2.2.2.2 (LW ad cI cO g1 b1 d1 [])) (va_runV (As := [.int (sx xs i 1), .int (sx xs i 2), .int (sx xs i 3), .int (sx xs i 4), .int (sx xs i 5)]) (rest := [.int rX4]) ⟨hx, hb, hml, hown, hts⟩ (kX5_copy l D cI cO tt am g y zz j f v (LW ad cI cO g1 b1 d1 []) H.size (sx xs i 1) (sx xs i 2) (sx xs i 3) (sx xs i 4) (sx xs i 5) hI hM) (cwV 5 hts gL_law_X5_copy rfl rfl rfl (by decide +kernel) ⟨(Nat.le_of_ble_eq_true rfl), (Nat.le_of_ble_eq_true rfl)⟩) (mwV hK hZ hN hP hD hS hA (va_recv hK hP (ci := 5) (q0 := 0) rfl rfl)) rfl rfl hl.1 rfl (lv_room (Nat.le_of_ble_eq_true rfl)) dL_law_373 ⟨(Nat.le_of_ble_eq_true rfl), (Nat.le_of_ble_eq_true rfl)⟩) hD hS hA (fun rX5 u H locs hu hP hD hS => ?_)
  obtain ⟨g2, y2, zz2, j2, f2, v2⟩ := u
  obtain ⟨e3, e4, hM2⟩ := hu
  have hP : va_P D vwCl (MW am cI g2 y2 zz2 j2 f2 v2 (LW ad cI cO g1 b1 d1 [])) H := hP
  have hD : va_D (fun q : Nat => s.heap.size ≤ q) (MW am cI g2 y2 zz2 j2 f2 v2 (LW ad cI cO g1 b1 d1 [])) := hD
  have hP := bkP hP
  have hD := bkD hD
  refine lv_icmp_eq (tgt := 1249) hx hb dL_law_376 (by decide) (fun c_9 => ?_) (fun c_9 => absurd (by rw [e1, e3]) c_9)
  have e5 : g2 = g1 := e4.trans e2.symm
  subst e5
  exact kk _ b1 d1 y2 zz2 j2 f2 v2 (by rw [e4]; exact WI_copy hI _ _ _ _ _) hM2 _ _ _ hP hD hS hl
set_option maxHeartbeats 4000000 in
set_option maxRecDepth 100000 in
theorem lc_5 {p : Program} {l : Launch} {e : Env} {s : State} {m : MethodId} {bb L : Nat} {below : List Frame} {meth : Method} {c : Code} {xs : Nat → Int32} {D : va_G} {ad am : Nat → Nat} {cI cO : ClassId} {tt i : Nat} (C : LX p s m meth c bb L xs D cI cO tt i) (kk : LG p l e s m bb below meth c D ad am cI cO i 1249) : LG p l e s m bb below meth c D ad am cI cO i 381 := by
  obtain ⟨C0, hK, hZ, hN, hi, hL⟩ := C
  obtain ⟨hx, hb, hr, hml, hown, hts0, hX, hbl, hlocks, hgv⟩ := C0
  have hown : s.vm.findClass RL = some m.cls := hown
  have hb : c.code = cL_law := hb
  have hts : ∀ w ∈ wsL_law, w.before #[Value.ref bb] s = true := fun w h => hts0 w (wsL_law_in w h)
  have hA : ∀ q : Nat, s.heap.size ≤ q → (fun q : Nat => s.heap.size ≤ q) q := fun _ h => h
  have hbA : ¬ (fun q : Nat => s.heap.size ≤ q) bb := Nat.not_le.mpr hbl
  intro g b d y zz j f v hI hM H locs ls hP hD hS hl
  refine lv_aload_n hx hb dL_law_381 rfl (lv_at hl 2 rfl) ?_
  refine lv_aload_n hx hb dL_law_382 rfl (lv_at hl 1 rfl) ?_
  refine lv_iload_n hx hb dL_law_383 rfl (lv_at hl 0 rfl) ?_
  refine lv_iconst (v := 1) hx hb dL_law_384 (by decide) ?_
  refine lv_iadd hx hb dL_law_385 ?_
  refine tpI (y := nI (i + 1)) (nI_add i 1) ?_
  refine va_sld hx hb hX hbl hbA hS (vp_in_nI (show i + 1 < L by omega) (by omega)) dL_law_386 ?_
  refine tpI (y := sx xs i 1) rfl ?_
  refine mcI (wf := fun u : (Nat → Nat → Int32) × (Nat → Int32) × (Nat → Nat → Int64) => LW ad cI cO u.1 u.2.1 u.2.2 (MW am cI g y zz j f v [])) (va_runV (As := [.int (sx xs i 1)]) (rest := []) ⟨hx, hb, hml, hown, hts⟩ (kX4_cells l D cI cO tt ad g b d (MW am cI g y zz j f v []) H.size (sx xs i 1) ) (cwV 1 hts gL_law_X4_cells rfl rfl rfl (by decide +kernel) ⟨(Nat.le_of_ble_eq_true rfl), (Nat.le_of_ble_eq_true rfl)⟩) (mwV hK hZ hN hP hD hS hA (va_recv hK hP (ci := 4) (q0 := 0) rfl rfl)) rfl rfl hl.1 rfl (lv_room (Nat.le_of_ble_eq_true rfl)) dL_law_387 ⟨(Nat.le_of_ble_eq_true rfl), (Nat.le_of_ble_eq_true rfl)⟩) hD hS hA (fun rX4 u H locs hu hP hD hS => ?_)
  obtain ⟨g1, b1, d1⟩ := u
  obtain ⟨e1, e2⟩ := hu
  have hP : va_P D vwCl (LW ad cI cO g1 b1 d1 (MW am cI g y zz j f v [])) H := hP
  have hD : va_D (fun q : Nat => s.heap.size ≤ q) (LW ad cI cO g1 b1 d1 (MW am cI g y zz j f v [])) := hD
  refine lv_aload_n hx hb dL_law_390 rfl (lv_at hl 3 rfl) ?_
  refine lv_aload_n hx hb dL_law_391 rfl (lv_at hl 1 rfl) ?_
  refine lv_iload_n hx hb dL_law_392 rfl (lv_at hl 0 rfl) ?_
  refine lv_iconst (v := 1) hx hb dL_law_393 (by decide) ?_
  refine lv_iadd hx hb dL_law_394 ?_
  refine tpI (y := nI (i + 1)) (nI_add i 1) ?_
  refine va_sld hx hb hX hbl hbA hS (vp_in_nI (show i + 1 < L by omega) (by omega)) dL_law_395 ?_
  refine tpI (y := sx xs i 1) rfl ?_
  have hP := swP hP
  have hD := swD hD
  refine mcI (wf := fun u : (Nat → Nat → Int32) × (Nat → Int32) × (Nat → Int32) × (Nat → Int64) × (Nat → Int32) × (Nat → Int32) => MW am cI u.1 u.2.1 u.2.2.1 u.2.2.2.1 u.2.2.2.2.1 u.2.2.2.2.2 (LW ad cI cO g1 b1 d1 [])) (va_runV (As := [.int (sx xs i 1)]) (rest := [.int rX4]) ⟨hx, hb, hml, hown, hts⟩ (kX5_cells l D cI cO tt am g y zz j f v (LW ad cI cO g1 b1 d1 []) H.size (sx xs i 1) hI hM) (cwV 1 hts gL_law_X5_cells rfl rfl rfl (by decide +kernel) ⟨(Nat.le_of_ble_eq_true rfl), (Nat.le_of_ble_eq_true rfl)⟩) (mwV hK hZ hN hP hD hS hA (va_recv hK hP (ci := 5) (q0 := 0) rfl rfl)) rfl rfl hl.1 rfl (lv_room (Nat.le_of_ble_eq_true rfl)) dL_law_396 ⟨(Nat.le_of_ble_eq_true rfl), (Nat.le_of_ble_eq_true rfl)⟩) hD hS hA (fun rX5 u H locs hu hP hD hS => ?_)
  obtain ⟨g2, y2, zz2, j2, f2, v2⟩ := u
  obtain ⟨e3, e4, hM2⟩ := hu
  have hP : va_P D vwCl (MW am cI g2 y2 zz2 j2 f2 v2 (LW ad cI cO g1 b1 d1 [])) H := hP
  have hD : va_D (fun q : Nat => s.heap.size ≤ q) (MW am cI g2 y2 zz2 j2 f2 v2 (LW ad cI cO g1 b1 d1 [])) := hD
  have hP := bkP hP
  have hD := bkD hD
  refine lv_icmp_eq (tgt := 1249) hx hb dL_law_399 (by decide) (fun c_9 => ?_) (fun c_9 => absurd (by rw [e1, e3]) c_9)
  have e5 : g2 = g1 := e4.trans e2.symm
  subst e5
  exact kk _ b1 d1 y2 zz2 j2 f2 v2 (by rw [e4]; exact WI_cells hI _) hM2 _ _ _ hP hD hS hl
set_option maxHeartbeats 4000000 in
set_option maxRecDepth 100000 in
theorem lc_6 {p : Program} {l : Launch} {e : Env} {s : State} {m : MethodId} {bb L : Nat} {below : List Frame} {meth : Method} {c : Code} {xs : Nat → Int32} {D : va_G} {ad am : Nat → Nat} {cI cO : ClassId} {tt i : Nat} (C : LX p s m meth c bb L xs D cI cO tt i) (kk : LG p l e s m bb below meth c D ad am cI cO i 1249) : LG p l e s m bb below meth c D ad am cI cO i 404 := by
  obtain ⟨C0, hK, hZ, hN, hi, hL⟩ := C
  obtain ⟨hx, hb, hr, hml, hown, hts0, hX, hbl, hlocks, hgv⟩ := C0
  have hown : s.vm.findClass RL = some m.cls := hown
  have hb : c.code = cL_law := hb
  have hts : ∀ w ∈ wsL_law, w.before #[Value.ref bb] s = true := fun w h => hts0 w (wsL_law_in w h)
  have hA : ∀ q : Nat, s.heap.size ≤ q → (fun q : Nat => s.heap.size ≤ q) q := fun _ h => h
  have hbA : ¬ (fun q : Nat => s.heap.size ≤ q) bb := Nat.not_le.mpr hbl
  intro g b d y zz j f v hI hM H locs ls hP hD hS hl
  refine lv_aload_n hx hb dL_law_404 rfl (lv_at hl 2 rfl) ?_
  refine lv_aload_n hx hb dL_law_405 rfl (lv_at hl 1 rfl) ?_
  refine lv_iload_n hx hb dL_law_406 rfl (lv_at hl 0 rfl) ?_
  refine lv_iconst (v := 1) hx hb dL_law_407 (by decide) ?_
  refine lv_iadd hx hb dL_law_408 ?_
  refine tpI (y := nI (i + 1)) (nI_add i 1) ?_
  refine va_sld hx hb hX hbl hbA hS (vp_in_nI (show i + 1 < L by omega) (by omega)) dL_law_409 ?_
  refine tpI (y := sx xs i 1) rfl ?_
  refine lv_aload_n hx hb dL_law_410 rfl (lv_at hl 1 rfl) ?_
  refine lv_iload_n hx hb dL_law_411 rfl (lv_at hl 0 rfl) ?_
  refine lv_iconst (v := 2) hx hb dL_law_412 (by decide) ?_
  refine lv_iadd hx hb dL_law_413 ?_
  refine tpI (y := nI (i + 2)) (nI_add i 2) ?_
  refine va_sld hx hb hX hbl hbA hS (vp_in_nI (show i + 2 < L by omega) (by omega)) dL_law_414 ?_
  refine tpI (y := sx xs i 2) rfl ?_
  refine lv_aload_n hx hb dL_law_415 rfl (lv_at hl 1 rfl) ?_
  refine lv_iload_n hx hb dL_law_416 rfl (lv_at hl 0 rfl) ?_
  refine lv_iconst (v := 3) hx hb dL_law_417 (by decide) ?_
  refine lv_iadd hx hb dL_law_418 ?_
  refine tpI (y := nI (i + 3)) (nI_add i 3) ?_
  refine va_sld hx hb hX hbl hbA hS (vp_in_nI (show i + 3 < L by omega) (by omega)) dL_law_419 ?_
  refine tpI (y := sx xs i 3) rfl ?_
  refine lv_aload_n hx hb dL_law_420 rfl (lv_at hl 1 rfl) ?_
  refine lv_iload_n hx hb dL_law_421 rfl (lv_at hl 0 rfl) ?_
  refine lv_iconst (v := 4) hx hb dL_law_422 (by decide) ?_
  refine lv_iadd hx hb dL_law_423 ?_
  refine tpI (y := nI (i + 4)) (nI_add i 4) ?_
  refine va_sld hx hb hX hbl hbA hS (vp_in_nI (show i + 4 < L by omega) (by omega)) dL_law_424 ?_
  refine tpI (y := sx xs i 4) rfl ?_
  refine mcI (wf := fun u : (Nat → Nat → Int32) × (Nat → Int32) × (Nat → Nat → Int64) => LW ad cI cO u.1 u.2.1 u.2.2 (MW am cI g y zz j f v [])) (va_runV (As := [.int (sx xs i 1), .int (sx xs i 2), .int (sx xs i 3), .int (sx xs i 4)]) (rest := []) ⟨hx, hb, hml, hown, hts⟩ (kX4_ping l D cI cO tt ad g b d (MW am cI g y zz j f v []) H.size (sx xs i 1) (sx xs i 2) (sx xs i 3) (sx xs i 4) hI) (cwV 4 hts gL_law_X4_ping rfl rfl rfl (by decide +kernel) ⟨(Nat.le_of_ble_eq_true rfl), (Nat.le_of_ble_eq_true rfl)⟩) (mwV hK hZ hN hP hD hS hA (va_recv hK hP (ci := 4) (q0 := 0) rfl rfl)) rfl rfl hl.1 rfl (lv_room (Nat.le_of_ble_eq_true rfl)) dL_law_425 ⟨(Nat.le_of_ble_eq_true rfl), (Nat.le_of_ble_eq_true rfl)⟩) hD hS hA (fun rX4 u H locs hu hP hD hS => ?_)
  obtain ⟨g1, b1, d1⟩ := u
  obtain ⟨e1, e2⟩ := hu
  have hP : va_P D vwCl (LW ad cI cO g1 b1 d1 (MW am cI g y zz j f v [])) H := hP
  have hD : va_D (fun q : Nat => s.heap.size ≤ q) (LW ad cI cO g1 b1 d1 (MW am cI g y zz j f v [])) := hD
  refine lv_aload_n hx hb dL_law_428 rfl (lv_at hl 3 rfl) ?_
  refine lv_aload_n hx hb dL_law_429 rfl (lv_at hl 1 rfl) ?_
  refine lv_iload_n hx hb dL_law_430 rfl (lv_at hl 0 rfl) ?_
  refine lv_iconst (v := 1) hx hb dL_law_431 (by decide) ?_
  refine lv_iadd hx hb dL_law_432 ?_
  refine tpI (y := nI (i + 1)) (nI_add i 1) ?_
  refine va_sld hx hb hX hbl hbA hS (vp_in_nI (show i + 1 < L by omega) (by omega)) dL_law_433 ?_
  refine tpI (y := sx xs i 1) rfl ?_
  refine lv_aload_n hx hb dL_law_434 rfl (lv_at hl 1 rfl) ?_
  refine lv_iload_n hx hb dL_law_435 rfl (lv_at hl 0 rfl) ?_
  refine lv_iconst (v := 2) hx hb dL_law_436 (by decide) ?_
  refine lv_iadd hx hb dL_law_437 ?_
  refine tpI (y := nI (i + 2)) (nI_add i 2) ?_
  refine va_sld hx hb hX hbl hbA hS (vp_in_nI (show i + 2 < L by omega) (by omega)) dL_law_438 ?_
  refine tpI (y := sx xs i 2) rfl ?_
  refine lv_aload_n hx hb dL_law_439 rfl (lv_at hl 1 rfl) ?_
  refine lv_iload_n hx hb dL_law_440 rfl (lv_at hl 0 rfl) ?_
  refine lv_iconst (v := 3) hx hb dL_law_441 (by decide) ?_
  refine lv_iadd hx hb dL_law_442 ?_
  refine tpI (y := nI (i + 3)) (nI_add i 3) ?_
  refine va_sld hx hb hX hbl hbA hS (vp_in_nI (show i + 3 < L by omega) (by omega)) dL_law_443 ?_
  refine tpI (y := sx xs i 3) rfl ?_
  refine lv_aload_n hx hb dL_law_444 rfl (lv_at hl 1 rfl) ?_
  refine lv_iload_n hx hb dL_law_445 rfl (lv_at hl 0 rfl) ?_
  refine lv_iconst (v := 4) hx hb dL_law_446 (by decide) ?_
  refine lv_iadd hx hb dL_law_447 ?_
  refine tpI (y := nI (i + 4)) (nI_add i 4) ?_
  refine va_sld hx hb hX hbl hbA hS (vp_in_nI (show i + 4 < L by omega) (by omega)) dL_law_448 ?_
  refine tpI (y := sx xs i 4) rfl ?_
  have hP := swP hP
  have hD := swD hD
  refine mcI (wf := fun u : (Nat → Nat → Int32) × (Nat → Int32) × (Nat → Int32) × (Nat → Int64) × (Nat → Int32) × (Nat → Int32) => MW am cI u.1 u.2.1 u.2.2.1 u.2.2.2.1 u.2.2.2.2.1 u.2.2.2.2.2 (LW ad cI cO g1 b1 d1 [])) (va_runV (As := [.int (sx xs i 1), .int (sx xs i 2), .int (sx xs i 3), .int (sx xs i 4)]) (rest := [.int rX4]) ⟨hx, hb, hml, hown, hts⟩ (kX5_ping l D cI cO tt am g y zz j f v (LW ad cI cO g1 b1 d1 []) H.size (sx xs i 1) (sx xs i 2) (sx xs i 3) (sx xs i 4) hI hM) (cwV 4 hts gL_law_X5_ping rfl rfl rfl (by decide +kernel) ⟨(Nat.le_of_ble_eq_true rfl), (Nat.le_of_ble_eq_true rfl)⟩) (mwV hK hZ hN hP hD hS hA (va_recv hK hP (ci := 5) (q0 := 0) rfl rfl)) rfl rfl hl.1 rfl (lv_room (Nat.le_of_ble_eq_true rfl)) dL_law_449 ⟨(Nat.le_of_ble_eq_true rfl), (Nat.le_of_ble_eq_true rfl)⟩) hD hS hA (fun rX5 u H locs hu hP hD hS => ?_)
  obtain ⟨g2, y2, zz2, j2, f2, v2⟩ := u
  obtain ⟨e3, e4, hM2⟩ := hu
  have hP : va_P D vwCl (MW am cI g2 y2 zz2 j2 f2 v2 (LW ad cI cO g1 b1 d1 [])) H := hP
  have hD : va_D (fun q : Nat => s.heap.size ≤ q) (MW am cI g2 y2 zz2 j2 f2 v2 (LW ad cI cO g1 b1 d1 [])) := hD
  have hP := bkP hP
  have hD := bkD hD
  refine lv_icmp_eq (tgt := 1249) hx hb dL_law_452 (by decide) (fun c_9 => ?_) (fun c_9 => absurd (by rw [e1, e3]) c_9)
  have e5 : g2 = g1 := e4.trans e2.symm
  subst e5
  exact kk _ b1 d1 y2 zz2 j2 f2 v2 (by rw [e4]; exact WI_ping hI _ _ _ _) hM2 _ _ _ hP hD hS hl
set_option maxHeartbeats 4000000 in
set_option maxRecDepth 100000 in
theorem lc_7 {p : Program} {l : Launch} {e : Env} {s : State} {m : MethodId} {bb L : Nat} {below : List Frame} {meth : Method} {c : Code} {xs : Nat → Int32} {D : va_G} {ad am : Nat → Nat} {cI cO : ClassId} {tt i : Nat} (C : LX p s m meth c bb L xs D cI cO tt i) (kk : LG p l e s m bb below meth c D ad am cI cO i 1249) : LG p l e s m bb below meth c D ad am cI cO i 457 := by
  obtain ⟨C0, hK, hZ, hN, hi, hL⟩ := C
  obtain ⟨hx, hb, hr, hml, hown, hts0, hX, hbl, hlocks, hgv⟩ := C0
  have hown : s.vm.findClass RL = some m.cls := hown
  have hb : c.code = cL_law := hb
  have hts : ∀ w ∈ wsL_law, w.before #[Value.ref bb] s = true := fun w h => hts0 w (wsL_law_in w h)
  have hA : ∀ q : Nat, s.heap.size ≤ q → (fun q : Nat => s.heap.size ≤ q) q := fun _ h => h
  have hbA : ¬ (fun q : Nat => s.heap.size ≤ q) bb := Nat.not_le.mpr hbl
  intro g b d y zz j f v hI hM H locs ls hP hD hS hl
  refine lv_aload_n hx hb dL_law_457 rfl (lv_at hl 2 rfl) ?_
  refine lv_aload_n hx hb dL_law_458 rfl (lv_at hl 1 rfl) ?_
  refine lv_iload_n hx hb dL_law_459 rfl (lv_at hl 0 rfl) ?_
  refine lv_iconst (v := 1) hx hb dL_law_460 (by decide) ?_
  refine lv_iadd hx hb dL_law_461 ?_
  refine tpI (y := nI (i + 1)) (nI_add i 1) ?_
  refine va_sld hx hb hX hbl hbA hS (vp_in_nI (show i + 1 < L by omega) (by omega)) dL_law_462 ?_
  refine tpI (y := sx xs i 1) rfl ?_
  refine lv_aload_n hx hb dL_law_463 rfl (lv_at hl 1 rfl) ?_
  refine lv_iload_n hx hb dL_law_464 rfl (lv_at hl 0 rfl) ?_
  refine lv_iconst (v := 2) hx hb dL_law_465 (by decide) ?_
  refine lv_iadd hx hb dL_law_466 ?_
  refine tpI (y := nI (i + 2)) (nI_add i 2) ?_
  refine va_sld hx hb hX hbl hbA hS (vp_in_nI (show i + 2 < L by omega) (by omega)) dL_law_467 ?_
  refine tpI (y := sx xs i 2) rfl ?_
  refine mcI (wf := fun u : (Nat → Nat → Int32) × (Nat → Int32) × (Nat → Nat → Int64) => LW ad cI cO u.1 u.2.1 u.2.2 (MW am cI g y zz j f v [])) (va_runV (As := [.int (sx xs i 1), .int (sx xs i 2)]) (rest := []) ⟨hx, hb, hml, hown, hts⟩ (kX4_mend l D cI cO tt ad g b d (MW am cI g y zz j f v []) H.size (sx xs i 1) (sx xs i 2) hI) (cwV 2 hts gL_law_X4_mend rfl rfl rfl (by decide +kernel) ⟨(Nat.le_of_ble_eq_true rfl), (Nat.le_of_ble_eq_true rfl)⟩) (mwV hK hZ hN hP hD hS hA (va_recv hK hP (ci := 4) (q0 := 0) rfl rfl)) rfl rfl hl.1 rfl (lv_room (Nat.le_of_ble_eq_true rfl)) dL_law_468 ⟨(Nat.le_of_ble_eq_true rfl), (Nat.le_of_ble_eq_true rfl)⟩) hD hS hA (fun rX4 u H locs hu hP hD hS => ?_)
  obtain ⟨g1, b1, d1⟩ := u
  obtain ⟨e1, e2⟩ := hu
  have hP : va_P D vwCl (LW ad cI cO g1 b1 d1 (MW am cI g y zz j f v [])) H := hP
  have hD : va_D (fun q : Nat => s.heap.size ≤ q) (LW ad cI cO g1 b1 d1 (MW am cI g y zz j f v [])) := hD
  refine lv_aload_n hx hb dL_law_471 rfl (lv_at hl 3 rfl) ?_
  refine lv_aload_n hx hb dL_law_472 rfl (lv_at hl 1 rfl) ?_
  refine lv_iload_n hx hb dL_law_473 rfl (lv_at hl 0 rfl) ?_
  refine lv_iconst (v := 1) hx hb dL_law_474 (by decide) ?_
  refine lv_iadd hx hb dL_law_475 ?_
  refine tpI (y := nI (i + 1)) (nI_add i 1) ?_
  refine va_sld hx hb hX hbl hbA hS (vp_in_nI (show i + 1 < L by omega) (by omega)) dL_law_476 ?_
  refine tpI (y := sx xs i 1) rfl ?_
  refine lv_aload_n hx hb dL_law_477 rfl (lv_at hl 1 rfl) ?_
  refine lv_iload_n hx hb dL_law_478 rfl (lv_at hl 0 rfl) ?_
  refine lv_iconst (v := 2) hx hb dL_law_479 (by decide) ?_
  refine lv_iadd hx hb dL_law_480 ?_
  refine tpI (y := nI (i + 2)) (nI_add i 2) ?_
  refine va_sld hx hb hX hbl hbA hS (vp_in_nI (show i + 2 < L by omega) (by omega)) dL_law_481 ?_
  refine tpI (y := sx xs i 2) rfl ?_
  have hP := swP hP
  have hD := swD hD
  refine mcI (wf := fun u : (Nat → Nat → Int32) × (Nat → Int32) × (Nat → Int32) × (Nat → Int64) × (Nat → Int32) × (Nat → Int32) => MW am cI u.1 u.2.1 u.2.2.1 u.2.2.2.1 u.2.2.2.2.1 u.2.2.2.2.2 (LW ad cI cO g1 b1 d1 [])) (va_runV (As := [.int (sx xs i 1), .int (sx xs i 2)]) (rest := [.int rX4]) ⟨hx, hb, hml, hown, hts⟩ (kX5_mend l D cI cO tt am g y zz j f v (LW ad cI cO g1 b1 d1 []) H.size (sx xs i 1) (sx xs i 2) hI hM) (cwV 2 hts gL_law_X5_mend rfl rfl rfl (by decide +kernel) ⟨(Nat.le_of_ble_eq_true rfl), (Nat.le_of_ble_eq_true rfl)⟩) (mwV hK hZ hN hP hD hS hA (va_recv hK hP (ci := 5) (q0 := 0) rfl rfl)) rfl rfl hl.1 rfl (lv_room (Nat.le_of_ble_eq_true rfl)) dL_law_482 ⟨(Nat.le_of_ble_eq_true rfl), (Nat.le_of_ble_eq_true rfl)⟩) hD hS hA (fun rX5 u H locs hu hP hD hS => ?_)
  obtain ⟨g2, y2, zz2, j2, f2, v2⟩ := u
  obtain ⟨e3, e4, hM2⟩ := hu
  have hP : va_P D vwCl (MW am cI g2 y2 zz2 j2 f2 v2 (LW ad cI cO g1 b1 d1 [])) H := hP
  have hD : va_D (fun q : Nat => s.heap.size ≤ q) (MW am cI g2 y2 zz2 j2 f2 v2 (LW ad cI cO g1 b1 d1 [])) := hD
  have hP := bkP hP
  have hD := bkD hD
  refine lv_icmp_eq (tgt := 1249) hx hb dL_law_485 (by decide) (fun c_9 => ?_) (fun c_9 => absurd (by rw [e1, e3]) c_9)
  have e5 : g2 = g1 := e4.trans e2.symm
  subst e5
  exact kk _ b1 d1 y2 zz2 j2 f2 v2 (by rw [e4]; exact WI_mend hI _ _) hM2 _ _ _ hP hD hS hl
set_option maxHeartbeats 4000000 in
set_option maxRecDepth 100000 in
theorem lc_8 {p : Program} {l : Launch} {e : Env} {s : State} {m : MethodId} {bb L : Nat} {below : List Frame} {meth : Method} {c : Code} {xs : Nat → Int32} {D : va_G} {ad am : Nat → Nat} {cI cO : ClassId} {tt i : Nat} (C : LX p s m meth c bb L xs D cI cO tt i) (kk : LG p l e s m bb below meth c D ad am cI cO i 1249) : LG p l e s m bb below meth c D ad am cI cO i 490 := by
  obtain ⟨C0, hK, hZ, hN, hi, hL⟩ := C
  obtain ⟨hx, hb, hr, hml, hown, hts0, hX, hbl, hlocks, hgv⟩ := C0
  have hown : s.vm.findClass RL = some m.cls := hown
  have hb : c.code = cL_law := hb
  have hts : ∀ w ∈ wsL_law, w.before #[Value.ref bb] s = true := fun w h => hts0 w (wsL_law_in w h)
  have hA : ∀ q : Nat, s.heap.size ≤ q → (fun q : Nat => s.heap.size ≤ q) q := fun _ h => h
  have hbA : ¬ (fun q : Nat => s.heap.size ≤ q) bb := Nat.not_le.mpr hbl
  intro g b d y zz j f v hI hM H locs ls hP hD hS hl
  refine lv_aload_n hx hb dL_law_490 rfl (lv_at hl 2 rfl) ?_
  refine mcI (wf := fun u : (Nat → Nat → Int32) × (Nat → Int32) × (Nat → Nat → Int64) => LW ad cI cO u.1 u.2.1 u.2.2 (MW am cI g y zz j f v [])) (va_runV (As := []) (rest := []) ⟨hx, hb, hml, hown, hts⟩ (kX4_clear l D cI cO tt ad g b d (MW am cI g y zz j f v []) H.size  ) (cwV 0 hts gL_law_X4_clear rfl rfl rfl (by decide +kernel) ⟨(Nat.le_of_ble_eq_true rfl), (Nat.le_of_ble_eq_true rfl)⟩) (mwV hK hZ hN hP hD hS hA (va_recv hK hP (ci := 4) (q0 := 0) rfl rfl)) rfl rfl hl.1 rfl (lv_room (Nat.le_of_ble_eq_true rfl)) dL_law_491 ⟨(Nat.le_of_ble_eq_true rfl), (Nat.le_of_ble_eq_true rfl)⟩) hD hS hA (fun rX4 u H locs hu hP hD hS => ?_)
  obtain ⟨g1, b1, d1⟩ := u
  obtain ⟨e1, e2⟩ := hu
  have hP : va_P D vwCl (LW ad cI cO g1 b1 d1 (MW am cI g y zz j f v [])) H := hP
  have hD : va_D (fun q : Nat => s.heap.size ≤ q) (LW ad cI cO g1 b1 d1 (MW am cI g y zz j f v [])) := hD
  refine lv_aload_n hx hb dL_law_494 rfl (lv_at hl 3 rfl) ?_
  have hP := swP hP
  have hD := swD hD
  refine mcI (wf := fun u : (Nat → Nat → Int32) × (Nat → Int32) × (Nat → Int32) × (Nat → Int64) × (Nat → Int32) × (Nat → Int32) => MW am cI u.1 u.2.1 u.2.2.1 u.2.2.2.1 u.2.2.2.2.1 u.2.2.2.2.2 (LW ad cI cO g1 b1 d1 [])) (va_runV (As := []) (rest := [.int rX4]) ⟨hx, hb, hml, hown, hts⟩ (kX5_clear l D cI cO tt am g y zz j f v (LW ad cI cO g1 b1 d1 []) H.size  hI hM) (cwV 0 hts gL_law_X5_clear rfl rfl rfl (by decide +kernel) ⟨(Nat.le_of_ble_eq_true rfl), (Nat.le_of_ble_eq_true rfl)⟩) (mwV hK hZ hN hP hD hS hA (va_recv hK hP (ci := 5) (q0 := 0) rfl rfl)) rfl rfl hl.1 rfl (lv_room (Nat.le_of_ble_eq_true rfl)) dL_law_495 ⟨(Nat.le_of_ble_eq_true rfl), (Nat.le_of_ble_eq_true rfl)⟩) hD hS hA (fun rX5 u H locs hu hP hD hS => ?_)
  obtain ⟨g2, y2, zz2, j2, f2, v2⟩ := u
  obtain ⟨e3, e4, hM2⟩ := hu
  have hP : va_P D vwCl (MW am cI g2 y2 zz2 j2 f2 v2 (LW ad cI cO g1 b1 d1 [])) H := hP
  have hD : va_D (fun q : Nat => s.heap.size ≤ q) (MW am cI g2 y2 zz2 j2 f2 v2 (LW ad cI cO g1 b1 d1 [])) := hD
  have hP := bkP hP
  have hD := bkD hD
  refine lv_icmp_eq (tgt := 1249) hx hb dL_law_498 (by decide) (fun c_9 => ?_) (fun c_9 => absurd (by rw [e1, e3]) c_9)
  have e5 : g2 = g1 := e4.trans e2.symm
  subst e5
  exact kk _ b1 d1 y2 zz2 j2 f2 v2 (by rw [e4]; exact WI_clear hI ) hM2 _ _ _ hP hD hS hl
