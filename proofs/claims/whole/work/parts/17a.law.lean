set_option maxHeartbeats 4000000 in
set_option maxRecDepth 100000 in
theorem lc_0 {p : Program} {l : Launch} {e : Env} {s : State} {m : MethodId} {bb L : Nat} {below : List Frame} {meth : Method} {c : Code} {xs : Nat → Int32} {D : va_G} {ad am : Nat → Nat} {cI cO : ClassId} {tt i : Nat} (C : LX p s m meth c bb L xs D cI cO tt i) (kk : LG p l e s m bb below meth c D ad am cI cO i 1249) : LG p l e s m bb below meth c D ad am cI cO i 156 := by
  obtain ⟨C0, hK, hZ, hN, hi, hL⟩ := C
  obtain ⟨hx, hb, hr, hml, hown, hts0, hX, hbl, hlocks, hgv⟩ := C0
  have hown : s.vm.findClass RL = some m.cls := hown
  have hb : c.code = cL_law := hb
  have hts : ∀ w ∈ wsL_law, w.before #[Value.ref bb] s = true := fun w h => hts0 w (wsL_law_in w h)
  have hA : ∀ q : Nat, s.heap.size ≤ q → (fun q : Nat => s.heap.size ≤ q) q := fun _ h => h
  have hbA : ¬ (fun q : Nat => s.heap.size ≤ q) bb := Nat.not_le.mpr hbl
  intro g b d y zz j f v hI hM H locs ls hP hD hS hl
  refine lv_aload_n hx hb dL_law_156 rfl (lv_at hl 2 rfl) ?_
  refine lv_aload_n hx hb dL_law_157 rfl (lv_at hl 1 rfl) ?_
  refine lv_iload_n hx hb dL_law_158 rfl (lv_at hl 0 rfl) ?_
  refine lv_iconst (v := 1) hx hb dL_law_159 (by decide) ?_
  refine lv_iadd hx hb dL_law_160 ?_
  refine tpI (y := nI (i + 1)) (nI_add i 1) ?_
  refine va_sld hx hb hX hbl hbA hS (vp_in_nI (show i + 1 < L by omega) (by omega)) dL_law_161 ?_
  refine tpI (y := sx xs i 1) rfl ?_
  refine lv_aload_n hx hb dL_law_162 rfl (lv_at hl 1 rfl) ?_
  refine lv_iload_n hx hb dL_law_163 rfl (lv_at hl 0 rfl) ?_
  refine lv_iconst (v := 2) hx hb dL_law_164 (by decide) ?_
  refine lv_iadd hx hb dL_law_165 ?_
  refine tpI (y := nI (i + 2)) (nI_add i 2) ?_
  refine va_sld hx hb hX hbl hbA hS (vp_in_nI (show i + 2 < L by omega) (by omega)) dL_law_166 ?_
  refine tpI (y := sx xs i 2) rfl ?_
  refine lv_aload_n hx hb dL_law_167 rfl (lv_at hl 1 rfl) ?_
  refine lv_iload_n hx hb dL_law_168 rfl (lv_at hl 0 rfl) ?_
  refine lv_iconst (v := 3) hx hb dL_law_169 (by decide) ?_
  refine lv_iadd hx hb dL_law_170 ?_
  refine tpI (y := nI (i + 3)) (nI_add i 3) ?_
  refine va_sld hx hb hX hbl hbA hS (vp_in_nI (show i + 3 < L by omega) (by omega)) dL_law_171 ?_
  refine tpI (y := sx xs i 3) rfl ?_
  refine mcI (wf := fun u : (Nat → Nat → Int32) × (Nat → Int32) × (Nat → Nat → Int64) => LW ad cI cO u.1 u.2.1 u.2.2 (MW am cI g y zz j f v [])) (va_runV (As := [.int (sx xs i 1), .int (sx xs i 2), .int (sx xs i 3)]) (rest := []) ⟨hx, hb, hml, hown, hts⟩ (kX4_reel l D cI cO tt ad g b d (MW am cI g y zz j f v []) H.size (sx xs i 1) (sx xs i 2) (sx xs i 3) ) (cwV 3 hts gL_law_X4_reel rfl rfl rfl (by decide +kernel) ⟨(Nat.le_of_ble_eq_true rfl), (Nat.le_of_ble_eq_true rfl)⟩) (mwV hK hZ hN hP hD hS hA (va_recv hK hP (ci := 4) (q0 := 0) rfl rfl)) rfl rfl hl.1 rfl (lv_room (Nat.le_of_ble_eq_true rfl)) dL_law_172 ⟨(Nat.le_of_ble_eq_true rfl), (Nat.le_of_ble_eq_true rfl)⟩) hD hS hA (fun rX4 u H locs hu hP hD hS => ?_)
  obtain ⟨g1, b1, d1⟩ := u
  obtain ⟨e1, e2⟩ := hu
  have hP : va_P D vwCl (LW ad cI cO g1 b1 d1 (MW am cI g y zz j f v [])) H := hP
  have hD : va_D (fun q : Nat => s.heap.size ≤ q) (LW ad cI cO g1 b1 d1 (MW am cI g y zz j f v [])) := hD
  refine lv_aload_n hx hb dL_law_175 rfl (lv_at hl 3 rfl) ?_
  refine lv_aload_n hx hb dL_law_176 rfl (lv_at hl 1 rfl) ?_
  refine lv_iload_n hx hb dL_law_177 rfl (lv_at hl 0 rfl) ?_
  refine lv_iconst (v := 1) hx hb dL_law_178 (by decide) ?_
  refine lv_iadd hx hb dL_law_179 ?_
  refine tpI (y := nI (i + 1)) (nI_add i 1) ?_
  refine va_sld hx hb hX hbl hbA hS (vp_in_nI (show i + 1 < L by omega) (by omega)) dL_law_180 ?_
  refine tpI (y := sx xs i 1) rfl ?_
  refine lv_aload_n hx hb dL_law_181 rfl (lv_at hl 1 rfl) ?_
  refine lv_iload_n hx hb dL_law_182 rfl (lv_at hl 0 rfl) ?_
  refine lv_iconst (v := 2) hx hb dL_law_183 (by decide) ?_
  refine lv_iadd hx hb dL_law_184 ?_
  refine tpI (y := nI (i + 2)) (nI_add i 2) ?_
  refine va_sld hx hb hX hbl hbA hS (vp_in_nI (show i + 2 < L by omega) (by omega)) dL_law_185 ?_
  refine tpI (y := sx xs i 2) rfl ?_
  refine lv_aload_n hx hb dL_law_186 rfl (lv_at hl 1 rfl) ?_
  refine lv_iload_n hx hb dL_law_187 rfl (lv_at hl 0 rfl) ?_
  refine lv_iconst (v := 3) hx hb dL_law_188 (by decide) ?_
  refine lv_iadd hx hb dL_law_189 ?_
  refine tpI (y := nI (i + 3)) (nI_add i 3) ?_
  refine va_sld hx hb hX hbl hbA hS (vp_in_nI (show i + 3 < L by omega) (by omega)) dL_law_190 ?_
  refine tpI (y := sx xs i 3) rfl ?_
  have hP := swP hP
  have hD := swD hD
  refine mcI (wf := fun u : (Nat → Nat → Int32) × (Nat → Int32) × (Nat → Int32) × (Nat → Int64) × (Nat → Int32) × (Nat → Int32) => MW am cI u.1 u.2.1 u.2.2.1 u.2.2.2.1 u.2.2.2.2.1 u.2.2.2.2.2 (LW ad cI cO g1 b1 d1 [])) (va_runV (As := [.int (sx xs i 1), .int (sx xs i 2), .int (sx xs i 3)]) (rest := [.int rX4]) ⟨hx, hb, hml, hown, hts⟩ (kX5_reel l D cI cO tt am g y zz j f v (LW ad cI cO g1 b1 d1 []) H.size (sx xs i 1) (sx xs i 2) (sx xs i 3) hI hM) (cwV 3 hts gL_law_X5_reel rfl rfl rfl (by decide +kernel) ⟨(Nat.le_of_ble_eq_true rfl), (Nat.le_of_ble_eq_true rfl)⟩) (mwV hK hZ hN hP hD hS hA (va_recv hK hP (ci := 5) (q0 := 0) rfl rfl)) rfl rfl hl.1 rfl (lv_room (Nat.le_of_ble_eq_true rfl)) dL_law_191 ⟨(Nat.le_of_ble_eq_true rfl), (Nat.le_of_ble_eq_true rfl)⟩) hD hS hA (fun rX5 u H locs hu hP hD hS => ?_)
  obtain ⟨g2, y2, zz2, j2, f2, v2⟩ := u
  obtain ⟨e3, e4, hM2⟩ := hu
  have hP : va_P D vwCl (MW am cI g2 y2 zz2 j2 f2 v2 (LW ad cI cO g1 b1 d1 [])) H := hP
  have hD : va_D (fun q : Nat => s.heap.size ≤ q) (MW am cI g2 y2 zz2 j2 f2 v2 (LW ad cI cO g1 b1 d1 [])) := hD
  have hP := bkP hP
  have hD := bkD hD
  refine lv_icmp_eq (tgt := 1249) hx hb dL_law_194 (by decide) (fun c_9 => ?_) (fun c_9 => absurd (by rw [e1, e3]) c_9)
  have e5 : g2 = g1 := e4.trans e2.symm
  subst e5
  exact kk _ b1 d1 y2 zz2 j2 f2 v2 (by rw [e4]; exact WI_reel hI _ _ _) hM2 _ _ _ hP hD hS hl
set_option maxHeartbeats 4000000 in
set_option maxRecDepth 100000 in
theorem lc_1 {p : Program} {l : Launch} {e : Env} {s : State} {m : MethodId} {bb L : Nat} {below : List Frame} {meth : Method} {c : Code} {xs : Nat → Int32} {D : va_G} {ad am : Nat → Nat} {cI cO : ClassId} {tt i : Nat} (C : LX p s m meth c bb L xs D cI cO tt i) (kk : LG p l e s m bb below meth c D ad am cI cO i 1249) : LG p l e s m bb below meth c D ad am cI cO i 199 := by
  obtain ⟨C0, hK, hZ, hN, hi, hL⟩ := C
  obtain ⟨hx, hb, hr, hml, hown, hts0, hX, hbl, hlocks, hgv⟩ := C0
  have hown : s.vm.findClass RL = some m.cls := hown
  have hb : c.code = cL_law := hb
  have hts : ∀ w ∈ wsL_law, w.before #[Value.ref bb] s = true := fun w h => hts0 w (wsL_law_in w h)
  have hA : ∀ q : Nat, s.heap.size ≤ q → (fun q : Nat => s.heap.size ≤ q) q := fun _ h => h
  have hbA : ¬ (fun q : Nat => s.heap.size ≤ q) bb := Nat.not_le.mpr hbl
  intro g b d y zz j f v hI hM H locs ls hP hD hS hl
  refine lv_aload_n hx hb dL_law_199 rfl (lv_at hl 2 rfl) ?_
  refine lv_aload_n hx hb dL_law_200 rfl (lv_at hl 1 rfl) ?_
  refine lv_iload_n hx hb dL_law_201 rfl (lv_at hl 0 rfl) ?_
  refine lv_iconst (v := 1) hx hb dL_law_202 (by decide) ?_
  refine lv_iadd hx hb dL_law_203 ?_
  refine tpI (y := nI (i + 1)) (nI_add i 1) ?_
  refine va_sld hx hb hX hbl hbA hS (vp_in_nI (show i + 1 < L by omega) (by omega)) dL_law_204 ?_
  refine tpI (y := sx xs i 1) rfl ?_
  refine mcI (wf := fun u : (Nat → Nat → Int32) × (Nat → Int32) × (Nat → Nat → Int64) => LW ad cI cO u.1 u.2.1 u.2.2 (MW am cI g y zz j f v [])) (va_runV (As := [.int (sx xs i 1)]) (rest := []) ⟨hx, hb, hml, hown, hts⟩ (kX4_lose l D cI cO tt ad g b d (MW am cI g y zz j f v []) H.size (sx xs i 1) ) (cwV 1 hts gL_law_X4_lose rfl rfl rfl (by decide +kernel) ⟨(Nat.le_of_ble_eq_true rfl), (Nat.le_of_ble_eq_true rfl)⟩) (mwV hK hZ hN hP hD hS hA (va_recv hK hP (ci := 4) (q0 := 0) rfl rfl)) rfl rfl hl.1 rfl (lv_room (Nat.le_of_ble_eq_true rfl)) dL_law_205 ⟨(Nat.le_of_ble_eq_true rfl), (Nat.le_of_ble_eq_true rfl)⟩) hD hS hA (fun rX4 u H locs hu hP hD hS => ?_)
  obtain ⟨g1, b1, d1⟩ := u
  obtain ⟨e1, e2⟩ := hu
  have hP : va_P D vwCl (LW ad cI cO g1 b1 d1 (MW am cI g y zz j f v [])) H := hP
  have hD : va_D (fun q : Nat => s.heap.size ≤ q) (LW ad cI cO g1 b1 d1 (MW am cI g y zz j f v [])) := hD
  refine lv_aload_n hx hb dL_law_208 rfl (lv_at hl 3 rfl) ?_
  refine lv_aload_n hx hb dL_law_209 rfl (lv_at hl 1 rfl) ?_
  refine lv_iload_n hx hb dL_law_210 rfl (lv_at hl 0 rfl) ?_
  refine lv_iconst (v := 1) hx hb dL_law_211 (by decide) ?_
  refine lv_iadd hx hb dL_law_212 ?_
  refine tpI (y := nI (i + 1)) (nI_add i 1) ?_
  refine va_sld hx hb hX hbl hbA hS (vp_in_nI (show i + 1 < L by omega) (by omega)) dL_law_213 ?_
  refine tpI (y := sx xs i 1) rfl ?_
  have hP := swP hP
  have hD := swD hD
  refine mcI (wf := fun u : (Nat → Nat → Int32) × (Nat → Int32) × (Nat → Int32) × (Nat → Int64) × (Nat → Int32) × (Nat → Int32) => MW am cI u.1 u.2.1 u.2.2.1 u.2.2.2.1 u.2.2.2.2.1 u.2.2.2.2.2 (LW ad cI cO g1 b1 d1 [])) (va_runV (As := [.int (sx xs i 1)]) (rest := [.int rX4]) ⟨hx, hb, hml, hown, hts⟩ (kX5_lose l D cI cO tt am g y zz j f v (LW ad cI cO g1 b1 d1 []) H.size (sx xs i 1) hI hM) (cwV 1 hts gL_law_X5_lose rfl rfl rfl (by decide +kernel) ⟨(Nat.le_of_ble_eq_true rfl), (Nat.le_of_ble_eq_true rfl)⟩) (mwV hK hZ hN hP hD hS hA (va_recv hK hP (ci := 5) (q0 := 0) rfl rfl)) rfl rfl hl.1 rfl (lv_room (Nat.le_of_ble_eq_true rfl)) dL_law_214 ⟨(Nat.le_of_ble_eq_true rfl), (Nat.le_of_ble_eq_true rfl)⟩) hD hS hA (fun rX5 u H locs hu hP hD hS => ?_)
  obtain ⟨g2, y2, zz2, j2, f2, v2⟩ := u
  obtain ⟨e3, e4, hM2⟩ := hu
  have hP : va_P D vwCl (MW am cI g2 y2 zz2 j2 f2 v2 (LW ad cI cO g1 b1 d1 [])) H := hP
  have hD : va_D (fun q : Nat => s.heap.size ≤ q) (MW am cI g2 y2 zz2 j2 f2 v2 (LW ad cI cO g1 b1 d1 [])) := hD
  have hP := bkP hP
  have hD := bkD hD
  refine lv_icmp_eq (tgt := 1249) hx hb dL_law_217 (by decide) (fun c_9 => ?_) (fun c_9 => absurd (by rw [e1, e3]) c_9)
  have e5 : g2 = g1 := e4.trans e2.symm
  subst e5
  exact kk _ b1 d1 y2 zz2 j2 f2 v2 (by rw [e4]; exact WI_lose hI _) hM2 _ _ _ hP hD hS hl
