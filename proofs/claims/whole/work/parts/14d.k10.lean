set_option maxHeartbeats 4000000 in
set_option maxRecDepth 100000 in
theorem kX5_across (l : Launch) (D : va_G) (cI cO : ClassId) (tt : Nat) (am : Nat → Nat) (g : Nat → Nat → Int32) (y : Nat → Int32) (zz : Nat → Int32) (j : Nat → Int64) (f : Nat → Int32) (v : Nat → Int32) (X : va_W) (sz : Nat) (p0 : Int32) (e0 : Int32) (hI : WI g) (hM : RM g y zz) (hp0 : isP g p0) (hp1 : isP g (p0 + 1)) : MmL l yX5_across wsX5_across ({ frames := 4, cells := 0, slots := 0, locals := 96 }) D cI cO tt (MW am cI g y zz j f v X) sz [.ref (am 0), .int p0, .int e0] (S := (Nat → Int64) × (Nat → Int32)) (fun u => MW am cI g y zz u.1 u.2 v X) (fun z _ => z = flV g p0 e0) := by
  refine Met.ofW (cc := cX5_across) (maxL := 13) (ret := (some .long)) (by decide) rfl ?_
  intro p e s m args below meth c s₁ B hml hv
  obtain ⟨rfl, hsz, hP, hK, hD0, hZ, hN⟩ := hv
  have hx := B.exec
  have hb := B.bytes
  have hr := B.returns
  have hts := atoms_spec (ws := wsX5_across) B.pre
  have hown : s.vm.findClass RX5 = some m.cls := findClass_of_methodNamed B.named
  have hlocks := B.notSynchronized
  subst hsz
  have hD := hD0.self (sz := s.heap.size)
  generalize hAe : va_A (MW am cI g y zz j f v X) s.heap.size = A at hD hZ ⊢
  have hA : ∀ q : Nat, s.heap.size ≤ q → A q := fun q h => by rw [← hAe]; exact Or.inr h
  have hS : va_S A s.heap s.heap [] := va_S.rf
  have hl := lv_entry ([.ref (am 0), .int p0, .int e0]) (n := 13) (Nat.le_of_ble_eq_true rfl)
  rw [lg_entry_eq]
  generalize (lg_sl ([.ref (am 0), .int p0, .int e0]) ++ List.replicate (13 - (lg_sl ([.ref (am 0), .int p0, .int e0])).length) Slot.unset).toArray = ls at hl ⊢
  have hl : lv_has ls 13 [(0, .ref (am 0)), (1, .int p0), (2, .int e0)] := hl
  have h16 : rn (g 100 0) ≤ 16 := rnle (la0 hI) hI.2.2.1.2 (by decide)
  have hw0 := hts (.fieldLink RX5 35 "LayerSounderModel" "xs" "[I") (List.mem_cons_of_mem _ (List.mem_append_left _ (List.mem_append_left _ (List.mem_of_getElem? (l := wsX5_across_r1) (i := 0) rfl))))
  have iX5 : ∀ w ∈ wsX50, w ∈ wsX5_across := fun _ h => List.mem_cons_of_mem _ (List.mem_append_right _ h)
  have hw2 := hts (.fieldLink RX5 38 "LayerSounderModel" "ys" "[I") (List.mem_cons_of_mem _ (List.mem_append_left _ (List.mem_append_left _ (List.mem_of_getElem? (l := wsX5_across_r1) (i := 1) rfl))))
  have hw3 := hts (.fieldLink RX5 28 "LayerSounderModel" "l" "I") (List.mem_cons_of_mem _ (List.mem_append_left _ (List.mem_append_left _ (List.mem_of_getElem? (l := wsX5_across_r1) (i := 2) rfl))))
  have hw4 := hts (.fieldLink RX5 175 "LayerSounderModel" "paceX" "J") (List.mem_cons_of_mem _ (List.mem_append_left _ (List.mem_append_left _ (List.mem_of_getElem? (l := wsX5_across_r1) (i := 3) rfl))))
  have hw5 := hts (.fieldLink RX5 178 "LayerSounderModel" "paceY" "J") (List.mem_cons_of_mem _ (List.mem_append_left _ (List.mem_append_left _ (List.mem_of_getElem? (l := wsX5_across_r1) (i := 4) rfl))))
  have hw6 := hts (.fieldLink RX5 41 "LayerSounderModel" "depths" "[I") (List.mem_cons_of_mem _ (List.mem_append_left _ (List.mem_append_left _ (List.mem_of_getElem? (l := wsX5_across_r1) (i := 5) rfl))))
  refine lv_aload_n hx hb dX5_across_0 rfl (lv_at hl 0 rfl) ?_
  refine va_get (D := D) (ci := 5) (v := .ref (am 8)) (C := RX5) (T := TX5) (N := 31) hx hb hts iX5 hown hK hP 0 rfl rfl 10 (by decide) hw0 (fun _ h9 => h9) rfl dX5_across_1 ?_
  refine lv_iload_n hx hb dX5_across_4 rfl (lv_at hl 1 rfl) ?_
  refine lv_iconst (v := 1) hx hb dX5_across_5 (by decide) ?_
  refine lv_iadd hx hb dX5_across_6 ?_
  refine va_iald hx hb hK hP 8 0 rfl rfl (vin hp1.1 hp1.2 hI.2.1.2 (by decide)) dX5_across_7 ?_
  refine lv_aload_n hx hb dX5_across_8 rfl (lv_at hl 0 rfl) ?_
  refine va_get (D := D) (ci := 5) (v := .ref (am 8)) (C := RX5) (T := TX5) (N := 31) hx hb hts iX5 hown hK hP 0 rfl rfl 10 (by decide) hw0 (fun _ h9 => h9) rfl dX5_across_9 ?_
  refine lv_iload_n hx hb dX5_across_12 rfl (lv_at hl 1 rfl) ?_
  refine va_iald hx hb hK hP 8 0 rfl rfl (vin hp0.1 hp0.2 hI.2.1.2 (by decide)) dX5_across_13 ?_
  refine lv_isub hx hb dX5_across_14 ?_
  refine lv_i2l hx hb dX5_across_15 rfl ?_
  refine lv_lstore_n (lv' := [(3, .long (((g 1 (p0 + 1).toNatClampNeg) - (g 1 p0.toNatClampNeg)).toInt64)), (0, .ref (am 0)), (1, .int p0), (2, .int e0)]) hx hb dX5_across_16 rfl hl (by decide) rfl (fun ls hl => ?_)
  refine lv_aload_n hx hb dX5_across_17 rfl (lv_at hl 1 rfl) ?_
  refine va_get (D := D) (ci := 5) (v := .ref (am 9)) (C := RX5) (T := TX5) (N := 31) hx hb hts iX5 hown hK hP 0 rfl rfl 11 (by decide) hw2 (fun _ h9 => h9) rfl dX5_across_18 ?_
  refine lv_iload_n hx hb dX5_across_21 rfl (lv_at hl 2 rfl) ?_
  refine lv_iconst (v := 1) hx hb dX5_across_22 (by decide) ?_
  refine lv_iadd hx hb dX5_across_23 ?_
  refine va_iald hx hb hK hP 9 0 rfl rfl (vin hp1.1 hp1.2 hI.2.1.2 (by decide)) dX5_across_24 ?_
  refine lv_aload_n hx hb dX5_across_25 rfl (lv_at hl 1 rfl) ?_
  refine va_get (D := D) (ci := 5) (v := .ref (am 9)) (C := RX5) (T := TX5) (N := 31) hx hb hts iX5 hown hK hP 0 rfl rfl 11 (by decide) hw2 (fun _ h9 => h9) rfl dX5_across_26 ?_
  refine lv_iload_n hx hb dX5_across_29 rfl (lv_at hl 2 rfl) ?_
  refine va_iald hx hb hK hP 9 0 rfl rfl (vin hp0.1 hp0.2 hI.2.1.2 (by decide)) dX5_across_30 ?_
  refine lv_isub hx hb dX5_across_31 ?_
  refine lv_i2l hx hb dX5_across_32 rfl ?_
  refine lv_lstore (lv' := [(5, .long (((g 2 (p0 + 1).toNatClampNeg) - (g 2 p0.toNatClampNeg)).toInt64)), (3, .long (((g 1 (p0 + 1).toNatClampNeg) - (g 1 p0.toNatClampNeg)).toInt64)), (0, .ref (am 0)), (1, .int p0), (2, .int e0)]) hx hb dX5_across_33 hl (by decide) rfl (fun ls hl => ?_)
  refine lv_iconst (v := (-1)) hx hb dX5_across_35 (by decide) ?_
  refine lv_istore (lv' := [(7, .int (-1)), (5, .long (((g 2 (p0 + 1).toNatClampNeg) - (g 2 p0.toNatClampNeg)).toInt64)), (3, .long (((g 1 (p0 + 1).toNatClampNeg) - (g 1 p0.toNatClampNeg)).toInt64)), (0, .ref (am 0)), (1, .int p0), (2, .int e0)]) hx hb dX5_across_36 hl (by decide) rfl (fun ls hl => ?_)
  refine lv_iconst (v := (-1)) hx hb dX5_across_38 (by decide) ?_
  refine lv_istore (lv' := [(8, .int (-1)), (7, .int (-1)), (5, .long (((g 2 (p0 + 1).toNatClampNeg) - (g 2 p0.toNatClampNeg)).toInt64)), (3, .long (((g 1 (p0 + 1).toNatClampNeg) - (g 1 p0.toNatClampNeg)).toInt64)), (0, .ref (am 0)), (1, .int p0), (2, .int e0)]) hx hb dX5_across_39 hl (by decide) rfl (fun ls hl => ?_)
  refine lv_lconst (v := 0) hx hb dX5_across_41 (by decide) ?_
  refine lv_lstore (lv' := [(9, .long 0), (8, .int (-1)), (7, .int (-1)), (5, .long (((g 2 (p0 + 1).toNatClampNeg) - (g 2 p0.toNatClampNeg)).toInt64)), (3, .long (((g 1 (p0 + 1).toNatClampNeg) - (g 1 p0.toNatClampNeg)).toInt64)), (0, .ref (am 0)), (1, .int p0), (2, .int e0)]) hx hb dX5_across_42 hl (by decide) rfl (fun ls hl => ?_)
  refine lv_iconst (v := 0) hx hb dX5_across_44 (by decide) ?_
  refine lv_istore (lv' := [(11, .int 0), (9, .long 0), (8, .int (-1)), (7, .int (-1)), (5, .long (((g 2 (p0 + 1).toNatClampNeg) - (g 2 p0.toNatClampNeg)).toInt64)), (3, .long (((g 1 (p0 + 1).toNatClampNeg) - (g 1 p0.toNatClampNeg)).toInt64)), (0, .ref (am 0)), (1, .int p0), (2, .int e0)]) hx hb dX5_across_45 hl (by decide) rfl (fun ls hl => ?_)
  refine wloop (D := D) (A := A) (σ := Nat × Int32 × Int32 × Int64 × (Nat → Int64) × (Nat → Int32)) (pc := 47) (nL := 13) (fun z_1 => [(11, .int (nI z_1.1)), (9, .long z_1.2.2.2.1), (8, .int z_1.2.2.1), (7, .int z_1.2.1), (5, .long (((g 2 (p0 + 1).toNatClampNeg) - (g 2 p0.toNatClampNeg)).toInt64)), (3, .long (((g 1 (p0 + 1).toNatClampNeg) - (g 1 p0.toNatClampNeg)).toInt64)), (0, .ref (am 0)), (1, .int p0), (2, .int e0)]) (fun z_1 => MW am cI g y zz z_1.2.2.2.2.1 z_1.2.2.2.2.2 v X) (fun z_1 => z_1.1 ≤ rn (g 100 0) ∧ (z_1.2.2.2.1, z_1.2.1, z_1.2.2.1) = acS g p0 z_1.1) (fun z_1 => rn (g 100 0) - z_1.1) (fun z_1 hIz_1 ihz_1 H locs ls hP hD hS hl => ?_) (0, (-1), (-1), 0, j, f) (⟨Nat.zero_le _, rfl⟩) _ _ _ hP hD hS (lv_sub hl [0, 1, 2, 3, 4, 5, 6, 7, 8] rfl)
  obtain ⟨i, fi, la_, sm, j1, f1⟩ := z_1
  have hP : va_P D vwCl (MW am cI g y zz j1 f1 v X) H := hP
  have hD : va_D A (MW am cI g y zz j1 f1 v X) := hD
  have hl : lv_has ls 13 [(11, .int (nI i)), (9, .long sm), (8, .int la_), (7, .int fi), (5, .long (((g 2 (p0 + 1).toNatClampNeg) - (g 2 p0.toNatClampNeg)).toInt64)), (3, .long (((g 1 (p0 + 1).toNatClampNeg) - (g 1 p0.toNatClampNeg)).toInt64)), (0, .ref (am 0)), (1, .int p0), (2, .int e0)] := hl
  have hIz_1 : i ≤ rn (g 100 0) ∧ (sm, fi, la_) = acS g p0 i := hIz_1
  refine lv_iload hx hb dX5_across_47 (lv_at hl 0 rfl) ?_
  refine lv_aload_n hx hb dX5_across_49 rfl (lv_at hl 6 rfl) ?_
  refine va_get (D := D) (ci := 5) (v := .int (g 100 0)) (C := RX5) (T := TX5) (N := 31) hx hb hts iX5 hown hK hP 0 rfl rfl 7 (by decide) hw3 (fun _ h9 => h9) rfl dX5_across_50 ?_
  refine lv_icmp_ge (tgt := 120) hx hb dX5_across_53 (by decide) (fun c_2 => ?_) (fun c_2 => ?_)
  · have hn9 := nlast (la0 hI) hIz_1.1 c_2
    refine lv_iload hx hb dX5_across_120 (lv_at hl 3 rfl) ?_
    refine lv_iconst (v := (-1)) hx hb dX5_across_122 (by decide) ?_
    refine lv_icmp_eq (tgt := 130) hx hb dX5_across_123 (by decide) (fun c_3 => ?_) (fun c_3 => ?_)
    · refine lv_lload hx hb dX5_across_130 (lv_at hl 1 rfl) ?_
      exact W.lret (v := sm) hx hb hr (fun t ht hW => ⟨⟨sm, (j1, f1), rfl, (by show _ = _; rw [← acV_flV hI hp0, acV, hn9, ← hIz_1.2, if_pos (Or.inl c_3)]), by rw [ht]; exact hP, hD⟩, hS.F ht⟩) hS.2.2 dX5_across_132
    · refine lv_iload_n hx hb dX5_across_126 rfl (lv_at hl 8 rfl) ?_
      refine lv_if_ne (tgt := 133) hx hb dX5_across_127 (by decide) (fun c_4 => ?_) (fun c_4 => ?_)
      · obtain ⟨aa, bb, hA9, hB9, hfA, hlB, hgA, hgB⟩ := ac_g (by omega) hIz_1.2 c_3
        have hcA : isC g fi := by rw [hfA]; exact isC_n hI (by omega)
        have hcB : isC g la_ := by rw [hlB]; exact isC_n hI (by omega)
        have hgA : gdF g p0 fi = 0 := by rw [hfA]; exact hgA
        have hgB : gdF g p0 la_ = 0 := by rw [hlB]; exact hgB
        refine lv_aload_n hx hb dX5_across_133 rfl (lv_at hl 6 rfl) ?_
        refine lv_iload_n hx hb dX5_across_134 rfl (lv_at hl 7 rfl) ?_
        refine lv_iload hx hb dX5_across_135 (lv_at hl 3 rfl) ?_
        refine mcI (wf := fun u : (Nat → Int64) × (Nat → Int32) => MW am cI g y zz u.1 u.2 v X) (va_runV (As := [.int p0, .int fi]) (rest := []) ⟨hx, hb, hml, hown, hts⟩ (kX5_findPace l D cI cO tt am g y zz j1 f1 v X H.size p0 fi hI hM hp0 hcA) (cwV 2 hts gX5_across_X5_findPace rfl rfl rfl (by decide +kernel) ⟨(Nat.le_of_ble_eq_true rfl), (Nat.le_of_ble_eq_true rfl)⟩) (mwV hK hZ hN hP hD hS hA (va_recv hK hP (ci := 5) (q0 := 0) rfl rfl)) rfl rfl hl.1 rfl (lv_room (Nat.le_of_ble_eq_true rfl)) dX5_across_137 ⟨Nat.zero_le _, Nat.zero_le _⟩) hD hS hA (fun ru_5 uu_5 H locs hu_5 hP hD hS => ?_)
        obtain ⟨ju_5, fu_5⟩ := uu_5
        obtain ⟨eru_5, hqu_5⟩ := (show fpP g p0 fi j1 ru_5 ju_5 from hu_5)
        subst eru_5
        have hP : va_P D vwCl (MW am cI g y zz ju_5 fu_5 v X) H := hP
        have hD : va_D A (MW am cI g y zz ju_5 fu_5 v X) := hD
        refine lv_istore (lv' := [(11, .int (bI (oOk g p0 ∧ rLo g 0 (itC g p0 fi) ≤ 1))), (9, .long sm), (8, .int la_), (7, .int fi), (5, .long (((g 2 (p0 + 1).toNatClampNeg) - (g 2 p0.toNatClampNeg)).toInt64)), (3, .long (((g 1 (p0 + 1).toNatClampNeg) - (g 1 p0.toNatClampNeg)).toInt64)), (0, .ref (am 0)), (1, .int p0), (2, .int e0)]) hx hb dX5_across_140 hl (by decide) rfl (fun ls hl => ?_)
        refine lv_lload hx hb dX5_across_142 (lv_at hl 1 rfl) ?_
        refine lv_aload_n hx hb dX5_across_144 rfl (lv_at hl 6 rfl) ?_
        refine va_get (D := D) (ci := 5) (v := .long (ju_5 4)) (C := RX5) (T := TX5) (N := 31) hx hb hts iX5 hown hK hP 0 rfl rfl 26 (by decide) hw4 (fun _ h9 => h9) rfl dX5_across_145 ?_
        refine lv_lload hx hb dX5_across_148 (lv_at hl 4 rfl) ?_
        refine lv_lmul hx hb dX5_across_150 ?_
        refine lv_aload_n hx hb dX5_across_151 rfl (lv_at hl 6 rfl) ?_
        refine va_get (D := D) (ci := 5) (v := .long (ju_5 5)) (C := RX5) (T := TX5) (N := 31) hx hb hts iX5 hown hK hP 0 rfl rfl 27 (by decide) hw5 (fun _ h9 => h9) rfl dX5_across_152 ?_
        refine lv_lload_n hx hb dX5_across_155 rfl (lv_at hl 5 rfl) ?_
        refine lv_lmul hx hb dX5_across_156 ?_
        refine lv_lsub hx hb dX5_across_157 ?_
        refine lv_iload hx hb dX5_across_158 (lv_at hl 3 rfl) ?_
        refine lv_i2l hx hb dX5_across_160 rfl ?_
        refine lv_lmul hx hb dX5_across_161 ?_
        refine lv_ladd hx hb dX5_across_162 ?_
        refine lv_lstore (lv' := [(9, .long (sm + ((((ju_5 4) * (((g 2 (p0 + 1).toNatClampNeg) - (g 2 p0.toNatClampNeg)).toInt64)) - ((ju_5 5) * (((g 1 (p0 + 1).toNatClampNeg) - (g 1 p0.toNatClampNeg)).toInt64))) * fi.toInt64))), (11, .int (bI (oOk g p0 ∧ rLo g 0 (itC g p0 fi) ≤ 1))), (8, .int la_), (7, .int fi), (5, .long (((g 2 (p0 + 1).toNatClampNeg) - (g 2 p0.toNatClampNeg)).toInt64)), (3, .long (((g 1 (p0 + 1).toNatClampNeg) - (g 1 p0.toNatClampNeg)).toInt64)), (0, .ref (am 0)), (1, .int p0), (2, .int e0)]) hx hb dX5_across_163 hl (by decide) rfl (fun ls hl => ?_)
        refine lv_aload_n hx hb dX5_across_165 rfl (lv_at hl 6 rfl) ?_
        refine lv_iload_n hx hb dX5_across_166 rfl (lv_at hl 7 rfl) ?_
        refine lv_iload hx hb dX5_across_167 (lv_at hl 2 rfl) ?_
        refine mcI (wf := fun u : (Nat → Int64) × (Nat → Int32) => MW am cI g y zz u.1 u.2 v X) (va_runV (As := [.int p0, .int la_]) (rest := []) ⟨hx, hb, hml, hown, hts⟩ (kX5_findPace l D cI cO tt am g y zz ju_5 fu_5 v X H.size p0 la_ hI hM hp0 hcB) (cwV 2 hts gX5_across_X5_findPace rfl rfl rfl (by decide +kernel) ⟨(Nat.le_of_ble_eq_true rfl), (Nat.le_of_ble_eq_true rfl)⟩) (mwV hK hZ hN hP hD hS hA (va_recv hK hP (ci := 5) (q0 := 0) rfl rfl)) rfl rfl hl.1 rfl (lv_room (Nat.le_of_ble_eq_true rfl)) dX5_across_169 ⟨Nat.zero_le _, Nat.zero_le _⟩) hD hS hA (fun ru_6 uu_6 H locs hu_6 hP hD hS => ?_)
        obtain ⟨ju_6, fu_6⟩ := uu_6
        obtain ⟨eru_6, hqu_6⟩ := (show fpP g p0 la_ ju_5 ru_6 ju_6 from hu_6)
        subst eru_6
        have hP : va_P D vwCl (MW am cI g y zz ju_6 fu_6 v X) H := hP
        have hD : va_D A (MW am cI g y zz ju_6 fu_6 v X) := hD
        refine lv_istore (lv' := [(11, .int (bI (oOk g p0 ∧ rLo g 0 (itC g p0 la_) ≤ 1))), (9, .long (sm + ((((ju_5 4) * (((g 2 (p0 + 1).toNatClampNeg) - (g 2 p0.toNatClampNeg)).toInt64)) - ((ju_5 5) * (((g 1 (p0 + 1).toNatClampNeg) - (g 1 p0.toNatClampNeg)).toInt64))) * fi.toInt64))), (8, .int la_), (7, .int fi), (5, .long (((g 2 (p0 + 1).toNatClampNeg) - (g 2 p0.toNatClampNeg)).toInt64)), (3, .long (((g 1 (p0 + 1).toNatClampNeg) - (g 1 p0.toNatClampNeg)).toInt64)), (0, .ref (am 0)), (1, .int p0), (2, .int e0)]) hx hb dX5_across_172 hl (by decide) rfl (fun ls hl => ?_)
        refine lv_iload hx hb dX5_across_174 (lv_at hl 2 rfl) ?_
        refine lv_iconst (v := 1) hx hb dX5_across_176 (by decide) ?_
        refine lv_iadd hx hb dX5_across_177 ?_
        refine tpI (y := nI (bb + 1)) (by rw [hlB]; exact nI_1 bb) ?_
        refine lv_istore (lv' := [(12, .int (nI (bb + 1))), (11, .int (bI (oOk g p0 ∧ rLo g 0 (itC g p0 la_) ≤ 1))), (9, .long (sm + ((((ju_5 4) * (((g 2 (p0 + 1).toNatClampNeg) - (g 2 p0.toNatClampNeg)).toInt64)) - ((ju_5 5) * (((g 1 (p0 + 1).toNatClampNeg) - (g 1 p0.toNatClampNeg)).toInt64))) * fi.toInt64))), (8, .int la_), (7, .int fi), (5, .long (((g 2 (p0 + 1).toNatClampNeg) - (g 2 p0.toNatClampNeg)).toInt64)), (3, .long (((g 1 (p0 + 1).toNatClampNeg) - (g 1 p0.toNatClampNeg)).toInt64)), (0, .ref (am 0)), (1, .int p0), (2, .int e0)]) hx hb dX5_across_178 hl (by decide) rfl (fun ls hl => ?_)
        refine wloop (D := D) (A := A) (σ := Nat × Int64) (pc := 180) (nL := 13) (fun z_7 => [(12, .int (nI (bb + 1 + z_7.1))), (9, .long z_7.2), (5, .long (((g 2 (p0 + 1).toNatClampNeg) - (g 2 p0.toNatClampNeg)).toInt64)), (3, .long (((g 1 (p0 + 1).toNatClampNeg) - (g 1 p0.toNatClampNeg)).toInt64)), (0, .ref (am 0)), (1, .int p0)]) (fun z_7 => MW am cI g y zz ju_6 fu_6 v X) (fun z_7 => bb + 1 + z_7.1 ≤ rn (g 100 0) ∧ z_7.2 = (sm + ((((ju_5 4) * (((g 2 (p0 + 1).toNatClampNeg) - (g 2 p0.toNatClampNeg)).toInt64)) - ((ju_5 5) * (((g 1 (p0 + 1).toNatClampNeg) - (g 1 p0.toNatClampNeg)).toInt64))) * fi.toInt64)) + tailS (((ju_6 4) * (((g 2 (p0 + 1).toNatClampNeg) - (g 2 p0.toNatClampNeg)).toInt64)) - ((ju_6 5) * (((g 1 (p0 + 1).toNatClampNeg) - (g 1 p0.toNatClampNeg)).toInt64))) (g 3 p0.toNatClampNeg) bb z_7.1) (fun z_7 => rn (g 100 0) - (bb + 1 + z_7.1)) (fun z_7 hIz_7 ihz_7 H locs ls hP hD hS hl => ?_) (0, sm + ((((ju_5 4) * (((g 2 (p0 + 1).toNatClampNeg) - (g 2 p0.toNatClampNeg)).toInt64)) - ((ju_5 5) * (((g 1 (p0 + 1).toNatClampNeg) - (g 1 p0.toNatClampNeg)).toInt64))) * fi.toInt64)) (⟨by omega, (Int64.add_zero _).symm⟩) _ _ _ hP hD hS (lv_sub hl [0, 2, 5, 6, 7, 8] rfl)
        obtain ⟨k2, s2⟩ := z_7
        have hP : va_P D vwCl (MW am cI g y zz ju_6 fu_6 v X) H := hP
        have hD : va_D A (MW am cI g y zz ju_6 fu_6 v X) := hD
        have hl : lv_has ls 13 [(12, .int (nI (bb + 1 + k2))), (9, .long s2), (5, .long (((g 2 (p0 + 1).toNatClampNeg) - (g 2 p0.toNatClampNeg)).toInt64)), (3, .long (((g 1 (p0 + 1).toNatClampNeg) - (g 1 p0.toNatClampNeg)).toInt64)), (0, .ref (am 0)), (1, .int p0)] := hl
        have hIz_7 : bb + 1 + k2 ≤ rn (g 100 0) ∧ s2 = (sm + ((((ju_5 4) * (((g 2 (p0 + 1).toNatClampNeg) - (g 2 p0.toNatClampNeg)).toInt64)) - ((ju_5 5) * (((g 1 (p0 + 1).toNatClampNeg) - (g 1 p0.toNatClampNeg)).toInt64))) * fi.toInt64)) + tailS (((ju_6 4) * (((g 2 (p0 + 1).toNatClampNeg) - (g 2 p0.toNatClampNeg)).toInt64)) - ((ju_6 5) * (((g 1 (p0 + 1).toNatClampNeg) - (g 1 p0.toNatClampNeg)).toInt64))) (g 3 p0.toNatClampNeg) bb k2 := hIz_7
        refine lv_iload hx hb dX5_across_180 (lv_at hl 0 rfl) ?_
        refine lv_aload_n hx hb dX5_across_182 rfl (lv_at hl 4 rfl) ?_
        refine va_get (D := D) (ci := 5) (v := .int (g 100 0)) (C := RX5) (T := TX5) (N := 31) hx hb hts iX5 hown hK hP 0 rfl rfl 7 (by decide) hw3 (fun _ h9 => h9) rfl dX5_across_183 ?_
        refine lv_icmp_ge (tgt := 229) hx hb dX5_across_186 (by decide) (fun c_8 => ?_) (fun c_8 => ?_)
        · have hk9 := nlast (la0 hI) hIz_7.1 c_8
          refine lv_lload hx hb dX5_across_229 (lv_at hl 1 rfl) ?_
          exact W.lret (v := s2) hx hb hr (fun t ht hW => ⟨⟨s2, (ju_6, fu_6), rfl, (by show _ = _; rw [← acV_flV hI hp0, acV, hn9, ← hIz_1.2, if_neg (fun q => q.elim c_3 c_4), hIz_7.2]; exact ac_end hfA hlB (hqu_5.1 (gd0 hgA)) (hqu_6.1 (gd0 hgB)) (fv_e hp0 hp1) (fv_e hp0 hp1) (by omega)), by rw [ht]; exact hP, hD⟩, hS.F ht⟩) hS.2.2 dX5_across_231
        · have hlt5 : bb + 1 + (k2 + 1) ≤ rn (g 100 0) := by
            have z := laN hI hIz_7.1 c_8
            omega
          refine lv_lload hx hb dX5_across_189 (lv_at hl 1 rfl) ?_
          refine lv_iload hx hb dX5_across_191 (lv_at hl 0 rfl) ?_
          refine lv_aload_n hx hb dX5_across_193 rfl (lv_at hl 4 rfl) ?_
          refine va_get (D := D) (ci := 5) (v := .ref (am 10)) (C := RX5) (T := TX5) (N := 31) hx hb hts iX5 hown hK hP 0 rfl rfl 12 (by decide) hw6 (fun _ h9 => h9) rfl dX5_across_194 ?_
          refine lv_iload_n hx hb dX5_across_197 rfl (lv_at hl 5 rfl) ?_
          refine va_iald hx hb hK hP 10 0 rfl rfl (vin hp0.1 hp0.2 hI.2.1.2 (by decide)) dX5_across_198 ?_
          refine jnL (j := 220) (rest := [.long s2]) (fun z => z = if nI (bb + 1 + k2) < (g 3 p0.toNatClampNeg) then ((ju_6 4) * (((g 2 (p0 + 1).toNatClampNeg) - (g 2 p0.toNatClampNeg)).toInt64)) - ((ju_6 5) * (((g 1 (p0 + 1).toNatClampNeg) - (g 1 p0.toNatClampNeg)).toInt64)) else 0) (fun v_10 hv_10 => ?_) (fun hJ => ?_)
          · subst hv_10
            refine lv_ladd hx hb dX5_across_220 ?_
            refine lv_lstore (lv' := [(9, .long (s2 + (if nI (bb + 1 + k2) < (g 3 p0.toNatClampNeg) then ((ju_6 4) * (((g 2 (p0 + 1).toNatClampNeg) - (g 2 p0.toNatClampNeg)).toInt64)) - ((ju_6 5) * (((g 1 (p0 + 1).toNatClampNeg) - (g 1 p0.toNatClampNeg)).toInt64)) else 0))), (12, .int (nI (bb + 1 + k2))), (5, .long (((g 2 (p0 + 1).toNatClampNeg) - (g 2 p0.toNatClampNeg)).toInt64)), (3, .long (((g 1 (p0 + 1).toNatClampNeg) - (g 1 p0.toNatClampNeg)).toInt64)), (0, .ref (am 0)), (1, .int p0)]) hx hb dX5_across_221 hl (by decide) rfl (fun ls hl => ?_)
            refine lv_iinc (v := nI ((bb + 1 + k2) + 1)) (lv' := [(12, .int (nI ((bb + 1 + k2) + 1))), (9, .long (s2 + (if nI (bb + 1 + k2) < (g 3 p0.toNatClampNeg) then ((ju_6 4) * (((g 2 (p0 + 1).toNatClampNeg) - (g 2 p0.toNatClampNeg)).toInt64)) - ((ju_6 5) * (((g 1 (p0 + 1).toNatClampNeg) - (g 1 p0.toNatClampNeg)).toInt64)) else 0))), (5, .long (((g 2 (p0 + 1).toNatClampNeg) - (g 2 p0.toNatClampNeg)).toInt64)), (3, .long (((g 1 (p0 + 1).toNatClampNeg) - (g 1 p0.toNatClampNeg)).toInt64)), (0, .ref (am 0)), (1, .int p0)]) hx hb dX5_across_223 hl (k := 1) rfl (nI_1 _) (by decide) rfl (fun ls hl => ?_)
            refine lv_goto (tgt := 180) hx hb dX5_across_226 (by decide) ?_
            exact ihz_7 (k2 + 1, s2 + (if nI (bb + 1 + k2) < (g 3 p0.toNatClampNeg) then ((ju_6 4) * (((g 2 (p0 + 1).toNatClampNeg) - (g 2 p0.toNatClampNeg)).toInt64)) - ((ju_6 5) * (((g 1 (p0 + 1).toNatClampNeg) - (g 1 p0.toNatClampNeg)).toInt64)) else 0)) (show bb + 1 + (k2 + 1) ≤ rn (g 100 0) ∧ (s2 + (if nI (bb + 1 + k2) < (g 3 p0.toNatClampNeg) then ((ju_6 4) * (((g 2 (p0 + 1).toNatClampNeg) - (g 2 p0.toNatClampNeg)).toInt64)) - ((ju_6 5) * (((g 1 (p0 + 1).toNatClampNeg) - (g 1 p0.toNatClampNeg)).toInt64)) else 0)) = (sm + ((((ju_5 4) * (((g 2 (p0 + 1).toNatClampNeg) - (g 2 p0.toNatClampNeg)).toInt64)) - ((ju_5 5) * (((g 1 (p0 + 1).toNatClampNeg) - (g 1 p0.toNatClampNeg)).toInt64))) * fi.toInt64)) + tailS (((ju_6 4) * (((g 2 (p0 + 1).toNatClampNeg) - (g 2 p0.toNatClampNeg)).toInt64)) - ((ju_6 5) * (((g 1 (p0 + 1).toNatClampNeg) - (g 1 p0.toNatClampNeg)).toInt64))) (g 3 p0.toNatClampNeg) bb (k2 + 1) from ⟨hlt5, by rw [hIz_7.2, Int64.add_assoc]; rfl⟩) (show rn (g 100 0) - (bb + 1 + (k2 + 1)) < rn (g 100 0) - (bb + 1 + k2) from (by omega)) _ _ _ hP hD hS (lv_sub hl [0, 1, 2, 3, 4, 5] rfl)
          · refine lv_icmp_ge (tgt := 219) hx hb dX5_across_199 (by decide) (fun c_11 => ?_) (fun c_11 => ?_)
            · refine lv_lconst (v := 0) hx hb dX5_across_219 (by decide) ?_
              exact hJ _ (by exact (if_neg (Int32.not_lt.mpr c_11)).symm)
            · refine lv_aload_n hx hb dX5_across_202 rfl (lv_at hl 4 rfl) ?_
              refine va_get (D := D) (ci := 5) (v := .long (ju_6 4)) (C := RX5) (T := TX5) (N := 31) hx hb hts iX5 hown hK hP 0 rfl rfl 26 (by decide) hw4 (fun _ h9 => h9) rfl dX5_across_203 ?_
              refine lv_lload hx hb dX5_across_206 (lv_at hl 2 rfl) ?_
              refine lv_lmul hx hb dX5_across_208 ?_
              refine lv_aload_n hx hb dX5_across_209 rfl (lv_at hl 4 rfl) ?_
              refine va_get (D := D) (ci := 5) (v := .long (ju_6 5)) (C := RX5) (T := TX5) (N := 31) hx hb hts iX5 hown hK hP 0 rfl rfl 27 (by decide) hw5 (fun _ h9 => h9) rfl dX5_across_210 ?_
              refine lv_lload_n hx hb dX5_across_213 rfl (lv_at hl 3 rfl) ?_
              refine lv_lmul hx hb dX5_across_214 ?_
              refine lv_lsub hx hb dX5_across_215 ?_
              refine lv_goto (tgt := 220) hx hb dX5_across_216 (by decide) ?_
              exact hJ _ (by exact (if_pos (Int32.not_le.mp c_11)).symm)
      · refine lv_lload hx hb dX5_across_130 (lv_at hl 1 rfl) ?_
        exact W.lret (v := sm) hx hb hr (fun t ht hW => ⟨⟨sm, (j1, f1), rfl, (by show _ = _; rw [← acV_flV hI hp0, acV, hn9, ← hIz_1.2, if_pos (Or.inr c_4)]), by rw [ht]; exact hP, hD⟩, hS.F ht⟩) hS.2.2 dX5_across_132
  · have hlt := laN hI hIz_1.1 c_2
    refine lv_aload_n hx hb dX5_across_56 rfl (lv_at hl 6 rfl) ?_
    refine lv_iload_n hx hb dX5_across_57 rfl (lv_at hl 7 rfl) ?_
    refine lv_iload hx hb dX5_across_58 (lv_at hl 0 rfl) ?_
    refine mcI (wf := fun u : (Nat → Int64) × (Nat → Int32) => MW am cI g y zz u.1 u.2 v X) (va_runV (As := [.int p0, .int (nI i)]) (rest := []) ⟨hx, hb, hml, hown, hts⟩ (kX5_fateOf l D cI cO tt am g y zz j1 f1 v X H.size p0 (nI i) hI hM hp0 (isC_n hI hlt.1)) (cwV 2 hts gX5_across_X5_fateOf rfl rfl rfl (by decide +kernel) ⟨(Nat.le_of_ble_eq_true rfl), (Nat.le_of_ble_eq_true rfl)⟩) (mwV hK hZ hN hP hD hS hA (va_recv hK hP (ci := 5) (q0 := 0) rfl rfl)) rfl rfl hl.1 rfl (lv_room (Nat.le_of_ble_eq_true rfl)) dX5_across_60 ⟨Nat.zero_le _, Nat.zero_le _⟩) hD hS hA (fun ru_12 uu_12 H locs hu_12 hP hD hS => ?_)
    obtain ⟨ju_12, fu_12⟩ := uu_12
    obtain ⟨eru_12, hqu_12⟩ := hu_12
    have eru_12 : ru_12 = gdF g p0 (nI i) := eru_12
    subst eru_12
    have hqu_12 : ∀ q, 4 ≤ q → ju_12 q = j1 q := hqu_12
    have hP : va_P D vwCl (MW am cI g y zz ju_12 fu_12 v X) H := hP
    have hD : va_D A (MW am cI g y zz ju_12 fu_12 v X) := hD
    refine lv_if_ne (tgt := 114) hx hb dX5_across_63 (by decide) (fun c_13 => ?_) (fun c_13 => ?_)
    · refine lv_iinc (v := nI (i + 1)) (lv' := [(11, .int (nI (i + 1))), (9, .long sm), (8, .int la_), (7, .int fi), (5, .long (((g 2 (p0 + 1).toNatClampNeg) - (g 2 p0.toNatClampNeg)).toInt64)), (3, .long (((g 1 (p0 + 1).toNatClampNeg) - (g 1 p0.toNatClampNeg)).toInt64)), (0, .ref (am 0)), (1, .int p0), (2, .int e0)]) hx hb dX5_across_114 hl (k := 0) rfl (nI_1 _) (by decide) rfl (fun ls hl => ?_)
      refine lv_goto (tgt := 47) hx hb dX5_across_117 (by decide) ?_
      exact ihz_1 (i + 1, fi, la_, sm, ju_12, fu_12) (show (i + 1) ≤ rn (g 100 0) ∧ (sm, fi, la_) = acS g p0 (i + 1) from ⟨hlt.1, ac_no hIz_1.2 c_13⟩) (show rn (g 100 0) - (i + 1) < rn (g 100 0) - i from (Nat.sub_lt_sub_left hlt.1 (Nat.lt_succ_self i))) _ _ _ hP hD hS (lv_sub hl [0, 1, 2, 3, 4, 5, 6, 7, 8] rfl)
    · refine lv_aload_n hx hb dX5_across_66 rfl (lv_at hl 6 rfl) ?_
      refine lv_iload_n hx hb dX5_across_67 rfl (lv_at hl 7 rfl) ?_
      refine lv_iload hx hb dX5_across_68 (lv_at hl 0 rfl) ?_
      refine mcI (wf := fun u : (Nat → Int64) × (Nat → Int32) => MW am cI g y zz u.1 u.2 v X) (va_runV (As := [.int p0, .int (nI i)]) (rest := []) ⟨hx, hb, hml, hown, hts⟩ (kX5_findPace l D cI cO tt am g y zz ju_12 fu_12 v X H.size p0 (nI i) hI hM hp0 (isC_n hI hlt.1)) (cwV 2 hts gX5_across_X5_findPace rfl rfl rfl (by decide +kernel) ⟨(Nat.le_of_ble_eq_true rfl), (Nat.le_of_ble_eq_true rfl)⟩) (mwV hK hZ hN hP hD hS hA (va_recv hK hP (ci := 5) (q0 := 0) rfl rfl)) rfl rfl hl.1 rfl (lv_room (Nat.le_of_ble_eq_true rfl)) dX5_across_70 ⟨Nat.zero_le _, Nat.zero_le _⟩) hD hS hA (fun ru_14 uu_14 H locs hu_14 hP hD hS => ?_)
      obtain ⟨ju_14, fu_14⟩ := uu_14
      obtain ⟨eru_14, hqu_14⟩ := (show fpP g p0 (nI i) ju_12 ru_14 ju_14 from hu_14)
      subst eru_14
      have hP : va_P D vwCl (MW am cI g y zz ju_14 fu_14 v X) H := hP
      have hD : va_D A (MW am cI g y zz ju_14 fu_14 v X) := hD
      refine lv_if_eq (tgt := 114) hx hb dX5_across_73 (by decide) (fun c_15 => ?_) (fun c_15 => ?_)
      · have c_15 := bI_0.mp c_15
        exact absurd (gd0 c_13) c_15
      · have c_15 := bI_n0.mp c_15
        refine lv_lload hx hb dX5_across_76 (lv_at hl 1 rfl) ?_
        refine lv_aload_n hx hb dX5_across_78 rfl (lv_at hl 6 rfl) ?_
        refine va_get (D := D) (ci := 5) (v := .long (ju_14 4)) (C := RX5) (T := TX5) (N := 31) hx hb hts iX5 hown hK hP 0 rfl rfl 26 (by decide) hw4 (fun _ h9 => h9) rfl dX5_across_79 ?_
        refine lv_lload hx hb dX5_across_82 (lv_at hl 4 rfl) ?_
        refine lv_lmul hx hb dX5_across_84 ?_
        refine lv_aload_n hx hb dX5_across_85 rfl (lv_at hl 6 rfl) ?_
        refine va_get (D := D) (ci := 5) (v := .long (ju_14 5)) (C := RX5) (T := TX5) (N := 31) hx hb hts iX5 hown hK hP 0 rfl rfl 27 (by decide) hw5 (fun _ h9 => h9) rfl dX5_across_86 ?_
        refine lv_lload_n hx hb dX5_across_89 rfl (lv_at hl 5 rfl) ?_
        refine lv_lmul hx hb dX5_across_90 ?_
        refine lv_lsub hx hb dX5_across_91 ?_
        refine lv_ladd hx hb dX5_across_92 ?_
        refine lv_lstore (lv' := [(9, .long (sm + (((ju_14 4) * (((g 2 (p0 + 1).toNatClampNeg) - (g 2 p0.toNatClampNeg)).toInt64)) - ((ju_14 5) * (((g 1 (p0 + 1).toNatClampNeg) - (g 1 p0.toNatClampNeg)).toInt64))))), (11, .int (nI i)), (8, .int la_), (7, .int fi), (5, .long (((g 2 (p0 + 1).toNatClampNeg) - (g 2 p0.toNatClampNeg)).toInt64)), (3, .long (((g 1 (p0 + 1).toNatClampNeg) - (g 1 p0.toNatClampNeg)).toInt64)), (0, .ref (am 0)), (1, .int p0), (2, .int e0)]) hx hb dX5_across_93 hl (by decide) rfl (fun ls hl => ?_)
        refine lv_iload hx hb dX5_across_95 (lv_at hl 3 rfl) ?_
        refine lv_iconst (v := (-1)) hx hb dX5_across_97 (by decide) ?_
        refine jnI (j := 108) (rest := []) (fun z => z = if fi = -1 then nI i else fi) (fun v_17 hv_17 => ?_) (fun hJ => ?_)
        · subst hv_17
          refine lv_istore (lv' := [(7, .int (if fi = -1 then nI i else fi)), (9, .long (sm + (((ju_14 4) * (((g 2 (p0 + 1).toNatClampNeg) - (g 2 p0.toNatClampNeg)).toInt64)) - ((ju_14 5) * (((g 1 (p0 + 1).toNatClampNeg) - (g 1 p0.toNatClampNeg)).toInt64))))), (11, .int (nI i)), (8, .int la_), (5, .long (((g 2 (p0 + 1).toNatClampNeg) - (g 2 p0.toNatClampNeg)).toInt64)), (3, .long (((g 1 (p0 + 1).toNatClampNeg) - (g 1 p0.toNatClampNeg)).toInt64)), (0, .ref (am 0)), (1, .int p0), (2, .int e0)]) hx hb dX5_across_108 hl (by decide) rfl (fun ls hl => ?_)
          refine lv_iload hx hb dX5_across_110 (lv_at hl 2 rfl) ?_
          refine lv_istore (lv' := [(8, .int (nI i)), (7, .int (if fi = -1 then nI i else fi)), (9, .long (sm + (((ju_14 4) * (((g 2 (p0 + 1).toNatClampNeg) - (g 2 p0.toNatClampNeg)).toInt64)) - ((ju_14 5) * (((g 1 (p0 + 1).toNatClampNeg) - (g 1 p0.toNatClampNeg)).toInt64))))), (11, .int (nI i)), (5, .long (((g 2 (p0 + 1).toNatClampNeg) - (g 2 p0.toNatClampNeg)).toInt64)), (3, .long (((g 1 (p0 + 1).toNatClampNeg) - (g 1 p0.toNatClampNeg)).toInt64)), (0, .ref (am 0)), (1, .int p0), (2, .int e0)]) hx hb dX5_across_112 hl (by decide) rfl (fun ls hl => ?_)
          refine lv_iinc (v := nI (i + 1)) (lv' := [(11, .int (nI (i + 1))), (8, .int (nI i)), (7, .int (if fi = -1 then nI i else fi)), (9, .long (sm + (((ju_14 4) * (((g 2 (p0 + 1).toNatClampNeg) - (g 2 p0.toNatClampNeg)).toInt64)) - ((ju_14 5) * (((g 1 (p0 + 1).toNatClampNeg) - (g 1 p0.toNatClampNeg)).toInt64))))), (5, .long (((g 2 (p0 + 1).toNatClampNeg) - (g 2 p0.toNatClampNeg)).toInt64)), (3, .long (((g 1 (p0 + 1).toNatClampNeg) - (g 1 p0.toNatClampNeg)).toInt64)), (0, .ref (am 0)), (1, .int p0), (2, .int e0)]) hx hb dX5_across_114 hl (k := 3) rfl (nI_1 _) (by decide) rfl (fun ls hl => ?_)
          refine lv_goto (tgt := 47) hx hb dX5_across_117 (by decide) ?_
          obtain ⟨z4, z5⟩ := hqu_14.1 (gd0 c_13)
          exact ihz_1 (i + 1, if fi = -1 then nI i else fi, nI i, sm + (((ju_14 4) * (((g 2 (p0 + 1).toNatClampNeg) - (g 2 p0.toNatClampNeg)).toInt64)) - ((ju_14 5) * (((g 1 (p0 + 1).toNatClampNeg) - (g 1 p0.toNatClampNeg)).toInt64))), ju_14, fu_14) (show (i + 1) ≤ rn (g 100 0) ∧ ((sm + (((ju_14 4) * (((g 2 (p0 + 1).toNatClampNeg) - (g 2 p0.toNatClampNeg)).toInt64)) - ((ju_14 5) * (((g 1 (p0 + 1).toNatClampNeg) - (g 1 p0.toNatClampNeg)).toInt64)))), (if fi = -1 then nI i else fi), (nI i)) = acS g p0 (i + 1) from ⟨hlt.1, ac_yes hIz_1.2 c_13 z4 z5 (fv_e hp0 hp1)⟩) (show rn (g 100 0) - (i + 1) < rn (g 100 0) - i from (Nat.sub_lt_sub_left hlt.1 (Nat.lt_succ_self i))) _ _ _ hP hD hS (lv_sub hl [0, 3, 1, 2, 4, 5, 6, 7, 8] rfl)
        · refine lv_icmp_ne (tgt := 106) hx hb dX5_across_98 (by decide) (fun c_18 => ?_) (fun c_18 => ?_)
          · refine lv_iload hx hb dX5_across_106 (lv_at hl 3 rfl) ?_
            exact hJ _ (by exact (if_neg c_18).symm)
          · refine lv_iload hx hb dX5_across_101 (lv_at hl 1 rfl) ?_
            refine lv_goto (tgt := 108) hx hb dX5_across_103 (by decide) ?_
            exact hJ _ (by exact (if_pos c_18).symm)
set_option maxHeartbeats 4000000 in
set_option maxRecDepth 100000 in
theorem kX5_flow (l : Launch) (D : va_G) (cI cO : ClassId) (tt : Nat) (am : Nat → Nat) (g : Nat → Nat → Int32) (y : Nat → Int32) (zz : Nat → Int32) (j : Nat → Int64) (f : Nat → Int32) (v : Nat → Int32) (X : va_W) (sz : Nat) (p0 : Int32) (q0 : Int32) (e0 : Int32) (hI : WI g) (hM : RM g y zz) : MmL l yX5_flow wsX5_flow ({ frames := 5, cells := 0, slots := 0, locals := 128 }) D cI cO tt (MW am cI g y zz j f v X) sz [.ref (am 0), .int p0, .int q0, .int e0] (S := (Nat → Nat → Int32) × (Nat → Int32) × (Nat → Int32) × (Nat → Int64) × (Nat → Int32) × (Nat → Int32)) (fun u => MW am cI u.1 u.2.1 u.2.2.1 u.2.2.2.1 u.2.2.2.2.1 u.2.2.2.2.2 X) (fun z u => z = fFlow g p0 q0 e0 ∧ u.1 = g ∧ RM u.1 u.2.1 u.2.2.1) := by
  refine Met.ofW (cc := cX5_flow) (maxL := 7) (ret := (some .long)) (by decide) rfl ?_
  intro p e s m args below meth c s₁ B hml hv
  obtain ⟨rfl, hsz, hP, hK, hD0, hZ, hN⟩ := hv
  have hx := B.exec
  have hb := B.bytes
  have hr := B.returns
  have hts := atoms_spec (ws := wsX5_flow) B.pre
  have hown : s.vm.findClass RX5 = some m.cls := findClass_of_methodNamed B.named
  have hlocks := B.notSynchronized
  subst hsz
  have hD := hD0.self (sz := s.heap.size)
  generalize hAe : va_A (MW am cI g y zz j f v X) s.heap.size = A at hD hZ ⊢
  have hA : ∀ q : Nat, s.heap.size ≤ q → A q := fun q h => by rw [← hAe]; exact Or.inr h
  have hS : va_S A s.heap s.heap [] := va_S.rf
  have hl := lv_entry ([.ref (am 0), .int p0, .int q0, .int e0]) (n := 7) (Nat.le_of_ble_eq_true rfl)
  rw [lg_entry_eq]
  generalize (lg_sl ([.ref (am 0), .int p0, .int q0, .int e0]) ++ List.replicate (7 - (lg_sl ([.ref (am 0), .int p0, .int q0, .int e0])).length) Slot.unset).toArray = ls at hl ⊢
  have hl : lv_has ls 7 [(0, .ref (am 0)), (1, .int p0), (2, .int q0), (3, .int e0)] := hl
  refine lv_aload_n hx hb dX5_flow_0 rfl (lv_at hl 0 rfl) ?_
  refine lv_iload_n hx hb dX5_flow_1 rfl (lv_at hl 1 rfl) ?_
  refine lv_iload_n hx hb dX5_flow_2 rfl (lv_at hl 2 rfl) ?_
  refine pcI (va_runV (As := [.int p0, .int q0]) (rest := []) ⟨hx, hb, hml, hown, hts⟩ (kX5_isRow l D cI cO tt am g y zz j f v X s.heap p0 q0 hI) (cwV 2 hts gX5_flow_X5_isRow rfl rfl rfl (by decide +kernel) ⟨(Nat.le_of_ble_eq_true rfl), (Nat.le_of_ble_eq_true rfl)⟩) (pwV hK hZ hN hP hS (va_recv hK hP (ci := 5) (q0 := 0) rfl rfl)) rfl rfl hl.1 rfl (lv_room (Nat.le_of_ble_eq_true rfl)) dX5_flow_3 ⟨Nat.zero_le _, Nat.zero_le _⟩) hS (fun locs hS => ?_)
  refine lv_if_eq (tgt := 24) hx hb dX5_flow_6 (by decide) (fun c_1 => ?_) (fun c_1 => ?_)
  · have c_1 := bI_0.mp c_1
    refine lv_bipush (v := (-2)) hx hb dX5_flow_24 (by decide) ?_
    refine pcL (va_runS (As := [.int (-2)]) (rest := []) ⟨hx, hb, hml, hown, hts⟩ (kX5_no l D cI cO tt (MW am cI g y zz j f v X) s.heap (-2) ) (va_cwS 1 hts gX5_flow_X5_no rfl rfl rfl (by decide +kernel) ⟨(Nat.le_of_ble_eq_true rfl), (Nat.le_of_ble_eq_true rfl)⟩) (pwS hK hZ hN hP hS) rfl rfl hl.1 rfl (lv_room (Nat.le_of_ble_eq_true rfl)) dX5_flow_26 ⟨Nat.zero_le _, Nat.zero_le _⟩) hS (fun locs hS => ?_)
    exact W.lret (v := (-9223372036854775808) - ((-2) : Int32).toInt64) hx hb hr (fun t ht hW => ⟨⟨(-9223372036854775808) - ((-2) : Int32).toInt64, (g, y, zz, j, f, v), rfl, (by exact ⟨(by grind [fFlow]), rfl, hM⟩), by rw [ht]; exact hP, hD⟩, hS.F ht⟩) hS.2.2 dX5_flow_29
  · have c_1 := bI_n0.mp c_1
    refine lv_iload_n hx hb dX5_flow_9 rfl (lv_at hl 1 rfl) ?_
    refine lv_iload_n hx hb dX5_flow_10 rfl (lv_at hl 2 rfl) ?_
    refine lv_icmp_eq (tgt := 24) hx hb dX5_flow_11 (by decide) (fun c_2 => ?_) (fun c_2 => ?_)
    · refine lv_bipush (v := (-2)) hx hb dX5_flow_24 (by decide) ?_
      refine pcL (va_runS (As := [.int (-2)]) (rest := []) ⟨hx, hb, hml, hown, hts⟩ (kX5_no l D cI cO tt (MW am cI g y zz j f v X) s.heap (-2) ) (va_cwS 1 hts gX5_flow_X5_no rfl rfl rfl (by decide +kernel) ⟨(Nat.le_of_ble_eq_true rfl), (Nat.le_of_ble_eq_true rfl)⟩) (pwS hK hZ hN hP hS) rfl rfl hl.1 rfl (lv_room (Nat.le_of_ble_eq_true rfl)) dX5_flow_26 ⟨Nat.zero_le _, Nat.zero_le _⟩) hS (fun locs hS => ?_)
      exact W.lret (v := (-9223372036854775808) - ((-2) : Int32).toInt64) hx hb hr (fun t ht hW => ⟨⟨(-9223372036854775808) - ((-2) : Int32).toInt64, (g, y, zz, j, f, v), rfl, (by exact ⟨(by grind [fFlow]), rfl, hM⟩), by rw [ht]; exact hP, hD⟩, hS.F ht⟩) hS.2.2 dX5_flow_29
    · refine lv_iload_n hx hb dX5_flow_14 rfl (lv_at hl 3 rfl) ?_
      refine lv_i2l hx hb dX5_flow_15 rfl ?_
      refine lv_lconst (v := 0) hx hb dX5_flow_16 (by decide) ?_
      refine lv_lconst (v := 1) hx hb dX5_flow_17 (by decide) ?_
      refine pcI (va_runS (As := [.long e0.toInt64, .long 0, .long 1]) (rest := []) ⟨hx, hb, hml, hown, hts⟩ (kX5_in l D cI cO tt (MW am cI g y zz j f v X) s.heap e0 (0 : Int32) (1 : Int32) e0.toInt64 0 1 rfl (by decide) (by decide)) (va_cwS 3 hts gX5_flow_X5_in rfl rfl rfl (by decide +kernel) ⟨(Nat.le_of_ble_eq_true rfl), (Nat.le_of_ble_eq_true rfl)⟩) (pwS hK hZ hN hP hS) rfl rfl hl.1 rfl (lv_room (Nat.le_of_ble_eq_true rfl)) dX5_flow_18 ⟨Nat.zero_le _, Nat.zero_le _⟩) hS (fun locs hS => ?_)
      refine lv_if_ne (tgt := 30) hx hb dX5_flow_21 (by decide) (fun c_3 => ?_) (fun c_3 => ?_)
      · have c_3 := bI_n0.mp c_3
        refine lv_lconst (v := 0) hx hb dX5_flow_30 (by decide) ?_
        refine lv_lstore (lv' := [(4, .long 0), (0, .ref (am 0)), (1, .int p0), (2, .int q0), (3, .int e0)]) hx hb dX5_flow_31 hl (by decide) rfl (fun ls hl => ?_)
        refine lv_iload_n hx hb dX5_flow_33 rfl (lv_at hl 2 rfl) ?_
        refine tpI (y := nI (rn p0)) ((p40 hI c_1.1).2.1) ?_
        refine lv_istore (lv' := [(6, .int (nI (rn p0))), (4, .long 0), (0, .ref (am 0)), (1, .int p0), (2, .int q0), (3, .int e0)]) hx hb dX5_flow_34 hl (by decide) rfl (fun ls hl => ?_)
        refine wloop (D := D) (A := A) (σ := Nat × (Nat → Int64) × (Nat → Int32)) (pc := 36) (nL := 7) (fun z_4 => [(6, .int (nI (rn p0 + z_4.1))), (4, .long (sL (fun x9 => flV g (nI (rn p0 + x9)) e0) z_4.1)), (0, .ref (am 0)), (1, .int p0), (2, .int q0), (3, .int e0)]) (fun z_4 => MW am cI g y zz z_4.2.1 z_4.2.2 v X) (fun z_4 => z_4.1 ≤ rn q0 - rn p0) (fun z_4 => rn q0 - rn p0 - z_4.1) (fun z_4 hIz_4 ihz_4 H locs ls hP hD hS hl => ?_) (0, j, f) (Nat.zero_le _) _ _ _ hP hD hS (lv_sub hl [0, 1, 2, 3, 4, 5] rfl)
        obtain ⟨i, j1, f1⟩ := z_4
        have hP : va_P D vwCl (MW am cI g y zz j1 f1 v X) H := hP
        have hD : va_D A (MW am cI g y zz j1 f1 v X) := hD
        have hl : lv_has ls 7 [(6, .int (nI (rn p0 + i))), (4, .long (sL (fun x9 => flV g (nI (rn p0 + x9)) e0) i)), (0, .ref (am 0)), (1, .int p0), (2, .int q0), (3, .int e0)] := hl
        have hIz_4 : i ≤ rn q0 - rn p0 := hIz_4
        refine lv_iload hx hb dX5_flow_36 (lv_at hl 0 rfl) ?_
        refine lv_iload_n hx hb dX5_flow_38 rfl (lv_at hl 4 rfl) ?_
        refine lv_icmp_ge (tgt := 60) hx hb dX5_flow_39 (by decide) (fun c_5 => ?_) (fun c_5 => ?_)
        · refine lv_lload hx hb dX5_flow_60 (lv_at hl 1 rfl) ?_
          exact W.lret (v := sL (fun x9 => flV g (nI (rn p0 + x9)) e0) i) hx hb hr (fun t ht hW => ⟨⟨sL (fun x9 => flV g (nI (rn p0 + x9)) e0) i, (g, y, zz, j1, f1, v), rfl, (by have z := fw_e (p40 hI c_1.2.1).1 (rn_le c_1.1.1 c_1.2.2) hIz_4 (p40 hI c_1.2.1).2.1 c_5; exact ⟨(by rw [fFlow, if_pos ⟨c_1, c_2, c_3⟩, z]), rfl, hM⟩), by rw [ht]; exact hP, hD⟩, hS.F ht⟩) hS.2.2 dX5_flow_62
        · have hlt : i < rn q0 - rn p0 := fw_l (p40 hI c_1.1).1 (p40 hI c_1.2.1).1 (p40 hI c_1.2.1).2.1 hIz_4 c_5
          have hi1 := isP_1 hI (x := rn p0 + i) (by have z := (p40 hI c_1.2.1).2.2; omega)
          refine lv_lload hx hb dX5_flow_42 (lv_at hl 1 rfl) ?_
          refine lv_aload_n hx hb dX5_flow_44 rfl (lv_at hl 2 rfl) ?_
          refine lv_iload hx hb dX5_flow_45 (lv_at hl 0 rfl) ?_
          refine lv_iload_n hx hb dX5_flow_47 rfl (lv_at hl 5 rfl) ?_
          refine mcL (wf := fun u : (Nat → Int64) × (Nat → Int32) => MW am cI g y zz u.1 u.2 v X) (va_runV (As := [.int (nI (rn p0 + i)), .int e0]) (rest := [.long (sL (fun x9 => flV g (nI (rn p0 + x9)) e0) i)]) ⟨hx, hb, hml, hown, hts⟩ (kX5_across l D cI cO tt am g y zz j1 f1 v X H.size (nI (rn p0 + i)) e0 hI hM hi1.1 hi1.2) (cwV 2 hts gX5_flow_X5_across rfl rfl rfl (by decide +kernel) ⟨(Nat.le_of_ble_eq_true rfl), (Nat.le_of_ble_eq_true rfl)⟩) (mwV hK hZ hN hP hD hS hA (va_recv hK hP (ci := 5) (q0 := 0) rfl rfl)) rfl rfl hl.1 rfl (lv_room (Nat.le_of_ble_eq_true rfl)) dX5_flow_48 ⟨Nat.zero_le _, Nat.zero_le _⟩) hD hS hA (fun ru_6 uu_6 H locs hu_6 hP hD hS => ?_)
          obtain ⟨ju_6, fu_6⟩ := uu_6
          have eru_6 : ru_6 = flV g (nI (rn p0 + i)) e0 := hu_6
          subst eru_6
          have hP : va_P D vwCl (MW am cI g y zz ju_6 fu_6 v X) H := hP
          have hD : va_D A (MW am cI g y zz ju_6 fu_6 v X) := hD
          refine lv_ladd hx hb dX5_flow_51 ?_
          refine lv_lstore (lv' := [(4, .long ((sL (fun x9 => flV g (nI (rn p0 + x9)) e0) i) + (flV g (nI (rn p0 + i)) e0))), (6, .int (nI (rn p0 + i))), (0, .ref (am 0)), (1, .int p0), (2, .int q0), (3, .int e0)]) hx hb dX5_flow_52 hl (by decide) rfl (fun ls hl => ?_)
          refine lv_iinc (v := nI ((rn p0 + i) + 1)) (lv' := [(6, .int (nI ((rn p0 + i) + 1))), (4, .long ((sL (fun x9 => flV g (nI (rn p0 + x9)) e0) i) + (flV g (nI (rn p0 + i)) e0))), (0, .ref (am 0)), (1, .int p0), (2, .int q0), (3, .int e0)]) hx hb dX5_flow_54 hl (k := 1) rfl (nI_1 _) (by decide) rfl (fun ls hl => ?_)
          refine lv_goto (tgt := 36) hx hb dX5_flow_57 (by decide) ?_
          exact ihz_4 (i + 1, ju_6, fu_6) (show (i + 1) ≤ rn q0 - rn p0 from hlt) (show rn q0 - rn p0 - (i + 1) < rn q0 - rn p0 - i from (Nat.sub_lt_sub_left hlt (Nat.lt_succ_self i))) _ _ _ hP hD hS (lv_sub hl [0, 1, 2, 3, 4, 5] rfl)
      · have c_3 := bI_0.mp c_3
        refine lv_bipush (v := (-2)) hx hb dX5_flow_24 (by decide) ?_
        refine pcL (va_runS (As := [.int (-2)]) (rest := []) ⟨hx, hb, hml, hown, hts⟩ (kX5_no l D cI cO tt (MW am cI g y zz j f v X) s.heap (-2) ) (va_cwS 1 hts gX5_flow_X5_no rfl rfl rfl (by decide +kernel) ⟨(Nat.le_of_ble_eq_true rfl), (Nat.le_of_ble_eq_true rfl)⟩) (pwS hK hZ hN hP hS) rfl rfl hl.1 rfl (lv_room (Nat.le_of_ble_eq_true rfl)) dX5_flow_26 ⟨Nat.zero_le _, Nat.zero_le _⟩) hS (fun locs hS => ?_)
        exact W.lret (v := (-9223372036854775808) - ((-2) : Int32).toInt64) hx hb hr (fun t ht hW => ⟨⟨(-9223372036854775808) - ((-2) : Int32).toInt64, (g, y, zz, j, f, v), rfl, (by exact ⟨(by grind [fFlow]), rfl, hM⟩), by rw [ht]; exact hP, hD⟩, hS.F ht⟩) hS.2.2 dX5_flow_29
set_option maxHeartbeats 4000000 in
set_option maxRecDepth 100000 in
theorem kX5_askew (l : Launch) (D : va_G) (cI cO : ClassId) (tt : Nat) (am : Nat → Nat) (g : Nat → Nat → Int32) (y : Nat → Int32) (zz : Nat → Int32) (j : Nat → Int64) (f : Nat → Int32) (v : Nat → Int32) (X : va_W) (sz : Nat) (p0 : Int32) (q0 : Int32) (r0 : Int32) (s0 : Int32) (hI : WI g) (hM : RM g y zz) : MmI l yX5_askew wsX5_askew ({ frames := 5, cells := 0, slots := 0, locals := 122 }) D cI cO tt (MW am cI g y zz j f v X) sz [.ref (am 0), .int p0, .int q0, .int r0, .int s0] (S := (Nat → Nat → Int32) × (Nat → Int32) × (Nat → Int32) × (Nat → Int64) × (Nat → Int32) × (Nat → Int32)) (fun u => MW am cI u.1 u.2.1 u.2.2.1 u.2.2.2.1 u.2.2.2.2.1 u.2.2.2.2.2 X) (fun z u => z = fAskew g p0 q0 r0 s0 ∧ u.1 = g ∧ RM u.1 u.2.1 u.2.2.1) := by
  refine Met.ofW (cc := cX5_askew) (maxL := 22) (ret := (some .int)) (by decide) rfl ?_
  intro p e s m args below meth c s₁ B hml hv
  obtain ⟨rfl, hsz, hP, hK, hD0, hZ, hN⟩ := hv
  have hx := B.exec
  have hb := B.bytes
  have hr := B.returns
  have hts := atoms_spec (ws := wsX5_askew) B.pre
  have hown : s.vm.findClass RX5 = some m.cls := findClass_of_methodNamed B.named
  have hlocks := B.notSynchronized
  subst hsz
  have hD := hD0.self (sz := s.heap.size)
  generalize hAe : va_A (MW am cI g y zz j f v X) s.heap.size = A at hD hZ ⊢
  have hA : ∀ q : Nat, s.heap.size ≤ q → A q := fun q h => by rw [← hAe]; exact Or.inr h
  have hS : va_S A s.heap s.heap [] := va_S.rf
  have hl := lv_entry ([.ref (am 0), .int p0, .int q0, .int r0, .int s0]) (n := 22) (Nat.le_of_ble_eq_true rfl)
  rw [lg_entry_eq]
  generalize (lg_sl ([.ref (am 0), .int p0, .int q0, .int r0, .int s0]) ++ List.replicate (22 - (lg_sl ([.ref (am 0), .int p0, .int q0, .int r0, .int s0])).length) Slot.unset).toArray = ls at hl ⊢
  have hl : lv_has ls 22 [(0, .ref (am 0)), (1, .int p0), (2, .int q0), (3, .int r0), (4, .int s0)] := hl
  have hw0 := hts (.fieldLink RX5 28 "LayerSounderModel" "l" "I") (List.mem_cons_of_mem _ (List.mem_append_left _ (List.mem_append_left _ (List.mem_of_getElem? (l := wsX5_askew_r1) (i := 0) rfl))))
  have iX5 : ∀ w ∈ wsX50, w ∈ wsX5_askew := fun _ h => List.mem_cons_of_mem _ (List.mem_append_right _ h)
  have hw2 := hts (.fieldLink RX5 186 "LayerSounderModel" "many" "J") (List.mem_cons_of_mem _ (List.mem_append_left _ (List.mem_append_left _ (List.mem_of_getElem? (l := wsX5_askew_r1) (i := 1) rfl))))
  have hw3 := hts (.fieldLink RX5 133 "LayerSounderModel" "skew" "I") (List.mem_cons_of_mem _ (List.mem_append_left _ (List.mem_append_left _ (List.mem_of_getElem? (l := wsX5_askew_r1) (i := 2) rfl))))
  have hw4 := hts (.fieldLink RX5 189 "LayerSounderModel" "sumX" "J") (List.mem_cons_of_mem _ (List.mem_append_left _ (List.mem_append_left _ (List.mem_of_getElem? (l := wsX5_askew_r1) (i := 3) rfl))))
  have hw5 := hts (.fieldLink RX5 192 "LayerSounderModel" "sumY" "J") (List.mem_cons_of_mem _ (List.mem_append_left _ (List.mem_append_left _ (List.mem_of_getElem? (l := wsX5_askew_r1) (i := 4) rfl))))
  refine lv_aload_n hx hb dX5_askew_0 rfl (lv_at hl 0 rfl) ?_
  refine lv_iload_n hx hb dX5_askew_1 rfl (lv_at hl 1 rfl) ?_
  refine lv_iload_n hx hb dX5_askew_2 rfl (lv_at hl 2 rfl) ?_
  refine pcI (va_runV (As := [.int p0, .int q0]) (rest := []) ⟨hx, hb, hml, hown, hts⟩ (kX5_isRow l D cI cO tt am g y zz j f v X s.heap p0 q0 hI) (cwV 2 hts gX5_askew_X5_isRow rfl rfl rfl (by decide +kernel) ⟨(Nat.le_of_ble_eq_true rfl), (Nat.le_of_ble_eq_true rfl)⟩) (pwV hK hZ hN hP hS (va_recv hK hP (ci := 5) (q0 := 0) rfl rfl)) rfl rfl hl.1 rfl (lv_room (Nat.le_of_ble_eq_true rfl)) dX5_askew_3 ⟨Nat.zero_le _, Nat.zero_le _⟩) hS (fun locs hS => ?_)
  refine lv_if_eq (tgt := 19) hx hb dX5_askew_6 (by decide) (fun c_1 => ?_) (fun c_1 => ?_)
  · have c_1 := bI_0.mp c_1
    refine lv_bipush (v := (-2)) hx hb dX5_askew_19 (by decide) ?_
    exact W.iret (v := (-2)) hx hb hr (fun t ht hW => ⟨⟨(-2), (g, y, zz, j, f, v), rfl, (by exact ⟨(by grind [fAskew]), rfl, hM⟩), by rw [ht]; exact hP, hD⟩, hS.F ht⟩) hS.2.2 dX5_askew_21
  · have c_1 := bI_n0.mp c_1
    refine lv_aload_n hx hb dX5_askew_9 rfl (lv_at hl 0 rfl) ?_
    refine lv_iload_n hx hb dX5_askew_10 rfl (lv_at hl 3 rfl) ?_
    refine lv_iload hx hb dX5_askew_11 (lv_at hl 4 rfl) ?_
    refine pcI (va_runV (As := [.int r0, .int s0]) (rest := []) ⟨hx, hb, hml, hown, hts⟩ (kX5_isRow l D cI cO tt am g y zz j f v X s.heap r0 s0 hI) (cwV 2 hts gX5_askew_X5_isRow rfl rfl rfl (by decide +kernel) ⟨(Nat.le_of_ble_eq_true rfl), (Nat.le_of_ble_eq_true rfl)⟩) (pwV hK hZ hN hP hS (va_recv hK hP (ci := 5) (q0 := 0) rfl rfl)) rfl rfl hl.1 rfl (lv_room (Nat.le_of_ble_eq_true rfl)) dX5_askew_13 ⟨Nat.zero_le _, Nat.zero_le _⟩) hS (fun locs hS => ?_)
    refine lv_if_ne (tgt := 22) hx hb dX5_askew_16 (by decide) (fun c_2 => ?_) (fun c_2 => ?_)
    · have c_2 := bI_n0.mp c_2
      refine lv_aload_n hx hb dX5_askew_22 rfl (lv_at hl 0 rfl) ?_
      refine lv_iload_n hx hb dX5_askew_23 rfl (lv_at hl 1 rfl) ?_
      refine lv_iload_n hx hb dX5_askew_24 rfl (lv_at hl 2 rfl) ?_
      refine lv_iconst (v := 0) hx hb dX5_askew_25 (by decide) ?_
      refine lv_aload_n hx hb dX5_askew_26 rfl (lv_at hl 0 rfl) ?_
      refine va_get (D := D) (ci := 5) (v := .int (g 100 0)) (C := RX5) (T := TX5) (N := 31) hx hb hts iX5 hown hK hP 0 rfl rfl 7 (by decide) hw0 (fun _ h9 => h9) rfl dX5_askew_27 ?_
      refine lv_iconst (v := 1) hx hb dX5_askew_30 (by decide) ?_
      refine lv_isub hx hb dX5_askew_31 ?_
      refine mcV (wf := fun u : (Nat → Int64) × (Nat → Int32) => MW am cI g y zz u.1 u.2 v X) (va_runV (As := [.int p0, .int q0, .int 0, .int ((g 100 0) - 1)]) (rest := []) ⟨hx, hb, hml, hown, hts⟩ (kX5_gather l D cI cO tt am g y zz j f v X s.heap.size p0 q0 0 ((g 100 0) - 1) (rn p0) (rn q0) (rn 0) (rn (g 100 0 - 1)) hI hM ((p40 hI c_1.1).2.1) ((p40 hI c_1.2.1).2.1) rfl ((c16 hI (lac hI)).2.1) (⟨rn_le c_1.1.1 c_1.2.2, (p40 hI c_1.2.1).2.2, Nat.zero_le _, (c16 hI (lac hI)).2.2⟩)) (cwV 4 hts gX5_askew_X5_gather rfl rfl rfl (by decide +kernel) ⟨(Nat.le_of_ble_eq_true rfl), (Nat.le_of_ble_eq_true rfl)⟩) (mwV hK hZ hN hP hD hS hA (va_recv hK hP (ci := 5) (q0 := 0) rfl rfl)) rfl rfl hl.1 rfl (lv_room (Nat.le_of_ble_eq_true rfl)) dX5_askew_32 ⟨Nat.zero_le _, Nat.zero_le _⟩) hD hS hA (fun uu_3 H locs hu_3 hP hD hS => ?_)
      obtain ⟨ju_3, fu_3⟩ := uu_3
      have hu_3 : gsP g (rn p0) (rn 0) ((rn q0) + 1 - (rn p0)) ((rn (g 100 0 - 1)) + 1 - (rn 0)) ju_3 := hu_3
      have hP : va_P D vwCl (MW am cI g y zz ju_3 fu_3 v X) H := hP
      have hD : va_D A (MW am cI g y zz ju_3 fu_3 v X) := hD
      refine lv_aload_n hx hb dX5_askew_35 rfl (lv_at hl 0 rfl) ?_
      refine va_get (D := D) (ci := 5) (v := .long (ju_3 6)) (C := RX5) (T := TX5) (N := 31) hx hb hts iX5 hown hK hP 0 rfl rfl 28 (by decide) hw2 (fun _ h9 => h9) rfl dX5_askew_36 ?_
      refine lv_lstore (lv' := [(5, .long (ju_3 6)), (0, .ref (am 0)), (1, .int p0), (2, .int q0), (3, .int r0), (4, .int s0)]) hx hb dX5_askew_39 hl (by decide) rfl (fun ls hl => ?_)
      refine lv_aload_n hx hb dX5_askew_41 rfl (lv_at hl 1 rfl) ?_
      refine lv_iload_n hx hb dX5_askew_42 rfl (lv_at hl 4 rfl) ?_
      refine lv_iload hx hb dX5_askew_43 (lv_at hl 5 rfl) ?_
      refine lv_iconst (v := 0) hx hb dX5_askew_45 (by decide) ?_
      refine lv_aload_n hx hb dX5_askew_46 rfl (lv_at hl 1 rfl) ?_
      refine va_get (D := D) (ci := 5) (v := .int (g 100 0)) (C := RX5) (T := TX5) (N := 31) hx hb hts iX5 hown hK hP 0 rfl rfl 7 (by decide) hw0 (fun _ h9 => h9) rfl dX5_askew_47 ?_
      refine lv_iconst (v := 1) hx hb dX5_askew_50 (by decide) ?_
      refine lv_isub hx hb dX5_askew_51 ?_
      refine mcV (wf := fun u : (Nat → Int64) × (Nat → Int32) => MW am cI g y zz u.1 u.2 v X) (va_runV (As := [.int r0, .int s0, .int 0, .int ((g 100 0) - 1)]) (rest := []) ⟨hx, hb, hml, hown, hts⟩ (kX5_gather l D cI cO tt am g y zz ju_3 fu_3 v X H.size r0 s0 0 ((g 100 0) - 1) (rn r0) (rn s0) (rn 0) (rn (g 100 0 - 1)) hI hM ((p40 hI c_2.1).2.1) ((p40 hI c_2.2.1).2.1) rfl ((c16 hI (lac hI)).2.1) (⟨rn_le c_2.1.1 c_2.2.2, (p40 hI c_2.2.1).2.2, Nat.zero_le _, (c16 hI (lac hI)).2.2⟩)) (cwV 4 hts gX5_askew_X5_gather rfl rfl rfl (by decide +kernel) ⟨(Nat.le_of_ble_eq_true rfl), (Nat.le_of_ble_eq_true rfl)⟩) (mwV hK hZ hN hP hD hS hA (va_recv hK hP (ci := 5) (q0 := 0) rfl rfl)) rfl rfl hl.1 rfl (lv_room (Nat.le_of_ble_eq_true rfl)) dX5_askew_52 ⟨Nat.zero_le _, Nat.zero_le _⟩) hD hS hA (fun uu_4 H locs hu_4 hP hD hS => ?_)
      obtain ⟨ju_4, fu_4⟩ := uu_4
      have hu_4 : gsP g (rn r0) (rn 0) ((rn s0) + 1 - (rn r0)) ((rn (g 100 0 - 1)) + 1 - (rn 0)) ju_4 := hu_4
      have hP : va_P D vwCl (MW am cI g y zz ju_4 fu_4 v X) H := hP
      have hD : va_D A (MW am cI g y zz ju_4 fu_4 v X) := hD
      refine lv_lload hx hb dX5_askew_55 (lv_at hl 0 rfl) ?_
      refine lv_lconst (v := 0) hx hb dX5_askew_57 (by decide) ?_
      refine W.lcmp hx hb dX5_askew_58 ?_
      refine lv_if_eq (tgt := 71) hx hb dX5_askew_59 (by decide) (fun c_5 => ?_) (fun c_5 => ?_)
      · have c_5 := (lg_cmp_eq _ _).mp c_5
        refine lv_bipush (v := (-3)) hx hb dX5_askew_71 (by decide) ?_
        exact W.iret (v := (-3)) hx hb hr (fun t ht hW => ⟨⟨(-3), (g, y, zz, ju_4, fu_4, v), rfl, (by exact ⟨(by rw [fAskew, if_pos ⟨c_1, c_2⟩, if_pos (Or.inl ((i64_0 _).mp (hu_3.1.symm.trans c_5)))]), rfl, hM⟩), by rw [ht]; exact hP, hD⟩, hS.F ht⟩) hS.2.2 dX5_askew_73
      · have c_5 := fun h => c_5 ((lg_cmp_eq _ _).mpr h)
        refine lv_aload_n hx hb dX5_askew_62 rfl (lv_at hl 1 rfl) ?_
        refine va_get (D := D) (ci := 5) (v := .long (ju_4 6)) (C := RX5) (T := TX5) (N := 31) hx hb hts iX5 hown hK hP 0 rfl rfl 28 (by decide) hw2 (fun _ h9 => h9) rfl dX5_askew_63 ?_
        refine lv_lconst (v := 0) hx hb dX5_askew_66 (by decide) ?_
        refine W.lcmp hx hb dX5_askew_67 ?_
        refine lv_if_ne (tgt := 74) hx hb dX5_askew_68 (by decide) (fun c_6 => ?_) (fun c_6 => ?_)
        · have c_6 := fun h => c_6 ((lg_cmp_eq _ _).mpr h)
          refine lv_aload_n hx hb dX5_askew_74 rfl (lv_at hl 1 rfl) ?_
          refine va_get (D := D) (ci := 5) (v := .int (g 100 2)) (C := RX5) (T := TX5) (N := 31) hx hb hts iX5 hown hK hP 0 rfl rfl 20 (by decide) hw3 (fun _ h9 => h9) rfl dX5_askew_75 ?_
          refine lv_istore (lv' := [(7, .int (g 100 2)), (5, .long (ju_3 6)), (0, .ref (am 0)), (1, .int p0), (2, .int q0), (3, .int r0), (4, .int s0)]) hx hb dX5_askew_78 hl (by decide) rfl (fun ls hl => ?_)
          refine lv_iconst (v := (-1)) hx hb dX5_askew_80 (by decide) ?_
          refine lv_istore (lv' := [(8, .int (-1)), (7, .int (g 100 2)), (5, .long (ju_3 6)), (0, .ref (am 0)), (1, .int p0), (2, .int q0), (3, .int r0), (4, .int s0)]) hx hb dX5_askew_81 hl (by decide) rfl (fun ls hl => ?_)
          refine lv_lconst (v := 0) hx hb dX5_askew_83 (by decide) ?_
          refine lv_lstore (lv' := [(9, .long 0), (8, .int (-1)), (7, .int (g 100 2)), (5, .long (ju_3 6)), (0, .ref (am 0)), (1, .int p0), (2, .int q0), (3, .int r0), (4, .int s0)]) hx hb dX5_askew_84 hl (by decide) rfl (fun ls hl => ?_)
          refine lv_iconst (v := 0) hx hb dX5_askew_86 (by decide) ?_
          refine lv_istore (lv' := [(11, .int 0), (9, .long 0), (8, .int (-1)), (7, .int (g 100 2)), (5, .long (ju_3 6)), (0, .ref (am 0)), (1, .int p0), (2, .int q0), (3, .int r0), (4, .int s0)]) hx hb dX5_askew_87 hl (by decide) rfl (fun ls hl => ?_)
          have hP : va_P D vwCl (MW am cI (up2 g 100 2 (g 100 2)) y zz ju_4 fu_4 v X) H := by rw [up2_id]; exact hP
          have hD : va_D A (MW am cI (up2 g 100 2 (g 100 2)) y zz ju_4 fu_4 v X) := by rw [up2_id]; exact hD
          refine wloop (D := D) (A := A) (σ := Nat × Int32 × Int32 × Int64 × (Nat → Int64) × (Nat → Int32)) (pc := 89) (nL := 22) (fun z_7 => [(11, .int (nI z_7.1)), (9, .long z_7.2.2.2.1), (8, .int z_7.2.2.1), (7, .int (g 100 2)), (5, .long (ju_3 6)), (0, .ref (am 0)), (1, .int p0), (2, .int q0), (3, .int r0), (4, .int s0)]) (fun z_7 => MW am cI (up2 g 100 2 z_7.2.1) y zz z_7.2.2.2.2.1 z_7.2.2.2.2.2 v X) (fun z_7 => z_7.1 ≤ 36 ∧ (z_7.2.2.1, z_7.2.2.2.1) = mkS (gD g (rn p0) (rn q0 + 1 - rn p0) (rn r0) (rn s0 + 1 - rn r0) (rn 0) (rn (g 100 0 - 1) + 1 - rn 0) 0) (gD g (rn p0) (rn q0 + 1 - rn p0) (rn r0) (rn s0 + 1 - rn r0) (rn 0) (rn (g 100 0 - 1) + 1 - rn 0) 1) (gD g (rn p0) (rn q0 + 1 - rn p0) (rn r0) (rn s0 + 1 - rn r0) (rn 0) (rn (g 100 0 - 1) + 1 - rn 0) 2) (gD g (rn p0) (rn q0 + 1 - rn p0) (rn r0) (rn s0 + 1 - rn r0) (rn 0) (rn (g 100 0 - 1) + 1 - rn 0) 3) z_7.1) (fun z_7 => 36 - z_7.1) (fun z_7 hIz_7 ihz_7 H locs ls hP hD hS hl => ?_) (0, g 100 2, (-1), 0, ju_4, fu_4) (⟨Nat.zero_le _, rfl⟩) _ _ _ hP hD hS (lv_sub hl [0, 1, 2, 3, 4, 5, 6, 7, 8, 9] rfl)
          obtain ⟨i, sv, bs, le, j1, f1⟩ := z_7
          have hP : va_P D vwCl (MW am cI (up2 g 100 2 sv) y zz j1 f1 v X) H := hP
          have hD : va_D A (MW am cI (up2 g 100 2 sv) y zz j1 f1 v X) := hD
          have hl : lv_has ls 22 [(11, .int (nI i)), (9, .long le), (8, .int bs), (7, .int (g 100 2)), (5, .long (ju_3 6)), (0, .ref (am 0)), (1, .int p0), (2, .int q0), (3, .int r0), (4, .int s0)] := hl
          have hIz_7 : i ≤ 36 ∧ (bs, le) = mkS (gD g (rn p0) (rn q0 + 1 - rn p0) (rn r0) (rn s0 + 1 - rn r0) (rn 0) (rn (g 100 0 - 1) + 1 - rn 0) 0) (gD g (rn p0) (rn q0 + 1 - rn p0) (rn r0) (rn s0 + 1 - rn r0) (rn 0) (rn (g 100 0 - 1) + 1 - rn 0) 1) (gD g (rn p0) (rn q0 + 1 - rn p0) (rn r0) (rn s0 + 1 - rn r0) (rn 0) (rn (g 100 0 - 1) + 1 - rn 0) 2) (gD g (rn p0) (rn q0 + 1 - rn p0) (rn r0) (rn s0 + 1 - rn r0) (rn 0) (rn (g 100 0 - 1) + 1 - rn 0) 3) i := hIz_7
          refine lv_iload hx hb dX5_askew_89 (lv_at hl 0 rfl) ?_
          refine lv_bipush (v := 36) hx hb dX5_askew_91 (by decide) ?_
          refine lv_icmp_ge (tgt := 226) hx hb dX5_askew_93 (by decide) (fun c_8 => ?_) (fun c_8 => ?_)
          · refine lv_aload_n hx hb dX5_askew_226 rfl (lv_at hl 5 rfl) ?_
            refine lv_iload hx hb dX5_askew_227 (lv_at hl 3 rfl) ?_
            refine va_put (D := D) (ci := 5) (v := .int (g 100 2)) (C := RX5) (T := TX5) (N := 31) hx hb hts iX5 tyX5 tyX5_ok nmX5 hown hK hP hD hS 0 rfl rfl 20 (by decide) hw3 (fun _ h9 => h9) rfl (tyX5_ok 20 (by decide)) rfl rfl (Nat.le_of_ble_eq_true rfl) dX5_askew_229 (fun H locs hP hD hS => ?_)
            have hP : va_P D vwCl (MW am cI (up2 (up2 g 100 2 sv) 100 2 (g 100 2)) y zz j1 f1 v X) H := hP
            have hD : va_D A (MW am cI (up2 (up2 g 100 2 sv) 100 2 (g 100 2)) y zz j1 f1 v X) := hD
            refine lv_iload hx hb dX5_askew_232 (lv_at hl 2 rfl) ?_
            rw [up2_up, up2_id] at hP hD
            exact W.iret (v := bs) hx hb hr (fun t ht hW => ⟨⟨bs, (g, y, zz, j1, f1, v), rfl, (by exact ⟨(by rw [fAskew, if_pos ⟨c_1, c_2⟩, if_neg (fun q => q.elim (fun w => c_5 (hu_3.1.trans ((i64_0 _).mpr w))) (fun w => c_6 (hu_4.1.trans ((i64_0 _).mpr w))))]; have z : 36 ≤ i := (nI_leI (a := 36) (b := i) (by omega) (by omega)).mp c_8; have z2 : i = 36 := (by have := hIz_7.1; omega); have z3 := hIz_7.2; rw [z2] at z3; have z4 := akb hI c_1; have z5 := akb hI c_2; rw [← ak_end hI z4.1 z5.1 z4.2, ← z3]), rfl, hM⟩), by rw [ht]; exact hP, hD⟩, hS.F ht⟩) hS.2.2 dX5_askew_234
          · have hlt : i < 36 := by
              have z : ¬ 36 ≤ i := fun q => c_8 ((nI_leI (a := 36) (b := i) (by omega) (by omega)).mpr q)
              omega
            have hsk : 0 ≤ nI i ∧ nI i < 36 := ⟨nI_pos' (by omega), (nI_ltI (a := i) (b := 36) (by omega) (by omega)).mpr hlt⟩
            refine lv_aload_n hx hb dX5_askew_96 rfl (lv_at hl 5 rfl) ?_
            refine lv_iload hx hb dX5_askew_97 (lv_at hl 0 rfl) ?_
            refine va_put (D := D) (ci := 5) (v := .int (nI i)) (C := RX5) (T := TX5) (N := 31) hx hb hts iX5 tyX5 tyX5_ok nmX5 hown hK hP hD hS 0 rfl rfl 20 (by decide) hw3 (fun _ h9 => h9) rfl (tyX5_ok 20 (by decide)) rfl rfl (Nat.le_of_ble_eq_true rfl) dX5_askew_99 (fun H locs hP hD hS => ?_)
            have hP : va_P D vwCl (MW am cI (up2 (up2 g 100 2 sv) 100 2 (nI i)) y zz j1 f1 v X) H := hP
            have hD : va_D A (MW am cI (up2 (up2 g 100 2 sv) 100 2 (nI i)) y zz j1 f1 v X) := hD
            rw [up2_up] at hP hD
            refine lv_aload_n hx hb dX5_askew_102 rfl (lv_at hl 5 rfl) ?_
            refine lv_iload_n hx hb dX5_askew_103 rfl (lv_at hl 6 rfl) ?_
            refine lv_iload_n hx hb dX5_askew_104 rfl (lv_at hl 7 rfl) ?_
            refine lv_iconst (v := 0) hx hb dX5_askew_105 (by decide) ?_
            refine lv_aload_n hx hb dX5_askew_106 rfl (lv_at hl 5 rfl) ?_
            refine va_get (D := D) (ci := 5) (v := .int (up2 g 100 2 (nI i) 100 0)) (C := RX5) (T := TX5) (N := 31) hx hb hts iX5 hown hK hP 0 rfl rfl 7 (by decide) hw0 (fun _ h9 => h9) rfl dX5_askew_107 ?_
            refine tpI (y := g 100 0) (rfl) ?_
            refine lv_iconst (v := 1) hx hb dX5_askew_110 (by decide) ?_
            refine lv_isub hx hb dX5_askew_111 ?_
            refine mcV (wf := fun u : (Nat → Int64) × (Nat → Int32) => MW am cI (up2 g 100 2 (nI i)) y zz u.1 u.2 v X) (va_runV (As := [.int p0, .int q0, .int 0, .int ((g 100 0) - 1)]) (rest := []) ⟨hx, hb, hml, hown, hts⟩ (kX5_gather l D cI cO tt am (up2 g 100 2 (nI i)) y zz j1 f1 v X H.size p0 q0 0 ((g 100 0) - 1) (rn p0) (rn q0) (rn 0) (rn (g 100 0 - 1)) (WI_sk hI hsk) (RM_u (by omega) hM) ((p40 hI c_1.1).2.1) ((p40 hI c_1.2.1).2.1) rfl ((c16 hI (lac hI)).2.1) (⟨rn_le c_1.1.1 c_1.2.2, (p40 hI c_1.2.1).2.2, Nat.zero_le _, (c16 hI (lac hI)).2.2⟩)) (cwV 4 hts gX5_askew_X5_gather rfl rfl rfl (by decide +kernel) ⟨(Nat.le_of_ble_eq_true rfl), (Nat.le_of_ble_eq_true rfl)⟩) (mwV hK hZ hN hP hD hS hA (va_recv hK hP (ci := 5) (q0 := 0) rfl rfl)) rfl rfl hl.1 rfl (lv_room (Nat.le_of_ble_eq_true rfl)) dX5_askew_112 ⟨Nat.zero_le _, Nat.zero_le _⟩) hD hS hA (fun uu_9 H locs hu_9 hP hD hS => ?_)
            obtain ⟨ju_9, fu_9⟩ := uu_9
            have hu_9 : gsP (up2 g 100 2 (nI i)) (rn p0) (rn 0) ((rn q0) + 1 - (rn p0)) ((rn (g 100 0 - 1)) + 1 - (rn 0)) ju_9 := hu_9
            have hP : va_P D vwCl (MW am cI (up2 g 100 2 (nI i)) y zz ju_9 fu_9 v X) H := hP
            have hD : va_D A (MW am cI (up2 g 100 2 (nI i)) y zz ju_9 fu_9 v X) := hD
            refine lv_aload_n hx hb dX5_askew_115 rfl (lv_at hl 5 rfl) ?_
            refine va_get (D := D) (ci := 5) (v := .long (ju_9 7)) (C := RX5) (T := TX5) (N := 31) hx hb hts iX5 hown hK hP 0 rfl rfl 29 (by decide) hw4 (fun _ h9 => h9) rfl dX5_askew_116 ?_
            refine lv_lstore (lv' := [(12, .long (ju_9 7)), (11, .int (nI i)), (9, .long le), (8, .int bs), (7, .int (g 100 2)), (5, .long (ju_3 6)), (0, .ref (am 0)), (1, .int p0), (2, .int q0), (3, .int r0), (4, .int s0)]) hx hb dX5_askew_119 hl (by decide) rfl (fun ls hl => ?_)
            refine lv_aload_n hx hb dX5_askew_121 rfl (lv_at hl 6 rfl) ?_
            refine va_get (D := D) (ci := 5) (v := .long (ju_9 8)) (C := RX5) (T := TX5) (N := 31) hx hb hts iX5 hown hK hP 0 rfl rfl 30 (by decide) hw5 (fun _ h9 => h9) rfl dX5_askew_122 ?_
            refine lv_lstore (lv' := [(14, .long (ju_9 8)), (12, .long (ju_9 7)), (11, .int (nI i)), (9, .long le), (8, .int bs), (7, .int (g 100 2)), (5, .long (ju_3 6)), (0, .ref (am 0)), (1, .int p0), (2, .int q0), (3, .int r0), (4, .int s0)]) hx hb dX5_askew_125 hl (by decide) rfl (fun ls hl => ?_)
            refine lv_aload_n hx hb dX5_askew_127 rfl (lv_at hl 7 rfl) ?_
            refine lv_iload_n hx hb dX5_askew_128 rfl (lv_at hl 10 rfl) ?_
            refine lv_iload hx hb dX5_askew_129 (lv_at hl 11 rfl) ?_
            refine lv_iconst (v := 0) hx hb dX5_askew_131 (by decide) ?_
            refine lv_aload_n hx hb dX5_askew_132 rfl (lv_at hl 7 rfl) ?_
            refine va_get (D := D) (ci := 5) (v := .int (up2 g 100 2 (nI i) 100 0)) (C := RX5) (T := TX5) (N := 31) hx hb hts iX5 hown hK hP 0 rfl rfl 7 (by decide) hw0 (fun _ h9 => h9) rfl dX5_askew_133 ?_
            refine tpI (y := g 100 0) (rfl) ?_
            refine lv_iconst (v := 1) hx hb dX5_askew_136 (by decide) ?_
            refine lv_isub hx hb dX5_askew_137 ?_
            refine mcV (wf := fun u : (Nat → Int64) × (Nat → Int32) => MW am cI (up2 g 100 2 (nI i)) y zz u.1 u.2 v X) (va_runV (As := [.int r0, .int s0, .int 0, .int ((g 100 0) - 1)]) (rest := []) ⟨hx, hb, hml, hown, hts⟩ (kX5_gather l D cI cO tt am (up2 g 100 2 (nI i)) y zz ju_9 fu_9 v X H.size r0 s0 0 ((g 100 0) - 1) (rn r0) (rn s0) (rn 0) (rn (g 100 0 - 1)) (WI_sk hI hsk) (RM_u (by omega) hM) ((p40 hI c_2.1).2.1) ((p40 hI c_2.2.1).2.1) rfl ((c16 hI (lac hI)).2.1) (⟨rn_le c_2.1.1 c_2.2.2, (p40 hI c_2.2.1).2.2, Nat.zero_le _, (c16 hI (lac hI)).2.2⟩)) (cwV 4 hts gX5_askew_X5_gather rfl rfl rfl (by decide +kernel) ⟨(Nat.le_of_ble_eq_true rfl), (Nat.le_of_ble_eq_true rfl)⟩) (mwV hK hZ hN hP hD hS hA (va_recv hK hP (ci := 5) (q0 := 0) rfl rfl)) rfl rfl hl.1 rfl (lv_room (Nat.le_of_ble_eq_true rfl)) dX5_askew_138 ⟨Nat.zero_le _, Nat.zero_le _⟩) hD hS hA (fun uu_10 H locs hu_10 hP hD hS => ?_)
            obtain ⟨ju_10, fu_10⟩ := uu_10
            have hu_10 : gsP (up2 g 100 2 (nI i)) (rn r0) (rn 0) ((rn s0) + 1 - (rn r0)) ((rn (g 100 0 - 1)) + 1 - (rn 0)) ju_10 := hu_10
            have hP : va_P D vwCl (MW am cI (up2 g 100 2 (nI i)) y zz ju_10 fu_10 v X) H := hP
            have hD : va_D A (MW am cI (up2 g 100 2 (nI i)) y zz ju_10 fu_10 v X) := hD
            refine lv_lload hx hb dX5_askew_141 (lv_at hl 1 rfl) ?_
            refine lv_aload_n hx hb dX5_askew_143 rfl (lv_at hl 7 rfl) ?_
            refine va_get (D := D) (ci := 5) (v := .long (ju_10 6)) (C := RX5) (T := TX5) (N := 31) hx hb hts iX5 hown hK hP 0 rfl rfl 28 (by decide) hw2 (fun _ h9 => h9) rfl dX5_askew_144 ?_
            refine lv_lmul hx hb dX5_askew_147 ?_
            refine lv_aload_n hx hb dX5_askew_148 rfl (lv_at hl 7 rfl) ?_
            refine va_get (D := D) (ci := 5) (v := .long (ju_10 7)) (C := RX5) (T := TX5) (N := 31) hx hb hts iX5 hown hK hP 0 rfl rfl 29 (by decide) hw4 (fun _ h9 => h9) rfl dX5_askew_149 ?_
            refine lv_lload hx hb dX5_askew_152 (lv_at hl 6 rfl) ?_
            refine lv_lmul hx hb dX5_askew_154 ?_
            refine lv_lsub hx hb dX5_askew_155 ?_
            refine pcL (va_runS (As := [.long (((ju_9 7) * (ju_10 6)) - ((ju_10 7) * (ju_3 6)))]) (rest := []) ⟨hx, hb, hml, hown, hts⟩ (kX5_amount l D cI cO tt (MW am cI (up2 g 100 2 (nI i)) y zz ju_10 fu_10 v X) H (((ju_9 7) * (ju_10 6)) - ((ju_10 7) * (ju_3 6))) ) (va_cwS 1 hts gX5_askew_X5_amount rfl rfl rfl (by decide +kernel) ⟨(Nat.le_of_ble_eq_true rfl), (Nat.le_of_ble_eq_true rfl)⟩) (pwS hK hZ hN hP hS) rfl rfl hl.1 rfl (lv_room (Nat.le_of_ble_eq_true rfl)) dX5_askew_156 ⟨Nat.zero_le _, Nat.zero_le _⟩) hS (fun locs hS => ?_)
            refine lv_lstore (lv' := [(16, .long (amt (((ju_9 7) * (ju_10 6)) - ((ju_10 7) * (ju_3 6))))), (14, .long (ju_9 8)), (12, .long (ju_9 7)), (11, .int (nI i)), (9, .long le), (8, .int bs), (7, .int (g 100 2)), (5, .long (ju_3 6)), (0, .ref (am 0)), (1, .int p0), (2, .int q0), (3, .int r0), (4, .int s0)]) hx hb dX5_askew_159 hl (by decide) rfl (fun ls hl => ?_)
            refine lv_lload hx hb dX5_askew_161 (lv_at hl 1 rfl) ?_
            refine lv_aload_n hx hb dX5_askew_163 rfl (lv_at hl 8 rfl) ?_
            refine va_get (D := D) (ci := 5) (v := .long (ju_10 6)) (C := RX5) (T := TX5) (N := 31) hx hb hts iX5 hown hK hP 0 rfl rfl 28 (by decide) hw2 (fun _ h9 => h9) rfl dX5_askew_164 ?_
            refine lv_lmul hx hb dX5_askew_167 ?_
            refine lv_aload_n hx hb dX5_askew_168 rfl (lv_at hl 8 rfl) ?_
            refine va_get (D := D) (ci := 5) (v := .long (ju_10 8)) (C := RX5) (T := TX5) (N := 31) hx hb hts iX5 hown hK hP 0 rfl rfl 30 (by decide) hw5 (fun _ h9 => h9) rfl dX5_askew_169 ?_
            refine lv_lload hx hb dX5_askew_172 (lv_at hl 7 rfl) ?_
            refine lv_lmul hx hb dX5_askew_174 ?_
            refine lv_lsub hx hb dX5_askew_175 ?_
            refine pcL (va_runS (As := [.long (((ju_9 8) * (ju_10 6)) - ((ju_10 8) * (ju_3 6)))]) (rest := []) ⟨hx, hb, hml, hown, hts⟩ (kX5_amount l D cI cO tt (MW am cI (up2 g 100 2 (nI i)) y zz ju_10 fu_10 v X) H (((ju_9 8) * (ju_10 6)) - ((ju_10 8) * (ju_3 6))) ) (va_cwS 1 hts gX5_askew_X5_amount rfl rfl rfl (by decide +kernel) ⟨(Nat.le_of_ble_eq_true rfl), (Nat.le_of_ble_eq_true rfl)⟩) (pwS hK hZ hN hP hS) rfl rfl hl.1 rfl (lv_room (Nat.le_of_ble_eq_true rfl)) dX5_askew_176 ⟨Nat.zero_le _, Nat.zero_le _⟩) hS (fun locs hS => ?_)
            refine lv_lstore (lv' := [(18, .long (amt (((ju_9 8) * (ju_10 6)) - ((ju_10 8) * (ju_3 6))))), (16, .long (amt (((ju_9 7) * (ju_10 6)) - ((ju_10 7) * (ju_3 6))))), (14, .long (ju_9 8)), (12, .long (ju_9 7)), (11, .int (nI i)), (9, .long le), (8, .int bs), (7, .int (g 100 2)), (5, .long (ju_3 6)), (0, .ref (am 0)), (1, .int p0), (2, .int q0), (3, .int r0), (4, .int s0)]) hx hb dX5_askew_179 hl (by decide) rfl (fun ls hl => ?_)
            refine lv_lload hx hb dX5_askew_181 (lv_at hl 1 rfl) ?_
            refine lv_lload hx hb dX5_askew_183 (lv_at hl 0 rfl) ?_
            refine W.lcmp hx hb dX5_askew_185 ?_
            refine jnL (j := 196) (rest := []) (fun z => z = if amt (((ju_9 7) * (ju_10 6)) - ((ju_10 7) * (ju_3 6))) ≤ amt (((ju_9 8) * (ju_10 6)) - ((ju_10 8) * (ju_3 6))) then amt (((ju_9 8) * (ju_10 6)) - ((ju_10 8) * (ju_3 6))) else amt (((ju_9 7) * (ju_10 6)) - ((ju_10 7) * (ju_3 6)))) (fun v_12 hv_12 => ?_) (fun hJ => ?_)
            · refine lv_lstore (lv' := [(20, .long v_12), (18, .long (amt (((ju_9 8) * (ju_10 6)) - ((ju_10 8) * (ju_3 6))))), (16, .long (amt (((ju_9 7) * (ju_10 6)) - ((ju_10 7) * (ju_3 6))))), (14, .long (ju_9 8)), (12, .long (ju_9 7)), (11, .int (nI i)), (9, .long le), (8, .int bs), (7, .int (g 100 2)), (5, .long (ju_3 6)), (0, .ref (am 0)), (1, .int p0), (2, .int q0), (3, .int r0), (4, .int s0)]) hx hb dX5_askew_196 hl (by decide) rfl (fun ls hl => ?_)
              refine lv_iload hx hb dX5_askew_198 (lv_at hl 7 rfl) ?_
              refine lv_iconst (v := (-1)) hx hb dX5_askew_200 (by decide) ?_
              refine lv_icmp_eq (tgt := 212) hx hb dX5_askew_201 (by decide) (fun c_13 => ?_) (fun c_13 => ?_)
              · refine lv_iload hx hb dX5_askew_212 (lv_at hl 5 rfl) ?_
                refine lv_istore (lv' := [(8, .int (nI i)), (20, .long v_12), (18, .long (amt (((ju_9 8) * (ju_10 6)) - ((ju_10 8) * (ju_3 6))))), (16, .long (amt (((ju_9 7) * (ju_10 6)) - ((ju_10 7) * (ju_3 6))))), (14, .long (ju_9 8)), (12, .long (ju_9 7)), (11, .int (nI i)), (9, .long le), (7, .int (g 100 2)), (5, .long (ju_3 6)), (0, .ref (am 0)), (1, .int p0), (2, .int q0), (3, .int r0), (4, .int s0)]) hx hb dX5_askew_214 hl (by decide) rfl (fun ls hl => ?_)
                refine lv_lload hx hb dX5_askew_216 (lv_at hl 1 rfl) ?_
                refine lv_lstore (lv' := [(9, .long v_12), (8, .int (nI i)), (20, .long v_12), (18, .long (amt (((ju_9 8) * (ju_10 6)) - ((ju_10 8) * (ju_3 6))))), (16, .long (amt (((ju_9 7) * (ju_10 6)) - ((ju_10 7) * (ju_3 6))))), (14, .long (ju_9 8)), (12, .long (ju_9 7)), (11, .int (nI i)), (7, .int (g 100 2)), (5, .long (ju_3 6)), (0, .ref (am 0)), (1, .int p0), (2, .int q0), (3, .int r0), (4, .int s0)]) hx hb dX5_askew_218 hl (by decide) rfl (fun ls hl => ?_)
                refine lv_iinc (v := nI (i + 1)) (lv' := [(11, .int (nI (i + 1))), (9, .long v_12), (8, .int (nI i)), (20, .long v_12), (18, .long (amt (((ju_9 8) * (ju_10 6)) - ((ju_10 8) * (ju_3 6))))), (16, .long (amt (((ju_9 7) * (ju_10 6)) - ((ju_10 7) * (ju_3 6))))), (14, .long (ju_9 8)), (12, .long (ju_9 7)), (7, .int (g 100 2)), (5, .long (ju_3 6)), (0, .ref (am 0)), (1, .int p0), (2, .int q0), (3, .int r0), (4, .int s0)]) hx hb dX5_askew_220 hl (k := 7) rfl (nI_1 _) (by decide) rfl (fun ls hl => ?_)
                refine lv_goto (tgt := 89) hx hb dX5_askew_223 (by decide) ?_
                exact ihz_7 (i + 1, nI i, nI i, v_12, ju_10, fu_10) (show (i + 1) ≤ 36 ∧ ((nI i), v_12) = mkS (gD g (rn p0) (rn q0 + 1 - rn p0) (rn r0) (rn s0 + 1 - rn r0) (rn 0) (rn (g 100 0 - 1) + 1 - rn 0) 0) (gD g (rn p0) (rn q0 + 1 - rn p0) (rn r0) (rn s0 + 1 - rn r0) (rn 0) (rn (g 100 0 - 1) + 1 - rn 0) 1) (gD g (rn p0) (rn q0 + 1 - rn p0) (rn r0) (rn s0 + 1 - rn r0) (rn 0) (rn (g 100 0 - 1) + 1 - rn 0) 2) (gD g (rn p0) (rn q0 + 1 - rn p0) (rn r0) (rn s0 + 1 - rn r0) (rn 0) (rn (g 100 0 - 1) + 1 - rn 0) 3) (i + 1) from ⟨by omega, mk_yes hIz_7.2 (hv_12.trans (ms_e (ak_x hu_9 hu_10 hu_3.1).1 (ak_x hu_9 hu_10 hu_3.1).2)) (Or.inl c_13)⟩) (show 36 - (i + 1) < 36 - i from (by omega)) _ _ _ hP hD hS (lv_sub hl [0, 1, 2, 8, 9, 10, 11, 12, 13, 14] rfl)
              · refine lv_lload hx hb dX5_askew_204 (lv_at hl 0 rfl) ?_
                refine lv_lload hx hb dX5_askew_206 (lv_at hl 6 rfl) ?_
                refine W.lcmp hx hb dX5_askew_208 ?_
                refine lv_if_ge (tgt := 220) hx hb dX5_askew_209 (by decide) (fun c_14 => ?_) (fun c_14 => ?_)
                · have c_14 := (lg_cmp_ge _ _).mp c_14
                  refine lv_iinc (v := nI (i + 1)) (lv' := [(11, .int (nI (i + 1))), (20, .long v_12), (18, .long (amt (((ju_9 8) * (ju_10 6)) - ((ju_10 8) * (ju_3 6))))), (16, .long (amt (((ju_9 7) * (ju_10 6)) - ((ju_10 7) * (ju_3 6))))), (14, .long (ju_9 8)), (12, .long (ju_9 7)), (9, .long le), (8, .int bs), (7, .int (g 100 2)), (5, .long (ju_3 6)), (0, .ref (am 0)), (1, .int p0), (2, .int q0), (3, .int r0), (4, .int s0)]) hx hb dX5_askew_220 hl (k := 5) rfl (nI_1 _) (by decide) rfl (fun ls hl => ?_)
                  refine lv_goto (tgt := 89) hx hb dX5_askew_223 (by decide) ?_
                  exact ihz_7 (i + 1, nI i, bs, le, ju_10, fu_10) (show (i + 1) ≤ 36 ∧ (bs, le) = mkS (gD g (rn p0) (rn q0 + 1 - rn p0) (rn r0) (rn s0 + 1 - rn r0) (rn 0) (rn (g 100 0 - 1) + 1 - rn 0) 0) (gD g (rn p0) (rn q0 + 1 - rn p0) (rn r0) (rn s0 + 1 - rn r0) (rn 0) (rn (g 100 0 - 1) + 1 - rn 0) 1) (gD g (rn p0) (rn q0 + 1 - rn p0) (rn r0) (rn s0 + 1 - rn r0) (rn 0) (rn (g 100 0 - 1) + 1 - rn 0) 2) (gD g (rn p0) (rn q0 + 1 - rn p0) (rn r0) (rn s0 + 1 - rn r0) (rn 0) (rn (g 100 0 - 1) + 1 - rn 0) 3) (i + 1) from ⟨by omega, mk_no hIz_7.2 (hv_12.trans (ms_e (ak_x hu_9 hu_10 hu_3.1).1 (ak_x hu_9 hu_10 hu_3.1).2)) c_13 c_14⟩) (show 36 - (i + 1) < 36 - i from (by omega)) _ _ _ hP hD hS (lv_sub hl [0, 6, 7, 8, 9, 10, 11, 12, 13, 14] rfl)
                · have c_14 := fun h => c_14 ((lg_cmp_ge _ _).mpr h)
                  refine lv_iload hx hb dX5_askew_212 (lv_at hl 5 rfl) ?_
                  refine lv_istore (lv' := [(8, .int (nI i)), (20, .long v_12), (18, .long (amt (((ju_9 8) * (ju_10 6)) - ((ju_10 8) * (ju_3 6))))), (16, .long (amt (((ju_9 7) * (ju_10 6)) - ((ju_10 7) * (ju_3 6))))), (14, .long (ju_9 8)), (12, .long (ju_9 7)), (11, .int (nI i)), (9, .long le), (7, .int (g 100 2)), (5, .long (ju_3 6)), (0, .ref (am 0)), (1, .int p0), (2, .int q0), (3, .int r0), (4, .int s0)]) hx hb dX5_askew_214 hl (by decide) rfl (fun ls hl => ?_)
                  refine lv_lload hx hb dX5_askew_216 (lv_at hl 1 rfl) ?_
                  refine lv_lstore (lv' := [(9, .long v_12), (8, .int (nI i)), (20, .long v_12), (18, .long (amt (((ju_9 8) * (ju_10 6)) - ((ju_10 8) * (ju_3 6))))), (16, .long (amt (((ju_9 7) * (ju_10 6)) - ((ju_10 7) * (ju_3 6))))), (14, .long (ju_9 8)), (12, .long (ju_9 7)), (11, .int (nI i)), (7, .int (g 100 2)), (5, .long (ju_3 6)), (0, .ref (am 0)), (1, .int p0), (2, .int q0), (3, .int r0), (4, .int s0)]) hx hb dX5_askew_218 hl (by decide) rfl (fun ls hl => ?_)
                  refine lv_iinc (v := nI (i + 1)) (lv' := [(11, .int (nI (i + 1))), (9, .long v_12), (8, .int (nI i)), (20, .long v_12), (18, .long (amt (((ju_9 8) * (ju_10 6)) - ((ju_10 8) * (ju_3 6))))), (16, .long (amt (((ju_9 7) * (ju_10 6)) - ((ju_10 7) * (ju_3 6))))), (14, .long (ju_9 8)), (12, .long (ju_9 7)), (7, .int (g 100 2)), (5, .long (ju_3 6)), (0, .ref (am 0)), (1, .int p0), (2, .int q0), (3, .int r0), (4, .int s0)]) hx hb dX5_askew_220 hl (k := 7) rfl (nI_1 _) (by decide) rfl (fun ls hl => ?_)
                  refine lv_goto (tgt := 89) hx hb dX5_askew_223 (by decide) ?_
                  exact ihz_7 (i + 1, nI i, nI i, v_12, ju_10, fu_10) (show (i + 1) ≤ 36 ∧ ((nI i), v_12) = mkS (gD g (rn p0) (rn q0 + 1 - rn p0) (rn r0) (rn s0 + 1 - rn r0) (rn 0) (rn (g 100 0 - 1) + 1 - rn 0) 0) (gD g (rn p0) (rn q0 + 1 - rn p0) (rn r0) (rn s0 + 1 - rn r0) (rn 0) (rn (g 100 0 - 1) + 1 - rn 0) 1) (gD g (rn p0) (rn q0 + 1 - rn p0) (rn r0) (rn s0 + 1 - rn r0) (rn 0) (rn (g 100 0 - 1) + 1 - rn 0) 2) (gD g (rn p0) (rn q0 + 1 - rn p0) (rn r0) (rn s0 + 1 - rn r0) (rn 0) (rn (g 100 0 - 1) + 1 - rn 0) 3) (i + 1) from ⟨by omega, mk_yes hIz_7.2 (hv_12.trans (ms_e (ak_x hu_9 hu_10 hu_3.1).1 (ak_x hu_9 hu_10 hu_3.1).2)) (Or.inr (Int64.not_le.mp c_14))⟩) (show 36 - (i + 1) < 36 - i from (by omega)) _ _ _ hP hD hS (lv_sub hl [0, 1, 2, 8, 9, 10, 11, 12, 13, 14] rfl)
            · refine lv_if_le (tgt := 194) hx hb dX5_askew_186 (by decide) (fun c_15 => ?_) (fun c_15 => ?_)
              · have c_15 := (lg_cmp_le _ _).mp c_15
                refine lv_lload hx hb dX5_askew_194 (lv_at hl 0 rfl) ?_
                exact hJ _ (by exact (if_pos c_15).symm)
              · have c_15 := fun h => c_15 ((lg_cmp_le _ _).mpr h)
                refine lv_lload hx hb dX5_askew_189 (lv_at hl 1 rfl) ?_
                refine lv_goto (tgt := 196) hx hb dX5_askew_191 (by decide) ?_
                exact hJ _ (by exact (if_neg c_15).symm)
        · have c_6 := (lg_cmp_eq _ _).mp c_6
          refine lv_bipush (v := (-3)) hx hb dX5_askew_71 (by decide) ?_
          exact W.iret (v := (-3)) hx hb hr (fun t ht hW => ⟨⟨(-3), (g, y, zz, ju_4, fu_4, v), rfl, (by exact ⟨(by rw [fAskew, if_pos ⟨c_1, c_2⟩, if_pos (Or.inr ((i64_0 _).mp (hu_4.1.symm.trans c_6)))]), rfl, hM⟩), by rw [ht]; exact hP, hD⟩, hS.F ht⟩) hS.2.2 dX5_askew_73
    · have c_2 := bI_0.mp c_2
      refine lv_bipush (v := (-2)) hx hb dX5_askew_19 (by decide) ?_
      exact W.iret (v := (-2)) hx hb hr (fun t ht hW => ⟨⟨(-2), (g, y, zz, j, f, v), rfl, (by exact ⟨(by grind [fAskew]), rfl, hM⟩), by rw [ht]; exact hP, hD⟩, hS.F ht⟩) hS.2.2 dX5_askew_21
