set_option maxHeartbeats 4000000 in
set_option maxRecDepth 100000 in
theorem kX5_findOwn (l : Launch) (D : va_G) (cI cO : ClassId) (tt : Nat) (am : Nat → Nat) (g : Nat → Nat → Int32) (y : Nat → Int32) (zz : Nat → Int32) (j : Nat → Int64) (f : Nat → Int32) (v : Nat → Int32) (X : va_W) (sz : Nat) (p0 : Int32) (hI : WI g) (hM : RM g y zz) (hp0 : isP g p0) : MmI l yX5_findOwn wsX5_findOwn ({ frames := 2, cells := 0, slots := 0, locals := 53 }) D cI cO tt (MW am cI g y zz j f v X) sz [.ref (am 0), .int p0] (S := (Nat → Int64) × (Nat → Int32)) (fun u => MW am cI g y zz u.1 u.2 v X) (fun z u => moP g p0 j z u.1) := by
  refine Met.ofW (cc := cX5_findOwn) (maxL := 2) (ret := (some .boolean)) (by decide) rfl ?_
  intro p e s m args below meth c s₁ B hml hv
  obtain ⟨rfl, hsz, hP, hK, hD0, hZ, hN⟩ := hv
  have hx := B.exec
  have hb := B.bytes
  have hr := B.returns
  have hts := atoms_spec (ws := wsX5_findOwn) B.pre
  have hown : s.vm.findClass RX5 = some m.cls := findClass_of_methodNamed B.named
  have hlocks := B.notSynchronized
  subst hsz
  have hD := hD0.self (sz := s.heap.size)
  generalize hAe : va_A (MW am cI g y zz j f v X) s.heap.size = A at hD hZ ⊢
  have hA : ∀ q : Nat, s.heap.size ≤ q → A q := fun q h => by rw [← hAe]; exact Or.inr h
  have hS : va_S A s.heap s.heap [] := va_S.rf
  have hl := lv_entry ([.ref (am 0), .int p0]) (n := 2) (Nat.le_of_ble_eq_true rfl)
  rw [lg_entry_eq]
  generalize (lg_sl ([.ref (am 0), .int p0]) ++ List.replicate (2 - (lg_sl ([.ref (am 0), .int p0])).length) Slot.unset).toArray = ls at hl ⊢
  have hl : lv_has ls 2 [(0, .ref (am 0)), (1, .int p0)] := hl
  have hw0 := hts (.fieldLink RX5 141 "LayerSounderModel" "ownX" "J") (List.mem_cons_of_mem _ (List.mem_append_left _ (List.mem_append_left _ (List.mem_of_getElem? (l := wsX5_findOwn_r1) (i := 0) rfl))))
  have iX5 : ∀ w ∈ wsX50, w ∈ wsX5_findOwn := fun _ h => List.mem_cons_of_mem _ (List.mem_append_right _ h)
  have hw2 := hts (.fieldLink RX5 144 "LayerSounderModel" "ownY" "J") (List.mem_cons_of_mem _ (List.mem_append_left _ (List.mem_append_left _ (List.mem_of_getElem? (l := wsX5_findOwn_r1) (i := 1) rfl))))
  have hw3 := hts (.fieldLink RX5 130 "LayerSounderModel" "motion" "I") (List.mem_cons_of_mem _ (List.mem_append_left _ (List.mem_append_left _ (List.mem_of_getElem? (l := wsX5_findOwn_r1) (i := 2) rfl))))
  have hw4 := hts (.fieldLink RX5 82 "LayerSounderModel" "pings" "I") (List.mem_cons_of_mem _ (List.mem_append_left _ (List.mem_append_left _ (List.mem_of_getElem? (l := wsX5_findOwn_r1) (i := 5) rfl))))
  have hw5 := hts (.constantLong RX5 155 (4225)) (List.mem_cons_of_mem _ (List.mem_append_left _ (List.mem_append_left _ (List.mem_of_getElem? (l := wsX5_findOwn_r1) (i := 6) rfl))))
  have hw6 := hts (.fieldLink RX5 35 "LayerSounderModel" "xs" "[I") (List.mem_cons_of_mem _ (List.mem_append_left _ (List.mem_append_left _ (List.mem_of_getElem? (l := wsX5_findOwn_r1) (i := 7) rfl))))
  have hw7 := hts (.fieldLink RX5 38 "LayerSounderModel" "ys" "[I") (List.mem_cons_of_mem _ (List.mem_append_left _ (List.mem_append_left _ (List.mem_of_getElem? (l := wsX5_findOwn_r1) (i := 8) rfl))))
  have hw8 := hts (.fieldLink RX5 97 "LayerSounderModel" "turnedX" "J") (List.mem_cons_of_mem _ (List.mem_append_left _ (List.mem_append_left _ (List.mem_of_getElem? (l := wsX5_findOwn_r1) (i := 3) rfl))))
  have hw9 := hts (.fieldLink RX5 101 "LayerSounderModel" "turnedY" "J") (List.mem_cons_of_mem _ (List.mem_append_left _ (List.mem_append_left _ (List.mem_of_getElem? (l := wsX5_findOwn_r1) (i := 4) rfl))))
  refine lv_aload_n hx hb dX5_findOwn_0 rfl (lv_at hl 0 rfl) ?_
  refine lv_lconst (v := 0) hx hb dX5_findOwn_1 (by decide) ?_
  refine va_put (D := D) (ci := 5) (v := .long 0) (C := RX5) (T := TX5) (N := 31) hx hb hts iX5 tyX5 tyX5_ok nmX5 hown hK hP hD hS 0 rfl rfl 24 (by decide) hw0 (fun _ h9 => h9) rfl (tyX5_ok 24 (by decide)) rfl rfl (Nat.le_of_ble_eq_true rfl) dX5_findOwn_2 (fun H locs hP hD hS => ?_)
  have hP : va_P D vwCl (MW am cI g y zz (va_up j 2 0) f v X) H := hP
  have hD : va_D A (MW am cI g y zz (va_up j 2 0) f v X) := hD
  refine lv_aload_n hx hb dX5_findOwn_5 rfl (lv_at hl 0 rfl) ?_
  refine lv_lconst (v := 0) hx hb dX5_findOwn_6 (by decide) ?_
  refine va_put (D := D) (ci := 5) (v := .long 0) (C := RX5) (T := TX5) (N := 31) hx hb hts iX5 tyX5 tyX5_ok nmX5 hown hK hP hD hS 0 rfl rfl 25 (by decide) hw2 (fun _ h9 => h9) rfl (tyX5_ok 25 (by decide)) rfl rfl (Nat.le_of_ble_eq_true rfl) dX5_findOwn_7 (fun H locs hP hD hS => ?_)
  have hP : va_P D vwCl (MW am cI g y zz (va_up (va_up j 2 0) 3 0) f v X) H := hP
  have hD : va_D A (MW am cI g y zz (va_up (va_up j 2 0) 3 0) f v X) := hD
  refine lv_aload_n hx hb dX5_findOwn_10 rfl (lv_at hl 0 rfl) ?_
  refine va_get (D := D) (ci := 5) (v := .int (g 100 1)) (C := RX5) (T := TX5) (N := 31) hx hb hts iX5 hown hK hP 0 rfl rfl 19 (by decide) hw3 (fun _ h9 => h9) rfl dX5_findOwn_11 ?_
  refine lv_iconst (v := 1) hx hb dX5_findOwn_14 (by decide) ?_
  refine lv_icmp_ne (tgt := 77) hx hb dX5_findOwn_15 (by decide) (fun c_1 => ?_) (fun c_1 => ?_)
  · refine lv_aload_n hx hb dX5_findOwn_77 rfl (lv_at hl 0 rfl) ?_
    refine va_get (D := D) (ci := 5) (v := .int (g 100 1)) (C := RX5) (T := TX5) (N := 31) hx hb hts iX5 hown hK hP 0 rfl rfl 19 (by decide) hw3 (fun _ h9 => h9) rfl dX5_findOwn_78 ?_
    refine lv_iconst (v := 2) hx hb dX5_findOwn_81 (by decide) ?_
    refine lv_icmp_ne (tgt := 145) hx hb dX5_findOwn_82 (by decide) (fun c_2 => ?_) (fun c_2 => ?_)
    · refine lv_iconst (v := 1) hx hb dX5_findOwn_145 (by decide) ?_
      exact W.zret (v := 1) hx hb hr rfl (fun t ht hW => ⟨⟨1, (va_up (va_up j 2 0) 3 0, f), rfl, (by exact mo_A c_1 c_2), by rw [ht]; exact hP, hD⟩, hS.F ht⟩) hS.2.2 dX5_findOwn_146
    · refine lv_iload_n hx hb dX5_findOwn_85 rfl (lv_at hl 1 rfl) ?_
      refine lv_aload_n hx hb dX5_findOwn_86 rfl (lv_at hl 0 rfl) ?_
      refine va_get (D := D) (ci := 5) (v := .int (g 100 7)) (C := RX5) (T := TX5) (N := 31) hx hb hts iX5 hown hK hP 0 rfl rfl 8 (by decide) hw4 (fun _ h9 => h9) rfl dX5_findOwn_87 ?_
      refine lv_iconst (v := 1) hx hb dX5_findOwn_90 (by decide) ?_
      refine lv_isub hx hb dX5_findOwn_91 ?_
      refine lv_icmp_ne (tgt := 97) hx hb dX5_findOwn_92 (by decide) (fun c_3 => ?_) (fun c_3 => ?_)
      · have hp1 : isP g (p0 + 1) := Decidable.byContradiction fun z => c_3 ((np1 hI hp0).1.mpr z)
        refine lv_aload_n hx hb dX5_findOwn_97 rfl (lv_at hl 0 rfl) ?_
        refine lv_ldc2 hx hb hown hw5 dX5_findOwn_98 ?_
        refine lv_aload_n hx hb dX5_findOwn_101 rfl (lv_at hl 0 rfl) ?_
        refine va_get (D := D) (ci := 5) (v := .ref (am 8)) (C := RX5) (T := TX5) (N := 31) hx hb hts iX5 hown hK hP 0 rfl rfl 10 (by decide) hw6 (fun _ h9 => h9) rfl dX5_findOwn_102 ?_
        refine lv_iload_n hx hb dX5_findOwn_105 rfl (lv_at hl 1 rfl) ?_
        refine lv_iconst (v := 1) hx hb dX5_findOwn_106 (by decide) ?_
        refine lv_iadd hx hb dX5_findOwn_107 ?_
        refine va_iald hx hb hK hP 8 0 rfl rfl (vin hp1.1 hp1.2 hI.2.1.2 (by decide)) dX5_findOwn_108 ?_
        refine lv_aload_n hx hb dX5_findOwn_109 rfl (lv_at hl 0 rfl) ?_
        refine va_get (D := D) (ci := 5) (v := .ref (am 8)) (C := RX5) (T := TX5) (N := 31) hx hb hts iX5 hown hK hP 0 rfl rfl 10 (by decide) hw6 (fun _ h9 => h9) rfl dX5_findOwn_110 ?_
        refine lv_iload_n hx hb dX5_findOwn_113 rfl (lv_at hl 1 rfl) ?_
        refine va_iald hx hb hK hP 8 0 rfl rfl (vin hp0.1 hp0.2 hI.2.1.2 (by decide)) dX5_findOwn_114 ?_
        refine lv_isub hx hb dX5_findOwn_115 ?_
        refine lv_i2l hx hb dX5_findOwn_116 rfl ?_
        refine lv_lmul hx hb dX5_findOwn_117 ?_
        refine lv_topl (fun x_4 ex_4 => ?_)
        refine va_put (D := D) (ci := 5) (v := .long x_4) (C := RX5) (T := TX5) (N := 31) hx hb hts iX5 tyX5 tyX5_ok nmX5 hown hK hP hD hS 0 rfl rfl 24 (by decide) hw0 (fun _ h9 => h9) rfl (tyX5_ok 24 (by decide)) rfl rfl (Nat.le_of_ble_eq_true rfl) dX5_findOwn_118 (fun H locs hP hD hS => ?_)
        have hP : va_P D vwCl (MW am cI g y zz (va_up (va_up (va_up j 2 0) 3 0) 2 x_4) f v X) H := hP
        have hD : va_D A (MW am cI g y zz (va_up (va_up (va_up j 2 0) 3 0) 2 x_4) f v X) := hD
        refine lv_aload_n hx hb dX5_findOwn_121 rfl (lv_at hl 0 rfl) ?_
        refine lv_ldc2 hx hb hown hw5 dX5_findOwn_122 ?_
        refine lv_aload_n hx hb dX5_findOwn_125 rfl (lv_at hl 0 rfl) ?_
        refine va_get (D := D) (ci := 5) (v := .ref (am 9)) (C := RX5) (T := TX5) (N := 31) hx hb hts iX5 hown hK hP 0 rfl rfl 11 (by decide) hw7 (fun _ h9 => h9) rfl dX5_findOwn_126 ?_
        refine lv_iload_n hx hb dX5_findOwn_129 rfl (lv_at hl 1 rfl) ?_
        refine lv_iconst (v := 1) hx hb dX5_findOwn_130 (by decide) ?_
        refine lv_iadd hx hb dX5_findOwn_131 ?_
        refine va_iald hx hb hK hP 9 0 rfl rfl (vin hp1.1 hp1.2 hI.2.1.2 (by decide)) dX5_findOwn_132 ?_
        refine lv_aload_n hx hb dX5_findOwn_133 rfl (lv_at hl 0 rfl) ?_
        refine va_get (D := D) (ci := 5) (v := .ref (am 9)) (C := RX5) (T := TX5) (N := 31) hx hb hts iX5 hown hK hP 0 rfl rfl 11 (by decide) hw7 (fun _ h9 => h9) rfl dX5_findOwn_134 ?_
        refine lv_iload_n hx hb dX5_findOwn_137 rfl (lv_at hl 1 rfl) ?_
        refine va_iald hx hb hK hP 9 0 rfl rfl (vin hp0.1 hp0.2 hI.2.1.2 (by decide)) dX5_findOwn_138 ?_
        refine lv_isub hx hb dX5_findOwn_139 ?_
        refine lv_i2l hx hb dX5_findOwn_140 rfl ?_
        refine lv_lmul hx hb dX5_findOwn_141 ?_
        refine lv_topl (fun x_5 ex_5 => ?_)
        refine va_put (D := D) (ci := 5) (v := .long x_5) (C := RX5) (T := TX5) (N := 31) hx hb hts iX5 tyX5 tyX5_ok nmX5 hown hK hP hD hS 0 rfl rfl 25 (by decide) hw2 (fun _ h9 => h9) rfl (tyX5_ok 25 (by decide)) rfl rfl (Nat.le_of_ble_eq_true rfl) dX5_findOwn_142 (fun H locs hP hD hS => ?_)
        have hP : va_P D vwCl (MW am cI g y zz (va_up (va_up (va_up (va_up j 2 0) 3 0) 2 x_4) 3 x_5) f v X) H := hP
        have hD : va_D A (MW am cI g y zz (va_up (va_up (va_up (va_up j 2 0) 3 0) 2 x_4) 3 x_5) f v X) := hD
        refine lv_iconst (v := 1) hx hb dX5_findOwn_145 (by decide) ?_
        exact W.zret (v := 1) hx hb hr rfl (fun t ht hW => ⟨⟨1, (va_up (va_up (va_up (va_up j 2 0) 3 0) 2 x_4) 3 x_5, f), rfl, (by subst ex_4 ex_5; exact mo_E hI hp0 c_2 c_3), by rw [ht]; exact hP, hD⟩, hS.F ht⟩) hS.2.2 dX5_findOwn_146
      · refine lv_iconst (v := 0) hx hb dX5_findOwn_95 (by decide) ?_
        exact W.zret (v := 0) hx hb hr rfl (fun t ht hW => ⟨⟨0, (va_up (va_up j 2 0) 3 0, f), rfl, (by exact mo_D hI hp0 c_2 c_3), by rw [ht]; exact hP, hD⟩, hS.F ht⟩) hS.2.2 dX5_findOwn_96
  · refine lv_aload_n hx hb dX5_findOwn_18 rfl (lv_at hl 0 rfl) ?_
    refine lv_aload_n hx hb dX5_findOwn_19 rfl (lv_at hl 0 rfl) ?_
    refine lv_iconst (v := 4) hx hb dX5_findOwn_20 (by decide) ?_
    refine lv_iload_n hx hb dX5_findOwn_21 rfl (lv_at hl 1 rfl) ?_
    refine pcI (va_runV (As := [.int 4, .int p0]) (rest := [.ref (am 0)]) ⟨hx, hb, hml, hown, hts⟩ (kX5_reading l D cI cO tt am g y zz (va_up (va_up j 2 0) 3 0) f v X H 4 p0 4 (by decide) (by decide) hp0.1 hI hM) (cwV 2 hts gX5_findOwn_X5_reading rfl rfl rfl (by decide +kernel) ⟨(Nat.le_of_ble_eq_true rfl), (Nat.le_of_ble_eq_true rfl)⟩) (pwV hK hZ hN hP hS (va_recv hK hP (ci := 5) (q0 := 0) rfl rfl)) rfl rfl hl.1 rfl (lv_room (Nat.le_of_ble_eq_true rfl)) dX5_findOwn_22 ⟨Nat.zero_le _, Nat.zero_le _⟩) hS (fun locs hS => ?_)
    refine lv_aload_n hx hb dX5_findOwn_25 rfl (lv_at hl 0 rfl) ?_
    refine lv_iconst (v := 5) hx hb dX5_findOwn_26 (by decide) ?_
    refine lv_iload_n hx hb dX5_findOwn_27 rfl (lv_at hl 1 rfl) ?_
    refine pcI (va_runV (As := [.int 5, .int p0]) (rest := [.int (tl (rdC g 4 p0)), .ref (am 0)]) ⟨hx, hb, hml, hown, hts⟩ (kX5_reading l D cI cO tt am g y zz (va_up (va_up j 2 0) 3 0) f v X H 5 p0 5 (by decide) (by decide) hp0.1 hI hM) (cwV 2 hts gX5_findOwn_X5_reading rfl rfl rfl (by decide +kernel) ⟨(Nat.le_of_ble_eq_true rfl), (Nat.le_of_ble_eq_true rfl)⟩) (pwV hK hZ hN hP hS (va_recv hK hP (ci := 5) (q0 := 0) rfl rfl)) rfl rfl hl.1 rfl (lv_room (Nat.le_of_ble_eq_true rfl)) dX5_findOwn_28 ⟨Nat.zero_le _, Nat.zero_le _⟩) hS (fun locs hS => ?_)
    refine lv_aload_n hx hb dX5_findOwn_31 rfl (lv_at hl 0 rfl) ?_
    refine lv_bipush (v := 6) hx hb dX5_findOwn_32 (by decide) ?_
    refine lv_iload_n hx hb dX5_findOwn_34 rfl (lv_at hl 1 rfl) ?_
    refine pcI (va_runV (As := [.int 6, .int p0]) (rest := [.int (tl (rdC g 5 p0)), .int (tl (rdC g 4 p0)), .ref (am 0)]) ⟨hx, hb, hml, hown, hts⟩ (kX5_reading l D cI cO tt am g y zz (va_up (va_up j 2 0) 3 0) f v X H 6 p0 6 (by decide) (by decide) hp0.1 hI hM) (cwV 2 hts gX5_findOwn_X5_reading rfl rfl rfl (by decide +kernel) ⟨(Nat.le_of_ble_eq_true rfl), (Nat.le_of_ble_eq_true rfl)⟩) (pwV hK hZ hN hP hS (va_recv hK hP (ci := 5) (q0 := 0) rfl rfl)) rfl rfl hl.1 rfl (lv_room (Nat.le_of_ble_eq_true rfl)) dX5_findOwn_35 ⟨Nat.zero_le _, Nat.zero_le _⟩) hS (fun locs hS => ?_)
    refine lv_aload_n hx hb dX5_findOwn_38 rfl (lv_at hl 0 rfl) ?_
    refine lv_bipush (v := 7) hx hb dX5_findOwn_39 (by decide) ?_
    refine lv_iload_n hx hb dX5_findOwn_41 rfl (lv_at hl 1 rfl) ?_
    refine pcI (va_runV (As := [.int 7, .int p0]) (rest := [.int (tl (rdC g 6 p0)), .int (tl (rdC g 5 p0)), .int (tl (rdC g 4 p0)), .ref (am 0)]) ⟨hx, hb, hml, hown, hts⟩ (kX5_reading l D cI cO tt am g y zz (va_up (va_up j 2 0) 3 0) f v X H 7 p0 7 (by decide) (by decide) hp0.1 hI hM) (cwV 2 hts gX5_findOwn_X5_reading rfl rfl rfl (by decide +kernel) ⟨(Nat.le_of_ble_eq_true rfl), (Nat.le_of_ble_eq_true rfl)⟩) (pwV hK hZ hN hP hS (va_recv hK hP (ci := 5) (q0 := 0) rfl rfl)) rfl rfl hl.1 rfl (lv_room (Nat.le_of_ble_eq_true rfl)) dX5_findOwn_42 ⟨Nat.zero_le _, Nat.zero_le _⟩) hS (fun locs hS => ?_)
    refine mcI (wf := fun u : Nat → Int32 => MW am cI g y zz (va_up (va_up j 2 0) 3 0) u v X) (va_runV (As := [.int (tl (rdC g 4 p0)), .int (tl (rdC g 5 p0)), .int (tl (rdC g 6 p0)), .int (tl (rdC g 7 p0))]) (rest := []) ⟨hx, hb, hml, hown, hts⟩ (kX5_answers l D cI cO tt am g y zz (va_up (va_up j 2 0) 3 0) f v X H.size (tl (rdC g 4 p0)) (tl (rdC g 5 p0)) (tl (rdC g 6 p0)) (tl (rdC g 7 p0)) ) (cwV 4 hts gX5_findOwn_X5_answers rfl rfl rfl (by decide +kernel) ⟨(Nat.le_of_ble_eq_true rfl), (Nat.le_of_ble_eq_true rfl)⟩) (mwV hK hZ hN hP hD hS hA (va_recv hK hP (ci := 5) (q0 := 0) rfl rfl)) rfl rfl hl.1 rfl (lv_room (Nat.le_of_ble_eq_true rfl)) dX5_findOwn_45 ⟨Nat.zero_le _, Nat.zero_le _⟩) hD hS hA (fun ru_6 uu_6 H locs hu_6 hP hD hS => ?_)
    obtain ⟨eru_6, hfu_6⟩ := an_tl (a := (rdC g 4 p0)) (b := (rdC g 5 p0)) (c := (rdC g 6 p0)) (d := (rdC g 7 p0)) hu_6
    subst eru_6
    have hP : va_P D vwCl (MW am cI g y zz (va_up (va_up j 2 0) 3 0) uu_6 v X) H := hP
    have hD : va_D A (MW am cI g y zz (va_up (va_up j 2 0) 3 0) uu_6 v X) := hD
    refine lv_if_ne (tgt := 53) hx hb dX5_findOwn_48 (by decide) (fun c_7 => ?_) (fun c_7 => ?_)
    · have c_7 := bI_n0.mp c_7
      refine lv_aload_n hx hb dX5_findOwn_53 rfl (lv_at hl 0 rfl) ?_
      refine lv_iload_n hx hb dX5_findOwn_54 rfl (lv_at hl 1 rfl) ?_
      refine mcV (wf := fun u : Nat → Int64 => MW am cI g y zz u uu_6 v X) (va_runV (As := [.int p0]) (rest := []) ⟨hx, hb, hml, hown, hts⟩ (kX5_bring l D cI cO tt am g y zz (va_up (va_up j 2 0) 3 0) uu_6 v X H.size p0 hI hp0) (cwV 1 hts gX5_findOwn_X5_bring rfl rfl rfl (by decide +kernel) ⟨(Nat.le_of_ble_eq_true rfl), (Nat.le_of_ble_eq_true rfl)⟩) (mwV hK hZ hN hP hD hS hA (va_recv hK hP (ci := 5) (q0 := 0) rfl rfl)) rfl rfl hl.1 rfl (lv_room (Nat.le_of_ble_eq_true rfl)) dX5_findOwn_55 ⟨Nat.zero_le _, Nat.zero_le _⟩) hD hS hA (fun uu_8 H locs hu_8 hP hD hS => ?_)
      have hP : va_P D vwCl (MW am cI g y zz uu_8 uu_6 v X) H := hP
      have hD : va_D A (MW am cI g y zz uu_8 uu_6 v X) := hD
      refine lv_aload_n hx hb dX5_findOwn_58 rfl (lv_at hl 0 rfl) ?_
      refine lv_aload_n hx hb dX5_findOwn_59 rfl (lv_at hl 0 rfl) ?_
      refine va_get (D := D) (ci := 5) (v := .long (uu_8 0)) (C := RX5) (T := TX5) (N := 31) hx hb hts iX5 hown hK hP 0 rfl rfl 13 (by decide) hw8 (fun _ h9 => h9) rfl dX5_findOwn_60 ?_
      refine va_put (D := D) (ci := 5) (v := .long (uu_8 0)) (C := RX5) (T := TX5) (N := 31) hx hb hts iX5 tyX5 tyX5_ok nmX5 hown hK hP hD hS 0 rfl rfl 24 (by decide) hw0 (fun _ h9 => h9) rfl (tyX5_ok 24 (by decide)) rfl rfl (Nat.le_of_ble_eq_true rfl) dX5_findOwn_63 (fun H locs hP hD hS => ?_)
      have hP : va_P D vwCl (MW am cI g y zz (va_up uu_8 2 (uu_8 0)) uu_6 v X) H := hP
      have hD : va_D A (MW am cI g y zz (va_up uu_8 2 (uu_8 0)) uu_6 v X) := hD
      refine lv_aload_n hx hb dX5_findOwn_66 rfl (lv_at hl 0 rfl) ?_
      refine lv_aload_n hx hb dX5_findOwn_67 rfl (lv_at hl 0 rfl) ?_
      refine va_get (D := D) (ci := 5) (v := .long (va_up uu_8 2 (uu_8 0) 1)) (C := RX5) (T := TX5) (N := 31) hx hb hts iX5 hown hK hP 0 rfl rfl 14 (by decide) hw9 (fun _ h9 => h9) rfl dX5_findOwn_68 ?_
      refine va_put (D := D) (ci := 5) (v := .long (va_up uu_8 2 (uu_8 0) 1)) (C := RX5) (T := TX5) (N := 31) hx hb hts iX5 tyX5 tyX5_ok nmX5 hown hK hP hD hS 0 rfl rfl 25 (by decide) hw2 (fun _ h9 => h9) rfl (tyX5_ok 25 (by decide)) rfl rfl (Nat.le_of_ble_eq_true rfl) dX5_findOwn_71 (fun H locs hP hD hS => ?_)
      have hP : va_P D vwCl (MW am cI g y zz (va_up (va_up uu_8 2 (uu_8 0)) 3 (va_up uu_8 2 (uu_8 0) 1)) uu_6 v X) H := hP
      have hD : va_D A (MW am cI g y zz (va_up (va_up uu_8 2 (uu_8 0)) 3 (va_up uu_8 2 (uu_8 0) 1)) uu_6 v X) := hD
      refine lv_goto (tgt := 145) hx hb dX5_findOwn_74 (by decide) ?_
      refine lv_iconst (v := 1) hx hb dX5_findOwn_145 (by decide) ?_
      exact W.zret (v := 1) hx hb hr rfl (fun t ht hW => ⟨⟨1, (va_up (va_up uu_8 2 (uu_8 0)) 3 (va_up uu_8 2 (uu_8 0) 1), uu_6), rfl, (by exact mo_C hp0 c_1 c_7 ⟨(hfu_6.2 c_7).1, (hfu_6.2 c_7).2.1⟩ hu_8), by rw [ht]; exact hP, hD⟩, hS.F ht⟩) hS.2.2 dX5_findOwn_146
    · have c_7 := bI_0.mp c_7
      refine lv_iconst (v := 0) hx hb dX5_findOwn_51 (by decide) ?_
      exact W.zret (v := 0) hx hb hr rfl (fun t ht hW => ⟨⟨0, (va_up (va_up j 2 0) 3 0, uu_6), rfl, (by exact mo_B c_1 rfl (bI_f c_7)), by rw [ht]; exact hP, hD⟩, hS.F ht⟩) hS.2.2 dX5_findOwn_52
set_option maxHeartbeats 4000000 in
set_option maxRecDepth 100000 in
theorem kX5_cellAnswers (l : Launch) (D : va_G) (cI cO : ClassId) (tt : Nat) (am : Nat → Nat) (g : Nat → Nat → Int32) (y : Nat → Int32) (zz : Nat → Int32) (j : Nat → Int64) (f : Nat → Int32) (v : Nat → Int32) (X : va_W) (sz : Nat) (p0 : Int32) (c0 : Int32) (hI : WI g) (hM : RM g y zz) (hp0 : isP g p0) (hc0 : isC g c0) : MmI l yX5_cellAnswers wsX5_cellAnswers ({ frames := 2, cells := 0, slots := 0, locals := 42 }) D cI cO tt (MW am cI g y zz j f v X) sz [.ref (am 0), .int p0, .int c0] (S := Nat → Int32) (fun u => MW am cI g y zz j u v X) (fun z u => caP g p0 c0 z u) := by
  refine Met.ofW (cc := cX5_cellAnswers) (maxL := 4) (ret := (some .boolean)) (by decide) rfl ?_
  intro p e s m args below meth c s₁ B hml hv
  obtain ⟨rfl, hsz, hP, hK, hD0, hZ, hN⟩ := hv
  have hx := B.exec
  have hb := B.bytes
  have hr := B.returns
  have hts := atoms_spec (ws := wsX5_cellAnswers) B.pre
  have hown : s.vm.findClass RX5 = some m.cls := findClass_of_methodNamed B.named
  have hlocks := B.notSynchronized
  subst hsz
  have hD := hD0.self (sz := s.heap.size)
  generalize hAe : va_A (MW am cI g y zz j f v X) s.heap.size = A at hD hZ ⊢
  have hA : ∀ q : Nat, s.heap.size ≤ q → A q := fun q h => by rw [← hAe]; exact Or.inr h
  have hS : va_S A s.heap s.heap [] := va_S.rf
  have hl := lv_entry ([.ref (am 0), .int p0, .int c0]) (n := 4) (Nat.le_of_ble_eq_true rfl)
  rw [lg_entry_eq]
  generalize (lg_sl ([.ref (am 0), .int p0, .int c0]) ++ List.replicate (4 - (lg_sl ([.ref (am 0), .int p0, .int c0])).length) Slot.unset).toArray = ls at hl ⊢
  have hl : lv_has ls 4 [(0, .ref (am 0)), (1, .int p0), (2, .int c0)] := hl
  have hw0 := hts (.fieldLink RX5 28 "LayerSounderModel" "l" "I") (List.mem_cons_of_mem _ (List.mem_append_left _ (List.mem_of_getElem? (i := 0) rfl)))
  have iX5 : ∀ w ∈ wsX50, w ∈ wsX5_cellAnswers := fun _ h => List.mem_cons_of_mem _ (List.mem_append_right _ h)
  refine lv_aload_n hx hb dX5_cellAnswers_0 rfl (lv_at hl 0 rfl) ?_
  refine va_get (D := D) (ci := 5) (v := .int (g 100 0)) (C := RX5) (T := TX5) (N := 31) hx hb hts iX5 hown hK hP 0 rfl rfl 7 (by decide) hw0 (fun _ h9 => h9) rfl dX5_cellAnswers_1 ?_
  refine lv_iload_n hx hb dX5_cellAnswers_4 rfl (lv_at hl 1 rfl) ?_
  refine lv_imul hx hb dX5_cellAnswers_5 ?_
  refine lv_iload_n hx hb dX5_cellAnswers_6 rfl (lv_at hl 2 rfl) ?_
  refine lv_iadd hx hb dX5_cellAnswers_7 ?_
  refine lv_istore_n (lv' := [(3, .int (((g 100 0) * p0) + c0)), (0, .ref (am 0)), (1, .int p0), (2, .int c0)]) hx hb dX5_cellAnswers_8 rfl hl (by decide) rfl (fun ls hl => ?_)
  refine lv_aload_n hx hb dX5_cellAnswers_9 rfl (lv_at hl 1 rfl) ?_
  refine lv_aload_n hx hb dX5_cellAnswers_10 rfl (lv_at hl 1 rfl) ?_
  refine lv_iconst (v := 0) hx hb dX5_cellAnswers_11 (by decide) ?_
  refine lv_iload_n hx hb dX5_cellAnswers_12 rfl (lv_at hl 0 rfl) ?_
  refine pcI (va_runV (As := [.int 0, .int (((g 100 0) * p0) + c0)]) (rest := [.ref (am 0)]) ⟨hx, hb, hml, hown, hts⟩ (kX5_reading l D cI cO tt am g y zz j f v X s.heap 0 (((g 100 0) * p0) + c0) 0 (by decide) (by decide) (it0 hI hp0 hc0) hI hM) (cwV 2 hts gX5_cellAnswers_X5_reading rfl rfl rfl (by decide +kernel) ⟨(Nat.le_of_ble_eq_true rfl), (Nat.le_of_ble_eq_true rfl)⟩) (pwV hK hZ hN hP hS (va_recv hK hP (ci := 5) (q0 := 0) rfl rfl)) rfl rfl hl.1 rfl (lv_room (Nat.le_of_ble_eq_true rfl)) dX5_cellAnswers_13 ⟨Nat.zero_le _, Nat.zero_le _⟩) hS (fun locs hS => ?_)
  refine lv_aload_n hx hb dX5_cellAnswers_16 rfl (lv_at hl 1 rfl) ?_
  refine lv_iconst (v := 1) hx hb dX5_cellAnswers_17 (by decide) ?_
  refine lv_iload_n hx hb dX5_cellAnswers_18 rfl (lv_at hl 0 rfl) ?_
  refine pcI (va_runV (As := [.int 1, .int (((g 100 0) * p0) + c0)]) (rest := [.int (tl (rdC g 0 (((g 100 0) * p0) + c0))), .ref (am 0)]) ⟨hx, hb, hml, hown, hts⟩ (kX5_reading l D cI cO tt am g y zz j f v X s.heap 1 (((g 100 0) * p0) + c0) 1 (by decide) (by decide) (it0 hI hp0 hc0) hI hM) (cwV 2 hts gX5_cellAnswers_X5_reading rfl rfl rfl (by decide +kernel) ⟨(Nat.le_of_ble_eq_true rfl), (Nat.le_of_ble_eq_true rfl)⟩) (pwV hK hZ hN hP hS (va_recv hK hP (ci := 5) (q0 := 0) rfl rfl)) rfl rfl hl.1 rfl (lv_room (Nat.le_of_ble_eq_true rfl)) dX5_cellAnswers_19 ⟨Nat.zero_le _, Nat.zero_le _⟩) hS (fun locs hS => ?_)
  refine lv_aload_n hx hb dX5_cellAnswers_22 rfl (lv_at hl 1 rfl) ?_
  refine lv_iconst (v := 2) hx hb dX5_cellAnswers_23 (by decide) ?_
  refine lv_iload_n hx hb dX5_cellAnswers_24 rfl (lv_at hl 0 rfl) ?_
  refine pcI (va_runV (As := [.int 2, .int (((g 100 0) * p0) + c0)]) (rest := [.int (tl (rdC g 1 (((g 100 0) * p0) + c0))), .int (tl (rdC g 0 (((g 100 0) * p0) + c0))), .ref (am 0)]) ⟨hx, hb, hml, hown, hts⟩ (kX5_reading l D cI cO tt am g y zz j f v X s.heap 2 (((g 100 0) * p0) + c0) 2 (by decide) (by decide) (it0 hI hp0 hc0) hI hM) (cwV 2 hts gX5_cellAnswers_X5_reading rfl rfl rfl (by decide +kernel) ⟨(Nat.le_of_ble_eq_true rfl), (Nat.le_of_ble_eq_true rfl)⟩) (pwV hK hZ hN hP hS (va_recv hK hP (ci := 5) (q0 := 0) rfl rfl)) rfl rfl hl.1 rfl (lv_room (Nat.le_of_ble_eq_true rfl)) dX5_cellAnswers_25 ⟨Nat.zero_le _, Nat.zero_le _⟩) hS (fun locs hS => ?_)
  refine lv_aload_n hx hb dX5_cellAnswers_28 rfl (lv_at hl 1 rfl) ?_
  refine lv_iconst (v := 3) hx hb dX5_cellAnswers_29 (by decide) ?_
  refine lv_iload_n hx hb dX5_cellAnswers_30 rfl (lv_at hl 0 rfl) ?_
  refine pcI (va_runV (As := [.int 3, .int (((g 100 0) * p0) + c0)]) (rest := [.int (tl (rdC g 2 (((g 100 0) * p0) + c0))), .int (tl (rdC g 1 (((g 100 0) * p0) + c0))), .int (tl (rdC g 0 (((g 100 0) * p0) + c0))), .ref (am 0)]) ⟨hx, hb, hml, hown, hts⟩ (kX5_reading l D cI cO tt am g y zz j f v X s.heap 3 (((g 100 0) * p0) + c0) 3 (by decide) (by decide) (it0 hI hp0 hc0) hI hM) (cwV 2 hts gX5_cellAnswers_X5_reading rfl rfl rfl (by decide +kernel) ⟨(Nat.le_of_ble_eq_true rfl), (Nat.le_of_ble_eq_true rfl)⟩) (pwV hK hZ hN hP hS (va_recv hK hP (ci := 5) (q0 := 0) rfl rfl)) rfl rfl hl.1 rfl (lv_room (Nat.le_of_ble_eq_true rfl)) dX5_cellAnswers_31 ⟨Nat.zero_le _, Nat.zero_le _⟩) hS (fun locs hS => ?_)
  refine mcI (wf := fun u : Nat → Int32 => MW am cI g y zz j u v X) (va_runV (As := [.int (tl (rdC g 0 (((g 100 0) * p0) + c0))), .int (tl (rdC g 1 (((g 100 0) * p0) + c0))), .int (tl (rdC g 2 (((g 100 0) * p0) + c0))), .int (tl (rdC g 3 (((g 100 0) * p0) + c0)))]) (rest := []) ⟨hx, hb, hml, hown, hts⟩ (kX5_answers l D cI cO tt am g y zz j f v X s.heap.size (tl (rdC g 0 (((g 100 0) * p0) + c0))) (tl (rdC g 1 (((g 100 0) * p0) + c0))) (tl (rdC g 2 (((g 100 0) * p0) + c0))) (tl (rdC g 3 (((g 100 0) * p0) + c0))) ) (cwV 4 hts gX5_cellAnswers_X5_answers rfl rfl rfl (by decide +kernel) ⟨(Nat.le_of_ble_eq_true rfl), (Nat.le_of_ble_eq_true rfl)⟩) (mwV hK hZ hN hP hD hS hA (va_recv hK hP (ci := 5) (q0 := 0) rfl rfl)) rfl rfl hl.1 rfl (lv_room (Nat.le_of_ble_eq_true rfl)) dX5_cellAnswers_34 ⟨Nat.zero_le _, Nat.zero_le _⟩) hD hS hA (fun ru_1 uu_1 H locs hu_1 hP hD hS => ?_)
  obtain ⟨eru_1, hfu_1⟩ := an_tl (a := (rdC g 0 (((g 100 0) * p0) + c0))) (b := (rdC g 1 (((g 100 0) * p0) + c0))) (c := (rdC g 2 (((g 100 0) * p0) + c0))) (d := (rdC g 3 (((g 100 0) * p0) + c0))) hu_1
  subst eru_1
  have hP : va_P D vwCl (MW am cI g y zz j uu_1 v X) H := hP
  have hD : va_D A (MW am cI g y zz j uu_1 v X) := hD
  exact W.zret (v := bI (lo (rdC g 0 (((g 100 0) * p0) + c0)) (rdC g 1 (((g 100 0) * p0) + c0)) (rdC g 2 (((g 100 0) * p0) + c0)) (rdC g 3 (((g 100 0) * p0) + c0)) ≤ 1)) hx hb hr bI_nar (fun t ht hW => ⟨⟨bI (lo (rdC g 0 (((g 100 0) * p0) + c0)) (rdC g 1 (((g 100 0) * p0) + c0)) (rdC g 2 (((g 100 0) * p0) + c0)) (rdC g 3 (((g 100 0) * p0) + c0)) ≤ 1), uu_1, rfl, (by exact ⟨rfl, hfu_1.1, hfu_1.2⟩), by rw [ht]; exact hP, hD⟩, hS.F ht⟩) hS.2.2 dX5_cellAnswers_37
set_option maxHeartbeats 4000000 in
set_option maxRecDepth 100000 in
theorem kX5_fateOf (l : Launch) (D : va_G) (cI cO : ClassId) (tt : Nat) (am : Nat → Nat) (g : Nat → Nat → Int32) (y : Nat → Int32) (zz : Nat → Int32) (j : Nat → Int64) (f : Nat → Int32) (v : Nat → Int32) (X : va_W) (sz : Nat) (p0 : Int32) (c0 : Int32) (hI : WI g) (hM : RM g y zz) (hp0 : isP g p0) (hc0 : isC g c0) : MmI l yX5_fateOf wsX5_fateOf ({ frames := 3, cells := 0, slots := 0, locals := 74 }) D cI cO tt (MW am cI g y zz j f v X) sz [.ref (am 0), .int p0, .int c0] (S := (Nat → Int64) × (Nat → Int32)) (fun u => MW am cI g y zz u.1 u.2 v X) (fun z u => z = gdF g p0 c0 ∧ ∀ q, 4 ≤ q → u.1 q = j q) := by
  refine Met.ofW (cc := cX5_fateOf) (maxL := 3) (ret := (some .int)) (by decide) rfl ?_
  intro p e s m args below meth c s₁ B hml hv
  obtain ⟨rfl, hsz, hP, hK, hD0, hZ, hN⟩ := hv
  have hx := B.exec
  have hb := B.bytes
  have hr := B.returns
  have hts := atoms_spec (ws := wsX5_fateOf) B.pre
  have hown : s.vm.findClass RX5 = some m.cls := findClass_of_methodNamed B.named
  have hlocks := B.notSynchronized
  subst hsz
  have hD := hD0.self (sz := s.heap.size)
  generalize hAe : va_A (MW am cI g y zz j f v X) s.heap.size = A at hD hZ ⊢
  have hA : ∀ q : Nat, s.heap.size ≤ q → A q := fun q h => by rw [← hAe]; exact Or.inr h
  have hS : va_S A s.heap s.heap [] := va_S.rf
  have hl := lv_entry ([.ref (am 0), .int p0, .int c0]) (n := 3) (Nat.le_of_ble_eq_true rfl)
  rw [lg_entry_eq]
  generalize (lg_sl ([.ref (am 0), .int p0, .int c0]) ++ List.replicate (3 - (lg_sl ([.ref (am 0), .int p0, .int c0])).length) Slot.unset).toArray = ls at hl ⊢
  have hl : lv_has ls 3 [(0, .ref (am 0)), (1, .int p0), (2, .int c0)] := hl
  have hw0 := hts (.fieldLink RX5 138 "LayerSounderModel" "edge" "I") (List.mem_cons_of_mem _ (List.mem_append_left _ (List.mem_append_left _ (List.mem_of_getElem? (l := wsX5_fateOf_r1) (i := 0) rfl))))
  have iX5 : ∀ w ∈ wsX50, w ∈ wsX5_fateOf := fun _ h => List.mem_cons_of_mem _ (List.mem_append_right _ h)
  have hw2 := hts (.fieldLink RX5 41 "LayerSounderModel" "depths" "[I") (List.mem_cons_of_mem _ (List.mem_append_left _ (List.mem_append_left _ (List.mem_of_getElem? (l := wsX5_fateOf_r1) (i := 1) rfl))))
  have hw3 := hts (.fieldLink RX5 108 "LayerSounderModel" "lost" "I") (List.mem_cons_of_mem _ (List.mem_append_left _ (List.mem_append_left _ (List.mem_of_getElem? (l := wsX5_fateOf_r1) (i := 2) rfl))))
  have hw4 := hts (.fieldLink RX5 117 "LayerSounderModel" "odd" "I") (List.mem_cons_of_mem _ (List.mem_append_left _ (List.mem_append_left _ (List.mem_of_getElem? (l := wsX5_fateOf_r1) (i := 4) rfl))))
  have hw5 := hts (.fieldLink RX5 48 "LayerSounderModel" "bound" "I") (List.mem_cons_of_mem _ (List.mem_append_left _ (List.mem_append_left _ (List.mem_of_getElem? (l := wsX5_fateOf_r1) (i := 5) rfl))))
  have hw6 := hts (.fieldLink RX5 111 "LayerSounderModel" "along" "I") (List.mem_cons_of_mem _ (List.mem_append_left _ (List.mem_append_left _ (List.mem_of_getElem? (l := wsX5_fateOf_r1) (i := 6) rfl))))
  have hw7 := hts (.constantLong RX5 128 (20000)) (List.mem_cons_of_mem _ (List.mem_append_left _ (List.mem_append_left _ (List.mem_of_getElem? (l := wsX5_fateOf_r1) (i := 7) rfl))))
  have hw8 := hts (.fieldLink RX5 114 "LayerSounderModel" "across" "I") (List.mem_cons_of_mem _ (List.mem_append_left _ (List.mem_append_left _ (List.mem_of_getElem? (l := wsX5_fateOf_r1) (i := 8) rfl))))
  have hw9 := hts (.fieldLink RX5 44 "LayerSounderModel" "takes" "Z") (List.mem_cons_of_mem _ (List.mem_append_left _ (List.mem_append_left _ (List.mem_of_getElem? (l := wsX5_fateOf_r1) (i := 3) rfl))))
  refine lv_aload_n hx hb dX5_fateOf_0 rfl (lv_at hl 0 rfl) ?_
  refine lv_iload_n hx hb dX5_fateOf_1 rfl (lv_at hl 1 rfl) ?_
  refine mcI (wf := fun u : (Nat → Int64) × (Nat → Int32) => MW am cI g y zz u.1 u.2 v X) (va_runV (As := [.int p0]) (rest := []) ⟨hx, hb, hml, hown, hts⟩ (kX5_findOwn l D cI cO tt am g y zz j f v X s.heap.size p0 hI hM hp0) (cwV 1 hts gX5_fateOf_X5_findOwn rfl rfl rfl (by decide +kernel) ⟨(Nat.le_of_ble_eq_true rfl), (Nat.le_of_ble_eq_true rfl)⟩) (mwV hK hZ hN hP hD hS hA (va_recv hK hP (ci := 5) (q0 := 0) rfl rfl)) rfl rfl hl.1 rfl (lv_room (Nat.le_of_ble_eq_true rfl)) dX5_fateOf_2 ⟨Nat.zero_le _, Nat.zero_le _⟩) hD hS hA (fun ru_1 uu_1 H locs hu_1 hP hD hS => ?_)
  obtain ⟨ju_1, fu_1⟩ := uu_1
  have hu_1 : moP g p0 j ru_1 ju_1 := hu_1
  obtain ⟨eru_1, hmu_1⟩ : ru_1 = bI (oOk g p0) ∧ moP g p0 j (bI (oOk g p0)) ju_1 := ⟨hu_1.1, hu_1.1 ▸ hu_1⟩
  subst eru_1
  have hP : va_P D vwCl (MW am cI g y zz ju_1 fu_1 v X) H := hP
  have hD : va_D A (MW am cI g y zz ju_1 fu_1 v X) := hD
  refine lv_if_ne (tgt := 10) hx hb dX5_fateOf_5 (by decide) (fun c_2 => ?_) (fun c_2 => ?_)
  · have c_2 := bI_n0.mp c_2
    refine lv_aload_n hx hb dX5_fateOf_10 rfl (lv_at hl 0 rfl) ?_
    refine lv_iload_n hx hb dX5_fateOf_11 rfl (lv_at hl 1 rfl) ?_
    refine lv_iload_n hx hb dX5_fateOf_12 rfl (lv_at hl 2 rfl) ?_
    refine mcI (wf := fun u : Nat → Int32 => MW am cI g y zz ju_1 u v X) (va_runV (As := [.int p0, .int c0]) (rest := []) ⟨hx, hb, hml, hown, hts⟩ (kX5_cellAnswers l D cI cO tt am g y zz ju_1 fu_1 v X H.size p0 c0 hI hM hp0 hc0) (cwV 2 hts gX5_fateOf_X5_cellAnswers rfl rfl rfl (by decide +kernel) ⟨(Nat.le_of_ble_eq_true rfl), (Nat.le_of_ble_eq_true rfl)⟩) (mwV hK hZ hN hP hD hS hA (va_recv hK hP (ci := 5) (q0 := 0) rfl rfl)) rfl rfl hl.1 rfl (lv_room (Nat.le_of_ble_eq_true rfl)) dX5_fateOf_13 ⟨Nat.zero_le _, Nat.zero_le _⟩) hD hS hA (fun ru_3 uu_3 H locs hu_3 hP hD hS => ?_)
    obtain ⟨eru_3, hfu_3⟩ := (show caP g p0 c0 ru_3 uu_3 from hu_3)
    subst eru_3
    have hP : va_P D vwCl (MW am cI g y zz ju_1 uu_3 v X) H := hP
    have hD : va_D A (MW am cI g y zz ju_1 uu_3 v X) := hD
    refine lv_if_ne (tgt := 21) hx hb dX5_fateOf_16 (by decide) (fun c_4 => ?_) (fun c_4 => ?_)
    · have c_4 := bI_n0.mp c_4
      refine lv_iload_n hx hb dX5_fateOf_21 rfl (lv_at hl 2 rfl) ?_
      refine lv_aload_n hx hb dX5_fateOf_22 rfl (lv_at hl 0 rfl) ?_
      refine va_get (D := D) (ci := 5) (v := .int (g 100 3)) (C := RX5) (T := TX5) (N := 31) hx hb hts iX5 hown hK hP 0 rfl rfl 21 (by decide) hw0 (fun _ h9 => h9) rfl dX5_fateOf_23 ?_
      refine lv_iadd hx hb dX5_fateOf_26 ?_
      refine lv_aload_n hx hb dX5_fateOf_27 rfl (lv_at hl 0 rfl) ?_
      refine va_get (D := D) (ci := 5) (v := .ref (am 10)) (C := RX5) (T := TX5) (N := 31) hx hb hts iX5 hown hK hP 0 rfl rfl 12 (by decide) hw2 (fun _ h9 => h9) rfl dX5_fateOf_28 ?_
      refine lv_iload_n hx hb dX5_fateOf_31 rfl (lv_at hl 1 rfl) ?_
      refine va_iald hx hb hK hP 10 0 rfl rfl (vin hp0.1 hp0.2 hI.2.1.2 (by decide)) dX5_fateOf_32 ?_
      refine lv_icmp_lt (tgt := 38) hx hb dX5_fateOf_33 (by decide) (fun c_5 => ?_) (fun c_5 => ?_)
      · refine lv_aload_n hx hb dX5_fateOf_38 rfl (lv_at hl 0 rfl) ?_
        refine va_get (D := D) (ci := 5) (v := .int (uu_3 3)) (C := RX5) (T := TX5) (N := 31) hx hb hts iX5 hown hK hP 0 rfl rfl 18 (by decide) hw3 (fun _ h9 => h9) rfl dX5_fateOf_39 ?_
        refine lv_if_le (tgt := 54) hx hb dX5_fateOf_42 (by decide) (fun c_6 => ?_) (fun c_6 => ?_)
        · refine lv_aload_n hx hb dX5_fateOf_54 rfl (lv_at hl 0 rfl) ?_
          refine va_get (D := D) (ci := 5) (v := .int (uu_3 2)) (C := RX5) (T := TX5) (N := 31) hx hb hts iX5 hown hK hP 0 rfl rfl 17 (by decide) hw4 (fun _ h9 => h9) rfl dX5_fateOf_55 ?_
          refine lv_i2l hx hb dX5_fateOf_58 rfl ?_
          refine pcL (va_runS (As := [.long ((uu_3 2).toInt64)]) (rest := []) ⟨hx, hb, hml, hown, hts⟩ (kX5_amount l D cI cO tt (MW am cI g y zz ju_1 uu_3 v X) H ((uu_3 2).toInt64) ) (va_cwS 1 hts gX5_fateOf_X5_amount rfl rfl rfl (by decide +kernel) ⟨(Nat.le_of_ble_eq_true rfl), (Nat.le_of_ble_eq_true rfl)⟩) (pwS hK hZ hN hP hS) rfl rfl hl.1 rfl (lv_room (Nat.le_of_ble_eq_true rfl)) dX5_fateOf_59 ⟨Nat.zero_le _, Nat.zero_le _⟩) hS (fun locs hS => ?_)
          refine lv_aload_n hx hb dX5_fateOf_62 rfl (lv_at hl 0 rfl) ?_
          refine va_get (D := D) (ci := 5) (v := .int (g 100 5)) (C := RX5) (T := TX5) (N := 31) hx hb hts iX5 hown hK hP 0 rfl rfl 23 (by decide) hw5 (fun _ h9 => h9) rfl dX5_fateOf_63 ?_
          refine lv_i2l hx hb dX5_fateOf_66 rfl ?_
          refine W.lcmp hx hb dX5_fateOf_67 ?_
          refine lv_if_le (tgt := 73) hx hb dX5_fateOf_68 (by decide) (fun c_7 => ?_) (fun c_7 => ?_)
          · have c_7 := (lg_cmp_le _ _).mp c_7
            refine lv_aload_n hx hb dX5_fateOf_73 rfl (lv_at hl 0 rfl) ?_
            refine va_get (D := D) (ci := 5) (v := .int (uu_3 0)) (C := RX5) (T := TX5) (N := 31) hx hb hts iX5 hown hK hP 0 rfl rfl 15 (by decide) hw6 (fun _ h9 => h9) rfl dX5_fateOf_74 ?_
            refine lv_i2l hx hb dX5_fateOf_77 rfl ?_
            refine pcL (va_runS (As := [.long ((uu_3 0).toInt64)]) (rest := []) ⟨hx, hb, hml, hown, hts⟩ (kX5_amount l D cI cO tt (MW am cI g y zz ju_1 uu_3 v X) H ((uu_3 0).toInt64) ) (va_cwS 1 hts gX5_fateOf_X5_amount rfl rfl rfl (by decide +kernel) ⟨(Nat.le_of_ble_eq_true rfl), (Nat.le_of_ble_eq_true rfl)⟩) (pwS hK hZ hN hP hS) rfl rfl hl.1 rfl (lv_room (Nat.le_of_ble_eq_true rfl)) dX5_fateOf_78 ⟨Nat.zero_le _, Nat.zero_le _⟩) hS (fun locs hS => ?_)
            refine lv_ldc2 hx hb hown hw7 dX5_fateOf_81 ?_
            refine W.lcmp hx hb dX5_fateOf_84 ?_
            refine lv_if_gt (tgt := 103) hx hb dX5_fateOf_85 (by decide) (fun c_8 => ?_) (fun c_8 => ?_)
            · have c_8 := (lg_cmp_gt _ _).mp c_8
              refine lv_bipush (v := 6) hx hb dX5_fateOf_103 (by decide) ?_
              refine lv_goto (tgt := 109) hx hb dX5_fateOf_105 (by decide) ?_
              exact W.iret (v := 6) hx hb hr (fun t ht hW => ⟨⟨6, (ju_1, uu_3), rfl, (by refine ⟨gd_x hI hp0 c_2 c_4 hfu_3 ?_, fun q hq => hmu_1.2.2 q hq⟩; grind), by rw [ht]; exact hP, hD⟩, hS.F ht⟩) hS.2.2 dX5_fateOf_109
            · have c_8 := fun h => c_8 ((lg_cmp_gt _ _).mpr h)
              refine lv_aload_n hx hb dX5_fateOf_88 rfl (lv_at hl 0 rfl) ?_
              refine va_get (D := D) (ci := 5) (v := .int (uu_3 1)) (C := RX5) (T := TX5) (N := 31) hx hb hts iX5 hown hK hP 0 rfl rfl 16 (by decide) hw8 (fun _ h9 => h9) rfl dX5_fateOf_89 ?_
              refine lv_i2l hx hb dX5_fateOf_92 rfl ?_
              refine pcL (va_runS (As := [.long ((uu_3 1).toInt64)]) (rest := []) ⟨hx, hb, hml, hown, hts⟩ (kX5_amount l D cI cO tt (MW am cI g y zz ju_1 uu_3 v X) H ((uu_3 1).toInt64) ) (va_cwS 1 hts gX5_fateOf_X5_amount rfl rfl rfl (by decide +kernel) ⟨(Nat.le_of_ble_eq_true rfl), (Nat.le_of_ble_eq_true rfl)⟩) (pwS hK hZ hN hP hS) rfl rfl hl.1 rfl (lv_room (Nat.le_of_ble_eq_true rfl)) dX5_fateOf_93 ⟨Nat.zero_le _, Nat.zero_le _⟩) hS (fun locs hS => ?_)
              refine lv_ldc2 hx hb hown hw7 dX5_fateOf_96 ?_
              refine W.lcmp hx hb dX5_fateOf_99 ?_
              refine lv_if_le (tgt := 108) hx hb dX5_fateOf_100 (by decide) (fun c_9 => ?_) (fun c_9 => ?_)
              · have c_9 := (lg_cmp_le _ _).mp c_9
                refine lv_iconst (v := 0) hx hb dX5_fateOf_108 (by decide) ?_
                exact W.iret (v := 0) hx hb hr (fun t ht hW => ⟨⟨0, (ju_1, uu_3), rfl, (by refine ⟨gd_x hI hp0 c_2 c_4 hfu_3 ?_, fun q hq => hmu_1.2.2 q hq⟩; grind), by rw [ht]; exact hP, hD⟩, hS.F ht⟩) hS.2.2 dX5_fateOf_109
              · have c_9 := fun h => c_9 ((lg_cmp_le _ _).mpr h)
                refine lv_bipush (v := 6) hx hb dX5_fateOf_103 (by decide) ?_
                refine lv_goto (tgt := 109) hx hb dX5_fateOf_105 (by decide) ?_
                exact W.iret (v := 6) hx hb hr (fun t ht hW => ⟨⟨6, (ju_1, uu_3), rfl, (by refine ⟨gd_x hI hp0 c_2 c_4 hfu_3 ?_, fun q hq => hmu_1.2.2 q hq⟩; grind), by rw [ht]; exact hP, hD⟩, hS.F ht⟩) hS.2.2 dX5_fateOf_109
          · have c_7 := fun h => c_7 ((lg_cmp_le _ _).mpr h)
            refine lv_iconst (v := 5) hx hb dX5_fateOf_71 (by decide) ?_
            exact W.iret (v := 5) hx hb hr (fun t ht hW => ⟨⟨5, (ju_1, uu_3), rfl, (by refine ⟨gd_x hI hp0 c_2 c_4 hfu_3 ?_, fun q hq => hmu_1.2.2 q hq⟩; grind), by rw [ht]; exact hP, hD⟩, hS.F ht⟩) hS.2.2 dX5_fateOf_72
        · refine lv_aload_n hx hb dX5_fateOf_45 rfl (lv_at hl 0 rfl) ?_
          refine va_get (D := D) (ci := 5) (v := .int (g 100 4)) (C := RX5) (T := TX5) (N := 31) hx hb hts iX5 hown hK hP 0 rfl rfl 22 (by decide) hw9 (fun _ h9 => h9) rfl dX5_fateOf_46 ?_
          refine lv_if_ne (tgt := 54) hx hb dX5_fateOf_49 (by decide) (fun c_10 => ?_) (fun c_10 => ?_)
          · refine lv_aload_n hx hb dX5_fateOf_54 rfl (lv_at hl 0 rfl) ?_
            refine va_get (D := D) (ci := 5) (v := .int (uu_3 2)) (C := RX5) (T := TX5) (N := 31) hx hb hts iX5 hown hK hP 0 rfl rfl 17 (by decide) hw4 (fun _ h9 => h9) rfl dX5_fateOf_55 ?_
            refine lv_i2l hx hb dX5_fateOf_58 rfl ?_
            refine pcL (va_runS (As := [.long ((uu_3 2).toInt64)]) (rest := []) ⟨hx, hb, hml, hown, hts⟩ (kX5_amount l D cI cO tt (MW am cI g y zz ju_1 uu_3 v X) H ((uu_3 2).toInt64) ) (va_cwS 1 hts gX5_fateOf_X5_amount rfl rfl rfl (by decide +kernel) ⟨(Nat.le_of_ble_eq_true rfl), (Nat.le_of_ble_eq_true rfl)⟩) (pwS hK hZ hN hP hS) rfl rfl hl.1 rfl (lv_room (Nat.le_of_ble_eq_true rfl)) dX5_fateOf_59 ⟨Nat.zero_le _, Nat.zero_le _⟩) hS (fun locs hS => ?_)
            refine lv_aload_n hx hb dX5_fateOf_62 rfl (lv_at hl 0 rfl) ?_
            refine va_get (D := D) (ci := 5) (v := .int (g 100 5)) (C := RX5) (T := TX5) (N := 31) hx hb hts iX5 hown hK hP 0 rfl rfl 23 (by decide) hw5 (fun _ h9 => h9) rfl dX5_fateOf_63 ?_
            refine lv_i2l hx hb dX5_fateOf_66 rfl ?_
            refine W.lcmp hx hb dX5_fateOf_67 ?_
            refine lv_if_le (tgt := 73) hx hb dX5_fateOf_68 (by decide) (fun c_11 => ?_) (fun c_11 => ?_)
            · have c_11 := (lg_cmp_le _ _).mp c_11
              refine lv_aload_n hx hb dX5_fateOf_73 rfl (lv_at hl 0 rfl) ?_
              refine va_get (D := D) (ci := 5) (v := .int (uu_3 0)) (C := RX5) (T := TX5) (N := 31) hx hb hts iX5 hown hK hP 0 rfl rfl 15 (by decide) hw6 (fun _ h9 => h9) rfl dX5_fateOf_74 ?_
              refine lv_i2l hx hb dX5_fateOf_77 rfl ?_
              refine pcL (va_runS (As := [.long ((uu_3 0).toInt64)]) (rest := []) ⟨hx, hb, hml, hown, hts⟩ (kX5_amount l D cI cO tt (MW am cI g y zz ju_1 uu_3 v X) H ((uu_3 0).toInt64) ) (va_cwS 1 hts gX5_fateOf_X5_amount rfl rfl rfl (by decide +kernel) ⟨(Nat.le_of_ble_eq_true rfl), (Nat.le_of_ble_eq_true rfl)⟩) (pwS hK hZ hN hP hS) rfl rfl hl.1 rfl (lv_room (Nat.le_of_ble_eq_true rfl)) dX5_fateOf_78 ⟨Nat.zero_le _, Nat.zero_le _⟩) hS (fun locs hS => ?_)
              refine lv_ldc2 hx hb hown hw7 dX5_fateOf_81 ?_
              refine W.lcmp hx hb dX5_fateOf_84 ?_
              refine lv_if_gt (tgt := 103) hx hb dX5_fateOf_85 (by decide) (fun c_12 => ?_) (fun c_12 => ?_)
              · have c_12 := (lg_cmp_gt _ _).mp c_12
                refine lv_bipush (v := 6) hx hb dX5_fateOf_103 (by decide) ?_
                refine lv_goto (tgt := 109) hx hb dX5_fateOf_105 (by decide) ?_
                exact W.iret (v := 6) hx hb hr (fun t ht hW => ⟨⟨6, (ju_1, uu_3), rfl, (by refine ⟨gd_x hI hp0 c_2 c_4 hfu_3 ?_, fun q hq => hmu_1.2.2 q hq⟩; grind), by rw [ht]; exact hP, hD⟩, hS.F ht⟩) hS.2.2 dX5_fateOf_109
              · have c_12 := fun h => c_12 ((lg_cmp_gt _ _).mpr h)
                refine lv_aload_n hx hb dX5_fateOf_88 rfl (lv_at hl 0 rfl) ?_
                refine va_get (D := D) (ci := 5) (v := .int (uu_3 1)) (C := RX5) (T := TX5) (N := 31) hx hb hts iX5 hown hK hP 0 rfl rfl 16 (by decide) hw8 (fun _ h9 => h9) rfl dX5_fateOf_89 ?_
                refine lv_i2l hx hb dX5_fateOf_92 rfl ?_
                refine pcL (va_runS (As := [.long ((uu_3 1).toInt64)]) (rest := []) ⟨hx, hb, hml, hown, hts⟩ (kX5_amount l D cI cO tt (MW am cI g y zz ju_1 uu_3 v X) H ((uu_3 1).toInt64) ) (va_cwS 1 hts gX5_fateOf_X5_amount rfl rfl rfl (by decide +kernel) ⟨(Nat.le_of_ble_eq_true rfl), (Nat.le_of_ble_eq_true rfl)⟩) (pwS hK hZ hN hP hS) rfl rfl hl.1 rfl (lv_room (Nat.le_of_ble_eq_true rfl)) dX5_fateOf_93 ⟨Nat.zero_le _, Nat.zero_le _⟩) hS (fun locs hS => ?_)
                refine lv_ldc2 hx hb hown hw7 dX5_fateOf_96 ?_
                refine W.lcmp hx hb dX5_fateOf_99 ?_
                refine lv_if_le (tgt := 108) hx hb dX5_fateOf_100 (by decide) (fun c_13 => ?_) (fun c_13 => ?_)
                · have c_13 := (lg_cmp_le _ _).mp c_13
                  refine lv_iconst (v := 0) hx hb dX5_fateOf_108 (by decide) ?_
                  exact W.iret (v := 0) hx hb hr (fun t ht hW => ⟨⟨0, (ju_1, uu_3), rfl, (by refine ⟨gd_x hI hp0 c_2 c_4 hfu_3 ?_, fun q hq => hmu_1.2.2 q hq⟩; grind), by rw [ht]; exact hP, hD⟩, hS.F ht⟩) hS.2.2 dX5_fateOf_109
                · have c_13 := fun h => c_13 ((lg_cmp_le _ _).mpr h)
                  refine lv_bipush (v := 6) hx hb dX5_fateOf_103 (by decide) ?_
                  refine lv_goto (tgt := 109) hx hb dX5_fateOf_105 (by decide) ?_
                  exact W.iret (v := 6) hx hb hr (fun t ht hW => ⟨⟨6, (ju_1, uu_3), rfl, (by refine ⟨gd_x hI hp0 c_2 c_4 hfu_3 ?_, fun q hq => hmu_1.2.2 q hq⟩; grind), by rw [ht]; exact hP, hD⟩, hS.F ht⟩) hS.2.2 dX5_fateOf_109
            · have c_11 := fun h => c_11 ((lg_cmp_le _ _).mpr h)
              refine lv_iconst (v := 5) hx hb dX5_fateOf_71 (by decide) ?_
              exact W.iret (v := 5) hx hb hr (fun t ht hW => ⟨⟨5, (ju_1, uu_3), rfl, (by refine ⟨gd_x hI hp0 c_2 c_4 hfu_3 ?_, fun q hq => hmu_1.2.2 q hq⟩; grind), by rw [ht]; exact hP, hD⟩, hS.F ht⟩) hS.2.2 dX5_fateOf_72
          · refine lv_iconst (v := 4) hx hb dX5_fateOf_52 (by decide) ?_
            exact W.iret (v := 4) hx hb hr (fun t ht hW => ⟨⟨4, (ju_1, uu_3), rfl, (by refine ⟨gd_x hI hp0 c_2 c_4 hfu_3 ?_, fun q hq => hmu_1.2.2 q hq⟩; grind), by rw [ht]; exact hP, hD⟩, hS.F ht⟩) hS.2.2 dX5_fateOf_53
      · refine lv_iconst (v := 3) hx hb dX5_fateOf_36 (by decide) ?_
        exact W.iret (v := 3) hx hb hr (fun t ht hW => ⟨⟨3, (ju_1, uu_3), rfl, (by refine ⟨gd_x hI hp0 c_2 c_4 hfu_3 ?_, fun q hq => hmu_1.2.2 q hq⟩; grind), by rw [ht]; exact hP, hD⟩, hS.F ht⟩) hS.2.2 dX5_fateOf_37
    · have c_4 := bI_0.mp c_4
      refine lv_iconst (v := 2) hx hb dX5_fateOf_19 (by decide) ?_
      exact W.iret (v := 2) hx hb hr (fun t ht hW => ⟨⟨2, (ju_1, uu_3), rfl, (by exact ⟨gd_2 c_2 c_4, fun q hq => hmu_1.2.2 q hq⟩), by rw [ht]; exact hP, hD⟩, hS.F ht⟩) hS.2.2 dX5_fateOf_20
  · have c_2 := bI_0.mp c_2
    refine lv_iconst (v := 1) hx hb dX5_fateOf_8 (by decide) ?_
    exact W.iret (v := 1) hx hb hr (fun t ht hW => ⟨⟨1, (ju_1, fu_1), rfl, (by exact ⟨gd_1 c_2, fun q hq => hmu_1.2.2 q hq⟩), by rw [ht]; exact hP, hD⟩, hS.F ht⟩) hS.2.2 dX5_fateOf_9
set_option maxHeartbeats 4000000 in
set_option maxRecDepth 100000 in
theorem kX5_findPace (l : Launch) (D : va_G) (cI cO : ClassId) (tt : Nat) (am : Nat → Nat) (g : Nat → Nat → Int32) (y : Nat → Int32) (zz : Nat → Int32) (j : Nat → Int64) (f : Nat → Int32) (v : Nat → Int32) (X : va_W) (sz : Nat) (p0 : Int32) (c0 : Int32) (hI : WI g) (hM : RM g y zz) (hp0 : isP g p0) (hc0 : isC g c0) : MmI l yX5_findPace wsX5_findPace ({ frames := 3, cells := 0, slots := 0, locals := 74 }) D cI cO tt (MW am cI g y zz j f v X) sz [.ref (am 0), .int p0, .int c0] (S := (Nat → Int64) × (Nat → Int32)) (fun u => MW am cI g y zz u.1 u.2 v X) (fun z u => fpP g p0 c0 j z u.1) := by
  refine Met.ofW (cc := cX5_findPace) (maxL := 3) (ret := (some .boolean)) (by decide) rfl ?_
  intro p e s m args below meth c s₁ B hml hv
  obtain ⟨rfl, hsz, hP, hK, hD0, hZ, hN⟩ := hv
  have hx := B.exec
  have hb := B.bytes
  have hr := B.returns
  have hts := atoms_spec (ws := wsX5_findPace) B.pre
  have hown : s.vm.findClass RX5 = some m.cls := findClass_of_methodNamed B.named
  have hlocks := B.notSynchronized
  subst hsz
  have hD := hD0.self (sz := s.heap.size)
  generalize hAe : va_A (MW am cI g y zz j f v X) s.heap.size = A at hD hZ ⊢
  have hA : ∀ q : Nat, s.heap.size ≤ q → A q := fun q h => by rw [← hAe]; exact Or.inr h
  have hS : va_S A s.heap s.heap [] := va_S.rf
  have hl := lv_entry ([.ref (am 0), .int p0, .int c0]) (n := 3) (Nat.le_of_ble_eq_true rfl)
  rw [lg_entry_eq]
  generalize (lg_sl ([.ref (am 0), .int p0, .int c0]) ++ List.replicate (3 - (lg_sl ([.ref (am 0), .int p0, .int c0])).length) Slot.unset).toArray = ls at hl ⊢
  have hl : lv_has ls 3 [(0, .ref (am 0)), (1, .int p0), (2, .int c0)] := hl
  have hw0 := hts (.fieldLink RX5 97 "LayerSounderModel" "turnedX" "J") (List.mem_cons_of_mem _ (List.mem_append_left _ (List.mem_append_left _ (List.mem_of_getElem? (l := wsX5_findPace_r1) (i := 0) rfl))))
  have iX5 : ∀ w ∈ wsX50, w ∈ wsX5_findPace := fun _ h => List.mem_cons_of_mem _ (List.mem_append_right _ h)
  have hw2 := hts (.fieldLink RX5 141 "LayerSounderModel" "ownX" "J") (List.mem_cons_of_mem _ (List.mem_append_left _ (List.mem_append_left _ (List.mem_of_getElem? (l := wsX5_findPace_r1) (i := 1) rfl))))
  have hw3 := hts (.fieldLink RX5 175 "LayerSounderModel" "paceX" "J") (List.mem_cons_of_mem _ (List.mem_append_left _ (List.mem_append_left _ (List.mem_of_getElem? (l := wsX5_findPace_r1) (i := 2) rfl))))
  have hw4 := hts (.fieldLink RX5 101 "LayerSounderModel" "turnedY" "J") (List.mem_cons_of_mem _ (List.mem_append_left _ (List.mem_append_left _ (List.mem_of_getElem? (l := wsX5_findPace_r1) (i := 3) rfl))))
  have hw5 := hts (.fieldLink RX5 144 "LayerSounderModel" "ownY" "J") (List.mem_cons_of_mem _ (List.mem_append_left _ (List.mem_append_left _ (List.mem_of_getElem? (l := wsX5_findPace_r1) (i := 4) rfl))))
  have hw6 := hts (.fieldLink RX5 178 "LayerSounderModel" "paceY" "J") (List.mem_cons_of_mem _ (List.mem_append_left _ (List.mem_append_left _ (List.mem_of_getElem? (l := wsX5_findPace_r1) (i := 5) rfl))))
  refine lv_aload_n hx hb dX5_findPace_0 rfl (lv_at hl 0 rfl) ?_
  refine lv_iload_n hx hb dX5_findPace_1 rfl (lv_at hl 1 rfl) ?_
  refine mcI (wf := fun u : (Nat → Int64) × (Nat → Int32) => MW am cI g y zz u.1 u.2 v X) (va_runV (As := [.int p0]) (rest := []) ⟨hx, hb, hml, hown, hts⟩ (kX5_findOwn l D cI cO tt am g y zz j f v X s.heap.size p0 hI hM hp0) (cwV 1 hts gX5_findPace_X5_findOwn rfl rfl rfl (by decide +kernel) ⟨(Nat.le_of_ble_eq_true rfl), (Nat.le_of_ble_eq_true rfl)⟩) (mwV hK hZ hN hP hD hS hA (va_recv hK hP (ci := 5) (q0 := 0) rfl rfl)) rfl rfl hl.1 rfl (lv_room (Nat.le_of_ble_eq_true rfl)) dX5_findPace_2 ⟨Nat.zero_le _, Nat.zero_le _⟩) hD hS hA (fun ru_1 uu_1 H locs hu_1 hP hD hS => ?_)
  obtain ⟨ju_1, fu_1⟩ := uu_1
  have hu_1 : moP g p0 j ru_1 ju_1 := hu_1
  obtain ⟨eru_1, hmu_1⟩ : ru_1 = bI (oOk g p0) ∧ moP g p0 j (bI (oOk g p0)) ju_1 := ⟨hu_1.1, hu_1.1 ▸ hu_1⟩
  subst eru_1
  have hP : va_P D vwCl (MW am cI g y zz ju_1 fu_1 v X) H := hP
  have hD : va_D A (MW am cI g y zz ju_1 fu_1 v X) := hD
  refine lv_if_eq (tgt := 17) hx hb dX5_findPace_5 (by decide) (fun c_2 => ?_) (fun c_2 => ?_)
  · have c_2 := bI_0.mp c_2
    refine lv_iconst (v := 0) hx hb dX5_findPace_17 (by decide) ?_
    exact W.zret (v := 0) hx hb hr rfl (fun t ht hW => ⟨⟨0, (ju_1, fu_1), rfl, (by exact ⟨(bI_f (fun q => c_2 q.1)).symm, fun q => absurd q.1 c_2, fun q hq => hmu_1.2.2 q (by omega)⟩), by rw [ht]; exact hP, hD⟩, hS.F ht⟩) hS.2.2 dX5_findPace_18
  · have c_2 := bI_n0.mp c_2
    refine lv_aload_n hx hb dX5_findPace_8 rfl (lv_at hl 0 rfl) ?_
    refine lv_iload_n hx hb dX5_findPace_9 rfl (lv_at hl 1 rfl) ?_
    refine lv_iload_n hx hb dX5_findPace_10 rfl (lv_at hl 2 rfl) ?_
    refine mcI (wf := fun u : Nat → Int32 => MW am cI g y zz ju_1 u v X) (va_runV (As := [.int p0, .int c0]) (rest := []) ⟨hx, hb, hml, hown, hts⟩ (kX5_cellAnswers l D cI cO tt am g y zz ju_1 fu_1 v X H.size p0 c0 hI hM hp0 hc0) (cwV 2 hts gX5_findPace_X5_cellAnswers rfl rfl rfl (by decide +kernel) ⟨(Nat.le_of_ble_eq_true rfl), (Nat.le_of_ble_eq_true rfl)⟩) (mwV hK hZ hN hP hD hS hA (va_recv hK hP (ci := 5) (q0 := 0) rfl rfl)) rfl rfl hl.1 rfl (lv_room (Nat.le_of_ble_eq_true rfl)) dX5_findPace_11 ⟨Nat.zero_le _, Nat.zero_le _⟩) hD hS hA (fun ru_3 uu_3 H locs hu_3 hP hD hS => ?_)
    obtain ⟨eru_3, hfu_3⟩ := (show caP g p0 c0 ru_3 uu_3 from hu_3)
    subst eru_3
    have hP : va_P D vwCl (MW am cI g y zz ju_1 uu_3 v X) H := hP
    have hD : va_D A (MW am cI g y zz ju_1 uu_3 v X) := hD
    refine lv_if_ne (tgt := 19) hx hb dX5_findPace_14 (by decide) (fun c_4 => ?_) (fun c_4 => ?_)
    · have c_4 := bI_n0.mp c_4
      refine lv_aload_n hx hb dX5_findPace_19 rfl (lv_at hl 0 rfl) ?_
      refine lv_iload_n hx hb dX5_findPace_20 rfl (lv_at hl 1 rfl) ?_
      refine mcV (wf := fun u : Nat → Int64 => MW am cI g y zz u uu_3 v X) (va_runV (As := [.int p0]) (rest := []) ⟨hx, hb, hml, hown, hts⟩ (kX5_bring l D cI cO tt am g y zz ju_1 uu_3 v X H.size p0 hI hp0) (cwV 1 hts gX5_findPace_X5_bring rfl rfl rfl (by decide +kernel) ⟨(Nat.le_of_ble_eq_true rfl), (Nat.le_of_ble_eq_true rfl)⟩) (mwV hK hZ hN hP hD hS hA (va_recv hK hP (ci := 5) (q0 := 0) rfl rfl)) rfl rfl hl.1 rfl (lv_room (Nat.le_of_ble_eq_true rfl)) dX5_findPace_21 ⟨Nat.zero_le _, Nat.zero_le _⟩) hD hS hA (fun uu_5 H locs hu_5 hP hD hS => ?_)
      have hP : va_P D vwCl (MW am cI g y zz uu_5 uu_3 v X) H := hP
      have hD : va_D A (MW am cI g y zz uu_5 uu_3 v X) := hD
      refine lv_aload_n hx hb dX5_findPace_24 rfl (lv_at hl 0 rfl) ?_
      refine lv_aload_n hx hb dX5_findPace_25 rfl (lv_at hl 0 rfl) ?_
      refine va_get (D := D) (ci := 5) (v := .long (uu_5 0)) (C := RX5) (T := TX5) (N := 31) hx hb hts iX5 hown hK hP 0 rfl rfl 13 (by decide) hw0 (fun _ h9 => h9) rfl dX5_findPace_26 ?_
      refine lv_aload_n hx hb dX5_findPace_29 rfl (lv_at hl 0 rfl) ?_
      refine va_get (D := D) (ci := 5) (v := .long (uu_5 2)) (C := RX5) (T := TX5) (N := 31) hx hb hts iX5 hown hK hP 0 rfl rfl 24 (by decide) hw2 (fun _ h9 => h9) rfl dX5_findPace_30 ?_
      refine lv_lsub hx hb dX5_findPace_33 ?_
      refine va_put (D := D) (ci := 5) (v := .long ((uu_5 0) - (uu_5 2))) (C := RX5) (T := TX5) (N := 31) hx hb hts iX5 tyX5 tyX5_ok nmX5 hown hK hP hD hS 0 rfl rfl 26 (by decide) hw3 (fun _ h9 => h9) rfl (tyX5_ok 26 (by decide)) rfl rfl (Nat.le_of_ble_eq_true rfl) dX5_findPace_34 (fun H locs hP hD hS => ?_)
      have hP : va_P D vwCl (MW am cI g y zz (va_up uu_5 4 ((uu_5 0) - (uu_5 2))) uu_3 v X) H := hP
      have hD : va_D A (MW am cI g y zz (va_up uu_5 4 ((uu_5 0) - (uu_5 2))) uu_3 v X) := hD
      refine lv_aload_n hx hb dX5_findPace_37 rfl (lv_at hl 0 rfl) ?_
      refine lv_aload_n hx hb dX5_findPace_38 rfl (lv_at hl 0 rfl) ?_
      refine va_get (D := D) (ci := 5) (v := .long (va_up uu_5 4 ((uu_5 0) - (uu_5 2)) 1)) (C := RX5) (T := TX5) (N := 31) hx hb hts iX5 hown hK hP 0 rfl rfl 14 (by decide) hw4 (fun _ h9 => h9) rfl dX5_findPace_39 ?_
      refine lv_aload_n hx hb dX5_findPace_42 rfl (lv_at hl 0 rfl) ?_
      refine va_get (D := D) (ci := 5) (v := .long (va_up uu_5 4 ((uu_5 0) - (uu_5 2)) 3)) (C := RX5) (T := TX5) (N := 31) hx hb hts iX5 hown hK hP 0 rfl rfl 25 (by decide) hw5 (fun _ h9 => h9) rfl dX5_findPace_43 ?_
      refine lv_lsub hx hb dX5_findPace_46 ?_
      refine va_put (D := D) (ci := 5) (v := .long ((va_up uu_5 4 ((uu_5 0) - (uu_5 2)) 1) - (va_up uu_5 4 ((uu_5 0) - (uu_5 2)) 3))) (C := RX5) (T := TX5) (N := 31) hx hb hts iX5 tyX5 tyX5_ok nmX5 hown hK hP hD hS 0 rfl rfl 27 (by decide) hw6 (fun _ h9 => h9) rfl (tyX5_ok 27 (by decide)) rfl rfl (Nat.le_of_ble_eq_true rfl) dX5_findPace_47 (fun H locs hP hD hS => ?_)
      have hP : va_P D vwCl (MW am cI g y zz (va_up (va_up uu_5 4 ((uu_5 0) - (uu_5 2))) 5 ((va_up uu_5 4 ((uu_5 0) - (uu_5 2)) 1) - (va_up uu_5 4 ((uu_5 0) - (uu_5 2)) 3))) uu_3 v X) H := hP
      have hD : va_D A (MW am cI g y zz (va_up (va_up uu_5 4 ((uu_5 0) - (uu_5 2))) 5 ((va_up uu_5 4 ((uu_5 0) - (uu_5 2)) 1) - (va_up uu_5 4 ((uu_5 0) - (uu_5 2)) 3))) uu_3 v X) := hD
      refine lv_iconst (v := 1) hx hb dX5_findPace_50 (by decide) ?_
      exact W.zret (v := 1) hx hb hr rfl (fun t ht hW => ⟨⟨1, (va_up (va_up uu_5 4 ((uu_5 0) - (uu_5 2))) 5 ((va_up uu_5 4 ((uu_5 0) - (uu_5 2)) 1) - (va_up uu_5 4 ((uu_5 0) - (uu_5 2)) 3)), uu_3), rfl, (by exact fp_y hp0 c_2 c_4 hmu_1 ⟨(hfu_3.2 c_4).1, (hfu_3.2 c_4).2.1⟩ hu_5), by rw [ht]; exact hP, hD⟩, hS.F ht⟩) hS.2.2 dX5_findPace_51
    · have c_4 := bI_0.mp c_4
      refine lv_iconst (v := 0) hx hb dX5_findPace_17 (by decide) ?_
      exact W.zret (v := 0) hx hb hr rfl (fun t ht hW => ⟨⟨0, (ju_1, uu_3), rfl, (by exact ⟨(bI_f (fun q => c_4 q.2)).symm, fun q => absurd q.2 c_4, fun q hq => hmu_1.2.2 q (by omega)⟩), by rw [ht]; exact hP, hD⟩, hS.F ht⟩) hS.2.2 dX5_findPace_18
