set_option maxHeartbeats 4000000 in
set_option maxRecDepth 100000 in
theorem kX5_count (l : Launch) (D : va_G) (cI cO : ClassId) (tt : Nat) (am : Nat → Nat) (g : Nat → Nat → Int32) (y : Nat → Int32) (zz : Nat → Int32) (j : Nat → Int64) (f : Nat → Int32) (v : Nat → Int32) (X : va_W) (H0 : Heap) (w0 : Int32)  : MpI l yX5_count wsX5_count ({ frames := 0, cells := 0, slots := 0, locals := 0 }) D cI cO tt (MW am cI g y zz j f v X) H0 [.ref (am 0), .int w0] (fCount g w0) := by
  refine Met.ofW (cc := cX5_count) (maxL := 2) (ret := (some .int)) (by decide) rfl ?_
  intro p e s m args below meth c s₁ B hml hv
  obtain ⟨rfl, rfl, hP, hK, hZ, hN⟩ := hv
  have hx := B.exec
  have hb := B.bytes
  have hr := B.returns
  have hts := atoms_spec (ws := wsX5_count) B.pre
  have hown : s.vm.findClass RX5 = some m.cls := findClass_of_methodNamed B.named
  have hlocks := B.notSynchronized
  have hS : va_S (fun _ => False) s.heap s.heap [] := va_S.rf
  have hl := lv_entry ([.ref (am 0), .int w0]) (n := 2) (Nat.le_of_ble_eq_true rfl)
  rw [lg_entry_eq]
  generalize (lg_sl ([.ref (am 0), .int w0]) ++ List.replicate (2 - (lg_sl ([.ref (am 0), .int w0])).length) Slot.unset).toArray = ls at hl ⊢
  have hl : lv_has ls 2 [(0, .ref (am 0)), (1, .int w0)] := hl
  have hw0 := hts (.fieldLink RX5 82 "LayerSounderModel" "pings" "I") (List.mem_cons_of_mem _ (List.mem_append_left _ (List.mem_of_getElem? (i := 0) rfl)))
  have iX5 : ∀ w ∈ wsX50, w ∈ wsX5_count := fun _ h => List.mem_cons_of_mem _ (List.mem_append_right _ h)
  have hw2 := hts (.fieldLink RX5 28 "LayerSounderModel" "l" "I") (List.mem_cons_of_mem _ (List.mem_append_left _ (List.mem_of_getElem? (i := 1) rfl)))
  have hw3 := hts (.fieldLink RX5 130 "LayerSounderModel" "motion" "I") (List.mem_cons_of_mem _ (List.mem_append_left _ (List.mem_of_getElem? (i := 2) rfl)))
  have hw4 := hts (.fieldLink RX5 133 "LayerSounderModel" "skew" "I") (List.mem_cons_of_mem _ (List.mem_append_left _ (List.mem_of_getElem? (i := 3) rfl)))
  have hw5 := hts (.fieldLink RX5 138 "LayerSounderModel" "edge" "I") (List.mem_cons_of_mem _ (List.mem_append_left _ (List.mem_of_getElem? (i := 4) rfl)))
  have hw6 := hts (.fieldLink RX5 53 "LayerSounderModel" "latest" "I") (List.mem_cons_of_mem _ (List.mem_append_left _ (List.mem_of_getElem? (i := 5) rfl)))
  have hw7 := hts (.fieldLink RX5 48 "LayerSounderModel" "bound" "I") (List.mem_cons_of_mem _ (List.mem_append_left _ (List.mem_of_getElem? (i := 6) rfl)))
  have hw8 := hts (.fieldLink RX5 44 "LayerSounderModel" "takes" "Z") (List.mem_cons_of_mem _ (List.mem_append_left _ (List.mem_of_getElem? (i := 7) rfl)))
  refine lv_iload_n hx hb dX5_count_0 rfl (lv_at hl 1 rfl) ?_
  rcases sw_7 w0 with c_1 | c_1 | c_1 | c_1 | c_1 | c_1 | c_1 | c_1 | c_1
  · refine lv_tableOut (tgt := 96) hx hb dX5_count_1 c_1.1 (by decide) ?_
    replace c_1 := c_1.2
    refine lv_bipush (v := (-2)) hx hb dX5_count_96 (by decide) ?_
    exact W.iret (v := (-2)) hx hb hr (fun t ht hW => ⟨⟨(-2), (), rfl, (by grind [fCount, bI]), ht⟩, hS.F ht⟩) hS.2.2 dX5_count_98
  · refine lv_tableIn (tgt := 48) hx hb dX5_count_1 (by rw [c_1]; decide) (by rw [c_1]; decide) (by rw [c_1]; rfl) (by decide) ?_
    refine lv_aload_n hx hb dX5_count_48 rfl (lv_at hl 0 rfl) ?_
    refine va_get (D := D) (ci := 5) (v := .int (g 100 7)) (C := RX5) (T := TX5) (N := 31) hx hb hts iX5 hown hK hP 0 rfl rfl 8 (by decide) hw0 (fun _ h9 => h9) rfl dX5_count_49 ?_
    exact W.iret (v := g 100 7) hx hb hr (fun t ht hW => ⟨⟨g 100 7, (), rfl, (by grind [fCount, bI]), ht⟩, hS.F ht⟩) hS.2.2 dX5_count_52
  · refine lv_tableIn (tgt := 53) hx hb dX5_count_1 (by rw [c_1]; decide) (by rw [c_1]; decide) (by rw [c_1]; rfl) (by decide) ?_
    refine lv_aload_n hx hb dX5_count_53 rfl (lv_at hl 0 rfl) ?_
    refine va_get (D := D) (ci := 5) (v := .int (g 100 0)) (C := RX5) (T := TX5) (N := 31) hx hb hts iX5 hown hK hP 0 rfl rfl 7 (by decide) hw2 (fun _ h9 => h9) rfl dX5_count_54 ?_
    exact W.iret (v := g 100 0) hx hb hr (fun t ht hW => ⟨⟨g 100 0, (), rfl, (by grind [fCount, bI]), ht⟩, hS.F ht⟩) hS.2.2 dX5_count_57
  · refine lv_tableIn (tgt := 58) hx hb dX5_count_1 (by rw [c_1]; decide) (by rw [c_1]; decide) (by rw [c_1]; rfl) (by decide) ?_
    refine lv_aload_n hx hb dX5_count_58 rfl (lv_at hl 0 rfl) ?_
    refine va_get (D := D) (ci := 5) (v := .int (g 100 1)) (C := RX5) (T := TX5) (N := 31) hx hb hts iX5 hown hK hP 0 rfl rfl 19 (by decide) hw3 (fun _ h9 => h9) rfl dX5_count_59 ?_
    exact W.iret (v := g 100 1) hx hb hr (fun t ht hW => ⟨⟨g 100 1, (), rfl, (by grind [fCount, bI]), ht⟩, hS.F ht⟩) hS.2.2 dX5_count_62
  · refine lv_tableIn (tgt := 63) hx hb dX5_count_1 (by rw [c_1]; decide) (by rw [c_1]; decide) (by rw [c_1]; rfl) (by decide) ?_
    refine lv_aload_n hx hb dX5_count_63 rfl (lv_at hl 0 rfl) ?_
    refine va_get (D := D) (ci := 5) (v := .int (g 100 2)) (C := RX5) (T := TX5) (N := 31) hx hb hts iX5 hown hK hP 0 rfl rfl 20 (by decide) hw4 (fun _ h9 => h9) rfl dX5_count_64 ?_
    exact W.iret (v := g 100 2) hx hb hr (fun t ht hW => ⟨⟨g 100 2, (), rfl, (by grind [fCount, bI]), ht⟩, hS.F ht⟩) hS.2.2 dX5_count_67
  · refine lv_tableIn (tgt := 68) hx hb dX5_count_1 (by rw [c_1]; decide) (by rw [c_1]; decide) (by rw [c_1]; rfl) (by decide) ?_
    refine lv_aload_n hx hb dX5_count_68 rfl (lv_at hl 0 rfl) ?_
    refine va_get (D := D) (ci := 5) (v := .int (g 100 3)) (C := RX5) (T := TX5) (N := 31) hx hb hts iX5 hown hK hP 0 rfl rfl 21 (by decide) hw5 (fun _ h9 => h9) rfl dX5_count_69 ?_
    exact W.iret (v := g 100 3) hx hb hr (fun t ht hW => ⟨⟨g 100 3, (), rfl, (by grind [fCount, bI]), ht⟩, hS.F ht⟩) hS.2.2 dX5_count_72
  · refine lv_tableIn (tgt := 73) hx hb dX5_count_1 (by rw [c_1]; decide) (by rw [c_1]; decide) (by rw [c_1]; rfl) (by decide) ?_
    refine lv_aload_n hx hb dX5_count_73 rfl (lv_at hl 0 rfl) ?_
    refine va_get (D := D) (ci := 5) (v := .int (g 100 6)) (C := RX5) (T := TX5) (N := 31) hx hb hts iX5 hown hK hP 0 rfl rfl 6 (by decide) hw6 (fun _ h9 => h9) rfl dX5_count_74 ?_
    exact W.iret (v := g 100 6) hx hb hr (fun t ht hW => ⟨⟨g 100 6, (), rfl, (by grind [fCount, bI]), ht⟩, hS.F ht⟩) hS.2.2 dX5_count_77
  · refine lv_tableIn (tgt := 78) hx hb dX5_count_1 (by rw [c_1]; decide) (by rw [c_1]; decide) (by rw [c_1]; rfl) (by decide) ?_
    refine lv_aload_n hx hb dX5_count_78 rfl (lv_at hl 0 rfl) ?_
    refine va_get (D := D) (ci := 5) (v := .int (g 100 5)) (C := RX5) (T := TX5) (N := 31) hx hb hts iX5 hown hK hP 0 rfl rfl 23 (by decide) hw7 (fun _ h9 => h9) rfl dX5_count_79 ?_
    exact W.iret (v := g 100 5) hx hb hr (fun t ht hW => ⟨⟨g 100 5, (), rfl, (by grind [fCount, bI]), ht⟩, hS.F ht⟩) hS.2.2 dX5_count_82
  · refine lv_tableIn (tgt := 83) hx hb dX5_count_1 (by rw [c_1]; decide) (by rw [c_1]; decide) (by rw [c_1]; rfl) (by decide) ?_
    refine lv_aload_n hx hb dX5_count_83 rfl (lv_at hl 0 rfl) ?_
    refine va_get (D := D) (ci := 5) (v := .int (g 100 4)) (C := RX5) (T := TX5) (N := 31) hx hb hts iX5 hown hK hP 0 rfl rfl 22 (by decide) hw8 (fun _ h9 => h9) rfl dX5_count_84 ?_
    refine lv_if_eq (tgt := 94) hx hb dX5_count_87 (by decide) (fun c_2 => ?_) (fun c_2 => ?_)
    · refine lv_iconst (v := 0) hx hb dX5_count_94 (by decide) ?_
      exact W.iret (v := 0) hx hb hr (fun t ht hW => ⟨⟨0, (), rfl, (by grind [fCount, bI]), ht⟩, hS.F ht⟩) hS.2.2 dX5_count_95
    · refine lv_iconst (v := 1) hx hb dX5_count_90 (by decide) ?_
      refine lv_goto (tgt := 95) hx hb dX5_count_91 (by decide) ?_
      exact W.iret (v := 1) hx hb hr (fun t ht hW => ⟨⟨1, (), rfl, (by grind [fCount, bI]), ht⟩, hS.F ht⟩) hS.2.2 dX5_count_95
set_option maxHeartbeats 4000000 in
set_option maxRecDepth 100000 in
theorem kX5_beam (l : Launch) (D : va_G) (cI cO : ClassId) (tt : Nat) (am : Nat → Nat) (g : Nat → Nat → Int32) (y : Nat → Int32) (zz : Nat → Int32) (j : Nat → Int64) (f : Nat → Int32) (v : Nat → Int32) (X : va_W) (H0 : Heap) (a0 : Int32) (c0 : Int32) (o0 : Int32) (s0 : Int32) (b0 : Int32)  : MpI l yX5_beam wsX5_beam ({ frames := 1, cells := 0, slots := 0, locals := 25 }) D cI cO tt (MW am cI g y zz j f v X) H0 [.ref (am 0), .int a0, .int c0, .int o0, .int s0, .int b0] (fBeam a0 c0 o0 s0 b0) := by
  refine Met.ofW (cc := cX5_beam) (maxL := 9) (ret := (some .int)) (by decide) rfl ?_
  intro p e s m args below meth c s₁ B hml hv
  obtain ⟨rfl, rfl, hP, hK, hZ, hN⟩ := hv
  have hx := B.exec
  have hb := B.bytes
  have hr := B.returns
  have hts := atoms_spec (ws := wsX5_beam) B.pre
  have hown : s.vm.findClass RX5 = some m.cls := findClass_of_methodNamed B.named
  have hlocks := B.notSynchronized
  have hS : va_S (fun _ => False) s.heap s.heap [] := va_S.rf
  have hl := lv_entry ([.ref (am 0), .int a0, .int c0, .int o0, .int s0, .int b0]) (n := 9) (Nat.le_of_ble_eq_true rfl)
  rw [lg_entry_eq]
  generalize (lg_sl ([.ref (am 0), .int a0, .int c0, .int o0, .int s0, .int b0]) ++ List.replicate (9 - (lg_sl ([.ref (am 0), .int a0, .int c0, .int o0, .int s0, .int b0])).length) Slot.unset).toArray = ls at hl ⊢
  have hl : lv_has ls 9 [(0, .ref (am 0)), (1, .int a0), (2, .int c0), (3, .int o0), (4, .int s0), (5, .int b0)] := hl
  have hw0 := hts (.constantLong RX5 126 (-20000)) (List.mem_cons_of_mem _ ((List.mem_of_getElem? (i := 0) rfl)))
  have hw1 := hts (.constantLong RX5 128 (20000)) (List.mem_cons_of_mem _ ((List.mem_of_getElem? (i := 1) rfl)))
  have hw2 := hts (.constant RX5 76 (-2147483648)) (List.mem_cons_of_mem _ ((List.mem_of_getElem? (i := 5) rfl)))
  have hw3 := hts (.constantLong RX5 87 (-1000000)) (List.mem_cons_of_mem _ ((List.mem_of_getElem? (i := 2) rfl)))
  have hw4 := hts (.constantLong RX5 89 (1000000)) (List.mem_cons_of_mem _ ((List.mem_of_getElem? (i := 3) rfl)))
  have hw5 := hts (.constantLong RX5 120 (3)) (List.mem_cons_of_mem _ ((List.mem_of_getElem? (i := 4) rfl)))
  refine lv_iload_n hx hb dX5_beam_0 rfl (lv_at hl 1 rfl) ?_
  refine lv_i2l hx hb dX5_beam_1 rfl ?_
  refine lv_ldc2 hx hb hown hw0 dX5_beam_2 ?_
  refine lv_ldc2 hx hb hown hw1 dX5_beam_5 ?_
  refine pcI (va_runS (As := [.long a0.toInt64, .long (-20000), .long 20000]) (rest := []) ⟨hx, hb, hml, hown, hts⟩ (kX5_in l D cI cO tt (MW am cI g y zz j f v X) s.heap a0 ((-20000) : Int32) (20000 : Int32) a0.toInt64 (-20000) 20000 rfl (by decide) (by decide)) (va_cwS 3 hts gX5_beam_X5_in rfl rfl rfl (by decide +kernel) ⟨(Nat.le_of_ble_eq_true rfl), (Nat.le_of_ble_eq_true rfl)⟩) (pwS hK hZ hN hP hS) rfl rfl hl.1 rfl (lv_room (Nat.le_of_ble_eq_true rfl)) dX5_beam_8 ⟨Nat.zero_le _, Nat.zero_le _⟩) hS (fun locs hS => ?_)
  refine lv_if_eq (tgt := 46) hx hb dX5_beam_11 (by decide) (fun c_1 => ?_) (fun c_1 => ?_)
  · have c_1 := bI_0.mp c_1
    refine lv_iconst (v := 0) hx hb dX5_beam_46 (by decide) ?_
    refine lv_istore (lv' := [(6, .int 0), (0, .ref (am 0)), (1, .int a0), (2, .int c0), (3, .int o0), (4, .int s0), (5, .int b0)]) hx hb dX5_beam_47 hl (by decide) rfl (fun ls hl => ?_)
    refine lv_iload hx hb dX5_beam_49 (lv_at hl 0 rfl) ?_
    refine lv_if_eq (tgt := 82) hx hb dX5_beam_51 (by decide) (fun c_2 => ?_) (fun c_2 => ?_)
    · refine lv_ldc hx hb hown hw2 dX5_beam_82 ?_
      exact W.iret (v := (-2147483648)) hx hb hr (fun t ht hW => ⟨⟨(-2147483648), (), rfl, (by grind [fBeam]), ht⟩, hS.F ht⟩) hS.2.2 dX5_beam_84
    · exact absurd rfl c_2
  · have c_1 := bI_n0.mp c_1
    refine lv_iload_n hx hb dX5_beam_14 rfl (lv_at hl 2 rfl) ?_
    refine lv_i2l hx hb dX5_beam_15 rfl ?_
    refine lv_ldc2 hx hb hown hw0 dX5_beam_16 ?_
    refine lv_ldc2 hx hb hown hw1 dX5_beam_19 ?_
    refine pcI (va_runS (As := [.long c0.toInt64, .long (-20000), .long 20000]) (rest := []) ⟨hx, hb, hml, hown, hts⟩ (kX5_in l D cI cO tt (MW am cI g y zz j f v X) s.heap c0 ((-20000) : Int32) (20000 : Int32) c0.toInt64 (-20000) 20000 rfl (by decide) (by decide)) (va_cwS 3 hts gX5_beam_X5_in rfl rfl rfl (by decide +kernel) ⟨(Nat.le_of_ble_eq_true rfl), (Nat.le_of_ble_eq_true rfl)⟩) (pwS hK hZ hN hP hS) rfl rfl hl.1 rfl (lv_room (Nat.le_of_ble_eq_true rfl)) dX5_beam_22 ⟨Nat.zero_le _, Nat.zero_le _⟩) hS (fun locs hS => ?_)
    refine lv_if_eq (tgt := 46) hx hb dX5_beam_25 (by decide) (fun c_3 => ?_) (fun c_3 => ?_)
    · have c_3 := bI_0.mp c_3
      refine lv_iconst (v := 0) hx hb dX5_beam_46 (by decide) ?_
      refine lv_istore (lv' := [(6, .int 0), (0, .ref (am 0)), (1, .int a0), (2, .int c0), (3, .int o0), (4, .int s0), (5, .int b0)]) hx hb dX5_beam_47 hl (by decide) rfl (fun ls hl => ?_)
      refine lv_iload hx hb dX5_beam_49 (lv_at hl 0 rfl) ?_
      refine lv_if_eq (tgt := 82) hx hb dX5_beam_51 (by decide) (fun c_4 => ?_) (fun c_4 => ?_)
      · refine lv_ldc hx hb hown hw2 dX5_beam_82 ?_
        exact W.iret (v := (-2147483648)) hx hb hr (fun t ht hW => ⟨⟨(-2147483648), (), rfl, (by grind [fBeam]), ht⟩, hS.F ht⟩) hS.2.2 dX5_beam_84
      · exact absurd rfl c_4
    · have c_3 := bI_n0.mp c_3
      refine lv_iload_n hx hb dX5_beam_28 rfl (lv_at hl 3 rfl) ?_
      refine lv_i2l hx hb dX5_beam_29 rfl ?_
      refine lv_ldc2 hx hb hown hw0 dX5_beam_30 ?_
      refine lv_ldc2 hx hb hown hw1 dX5_beam_33 ?_
      refine pcI (va_runS (As := [.long o0.toInt64, .long (-20000), .long 20000]) (rest := []) ⟨hx, hb, hml, hown, hts⟩ (kX5_in l D cI cO tt (MW am cI g y zz j f v X) s.heap o0 ((-20000) : Int32) (20000 : Int32) o0.toInt64 (-20000) 20000 rfl (by decide) (by decide)) (va_cwS 3 hts gX5_beam_X5_in rfl rfl rfl (by decide +kernel) ⟨(Nat.le_of_ble_eq_true rfl), (Nat.le_of_ble_eq_true rfl)⟩) (pwS hK hZ hN hP hS) rfl rfl hl.1 rfl (lv_room (Nat.le_of_ble_eq_true rfl)) dX5_beam_36 ⟨Nat.zero_le _, Nat.zero_le _⟩) hS (fun locs hS => ?_)
      refine lv_if_eq (tgt := 46) hx hb dX5_beam_39 (by decide) (fun c_5 => ?_) (fun c_5 => ?_)
      · have c_5 := bI_0.mp c_5
        refine lv_iconst (v := 0) hx hb dX5_beam_46 (by decide) ?_
        refine lv_istore (lv' := [(6, .int 0), (0, .ref (am 0)), (1, .int a0), (2, .int c0), (3, .int o0), (4, .int s0), (5, .int b0)]) hx hb dX5_beam_47 hl (by decide) rfl (fun ls hl => ?_)
        refine lv_iload hx hb dX5_beam_49 (lv_at hl 0 rfl) ?_
        refine lv_if_eq (tgt := 82) hx hb dX5_beam_51 (by decide) (fun c_6 => ?_) (fun c_6 => ?_)
        · refine lv_ldc hx hb hown hw2 dX5_beam_82 ?_
          exact W.iret (v := (-2147483648)) hx hb hr (fun t ht hW => ⟨⟨(-2147483648), (), rfl, (by grind [fBeam]), ht⟩, hS.F ht⟩) hS.2.2 dX5_beam_84
        · exact absurd rfl c_6
      · have c_5 := bI_n0.mp c_5
        refine lv_iconst (v := 1) hx hb dX5_beam_42 (by decide) ?_
        refine lv_goto (tgt := 47) hx hb dX5_beam_43 (by decide) ?_
        refine lv_istore (lv' := [(6, .int 1), (0, .ref (am 0)), (1, .int a0), (2, .int c0), (3, .int o0), (4, .int s0), (5, .int b0)]) hx hb dX5_beam_47 hl (by decide) rfl (fun ls hl => ?_)
        refine lv_iload hx hb dX5_beam_49 (lv_at hl 0 rfl) ?_
        refine lv_if_eq (tgt := 82) hx hb dX5_beam_51 (by decide) (fun c_7 => ?_) (fun c_7 => ?_)
        · exact absurd c_7 (by decide)
        · refine lv_iload hx hb dX5_beam_54 (lv_at hl 5 rfl) ?_
          refine lv_i2l hx hb dX5_beam_56 rfl ?_
          refine lv_ldc2 hx hb hown hw3 dX5_beam_57 ?_
          refine lv_ldc2 hx hb hown hw4 dX5_beam_60 ?_
          refine pcI (va_runS (As := [.long s0.toInt64, .long (-1000000), .long 1000000]) (rest := []) ⟨hx, hb, hml, hown, hts⟩ (kX5_in l D cI cO tt (MW am cI g y zz j f v X) s.heap s0 ((-1000000) : Int32) (1000000 : Int32) s0.toInt64 (-1000000) 1000000 rfl (by decide) (by decide)) (va_cwS 3 hts gX5_beam_X5_in rfl rfl rfl (by decide +kernel) ⟨(Nat.le_of_ble_eq_true rfl), (Nat.le_of_ble_eq_true rfl)⟩) (pwS hK hZ hN hP hS) rfl rfl hl.1 rfl (lv_room (Nat.le_of_ble_eq_true rfl)) dX5_beam_63 ⟨Nat.zero_le _, Nat.zero_le _⟩) hS (fun locs hS => ?_)
          refine lv_if_eq (tgt := 82) hx hb dX5_beam_66 (by decide) (fun c_8 => ?_) (fun c_8 => ?_)
          · have c_8 := bI_0.mp c_8
            refine lv_ldc hx hb hown hw2 dX5_beam_82 ?_
            exact W.iret (v := (-2147483648)) hx hb hr (fun t ht hW => ⟨⟨(-2147483648), (), rfl, (by grind [fBeam]), ht⟩, hS.F ht⟩) hS.2.2 dX5_beam_84
          · have c_8 := bI_n0.mp c_8
            refine lv_iload hx hb dX5_beam_69 (lv_at hl 6 rfl) ?_
            refine lv_i2l hx hb dX5_beam_71 rfl ?_
            refine lv_lconst (v := 0) hx hb dX5_beam_72 (by decide) ?_
            refine lv_ldc2 hx hb hown hw5 dX5_beam_73 ?_
            refine pcI (va_runS (As := [.long b0.toInt64, .long 0, .long 3]) (rest := []) ⟨hx, hb, hml, hown, hts⟩ (kX5_in l D cI cO tt (MW am cI g y zz j f v X) s.heap b0 (0 : Int32) (3 : Int32) b0.toInt64 0 3 rfl (by decide) (by decide)) (va_cwS 3 hts gX5_beam_X5_in rfl rfl rfl (by decide +kernel) ⟨(Nat.le_of_ble_eq_true rfl), (Nat.le_of_ble_eq_true rfl)⟩) (pwS hK hZ hN hP hS) rfl rfl hl.1 rfl (lv_room (Nat.le_of_ble_eq_true rfl)) dX5_beam_76 ⟨Nat.zero_le _, Nat.zero_le _⟩) hS (fun locs hS => ?_)
            refine lv_if_ne (tgt := 85) hx hb dX5_beam_79 (by decide) (fun c_9 => ?_) (fun c_9 => ?_)
            · have c_9 := bI_n0.mp c_9
              refine lv_iload hx hb dX5_beam_85 (lv_at hl 6 rfl) ?_
              refine lv_iconst (v := 2) hx hb dX5_beam_87 (by decide) ?_
              refine lv_icmp_ge (tgt := 98) hx hb dX5_beam_88 (by decide) (fun c_10 => ?_) (fun c_10 => ?_)
              · refine lv_iload hx hb dX5_beam_98 (lv_at hl 5 rfl) ?_
                refine lv_iload_n hx hb dX5_beam_100 rfl (lv_at hl 4 rfl) ?_
                refine lv_isub hx hb dX5_beam_101 ?_
                refine lv_istore (lv' := [(7, .int (s0 - o0)), (6, .int 1), (0, .ref (am 0)), (1, .int a0), (2, .int c0), (3, .int o0), (4, .int s0), (5, .int b0)]) hx hb dX5_beam_102 hl (by decide) rfl (fun ls hl => ?_)
                refine lv_iload hx hb dX5_beam_104 (lv_at hl 7 rfl) ?_
                refine lv_iconst (v := 2) hx hb dX5_beam_106 (by decide) ?_
                refine lv_icmp_ge (tgt := 116) hx hb dX5_beam_107 (by decide) (fun c_11 => ?_) (fun c_11 => ?_)
                · refine lv_iconst (v := 2) hx hb dX5_beam_116 (by decide) ?_
                  refine lv_iload_n hx hb dX5_beam_117 rfl (lv_at hl 4 rfl) ?_
                  refine lv_imul hx hb dX5_beam_118 ?_
                  refine lv_istore (lv' := [(8, .int (2 * c0)), (7, .int (s0 - o0)), (6, .int 1), (0, .ref (am 0)), (1, .int a0), (2, .int c0), (3, .int o0), (4, .int s0), (5, .int b0)]) hx hb dX5_beam_119 hl (by decide) rfl (fun ls hl => ?_)
                  refine lv_iload hx hb dX5_beam_121 (lv_at hl 8 rfl) ?_
                  refine lv_iconst (v := 2) hx hb dX5_beam_123 (by decide) ?_
                  refine lv_irem hx hb dX5_beam_124 (by decide) ?_
                  refine lv_if_ne (tgt := 136) hx hb dX5_beam_125 (by decide) (fun c_12 => ?_) (fun c_12 => ?_)
                  · refine lv_iload hx hb dX5_beam_136 (lv_at hl 1 rfl) ?_
                    refine lv_iload hx hb dX5_beam_138 (lv_at hl 0 rfl) ?_
                    refine lv_isub hx hb dX5_beam_140 ?_
                    exact W.iret (v := (s0 - o0) - (2 * c0)) hx hb hr (fun t ht hW => ⟨⟨(s0 - o0) - (2 * c0), (), rfl, (by rcases b03 c_9 with e | e | e | e <;> subst e <;> first | (exfalso; revert c_10 c_11 c_12; decide) | grind [fBeam]), ht⟩, hS.F ht⟩) hS.2.2 dX5_beam_141
                  · refine lv_iload hx hb dX5_beam_128 (lv_at hl 1 rfl) ?_
                    refine lv_iload hx hb dX5_beam_130 (lv_at hl 0 rfl) ?_
                    refine lv_iadd hx hb dX5_beam_132 ?_
                    refine lv_goto (tgt := 141) hx hb dX5_beam_133 (by decide) ?_
                    exact W.iret (v := (s0 - o0) + (2 * c0)) hx hb hr (fun t ht hW => ⟨⟨(s0 - o0) + (2 * c0), (), rfl, (by rcases b03 c_9 with e | e | e | e <;> subst e <;> first | (exfalso; revert c_10 c_11 c_12; decide) | grind [fBeam]), ht⟩, hS.F ht⟩) hS.2.2 dX5_beam_141
                · refine lv_iconst (v := 2) hx hb dX5_beam_110 (by decide) ?_
                  refine lv_iload_n hx hb dX5_beam_111 rfl (lv_at hl 3 rfl) ?_
                  refine lv_imul hx hb dX5_beam_112 ?_
                  refine lv_goto (tgt := 119) hx hb dX5_beam_113 (by decide) ?_
                  refine lv_istore (lv' := [(8, .int (2 * a0)), (7, .int (s0 - o0)), (6, .int 1), (0, .ref (am 0)), (1, .int a0), (2, .int c0), (3, .int o0), (4, .int s0), (5, .int b0)]) hx hb dX5_beam_119 hl (by decide) rfl (fun ls hl => ?_)
                  refine lv_iload hx hb dX5_beam_121 (lv_at hl 8 rfl) ?_
                  refine lv_iconst (v := 2) hx hb dX5_beam_123 (by decide) ?_
                  refine lv_irem hx hb dX5_beam_124 (by decide) ?_
                  refine lv_if_ne (tgt := 136) hx hb dX5_beam_125 (by decide) (fun c_13 => ?_) (fun c_13 => ?_)
                  · refine lv_iload hx hb dX5_beam_136 (lv_at hl 1 rfl) ?_
                    refine lv_iload hx hb dX5_beam_138 (lv_at hl 0 rfl) ?_
                    refine lv_isub hx hb dX5_beam_140 ?_
                    exact W.iret (v := (s0 - o0) - (2 * a0)) hx hb hr (fun t ht hW => ⟨⟨(s0 - o0) - (2 * a0), (), rfl, (by rcases b03 c_9 with e | e | e | e <;> subst e <;> first | (exfalso; revert c_10 c_11 c_13; decide) | grind [fBeam]), ht⟩, hS.F ht⟩) hS.2.2 dX5_beam_141
                  · refine lv_iload hx hb dX5_beam_128 (lv_at hl 1 rfl) ?_
                    refine lv_iload hx hb dX5_beam_130 (lv_at hl 0 rfl) ?_
                    refine lv_iadd hx hb dX5_beam_132 ?_
                    refine lv_goto (tgt := 141) hx hb dX5_beam_133 (by decide) ?_
                    exact W.iret (v := (s0 - o0) + (2 * a0)) hx hb hr (fun t ht hW => ⟨⟨(s0 - o0) + (2 * a0), (), rfl, (by rcases b03 c_9 with e | e | e | e <;> subst e <;> first | (exfalso; revert c_10 c_11 c_13; decide) | grind [fBeam]), ht⟩, hS.F ht⟩) hS.2.2 dX5_beam_141
              · refine lv_iload hx hb dX5_beam_91 (lv_at hl 5 rfl) ?_
                refine lv_iload_n hx hb dX5_beam_93 rfl (lv_at hl 4 rfl) ?_
                refine lv_iadd hx hb dX5_beam_94 ?_
                refine lv_goto (tgt := 102) hx hb dX5_beam_95 (by decide) ?_
                refine lv_istore (lv' := [(7, .int (s0 + o0)), (6, .int 1), (0, .ref (am 0)), (1, .int a0), (2, .int c0), (3, .int o0), (4, .int s0), (5, .int b0)]) hx hb dX5_beam_102 hl (by decide) rfl (fun ls hl => ?_)
                refine lv_iload hx hb dX5_beam_104 (lv_at hl 7 rfl) ?_
                refine lv_iconst (v := 2) hx hb dX5_beam_106 (by decide) ?_
                refine lv_icmp_ge (tgt := 116) hx hb dX5_beam_107 (by decide) (fun c_14 => ?_) (fun c_14 => ?_)
                · refine lv_iconst (v := 2) hx hb dX5_beam_116 (by decide) ?_
                  refine lv_iload_n hx hb dX5_beam_117 rfl (lv_at hl 4 rfl) ?_
                  refine lv_imul hx hb dX5_beam_118 ?_
                  refine lv_istore (lv' := [(8, .int (2 * c0)), (7, .int (s0 + o0)), (6, .int 1), (0, .ref (am 0)), (1, .int a0), (2, .int c0), (3, .int o0), (4, .int s0), (5, .int b0)]) hx hb dX5_beam_119 hl (by decide) rfl (fun ls hl => ?_)
                  refine lv_iload hx hb dX5_beam_121 (lv_at hl 8 rfl) ?_
                  refine lv_iconst (v := 2) hx hb dX5_beam_123 (by decide) ?_
                  refine lv_irem hx hb dX5_beam_124 (by decide) ?_
                  refine lv_if_ne (tgt := 136) hx hb dX5_beam_125 (by decide) (fun c_15 => ?_) (fun c_15 => ?_)
                  · refine lv_iload hx hb dX5_beam_136 (lv_at hl 1 rfl) ?_
                    refine lv_iload hx hb dX5_beam_138 (lv_at hl 0 rfl) ?_
                    refine lv_isub hx hb dX5_beam_140 ?_
                    exact W.iret (v := (s0 + o0) - (2 * c0)) hx hb hr (fun t ht hW => ⟨⟨(s0 + o0) - (2 * c0), (), rfl, (by rcases b03 c_9 with e | e | e | e <;> subst e <;> first | (exfalso; revert c_10 c_14 c_15; decide) | grind [fBeam]), ht⟩, hS.F ht⟩) hS.2.2 dX5_beam_141
                  · refine lv_iload hx hb dX5_beam_128 (lv_at hl 1 rfl) ?_
                    refine lv_iload hx hb dX5_beam_130 (lv_at hl 0 rfl) ?_
                    refine lv_iadd hx hb dX5_beam_132 ?_
                    refine lv_goto (tgt := 141) hx hb dX5_beam_133 (by decide) ?_
                    exact W.iret (v := (s0 + o0) + (2 * c0)) hx hb hr (fun t ht hW => ⟨⟨(s0 + o0) + (2 * c0), (), rfl, (by rcases b03 c_9 with e | e | e | e <;> subst e <;> first | (exfalso; revert c_10 c_14 c_15; decide) | grind [fBeam]), ht⟩, hS.F ht⟩) hS.2.2 dX5_beam_141
                · refine lv_iconst (v := 2) hx hb dX5_beam_110 (by decide) ?_
                  refine lv_iload_n hx hb dX5_beam_111 rfl (lv_at hl 3 rfl) ?_
                  refine lv_imul hx hb dX5_beam_112 ?_
                  refine lv_goto (tgt := 119) hx hb dX5_beam_113 (by decide) ?_
                  refine lv_istore (lv' := [(8, .int (2 * a0)), (7, .int (s0 + o0)), (6, .int 1), (0, .ref (am 0)), (1, .int a0), (2, .int c0), (3, .int o0), (4, .int s0), (5, .int b0)]) hx hb dX5_beam_119 hl (by decide) rfl (fun ls hl => ?_)
                  refine lv_iload hx hb dX5_beam_121 (lv_at hl 8 rfl) ?_
                  refine lv_iconst (v := 2) hx hb dX5_beam_123 (by decide) ?_
                  refine lv_irem hx hb dX5_beam_124 (by decide) ?_
                  refine lv_if_ne (tgt := 136) hx hb dX5_beam_125 (by decide) (fun c_16 => ?_) (fun c_16 => ?_)
                  · refine lv_iload hx hb dX5_beam_136 (lv_at hl 1 rfl) ?_
                    refine lv_iload hx hb dX5_beam_138 (lv_at hl 0 rfl) ?_
                    refine lv_isub hx hb dX5_beam_140 ?_
                    exact W.iret (v := (s0 + o0) - (2 * a0)) hx hb hr (fun t ht hW => ⟨⟨(s0 + o0) - (2 * a0), (), rfl, (by rcases b03 c_9 with e | e | e | e <;> subst e <;> first | (exfalso; revert c_10 c_14 c_16; decide) | grind [fBeam]), ht⟩, hS.F ht⟩) hS.2.2 dX5_beam_141
                  · refine lv_iload hx hb dX5_beam_128 (lv_at hl 1 rfl) ?_
                    refine lv_iload hx hb dX5_beam_130 (lv_at hl 0 rfl) ?_
                    refine lv_iadd hx hb dX5_beam_132 ?_
                    refine lv_goto (tgt := 141) hx hb dX5_beam_133 (by decide) ?_
                    exact W.iret (v := (s0 + o0) + (2 * a0)) hx hb hr (fun t ht hW => ⟨⟨(s0 + o0) + (2 * a0), (), rfl, (by rcases b03 c_9 with e | e | e | e <;> subst e <;> first | (exfalso; revert c_10 c_14 c_16; decide) | grind [fBeam]), ht⟩, hS.F ht⟩) hS.2.2 dX5_beam_141
            · have c_9 := bI_0.mp c_9
              refine lv_ldc hx hb hown hw2 dX5_beam_82 ?_
              exact W.iret (v := (-2147483648)) hx hb hr (fun t ht hW => ⟨⟨(-2147483648), (), rfl, (by grind [fBeam]), ht⟩, hS.F ht⟩) hS.2.2 dX5_beam_84
set_option maxHeartbeats 4000000 in
set_option maxRecDepth 100000 in
theorem kX5_cells (l : Launch) (D : va_G) (cI cO : ClassId) (tt : Nat) (am : Nat → Nat) (g : Nat → Nat → Int32) (y : Nat → Int32) (zz : Nat → Int32) (j : Nat → Int64) (f : Nat → Int32) (v : Nat → Int32) (X : va_W) (sz : Nat) (n0 : Int32) (hI : WI g) (hM : RM g y zz) : MmI l yX5_cells wsX5_cells ({ frames := 1, cells := 0, slots := 0, locals := 25 }) D cI cO tt (MW am cI g y zz j f v X) sz [.ref (am 0), .int n0] (S := (Nat → Nat → Int32) × (Nat → Int32) × (Nat → Int32) × (Nat → Int64) × (Nat → Int32) × (Nat → Int32)) (fun u => MW am cI u.1 u.2.1 u.2.2.1 u.2.2.2.1 u.2.2.2.2.1 u.2.2.2.2.2 X) (fun z u => z = fCells g n0 ∧ u.1 = gCells g n0 ∧ RM u.1 u.2.1 u.2.2.1) := by
  refine Met.ofW (cc := cX5_cells) (maxL := 3) (ret := (some .int)) (by decide) rfl ?_
  intro p e s m args below meth c s₁ B hml hv
  obtain ⟨rfl, hsz, hP, hK, hD0, hZ, hN⟩ := hv
  have hx := B.exec
  have hb := B.bytes
  have hr := B.returns
  have hts := atoms_spec (ws := wsX5_cells) B.pre
  have hown : s.vm.findClass RX5 = some m.cls := findClass_of_methodNamed B.named
  have hlocks := B.notSynchronized
  subst hsz
  have hD := hD0.self (sz := s.heap.size)
  generalize hAe : va_A (MW am cI g y zz j f v X) s.heap.size = A at hD hZ ⊢
  have hA : ∀ q : Nat, s.heap.size ≤ q → A q := fun q h => by rw [← hAe]; exact Or.inr h
  have hS : va_S A s.heap s.heap [] := va_S.rf
  have hl := lv_entry ([.ref (am 0), .int n0]) (n := 3) (Nat.le_of_ble_eq_true rfl)
  rw [lg_entry_eq]
  generalize (lg_sl ([.ref (am 0), .int n0]) ++ List.replicate (3 - (lg_sl ([.ref (am 0), .int n0])).length) Slot.unset).toArray = ls at hl ⊢
  have hl : lv_has ls 3 [(0, .ref (am 0)), (1, .int n0)] := hl
  have hw0 := hts (.constantLong RX5 80 (16)) (List.mem_cons_of_mem _ (List.mem_append_left _ (List.mem_of_getElem? (i := 0) rfl)))
  have hw1 := hts (.fieldLink RX5 82 "LayerSounderModel" "pings" "I") (List.mem_cons_of_mem _ (List.mem_append_left _ (List.mem_of_getElem? (i := 1) rfl)))
  have iX5 : ∀ w ∈ wsX50, w ∈ wsX5_cells := fun _ h => List.mem_cons_of_mem _ (List.mem_append_right _ h)
  have hw3 := hts (.fieldLink RX5 28 "LayerSounderModel" "l" "I") (List.mem_cons_of_mem _ (List.mem_append_left _ (List.mem_of_getElem? (i := 2) rfl)))
  refine lv_iload_n hx hb dX5_cells_0 rfl (lv_at hl 1 rfl) ?_
  refine lv_i2l hx hb dX5_cells_1 rfl ?_
  refine lv_lconst (v := 1) hx hb dX5_cells_2 (by decide) ?_
  refine lv_ldc2 hx hb hown hw0 dX5_cells_3 ?_
  refine pcI (va_runS (As := [.long n0.toInt64, .long 1, .long 16]) (rest := []) ⟨hx, hb, hml, hown, hts⟩ (kX5_in l D cI cO tt (MW am cI g y zz j f v X) s.heap n0 (1 : Int32) (16 : Int32) n0.toInt64 1 16 rfl (by decide) (by decide)) (va_cwS 3 hts gX5_cells_X5_in rfl rfl rfl (by decide +kernel) ⟨(Nat.le_of_ble_eq_true rfl), (Nat.le_of_ble_eq_true rfl)⟩) (pwS hK hZ hN hP hS) rfl rfl hl.1 rfl (lv_room (Nat.le_of_ble_eq_true rfl)) dX5_cells_6 ⟨Nat.zero_le _, Nat.zero_le _⟩) hS (fun locs hS => ?_)
  refine lv_if_ne (tgt := 15) hx hb dX5_cells_9 (by decide) (fun c_1 => ?_) (fun c_1 => ?_)
  · have c_1 := bI_n0.mp c_1
    refine lv_aload_n hx hb dX5_cells_15 rfl (lv_at hl 0 rfl) ?_
    refine va_get (D := D) (ci := 5) (v := .int (g 100 7)) (C := RX5) (T := TX5) (N := 31) hx hb hts iX5 hown hK hP 0 rfl rfl 8 (by decide) hw1 (fun _ h9 => h9) rfl dX5_cells_16 ?_
    refine lv_if_le (tgt := 25) hx hb dX5_cells_19 (by decide) (fun c_2 => ?_) (fun c_2 => ?_)
    · refine lv_aload_n hx hb dX5_cells_25 rfl (lv_at hl 0 rfl) ?_
      refine va_get (D := D) (ci := 5) (v := .int (g 100 0)) (C := RX5) (T := TX5) (N := 31) hx hb hts iX5 hown hK hP 0 rfl rfl 7 (by decide) hw3 (fun _ h9 => h9) rfl dX5_cells_26 ?_
      refine lv_topi (fun x_3 ex_3 => ?_)
      refine lv_istore_n (lv' := [(2, .int x_3), (0, .ref (am 0)), (1, .int n0)]) hx hb dX5_cells_29 rfl hl (by decide) rfl (fun ls hl => ?_)
      refine lv_aload_n hx hb dX5_cells_30 rfl (lv_at hl 1 rfl) ?_
      refine lv_iload_n hx hb dX5_cells_31 rfl (lv_at hl 2 rfl) ?_
      refine va_put (D := D) (ci := 5) (v := .int n0) (C := RX5) (T := TX5) (N := 31) hx hb hts iX5 tyX5 tyX5_ok nmX5 hown hK hP hD hS 0 rfl rfl 7 (by decide) hw3 (fun _ h9 => h9) rfl (tyX5_ok 7 (by decide)) rfl rfl (Nat.le_of_ble_eq_true rfl) dX5_cells_32 (fun H locs hP hD hS => ?_)
      have hP : va_P D vwCl (MW am cI (up2 g 100 0 n0) y zz j f v X) H := hP
      have hD : va_D A (MW am cI (up2 g 100 0 n0) y zz j f v X) := hD
      refine lv_iload_n hx hb dX5_cells_35 rfl (lv_at hl 0 rfl) ?_
      exact W.iret (v := x_3) hx hb hr (fun t ht hW => ⟨⟨x_3, (up2 g 100 0 n0, y, zz, j, f, v), rfl, (by exact ⟨(by grind [fCells]), (by grind [gCells]), (by (repeat (first | exact hM | apply RM_u (by omega))))⟩), by rw [ht]; exact hP, hD⟩, hS.F ht⟩) hS.2.2 dX5_cells_36
    · refine lv_bipush (v := (-3)) hx hb dX5_cells_22 (by decide) ?_
      exact W.iret (v := (-3)) hx hb hr (fun t ht hW => ⟨⟨(-3), (g, y, zz, j, f, v), rfl, (by exact ⟨(by grind [fCells]), (by grind [gCells]), (by (repeat (first | exact hM | apply RM_u (by omega))))⟩), by rw [ht]; exact hP, hD⟩, hS.F ht⟩) hS.2.2 dX5_cells_24
  · have c_1 := bI_0.mp c_1
    refine lv_bipush (v := (-2)) hx hb dX5_cells_12 (by decide) ?_
    exact W.iret (v := (-2)) hx hb hr (fun t ht hW => ⟨⟨(-2), (g, y, zz, j, f, v), rfl, (by exact ⟨(by grind [fCells]), (by grind [gCells]), (by (repeat (first | exact hM | apply RM_u (by omega))))⟩), by rw [ht]; exact hP, hD⟩, hS.F ht⟩) hS.2.2 dX5_cells_14
set_option maxHeartbeats 4000000 in
set_option maxRecDepth 100000 in
theorem kX5_ping (l : Launch) (D : va_G) (cI cO : ClassId) (tt : Nat) (am : Nat → Nat) (g : Nat → Nat → Int32) (y : Nat → Int32) (zz : Nat → Int32) (j : Nat → Int64) (f : Nat → Int32) (v : Nat → Int32) (X : va_W) (sz : Nat) (h0 : Int32) (x0 : Int32) (y0 : Int32) (w0 : Int32) (hI : WI g) (hM : RM g y zz) : MmI l yX5_ping wsX5_ping ({ frames := 1, cells := 0, slots := 0, locals := 25 }) D cI cO tt (MW am cI g y zz j f v X) sz [.ref (am 0), .int h0, .int x0, .int y0, .int w0] (S := (Nat → Nat → Int32) × (Nat → Int32) × (Nat → Int32) × (Nat → Int64) × (Nat → Int32) × (Nat → Int32)) (fun u => MW am cI u.1 u.2.1 u.2.2.1 u.2.2.2.1 u.2.2.2.2.1 u.2.2.2.2.2 X) (fun z u => z = fPing g h0 x0 y0 w0 ∧ u.1 = gPing g h0 x0 y0 w0 ∧ RM u.1 u.2.1 u.2.2.1) := by
  refine Met.ofW (cc := cX5_ping) (maxL := 5) (ret := (some .int)) (by decide) rfl ?_
  intro p e s m args below meth c s₁ B hml hv
  obtain ⟨rfl, hsz, hP, hK, hD0, hZ, hN⟩ := hv
  have hx := B.exec
  have hb := B.bytes
  have hr := B.returns
  have hts := atoms_spec (ws := wsX5_ping) B.pre
  have hown : s.vm.findClass RX5 = some m.cls := findClass_of_methodNamed B.named
  have hlocks := B.notSynchronized
  subst hsz
  have hD := hD0.self (sz := s.heap.size)
  generalize hAe : va_A (MW am cI g y zz j f v X) s.heap.size = A at hD hZ ⊢
  have hA : ∀ q : Nat, s.heap.size ≤ q → A q := fun q h => by rw [← hAe]; exact Or.inr h
  have hS : va_S A s.heap s.heap [] := va_S.rf
  have hl := lv_entry ([.ref (am 0), .int h0, .int x0, .int y0, .int w0]) (n := 5) (Nat.le_of_ble_eq_true rfl)
  rw [lg_entry_eq]
  generalize (lg_sl ([.ref (am 0), .int h0, .int x0, .int y0, .int w0]) ++ List.replicate (5 - (lg_sl ([.ref (am 0), .int h0, .int x0, .int y0, .int w0])).length) Slot.unset).toArray = ls at hl ⊢
  have hl : lv_has ls 5 [(0, .ref (am 0)), (1, .int h0), (2, .int x0), (3, .int y0), (4, .int w0)] := hl
  have hw0 := hts (.constantLong RX5 85 (35)) (List.mem_cons_of_mem _ (List.mem_append_left _ (List.mem_of_getElem? (i := 0) rfl)))
  have hw1 := hts (.constantLong RX5 87 (-1000000)) (List.mem_cons_of_mem _ (List.mem_append_left _ (List.mem_of_getElem? (i := 1) rfl)))
  have hw2 := hts (.constantLong RX5 89 (1000000)) (List.mem_cons_of_mem _ (List.mem_append_left _ (List.mem_of_getElem? (i := 2) rfl)))
  have hw3 := hts (.constantLong RX5 80 (16)) (List.mem_cons_of_mem _ (List.mem_append_left _ (List.mem_of_getElem? (i := 3) rfl)))
  have hw4 := hts (.fieldLink RX5 82 "LayerSounderModel" "pings" "I") (List.mem_cons_of_mem _ (List.mem_append_left _ (List.mem_of_getElem? (i := 4) rfl)))
  have iX5 : ∀ w ∈ wsX50, w ∈ wsX5_ping := fun _ h => List.mem_cons_of_mem _ (List.mem_append_right _ h)
  have hw6 := hts (.fieldLink RX5 32 "LayerSounderModel" "headings" "[I") (List.mem_cons_of_mem _ (List.mem_append_left _ (List.mem_of_getElem? (i := 5) rfl)))
  have hw7 := hts (.fieldLink RX5 35 "LayerSounderModel" "xs" "[I") (List.mem_cons_of_mem _ (List.mem_append_left _ (List.mem_of_getElem? (i := 6) rfl)))
  have hw8 := hts (.fieldLink RX5 38 "LayerSounderModel" "ys" "[I") (List.mem_cons_of_mem _ (List.mem_append_left _ (List.mem_of_getElem? (i := 7) rfl)))
  have hw9 := hts (.fieldLink RX5 41 "LayerSounderModel" "depths" "[I") (List.mem_cons_of_mem _ (List.mem_append_left _ (List.mem_of_getElem? (i := 8) rfl)))
  refine lv_iload_n hx hb dX5_ping_0 rfl (lv_at hl 1 rfl) ?_
  refine lv_i2l hx hb dX5_ping_1 rfl ?_
  refine lv_lconst (v := 0) hx hb dX5_ping_2 (by decide) ?_
  refine lv_ldc2 hx hb hown hw0 dX5_ping_3 ?_
  refine pcI (va_runS (As := [.long h0.toInt64, .long 0, .long 35]) (rest := []) ⟨hx, hb, hml, hown, hts⟩ (kX5_in l D cI cO tt (MW am cI g y zz j f v X) s.heap h0 (0 : Int32) (35 : Int32) h0.toInt64 0 35 rfl (by decide) (by decide)) (va_cwS 3 hts gX5_ping_X5_in rfl rfl rfl (by decide +kernel) ⟨(Nat.le_of_ble_eq_true rfl), (Nat.le_of_ble_eq_true rfl)⟩) (pwS hK hZ hN hP hS) rfl rfl hl.1 rfl (lv_room (Nat.le_of_ble_eq_true rfl)) dX5_ping_6 ⟨Nat.zero_le _, Nat.zero_le _⟩) hS (fun locs hS => ?_)
  refine lv_if_eq (tgt := 53) hx hb dX5_ping_9 (by decide) (fun c_1 => ?_) (fun c_1 => ?_)
  · have c_1 := bI_0.mp c_1
    refine lv_bipush (v := (-2)) hx hb dX5_ping_53 (by decide) ?_
    exact W.iret (v := (-2)) hx hb hr (fun t ht hW => ⟨⟨(-2), (g, y, zz, j, f, v), rfl, (by have nu := (nu40 hI).1; exact ⟨(by grind [fPing]), (by grind [gPing]), (by (repeat (first | exact hM | apply RM_u (by omega))))⟩), by rw [ht]; exact hP, hD⟩, hS.F ht⟩) hS.2.2 dX5_ping_55
  · have c_1 := bI_n0.mp c_1
    refine lv_iload_n hx hb dX5_ping_12 rfl (lv_at hl 2 rfl) ?_
    refine lv_i2l hx hb dX5_ping_13 rfl ?_
    refine lv_ldc2 hx hb hown hw1 dX5_ping_14 ?_
    refine lv_ldc2 hx hb hown hw2 dX5_ping_17 ?_
    refine pcI (va_runS (As := [.long x0.toInt64, .long (-1000000), .long 1000000]) (rest := []) ⟨hx, hb, hml, hown, hts⟩ (kX5_in l D cI cO tt (MW am cI g y zz j f v X) s.heap x0 ((-1000000) : Int32) (1000000 : Int32) x0.toInt64 (-1000000) 1000000 rfl (by decide) (by decide)) (va_cwS 3 hts gX5_ping_X5_in rfl rfl rfl (by decide +kernel) ⟨(Nat.le_of_ble_eq_true rfl), (Nat.le_of_ble_eq_true rfl)⟩) (pwS hK hZ hN hP hS) rfl rfl hl.1 rfl (lv_room (Nat.le_of_ble_eq_true rfl)) dX5_ping_20 ⟨Nat.zero_le _, Nat.zero_le _⟩) hS (fun locs hS => ?_)
    refine lv_if_eq (tgt := 53) hx hb dX5_ping_23 (by decide) (fun c_2 => ?_) (fun c_2 => ?_)
    · have c_2 := bI_0.mp c_2
      refine lv_bipush (v := (-2)) hx hb dX5_ping_53 (by decide) ?_
      exact W.iret (v := (-2)) hx hb hr (fun t ht hW => ⟨⟨(-2), (g, y, zz, j, f, v), rfl, (by have nu := (nu40 hI).1; exact ⟨(by grind [fPing]), (by grind [gPing]), (by (repeat (first | exact hM | apply RM_u (by omega))))⟩), by rw [ht]; exact hP, hD⟩, hS.F ht⟩) hS.2.2 dX5_ping_55
    · have c_2 := bI_n0.mp c_2
      refine lv_iload_n hx hb dX5_ping_26 rfl (lv_at hl 3 rfl) ?_
      refine lv_i2l hx hb dX5_ping_27 rfl ?_
      refine lv_ldc2 hx hb hown hw1 dX5_ping_28 ?_
      refine lv_ldc2 hx hb hown hw2 dX5_ping_31 ?_
      refine pcI (va_runS (As := [.long y0.toInt64, .long (-1000000), .long 1000000]) (rest := []) ⟨hx, hb, hml, hown, hts⟩ (kX5_in l D cI cO tt (MW am cI g y zz j f v X) s.heap y0 ((-1000000) : Int32) (1000000 : Int32) y0.toInt64 (-1000000) 1000000 rfl (by decide) (by decide)) (va_cwS 3 hts gX5_ping_X5_in rfl rfl rfl (by decide +kernel) ⟨(Nat.le_of_ble_eq_true rfl), (Nat.le_of_ble_eq_true rfl)⟩) (pwS hK hZ hN hP hS) rfl rfl hl.1 rfl (lv_room (Nat.le_of_ble_eq_true rfl)) dX5_ping_34 ⟨Nat.zero_le _, Nat.zero_le _⟩) hS (fun locs hS => ?_)
      refine lv_if_eq (tgt := 53) hx hb dX5_ping_37 (by decide) (fun c_3 => ?_) (fun c_3 => ?_)
      · have c_3 := bI_0.mp c_3
        refine lv_bipush (v := (-2)) hx hb dX5_ping_53 (by decide) ?_
        exact W.iret (v := (-2)) hx hb hr (fun t ht hW => ⟨⟨(-2), (g, y, zz, j, f, v), rfl, (by have nu := (nu40 hI).1; exact ⟨(by grind [fPing]), (by grind [gPing]), (by (repeat (first | exact hM | apply RM_u (by omega))))⟩), by rw [ht]; exact hP, hD⟩, hS.F ht⟩) hS.2.2 dX5_ping_55
      · have c_3 := bI_n0.mp c_3
        refine lv_iload hx hb dX5_ping_40 (lv_at hl 4 rfl) ?_
        refine lv_i2l hx hb dX5_ping_42 rfl ?_
        refine lv_lconst (v := 0) hx hb dX5_ping_43 (by decide) ?_
        refine lv_ldc2 hx hb hown hw3 dX5_ping_44 ?_
        refine pcI (va_runS (As := [.long w0.toInt64, .long 0, .long 16]) (rest := []) ⟨hx, hb, hml, hown, hts⟩ (kX5_in l D cI cO tt (MW am cI g y zz j f v X) s.heap w0 (0 : Int32) (16 : Int32) w0.toInt64 0 16 rfl (by decide) (by decide)) (va_cwS 3 hts gX5_ping_X5_in rfl rfl rfl (by decide +kernel) ⟨(Nat.le_of_ble_eq_true rfl), (Nat.le_of_ble_eq_true rfl)⟩) (pwS hK hZ hN hP hS) rfl rfl hl.1 rfl (lv_room (Nat.le_of_ble_eq_true rfl)) dX5_ping_47 ⟨Nat.zero_le _, Nat.zero_le _⟩) hS (fun locs hS => ?_)
        refine lv_if_ne (tgt := 56) hx hb dX5_ping_50 (by decide) (fun c_4 => ?_) (fun c_4 => ?_)
        · have c_4 := bI_n0.mp c_4
          refine lv_aload_n hx hb dX5_ping_56 rfl (lv_at hl 0 rfl) ?_
          refine va_get (D := D) (ci := 5) (v := .int (g 100 7)) (C := RX5) (T := TX5) (N := 31) hx hb hts iX5 hown hK hP 0 rfl rfl 8 (by decide) hw4 (fun _ h9 => h9) rfl dX5_ping_57 ?_
          refine lv_bipush (v := 40) hx hb dX5_ping_60 (by decide) ?_
          refine lv_icmp_ne (tgt := 68) hx hb dX5_ping_62 (by decide) (fun c_5 => ?_) (fun c_5 => ?_)
          · refine lv_aload_n hx hb dX5_ping_68 rfl (lv_at hl 0 rfl) ?_
            refine va_get (D := D) (ci := 5) (v := .ref (am 7)) (C := RX5) (T := TX5) (N := 31) hx hb hts iX5 hown hK hP 0 rfl rfl 9 (by decide) hw6 (fun _ h9 => h9) rfl dX5_ping_69 ?_
            refine lv_aload_n hx hb dX5_ping_72 rfl (lv_at hl 0 rfl) ?_
            refine va_get (D := D) (ci := 5) (v := .int (g 100 7)) (C := RX5) (T := TX5) (N := 31) hx hb hts iX5 hown hK hP 0 rfl rfl 8 (by decide) hw4 (fun _ h9 => h9) rfl dX5_ping_73 ?_
            refine lv_iload_n hx hb dX5_ping_76 rfl (lv_at hl 1 rfl) ?_
            refine va_iast hx hb hK hP hD hS 7 0 rfl rfl (vin hI.2.1.1 ((nu40 hI).2 c_5) (by decide) (by decide)) dX5_ping_77 (fun H locs hP hD hS => ?_)
            have hP : va_P D vwCl (MW am cI (up2 g 0 ((g 100 7).toNatClampNeg) h0) y zz j f v X) H := hP
            have hD : va_D A (MW am cI (up2 g 0 ((g 100 7).toNatClampNeg) h0) y zz j f v X) := hD
            refine lv_aload_n hx hb dX5_ping_78 rfl (lv_at hl 0 rfl) ?_
            refine va_get (D := D) (ci := 5) (v := .ref (am 8)) (C := RX5) (T := TX5) (N := 31) hx hb hts iX5 hown hK hP 0 rfl rfl 10 (by decide) hw7 (fun _ h9 => h9) rfl dX5_ping_79 ?_
            refine lv_aload_n hx hb dX5_ping_82 rfl (lv_at hl 0 rfl) ?_
            refine va_get (D := D) (ci := 5) (v := .int (up2 g 0 ((g 100 7).toNatClampNeg) h0 100 7)) (C := RX5) (T := TX5) (N := 31) hx hb hts iX5 hown hK hP 0 rfl rfl 8 (by decide) hw4 (fun _ h9 => h9) rfl dX5_ping_83 ?_
            refine tpI (y := g 100 7) (rfl) ?_
            refine lv_iload_n hx hb dX5_ping_86 rfl (lv_at hl 2 rfl) ?_
            refine va_iast hx hb hK hP hD hS 8 0 rfl rfl (vin hI.2.1.1 ((nu40 hI).2 c_5) (by decide) (by decide)) dX5_ping_87 (fun H locs hP hD hS => ?_)
            have hP : va_P D vwCl (MW am cI (up2 (up2 g 0 ((g 100 7).toNatClampNeg) h0) 1 ((g 100 7).toNatClampNeg) x0) y zz j f v X) H := hP
            have hD : va_D A (MW am cI (up2 (up2 g 0 ((g 100 7).toNatClampNeg) h0) 1 ((g 100 7).toNatClampNeg) x0) y zz j f v X) := hD
            refine lv_aload_n hx hb dX5_ping_88 rfl (lv_at hl 0 rfl) ?_
            refine va_get (D := D) (ci := 5) (v := .ref (am 9)) (C := RX5) (T := TX5) (N := 31) hx hb hts iX5 hown hK hP 0 rfl rfl 11 (by decide) hw8 (fun _ h9 => h9) rfl dX5_ping_89 ?_
            refine lv_aload_n hx hb dX5_ping_92 rfl (lv_at hl 0 rfl) ?_
            refine va_get (D := D) (ci := 5) (v := .int (up2 (up2 g 0 ((g 100 7).toNatClampNeg) h0) 1 ((g 100 7).toNatClampNeg) x0 100 7)) (C := RX5) (T := TX5) (N := 31) hx hb hts iX5 hown hK hP 0 rfl rfl 8 (by decide) hw4 (fun _ h9 => h9) rfl dX5_ping_93 ?_
            refine tpI (y := g 100 7) (rfl) ?_
            refine lv_iload_n hx hb dX5_ping_96 rfl (lv_at hl 3 rfl) ?_
            refine va_iast hx hb hK hP hD hS 9 0 rfl rfl (vin hI.2.1.1 ((nu40 hI).2 c_5) (by decide) (by decide)) dX5_ping_97 (fun H locs hP hD hS => ?_)
            have hP : va_P D vwCl (MW am cI (up2 (up2 (up2 g 0 ((g 100 7).toNatClampNeg) h0) 1 ((g 100 7).toNatClampNeg) x0) 2 ((g 100 7).toNatClampNeg) y0) y zz j f v X) H := hP
            have hD : va_D A (MW am cI (up2 (up2 (up2 g 0 ((g 100 7).toNatClampNeg) h0) 1 ((g 100 7).toNatClampNeg) x0) 2 ((g 100 7).toNatClampNeg) y0) y zz j f v X) := hD
            refine lv_aload_n hx hb dX5_ping_98 rfl (lv_at hl 0 rfl) ?_
            refine va_get (D := D) (ci := 5) (v := .ref (am 10)) (C := RX5) (T := TX5) (N := 31) hx hb hts iX5 hown hK hP 0 rfl rfl 12 (by decide) hw9 (fun _ h9 => h9) rfl dX5_ping_99 ?_
            refine lv_aload_n hx hb dX5_ping_102 rfl (lv_at hl 0 rfl) ?_
            refine va_get (D := D) (ci := 5) (v := .int (up2 (up2 (up2 g 0 ((g 100 7).toNatClampNeg) h0) 1 ((g 100 7).toNatClampNeg) x0) 2 ((g 100 7).toNatClampNeg) y0 100 7)) (C := RX5) (T := TX5) (N := 31) hx hb hts iX5 hown hK hP 0 rfl rfl 8 (by decide) hw4 (fun _ h9 => h9) rfl dX5_ping_103 ?_
            refine tpI (y := g 100 7) (rfl) ?_
            refine lv_iload hx hb dX5_ping_106 (lv_at hl 4 rfl) ?_
            refine va_iast hx hb hK hP hD hS 10 0 rfl rfl (vin hI.2.1.1 ((nu40 hI).2 c_5) (by decide) (by decide)) dX5_ping_108 (fun H locs hP hD hS => ?_)
            have hP : va_P D vwCl (MW am cI (up2 (up2 (up2 (up2 g 0 ((g 100 7).toNatClampNeg) h0) 1 ((g 100 7).toNatClampNeg) x0) 2 ((g 100 7).toNatClampNeg) y0) 3 ((g 100 7).toNatClampNeg) w0) y zz j f v X) H := hP
            have hD : va_D A (MW am cI (up2 (up2 (up2 (up2 g 0 ((g 100 7).toNatClampNeg) h0) 1 ((g 100 7).toNatClampNeg) x0) 2 ((g 100 7).toNatClampNeg) y0) 3 ((g 100 7).toNatClampNeg) w0) y zz j f v X) := hD
            refine lv_aload_n hx hb dX5_ping_109 rfl (lv_at hl 0 rfl) ?_
            refine lv_dup hx hb dX5_ping_110 rfl ?_
            refine va_get (D := D) (ci := 5) (v := .int (up2 (up2 (up2 (up2 g 0 ((g 100 7).toNatClampNeg) h0) 1 ((g 100 7).toNatClampNeg) x0) 2 ((g 100 7).toNatClampNeg) y0) 3 ((g 100 7).toNatClampNeg) w0 100 7)) (C := RX5) (T := TX5) (N := 31) hx hb hts iX5 hown hK hP 0 rfl rfl 8 (by decide) hw4 (fun _ h9 => h9) rfl dX5_ping_111 ?_
            refine tpI (y := g 100 7) (rfl) ?_
            refine lv_iconst (v := 1) hx hb dX5_ping_114 (by decide) ?_
            refine lv_iadd hx hb dX5_ping_115 ?_
            refine va_put (D := D) (ci := 5) (v := .int ((g 100 7) + 1)) (C := RX5) (T := TX5) (N := 31) hx hb hts iX5 tyX5 tyX5_ok nmX5 hown hK hP hD hS 0 rfl rfl 8 (by decide) hw4 (fun _ h9 => h9) rfl (tyX5_ok 8 (by decide)) rfl rfl (Nat.le_of_ble_eq_true rfl) dX5_ping_116 (fun H locs hP hD hS => ?_)
            have hP : va_P D vwCl (MW am cI (up2 (up2 (up2 (up2 (up2 g 0 ((g 100 7).toNatClampNeg) h0) 1 ((g 100 7).toNatClampNeg) x0) 2 ((g 100 7).toNatClampNeg) y0) 3 ((g 100 7).toNatClampNeg) w0) 100 7 ((g 100 7) + 1)) y zz j f v X) H := hP
            have hD : va_D A (MW am cI (up2 (up2 (up2 (up2 (up2 g 0 ((g 100 7).toNatClampNeg) h0) 1 ((g 100 7).toNatClampNeg) x0) 2 ((g 100 7).toNatClampNeg) y0) 3 ((g 100 7).toNatClampNeg) w0) 100 7 ((g 100 7) + 1)) y zz j f v X) := hD
            refine lv_aload_n hx hb dX5_ping_119 rfl (lv_at hl 0 rfl) ?_
            refine va_get (D := D) (ci := 5) (v := .int ((g 100 7) + 1)) (C := RX5) (T := TX5) (N := 31) hx hb hts iX5 hown hK hP 0 rfl rfl 8 (by decide) hw4 (fun _ h9 => h9) rfl dX5_ping_120 ?_
            refine lv_iconst (v := 1) hx hb dX5_ping_123 (by decide) ?_
            refine lv_isub hx hb dX5_ping_124 ?_
            refine tpI (y := g 100 7) (Int32.add_sub_cancel _ _) ?_
            exact W.iret (v := g 100 7) hx hb hr (fun t ht hW => ⟨⟨g 100 7, (up2 (up2 (up2 (up2 (up2 g 0 ((g 100 7).toNatClampNeg) h0) 1 ((g 100 7).toNatClampNeg) x0) 2 ((g 100 7).toNatClampNeg) y0) 3 ((g 100 7).toNatClampNeg) w0) 100 7 ((g 100 7) + 1), y, zz, j, f, v), rfl, (by have nu := (nu40 hI).1; exact ⟨(by grind [fPing]), (by grind [gPing]), (by (repeat (first | exact hM | apply RM_u (by omega))))⟩), by rw [ht]; exact hP, hD⟩, hS.F ht⟩) hS.2.2 dX5_ping_125
          · refine lv_bipush (v := (-4)) hx hb dX5_ping_65 (by decide) ?_
            exact W.iret (v := (-4)) hx hb hr (fun t ht hW => ⟨⟨(-4), (g, y, zz, j, f, v), rfl, (by have nu := (nu40 hI).1; exact ⟨(by grind [fPing]), (by grind [gPing]), (by (repeat (first | exact hM | apply RM_u (by omega))))⟩), by rw [ht]; exact hP, hD⟩, hS.F ht⟩) hS.2.2 dX5_ping_67
        · have c_4 := bI_0.mp c_4
          refine lv_bipush (v := (-2)) hx hb dX5_ping_53 (by decide) ?_
          exact W.iret (v := (-2)) hx hb hr (fun t ht hW => ⟨⟨(-2), (g, y, zz, j, f, v), rfl, (by have nu := (nu40 hI).1; exact ⟨(by grind [fPing]), (by grind [gPing]), (by (repeat (first | exact hM | apply RM_u (by omega))))⟩), by rw [ht]; exact hP, hD⟩, hS.F ht⟩) hS.2.2 dX5_ping_55
set_option maxHeartbeats 4000000 in
set_option maxRecDepth 100000 in
theorem kX5_mend (l : Launch) (D : va_G) (cI cO : ClassId) (tt : Nat) (am : Nat → Nat) (g : Nat → Nat → Int32) (y : Nat → Int32) (zz : Nat → Int32) (j : Nat → Int64) (f : Nat → Int32) (v : Nat → Int32) (X : va_W) (sz : Nat) (p0 : Int32) (h0 : Int32) (hI : WI g) (hM : RM g y zz) : MmI l yX5_mend wsX5_mend ({ frames := 2, cells := 0, slots := 0, locals := 46 }) D cI cO tt (MW am cI g y zz j f v X) sz [.ref (am 0), .int p0, .int h0] (S := (Nat → Nat → Int32) × (Nat → Int32) × (Nat → Int32) × (Nat → Int64) × (Nat → Int32) × (Nat → Int32)) (fun u => MW am cI u.1 u.2.1 u.2.2.1 u.2.2.2.1 u.2.2.2.2.1 u.2.2.2.2.2 X) (fun z u => z = fMend g p0 h0 ∧ u.1 = gMend g p0 h0 ∧ RM u.1 u.2.1 u.2.2.1) := by
  refine Met.ofW (cc := cX5_mend) (maxL := 4) (ret := (some .int)) (by decide) rfl ?_
  intro p e s m args below meth c s₁ B hml hv
  obtain ⟨rfl, hsz, hP, hK, hD0, hZ, hN⟩ := hv
  have hx := B.exec
  have hb := B.bytes
  have hr := B.returns
  have hts := atoms_spec (ws := wsX5_mend) B.pre
  have hown : s.vm.findClass RX5 = some m.cls := findClass_of_methodNamed B.named
  have hlocks := B.notSynchronized
  subst hsz
  have hD := hD0.self (sz := s.heap.size)
  generalize hAe : va_A (MW am cI g y zz j f v X) s.heap.size = A at hD hZ ⊢
  have hA : ∀ q : Nat, s.heap.size ≤ q → A q := fun q h => by rw [← hAe]; exact Or.inr h
  have hS : va_S A s.heap s.heap [] := va_S.rf
  have hl := lv_entry ([.ref (am 0), .int p0, .int h0]) (n := 4) (Nat.le_of_ble_eq_true rfl)
  rw [lg_entry_eq]
  generalize (lg_sl ([.ref (am 0), .int p0, .int h0]) ++ List.replicate (4 - (lg_sl ([.ref (am 0), .int p0, .int h0])).length) Slot.unset).toArray = ls at hl ⊢
  have hl : lv_has ls 4 [(0, .ref (am 0)), (1, .int p0), (2, .int h0)] := hl
  have hw0 := hts (.constantLong RX5 85 (35)) (List.mem_cons_of_mem _ (List.mem_append_left _ (List.mem_of_getElem? (i := 0) rfl)))
  have hw1 := hts (.fieldLink RX5 32 "LayerSounderModel" "headings" "[I") (List.mem_cons_of_mem _ (List.mem_append_left _ (List.mem_of_getElem? (i := 1) rfl)))
  have iX5 : ∀ w ∈ wsX50, w ∈ wsX5_mend := fun _ h => List.mem_cons_of_mem _ (List.mem_append_right _ h)
  refine lv_aload_n hx hb dX5_mend_0 rfl (lv_at hl 0 rfl) ?_
  refine lv_iload_n hx hb dX5_mend_1 rfl (lv_at hl 1 rfl) ?_
  refine pcI (va_runV (As := [.int p0]) (rest := []) ⟨hx, hb, hml, hown, hts⟩ (kX5_isPing l D cI cO tt am g y zz j f v X s.heap p0 hI) (cwV 1 hts gX5_mend_X5_isPing rfl rfl rfl (by decide +kernel) ⟨(Nat.le_of_ble_eq_true rfl), (Nat.le_of_ble_eq_true rfl)⟩) (pwV hK hZ hN hP hS (va_recv hK hP (ci := 5) (q0 := 0) rfl rfl)) rfl rfl hl.1 rfl (lv_room (Nat.le_of_ble_eq_true rfl)) dX5_mend_2 ⟨Nat.zero_le _, Nat.zero_le _⟩) hS (fun locs hS => ?_)
  refine lv_if_eq (tgt := 20) hx hb dX5_mend_5 (by decide) (fun c_1 => ?_) (fun c_1 => ?_)
  · have c_1 := bI_0.mp c_1
    refine lv_bipush (v := (-2)) hx hb dX5_mend_20 (by decide) ?_
    exact W.iret (v := (-2)) hx hb hr (fun t ht hW => ⟨⟨(-2), (g, y, zz, j, f, v), rfl, (by exact ⟨(by grind [fMend]), (by grind [gMend]), (by (repeat (first | exact hM | apply RM_u (by omega))))⟩), by rw [ht]; exact hP, hD⟩, hS.F ht⟩) hS.2.2 dX5_mend_22
  · have c_1 := bI_n0.mp c_1
    refine lv_iload_n hx hb dX5_mend_8 rfl (lv_at hl 2 rfl) ?_
    refine lv_i2l hx hb dX5_mend_9 rfl ?_
    refine lv_lconst (v := 0) hx hb dX5_mend_10 (by decide) ?_
    refine lv_ldc2 hx hb hown hw0 dX5_mend_11 ?_
    refine pcI (va_runS (As := [.long h0.toInt64, .long 0, .long 35]) (rest := []) ⟨hx, hb, hml, hown, hts⟩ (kX5_in l D cI cO tt (MW am cI g y zz j f v X) s.heap h0 (0 : Int32) (35 : Int32) h0.toInt64 0 35 rfl (by decide) (by decide)) (va_cwS 3 hts gX5_mend_X5_in rfl rfl rfl (by decide +kernel) ⟨(Nat.le_of_ble_eq_true rfl), (Nat.le_of_ble_eq_true rfl)⟩) (pwS hK hZ hN hP hS) rfl rfl hl.1 rfl (lv_room (Nat.le_of_ble_eq_true rfl)) dX5_mend_14 ⟨Nat.zero_le _, Nat.zero_le _⟩) hS (fun locs hS => ?_)
    refine lv_if_ne (tgt := 23) hx hb dX5_mend_17 (by decide) (fun c_2 => ?_) (fun c_2 => ?_)
    · have c_2 := bI_n0.mp c_2
      refine lv_aload_n hx hb dX5_mend_23 rfl (lv_at hl 0 rfl) ?_
      refine va_get (D := D) (ci := 5) (v := .ref (am 7)) (C := RX5) (T := TX5) (N := 31) hx hb hts iX5 hown hK hP 0 rfl rfl 9 (by decide) hw1 (fun _ h9 => h9) rfl dX5_mend_24 ?_
      refine lv_iload_n hx hb dX5_mend_27 rfl (lv_at hl 1 rfl) ?_
      refine va_iald hx hb hK hP 7 0 rfl rfl (vin c_1.1 c_1.2 hI.2.1.2 (by decide)) dX5_mend_28 ?_
      refine lv_istore_n (lv' := [(3, .int (g 0 p0.toNatClampNeg)), (0, .ref (am 0)), (1, .int p0), (2, .int h0)]) hx hb dX5_mend_29 rfl hl (by decide) rfl (fun ls hl => ?_)
      refine lv_aload_n hx hb dX5_mend_30 rfl (lv_at hl 1 rfl) ?_
      refine va_get (D := D) (ci := 5) (v := .ref (am 7)) (C := RX5) (T := TX5) (N := 31) hx hb hts iX5 hown hK hP 0 rfl rfl 9 (by decide) hw1 (fun _ h9 => h9) rfl dX5_mend_31 ?_
      refine lv_iload_n hx hb dX5_mend_34 rfl (lv_at hl 2 rfl) ?_
      refine lv_iload_n hx hb dX5_mend_35 rfl (lv_at hl 3 rfl) ?_
      refine va_iast hx hb hK hP hD hS 7 0 rfl rfl (vin c_1.1 c_1.2 hI.2.1.2 (by decide)) dX5_mend_36 (fun H locs hP hD hS => ?_)
      have hP : va_P D vwCl (MW am cI (up2 g 0 p0.toNatClampNeg h0) y zz j f v X) H := hP
      have hD : va_D A (MW am cI (up2 g 0 p0.toNatClampNeg h0) y zz j f v X) := hD
      refine lv_iload_n hx hb dX5_mend_37 rfl (lv_at hl 0 rfl) ?_
      exact W.iret (v := g 0 p0.toNatClampNeg) hx hb hr (fun t ht hW => ⟨⟨g 0 p0.toNatClampNeg, (up2 g 0 p0.toNatClampNeg h0, y, zz, j, f, v), rfl, (by exact ⟨(by grind [fMend]), (by grind [gMend]), (by (repeat (first | exact hM | apply RM_u (by omega))))⟩), by rw [ht]; exact hP, hD⟩, hS.F ht⟩) hS.2.2 dX5_mend_38
    · have c_2 := bI_0.mp c_2
      refine lv_bipush (v := (-2)) hx hb dX5_mend_20 (by decide) ?_
      exact W.iret (v := (-2)) hx hb hr (fun t ht hW => ⟨⟨(-2), (g, y, zz, j, f, v), rfl, (by exact ⟨(by grind [fMend]), (by grind [gMend]), (by (repeat (first | exact hM | apply RM_u (by omega))))⟩), by rw [ht]; exact hP, hD⟩, hS.F ht⟩) hS.2.2 dX5_mend_22
set_option maxHeartbeats 4000000 in
set_option maxRecDepth 100000 in
theorem kX5_clear (l : Launch) (D : va_G) (cI cO : ClassId) (tt : Nat) (am : Nat → Nat) (g : Nat → Nat → Int32) (y : Nat → Int32) (zz : Nat → Int32) (j : Nat → Int64) (f : Nat → Int32) (v : Nat → Int32) (X : va_W) (sz : Nat)  (hI : WI g) (hM : RM g y zz) : MmI l yX5_clear wsX5_clear ({ frames := 0, cells := 0, slots := 0, locals := 0 }) D cI cO tt (MW am cI g y zz j f v X) sz [.ref (am 0)] (S := (Nat → Nat → Int32) × (Nat → Int32) × (Nat → Int32) × (Nat → Int64) × (Nat → Int32) × (Nat → Int32)) (fun u => MW am cI u.1 u.2.1 u.2.2.1 u.2.2.2.1 u.2.2.2.2.1 u.2.2.2.2.2 X) (fun z u => z = g 100 7 ∧ u.1 = up2 g 100 7 0 ∧ RM u.1 u.2.1 u.2.2.1) := by
  refine Met.ofW (cc := cX5_clear) (maxL := 2) (ret := (some .int)) (by decide) rfl ?_
  intro p e s m args below meth c s₁ B hml hv
  obtain ⟨rfl, hsz, hP, hK, hD0, hZ, hN⟩ := hv
  have hx := B.exec
  have hb := B.bytes
  have hr := B.returns
  have hts := atoms_spec (ws := wsX5_clear) B.pre
  have hown : s.vm.findClass RX5 = some m.cls := findClass_of_methodNamed B.named
  have hlocks := B.notSynchronized
  subst hsz
  have hD := hD0.self (sz := s.heap.size)
  generalize hAe : va_A (MW am cI g y zz j f v X) s.heap.size = A at hD hZ ⊢
  have hA : ∀ q : Nat, s.heap.size ≤ q → A q := fun q h => by rw [← hAe]; exact Or.inr h
  have hS : va_S A s.heap s.heap [] := va_S.rf
  have hl := lv_entry ([.ref (am 0)]) (n := 2) (Nat.le_of_ble_eq_true rfl)
  rw [lg_entry_eq]
  generalize (lg_sl ([.ref (am 0)]) ++ List.replicate (2 - (lg_sl ([.ref (am 0)])).length) Slot.unset).toArray = ls at hl ⊢
  have hl : lv_has ls 2 [(0, .ref (am 0))] := hl
  have hw0 := hts (.fieldLink RX5 82 "LayerSounderModel" "pings" "I") (List.mem_cons_of_mem _ (List.mem_append_left _ (List.mem_of_getElem? (i := 0) rfl)))
  have iX5 : ∀ w ∈ wsX50, w ∈ wsX5_clear := fun _ h => List.mem_cons_of_mem _ (List.mem_append_right _ h)
  refine lv_aload_n hx hb dX5_clear_0 rfl (lv_at hl 0 rfl) ?_
  refine va_get (D := D) (ci := 5) (v := .int (g 100 7)) (C := RX5) (T := TX5) (N := 31) hx hb hts iX5 hown hK hP 0 rfl rfl 8 (by decide) hw0 (fun _ h9 => h9) rfl dX5_clear_1 ?_
  refine lv_istore_n (lv' := [(1, .int (g 100 7)), (0, .ref (am 0))]) hx hb dX5_clear_4 rfl hl (by decide) rfl (fun ls hl => ?_)
  refine lv_aload_n hx hb dX5_clear_5 rfl (lv_at hl 1 rfl) ?_
  refine lv_iconst (v := 0) hx hb dX5_clear_6 (by decide) ?_
  refine va_put (D := D) (ci := 5) (v := .int 0) (C := RX5) (T := TX5) (N := 31) hx hb hts iX5 tyX5 tyX5_ok nmX5 hown hK hP hD hS 0 rfl rfl 8 (by decide) hw0 (fun _ h9 => h9) rfl (tyX5_ok 8 (by decide)) rfl rfl (Nat.le_of_ble_eq_true rfl) dX5_clear_7 (fun H locs hP hD hS => ?_)
  have hP : va_P D vwCl (MW am cI (up2 g 100 7 0) y zz j f v X) H := hP
  have hD : va_D A (MW am cI (up2 g 100 7 0) y zz j f v X) := hD
  refine lv_iload_n hx hb dX5_clear_10 rfl (lv_at hl 0 rfl) ?_
  exact W.iret (v := g 100 7) hx hb hr (fun t ht hW => ⟨⟨g 100 7, (up2 g 100 7 0, y, zz, j, f, v), rfl, (by exact ⟨rfl, rfl, RM_u (by omega) hM⟩), by rw [ht]; exact hP, hD⟩, hS.F ht⟩) hS.2.2 dX5_clear_11
set_option maxHeartbeats 4000000 in
set_option maxRecDepth 100000 in
theorem kX5_motion (l : Launch) (D : va_G) (cI cO : ClassId) (tt : Nat) (am : Nat → Nat) (g : Nat → Nat → Int32) (y : Nat → Int32) (zz : Nat → Int32) (j : Nat → Int64) (f : Nat → Int32) (v : Nat → Int32) (X : va_W) (sz : Nat) (h0 : Int32) (hI : WI g) (hM : RM g y zz) : MmI l yX5_motion wsX5_motion ({ frames := 1, cells := 0, slots := 0, locals := 25 }) D cI cO tt (MW am cI g y zz j f v X) sz [.ref (am 0), .int h0] (S := (Nat → Nat → Int32) × (Nat → Int32) × (Nat → Int32) × (Nat → Int64) × (Nat → Int32) × (Nat → Int32)) (fun u => MW am cI u.1 u.2.1 u.2.2.1 u.2.2.2.1 u.2.2.2.2.1 u.2.2.2.2.2 X) (fun z u => z = fMotion g h0 ∧ u.1 = gMotion g h0 ∧ RM u.1 u.2.1 u.2.2.1) := by
  refine Met.ofW (cc := cX5_motion) (maxL := 3) (ret := (some .int)) (by decide) rfl ?_
  intro p e s m args below meth c s₁ B hml hv
  obtain ⟨rfl, hsz, hP, hK, hD0, hZ, hN⟩ := hv
  have hx := B.exec
  have hb := B.bytes
  have hr := B.returns
  have hts := atoms_spec (ws := wsX5_motion) B.pre
  have hown : s.vm.findClass RX5 = some m.cls := findClass_of_methodNamed B.named
  have hlocks := B.notSynchronized
  subst hsz
  have hD := hD0.self (sz := s.heap.size)
  generalize hAe : va_A (MW am cI g y zz j f v X) s.heap.size = A at hD hZ ⊢
  have hA : ∀ q : Nat, s.heap.size ≤ q → A q := fun q h => by rw [← hAe]; exact Or.inr h
  have hS : va_S A s.heap s.heap [] := va_S.rf
  have hl := lv_entry ([.ref (am 0), .int h0]) (n := 3) (Nat.le_of_ble_eq_true rfl)
  rw [lg_entry_eq]
  generalize (lg_sl ([.ref (am 0), .int h0]) ++ List.replicate (3 - (lg_sl ([.ref (am 0), .int h0])).length) Slot.unset).toArray = ls at hl ⊢
  have hl : lv_has ls 3 [(0, .ref (am 0)), (1, .int h0)] := hl
  have hw0 := hts (.constantLong RX5 66 (2)) (List.mem_cons_of_mem _ (List.mem_append_left _ (List.mem_of_getElem? (i := 0) rfl)))
  have hw1 := hts (.fieldLink RX5 130 "LayerSounderModel" "motion" "I") (List.mem_cons_of_mem _ (List.mem_append_left _ (List.mem_of_getElem? (i := 1) rfl)))
  have iX5 : ∀ w ∈ wsX50, w ∈ wsX5_motion := fun _ h => List.mem_cons_of_mem _ (List.mem_append_right _ h)
  refine lv_iload_n hx hb dX5_motion_0 rfl (lv_at hl 1 rfl) ?_
  refine lv_i2l hx hb dX5_motion_1 rfl ?_
  refine lv_lconst (v := 0) hx hb dX5_motion_2 (by decide) ?_
  refine lv_ldc2 hx hb hown hw0 dX5_motion_3 ?_
  refine pcI (va_runS (As := [.long h0.toInt64, .long 0, .long 2]) (rest := []) ⟨hx, hb, hml, hown, hts⟩ (kX5_in l D cI cO tt (MW am cI g y zz j f v X) s.heap h0 (0 : Int32) (2 : Int32) h0.toInt64 0 2 rfl (by decide) (by decide)) (va_cwS 3 hts gX5_motion_X5_in rfl rfl rfl (by decide +kernel) ⟨(Nat.le_of_ble_eq_true rfl), (Nat.le_of_ble_eq_true rfl)⟩) (pwS hK hZ hN hP hS) rfl rfl hl.1 rfl (lv_room (Nat.le_of_ble_eq_true rfl)) dX5_motion_6 ⟨Nat.zero_le _, Nat.zero_le _⟩) hS (fun locs hS => ?_)
  refine lv_if_ne (tgt := 15) hx hb dX5_motion_9 (by decide) (fun c_1 => ?_) (fun c_1 => ?_)
  · have c_1 := bI_n0.mp c_1
    refine lv_aload_n hx hb dX5_motion_15 rfl (lv_at hl 0 rfl) ?_
    refine va_get (D := D) (ci := 5) (v := .int (g 100 1)) (C := RX5) (T := TX5) (N := 31) hx hb hts iX5 hown hK hP 0 rfl rfl 19 (by decide) hw1 (fun _ h9 => h9) rfl dX5_motion_16 ?_
    refine lv_topi (fun x_2 ex_2 => ?_)
    refine lv_istore_n (lv' := [(2, .int x_2), (0, .ref (am 0)), (1, .int h0)]) hx hb dX5_motion_19 rfl hl (by decide) rfl (fun ls hl => ?_)
    refine lv_aload_n hx hb dX5_motion_20 rfl (lv_at hl 1 rfl) ?_
    refine lv_iload_n hx hb dX5_motion_21 rfl (lv_at hl 2 rfl) ?_
    refine va_put (D := D) (ci := 5) (v := .int h0) (C := RX5) (T := TX5) (N := 31) hx hb hts iX5 tyX5 tyX5_ok nmX5 hown hK hP hD hS 0 rfl rfl 19 (by decide) hw1 (fun _ h9 => h9) rfl (tyX5_ok 19 (by decide)) rfl rfl (Nat.le_of_ble_eq_true rfl) dX5_motion_22 (fun H locs hP hD hS => ?_)
    have hP : va_P D vwCl (MW am cI (up2 g 100 1 h0) y zz j f v X) H := hP
    have hD : va_D A (MW am cI (up2 g 100 1 h0) y zz j f v X) := hD
    refine lv_iload_n hx hb dX5_motion_25 rfl (lv_at hl 0 rfl) ?_
    exact W.iret (v := x_2) hx hb hr (fun t ht hW => ⟨⟨x_2, (up2 g 100 1 h0, y, zz, j, f, v), rfl, (by exact ⟨(by grind [fMotion]), (by grind [gMotion]), (by (repeat (first | exact hM | apply RM_u (by omega))))⟩), by rw [ht]; exact hP, hD⟩, hS.F ht⟩) hS.2.2 dX5_motion_26
  · have c_1 := bI_0.mp c_1
    refine lv_bipush (v := (-2)) hx hb dX5_motion_12 (by decide) ?_
    exact W.iret (v := (-2)) hx hb hr (fun t ht hW => ⟨⟨(-2), (g, y, zz, j, f, v), rfl, (by exact ⟨(by grind [fMotion]), (by grind [gMotion]), (by (repeat (first | exact hM | apply RM_u (by omega))))⟩), by rw [ht]; exact hP, hD⟩, hS.F ht⟩) hS.2.2 dX5_motion_14
set_option maxHeartbeats 4000000 in
set_option maxRecDepth 100000 in
theorem kX5_skew (l : Launch) (D : va_G) (cI cO : ClassId) (tt : Nat) (am : Nat → Nat) (g : Nat → Nat → Int32) (y : Nat → Int32) (zz : Nat → Int32) (j : Nat → Int64) (f : Nat → Int32) (v : Nat → Int32) (X : va_W) (sz : Nat) (h0 : Int32) (hI : WI g) (hM : RM g y zz) : MmI l yX5_skew wsX5_skew ({ frames := 1, cells := 0, slots := 0, locals := 25 }) D cI cO tt (MW am cI g y zz j f v X) sz [.ref (am 0), .int h0] (S := (Nat → Nat → Int32) × (Nat → Int32) × (Nat → Int32) × (Nat → Int64) × (Nat → Int32) × (Nat → Int32)) (fun u => MW am cI u.1 u.2.1 u.2.2.1 u.2.2.2.1 u.2.2.2.2.1 u.2.2.2.2.2 X) (fun z u => z = fSkew g h0 ∧ u.1 = gSkew g h0 ∧ RM u.1 u.2.1 u.2.2.1) := by
  refine Met.ofW (cc := cX5_skew) (maxL := 3) (ret := (some .int)) (by decide) rfl ?_
  intro p e s m args below meth c s₁ B hml hv
  obtain ⟨rfl, hsz, hP, hK, hD0, hZ, hN⟩ := hv
  have hx := B.exec
  have hb := B.bytes
  have hr := B.returns
  have hts := atoms_spec (ws := wsX5_skew) B.pre
  have hown : s.vm.findClass RX5 = some m.cls := findClass_of_methodNamed B.named
  have hlocks := B.notSynchronized
  subst hsz
  have hD := hD0.self (sz := s.heap.size)
  generalize hAe : va_A (MW am cI g y zz j f v X) s.heap.size = A at hD hZ ⊢
  have hA : ∀ q : Nat, s.heap.size ≤ q → A q := fun q h => by rw [← hAe]; exact Or.inr h
  have hS : va_S A s.heap s.heap [] := va_S.rf
  have hl := lv_entry ([.ref (am 0), .int h0]) (n := 3) (Nat.le_of_ble_eq_true rfl)
  rw [lg_entry_eq]
  generalize (lg_sl ([.ref (am 0), .int h0]) ++ List.replicate (3 - (lg_sl ([.ref (am 0), .int h0])).length) Slot.unset).toArray = ls at hl ⊢
  have hl : lv_has ls 3 [(0, .ref (am 0)), (1, .int h0)] := hl
  have hw0 := hts (.constantLong RX5 85 (35)) (List.mem_cons_of_mem _ (List.mem_append_left _ (List.mem_of_getElem? (i := 0) rfl)))
  have hw1 := hts (.fieldLink RX5 133 "LayerSounderModel" "skew" "I") (List.mem_cons_of_mem _ (List.mem_append_left _ (List.mem_of_getElem? (i := 1) rfl)))
  have iX5 : ∀ w ∈ wsX50, w ∈ wsX5_skew := fun _ h => List.mem_cons_of_mem _ (List.mem_append_right _ h)
  refine lv_iload_n hx hb dX5_skew_0 rfl (lv_at hl 1 rfl) ?_
  refine lv_i2l hx hb dX5_skew_1 rfl ?_
  refine lv_lconst (v := 0) hx hb dX5_skew_2 (by decide) ?_
  refine lv_ldc2 hx hb hown hw0 dX5_skew_3 ?_
  refine pcI (va_runS (As := [.long h0.toInt64, .long 0, .long 35]) (rest := []) ⟨hx, hb, hml, hown, hts⟩ (kX5_in l D cI cO tt (MW am cI g y zz j f v X) s.heap h0 (0 : Int32) (35 : Int32) h0.toInt64 0 35 rfl (by decide) (by decide)) (va_cwS 3 hts gX5_skew_X5_in rfl rfl rfl (by decide +kernel) ⟨(Nat.le_of_ble_eq_true rfl), (Nat.le_of_ble_eq_true rfl)⟩) (pwS hK hZ hN hP hS) rfl rfl hl.1 rfl (lv_room (Nat.le_of_ble_eq_true rfl)) dX5_skew_6 ⟨Nat.zero_le _, Nat.zero_le _⟩) hS (fun locs hS => ?_)
  refine lv_if_ne (tgt := 15) hx hb dX5_skew_9 (by decide) (fun c_1 => ?_) (fun c_1 => ?_)
  · have c_1 := bI_n0.mp c_1
    refine lv_aload_n hx hb dX5_skew_15 rfl (lv_at hl 0 rfl) ?_
    refine va_get (D := D) (ci := 5) (v := .int (g 100 2)) (C := RX5) (T := TX5) (N := 31) hx hb hts iX5 hown hK hP 0 rfl rfl 20 (by decide) hw1 (fun _ h9 => h9) rfl dX5_skew_16 ?_
    refine lv_topi (fun x_2 ex_2 => ?_)
    refine lv_istore_n (lv' := [(2, .int x_2), (0, .ref (am 0)), (1, .int h0)]) hx hb dX5_skew_19 rfl hl (by decide) rfl (fun ls hl => ?_)
    refine lv_aload_n hx hb dX5_skew_20 rfl (lv_at hl 1 rfl) ?_
    refine lv_iload_n hx hb dX5_skew_21 rfl (lv_at hl 2 rfl) ?_
    refine va_put (D := D) (ci := 5) (v := .int h0) (C := RX5) (T := TX5) (N := 31) hx hb hts iX5 tyX5 tyX5_ok nmX5 hown hK hP hD hS 0 rfl rfl 20 (by decide) hw1 (fun _ h9 => h9) rfl (tyX5_ok 20 (by decide)) rfl rfl (Nat.le_of_ble_eq_true rfl) dX5_skew_22 (fun H locs hP hD hS => ?_)
    have hP : va_P D vwCl (MW am cI (up2 g 100 2 h0) y zz j f v X) H := hP
    have hD : va_D A (MW am cI (up2 g 100 2 h0) y zz j f v X) := hD
    refine lv_iload_n hx hb dX5_skew_25 rfl (lv_at hl 0 rfl) ?_
    exact W.iret (v := x_2) hx hb hr (fun t ht hW => ⟨⟨x_2, (up2 g 100 2 h0, y, zz, j, f, v), rfl, (by exact ⟨(by grind [fSkew]), (by grind [gSkew]), (by (repeat (first | exact hM | apply RM_u (by omega))))⟩), by rw [ht]; exact hP, hD⟩, hS.F ht⟩) hS.2.2 dX5_skew_26
  · have c_1 := bI_0.mp c_1
    refine lv_bipush (v := (-2)) hx hb dX5_skew_12 (by decide) ?_
    exact W.iret (v := (-2)) hx hb hr (fun t ht hW => ⟨⟨(-2), (g, y, zz, j, f, v), rfl, (by exact ⟨(by grind [fSkew]), (by grind [gSkew]), (by (repeat (first | exact hM | apply RM_u (by omega))))⟩), by rw [ht]; exact hP, hD⟩, hS.F ht⟩) hS.2.2 dX5_skew_14
set_option maxHeartbeats 4000000 in
set_option maxRecDepth 100000 in
theorem kX5_laws (l : Launch) (D : va_G) (cI cO : ClassId) (tt : Nat) (am : Nat → Nat) (g : Nat → Nat → Int32) (y : Nat → Int32) (zz : Nat → Int32) (j : Nat → Int64) (f : Nat → Int32) (v : Nat → Int32) (X : va_W) (sz : Nat) (e0 : Int32) (t0 : Int32) (w0 : Int32) (hI : WI g) (hM : RM g y zz) (ht0 : t0 = 0 ∨ t0 = 1) : MmI l yX5_laws wsX5_laws ({ frames := 1, cells := 0, slots := 0, locals := 25 }) D cI cO tt (MW am cI g y zz j f v X) sz [.ref (am 0), .int e0, .int t0, .int w0] (S := (Nat → Nat → Int32) × (Nat → Int32) × (Nat → Int32) × (Nat → Int64) × (Nat → Int32) × (Nat → Int32)) (fun u => MW am cI u.1 u.2.1 u.2.2.1 u.2.2.2.1 u.2.2.2.2.1 u.2.2.2.2.2 X) (fun z u => z = fLaws e0 w0 ∧ u.1 = gLaws g e0 t0 w0 ∧ RM u.1 u.2.1 u.2.2.1) := by
  refine Met.ofW (cc := cX5_laws) (maxL := 4) (ret := (some .int)) (by decide) rfl ?_
  intro p e s m args below meth c s₁ B hml hv
  obtain ⟨rfl, hsz, hP, hK, hD0, hZ, hN⟩ := hv
  have hx := B.exec
  have hb := B.bytes
  have hr := B.returns
  have hts := atoms_spec (ws := wsX5_laws) B.pre
  have hown : s.vm.findClass RX5 = some m.cls := findClass_of_methodNamed B.named
  have hlocks := B.notSynchronized
  subst hsz
  have hD := hD0.self (sz := s.heap.size)
  generalize hAe : va_A (MW am cI g y zz j f v X) s.heap.size = A at hD hZ ⊢
  have hA : ∀ q : Nat, s.heap.size ≤ q → A q := fun q h => by rw [← hAe]; exact Or.inr h
  have hS : va_S A s.heap s.heap [] := va_S.rf
  have hl := lv_entry ([.ref (am 0), .int e0, .int t0, .int w0]) (n := 4) (Nat.le_of_ble_eq_true rfl)
  rw [lg_entry_eq]
  generalize (lg_sl ([.ref (am 0), .int e0, .int t0, .int w0]) ++ List.replicate (4 - (lg_sl ([.ref (am 0), .int e0, .int t0, .int w0])).length) Slot.unset).toArray = ls at hl ⊢
  have hl : lv_has ls 4 [(0, .ref (am 0)), (1, .int e0), (2, .int t0), (3, .int w0)] := hl
  have hw0 := hts (.constantLong RX5 80 (16)) (List.mem_cons_of_mem _ (List.mem_append_left _ (List.mem_of_getElem? (i := 0) rfl)))
  have hw1 := hts (.constantLong RX5 136 (100000)) (List.mem_cons_of_mem _ (List.mem_append_left _ (List.mem_of_getElem? (i := 1) rfl)))
  have hw2 := hts (.fieldLink RX5 138 "LayerSounderModel" "edge" "I") (List.mem_cons_of_mem _ (List.mem_append_left _ (List.mem_of_getElem? (i := 2) rfl)))
  have iX5 : ∀ w ∈ wsX50, w ∈ wsX5_laws := fun _ h => List.mem_cons_of_mem _ (List.mem_append_right _ h)
  have hw4 := hts (.fieldLink RX5 44 "LayerSounderModel" "takes" "Z") (List.mem_cons_of_mem _ (List.mem_append_left _ (List.mem_of_getElem? (i := 3) rfl)))
  have hw5 := hts (.fieldLink RX5 48 "LayerSounderModel" "bound" "I") (List.mem_cons_of_mem _ (List.mem_append_left _ (List.mem_of_getElem? (i := 4) rfl)))
  refine lv_iload_n hx hb dX5_laws_0 rfl (lv_at hl 1 rfl) ?_
  refine lv_i2l hx hb dX5_laws_1 rfl ?_
  refine lv_lconst (v := 0) hx hb dX5_laws_2 (by decide) ?_
  refine lv_ldc2 hx hb hown hw0 dX5_laws_3 ?_
  refine pcI (va_runS (As := [.long e0.toInt64, .long 0, .long 16]) (rest := []) ⟨hx, hb, hml, hown, hts⟩ (kX5_in l D cI cO tt (MW am cI g y zz j f v X) s.heap e0 (0 : Int32) (16 : Int32) e0.toInt64 0 16 rfl (by decide) (by decide)) (va_cwS 3 hts gX5_laws_X5_in rfl rfl rfl (by decide +kernel) ⟨(Nat.le_of_ble_eq_true rfl), (Nat.le_of_ble_eq_true rfl)⟩) (pwS hK hZ hN hP hS) rfl rfl hl.1 rfl (lv_room (Nat.le_of_ble_eq_true rfl)) dX5_laws_6 ⟨Nat.zero_le _, Nat.zero_le _⟩) hS (fun locs hS => ?_)
  refine lv_if_eq (tgt := 24) hx hb dX5_laws_9 (by decide) (fun c_1 => ?_) (fun c_1 => ?_)
  · have c_1 := bI_0.mp c_1
    refine lv_bipush (v := (-2)) hx hb dX5_laws_24 (by decide) ?_
    exact W.iret (v := (-2)) hx hb hr (fun t ht hW => ⟨⟨(-2), (g, y, zz, j, f, v), rfl, (by exact ⟨(by grind [fLaws]), (by grind [gLaws]), (by (repeat (first | exact hM | apply RM_u (by omega))))⟩), by rw [ht]; exact hP, hD⟩, hS.F ht⟩) hS.2.2 dX5_laws_26
  · have c_1 := bI_n0.mp c_1
    refine lv_iload_n hx hb dX5_laws_12 rfl (lv_at hl 3 rfl) ?_
    refine lv_i2l hx hb dX5_laws_13 rfl ?_
    refine lv_lconst (v := 0) hx hb dX5_laws_14 (by decide) ?_
    refine lv_ldc2 hx hb hown hw1 dX5_laws_15 ?_
    refine pcI (va_runS (As := [.long w0.toInt64, .long 0, .long 100000]) (rest := []) ⟨hx, hb, hml, hown, hts⟩ (kX5_in l D cI cO tt (MW am cI g y zz j f v X) s.heap w0 (0 : Int32) (100000 : Int32) w0.toInt64 0 100000 rfl (by decide) (by decide)) (va_cwS 3 hts gX5_laws_X5_in rfl rfl rfl (by decide +kernel) ⟨(Nat.le_of_ble_eq_true rfl), (Nat.le_of_ble_eq_true rfl)⟩) (pwS hK hZ hN hP hS) rfl rfl hl.1 rfl (lv_room (Nat.le_of_ble_eq_true rfl)) dX5_laws_18 ⟨Nat.zero_le _, Nat.zero_le _⟩) hS (fun locs hS => ?_)
    refine lv_if_ne (tgt := 27) hx hb dX5_laws_21 (by decide) (fun c_2 => ?_) (fun c_2 => ?_)
    · have c_2 := bI_n0.mp c_2
      refine lv_aload_n hx hb dX5_laws_27 rfl (lv_at hl 0 rfl) ?_
      refine lv_iload_n hx hb dX5_laws_28 rfl (lv_at hl 1 rfl) ?_
      refine va_put (D := D) (ci := 5) (v := .int e0) (C := RX5) (T := TX5) (N := 31) hx hb hts iX5 tyX5 tyX5_ok nmX5 hown hK hP hD hS 0 rfl rfl 21 (by decide) hw2 (fun _ h9 => h9) rfl (tyX5_ok 21 (by decide)) rfl rfl (Nat.le_of_ble_eq_true rfl) dX5_laws_29 (fun H locs hP hD hS => ?_)
      have hP : va_P D vwCl (MW am cI (up2 g 100 3 e0) y zz j f v X) H := hP
      have hD : va_D A (MW am cI (up2 g 100 3 e0) y zz j f v X) := hD
      refine lv_aload_n hx hb dX5_laws_32 rfl (lv_at hl 0 rfl) ?_
      refine lv_iload_n hx hb dX5_laws_33 rfl (lv_at hl 2 rfl) ?_
      refine va_put (D := D) (ci := 5) (v := .int t0) (C := RX5) (T := TX5) (N := 31) hx hb hts iX5 tyX5 tyX5_ok nmX5 hown hK hP hD hS 0 rfl rfl 22 (by decide) hw4 (fun _ h9 => h9) rfl (tyX5_ok 22 (by decide)) (bn01 ht0) (bf01 ht0) (Nat.le_of_ble_eq_true rfl) dX5_laws_34 (fun H locs hP hD hS => ?_)
      have hP : va_P D vwCl (MW am cI (up2 (up2 g 100 3 e0) 100 4 t0) y zz j f v X) H := hP
      have hD : va_D A (MW am cI (up2 (up2 g 100 3 e0) 100 4 t0) y zz j f v X) := hD
      refine lv_aload_n hx hb dX5_laws_37 rfl (lv_at hl 0 rfl) ?_
      refine lv_iload_n hx hb dX5_laws_38 rfl (lv_at hl 3 rfl) ?_
      refine va_put (D := D) (ci := 5) (v := .int w0) (C := RX5) (T := TX5) (N := 31) hx hb hts iX5 tyX5 tyX5_ok nmX5 hown hK hP hD hS 0 rfl rfl 23 (by decide) hw5 (fun _ h9 => h9) rfl (tyX5_ok 23 (by decide)) rfl rfl (Nat.le_of_ble_eq_true rfl) dX5_laws_39 (fun H locs hP hD hS => ?_)
      have hP : va_P D vwCl (MW am cI (up2 (up2 (up2 g 100 3 e0) 100 4 t0) 100 5 w0) y zz j f v X) H := hP
      have hD : va_D A (MW am cI (up2 (up2 (up2 g 100 3 e0) 100 4 t0) 100 5 w0) y zz j f v X) := hD
      refine lv_iconst (v := 1) hx hb dX5_laws_42 (by decide) ?_
      exact W.iret (v := 1) hx hb hr (fun t ht hW => ⟨⟨1, (up2 (up2 (up2 g 100 3 e0) 100 4 t0) 100 5 w0, y, zz, j, f, v), rfl, (by exact ⟨(by grind [fLaws]), (by grind [gLaws]), (by (repeat (first | exact hM | apply RM_u (by omega))))⟩), by rw [ht]; exact hP, hD⟩, hS.F ht⟩) hS.2.2 dX5_laws_43
    · have c_2 := bI_0.mp c_2
      refine lv_bipush (v := (-2)) hx hb dX5_laws_24 (by decide) ?_
      exact W.iret (v := (-2)) hx hb hr (fun t ht hW => ⟨⟨(-2), (g, y, zz, j, f, v), rfl, (by exact ⟨(by grind [fLaws]), (by grind [gLaws]), (by (repeat (first | exact hM | apply RM_u (by omega))))⟩), by rw [ht]; exact hP, hD⟩, hS.F ht⟩) hS.2.2 dX5_laws_26
set_option maxHeartbeats 4000000 in
set_option maxRecDepth 100000 in
theorem kX5_about (l : Launch) (D : va_G) (cI cO : ClassId) (tt : Nat) (am : Nat → Nat) (g : Nat → Nat → Int32) (y : Nat → Int32) (zz : Nat → Int32) (j : Nat → Int64) (f : Nat → Int32) (v : Nat → Int32) (X : va_W) (sz : Nat) (p0 : Int32) (w0 : Int32) (hI : WI g) (hM : RM g y zz) : MmI l yX5_about wsX5_about ({ frames := 3, cells := 0, slots := 0, locals := 74 }) D cI cO tt (MW am cI g y zz j f v X) sz [.ref (am 0), .int p0, .int w0] (S := (Nat → Nat → Int32) × (Nat → Int32) × (Nat → Int32) × (Nat → Int64) × (Nat → Int32) × (Nat → Int32)) (fun u => MW am cI u.1 u.2.1 u.2.2.1 u.2.2.2.1 u.2.2.2.2.1 u.2.2.2.2.2 X) (fun z u => z = fAbout g p0 w0 ∧ u.1 = g ∧ RM u.1 u.2.1 u.2.2.1) := by
  refine Met.ofW (cc := cX5_about) (maxL := 3) (ret := (some .int)) (by decide) rfl ?_
  intro p e s m args below meth c s₁ B hml hv
  obtain ⟨rfl, hsz, hP, hK, hD0, hZ, hN⟩ := hv
  have hx := B.exec
  have hb := B.bytes
  have hr := B.returns
  have hts := atoms_spec (ws := wsX5_about) B.pre
  have hown : s.vm.findClass RX5 = some m.cls := findClass_of_methodNamed B.named
  have hlocks := B.notSynchronized
  subst hsz
  have hD := hD0.self (sz := s.heap.size)
  generalize hAe : va_A (MW am cI g y zz j f v X) s.heap.size = A at hD hZ ⊢
  have hA : ∀ q : Nat, s.heap.size ≤ q → A q := fun q h => by rw [← hAe]; exact Or.inr h
  have hS : va_S A s.heap s.heap [] := va_S.rf
  have hl := lv_entry ([.ref (am 0), .int p0, .int w0]) (n := 3) (Nat.le_of_ble_eq_true rfl)
  rw [lg_entry_eq]
  generalize (lg_sl ([.ref (am 0), .int p0, .int w0]) ++ List.replicate (3 - (lg_sl ([.ref (am 0), .int p0, .int w0])).length) Slot.unset).toArray = ls at hl ⊢
  have hl : lv_has ls 3 [(0, .ref (am 0)), (1, .int p0), (2, .int w0)] := hl
  have hw0 := hts (.constant RX5 76 (-2147483648)) (List.mem_cons_of_mem _ (List.mem_append_left _ (List.mem_append_left _ (List.mem_of_getElem? (l := wsX5_about_r1) (i := 0) rfl))))
  have hw1 := hts (.fieldLink RX5 32 "LayerSounderModel" "headings" "[I") (List.mem_cons_of_mem _ (List.mem_append_left _ (List.mem_append_left _ (List.mem_of_getElem? (l := wsX5_about_r1) (i := 1) rfl))))
  have iX5 : ∀ w ∈ wsX50, w ∈ wsX5_about := fun _ h => List.mem_cons_of_mem _ (List.mem_append_right _ h)
  have hw3 := hts (.fieldLink RX5 35 "LayerSounderModel" "xs" "[I") (List.mem_cons_of_mem _ (List.mem_append_left _ (List.mem_append_left _ (List.mem_of_getElem? (l := wsX5_about_r1) (i := 2) rfl))))
  have hw4 := hts (.fieldLink RX5 38 "LayerSounderModel" "ys" "[I") (List.mem_cons_of_mem _ (List.mem_append_left _ (List.mem_append_left _ (List.mem_of_getElem? (l := wsX5_about_r1) (i := 3) rfl))))
  have hw5 := hts (.fieldLink RX5 41 "LayerSounderModel" "depths" "[I") (List.mem_cons_of_mem _ (List.mem_append_left _ (List.mem_append_left _ (List.mem_of_getElem? (l := wsX5_about_r1) (i := 4) rfl))))
  refine lv_aload_n hx hb dX5_about_0 rfl (lv_at hl 0 rfl) ?_
  refine lv_iload_n hx hb dX5_about_1 rfl (lv_at hl 1 rfl) ?_
  refine pcI (va_runV (As := [.int p0]) (rest := []) ⟨hx, hb, hml, hown, hts⟩ (kX5_isPing l D cI cO tt am g y zz j f v X s.heap p0 hI) (cwV 1 hts gX5_about_X5_isPing rfl rfl rfl (by decide +kernel) ⟨(Nat.le_of_ble_eq_true rfl), (Nat.le_of_ble_eq_true rfl)⟩) (pwV hK hZ hN hP hS (va_recv hK hP (ci := 5) (q0 := 0) rfl rfl)) rfl rfl hl.1 rfl (lv_room (Nat.le_of_ble_eq_true rfl)) dX5_about_2 ⟨Nat.zero_le _, Nat.zero_le _⟩) hS (fun locs hS => ?_)
  refine lv_if_ne (tgt := 11) hx hb dX5_about_5 (by decide) (fun c_1 => ?_) (fun c_1 => ?_)
  · have c_1 := bI_n0.mp c_1
    refine lv_iload_n hx hb dX5_about_11 rfl (lv_at hl 2 rfl) ?_
    rcases sw_4 w0 with c_2 | c_2 | c_2 | c_2 | c_2 | c_2
    · refine lv_tableOut (tgt := 90) hx hb dX5_about_12 c_2.1 (by decide) ?_
      replace c_2 := c_2.2
      refine lv_ldc hx hb hown hw0 dX5_about_90 ?_
      exact W.iret (v := (-2147483648)) hx hb hr (fun t ht hW => ⟨⟨(-2147483648), (g, y, zz, j, f, v), rfl, (by exact ⟨(by grind [fAbout, bI]), (by rfl), (by (repeat (first | exact hM | apply RM_u (by omega))))⟩), by rw [ht]; exact hP, hD⟩, hS.F ht⟩) hS.2.2 dX5_about_92
    · refine lv_tableIn (tgt := 48) hx hb dX5_about_12 (by rw [c_2]; decide) (by rw [c_2]; decide) (by rw [c_2]; rfl) (by decide) ?_
      refine lv_aload_n hx hb dX5_about_48 rfl (lv_at hl 0 rfl) ?_
      refine va_get (D := D) (ci := 5) (v := .ref (am 7)) (C := RX5) (T := TX5) (N := 31) hx hb hts iX5 hown hK hP 0 rfl rfl 9 (by decide) hw1 (fun _ h9 => h9) rfl dX5_about_49 ?_
      refine lv_iload_n hx hb dX5_about_52 rfl (lv_at hl 1 rfl) ?_
      refine va_iald hx hb hK hP 7 0 rfl rfl (vin c_1.1 c_1.2 hI.2.1.2 (by decide)) dX5_about_53 ?_
      exact W.iret (v := g 0 p0.toNatClampNeg) hx hb hr (fun t ht hW => ⟨⟨g 0 p0.toNatClampNeg, (g, y, zz, j, f, v), rfl, (by exact ⟨(by grind [fAbout, bI]), (by rfl), (by (repeat (first | exact hM | apply RM_u (by omega))))⟩), by rw [ht]; exact hP, hD⟩, hS.F ht⟩) hS.2.2 dX5_about_54
    · refine lv_tableIn (tgt := 55) hx hb dX5_about_12 (by rw [c_2]; decide) (by rw [c_2]; decide) (by rw [c_2]; rfl) (by decide) ?_
      refine lv_aload_n hx hb dX5_about_55 rfl (lv_at hl 0 rfl) ?_
      refine va_get (D := D) (ci := 5) (v := .ref (am 8)) (C := RX5) (T := TX5) (N := 31) hx hb hts iX5 hown hK hP 0 rfl rfl 10 (by decide) hw3 (fun _ h9 => h9) rfl dX5_about_56 ?_
      refine lv_iload_n hx hb dX5_about_59 rfl (lv_at hl 1 rfl) ?_
      refine va_iald hx hb hK hP 8 0 rfl rfl (vin c_1.1 c_1.2 hI.2.1.2 (by decide)) dX5_about_60 ?_
      exact W.iret (v := g 1 p0.toNatClampNeg) hx hb hr (fun t ht hW => ⟨⟨g 1 p0.toNatClampNeg, (g, y, zz, j, f, v), rfl, (by exact ⟨(by grind [fAbout, bI]), (by rfl), (by (repeat (first | exact hM | apply RM_u (by omega))))⟩), by rw [ht]; exact hP, hD⟩, hS.F ht⟩) hS.2.2 dX5_about_61
    · refine lv_tableIn (tgt := 62) hx hb dX5_about_12 (by rw [c_2]; decide) (by rw [c_2]; decide) (by rw [c_2]; rfl) (by decide) ?_
      refine lv_aload_n hx hb dX5_about_62 rfl (lv_at hl 0 rfl) ?_
      refine va_get (D := D) (ci := 5) (v := .ref (am 9)) (C := RX5) (T := TX5) (N := 31) hx hb hts iX5 hown hK hP 0 rfl rfl 11 (by decide) hw4 (fun _ h9 => h9) rfl dX5_about_63 ?_
      refine lv_iload_n hx hb dX5_about_66 rfl (lv_at hl 1 rfl) ?_
      refine va_iald hx hb hK hP 9 0 rfl rfl (vin c_1.1 c_1.2 hI.2.1.2 (by decide)) dX5_about_67 ?_
      exact W.iret (v := g 2 p0.toNatClampNeg) hx hb hr (fun t ht hW => ⟨⟨g 2 p0.toNatClampNeg, (g, y, zz, j, f, v), rfl, (by exact ⟨(by grind [fAbout, bI]), (by rfl), (by (repeat (first | exact hM | apply RM_u (by omega))))⟩), by rw [ht]; exact hP, hD⟩, hS.F ht⟩) hS.2.2 dX5_about_68
    · refine lv_tableIn (tgt := 69) hx hb dX5_about_12 (by rw [c_2]; decide) (by rw [c_2]; decide) (by rw [c_2]; rfl) (by decide) ?_
      refine lv_aload_n hx hb dX5_about_69 rfl (lv_at hl 0 rfl) ?_
      refine va_get (D := D) (ci := 5) (v := .ref (am 10)) (C := RX5) (T := TX5) (N := 31) hx hb hts iX5 hown hK hP 0 rfl rfl 12 (by decide) hw5 (fun _ h9 => h9) rfl dX5_about_70 ?_
      refine lv_iload_n hx hb dX5_about_73 rfl (lv_at hl 1 rfl) ?_
      refine va_iald hx hb hK hP 10 0 rfl rfl (vin c_1.1 c_1.2 hI.2.1.2 (by decide)) dX5_about_74 ?_
      exact W.iret (v := g 3 p0.toNatClampNeg) hx hb hr (fun t ht hW => ⟨⟨g 3 p0.toNatClampNeg, (g, y, zz, j, f, v), rfl, (by exact ⟨(by grind [fAbout, bI]), (by rfl), (by (repeat (first | exact hM | apply RM_u (by omega))))⟩), by rw [ht]; exact hP, hD⟩, hS.F ht⟩) hS.2.2 dX5_about_75
    · refine lv_tableIn (tgt := 76) hx hb dX5_about_12 (by rw [c_2]; decide) (by rw [c_2]; decide) (by rw [c_2]; rfl) (by decide) ?_
      refine lv_aload_n hx hb dX5_about_76 rfl (lv_at hl 0 rfl) ?_
      refine lv_iload_n hx hb dX5_about_77 rfl (lv_at hl 1 rfl) ?_
      refine mcI (wf := fun u : (Nat → Int64) × (Nat → Int32) => MW am cI g y zz u.1 u.2 v X) (va_runV (As := [.int p0]) (rest := []) ⟨hx, hb, hml, hown, hts⟩ (kX5_findOwn l D cI cO tt am g y zz j f v X s.heap.size p0 hI hM c_1) (cwV 1 hts gX5_about_X5_findOwn rfl rfl rfl (by decide +kernel) ⟨(Nat.le_of_ble_eq_true rfl), (Nat.le_of_ble_eq_true rfl)⟩) (mwV hK hZ hN hP hD hS hA (va_recv hK hP (ci := 5) (q0 := 0) rfl rfl)) rfl rfl hl.1 rfl (lv_room (Nat.le_of_ble_eq_true rfl)) dX5_about_78 ⟨Nat.zero_le _, Nat.zero_le _⟩) hD hS hA (fun ru_3 uu_3 H locs hu_3 hP hD hS => ?_)
      obtain ⟨ju_3, fu_3⟩ := uu_3
      have hu_3 : moP g p0 j ru_3 ju_3 := hu_3
      obtain ⟨eru_3, hmu_3⟩ : ru_3 = bI (oOk g p0) ∧ moP g p0 j (bI (oOk g p0)) ju_3 := ⟨hu_3.1, hu_3.1 ▸ hu_3⟩
      subst eru_3
      have hP : va_P D vwCl (MW am cI g y zz ju_3 fu_3 v X) H := hP
      have hD : va_D A (MW am cI g y zz ju_3 fu_3 v X) := hD
      refine lv_if_eq (tgt := 88) hx hb dX5_about_81 (by decide) (fun c_4 => ?_) (fun c_4 => ?_)
      · have c_4 := bI_0.mp c_4
        refine lv_iconst (v := 0) hx hb dX5_about_88 (by decide) ?_
        exact W.iret (v := 0) hx hb hr (fun t ht hW => ⟨⟨0, (g, y, zz, ju_3, fu_3, v), rfl, (by exact ⟨(by grind [fAbout, bI]), (by rfl), (by (repeat (first | exact hM | apply RM_u (by omega))))⟩), by rw [ht]; exact hP, hD⟩, hS.F ht⟩) hS.2.2 dX5_about_89
      · have c_4 := bI_n0.mp c_4
        refine lv_iconst (v := 1) hx hb dX5_about_84 (by decide) ?_
        refine lv_goto (tgt := 89) hx hb dX5_about_85 (by decide) ?_
        exact W.iret (v := 1) hx hb hr (fun t ht hW => ⟨⟨1, (g, y, zz, ju_3, fu_3, v), rfl, (by exact ⟨(by grind [fAbout, bI]), (by rfl), (by (repeat (first | exact hM | apply RM_u (by omega))))⟩), by rw [ht]; exact hP, hD⟩, hS.F ht⟩) hS.2.2 dX5_about_89
  · have c_1 := bI_0.mp c_1
    refine lv_ldc hx hb hown hw0 dX5_about_8 ?_
    exact W.iret (v := (-2147483648)) hx hb hr (fun t ht hW => ⟨⟨(-2147483648), (g, y, zz, j, f, v), rfl, (by exact ⟨(by grind [fAbout, bI]), (by rfl), (by (repeat (first | exact hM | apply RM_u (by omega))))⟩), by rw [ht]; exact hP, hD⟩, hS.F ht⟩) hS.2.2 dX5_about_10
set_option maxHeartbeats 4000000 in
set_option maxRecDepth 100000 in
theorem kX5_turned (l : Launch) (D : va_G) (cI cO : ClassId) (tt : Nat) (am : Nat → Nat) (g : Nat → Nat → Int32) (y : Nat → Int32) (zz : Nat → Int32) (j : Nat → Int64) (f : Nat → Int32) (v : Nat → Int32) (X : va_W) (sz : Nat) (x0 : Int32) (y0 : Int32) (t0 : Int32) (w0 : Int32) (hI : WI g) (hM : RM g y zz) : MmI l yX5_turned wsX5_turned ({ frames := 1, cells := 0, slots := 0, locals := 32 }) D cI cO tt (MW am cI g y zz j f v X) sz [.ref (am 0), .int x0, .int y0, .int t0, .int w0] (S := (Nat → Nat → Int32) × (Nat → Int32) × (Nat → Int32) × (Nat → Int64) × (Nat → Int32) × (Nat → Int32)) (fun u => MW am cI u.1 u.2.1 u.2.2.1 u.2.2.2.1 u.2.2.2.2.1 u.2.2.2.2.2 X) (fun z u => z = fTurned x0 y0 t0 w0 ∧ u.1 = g ∧ RM u.1 u.2.1 u.2.2.1) := by
  refine Met.ofW (cc := cX5_turned) (maxL := 5) (ret := (some .int)) (by decide) rfl ?_
  intro p e s m args below meth c s₁ B hml hv
  obtain ⟨rfl, hsz, hP, hK, hD0, hZ, hN⟩ := hv
  have hx := B.exec
  have hb := B.bytes
  have hr := B.returns
  have hts := atoms_spec (ws := wsX5_turned) B.pre
  have hown : s.vm.findClass RX5 = some m.cls := findClass_of_methodNamed B.named
  have hlocks := B.notSynchronized
  subst hsz
  have hD := hD0.self (sz := s.heap.size)
  generalize hAe : va_A (MW am cI g y zz j f v X) s.heap.size = A at hD hZ ⊢
  have hA : ∀ q : Nat, s.heap.size ≤ q → A q := fun q h => by rw [← hAe]; exact Or.inr h
  have hS : va_S A s.heap s.heap [] := va_S.rf
  have hl := lv_entry ([.ref (am 0), .int x0, .int y0, .int t0, .int w0]) (n := 5) (Nat.le_of_ble_eq_true rfl)
  rw [lg_entry_eq]
  generalize (lg_sl ([.ref (am 0), .int x0, .int y0, .int t0, .int w0]) ++ List.replicate (5 - (lg_sl ([.ref (am 0), .int x0, .int y0, .int t0, .int w0])).length) Slot.unset).toArray = ls at hl ⊢
  have hl : lv_has ls 5 [(0, .ref (am 0)), (1, .int x0), (2, .int y0), (3, .int t0), (4, .int w0)] := hl
  have hw0 := hts (.constantLong RX5 87 (-1000000)) (List.mem_cons_of_mem _ (List.mem_append_left _ (List.mem_of_getElem? (i := 0) rfl)))
  have hw1 := hts (.constantLong RX5 89 (1000000)) (List.mem_cons_of_mem _ (List.mem_append_left _ (List.mem_of_getElem? (i := 1) rfl)))
  have hw2 := hts (.constant RX5 76 (-2147483648)) (List.mem_cons_of_mem _ (List.mem_append_left _ (List.mem_of_getElem? (i := 3) rfl)))
  have hw3 := hts (.constantLong RX5 85 (35)) (List.mem_cons_of_mem _ (List.mem_append_left _ (List.mem_of_getElem? (i := 2) rfl)))
  have hw4 := hts (.fieldLink RX5 101 "LayerSounderModel" "turnedY" "J") (List.mem_cons_of_mem _ (List.mem_append_left _ (List.mem_of_getElem? (i := 5) rfl)))
  have iX5 : ∀ w ∈ wsX50, w ∈ wsX5_turned := fun _ h => List.mem_cons_of_mem _ (List.mem_append_right _ h)
  have hw6 := hts (.fieldLink RX5 97 "LayerSounderModel" "turnedX" "J") (List.mem_cons_of_mem _ (List.mem_append_left _ (List.mem_of_getElem? (i := 4) rfl)))
  refine lv_iload_n hx hb dX5_turned_0 rfl (lv_at hl 1 rfl) ?_
  refine lv_i2l hx hb dX5_turned_1 rfl ?_
  refine lv_ldc2 hx hb hown hw0 dX5_turned_2 ?_
  refine lv_ldc2 hx hb hown hw1 dX5_turned_5 ?_
  refine pcI (va_runS (As := [.long x0.toInt64, .long (-1000000), .long 1000000]) (rest := []) ⟨hx, hb, hml, hown, hts⟩ (kX5_in l D cI cO tt (MW am cI g y zz j f v X) s.heap x0 ((-1000000) : Int32) (1000000 : Int32) x0.toInt64 (-1000000) 1000000 rfl (by decide) (by decide)) (va_cwS 3 hts gX5_turned_X5_in rfl rfl rfl (by decide +kernel) ⟨(Nat.le_of_ble_eq_true rfl), (Nat.le_of_ble_eq_true rfl)⟩) (pwS hK hZ hN hP hS) rfl rfl hl.1 rfl (lv_room (Nat.le_of_ble_eq_true rfl)) dX5_turned_8 ⟨Nat.zero_le _, Nat.zero_le _⟩) hS (fun locs hS => ?_)
  refine lv_if_eq (tgt := 51) hx hb dX5_turned_11 (by decide) (fun c_1 => ?_) (fun c_1 => ?_)
  · have c_1 := bI_0.mp c_1
    refine lv_ldc hx hb hown hw2 dX5_turned_51 ?_
    exact W.iret (v := (-2147483648)) hx hb hr (fun t ht hW => ⟨⟨(-2147483648), (g, y, zz, j, f, v), rfl, (by exact ⟨(by grind [fTurned]), (by rfl), (by (repeat (first | exact hM | apply RM_u (by omega))))⟩), by rw [ht]; exact hP, hD⟩, hS.F ht⟩) hS.2.2 dX5_turned_53
  · have c_1 := bI_n0.mp c_1
    refine lv_iload_n hx hb dX5_turned_14 rfl (lv_at hl 2 rfl) ?_
    refine lv_i2l hx hb dX5_turned_15 rfl ?_
    refine lv_ldc2 hx hb hown hw0 dX5_turned_16 ?_
    refine lv_ldc2 hx hb hown hw1 dX5_turned_19 ?_
    refine pcI (va_runS (As := [.long y0.toInt64, .long (-1000000), .long 1000000]) (rest := []) ⟨hx, hb, hml, hown, hts⟩ (kX5_in l D cI cO tt (MW am cI g y zz j f v X) s.heap y0 ((-1000000) : Int32) (1000000 : Int32) y0.toInt64 (-1000000) 1000000 rfl (by decide) (by decide)) (va_cwS 3 hts gX5_turned_X5_in rfl rfl rfl (by decide +kernel) ⟨(Nat.le_of_ble_eq_true rfl), (Nat.le_of_ble_eq_true rfl)⟩) (pwS hK hZ hN hP hS) rfl rfl hl.1 rfl (lv_room (Nat.le_of_ble_eq_true rfl)) dX5_turned_22 ⟨Nat.zero_le _, Nat.zero_le _⟩) hS (fun locs hS => ?_)
    refine lv_if_eq (tgt := 51) hx hb dX5_turned_25 (by decide) (fun c_2 => ?_) (fun c_2 => ?_)
    · have c_2 := bI_0.mp c_2
      refine lv_ldc hx hb hown hw2 dX5_turned_51 ?_
      exact W.iret (v := (-2147483648)) hx hb hr (fun t ht hW => ⟨⟨(-2147483648), (g, y, zz, j, f, v), rfl, (by exact ⟨(by grind [fTurned]), (by rfl), (by (repeat (first | exact hM | apply RM_u (by omega))))⟩), by rw [ht]; exact hP, hD⟩, hS.F ht⟩) hS.2.2 dX5_turned_53
    · have c_2 := bI_n0.mp c_2
      refine lv_iload_n hx hb dX5_turned_28 rfl (lv_at hl 3 rfl) ?_
      refine lv_i2l hx hb dX5_turned_29 rfl ?_
      refine lv_lconst (v := 0) hx hb dX5_turned_30 (by decide) ?_
      refine lv_ldc2 hx hb hown hw3 dX5_turned_31 ?_
      refine pcI (va_runS (As := [.long t0.toInt64, .long 0, .long 35]) (rest := []) ⟨hx, hb, hml, hown, hts⟩ (kX5_in l D cI cO tt (MW am cI g y zz j f v X) s.heap t0 (0 : Int32) (35 : Int32) t0.toInt64 0 35 rfl (by decide) (by decide)) (va_cwS 3 hts gX5_turned_X5_in rfl rfl rfl (by decide +kernel) ⟨(Nat.le_of_ble_eq_true rfl), (Nat.le_of_ble_eq_true rfl)⟩) (pwS hK hZ hN hP hS) rfl rfl hl.1 rfl (lv_room (Nat.le_of_ble_eq_true rfl)) dX5_turned_34 ⟨Nat.zero_le _, Nat.zero_le _⟩) hS (fun locs hS => ?_)
      refine lv_if_eq (tgt := 51) hx hb dX5_turned_37 (by decide) (fun c_3 => ?_) (fun c_3 => ?_)
      · have c_3 := bI_0.mp c_3
        refine lv_ldc hx hb hown hw2 dX5_turned_51 ?_
        exact W.iret (v := (-2147483648)) hx hb hr (fun t ht hW => ⟨⟨(-2147483648), (g, y, zz, j, f, v), rfl, (by exact ⟨(by grind [fTurned]), (by rfl), (by (repeat (first | exact hM | apply RM_u (by omega))))⟩), by rw [ht]; exact hP, hD⟩, hS.F ht⟩) hS.2.2 dX5_turned_53
      · have c_3 := bI_n0.mp c_3
        refine lv_iload hx hb dX5_turned_40 (lv_at hl 4 rfl) ?_
        refine lv_i2l hx hb dX5_turned_42 rfl ?_
        refine lv_lconst (v := 0) hx hb dX5_turned_43 (by decide) ?_
        refine lv_lconst (v := 1) hx hb dX5_turned_44 (by decide) ?_
        refine pcI (va_runS (As := [.long w0.toInt64, .long 0, .long 1]) (rest := []) ⟨hx, hb, hml, hown, hts⟩ (kX5_in l D cI cO tt (MW am cI g y zz j f v X) s.heap w0 (0 : Int32) (1 : Int32) w0.toInt64 0 1 rfl (by decide) (by decide)) (va_cwS 3 hts gX5_turned_X5_in rfl rfl rfl (by decide +kernel) ⟨(Nat.le_of_ble_eq_true rfl), (Nat.le_of_ble_eq_true rfl)⟩) (pwS hK hZ hN hP hS) rfl rfl hl.1 rfl (lv_room (Nat.le_of_ble_eq_true rfl)) dX5_turned_45 ⟨Nat.zero_le _, Nat.zero_le _⟩) hS (fun locs hS => ?_)
        refine lv_if_ne (tgt := 54) hx hb dX5_turned_48 (by decide) (fun c_4 => ?_) (fun c_4 => ?_)
        · have c_4 := bI_n0.mp c_4
          refine lv_aload_n hx hb dX5_turned_54 rfl (lv_at hl 0 rfl) ?_
          refine lv_iload_n hx hb dX5_turned_55 rfl (lv_at hl 1 rfl) ?_
          refine lv_i2l hx hb dX5_turned_56 rfl ?_
          refine lv_iload_n hx hb dX5_turned_57 rfl (lv_at hl 2 rfl) ?_
          refine lv_i2l hx hb dX5_turned_58 rfl ?_
          refine lv_iload_n hx hb dX5_turned_59 rfl (lv_at hl 3 rfl) ?_
          refine mcV (wf := fun u : Nat → Int64 => MW am cI g y zz u f v X) (va_runV (As := [.long x0.toInt64, .long y0.toInt64, .int t0]) (rest := []) ⟨hx, hb, hml, hown, hts⟩ (kX5_turn l D cI cO tt am g y zz j f v X s.heap.size x0.toInt64 y0.toInt64 t0 ((s35 t0).mp c_3)) (cwV 3 hts gX5_turned_X5_turn rfl rfl rfl (by decide +kernel) ⟨(Nat.le_of_ble_eq_true rfl), (Nat.le_of_ble_eq_true rfl)⟩) (mwV hK hZ hN hP hD hS hA (va_recv hK hP (ci := 5) (q0 := 0) rfl rfl)) rfl rfl hl.1 rfl (lv_room (Nat.le_of_ble_eq_true rfl)) dX5_turned_60 ⟨Nat.zero_le _, Nat.zero_le _⟩) hD hS hA (fun uu_5 H locs hu_5 hP hD hS => ?_)
          have hP : va_P D vwCl (MW am cI g y zz uu_5 f v X) H := hP
          have hD : va_D A (MW am cI g y zz uu_5 f v X) := hD
          refine lv_iload hx hb dX5_turned_63 (lv_at hl 4 rfl) ?_
          refine lv_if_ne (tgt := 75) hx hb dX5_turned_65 (by decide) (fun c_6 => ?_) (fun c_6 => ?_)
          · refine lv_aload_n hx hb dX5_turned_75 rfl (lv_at hl 0 rfl) ?_
            refine va_get (D := D) (ci := 5) (v := .long (uu_5 1)) (C := RX5) (T := TX5) (N := 31) hx hb hts iX5 hown hK hP 0 rfl rfl 14 (by decide) hw4 (fun _ h9 => h9) rfl dX5_turned_76 ?_
            refine lv_l2i hx hb dX5_turned_79 rfl ?_
            exact W.iret (v := (uu_5 1).toInt32) hx hb hr (fun t ht hW => ⟨⟨(uu_5 1).toInt32, (g, y, zz, uu_5, f, v), rfl, (by have z1 := hu_5.1; have z2 := hu_5.2.1; exact ⟨(by grind [fTurned]), (by rfl), (by (repeat (first | exact hM | apply RM_u (by omega))))⟩), by rw [ht]; exact hP, hD⟩, hS.F ht⟩) hS.2.2 dX5_turned_80
          · refine lv_aload_n hx hb dX5_turned_68 rfl (lv_at hl 0 rfl) ?_
            refine va_get (D := D) (ci := 5) (v := .long (uu_5 0)) (C := RX5) (T := TX5) (N := 31) hx hb hts iX5 hown hK hP 0 rfl rfl 13 (by decide) hw6 (fun _ h9 => h9) rfl dX5_turned_69 ?_
            refine lv_goto (tgt := 79) hx hb dX5_turned_72 (by decide) ?_
            refine lv_l2i hx hb dX5_turned_79 rfl ?_
            exact W.iret (v := (uu_5 0).toInt32) hx hb hr (fun t ht hW => ⟨⟨(uu_5 0).toInt32, (g, y, zz, uu_5, f, v), rfl, (by have z1 := hu_5.1; have z2 := hu_5.2.1; exact ⟨(by grind [fTurned]), (by rfl), (by (repeat (first | exact hM | apply RM_u (by omega))))⟩), by rw [ht]; exact hP, hD⟩, hS.F ht⟩) hS.2.2 dX5_turned_80
        · have c_4 := bI_0.mp c_4
          refine lv_ldc hx hb hown hw2 dX5_turned_51 ?_
          exact W.iret (v := (-2147483648)) hx hb hr (fun t ht hW => ⟨⟨(-2147483648), (g, y, zz, j, f, v), rfl, (by exact ⟨(by grind [fTurned]), (by rfl), (by (repeat (first | exact hM | apply RM_u (by omega))))⟩), by rw [ht]; exact hP, hD⟩, hS.F ht⟩) hS.2.2 dX5_turned_53
set_option maxHeartbeats 4000000 in
set_option maxRecDepth 100000 in
theorem kX5_answer (l : Launch) (D : va_G) (cI cO : ClassId) (tt : Nat) (am : Nat → Nat) (g : Nat → Nat → Int32) (y : Nat → Int32) (zz : Nat → Int32) (j : Nat → Int64) (f : Nat → Int32) (v : Nat → Int32) (X : va_W) (sz : Nat) (a0 : Int32) (b0 : Int32) (c0 : Int32) (d0 : Int32) (w0 : Int32) (hI : WI g) (hM : RM g y zz) : MmI l yX5_answer wsX5_answer ({ frames := 1, cells := 0, slots := 0, locals := 28 }) D cI cO tt (MW am cI g y zz j f v X) sz [.ref (am 0), .int a0, .int b0, .int c0, .int d0, .int w0] (S := (Nat → Nat → Int32) × (Nat → Int32) × (Nat → Int32) × (Nat → Int64) × (Nat → Int32) × (Nat → Int32)) (fun u => MW am cI u.1 u.2.1 u.2.2.1 u.2.2.2.1 u.2.2.2.2.1 u.2.2.2.2.2 X) (fun z u => z = fAnswer a0 b0 c0 d0 w0 ∧ u.1 = g ∧ RM u.1 u.2.1 u.2.2.1) := by
  refine Met.ofW (cc := cX5_answer) (maxL := 6) (ret := (some .int)) (by decide) rfl ?_
  intro p e s m args below meth c s₁ B hml hv
  obtain ⟨rfl, hsz, hP, hK, hD0, hZ, hN⟩ := hv
  have hx := B.exec
  have hb := B.bytes
  have hr := B.returns
  have hts := atoms_spec (ws := wsX5_answer) B.pre
  have hown : s.vm.findClass RX5 = some m.cls := findClass_of_methodNamed B.named
  have hlocks := B.notSynchronized
  subst hsz
  have hD := hD0.self (sz := s.heap.size)
  generalize hAe : va_A (MW am cI g y zz j f v X) s.heap.size = A at hD hZ ⊢
  have hA : ∀ q : Nat, s.heap.size ≤ q → A q := fun q h => by rw [← hAe]; exact Or.inr h
  have hS : va_S A s.heap s.heap [] := va_S.rf
  have hl := lv_entry ([.ref (am 0), .int a0, .int b0, .int c0, .int d0, .int w0]) (n := 6) (Nat.le_of_ble_eq_true rfl)
  rw [lg_entry_eq]
  generalize (lg_sl ([.ref (am 0), .int a0, .int b0, .int c0, .int d0, .int w0]) ++ List.replicate (6 - (lg_sl ([.ref (am 0), .int a0, .int b0, .int c0, .int d0, .int w0])).length) Slot.unset).toArray = ls at hl ⊢
  have hl : lv_has ls 6 [(0, .ref (am 0)), (1, .int a0), (2, .int b0), (3, .int c0), (4, .int d0), (5, .int w0)] := hl
  have hw0 := hts (.constantLong RX5 120 (3)) (List.mem_cons_of_mem _ (List.mem_append_left _ (List.mem_of_getElem? (i := 0) rfl)))
  have hw1 := hts (.constant RX5 76 (-2147483648)) (List.mem_cons_of_mem _ (List.mem_append_left _ (List.mem_of_getElem? (i := 1) rfl)))
  have hw2 := hts (.fieldLink RX5 108 "LayerSounderModel" "lost" "I") (List.mem_cons_of_mem _ (List.mem_append_left _ (List.mem_of_getElem? (i := 5) rfl)))
  have iX5 : ∀ w ∈ wsX50, w ∈ wsX5_answer := fun _ h => List.mem_cons_of_mem _ (List.mem_append_right _ h)
  have hw4 := hts (.fieldLink RX5 117 "LayerSounderModel" "odd" "I") (List.mem_cons_of_mem _ (List.mem_append_left _ (List.mem_of_getElem? (i := 4) rfl)))
  have hw5 := hts (.fieldLink RX5 114 "LayerSounderModel" "across" "I") (List.mem_cons_of_mem _ (List.mem_append_left _ (List.mem_of_getElem? (i := 3) rfl)))
  have hw6 := hts (.fieldLink RX5 111 "LayerSounderModel" "along" "I") (List.mem_cons_of_mem _ (List.mem_append_left _ (List.mem_of_getElem? (i := 2) rfl)))
  refine lv_iload hx hb dX5_answer_0 (lv_at hl 5 rfl) ?_
  refine lv_i2l hx hb dX5_answer_2 rfl ?_
  refine lv_lconst (v := 0) hx hb dX5_answer_3 (by decide) ?_
  refine lv_ldc2 hx hb hown hw0 dX5_answer_4 ?_
  refine pcI (va_runS (As := [.long w0.toInt64, .long 0, .long 3]) (rest := []) ⟨hx, hb, hml, hown, hts⟩ (kX5_in l D cI cO tt (MW am cI g y zz j f v X) s.heap w0 (0 : Int32) (3 : Int32) w0.toInt64 0 3 rfl (by decide) (by decide)) (va_cwS 3 hts gX5_answer_X5_in rfl rfl rfl (by decide +kernel) ⟨(Nat.le_of_ble_eq_true rfl), (Nat.le_of_ble_eq_true rfl)⟩) (pwS hK hZ hN hP hS) rfl rfl hl.1 rfl (lv_room (Nat.le_of_ble_eq_true rfl)) dX5_answer_7 ⟨Nat.zero_le _, Nat.zero_le _⟩) hS (fun locs hS => ?_)
  refine lv_if_eq (tgt := 37) hx hb dX5_answer_10 (by decide) (fun c_1 => ?_) (fun c_1 => ?_)
  · have c_1 := bI_0.mp c_1
    refine lv_ldc hx hb hown hw1 dX5_answer_37 ?_
    exact W.iret (v := (-2147483648)) hx hb hr (fun t ht hW => ⟨⟨(-2147483648), (g, y, zz, j, f, v), rfl, (by exact ⟨(by grind [fAnswer]), (by rfl), (by (repeat (first | exact hM | apply RM_u (by omega))))⟩), by rw [ht]; exact hP, hD⟩, hS.F ht⟩) hS.2.2 dX5_answer_39
  · have c_1 := bI_n0.mp c_1
    refine lv_aload_n hx hb dX5_answer_13 rfl (lv_at hl 0 rfl) ?_
    refine lv_iload_n hx hb dX5_answer_14 rfl (lv_at hl 1 rfl) ?_
    refine pcI (va_runS (As := [.int a0]) (rest := [.ref (am 0)]) ⟨hx, hb, hml, hown, hts⟩ (kX5_told l D cI cO tt (MW am cI g y zz j f v X) s.heap a0 ) (va_cwS 1 hts gX5_answer_X5_told rfl rfl rfl (by decide +kernel) ⟨(Nat.le_of_ble_eq_true rfl), (Nat.le_of_ble_eq_true rfl)⟩) (pwS hK hZ hN hP hS) rfl rfl hl.1 rfl (lv_room (Nat.le_of_ble_eq_true rfl)) dX5_answer_15 ⟨Nat.zero_le _, Nat.zero_le _⟩) hS (fun locs hS => ?_)
    refine lv_iload_n hx hb dX5_answer_18 rfl (lv_at hl 2 rfl) ?_
    refine pcI (va_runS (As := [.int b0]) (rest := [.int (tl a0), .ref (am 0)]) ⟨hx, hb, hml, hown, hts⟩ (kX5_told l D cI cO tt (MW am cI g y zz j f v X) s.heap b0 ) (va_cwS 1 hts gX5_answer_X5_told rfl rfl rfl (by decide +kernel) ⟨(Nat.le_of_ble_eq_true rfl), (Nat.le_of_ble_eq_true rfl)⟩) (pwS hK hZ hN hP hS) rfl rfl hl.1 rfl (lv_room (Nat.le_of_ble_eq_true rfl)) dX5_answer_19 ⟨Nat.zero_le _, Nat.zero_le _⟩) hS (fun locs hS => ?_)
    refine lv_iload_n hx hb dX5_answer_22 rfl (lv_at hl 3 rfl) ?_
    refine pcI (va_runS (As := [.int c0]) (rest := [.int (tl b0), .int (tl a0), .ref (am 0)]) ⟨hx, hb, hml, hown, hts⟩ (kX5_told l D cI cO tt (MW am cI g y zz j f v X) s.heap c0 ) (va_cwS 1 hts gX5_answer_X5_told rfl rfl rfl (by decide +kernel) ⟨(Nat.le_of_ble_eq_true rfl), (Nat.le_of_ble_eq_true rfl)⟩) (pwS hK hZ hN hP hS) rfl rfl hl.1 rfl (lv_room (Nat.le_of_ble_eq_true rfl)) dX5_answer_23 ⟨Nat.zero_le _, Nat.zero_le _⟩) hS (fun locs hS => ?_)
    refine lv_iload hx hb dX5_answer_26 (lv_at hl 4 rfl) ?_
    refine pcI (va_runS (As := [.int d0]) (rest := [.int (tl c0), .int (tl b0), .int (tl a0), .ref (am 0)]) ⟨hx, hb, hml, hown, hts⟩ (kX5_told l D cI cO tt (MW am cI g y zz j f v X) s.heap d0 ) (va_cwS 1 hts gX5_answer_X5_told rfl rfl rfl (by decide +kernel) ⟨(Nat.le_of_ble_eq_true rfl), (Nat.le_of_ble_eq_true rfl)⟩) (pwS hK hZ hN hP hS) rfl rfl hl.1 rfl (lv_room (Nat.le_of_ble_eq_true rfl)) dX5_answer_28 ⟨Nat.zero_le _, Nat.zero_le _⟩) hS (fun locs hS => ?_)
    refine mcI (wf := fun u : Nat → Int32 => MW am cI g y zz j u v X) (va_runV (As := [.int (tl a0), .int (tl b0), .int (tl c0), .int (tl d0)]) (rest := []) ⟨hx, hb, hml, hown, hts⟩ (kX5_answers l D cI cO tt am g y zz j f v X s.heap.size (tl a0) (tl b0) (tl c0) (tl d0) ) (cwV 4 hts gX5_answer_X5_answers rfl rfl rfl (by decide +kernel) ⟨(Nat.le_of_ble_eq_true rfl), (Nat.le_of_ble_eq_true rfl)⟩) (mwV hK hZ hN hP hD hS hA (va_recv hK hP (ci := 5) (q0 := 0) rfl rfl)) rfl rfl hl.1 rfl (lv_room (Nat.le_of_ble_eq_true rfl)) dX5_answer_31 ⟨Nat.zero_le _, Nat.zero_le _⟩) hD hS hA (fun ru_2 uu_2 H locs hu_2 hP hD hS => ?_)
    obtain ⟨eru_2, hfu_2⟩ := an_tl (a := a0) (b := b0) (c := c0) (d := d0) hu_2
    subst eru_2
    have hP : va_P D vwCl (MW am cI g y zz j uu_2 v X) H := hP
    have hD : va_D A (MW am cI g y zz j uu_2 v X) := hD
    refine lv_if_ne (tgt := 40) hx hb dX5_answer_34 (by decide) (fun c_3 => ?_) (fun c_3 => ?_)
    · have c_3 := bI_n0.mp c_3
      refine lv_iload hx hb dX5_answer_40 (lv_at hl 5 rfl) ?_
      refine lv_if_ne (tgt := 52) hx hb dX5_answer_42 (by decide) (fun c_4 => ?_) (fun c_4 => ?_)
      · refine lv_iload hx hb dX5_answer_52 (lv_at hl 5 rfl) ?_
        refine lv_iconst (v := 1) hx hb dX5_answer_54 (by decide) ?_
        refine lv_icmp_ne (tgt := 65) hx hb dX5_answer_55 (by decide) (fun c_5 => ?_) (fun c_5 => ?_)
        · refine lv_iload hx hb dX5_answer_65 (lv_at hl 5 rfl) ?_
          refine lv_iconst (v := 2) hx hb dX5_answer_67 (by decide) ?_
          refine lv_icmp_ne (tgt := 78) hx hb dX5_answer_68 (by decide) (fun c_6 => ?_) (fun c_6 => ?_)
          · refine lv_aload_n hx hb dX5_answer_78 rfl (lv_at hl 0 rfl) ?_
            refine va_get (D := D) (ci := 5) (v := .int (uu_2 3)) (C := RX5) (T := TX5) (N := 31) hx hb hts iX5 hown hK hP 0 rfl rfl 18 (by decide) hw2 (fun _ h9 => h9) rfl dX5_answer_79 ?_
            exact W.iret (v := uu_2 3) hx hb hr (fun t ht hW => ⟨⟨uu_2 3, (g, y, zz, j, uu_2, v), rfl, (by have z1 := hfu_2.2 c_3; have z2 := hfu_2.1; have z3 := lo01 c_3; have z4 := b03 c_1; exact ⟨(by grind [fAnswer]), (by rfl), (by (repeat (first | exact hM | apply RM_u (by omega))))⟩), by rw [ht]; exact hP, hD⟩, hS.F ht⟩) hS.2.2 dX5_answer_82
          · refine lv_aload_n hx hb dX5_answer_71 rfl (lv_at hl 0 rfl) ?_
            refine va_get (D := D) (ci := 5) (v := .int (uu_2 2)) (C := RX5) (T := TX5) (N := 31) hx hb hts iX5 hown hK hP 0 rfl rfl 17 (by decide) hw4 (fun _ h9 => h9) rfl dX5_answer_72 ?_
            refine lv_goto (tgt := 82) hx hb dX5_answer_75 (by decide) ?_
            exact W.iret (v := uu_2 2) hx hb hr (fun t ht hW => ⟨⟨uu_2 2, (g, y, zz, j, uu_2, v), rfl, (by have z1 := hfu_2.2 c_3; have z2 := hfu_2.1; have z3 := lo01 c_3; have z4 := b03 c_1; exact ⟨(by grind [fAnswer]), (by rfl), (by (repeat (first | exact hM | apply RM_u (by omega))))⟩), by rw [ht]; exact hP, hD⟩, hS.F ht⟩) hS.2.2 dX5_answer_82
        · refine lv_aload_n hx hb dX5_answer_58 rfl (lv_at hl 0 rfl) ?_
          refine va_get (D := D) (ci := 5) (v := .int (uu_2 1)) (C := RX5) (T := TX5) (N := 31) hx hb hts iX5 hown hK hP 0 rfl rfl 16 (by decide) hw5 (fun _ h9 => h9) rfl dX5_answer_59 ?_
          refine lv_goto (tgt := 82) hx hb dX5_answer_62 (by decide) ?_
          exact W.iret (v := uu_2 1) hx hb hr (fun t ht hW => ⟨⟨uu_2 1, (g, y, zz, j, uu_2, v), rfl, (by have z1 := hfu_2.2 c_3; have z2 := hfu_2.1; have z3 := lo01 c_3; have z4 := b03 c_1; exact ⟨(by grind [fAnswer]), (by rfl), (by (repeat (first | exact hM | apply RM_u (by omega))))⟩), by rw [ht]; exact hP, hD⟩, hS.F ht⟩) hS.2.2 dX5_answer_82
      · refine lv_aload_n hx hb dX5_answer_45 rfl (lv_at hl 0 rfl) ?_
        refine va_get (D := D) (ci := 5) (v := .int (uu_2 0)) (C := RX5) (T := TX5) (N := 31) hx hb hts iX5 hown hK hP 0 rfl rfl 15 (by decide) hw6 (fun _ h9 => h9) rfl dX5_answer_46 ?_
        refine lv_goto (tgt := 82) hx hb dX5_answer_49 (by decide) ?_
        exact W.iret (v := uu_2 0) hx hb hr (fun t ht hW => ⟨⟨uu_2 0, (g, y, zz, j, uu_2, v), rfl, (by have z1 := hfu_2.2 c_3; have z2 := hfu_2.1; have z3 := lo01 c_3; have z4 := b03 c_1; exact ⟨(by grind [fAnswer]), (by rfl), (by (repeat (first | exact hM | apply RM_u (by omega))))⟩), by rw [ht]; exact hP, hD⟩, hS.F ht⟩) hS.2.2 dX5_answer_82
    · have c_3 := bI_0.mp c_3
      refine lv_ldc hx hb hown hw1 dX5_answer_37 ?_
      exact W.iret (v := (-2147483648)) hx hb hr (fun t ht hW => ⟨⟨(-2147483648), (g, y, zz, j, uu_2, v), rfl, (by exact ⟨(by grind [fAnswer]), (by rfl), (by (repeat (first | exact hM | apply RM_u (by omega))))⟩), by rw [ht]; exact hP, hD⟩, hS.F ht⟩) hS.2.2 dX5_answer_39
set_option maxHeartbeats 4000000 in
set_option maxRecDepth 100000 in
theorem kX5_own (l : Launch) (D : va_G) (cI cO : ClassId) (tt : Nat) (am : Nat → Nat) (g : Nat → Nat → Int32) (y : Nat → Int32) (zz : Nat → Int32) (j : Nat → Int64) (f : Nat → Int32) (v : Nat → Int32) (X : va_W) (sz : Nat) (p0 : Int32) (w0 : Int32) (hI : WI g) (hM : RM g y zz) : MmL l yX5_own wsX5_own ({ frames := 3, cells := 0, slots := 0, locals := 74 }) D cI cO tt (MW am cI g y zz j f v X) sz [.ref (am 0), .int p0, .int w0] (S := (Nat → Nat → Int32) × (Nat → Int32) × (Nat → Int32) × (Nat → Int64) × (Nat → Int32) × (Nat → Int32)) (fun u => MW am cI u.1 u.2.1 u.2.2.1 u.2.2.2.1 u.2.2.2.2.1 u.2.2.2.2.2 X) (fun z u => z = fOwn g p0 w0 ∧ u.1 = g ∧ RM u.1 u.2.1 u.2.2.1) := by
  refine Met.ofW (cc := cX5_own) (maxL := 3) (ret := (some .long)) (by decide) rfl ?_
  intro p e s m args below meth c s₁ B hml hv
  obtain ⟨rfl, hsz, hP, hK, hD0, hZ, hN⟩ := hv
  have hx := B.exec
  have hb := B.bytes
  have hr := B.returns
  have hts := atoms_spec (ws := wsX5_own) B.pre
  have hown : s.vm.findClass RX5 = some m.cls := findClass_of_methodNamed B.named
  have hlocks := B.notSynchronized
  subst hsz
  have hD := hD0.self (sz := s.heap.size)
  generalize hAe : va_A (MW am cI g y zz j f v X) s.heap.size = A at hD hZ ⊢
  have hA : ∀ q : Nat, s.heap.size ≤ q → A q := fun q h => by rw [← hAe]; exact Or.inr h
  have hS : va_S A s.heap s.heap [] := va_S.rf
  have hl := lv_entry ([.ref (am 0), .int p0, .int w0]) (n := 3) (Nat.le_of_ble_eq_true rfl)
  rw [lg_entry_eq]
  generalize (lg_sl ([.ref (am 0), .int p0, .int w0]) ++ List.replicate (3 - (lg_sl ([.ref (am 0), .int p0, .int w0])).length) Slot.unset).toArray = ls at hl ⊢
  have hl : lv_has ls 3 [(0, .ref (am 0)), (1, .int p0), (2, .int w0)] := hl
  have hw0 := hts (.fieldLink RX5 144 "LayerSounderModel" "ownY" "J") (List.mem_cons_of_mem _ (List.mem_append_left _ (List.mem_append_left _ (List.mem_of_getElem? (l := wsX5_own_r1) (i := 1) rfl))))
  have iX5 : ∀ w ∈ wsX50, w ∈ wsX5_own := fun _ h => List.mem_cons_of_mem _ (List.mem_append_right _ h)
  have hw2 := hts (.fieldLink RX5 141 "LayerSounderModel" "ownX" "J") (List.mem_cons_of_mem _ (List.mem_append_left _ (List.mem_append_left _ (List.mem_of_getElem? (l := wsX5_own_r1) (i := 0) rfl))))
  refine lv_aload_n hx hb dX5_own_0 rfl (lv_at hl 0 rfl) ?_
  refine lv_iload_n hx hb dX5_own_1 rfl (lv_at hl 1 rfl) ?_
  refine pcI (va_runV (As := [.int p0]) (rest := []) ⟨hx, hb, hml, hown, hts⟩ (kX5_isPing l D cI cO tt am g y zz j f v X s.heap p0 hI) (cwV 1 hts gX5_own_X5_isPing rfl rfl rfl (by decide +kernel) ⟨(Nat.le_of_ble_eq_true rfl), (Nat.le_of_ble_eq_true rfl)⟩) (pwV hK hZ hN hP hS (va_recv hK hP (ci := 5) (q0 := 0) rfl rfl)) rfl rfl hl.1 rfl (lv_room (Nat.le_of_ble_eq_true rfl)) dX5_own_2 ⟨Nat.zero_le _, Nat.zero_le _⟩) hS (fun locs hS => ?_)
  refine lv_if_eq (tgt := 18) hx hb dX5_own_5 (by decide) (fun c_1 => ?_) (fun c_1 => ?_)
  · have c_1 := bI_0.mp c_1
    refine lv_bipush (v := (-2)) hx hb dX5_own_18 (by decide) ?_
    refine pcL (va_runS (As := [.int (-2)]) (rest := []) ⟨hx, hb, hml, hown, hts⟩ (kX5_no l D cI cO tt (MW am cI g y zz j f v X) s.heap (-2) ) (va_cwS 1 hts gX5_own_X5_no rfl rfl rfl (by decide +kernel) ⟨(Nat.le_of_ble_eq_true rfl), (Nat.le_of_ble_eq_true rfl)⟩) (pwS hK hZ hN hP hS) rfl rfl hl.1 rfl (lv_room (Nat.le_of_ble_eq_true rfl)) dX5_own_20 ⟨Nat.zero_le _, Nat.zero_le _⟩) hS (fun locs hS => ?_)
    exact W.lret (v := (-9223372036854775808) - ((-2) : Int32).toInt64) hx hb hr (fun t ht hW => ⟨⟨(-9223372036854775808) - ((-2) : Int32).toInt64, (g, y, zz, j, f, v), rfl, (by exact ⟨(by grind [fOwn, ownV]), (by rfl), (by (repeat (first | exact hM | apply RM_u (by omega))))⟩), by rw [ht]; exact hP, hD⟩, hS.F ht⟩) hS.2.2 dX5_own_23
  · have c_1 := bI_n0.mp c_1
    refine lv_iload_n hx hb dX5_own_8 rfl (lv_at hl 2 rfl) ?_
    refine lv_i2l hx hb dX5_own_9 rfl ?_
    refine lv_lconst (v := 0) hx hb dX5_own_10 (by decide) ?_
    refine lv_lconst (v := 1) hx hb dX5_own_11 (by decide) ?_
    refine pcI (va_runS (As := [.long w0.toInt64, .long 0, .long 1]) (rest := []) ⟨hx, hb, hml, hown, hts⟩ (kX5_in l D cI cO tt (MW am cI g y zz j f v X) s.heap w0 (0 : Int32) (1 : Int32) w0.toInt64 0 1 rfl (by decide) (by decide)) (va_cwS 3 hts gX5_own_X5_in rfl rfl rfl (by decide +kernel) ⟨(Nat.le_of_ble_eq_true rfl), (Nat.le_of_ble_eq_true rfl)⟩) (pwS hK hZ hN hP hS) rfl rfl hl.1 rfl (lv_room (Nat.le_of_ble_eq_true rfl)) dX5_own_12 ⟨Nat.zero_le _, Nat.zero_le _⟩) hS (fun locs hS => ?_)
    refine lv_if_ne (tgt := 24) hx hb dX5_own_15 (by decide) (fun c_2 => ?_) (fun c_2 => ?_)
    · have c_2 := bI_n0.mp c_2
      refine lv_aload_n hx hb dX5_own_24 rfl (lv_at hl 0 rfl) ?_
      refine lv_iload_n hx hb dX5_own_25 rfl (lv_at hl 1 rfl) ?_
      refine mcI (wf := fun u : (Nat → Int64) × (Nat → Int32) => MW am cI g y zz u.1 u.2 v X) (va_runV (As := [.int p0]) (rest := []) ⟨hx, hb, hml, hown, hts⟩ (kX5_findOwn l D cI cO tt am g y zz j f v X s.heap.size p0 hI hM c_1) (cwV 1 hts gX5_own_X5_findOwn rfl rfl rfl (by decide +kernel) ⟨(Nat.le_of_ble_eq_true rfl), (Nat.le_of_ble_eq_true rfl)⟩) (mwV hK hZ hN hP hD hS hA (va_recv hK hP (ci := 5) (q0 := 0) rfl rfl)) rfl rfl hl.1 rfl (lv_room (Nat.le_of_ble_eq_true rfl)) dX5_own_26 ⟨Nat.zero_le _, Nat.zero_le _⟩) hD hS hA (fun ru_3 uu_3 H locs hu_3 hP hD hS => ?_)
      obtain ⟨ju_3, fu_3⟩ := uu_3
      have hu_3 : moP g p0 j ru_3 ju_3 := hu_3
      obtain ⟨eru_3, hmu_3⟩ : ru_3 = bI (oOk g p0) ∧ moP g p0 j (bI (oOk g p0)) ju_3 := ⟨hu_3.1, hu_3.1 ▸ hu_3⟩
      subst eru_3
      have hP : va_P D vwCl (MW am cI g y zz ju_3 fu_3 v X) H := hP
      have hD : va_D A (MW am cI g y zz ju_3 fu_3 v X) := hD
      refine lv_if_ne (tgt := 38) hx hb dX5_own_29 (by decide) (fun c_4 => ?_) (fun c_4 => ?_)
      · have c_4 := bI_n0.mp c_4
        refine lv_iload_n hx hb dX5_own_38 rfl (lv_at hl 2 rfl) ?_
        refine lv_if_ne (tgt := 49) hx hb dX5_own_39 (by decide) (fun c_5 => ?_) (fun c_5 => ?_)
        · refine lv_aload_n hx hb dX5_own_49 rfl (lv_at hl 0 rfl) ?_
          refine va_get (D := D) (ci := 5) (v := .long (ju_3 3)) (C := RX5) (T := TX5) (N := 31) hx hb hts iX5 hown hK hP 0 rfl rfl 25 (by decide) hw0 (fun _ h9 => h9) rfl dX5_own_50 ?_
          exact W.lret (v := ju_3 3) hx hb hr (fun t ht hW => ⟨⟨ju_3 3, (g, y, zz, ju_3, fu_3, v), rfl, (by obtain ⟨z1, z2⟩ := hmu_3.2.1 c_4; exact ⟨(by grind [fOwn, ownV]), (by rfl), (by (repeat (first | exact hM | apply RM_u (by omega))))⟩), by rw [ht]; exact hP, hD⟩, hS.F ht⟩) hS.2.2 dX5_own_53
        · refine lv_aload_n hx hb dX5_own_42 rfl (lv_at hl 0 rfl) ?_
          refine va_get (D := D) (ci := 5) (v := .long (ju_3 2)) (C := RX5) (T := TX5) (N := 31) hx hb hts iX5 hown hK hP 0 rfl rfl 24 (by decide) hw2 (fun _ h9 => h9) rfl dX5_own_43 ?_
          refine lv_goto (tgt := 53) hx hb dX5_own_46 (by decide) ?_
          exact W.lret (v := ju_3 2) hx hb hr (fun t ht hW => ⟨⟨ju_3 2, (g, y, zz, ju_3, fu_3, v), rfl, (by obtain ⟨z1, z2⟩ := hmu_3.2.1 c_4; exact ⟨(by grind [fOwn, ownV]), (by rfl), (by (repeat (first | exact hM | apply RM_u (by omega))))⟩), by rw [ht]; exact hP, hD⟩, hS.F ht⟩) hS.2.2 dX5_own_53
      · have c_4 := bI_0.mp c_4
        refine lv_bipush (v := (-3)) hx hb dX5_own_32 (by decide) ?_
        refine pcL (va_runS (As := [.int (-3)]) (rest := []) ⟨hx, hb, hml, hown, hts⟩ (kX5_no l D cI cO tt (MW am cI g y zz ju_3 fu_3 v X) H (-3) ) (va_cwS 1 hts gX5_own_X5_no rfl rfl rfl (by decide +kernel) ⟨(Nat.le_of_ble_eq_true rfl), (Nat.le_of_ble_eq_true rfl)⟩) (pwS hK hZ hN hP hS) rfl rfl hl.1 rfl (lv_room (Nat.le_of_ble_eq_true rfl)) dX5_own_34 ⟨Nat.zero_le _, Nat.zero_le _⟩) hS (fun locs hS => ?_)
        exact W.lret (v := (-9223372036854775808) - ((-3) : Int32).toInt64) hx hb hr (fun t ht hW => ⟨⟨(-9223372036854775808) - ((-3) : Int32).toInt64, (g, y, zz, ju_3, fu_3, v), rfl, (by exact ⟨(by grind [fOwn, ownV]), (by rfl), (by (repeat (first | exact hM | apply RM_u (by omega))))⟩), by rw [ht]; exact hP, hD⟩, hS.F ht⟩) hS.2.2 dX5_own_37
    · have c_2 := bI_0.mp c_2
      refine lv_bipush (v := (-2)) hx hb dX5_own_18 (by decide) ?_
      refine pcL (va_runS (As := [.int (-2)]) (rest := []) ⟨hx, hb, hml, hown, hts⟩ (kX5_no l D cI cO tt (MW am cI g y zz j f v X) s.heap (-2) ) (va_cwS 1 hts gX5_own_X5_no rfl rfl rfl (by decide +kernel) ⟨(Nat.le_of_ble_eq_true rfl), (Nat.le_of_ble_eq_true rfl)⟩) (pwS hK hZ hN hP hS) rfl rfl hl.1 rfl (lv_room (Nat.le_of_ble_eq_true rfl)) dX5_own_20 ⟨Nat.zero_le _, Nat.zero_le _⟩) hS (fun locs hS => ?_)
      exact W.lret (v := (-9223372036854775808) - ((-2) : Int32).toInt64) hx hb hr (fun t ht hW => ⟨⟨(-9223372036854775808) - ((-2) : Int32).toInt64, (g, y, zz, j, f, v), rfl, (by exact ⟨(by grind [fOwn, ownV]), (by rfl), (by (repeat (first | exact hM | apply RM_u (by omega))))⟩), by rw [ht]; exact hP, hD⟩, hS.F ht⟩) hS.2.2 dX5_own_23
set_option maxHeartbeats 4000000 in
set_option maxRecDepth 100000 in
theorem kX5_fate (l : Launch) (D : va_G) (cI cO : ClassId) (tt : Nat) (am : Nat → Nat) (g : Nat → Nat → Int32) (y : Nat → Int32) (zz : Nat → Int32) (j : Nat → Int64) (f : Nat → Int32) (v : Nat → Int32) (X : va_W) (sz : Nat) (p0 : Int32) (c0 : Int32) (hI : WI g) (hM : RM g y zz) : MmI l yX5_fate wsX5_fate ({ frames := 4, cells := 0, slots := 0, locals := 96 }) D cI cO tt (MW am cI g y zz j f v X) sz [.ref (am 0), .int p0, .int c0] (S := (Nat → Nat → Int32) × (Nat → Int32) × (Nat → Int32) × (Nat → Int64) × (Nat → Int32) × (Nat → Int32)) (fun u => MW am cI u.1 u.2.1 u.2.2.1 u.2.2.2.1 u.2.2.2.2.1 u.2.2.2.2.2 X) (fun z u => z = fFate g p0 c0 ∧ u.1 = g ∧ RM u.1 u.2.1 u.2.2.1) := by
  refine Met.ofW (cc := cX5_fate) (maxL := 3) (ret := (some .int)) (by decide) rfl ?_
  intro p e s m args below meth c s₁ B hml hv
  obtain ⟨rfl, hsz, hP, hK, hD0, hZ, hN⟩ := hv
  have hx := B.exec
  have hb := B.bytes
  have hr := B.returns
  have hts := atoms_spec (ws := wsX5_fate) B.pre
  have hown : s.vm.findClass RX5 = some m.cls := findClass_of_methodNamed B.named
  have hlocks := B.notSynchronized
  subst hsz
  have hD := hD0.self (sz := s.heap.size)
  generalize hAe : va_A (MW am cI g y zz j f v X) s.heap.size = A at hD hZ ⊢
  have hA : ∀ q : Nat, s.heap.size ≤ q → A q := fun q h => by rw [← hAe]; exact Or.inr h
  have hS : va_S A s.heap s.heap [] := va_S.rf
  have hl := lv_entry ([.ref (am 0), .int p0, .int c0]) (n := 3) (Nat.le_of_ble_eq_true rfl)
  rw [lg_entry_eq]
  generalize (lg_sl ([.ref (am 0), .int p0, .int c0]) ++ List.replicate (3 - (lg_sl ([.ref (am 0), .int p0, .int c0])).length) Slot.unset).toArray = ls at hl ⊢
  have hl : lv_has ls 3 [(0, .ref (am 0)), (1, .int p0), (2, .int c0)] := hl
  refine lv_aload_n hx hb dX5_fate_0 rfl (lv_at hl 0 rfl) ?_
  refine lv_iload_n hx hb dX5_fate_1 rfl (lv_at hl 1 rfl) ?_
  refine lv_iload_n hx hb dX5_fate_2 rfl (lv_at hl 2 rfl) ?_
  refine pcI (va_runV (As := [.int p0, .int c0]) (rest := []) ⟨hx, hb, hml, hown, hts⟩ (kX5_isCell l D cI cO tt am g y zz j f v X s.heap p0 c0 hI) (cwV 2 hts gX5_fate_X5_isCell rfl rfl rfl (by decide +kernel) ⟨(Nat.le_of_ble_eq_true rfl), (Nat.le_of_ble_eq_true rfl)⟩) (pwV hK hZ hN hP hS (va_recv hK hP (ci := 5) (q0 := 0) rfl rfl)) rfl rfl hl.1 rfl (lv_room (Nat.le_of_ble_eq_true rfl)) dX5_fate_3 ⟨Nat.zero_le _, Nat.zero_le _⟩) hS (fun locs hS => ?_)
  refine lv_if_eq (tgt := 18) hx hb dX5_fate_6 (by decide) (fun c_1 => ?_) (fun c_1 => ?_)
  · have c_1 := bI_0.mp c_1
    refine lv_bipush (v := (-2)) hx hb dX5_fate_18 (by decide) ?_
    exact W.iret (v := (-2)) hx hb hr (fun t ht hW => ⟨⟨(-2), (g, y, zz, j, f, v), rfl, (by exact ⟨(by grind [fFate]), (by rfl), (by (repeat (first | exact hM | apply RM_u (by omega))))⟩), by rw [ht]; exact hP, hD⟩, hS.F ht⟩) hS.2.2 dX5_fate_20
  · have c_1 := bI_n0.mp c_1
    refine lv_aload_n hx hb dX5_fate_9 rfl (lv_at hl 0 rfl) ?_
    refine lv_iload_n hx hb dX5_fate_10 rfl (lv_at hl 1 rfl) ?_
    refine lv_iload_n hx hb dX5_fate_11 rfl (lv_at hl 2 rfl) ?_
    refine mcI (wf := fun u : (Nat → Int64) × (Nat → Int32) => MW am cI g y zz u.1 u.2 v X) (va_runV (As := [.int p0, .int c0]) (rest := []) ⟨hx, hb, hml, hown, hts⟩ (kX5_fateOf l D cI cO tt am g y zz j f v X s.heap.size p0 c0 hI hM c_1.1 c_1.2) (cwV 2 hts gX5_fate_X5_fateOf rfl rfl rfl (by decide +kernel) ⟨(Nat.le_of_ble_eq_true rfl), (Nat.le_of_ble_eq_true rfl)⟩) (mwV hK hZ hN hP hD hS hA (va_recv hK hP (ci := 5) (q0 := 0) rfl rfl)) rfl rfl hl.1 rfl (lv_room (Nat.le_of_ble_eq_true rfl)) dX5_fate_12 ⟨Nat.zero_le _, Nat.zero_le _⟩) hD hS hA (fun ru_2 uu_2 H locs hu_2 hP hD hS => ?_)
    obtain ⟨ju_2, fu_2⟩ := uu_2
    obtain ⟨eru_2, hqu_2⟩ := hu_2
    have eru_2 : ru_2 = gdF g p0 c0 := eru_2
    subst eru_2
    have hqu_2 : ∀ q, 4 ≤ q → ju_2 q = j q := hqu_2
    have hP : va_P D vwCl (MW am cI g y zz ju_2 fu_2 v X) H := hP
    have hD : va_D A (MW am cI g y zz ju_2 fu_2 v X) := hD
    refine lv_goto (tgt := 20) hx hb dX5_fate_15 (by decide) ?_
    exact W.iret (v := gdF g p0 c0) hx hb hr (fun t ht hW => ⟨⟨gdF g p0 c0, (g, y, zz, ju_2, fu_2, v), rfl, (by exact ⟨(by grind [fFate]), (by rfl), (by (repeat (first | exact hM | apply RM_u (by omega))))⟩), by rw [ht]; exact hP, hD⟩, hS.F ht⟩) hS.2.2 dX5_fate_20
set_option maxHeartbeats 4000000 in
set_option maxRecDepth 100000 in
theorem kX5_pace (l : Launch) (D : va_G) (cI cO : ClassId) (tt : Nat) (am : Nat → Nat) (g : Nat → Nat → Int32) (y : Nat → Int32) (zz : Nat → Int32) (j : Nat → Int64) (f : Nat → Int32) (v : Nat → Int32) (X : va_W) (sz : Nat) (p0 : Int32) (c0 : Int32) (w0 : Int32) (hI : WI g) (hM : RM g y zz) : MmL l yX5_pace wsX5_pace ({ frames := 4, cells := 0, slots := 0, locals := 96 }) D cI cO tt (MW am cI g y zz j f v X) sz [.ref (am 0), .int p0, .int c0, .int w0] (S := (Nat → Nat → Int32) × (Nat → Int32) × (Nat → Int32) × (Nat → Int64) × (Nat → Int32) × (Nat → Int32)) (fun u => MW am cI u.1 u.2.1 u.2.2.1 u.2.2.2.1 u.2.2.2.2.1 u.2.2.2.2.2 X) (fun z u => z = fPace g p0 c0 w0 ∧ u.1 = g ∧ RM u.1 u.2.1 u.2.2.1) := by
  refine Met.ofW (cc := cX5_pace) (maxL := 4) (ret := (some .long)) (by decide) rfl ?_
  intro p e s m args below meth c s₁ B hml hv
  obtain ⟨rfl, hsz, hP, hK, hD0, hZ, hN⟩ := hv
  have hx := B.exec
  have hb := B.bytes
  have hr := B.returns
  have hts := atoms_spec (ws := wsX5_pace) B.pre
  have hown : s.vm.findClass RX5 = some m.cls := findClass_of_methodNamed B.named
  have hlocks := B.notSynchronized
  subst hsz
  have hD := hD0.self (sz := s.heap.size)
  generalize hAe : va_A (MW am cI g y zz j f v X) s.heap.size = A at hD hZ ⊢
  have hA : ∀ q : Nat, s.heap.size ≤ q → A q := fun q h => by rw [← hAe]; exact Or.inr h
  have hS : va_S A s.heap s.heap [] := va_S.rf
  have hl := lv_entry ([.ref (am 0), .int p0, .int c0, .int w0]) (n := 4) (Nat.le_of_ble_eq_true rfl)
  rw [lg_entry_eq]
  generalize (lg_sl ([.ref (am 0), .int p0, .int c0, .int w0]) ++ List.replicate (4 - (lg_sl ([.ref (am 0), .int p0, .int c0, .int w0])).length) Slot.unset).toArray = ls at hl ⊢
  have hl : lv_has ls 4 [(0, .ref (am 0)), (1, .int p0), (2, .int c0), (3, .int w0)] := hl
  have hw0 := hts (.fieldLink RX5 178 "LayerSounderModel" "paceY" "J") (List.mem_cons_of_mem _ (List.mem_append_left _ (List.mem_append_left _ (List.mem_of_getElem? (l := wsX5_pace_r1) (i := 1) rfl))))
  have iX5 : ∀ w ∈ wsX50, w ∈ wsX5_pace := fun _ h => List.mem_cons_of_mem _ (List.mem_append_right _ h)
  have hw2 := hts (.fieldLink RX5 175 "LayerSounderModel" "paceX" "J") (List.mem_cons_of_mem _ (List.mem_append_left _ (List.mem_append_left _ (List.mem_of_getElem? (l := wsX5_pace_r1) (i := 0) rfl))))
  refine lv_aload_n hx hb dX5_pace_0 rfl (lv_at hl 0 rfl) ?_
  refine lv_iload_n hx hb dX5_pace_1 rfl (lv_at hl 1 rfl) ?_
  refine lv_iload_n hx hb dX5_pace_2 rfl (lv_at hl 2 rfl) ?_
  refine pcI (va_runV (As := [.int p0, .int c0]) (rest := []) ⟨hx, hb, hml, hown, hts⟩ (kX5_isCell l D cI cO tt am g y zz j f v X s.heap p0 c0 hI) (cwV 2 hts gX5_pace_X5_isCell rfl rfl rfl (by decide +kernel) ⟨(Nat.le_of_ble_eq_true rfl), (Nat.le_of_ble_eq_true rfl)⟩) (pwV hK hZ hN hP hS (va_recv hK hP (ci := 5) (q0 := 0) rfl rfl)) rfl rfl hl.1 rfl (lv_room (Nat.le_of_ble_eq_true rfl)) dX5_pace_3 ⟨Nat.zero_le _, Nat.zero_le _⟩) hS (fun locs hS => ?_)
  refine lv_if_eq (tgt := 19) hx hb dX5_pace_6 (by decide) (fun c_1 => ?_) (fun c_1 => ?_)
  · have c_1 := bI_0.mp c_1
    refine lv_bipush (v := (-2)) hx hb dX5_pace_19 (by decide) ?_
    refine pcL (va_runS (As := [.int (-2)]) (rest := []) ⟨hx, hb, hml, hown, hts⟩ (kX5_no l D cI cO tt (MW am cI g y zz j f v X) s.heap (-2) ) (va_cwS 1 hts gX5_pace_X5_no rfl rfl rfl (by decide +kernel) ⟨(Nat.le_of_ble_eq_true rfl), (Nat.le_of_ble_eq_true rfl)⟩) (pwS hK hZ hN hP hS) rfl rfl hl.1 rfl (lv_room (Nat.le_of_ble_eq_true rfl)) dX5_pace_21 ⟨Nat.zero_le _, Nat.zero_le _⟩) hS (fun locs hS => ?_)
    exact W.lret (v := (-9223372036854775808) - ((-2) : Int32).toInt64) hx hb hr (fun t ht hW => ⟨⟨(-9223372036854775808) - ((-2) : Int32).toInt64, (g, y, zz, j, f, v), rfl, (by exact ⟨(by grind [fPace]), (by rfl), (by (repeat (first | exact hM | apply RM_u (by omega))))⟩), by rw [ht]; exact hP, hD⟩, hS.F ht⟩) hS.2.2 dX5_pace_24
  · have c_1 := bI_n0.mp c_1
    refine lv_iload_n hx hb dX5_pace_9 rfl (lv_at hl 3 rfl) ?_
    refine lv_i2l hx hb dX5_pace_10 rfl ?_
    refine lv_lconst (v := 0) hx hb dX5_pace_11 (by decide) ?_
    refine lv_lconst (v := 1) hx hb dX5_pace_12 (by decide) ?_
    refine pcI (va_runS (As := [.long w0.toInt64, .long 0, .long 1]) (rest := []) ⟨hx, hb, hml, hown, hts⟩ (kX5_in l D cI cO tt (MW am cI g y zz j f v X) s.heap w0 (0 : Int32) (1 : Int32) w0.toInt64 0 1 rfl (by decide) (by decide)) (va_cwS 3 hts gX5_pace_X5_in rfl rfl rfl (by decide +kernel) ⟨(Nat.le_of_ble_eq_true rfl), (Nat.le_of_ble_eq_true rfl)⟩) (pwS hK hZ hN hP hS) rfl rfl hl.1 rfl (lv_room (Nat.le_of_ble_eq_true rfl)) dX5_pace_13 ⟨Nat.zero_le _, Nat.zero_le _⟩) hS (fun locs hS => ?_)
    refine lv_if_ne (tgt := 25) hx hb dX5_pace_16 (by decide) (fun c_2 => ?_) (fun c_2 => ?_)
    · have c_2 := bI_n0.mp c_2
      refine lv_aload_n hx hb dX5_pace_25 rfl (lv_at hl 0 rfl) ?_
      refine lv_iload_n hx hb dX5_pace_26 rfl (lv_at hl 1 rfl) ?_
      refine lv_iload_n hx hb dX5_pace_27 rfl (lv_at hl 2 rfl) ?_
      refine mcI (wf := fun u : (Nat → Int64) × (Nat → Int32) => MW am cI g y zz u.1 u.2 v X) (va_runV (As := [.int p0, .int c0]) (rest := []) ⟨hx, hb, hml, hown, hts⟩ (kX5_findPace l D cI cO tt am g y zz j f v X s.heap.size p0 c0 hI hM c_1.1 c_1.2) (cwV 2 hts gX5_pace_X5_findPace rfl rfl rfl (by decide +kernel) ⟨(Nat.le_of_ble_eq_true rfl), (Nat.le_of_ble_eq_true rfl)⟩) (mwV hK hZ hN hP hD hS hA (va_recv hK hP (ci := 5) (q0 := 0) rfl rfl)) rfl rfl hl.1 rfl (lv_room (Nat.le_of_ble_eq_true rfl)) dX5_pace_28 ⟨Nat.zero_le _, Nat.zero_le _⟩) hD hS hA (fun ru_3 uu_3 H locs hu_3 hP hD hS => ?_)
      obtain ⟨ju_3, fu_3⟩ := uu_3
      obtain ⟨eru_3, hqu_3⟩ := (show fpP g p0 c0 j ru_3 ju_3 from hu_3)
      subst eru_3
      have hP : va_P D vwCl (MW am cI g y zz ju_3 fu_3 v X) H := hP
      have hD : va_D A (MW am cI g y zz ju_3 fu_3 v X) := hD
      refine lv_if_ne (tgt := 40) hx hb dX5_pace_31 (by decide) (fun c_4 => ?_) (fun c_4 => ?_)
      · have c_4 := bI_n0.mp c_4
        refine lv_iload_n hx hb dX5_pace_40 rfl (lv_at hl 3 rfl) ?_
        refine lv_if_ne (tgt := 51) hx hb dX5_pace_41 (by decide) (fun c_5 => ?_) (fun c_5 => ?_)
        · refine lv_aload_n hx hb dX5_pace_51 rfl (lv_at hl 0 rfl) ?_
          refine va_get (D := D) (ci := 5) (v := .long (ju_3 5)) (C := RX5) (T := TX5) (N := 31) hx hb hts iX5 hown hK hP 0 rfl rfl 27 (by decide) hw0 (fun _ h9 => h9) rfl dX5_pace_52 ?_
          exact W.lret (v := ju_3 5) hx hb hr (fun t ht hW => ⟨⟨ju_3 5, (g, y, zz, ju_3, fu_3, v), rfl, (by obtain ⟨z1, z2⟩ := hqu_3.1 c_4; exact ⟨(by grind [fPace]), (by rfl), (by (repeat (first | exact hM | apply RM_u (by omega))))⟩), by rw [ht]; exact hP, hD⟩, hS.F ht⟩) hS.2.2 dX5_pace_55
        · refine lv_aload_n hx hb dX5_pace_44 rfl (lv_at hl 0 rfl) ?_
          refine va_get (D := D) (ci := 5) (v := .long (ju_3 4)) (C := RX5) (T := TX5) (N := 31) hx hb hts iX5 hown hK hP 0 rfl rfl 26 (by decide) hw2 (fun _ h9 => h9) rfl dX5_pace_45 ?_
          refine lv_goto (tgt := 55) hx hb dX5_pace_48 (by decide) ?_
          exact W.lret (v := ju_3 4) hx hb hr (fun t ht hW => ⟨⟨ju_3 4, (g, y, zz, ju_3, fu_3, v), rfl, (by obtain ⟨z1, z2⟩ := hqu_3.1 c_4; exact ⟨(by grind [fPace]), (by rfl), (by (repeat (first | exact hM | apply RM_u (by omega))))⟩), by rw [ht]; exact hP, hD⟩, hS.F ht⟩) hS.2.2 dX5_pace_55
      · have c_4 := bI_0.mp c_4
        refine lv_bipush (v := (-3)) hx hb dX5_pace_34 (by decide) ?_
        refine pcL (va_runS (As := [.int (-3)]) (rest := []) ⟨hx, hb, hml, hown, hts⟩ (kX5_no l D cI cO tt (MW am cI g y zz ju_3 fu_3 v X) H (-3) ) (va_cwS 1 hts gX5_pace_X5_no rfl rfl rfl (by decide +kernel) ⟨(Nat.le_of_ble_eq_true rfl), (Nat.le_of_ble_eq_true rfl)⟩) (pwS hK hZ hN hP hS) rfl rfl hl.1 rfl (lv_room (Nat.le_of_ble_eq_true rfl)) dX5_pace_36 ⟨Nat.zero_le _, Nat.zero_le _⟩) hS (fun locs hS => ?_)
        exact W.lret (v := (-9223372036854775808) - ((-3) : Int32).toInt64) hx hb hr (fun t ht hW => ⟨⟨(-9223372036854775808) - ((-3) : Int32).toInt64, (g, y, zz, ju_3, fu_3, v), rfl, (by exact ⟨(by grind [fPace]), (by rfl), (by (repeat (first | exact hM | apply RM_u (by omega))))⟩), by rw [ht]; exact hP, hD⟩, hS.F ht⟩) hS.2.2 dX5_pace_39
    · have c_2 := bI_0.mp c_2
      refine lv_bipush (v := (-2)) hx hb dX5_pace_19 (by decide) ?_
      refine pcL (va_runS (As := [.int (-2)]) (rest := []) ⟨hx, hb, hml, hown, hts⟩ (kX5_no l D cI cO tt (MW am cI g y zz j f v X) s.heap (-2) ) (va_cwS 1 hts gX5_pace_X5_no rfl rfl rfl (by decide +kernel) ⟨(Nat.le_of_ble_eq_true rfl), (Nat.le_of_ble_eq_true rfl)⟩) (pwS hK hZ hN hP hS) rfl rfl hl.1 rfl (lv_room (Nat.le_of_ble_eq_true rfl)) dX5_pace_21 ⟨Nat.zero_le _, Nat.zero_le _⟩) hS (fun locs hS => ?_)
      exact W.lret (v := (-9223372036854775808) - ((-2) : Int32).toInt64) hx hb hr (fun t ht hW => ⟨⟨(-9223372036854775808) - ((-2) : Int32).toInt64, (g, y, zz, j, f, v), rfl, (by exact ⟨(by grind [fPace]), (by rfl), (by (repeat (first | exact hM | apply RM_u (by omega))))⟩), by rw [ht]; exact hP, hD⟩, hS.F ht⟩) hS.2.2 dX5_pace_24
set_option maxHeartbeats 4000000 in
set_option maxRecDepth 100000 in
theorem kX5_closes (l : Launch) (D : va_G) (cI cO : ClassId) (tt : Nat) (am : Nat → Nat) (g : Nat → Nat → Int32) (y : Nat → Int32) (zz : Nat → Int32) (j : Nat → Int64) (f : Nat → Int32) (v : Nat → Int32) (X : va_W) (H0 : Heap) (p0 : Int32) (y0 : Int32) (hI : WI g) : MpI l yX5_closes wsX5_closes ({ frames := 2, cells := 0, slots := 0, locals := 46 }) D cI cO tt (MW am cI g y zz j f v X) H0 [.ref (am 0), .int p0, .int y0] (fCloses g p0 y0) := by
  refine Met.ofW (cc := cX5_closes) (maxL := 4) (ret := (some .int)) (by decide) rfl ?_
  intro p e s m args below meth c s₁ B hml hv
  obtain ⟨rfl, rfl, hP, hK, hZ, hN⟩ := hv
  have hx := B.exec
  have hb := B.bytes
  have hr := B.returns
  have hts := atoms_spec (ws := wsX5_closes) B.pre
  have hown : s.vm.findClass RX5 = some m.cls := findClass_of_methodNamed B.named
  have hlocks := B.notSynchronized
  have hS : va_S (fun _ => False) s.heap s.heap [] := va_S.rf
  have hl := lv_entry ([.ref (am 0), .int p0, .int y0]) (n := 4) (Nat.le_of_ble_eq_true rfl)
  rw [lg_entry_eq]
  generalize (lg_sl ([.ref (am 0), .int p0, .int y0]) ++ List.replicate (4 - (lg_sl ([.ref (am 0), .int p0, .int y0])).length) Slot.unset).toArray = ls at hl ⊢
  have hl : lv_has ls 4 [(0, .ref (am 0)), (1, .int p0), (2, .int y0)] := hl
  have hw0 := hts (.constantLong RX5 89 (1000000)) (List.mem_cons_of_mem _ (List.mem_append_left _ (List.mem_of_getElem? (i := 0) rfl)))
  have hw1 := hts (.fieldLink RX5 82 "LayerSounderModel" "pings" "I") (List.mem_cons_of_mem _ (List.mem_append_left _ (List.mem_of_getElem? (i := 1) rfl)))
  have iX5 : ∀ w ∈ wsX50, w ∈ wsX5_closes := fun _ h => List.mem_cons_of_mem _ (List.mem_append_right _ h)
  have hw3 := hts (.fieldLink RX5 35 "LayerSounderModel" "xs" "[I") (List.mem_cons_of_mem _ (List.mem_append_left _ (List.mem_of_getElem? (i := 2) rfl)))
  have hw4 := hts (.fieldLink RX5 38 "LayerSounderModel" "ys" "[I") (List.mem_cons_of_mem _ (List.mem_append_left _ (List.mem_of_getElem? (i := 3) rfl)))
  refine lv_aload_n hx hb dX5_closes_0 rfl (lv_at hl 0 rfl) ?_
  refine lv_iload_n hx hb dX5_closes_1 rfl (lv_at hl 1 rfl) ?_
  refine pcI (va_runV (As := [.int p0]) (rest := []) ⟨hx, hb, hml, hown, hts⟩ (kX5_isPing l D cI cO tt am g y zz j f v X s.heap p0 hI) (cwV 1 hts gX5_closes_X5_isPing rfl rfl rfl (by decide +kernel) ⟨(Nat.le_of_ble_eq_true rfl), (Nat.le_of_ble_eq_true rfl)⟩) (pwV hK hZ hN hP hS (va_recv hK hP (ci := 5) (q0 := 0) rfl rfl)) rfl rfl hl.1 rfl (lv_room (Nat.le_of_ble_eq_true rfl)) dX5_closes_2 ⟨Nat.zero_le _, Nat.zero_le _⟩) hS (fun locs hS => ?_)
  refine lv_if_eq (tgt := 20) hx hb dX5_closes_5 (by decide) (fun c_1 => ?_) (fun c_1 => ?_)
  · have c_1 := bI_0.mp c_1
    refine lv_bipush (v := (-2)) hx hb dX5_closes_20 (by decide) ?_
    exact W.iret (v := (-2)) hx hb hr (fun t ht hW => ⟨⟨(-2), (), rfl, (by grind [fCloses]), ht⟩, hS.F ht⟩) hS.2.2 dX5_closes_22
  · have c_1 := bI_n0.mp c_1
    refine lv_iload_n hx hb dX5_closes_8 rfl (lv_at hl 2 rfl) ?_
    refine lv_i2l hx hb dX5_closes_9 rfl ?_
    refine lv_lconst (v := 0) hx hb dX5_closes_10 (by decide) ?_
    refine lv_ldc2 hx hb hown hw0 dX5_closes_11 ?_
    refine pcI (va_runS (As := [.long y0.toInt64, .long 0, .long 1000000]) (rest := []) ⟨hx, hb, hml, hown, hts⟩ (kX5_in l D cI cO tt (MW am cI g y zz j f v X) s.heap y0 (0 : Int32) (1000000 : Int32) y0.toInt64 0 1000000 rfl (by decide) (by decide)) (va_cwS 3 hts gX5_closes_X5_in rfl rfl rfl (by decide +kernel) ⟨(Nat.le_of_ble_eq_true rfl), (Nat.le_of_ble_eq_true rfl)⟩) (pwS hK hZ hN hP hS) rfl rfl hl.1 rfl (lv_room (Nat.le_of_ble_eq_true rfl)) dX5_closes_14 ⟨Nat.zero_le _, Nat.zero_le _⟩) hS (fun locs hS => ?_)
    refine lv_if_ne (tgt := 23) hx hb dX5_closes_17 (by decide) (fun c_2 => ?_) (fun c_2 => ?_)
    · have c_2 := bI_n0.mp c_2
      refine lv_iload_n hx hb dX5_closes_23 rfl (lv_at hl 1 rfl) ?_
      refine lv_iconst (v := 2) hx hb dX5_closes_24 (by decide) ?_
      refine lv_iadd hx hb dX5_closes_25 ?_
      refine tpI (y := nI (rn p0 + 2)) (pl2 (p40 hI c_1).2.1) ?_
      refine lv_istore_n (lv' := [(3, .int (nI (rn p0 + 2))), (0, .ref (am 0)), (1, .int p0), (2, .int y0)]) hx hb dX5_closes_26 rfl hl (by decide) rfl (fun ls hl => ?_)
      refine ploop (σ := Nat) (pc := 27) (nL := 4) (fun z_3 => [(3, .int (nI z_3)), (0, .ref (am 0)), (1, .int p0), (2, .int y0)]) (fun z_3 => (z_3 ≤ rn (g 100 7) ∨ z_3 ≤ rn p0 + 2) ∧ clo g p0 y0 (rn (g 100 7) - (rn p0 + 2)) (rn p0 + 2) = clo g p0 y0 (rn (g 100 7) - z_3) z_3) (fun z_3 => rn (g 100 7) - z_3) (fun z_3 hIz_3 ihz_3 locs ls hS hl => ?_) (rn p0 + 2) (⟨Or.inr (Nat.le_refl _), rfl⟩) _ _ hS (lv_sub hl [0, 1, 2, 3] rfl)
      obtain ⟨i, rfl⟩ : ∃ q, q = z_3 := ⟨_, rfl⟩
      have hl : lv_has ls 4 [(3, .int (nI i)), (0, .ref (am 0)), (1, .int p0), (2, .int y0)] := hl
      have hIz_3 : (i ≤ rn (g 100 7) ∨ i ≤ rn p0 + 2) ∧ clo g p0 y0 (rn (g 100 7) - (rn p0 + 2)) (rn p0 + 2) = clo g p0 y0 (rn (g 100 7) - i) i := hIz_3
      refine lv_iload_n hx hb dX5_closes_27 rfl (lv_at hl 0 rfl) ?_
      refine lv_aload_n hx hb dX5_closes_28 rfl (lv_at hl 1 rfl) ?_
      refine va_get (D := D) (ci := 5) (v := .int (g 100 7)) (C := RX5) (T := TX5) (N := 31) hx hb hts iX5 hown hK hP 0 rfl rfl 8 (by decide) hw1 (fun _ h9 => h9) rfl dX5_closes_29 ?_
      refine lv_icmp_ge (tgt := 89) hx hb dX5_closes_32 (by decide) (fun c_4 => ?_) (fun c_4 => ?_)
      · have hi9 : i < 100 := by
          have z := (p40 hI c_1).1
          have z2 : rn (g 100 7) ≤ 40 := rnle hI.2.1.1 hI.2.1.2 (by decide)
          have z3 := hIz_3.1
          omega
        refine lv_iconst (v := (-1)) hx hb dX5_closes_89 (by decide) ?_
        exact W.iret (v := (-1)) hx hb hr (fun t ht hW => ⟨⟨(-1), (), rfl, (by rw [fCloses, if_pos ⟨c_1, c_2⟩, hIz_3.2, clo_e (nuI hI hi9 c_4)]), ht⟩, hS.F ht⟩) hS.2.2 dX5_closes_90
      · have hi9 : i < 100 := by
          have z := (p40 hI c_1).1
          have z2 : rn (g 100 7) ≤ 40 := rnle hI.2.1.1 hI.2.1.2 (by decide)
          have z3 := hIz_3.1
          omega
        have hlt2 : i < rn (g 100 7) := nuI2 hI hi9 c_4
        have hlt : (i + 1 ≤ rn (g 100 7) ∨ i + 1 ≤ rn p0 + 2) := Or.inl hlt2
        have hpi : isP g (nI i) := isP_n hI hlt2
        refine lv_aload_n hx hb dX5_closes_35 rfl (lv_at hl 1 rfl) ?_
        refine va_get (D := D) (ci := 5) (v := .ref (am 8)) (C := RX5) (T := TX5) (N := 31) hx hb hts iX5 hown hK hP 0 rfl rfl 10 (by decide) hw3 (fun _ h9 => h9) rfl dX5_closes_36 ?_
        refine lv_iload_n hx hb dX5_closes_39 rfl (lv_at hl 0 rfl) ?_
        refine va_iald hx hb hK hP 8 0 rfl rfl (vin hpi.1 hpi.2 hI.2.1.2 (by decide)) dX5_closes_40 ?_
        refine lv_aload_n hx hb dX5_closes_41 rfl (lv_at hl 1 rfl) ?_
        refine va_get (D := D) (ci := 5) (v := .ref (am 8)) (C := RX5) (T := TX5) (N := 31) hx hb hts iX5 hown hK hP 0 rfl rfl 10 (by decide) hw3 (fun _ h9 => h9) rfl dX5_closes_42 ?_
        refine lv_iload_n hx hb dX5_closes_45 rfl (lv_at hl 2 rfl) ?_
        refine va_iald hx hb hK hP 8 0 rfl rfl (vin c_1.1 c_1.2 hI.2.1.2 (by decide)) dX5_closes_46 ?_
        refine lv_isub hx hb dX5_closes_47 ?_
        refine lv_i2l hx hb dX5_closes_48 rfl ?_
        refine pcL (va_runS (As := [.long (((g 1 (nI i).toNatClampNeg) - (g 1 p0.toNatClampNeg)).toInt64)]) (rest := []) ⟨hx, hb, hml, hown, hts⟩ (kX5_amount l D cI cO tt (MW am cI g y zz j f v X) s.heap (((g 1 (nI i).toNatClampNeg) - (g 1 p0.toNatClampNeg)).toInt64) ) (va_cwS 1 hts gX5_closes_X5_amount rfl rfl rfl (by decide +kernel) ⟨(Nat.le_of_ble_eq_true rfl), (Nat.le_of_ble_eq_true rfl)⟩) (pwS hK hZ hN hP hS) rfl rfl hl.1 rfl (lv_room (Nat.le_of_ble_eq_true rfl)) dX5_closes_49 ⟨Nat.zero_le _, Nat.zero_le _⟩) hS (fun locs hS => ?_)
        refine lv_iload_n hx hb dX5_closes_52 rfl (lv_at hl 3 rfl) ?_
        refine lv_i2l hx hb dX5_closes_53 rfl ?_
        refine W.lcmp hx hb dX5_closes_54 ?_
        refine lv_if_gt (tgt := 83) hx hb dX5_closes_55 (by decide) (fun c_5 => ?_) (fun c_5 => ?_)
        · have c_5 := (lg_cmp_gt _ _).mp c_5
          refine lv_iinc (v := nI (i + 1)) (lv' := [(3, .int (nI (i + 1))), (0, .ref (am 0)), (1, .int p0), (2, .int y0)]) hx hb dX5_closes_83 hl (k := 0) rfl (nI_1 _) (by decide) rfl (fun ls hl => ?_)
          refine lv_goto (tgt := 27) hx hb dX5_closes_86 (by decide) ?_
          exact ihz_3 (i + 1) (show ((i + 1) ≤ rn (g 100 7) ∨ (i + 1) ≤ rn p0 + 2) ∧ clo g p0 y0 (rn (g 100 7) - (rn p0 + 2)) (rn p0 + 2) = clo g p0 y0 (rn (g 100 7) - (i + 1)) (i + 1) from ⟨hlt, by rw [hIz_3.2]; exact clo_s hlt (fun q => absurd ((near_i hI c_1 hpi c_2.1).mpr q).1 (Int64.not_le.mpr c_5)) hlt2⟩) (show rn (g 100 7) - (i + 1) < rn (g 100 7) - i from (by omega)) _ _ hS (lv_sub hl [0, 1, 2, 3] rfl)
        · have c_5 := fun h => c_5 ((lg_cmp_gt _ _).mpr h)
          refine lv_aload_n hx hb dX5_closes_58 rfl (lv_at hl 1 rfl) ?_
          refine va_get (D := D) (ci := 5) (v := .ref (am 9)) (C := RX5) (T := TX5) (N := 31) hx hb hts iX5 hown hK hP 0 rfl rfl 11 (by decide) hw4 (fun _ h9 => h9) rfl dX5_closes_59 ?_
          refine lv_iload_n hx hb dX5_closes_62 rfl (lv_at hl 0 rfl) ?_
          refine va_iald hx hb hK hP 9 0 rfl rfl (vin hpi.1 hpi.2 hI.2.1.2 (by decide)) dX5_closes_63 ?_
          refine lv_aload_n hx hb dX5_closes_64 rfl (lv_at hl 1 rfl) ?_
          refine va_get (D := D) (ci := 5) (v := .ref (am 9)) (C := RX5) (T := TX5) (N := 31) hx hb hts iX5 hown hK hP 0 rfl rfl 11 (by decide) hw4 (fun _ h9 => h9) rfl dX5_closes_65 ?_
          refine lv_iload_n hx hb dX5_closes_68 rfl (lv_at hl 2 rfl) ?_
          refine va_iald hx hb hK hP 9 0 rfl rfl (vin c_1.1 c_1.2 hI.2.1.2 (by decide)) dX5_closes_69 ?_
          refine lv_isub hx hb dX5_closes_70 ?_
          refine lv_i2l hx hb dX5_closes_71 rfl ?_
          refine pcL (va_runS (As := [.long (((g 2 (nI i).toNatClampNeg) - (g 2 p0.toNatClampNeg)).toInt64)]) (rest := []) ⟨hx, hb, hml, hown, hts⟩ (kX5_amount l D cI cO tt (MW am cI g y zz j f v X) s.heap (((g 2 (nI i).toNatClampNeg) - (g 2 p0.toNatClampNeg)).toInt64) ) (va_cwS 1 hts gX5_closes_X5_amount rfl rfl rfl (by decide +kernel) ⟨(Nat.le_of_ble_eq_true rfl), (Nat.le_of_ble_eq_true rfl)⟩) (pwS hK hZ hN hP hS) rfl rfl hl.1 rfl (lv_room (Nat.le_of_ble_eq_true rfl)) dX5_closes_72 ⟨Nat.zero_le _, Nat.zero_le _⟩) hS (fun locs hS => ?_)
          refine lv_iload_n hx hb dX5_closes_75 rfl (lv_at hl 3 rfl) ?_
          refine lv_i2l hx hb dX5_closes_76 rfl ?_
          refine W.lcmp hx hb dX5_closes_77 ?_
          refine lv_if_gt (tgt := 83) hx hb dX5_closes_78 (by decide) (fun c_6 => ?_) (fun c_6 => ?_)
          · have c_6 := (lg_cmp_gt _ _).mp c_6
            refine lv_iinc (v := nI (i + 1)) (lv' := [(3, .int (nI (i + 1))), (0, .ref (am 0)), (1, .int p0), (2, .int y0)]) hx hb dX5_closes_83 hl (k := 0) rfl (nI_1 _) (by decide) rfl (fun ls hl => ?_)
            refine lv_goto (tgt := 27) hx hb dX5_closes_86 (by decide) ?_
            exact ihz_3 (i + 1) (show ((i + 1) ≤ rn (g 100 7) ∨ (i + 1) ≤ rn p0 + 2) ∧ clo g p0 y0 (rn (g 100 7) - (rn p0 + 2)) (rn p0 + 2) = clo g p0 y0 (rn (g 100 7) - (i + 1)) (i + 1) from ⟨hlt, by rw [hIz_3.2]; exact clo_s hlt (fun q => absurd ((near_i hI c_1 hpi c_2.1).mpr q).2 (Int64.not_le.mpr c_6)) hlt2⟩) (show rn (g 100 7) - (i + 1) < rn (g 100 7) - i from (by omega)) _ _ hS (lv_sub hl [0, 1, 2, 3] rfl)
          · have c_6 := fun h => c_6 ((lg_cmp_gt _ _).mpr h)
            refine lv_iload_n hx hb dX5_closes_81 rfl (lv_at hl 0 rfl) ?_
            exact W.iret (v := nI i) hx hb hr (fun t ht hW => ⟨⟨nI i, (), rfl, (by rw [fCloses, if_pos ⟨c_1, c_2⟩, hIz_3.2, clo_h hlt2 ((near_i hI c_1 hpi c_2.1).mp ⟨Int64.not_lt.mp c_5, Int64.not_lt.mp c_6⟩)]), ht⟩, hS.F ht⟩) hS.2.2 dX5_closes_82
    · have c_2 := bI_0.mp c_2
      refine lv_bipush (v := (-2)) hx hb dX5_closes_20 (by decide) ?_
      exact W.iret (v := (-2)) hx hb hr (fun t ht hW => ⟨⟨(-2), (), rfl, (by grind [fCloses]), ht⟩, hS.F ht⟩) hS.2.2 dX5_closes_22
