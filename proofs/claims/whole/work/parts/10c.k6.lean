set_option maxHeartbeats 4000000 in
set_option maxRecDepth 100000 in
theorem kX5_in (l : Launch) (D : va_G) (cI cO : ClassId) (tt : Nat) (w : va_W) (H0 : Heap) (x0 : Int32) (y0 : Int32) (z0 : Int32) (a0 : Int64) (b0 : Int64) (c0 : Int64) (ha0 : a0 = x0.toInt64) (hb0 : b0 = y0.toInt64) (hc0 : c0 = z0.toInt64) : MpI l yX5_in wsX5_in ({ frames := 0, cells := 0, slots := 0, locals := 0 }) D cI cO tt (w) H0 [.long a0, .long b0, .long c0] (bI (y0 ≤ x0 ∧ x0 ≤ z0)) := by
  refine Met.ofW (cc := cX5_in) (maxL := 6) (ret := (some .boolean)) (by decide) rfl ?_
  intro p e s m args below meth c s₁ B hml hv
  obtain ⟨rfl, rfl, hP, hK, hZ, hN⟩ := hv
  have hx := B.exec
  have hb := B.bytes
  have hr := B.returns
  have hts := atoms_spec (ws := wsX5_in) B.pre
  have hown : s.vm.findClass RX5 = some m.cls := findClass_of_methodNamed B.named
  have hlocks := B.notSynchronized
  have hS : va_S (fun _ => False) s.heap s.heap [] := va_S.rf
  have hl := lv_entry ([.long a0, .long b0, .long c0]) (n := 6) (Nat.le_of_ble_eq_true rfl)
  rw [lg_entry_eq]
  generalize (lg_sl ([.long a0, .long b0, .long c0]) ++ List.replicate (6 - (lg_sl ([.long a0, .long b0, .long c0])).length) Slot.unset).toArray = ls at hl ⊢
  have hl : lv_has ls 6 [(0, .long a0), (2, .long b0), (4, .long c0)] := hl
  refine lv_lload_n hx hb dX5_in_0 rfl (lv_at hl 0 rfl) ?_
  refine lv_lload_n hx hb dX5_in_1 rfl (lv_at hl 1 rfl) ?_
  refine W.lcmp hx hb dX5_in_2 ?_
  refine lv_if_lt (tgt := 17) hx hb dX5_in_3 (by decide) (fun c_1 => ?_) (fun c_1 => ?_)
  · have c_1 := (lg_cmp_lt _ _).mp c_1
    refine lv_iconst (v := 0) hx hb dX5_in_17 (by decide) ?_
    exact W.zret (v := 0) hx hb hr rfl (fun t ht hW => ⟨⟨0, (), rfl, (by subst ha0 hb0 hc0; simp only [i64lt, i64le] at c_1; grind [bI]), ht⟩, hS.F ht⟩) hS.2.2 dX5_in_18
  · have c_1 := fun h => c_1 ((lg_cmp_lt _ _).mpr h)
    refine lv_lload_n hx hb dX5_in_6 rfl (lv_at hl 0 rfl) ?_
    refine lv_lload hx hb dX5_in_7 (lv_at hl 2 rfl) ?_
    refine W.lcmp hx hb dX5_in_9 ?_
    refine lv_if_gt (tgt := 17) hx hb dX5_in_10 (by decide) (fun c_2 => ?_) (fun c_2 => ?_)
    · have c_2 := (lg_cmp_gt _ _).mp c_2
      refine lv_iconst (v := 0) hx hb dX5_in_17 (by decide) ?_
      exact W.zret (v := 0) hx hb hr rfl (fun t ht hW => ⟨⟨0, (), rfl, (by subst ha0 hb0 hc0; simp only [i64lt, i64le] at c_1 c_2; grind [bI]), ht⟩, hS.F ht⟩) hS.2.2 dX5_in_18
    · have c_2 := fun h => c_2 ((lg_cmp_gt _ _).mpr h)
      refine lv_iconst (v := 1) hx hb dX5_in_13 (by decide) ?_
      refine lv_goto (tgt := 18) hx hb dX5_in_14 (by decide) ?_
      exact W.zret (v := 1) hx hb hr rfl (fun t ht hW => ⟨⟨1, (), rfl, (by subst ha0 hb0 hc0; simp only [i64lt, i64le] at c_1 c_2; grind [bI]), ht⟩, hS.F ht⟩) hS.2.2 dX5_in_18
set_option maxHeartbeats 4000000 in
set_option maxRecDepth 100000 in
theorem kX5_no (l : Launch) (D : va_G) (cI cO : ClassId) (tt : Nat) (w : va_W) (H0 : Heap) (v0 : Int32)  : MpL l yX5_no wsX5_no ({ frames := 0, cells := 0, slots := 0, locals := 0 }) D cI cO tt (w) H0 [.int v0] ((-9223372036854775808) - v0.toInt64) := by
  refine Met.ofW (cc := cX5_no) (maxL := 1) (ret := (some .long)) (by decide) rfl ?_
  intro p e s m args below meth c s₁ B hml hv
  obtain ⟨rfl, rfl, hP, hK, hZ, hN⟩ := hv
  have hx := B.exec
  have hb := B.bytes
  have hr := B.returns
  have hts := atoms_spec (ws := wsX5_no) B.pre
  have hown : s.vm.findClass RX5 = some m.cls := findClass_of_methodNamed B.named
  have hlocks := B.notSynchronized
  have hS : va_S (fun _ => False) s.heap s.heap [] := va_S.rf
  have hl := lv_entry ([.int v0]) (n := 1) (Nat.le_of_ble_eq_true rfl)
  rw [lg_entry_eq]
  generalize (lg_sl ([.int v0]) ++ List.replicate (1 - (lg_sl ([.int v0])).length) Slot.unset).toArray = ls at hl ⊢
  have hl : lv_has ls 1 [(0, .int v0)] := hl
  have hw0 := hts (.constantLong RX5 51 (-9223372036854775808)) (List.mem_cons_of_mem _ ((List.mem_of_getElem? (i := 0) rfl)))
  refine lv_ldc2 hx hb hown hw0 dX5_no_0 ?_
  refine lv_iload_n hx hb dX5_no_3 rfl (lv_at hl 0 rfl) ?_
  refine lv_i2l hx hb dX5_no_4 rfl ?_
  refine lv_lsub hx hb dX5_no_5 ?_
  exact W.lret (v := (-9223372036854775808) - v0.toInt64) hx hb hr (fun t ht hW => ⟨⟨(-9223372036854775808) - v0.toInt64, (), rfl, (by rfl), ht⟩, hS.F ht⟩) hS.2.2 dX5_no_6
set_option maxHeartbeats 4000000 in
set_option maxRecDepth 100000 in
theorem kX5_amount (l : Launch) (D : va_G) (cI cO : ClassId) (tt : Nat) (w : va_W) (H0 : Heap) (x0 : Int64)  : MpL l yX5_amount wsX5_amount ({ frames := 0, cells := 0, slots := 0, locals := 0 }) D cI cO tt (w) H0 [.long x0] (amt x0) := by
  refine Met.ofW (cc := cX5_amount) (maxL := 2) (ret := (some .long)) (by decide) rfl ?_
  intro p e s m args below meth c s₁ B hml hv
  obtain ⟨rfl, rfl, hP, hK, hZ, hN⟩ := hv
  have hx := B.exec
  have hb := B.bytes
  have hr := B.returns
  have hts := atoms_spec (ws := wsX5_amount) B.pre
  have hown : s.vm.findClass RX5 = some m.cls := findClass_of_methodNamed B.named
  have hlocks := B.notSynchronized
  have hS : va_S (fun _ => False) s.heap s.heap [] := va_S.rf
  have hl := lv_entry ([.long x0]) (n := 2) (Nat.le_of_ble_eq_true rfl)
  rw [lg_entry_eq]
  generalize (lg_sl ([.long x0]) ++ List.replicate (2 - (lg_sl ([.long x0])).length) Slot.unset).toArray = ls at hl ⊢
  have hl : lv_has ls 2 [(0, .long x0)] := hl
  refine lv_lload_n hx hb dX5_amount_0 rfl (lv_at hl 0 rfl) ?_
  refine lv_lconst (v := 0) hx hb dX5_amount_1 (by decide) ?_
  refine W.lcmp hx hb dX5_amount_2 ?_
  refine lv_if_ge (tgt := 11) hx hb dX5_amount_3 (by decide) (fun c_1 => ?_) (fun c_1 => ?_)
  · have c_1 := (lg_cmp_ge _ _).mp c_1
    refine lv_lload_n hx hb dX5_amount_11 rfl (lv_at hl 0 rfl) ?_
    exact W.lret (v := x0) hx hb hr (fun t ht hW => ⟨⟨x0, (), rfl, (by grind [amt]), ht⟩, hS.F ht⟩) hS.2.2 dX5_amount_12
  · have c_1 := fun h => c_1 ((lg_cmp_ge _ _).mpr h)
    refine lv_lload_n hx hb dX5_amount_6 rfl (lv_at hl 0 rfl) ?_
    refine lv_lneg hx hb dX5_amount_7 ?_
    refine lv_goto (tgt := 12) hx hb dX5_amount_8 (by decide) ?_
    exact W.lret (v := -x0) hx hb hr (fun t ht hW => ⟨⟨-x0, (), rfl, (by grind [amt]), ht⟩, hS.F ht⟩) hS.2.2 dX5_amount_12
set_option maxHeartbeats 4000000 in
set_option maxRecDepth 100000 in
theorem kX5_told (l : Launch) (D : va_G) (cI cO : ClassId) (tt : Nat) (w : va_W) (H0 : Heap) (v0 : Int32)  : MpI l yX5_told wsX5_told ({ frames := 0, cells := 0, slots := 0, locals := 0 }) D cI cO tt (w) H0 [.int v0] (tl v0) := by
  refine Met.ofW (cc := cX5_told) (maxL := 1) (ret := (some .int)) (by decide) rfl ?_
  intro p e s m args below meth c s₁ B hml hv
  obtain ⟨rfl, rfl, hP, hK, hZ, hN⟩ := hv
  have hx := B.exec
  have hb := B.bytes
  have hr := B.returns
  have hts := atoms_spec (ws := wsX5_told) B.pre
  have hown : s.vm.findClass RX5 = some m.cls := findClass_of_methodNamed B.named
  have hlocks := B.notSynchronized
  have hS : va_S (fun _ => False) s.heap s.heap [] := va_S.rf
  have hl := lv_entry ([.int v0]) (n := 1) (Nat.le_of_ble_eq_true rfl)
  rw [lg_entry_eq]
  generalize (lg_sl ([.int v0]) ++ List.replicate (1 - (lg_sl ([.int v0])).length) Slot.unset).toArray = ls at hl ⊢
  have hl : lv_has ls 1 [(0, .int v0)] := hl
  refine lv_iload_n hx hb dX5_told_0 rfl (lv_at hl 0 rfl) ?_
  refine lv_bipush (v := (-128)) hx hb dX5_told_1 (by decide) ?_
  refine lv_icmp_le (tgt := 13) hx hb dX5_told_3 (by decide) (fun c_1 => ?_) (fun c_1 => ?_)
  · refine lv_bipush (v := (-128)) hx hb dX5_told_13 (by decide) ?_
    refine lv_goto (tgt := 19) hx hb dX5_told_15 (by decide) ?_
    exact W.iret (v := (-128)) hx hb hr (fun t ht hW => ⟨⟨(-128), (), rfl, (by grind [tl]), ht⟩, hS.F ht⟩) hS.2.2 dX5_told_19
  · refine lv_iload_n hx hb dX5_told_6 rfl (lv_at hl 0 rfl) ?_
    refine lv_sipush (v := 20000) hx hb dX5_told_7 (by decide) ?_
    refine lv_icmp_le (tgt := 18) hx hb dX5_told_10 (by decide) (fun c_2 => ?_) (fun c_2 => ?_)
    · refine lv_iload_n hx hb dX5_told_18 rfl (lv_at hl 0 rfl) ?_
      exact W.iret (v := v0) hx hb hr (fun t ht hW => ⟨⟨v0, (), rfl, (by grind [tl]), ht⟩, hS.F ht⟩) hS.2.2 dX5_told_19
    · refine lv_bipush (v := (-128)) hx hb dX5_told_13 (by decide) ?_
      refine lv_goto (tgt := 19) hx hb dX5_told_15 (by decide) ?_
      exact W.iret (v := (-128)) hx hb hr (fun t ht hW => ⟨⟨(-128), (), rfl, (by grind [tl]), ht⟩, hS.F ht⟩) hS.2.2 dX5_told_19
set_option maxHeartbeats 4000000 in
set_option maxRecDepth 100000 in
theorem kX5_isReel (l : Launch) (D : va_G) (cI cO : ClassId) (tt : Nat) (w : va_W) (H0 : Heap) (r0 : Int32)  : MpI l yX5_isReel wsX5_isReel ({ frames := 1, cells := 0, slots := 0, locals := 25 }) D cI cO tt (w) H0 [.int r0] (bI (0 ≤ r0 ∧ r0 < 8)) := by
  refine Met.ofW (cc := cX5_isReel) (maxL := 1) (ret := (some .boolean)) (by decide) rfl ?_
  intro p e s m args below meth c s₁ B hml hv
  obtain ⟨rfl, rfl, hP, hK, hZ, hN⟩ := hv
  have hx := B.exec
  have hb := B.bytes
  have hr := B.returns
  have hts := atoms_spec (ws := wsX5_isReel) B.pre
  have hown : s.vm.findClass RX5 = some m.cls := findClass_of_methodNamed B.named
  have hlocks := B.notSynchronized
  have hS : va_S (fun _ => False) s.heap s.heap [] := va_S.rf
  have hl := lv_entry ([.int r0]) (n := 1) (Nat.le_of_ble_eq_true rfl)
  rw [lg_entry_eq]
  generalize (lg_sl ([.int r0]) ++ List.replicate (1 - (lg_sl ([.int r0])).length) Slot.unset).toArray = ls at hl ⊢
  have hl : lv_has ls 1 [(0, .int r0)] := hl
  have hw0 := hts (.constantLong RX5 56 (7)) (List.mem_cons_of_mem _ ((List.mem_of_getElem? (i := 0) rfl)))
  refine lv_iload_n hx hb dX5_isReel_0 rfl (lv_at hl 0 rfl) ?_
  refine lv_i2l hx hb dX5_isReel_1 rfl ?_
  refine lv_lconst (v := 0) hx hb dX5_isReel_2 (by decide) ?_
  refine lv_ldc2 hx hb hown hw0 dX5_isReel_3 ?_
  refine pcI (va_runS (As := [.long r0.toInt64, .long 0, .long 7]) (rest := []) ⟨hx, hb, hml, hown, hts⟩ (kX5_in l D cI cO tt w s.heap r0 (0 : Int32) (7 : Int32) r0.toInt64 0 7 rfl (by decide) (by decide)) (va_cwS 3 hts gX5_isReel_X5_in rfl rfl rfl (by decide +kernel) ⟨(Nat.le_of_ble_eq_true rfl), (Nat.le_of_ble_eq_true rfl)⟩) (pwS hK hZ hN hP hS) rfl rfl hl.1 rfl (lv_room (Nat.le_of_ble_eq_true rfl)) dX5_isReel_6 ⟨Nat.zero_le _, Nat.zero_le _⟩) hS (fun locs hS => ?_)
  exact W.zret (v := bI ((0 : Int32) ≤ r0 ∧ r0 ≤ (7 : Int32))) hx hb hr bI_nar (fun t ht hW => ⟨⟨bI ((0 : Int32) ≤ r0 ∧ r0 ≤ (7 : Int32)), (), rfl, (by exact bI_iff (r78 r0)), ht⟩, hS.F ht⟩) hS.2.2 dX5_isReel_9
set_option maxHeartbeats 4000000 in
set_option maxRecDepth 100000 in
theorem kX5_isPing (l : Launch) (D : va_G) (cI cO : ClassId) (tt : Nat) (am : Nat → Nat) (g : Nat → Nat → Int32) (y : Nat → Int32) (zz : Nat → Int32) (j : Nat → Int64) (f : Nat → Int32) (v : Nat → Int32) (X : va_W) (H0 : Heap) (p0 : Int32) (hI : WI g) : MpI l yX5_isPing wsX5_isPing ({ frames := 1, cells := 0, slots := 0, locals := 25 }) D cI cO tt (MW am cI g y zz j f v X) H0 [.ref (am 0), .int p0] (bI (isP g p0)) := by
  refine Met.ofW (cc := cX5_isPing) (maxL := 2) (ret := (some .boolean)) (by decide) rfl ?_
  intro p e s m args below meth c s₁ B hml hv
  obtain ⟨rfl, rfl, hP, hK, hZ, hN⟩ := hv
  have hx := B.exec
  have hb := B.bytes
  have hr := B.returns
  have hts := atoms_spec (ws := wsX5_isPing) B.pre
  have hown : s.vm.findClass RX5 = some m.cls := findClass_of_methodNamed B.named
  have hlocks := B.notSynchronized
  have hS : va_S (fun _ => False) s.heap s.heap [] := va_S.rf
  have hl := lv_entry ([.ref (am 0), .int p0]) (n := 2) (Nat.le_of_ble_eq_true rfl)
  rw [lg_entry_eq]
  generalize (lg_sl ([.ref (am 0), .int p0]) ++ List.replicate (2 - (lg_sl ([.ref (am 0), .int p0])).length) Slot.unset).toArray = ls at hl ⊢
  have hl : lv_has ls 2 [(0, .ref (am 0)), (1, .int p0)] := hl
  have hw0 := hts (.fieldLink RX5 82 "LayerSounderModel" "pings" "I") (List.mem_cons_of_mem _ (List.mem_append_left _ (List.mem_of_getElem? (i := 0) rfl)))
  have iX5 : ∀ w ∈ wsX50, w ∈ wsX5_isPing := fun _ h => List.mem_cons_of_mem _ (List.mem_append_right _ h)
  refine lv_iload_n hx hb dX5_isPing_0 rfl (lv_at hl 1 rfl) ?_
  refine lv_i2l hx hb dX5_isPing_1 rfl ?_
  refine lv_lconst (v := 0) hx hb dX5_isPing_2 (by decide) ?_
  refine lv_aload_n hx hb dX5_isPing_3 rfl (lv_at hl 0 rfl) ?_
  refine va_get (D := D) (ci := 5) (v := .int (g 100 7)) (C := RX5) (T := TX5) (N := 31) hx hb hts iX5 hown hK hP 0 rfl rfl 8 (by decide) hw0 (fun _ h9 => h9) rfl dX5_isPing_4 ?_
  refine lv_iconst (v := 1) hx hb dX5_isPing_7 (by decide) ?_
  refine lv_isub hx hb dX5_isPing_8 ?_
  refine lv_i2l hx hb dX5_isPing_9 rfl ?_
  refine pcI (va_runS (As := [.long p0.toInt64, .long 0, .long (((g 100 7) - 1).toInt64)]) (rest := []) ⟨hx, hb, hml, hown, hts⟩ (kX5_in l D cI cO tt (MW am cI g y zz j f v X) s.heap p0 (0 : Int32) ((g 100 7) - 1) p0.toInt64 0 (((g 100 7) - 1).toInt64) rfl (by decide) rfl) (va_cwS 3 hts gX5_isPing_X5_in rfl rfl rfl (by decide +kernel) ⟨(Nat.le_of_ble_eq_true rfl), (Nat.le_of_ble_eq_true rfl)⟩) (pwS hK hZ hN hP hS) rfl rfl hl.1 rfl (lv_room (Nat.le_of_ble_eq_true rfl)) dX5_isPing_10 ⟨Nat.zero_le _, Nat.zero_le _⟩) hS (fun locs hS => ?_)
  exact W.zret (v := bI ((0 : Int32) ≤ p0 ∧ p0 ≤ ((g 100 7) - 1))) hx hb hr bI_nar (fun t ht hW => ⟨⟨bI ((0 : Int32) ≤ p0 ∧ p0 ≤ ((g 100 7) - 1)), (), rfl, (by exact bI_iff (pn1 hI p0)), ht⟩, hS.F ht⟩) hS.2.2 dX5_isPing_13
set_option maxHeartbeats 4000000 in
set_option maxRecDepth 100000 in
theorem kX5_isCell (l : Launch) (D : va_G) (cI cO : ClassId) (tt : Nat) (am : Nat → Nat) (g : Nat → Nat → Int32) (y : Nat → Int32) (zz : Nat → Int32) (j : Nat → Int64) (f : Nat → Int32) (v : Nat → Int32) (X : va_W) (H0 : Heap) (p0 : Int32) (c0 : Int32) (hI : WI g) : MpI l yX5_isCell wsX5_isCell ({ frames := 2, cells := 0, slots := 0, locals := 46 }) D cI cO tt (MW am cI g y zz j f v X) H0 [.ref (am 0), .int p0, .int c0] (bI (isP g p0 ∧ isC g c0)) := by
  refine Met.ofW (cc := cX5_isCell) (maxL := 3) (ret := (some .boolean)) (by decide) rfl ?_
  intro p e s m args below meth c s₁ B hml hv
  obtain ⟨rfl, rfl, hP, hK, hZ, hN⟩ := hv
  have hx := B.exec
  have hb := B.bytes
  have hr := B.returns
  have hts := atoms_spec (ws := wsX5_isCell) B.pre
  have hown : s.vm.findClass RX5 = some m.cls := findClass_of_methodNamed B.named
  have hlocks := B.notSynchronized
  have hS : va_S (fun _ => False) s.heap s.heap [] := va_S.rf
  have hl := lv_entry ([.ref (am 0), .int p0, .int c0]) (n := 3) (Nat.le_of_ble_eq_true rfl)
  rw [lg_entry_eq]
  generalize (lg_sl ([.ref (am 0), .int p0, .int c0]) ++ List.replicate (3 - (lg_sl ([.ref (am 0), .int p0, .int c0])).length) Slot.unset).toArray = ls at hl ⊢
  have hl : lv_has ls 3 [(0, .ref (am 0)), (1, .int p0), (2, .int c0)] := hl
  have hw0 := hts (.fieldLink RX5 28 "LayerSounderModel" "l" "I") (List.mem_cons_of_mem _ (List.mem_append_left _ (List.mem_of_getElem? (i := 0) rfl)))
  have iX5 : ∀ w ∈ wsX50, w ∈ wsX5_isCell := fun _ h => List.mem_cons_of_mem _ (List.mem_append_right _ h)
  refine lv_aload_n hx hb dX5_isCell_0 rfl (lv_at hl 0 rfl) ?_
  refine lv_iload_n hx hb dX5_isCell_1 rfl (lv_at hl 1 rfl) ?_
  refine pcI (va_runV (As := [.int p0]) (rest := []) ⟨hx, hb, hml, hown, hts⟩ (kX5_isPing l D cI cO tt am g y zz j f v X s.heap p0 hI) (cwV 1 hts gX5_isCell_X5_isPing rfl rfl rfl (by decide +kernel) ⟨(Nat.le_of_ble_eq_true rfl), (Nat.le_of_ble_eq_true rfl)⟩) (pwV hK hZ hN hP hS (va_recv hK hP (ci := 5) (q0 := 0) rfl rfl)) rfl rfl hl.1 rfl (lv_room (Nat.le_of_ble_eq_true rfl)) dX5_isCell_2 ⟨Nat.zero_le _, Nat.zero_le _⟩) hS (fun locs hS => ?_)
  refine lv_if_eq (tgt := 28) hx hb dX5_isCell_5 (by decide) (fun c_1 => ?_) (fun c_1 => ?_)
  · have c_1 := bI_0.mp c_1
    refine lv_iconst (v := 0) hx hb dX5_isCell_28 (by decide) ?_
    exact W.zret (v := 0) hx hb hr rfl (fun t ht hW => ⟨⟨0, (), rfl, (by grind [bI]), ht⟩, hS.F ht⟩) hS.2.2 dX5_isCell_29
  · have c_1 := bI_n0.mp c_1
    refine lv_iload_n hx hb dX5_isCell_8 rfl (lv_at hl 2 rfl) ?_
    refine lv_i2l hx hb dX5_isCell_9 rfl ?_
    refine lv_lconst (v := 0) hx hb dX5_isCell_10 (by decide) ?_
    refine lv_aload_n hx hb dX5_isCell_11 rfl (lv_at hl 0 rfl) ?_
    refine va_get (D := D) (ci := 5) (v := .int (g 100 0)) (C := RX5) (T := TX5) (N := 31) hx hb hts iX5 hown hK hP 0 rfl rfl 7 (by decide) hw0 (fun _ h9 => h9) rfl dX5_isCell_12 ?_
    refine lv_iconst (v := 1) hx hb dX5_isCell_15 (by decide) ?_
    refine lv_isub hx hb dX5_isCell_16 ?_
    refine lv_i2l hx hb dX5_isCell_17 rfl ?_
    refine pcI (va_runS (As := [.long c0.toInt64, .long 0, .long (((g 100 0) - 1).toInt64)]) (rest := []) ⟨hx, hb, hml, hown, hts⟩ (kX5_in l D cI cO tt (MW am cI g y zz j f v X) s.heap c0 (0 : Int32) ((g 100 0) - 1) c0.toInt64 0 (((g 100 0) - 1).toInt64) rfl (by decide) rfl) (va_cwS 3 hts gX5_isCell_X5_in rfl rfl rfl (by decide +kernel) ⟨(Nat.le_of_ble_eq_true rfl), (Nat.le_of_ble_eq_true rfl)⟩) (pwS hK hZ hN hP hS) rfl rfl hl.1 rfl (lv_room (Nat.le_of_ble_eq_true rfl)) dX5_isCell_18 ⟨Nat.zero_le _, Nat.zero_le _⟩) hS (fun locs hS => ?_)
    refine lv_if_eq (tgt := 28) hx hb dX5_isCell_21 (by decide) (fun c_2 => ?_) (fun c_2 => ?_)
    · have c_2 := bI_0.mp c_2
      refine lv_iconst (v := 0) hx hb dX5_isCell_28 (by decide) ?_
      exact W.zret (v := 0) hx hb hr rfl (fun t ht hW => ⟨⟨0, (), rfl, (by grind [bI]), ht⟩, hS.F ht⟩) hS.2.2 dX5_isCell_29
    · have c_2 := bI_n0.mp c_2
      refine lv_iconst (v := 1) hx hb dX5_isCell_24 (by decide) ?_
      refine lv_goto (tgt := 29) hx hb dX5_isCell_25 (by decide) ?_
      exact W.zret (v := 1) hx hb hr rfl (fun t ht hW => ⟨⟨1, (), rfl, (by grind [bI]), ht⟩, hS.F ht⟩) hS.2.2 dX5_isCell_29
set_option maxHeartbeats 4000000 in
set_option maxRecDepth 100000 in
theorem kX5_isRow (l : Launch) (D : va_G) (cI cO : ClassId) (tt : Nat) (am : Nat → Nat) (g : Nat → Nat → Int32) (y : Nat → Int32) (zz : Nat → Int32) (j : Nat → Int64) (f : Nat → Int32) (v : Nat → Int32) (X : va_W) (H0 : Heap) (p0 : Int32) (q0 : Int32) (hI : WI g) : MpI l yX5_isRow wsX5_isRow ({ frames := 2, cells := 0, slots := 0, locals := 46 }) D cI cO tt (MW am cI g y zz j f v X) H0 [.ref (am 0), .int p0, .int q0] (bI (isP g p0 ∧ isP g q0 ∧ p0 ≤ q0)) := by
  refine Met.ofW (cc := cX5_isRow) (maxL := 3) (ret := (some .boolean)) (by decide) rfl ?_
  intro p e s m args below meth c s₁ B hml hv
  obtain ⟨rfl, rfl, hP, hK, hZ, hN⟩ := hv
  have hx := B.exec
  have hb := B.bytes
  have hr := B.returns
  have hts := atoms_spec (ws := wsX5_isRow) B.pre
  have hown : s.vm.findClass RX5 = some m.cls := findClass_of_methodNamed B.named
  have hlocks := B.notSynchronized
  have hS : va_S (fun _ => False) s.heap s.heap [] := va_S.rf
  have hl := lv_entry ([.ref (am 0), .int p0, .int q0]) (n := 3) (Nat.le_of_ble_eq_true rfl)
  rw [lg_entry_eq]
  generalize (lg_sl ([.ref (am 0), .int p0, .int q0]) ++ List.replicate (3 - (lg_sl ([.ref (am 0), .int p0, .int q0])).length) Slot.unset).toArray = ls at hl ⊢
  have hl : lv_has ls 3 [(0, .ref (am 0)), (1, .int p0), (2, .int q0)] := hl
  refine lv_aload_n hx hb dX5_isRow_0 rfl (lv_at hl 0 rfl) ?_
  refine lv_iload_n hx hb dX5_isRow_1 rfl (lv_at hl 1 rfl) ?_
  refine pcI (va_runV (As := [.int p0]) (rest := []) ⟨hx, hb, hml, hown, hts⟩ (kX5_isPing l D cI cO tt am g y zz j f v X s.heap p0 hI) (cwV 1 hts gX5_isRow_X5_isPing rfl rfl rfl (by decide +kernel) ⟨(Nat.le_of_ble_eq_true rfl), (Nat.le_of_ble_eq_true rfl)⟩) (pwV hK hZ hN hP hS (va_recv hK hP (ci := 5) (q0 := 0) rfl rfl)) rfl rfl hl.1 rfl (lv_room (Nat.le_of_ble_eq_true rfl)) dX5_isRow_2 ⟨Nat.zero_le _, Nat.zero_le _⟩) hS (fun locs hS => ?_)
  refine lv_if_eq (tgt := 25) hx hb dX5_isRow_5 (by decide) (fun c_1 => ?_) (fun c_1 => ?_)
  · have c_1 := bI_0.mp c_1
    refine lv_iconst (v := 0) hx hb dX5_isRow_25 (by decide) ?_
    exact W.zret (v := 0) hx hb hr rfl (fun t ht hW => ⟨⟨0, (), rfl, (by grind [bI]), ht⟩, hS.F ht⟩) hS.2.2 dX5_isRow_26
  · have c_1 := bI_n0.mp c_1
    refine lv_aload_n hx hb dX5_isRow_8 rfl (lv_at hl 0 rfl) ?_
    refine lv_iload_n hx hb dX5_isRow_9 rfl (lv_at hl 2 rfl) ?_
    refine pcI (va_runV (As := [.int q0]) (rest := []) ⟨hx, hb, hml, hown, hts⟩ (kX5_isPing l D cI cO tt am g y zz j f v X s.heap q0 hI) (cwV 1 hts gX5_isRow_X5_isPing rfl rfl rfl (by decide +kernel) ⟨(Nat.le_of_ble_eq_true rfl), (Nat.le_of_ble_eq_true rfl)⟩) (pwV hK hZ hN hP hS (va_recv hK hP (ci := 5) (q0 := 0) rfl rfl)) rfl rfl hl.1 rfl (lv_room (Nat.le_of_ble_eq_true rfl)) dX5_isRow_10 ⟨Nat.zero_le _, Nat.zero_le _⟩) hS (fun locs hS => ?_)
    refine lv_if_eq (tgt := 25) hx hb dX5_isRow_13 (by decide) (fun c_2 => ?_) (fun c_2 => ?_)
    · have c_2 := bI_0.mp c_2
      refine lv_iconst (v := 0) hx hb dX5_isRow_25 (by decide) ?_
      exact W.zret (v := 0) hx hb hr rfl (fun t ht hW => ⟨⟨0, (), rfl, (by grind [bI]), ht⟩, hS.F ht⟩) hS.2.2 dX5_isRow_26
    · have c_2 := bI_n0.mp c_2
      refine lv_iload_n hx hb dX5_isRow_16 rfl (lv_at hl 1 rfl) ?_
      refine lv_iload_n hx hb dX5_isRow_17 rfl (lv_at hl 2 rfl) ?_
      refine lv_icmp_gt (tgt := 25) hx hb dX5_isRow_18 (by decide) (fun c_3 => ?_) (fun c_3 => ?_)
      · refine lv_iconst (v := 0) hx hb dX5_isRow_25 (by decide) ?_
        exact W.zret (v := 0) hx hb hr rfl (fun t ht hW => ⟨⟨0, (), rfl, (by grind [bI]), ht⟩, hS.F ht⟩) hS.2.2 dX5_isRow_26
      · refine lv_iconst (v := 1) hx hb dX5_isRow_21 (by decide) ?_
        refine lv_goto (tgt := 26) hx hb dX5_isRow_22 (by decide) ?_
        exact W.zret (v := 1) hx hb hr rfl (fun t ht hW => ⟨⟨1, (), rfl, (by grind [bI]), ht⟩, hS.F ht⟩) hS.2.2 dX5_isRow_26
set_option maxHeartbeats 4000000 in
set_option maxRecDepth 100000 in
theorem kX5_isBox (l : Launch) (D : va_G) (cI cO : ClassId) (tt : Nat) (am : Nat → Nat) (g : Nat → Nat → Int32) (y : Nat → Int32) (zz : Nat → Int32) (j : Nat → Int64) (f : Nat → Int32) (v : Nat → Int32) (X : va_W) (H0 : Heap) (p0 : Int32) (q0 : Int32) (c0 : Int32) (e0 : Int32) (hI : WI g) : MpI l yX5_isBox wsX5_isBox ({ frames := 3, cells := 0, slots := 0, locals := 68 }) D cI cO tt (MW am cI g y zz j f v X) H0 [.ref (am 0), .int p0, .int q0, .int c0, .int e0] (bI (bxOk g p0 q0 c0 e0)) := by
  refine Met.ofW (cc := cX5_isBox) (maxL := 5) (ret := (some .boolean)) (by decide) rfl ?_
  intro p e s m args below meth c s₁ B hml hv
  obtain ⟨rfl, rfl, hP, hK, hZ, hN⟩ := hv
  have hx := B.exec
  have hb := B.bytes
  have hr := B.returns
  have hts := atoms_spec (ws := wsX5_isBox) B.pre
  have hown : s.vm.findClass RX5 = some m.cls := findClass_of_methodNamed B.named
  have hlocks := B.notSynchronized
  have hS : va_S (fun _ => False) s.heap s.heap [] := va_S.rf
  have hl := lv_entry ([.ref (am 0), .int p0, .int q0, .int c0, .int e0]) (n := 5) (Nat.le_of_ble_eq_true rfl)
  rw [lg_entry_eq]
  generalize (lg_sl ([.ref (am 0), .int p0, .int q0, .int c0, .int e0]) ++ List.replicate (5 - (lg_sl ([.ref (am 0), .int p0, .int q0, .int c0, .int e0])).length) Slot.unset).toArray = ls at hl ⊢
  have hl : lv_has ls 5 [(0, .ref (am 0)), (1, .int p0), (2, .int q0), (3, .int c0), (4, .int e0)] := hl
  have hw0 := hts (.fieldLink RX5 28 "LayerSounderModel" "l" "I") (List.mem_cons_of_mem _ (List.mem_append_left _ (List.mem_of_getElem? (i := 0) rfl)))
  have iX5 : ∀ w ∈ wsX50, w ∈ wsX5_isBox := fun _ h => List.mem_cons_of_mem _ (List.mem_append_right _ h)
  refine lv_aload_n hx hb dX5_isBox_0 rfl (lv_at hl 0 rfl) ?_
  refine lv_iload_n hx hb dX5_isBox_1 rfl (lv_at hl 1 rfl) ?_
  refine lv_iload_n hx hb dX5_isBox_2 rfl (lv_at hl 2 rfl) ?_
  refine pcI (va_runV (As := [.int p0, .int q0]) (rest := []) ⟨hx, hb, hml, hown, hts⟩ (kX5_isRow l D cI cO tt am g y zz j f v X s.heap p0 q0 hI) (cwV 2 hts gX5_isBox_X5_isRow rfl rfl rfl (by decide +kernel) ⟨(Nat.le_of_ble_eq_true rfl), (Nat.le_of_ble_eq_true rfl)⟩) (pwV hK hZ hN hP hS (va_recv hK hP (ci := 5) (q0 := 0) rfl rfl)) rfl rfl hl.1 rfl (lv_room (Nat.le_of_ble_eq_true rfl)) dX5_isBox_3 ⟨Nat.zero_le _, Nat.zero_le _⟩) hS (fun locs hS => ?_)
  refine lv_if_eq (tgt := 47) hx hb dX5_isBox_6 (by decide) (fun c_1 => ?_) (fun c_1 => ?_)
  · have c_1 := bI_0.mp c_1
    refine lv_iconst (v := 0) hx hb dX5_isBox_47 (by decide) ?_
    exact W.zret (v := 0) hx hb hr rfl (fun t ht hW => ⟨⟨0, (), rfl, (by grind [bI]), ht⟩, hS.F ht⟩) hS.2.2 dX5_isBox_48
  · have c_1 := bI_n0.mp c_1
    refine lv_iload_n hx hb dX5_isBox_9 rfl (lv_at hl 3 rfl) ?_
    refine lv_i2l hx hb dX5_isBox_10 rfl ?_
    refine lv_lconst (v := 0) hx hb dX5_isBox_11 (by decide) ?_
    refine lv_aload_n hx hb dX5_isBox_12 rfl (lv_at hl 0 rfl) ?_
    refine va_get (D := D) (ci := 5) (v := .int (g 100 0)) (C := RX5) (T := TX5) (N := 31) hx hb hts iX5 hown hK hP 0 rfl rfl 7 (by decide) hw0 (fun _ h9 => h9) rfl dX5_isBox_13 ?_
    refine lv_iconst (v := 1) hx hb dX5_isBox_16 (by decide) ?_
    refine lv_isub hx hb dX5_isBox_17 ?_
    refine lv_i2l hx hb dX5_isBox_18 rfl ?_
    refine pcI (va_runS (As := [.long c0.toInt64, .long 0, .long (((g 100 0) - 1).toInt64)]) (rest := []) ⟨hx, hb, hml, hown, hts⟩ (kX5_in l D cI cO tt (MW am cI g y zz j f v X) s.heap c0 (0 : Int32) ((g 100 0) - 1) c0.toInt64 0 (((g 100 0) - 1).toInt64) rfl (by decide) rfl) (va_cwS 3 hts gX5_isBox_X5_in rfl rfl rfl (by decide +kernel) ⟨(Nat.le_of_ble_eq_true rfl), (Nat.le_of_ble_eq_true rfl)⟩) (pwS hK hZ hN hP hS) rfl rfl hl.1 rfl (lv_room (Nat.le_of_ble_eq_true rfl)) dX5_isBox_19 ⟨Nat.zero_le _, Nat.zero_le _⟩) hS (fun locs hS => ?_)
    refine lv_if_eq (tgt := 47) hx hb dX5_isBox_22 (by decide) (fun c_2 => ?_) (fun c_2 => ?_)
    · have c_2 := bI_0.mp c_2
      refine lv_iconst (v := 0) hx hb dX5_isBox_47 (by decide) ?_
      exact W.zret (v := 0) hx hb hr rfl (fun t ht hW => ⟨⟨0, (), rfl, (by grind [bI]), ht⟩, hS.F ht⟩) hS.2.2 dX5_isBox_48
    · have c_2 := bI_n0.mp c_2
      refine lv_iload hx hb dX5_isBox_25 (lv_at hl 4 rfl) ?_
      refine lv_i2l hx hb dX5_isBox_27 rfl ?_
      refine lv_iload_n hx hb dX5_isBox_28 rfl (lv_at hl 3 rfl) ?_
      refine lv_i2l hx hb dX5_isBox_29 rfl ?_
      refine lv_aload_n hx hb dX5_isBox_30 rfl (lv_at hl 0 rfl) ?_
      refine va_get (D := D) (ci := 5) (v := .int (g 100 0)) (C := RX5) (T := TX5) (N := 31) hx hb hts iX5 hown hK hP 0 rfl rfl 7 (by decide) hw0 (fun _ h9 => h9) rfl dX5_isBox_31 ?_
      refine lv_iconst (v := 1) hx hb dX5_isBox_34 (by decide) ?_
      refine lv_isub hx hb dX5_isBox_35 ?_
      refine lv_i2l hx hb dX5_isBox_36 rfl ?_
      refine pcI (va_runS (As := [.long e0.toInt64, .long c0.toInt64, .long (((g 100 0) - 1).toInt64)]) (rest := []) ⟨hx, hb, hml, hown, hts⟩ (kX5_in l D cI cO tt (MW am cI g y zz j f v X) s.heap e0 c0 ((g 100 0) - 1) e0.toInt64 c0.toInt64 (((g 100 0) - 1).toInt64) rfl rfl rfl) (va_cwS 3 hts gX5_isBox_X5_in rfl rfl rfl (by decide +kernel) ⟨(Nat.le_of_ble_eq_true rfl), (Nat.le_of_ble_eq_true rfl)⟩) (pwS hK hZ hN hP hS) rfl rfl hl.1 rfl (lv_room (Nat.le_of_ble_eq_true rfl)) dX5_isBox_37 ⟨Nat.zero_le _, Nat.zero_le _⟩) hS (fun locs hS => ?_)
      refine lv_if_eq (tgt := 47) hx hb dX5_isBox_40 (by decide) (fun c_3 => ?_) (fun c_3 => ?_)
      · have c_3 := bI_0.mp c_3
        refine lv_iconst (v := 0) hx hb dX5_isBox_47 (by decide) ?_
        exact W.zret (v := 0) hx hb hr rfl (fun t ht hW => ⟨⟨0, (), rfl, (by grind [bI]), ht⟩, hS.F ht⟩) hS.2.2 dX5_isBox_48
      · have c_3 := bI_n0.mp c_3
        refine lv_iconst (v := 1) hx hb dX5_isBox_43 (by decide) ?_
        refine lv_goto (tgt := 48) hx hb dX5_isBox_44 (by decide) ?_
        exact W.zret (v := 1) hx hb hr rfl (fun t ht hW => ⟨⟨1, (), rfl, (by grind [bI]), ht⟩, hS.F ht⟩) hS.2.2 dX5_isBox_48
set_option maxHeartbeats 4000000 in
set_option maxRecDepth 100000 in
theorem kX5_reading (l : Launch) (D : va_G) (cI cO : ClassId) (tt : Nat) (am : Nat → Nat) (g : Nat → Nat → Int32) (y : Nat → Int32) (zz : Nat → Int32) (j : Nat → Int64) (f : Nat → Int32) (v : Nat → Int32) (X : va_W) (H0 : Heap) (r0 : Int32) (i0 : Int32) (rr : Nat) (hrr : rr < 8) (he : r0 = nI rr) (hi0 : 0 ≤ i0) (hI : WI g) (hM : RM g y zz) : MpI l yX5_reading wsX5_reading ({ frames := 1, cells := 0, slots := 0, locals := 20 }) D cI cO tt (MW am cI g y zz j f v X) H0 [.ref (am 0), .int r0, .int i0] (tl (rdC g rr i0)) := by
  refine Met.ofW (cc := cX5_reading) (maxL := 3) (ret := (some .int)) (by decide) rfl ?_
  intro p e s m args below meth c s₁ B hml hv
  obtain ⟨rfl, rfl, hP, hK, hZ, hN⟩ := hv
  have hx := B.exec
  have hb := B.bytes
  have hr := B.returns
  have hts := atoms_spec (ws := wsX5_reading) B.pre
  have hown : s.vm.findClass RX5 = some m.cls := findClass_of_methodNamed B.named
  have hlocks := B.notSynchronized
  have hS : va_S (fun _ => False) s.heap s.heap [] := va_S.rf
  have hl := lv_entry ([.ref (am 0), .int r0, .int i0]) (n := 3) (Nat.le_of_ble_eq_true rfl)
  rw [lg_entry_eq]
  generalize (lg_sl ([.ref (am 0), .int r0, .int i0]) ++ List.replicate (3 - (lg_sl ([.ref (am 0), .int r0, .int i0])).length) Slot.unset).toArray = ls at hl ⊢
  have hl : lv_has ls 3 [(0, .ref (am 0)), (1, .int r0), (2, .int i0)] := hl
  have hw0 := hts (.fieldLink RX5 16 "LayerSounderModel" "forms" "[I") (List.mem_cons_of_mem _ (List.mem_append_left _ (List.mem_of_getElem? (i := 0) rfl)))
  have iX5 : ∀ w ∈ wsX50, w ∈ wsX5_reading := fun _ h => List.mem_cons_of_mem _ (List.mem_append_right _ h)
  have hw2 := hts (.fieldLink RX5 19 "LayerSounderModel" "sizes" "[I") (List.mem_cons_of_mem _ (List.mem_append_left _ (List.mem_of_getElem? (i := 1) rfl)))
  have hw3 := hts (.fieldLink RX5 22 "LayerSounderModel" "items" "[I") (List.mem_cons_of_mem _ (List.mem_append_left _ (List.mem_of_getElem? (i := 2) rfl)))
  refine lv_aload_n hx hb dX5_reading_0 rfl (lv_at hl 0 rfl) ?_
  refine va_get (D := D) (ci := 5) (v := .ref (am 3)) (C := RX5) (T := TX5) (N := 31) hx hb hts iX5 hown hK hP 0 rfl rfl 2 (by decide) hw0 (fun _ h9 => h9) rfl dX5_reading_1 ?_
  refine lv_iload_n hx hb dX5_reading_4 rfl (lv_at hl 1 rfl) ?_
  refine va_iald hx hb hK hP 3 0 rfl rfl (rl_vin hrr he) dX5_reading_5 ?_
  refine tpI (y := g 4 rr) (by rw [he, nI_clamp (by omega)]) ?_
  refine lv_if_lt (tgt := 19) hx hb dX5_reading_6 (by decide) (fun c_1 => ?_) (fun c_1 => ?_)
  · refine lv_bipush (v := (-128)) hx hb dX5_reading_19 (by decide) ?_
    refine lv_goto (tgt := 39) hx hb dX5_reading_21 (by decide) ?_
    exact W.iret (v := (-128)) hx hb hr (fun t ht hW => ⟨⟨(-128), (), rfl, (by exact rd_1 hI hrr hi0 c_1), ht⟩, hS.F ht⟩) hS.2.2 dX5_reading_39
  · refine lv_iload_n hx hb dX5_reading_9 rfl (lv_at hl 2 rfl) ?_
    refine lv_aload_n hx hb dX5_reading_10 rfl (lv_at hl 0 rfl) ?_
    refine va_get (D := D) (ci := 5) (v := .ref (am 4)) (C := RX5) (T := TX5) (N := 31) hx hb hts iX5 hown hK hP 0 rfl rfl 3 (by decide) hw2 (fun _ h9 => h9) rfl dX5_reading_11 ?_
    refine lv_iload_n hx hb dX5_reading_14 rfl (lv_at hl 1 rfl) ?_
    refine va_iald hx hb hK hP 4 0 rfl rfl (rl_vin hrr he) dX5_reading_15 ?_
    refine tpI (y := zz rr) (by rw [he, nI_clamp (by omega)]) ?_
    refine lv_icmp_lt (tgt := 24) hx hb dX5_reading_16 (by decide) (fun c_2 => ?_) (fun c_2 => ?_)
    · refine lv_aload_n hx hb dX5_reading_24 rfl (lv_at hl 0 rfl) ?_
      refine va_get (D := D) (ci := 5) (v := .ref (am 5)) (C := RX5) (T := TX5) (N := 31) hx hb hts iX5 hown hK hP 0 rfl rfl 4 (by decide) hw3 (fun _ h9 => h9) rfl dX5_reading_25 ?_
      refine lv_sipush (v := 200) hx hb dX5_reading_28 (by decide) ?_
      refine lv_iload_n hx hb dX5_reading_31 rfl (lv_at hl 1 rfl) ?_
      refine lv_imul hx hb dX5_reading_32 ?_
      refine lv_iload_n hx hb dX5_reading_33 rfl (lv_at hl 2 rfl) ?_
      refine lv_iadd hx hb dX5_reading_34 ?_
      refine va_iald hx hb hK hP 5 0 rfl rfl (rd_i hM hrr he hi0 c_2).1 dX5_reading_35 ?_
      refine tpI (y := g (10 + rr) (rn i0)) ((rd_i hM hrr he hi0 c_2).2.1) ?_
      refine pcI (va_runS (As := [.int (g (10 + rr) (rn i0))]) (rest := []) ⟨hx, hb, hml, hown, hts⟩ (kX5_told l D cI cO tt (MW am cI g y zz j f v X) s.heap (g (10 + rr) (rn i0)) ) (va_cwS 1 hts gX5_reading_X5_told rfl rfl rfl (by decide +kernel) ⟨(Nat.le_of_ble_eq_true rfl), (Nat.le_of_ble_eq_true rfl)⟩) (pwS hK hZ hN hP hS) rfl rfl hl.1 rfl (lv_room (Nat.le_of_ble_eq_true rfl)) dX5_reading_36 ⟨Nat.zero_le _, Nat.zero_le _⟩) hS (fun locs hS => ?_)
      exact W.iret (v := tl (g (10 + rr) (rn i0))) hx hb hr (fun t ht hW => ⟨⟨tl (g (10 + rr) (rn i0)), (), rfl, (by exact rd_3 hM hrr hi0 c_1 c_2), ht⟩, hS.F ht⟩) hS.2.2 dX5_reading_39
    · refine lv_bipush (v := (-128)) hx hb dX5_reading_19 (by decide) ?_
      refine lv_goto (tgt := 39) hx hb dX5_reading_21 (by decide) ?_
      exact W.iret (v := (-128)) hx hb hr (fun t ht hW => ⟨⟨(-128), (), rfl, (by exact rd_2 hM hrr c_1 c_2), ht⟩, hS.F ht⟩) hS.2.2 dX5_reading_39
set_option maxHeartbeats 4000000 in
set_option maxRecDepth 100000 in
theorem kX5_met (l : Launch) (D : va_G) (cI cO : ClassId) (tt : Nat) (am : Nat → Nat) (g : Nat → Nat → Int32) (y : Nat → Int32) (zz : Nat → Int32) (j : Nat → Int64) (f : Nat → Int32) (v : Nat → Int32) (X : va_W) (sz : Nat) (f0 : Int32)  : MmI l yX5_met wsX5_met ({ frames := 0, cells := 0, slots := 0, locals := 0 }) D cI cO tt (MW am cI g y zz j f v X) sz [.ref (am 0), .int f0] (S := Nat → Nat → Int32) (fun u => MW am cI u y zz j f v X) (fun z u => z = -10 - f0 ∧ u = up2 g 100 6 f0) := by
  refine Met.ofW (cc := cX5_met) (maxL := 2) (ret := (some .int)) (by decide) rfl ?_
  intro p e s m args below meth c s₁ B hml hv
  obtain ⟨rfl, hsz, hP, hK, hD0, hZ, hN⟩ := hv
  have hx := B.exec
  have hb := B.bytes
  have hr := B.returns
  have hts := atoms_spec (ws := wsX5_met) B.pre
  have hown : s.vm.findClass RX5 = some m.cls := findClass_of_methodNamed B.named
  have hlocks := B.notSynchronized
  subst hsz
  have hD := hD0.self (sz := s.heap.size)
  generalize hAe : va_A (MW am cI g y zz j f v X) s.heap.size = A at hD hZ ⊢
  have hA : ∀ q : Nat, s.heap.size ≤ q → A q := fun q h => by rw [← hAe]; exact Or.inr h
  have hS : va_S A s.heap s.heap [] := va_S.rf
  have hl := lv_entry ([.ref (am 0), .int f0]) (n := 2) (Nat.le_of_ble_eq_true rfl)
  rw [lg_entry_eq]
  generalize (lg_sl ([.ref (am 0), .int f0]) ++ List.replicate (2 - (lg_sl ([.ref (am 0), .int f0])).length) Slot.unset).toArray = ls at hl ⊢
  have hl : lv_has ls 2 [(0, .ref (am 0)), (1, .int f0)] := hl
  have hw0 := hts (.fieldLink RX5 53 "LayerSounderModel" "latest" "I") (List.mem_cons_of_mem _ (List.mem_append_left _ (List.mem_of_getElem? (i := 0) rfl)))
  have iX5 : ∀ w ∈ wsX50, w ∈ wsX5_met := fun _ h => List.mem_cons_of_mem _ (List.mem_append_right _ h)
  refine lv_aload_n hx hb dX5_met_0 rfl (lv_at hl 0 rfl) ?_
  refine lv_iload_n hx hb dX5_met_1 rfl (lv_at hl 1 rfl) ?_
  refine va_put (D := D) (ci := 5) (v := .int f0) (C := RX5) (T := TX5) (N := 31) hx hb hts iX5 tyX5 tyX5_ok nmX5 hown hK hP hD hS 0 rfl rfl 6 (by decide) hw0 (fun _ h9 => h9) rfl (tyX5_ok 6 (by decide)) rfl rfl (Nat.le_of_ble_eq_true rfl) dX5_met_2 (fun H locs hP hD hS => ?_)
  have hP : va_P D vwCl (MW am cI (up2 g 100 6 f0) y zz j f v X) H := hP
  have hD : va_D A (MW am cI (up2 g 100 6 f0) y zz j f v X) := hD
  refine lv_bipush (v := (-10)) hx hb dX5_met_5 (by decide) ?_
  refine lv_iload_n hx hb dX5_met_7 rfl (lv_at hl 1 rfl) ?_
  refine lv_isub hx hb dX5_met_8 ?_
  exact W.iret (v := (-10) - f0) hx hb hr (fun t ht hW => ⟨⟨(-10) - f0, up2 g 100 6 f0, rfl, (by exact ⟨rfl, rfl⟩), by rw [ht]; exact hP, hD⟩, hS.F ht⟩) hS.2.2 dX5_met_9
set_option maxHeartbeats 4000000 in
set_option maxRecDepth 100000 in
theorem kX5_turn (l : Launch) (D : va_G) (cI cO : ClassId) (tt : Nat) (am : Nat → Nat) (g : Nat → Nat → Int32) (y : Nat → Int32) (zz : Nat → Int32) (j : Nat → Int64) (f : Nat → Int32) (v : Nat → Int32) (X : va_W) (sz : Nat) (x0 : Int64) (y0 : Int64) (t0 : Int32) (ht0 : 0 ≤ t0 ∧ t0 < 36) : MmV l yX5_turn wsX5_turn ({ frames := 0, cells := 0, slots := 0, locals := 0 }) D cI cO tt (MW am cI g y zz j f v X) sz [.ref (am 0), .long x0, .long y0, .int t0] (S := Nat → Int64) (fun u => MW am cI g y zz u f v X) (fun u => jP j (xT x0 y0 t0) (yT x0 y0 t0) u) := by
  refine Met.ofW (cc := cX5_turn) (maxL := 13) (ret := none) (by decide) rfl ?_
  intro p e s m args below meth c s₁ B hml hv
  obtain ⟨rfl, hsz, hP, hK, hD0, hZ, hN⟩ := hv
  have hx := B.exec
  have hb := B.bytes
  have hr := B.returns
  have hts := atoms_spec (ws := wsX5_turn) B.pre
  have hown : s.vm.findClass RX5 = some m.cls := findClass_of_methodNamed B.named
  have hlocks := B.notSynchronized
  subst hsz
  have hD := hD0.self (sz := s.heap.size)
  generalize hAe : va_A (MW am cI g y zz j f v X) s.heap.size = A at hD hZ ⊢
  have hA : ∀ q : Nat, s.heap.size ≤ q → A q := fun q h => by rw [← hAe]; exact Or.inr h
  have hS : va_S A s.heap s.heap [] := va_S.rf
  have hl := lv_entry ([.ref (am 0), .long x0, .long y0, .int t0]) (n := 13) (Nat.le_of_ble_eq_true rfl)
  rw [lg_entry_eq]
  generalize (lg_sl ([.ref (am 0), .long x0, .long y0, .int t0]) ++ List.replicate (13 - (lg_sl ([.ref (am 0), .long x0, .long y0, .int t0])).length) Slot.unset).toArray = ls at hl ⊢
  have hl : lv_has ls 13 [(0, .ref (am 0)), (1, .long x0), (3, .long y0), (5, .int t0)] := hl
  obtain ⟨B, hB, eB⟩ := n36 ht0.1 ht0.2
  have hw0 := hts (.fieldLink RX5 7 "LayerSounderModel" "cs" "[I") (List.mem_cons_of_mem _ (List.mem_append_left _ (List.mem_of_getElem? (i := 0) rfl)))
  have iX5 : ∀ w ∈ wsX50, w ∈ wsX5_turn := fun _ h => List.mem_cons_of_mem _ (List.mem_append_right _ h)
  have hw2 := hts (.fieldLink RX5 13 "LayerSounderModel" "ss" "[I") (List.mem_cons_of_mem _ (List.mem_append_left _ (List.mem_of_getElem? (i := 1) rfl)))
  have hw3 := hts (.fieldLink RX5 97 "LayerSounderModel" "turnedX" "J") (List.mem_cons_of_mem _ (List.mem_append_left _ (List.mem_of_getElem? (i := 2) rfl)))
  have hw4 := hts (.fieldLink RX5 101 "LayerSounderModel" "turnedY" "J") (List.mem_cons_of_mem _ (List.mem_append_left _ (List.mem_of_getElem? (i := 3) rfl)))
  refine lv_aload_n hx hb dX5_turn_0 rfl (lv_at hl 0 rfl) ?_
  refine va_get (D := D) (ci := 5) (v := .ref (am 1)) (C := RX5) (T := TX5) (N := 31) hx hb hts iX5 hown hK hP 0 rfl rfl 0 (by decide) hw0 (fun _ h9 => h9) rfl dX5_turn_1 ?_
  refine lv_iload hx hb dX5_turn_4 (lv_at hl 3 rfl) ?_
  refine lv_bipush (v := 9) hx hb dX5_turn_6 (by decide) ?_
  refine lv_irem hx hb dX5_turn_8 (by decide) ?_
  refine tpI (y := nI (B % 9)) (by rw [eB]; exact (b9 hB).1) ?_
  refine va_iald hx hb hK hP 1 0 rfl rfl (vp_in_nI (Nat.mod_lt _ (by decide)) (by decide)) dX5_turn_9 ?_
  refine tpI (y := c9 (B % 9)) (by rw [nI_clamp (by omega)]) ?_
  refine lv_i2l hx hb dX5_turn_10 rfl ?_
  refine lv_lstore (lv' := [(6, .long ((c9 (B % 9)).toInt64)), (0, .ref (am 0)), (1, .long x0), (3, .long y0), (5, .int t0)]) hx hb dX5_turn_11 hl (by decide) rfl (fun ls hl => ?_)
  refine lv_aload_n hx hb dX5_turn_13 rfl (lv_at hl 1 rfl) ?_
  refine va_get (D := D) (ci := 5) (v := .ref (am 2)) (C := RX5) (T := TX5) (N := 31) hx hb hts iX5 hown hK hP 0 rfl rfl 1 (by decide) hw2 (fun _ h9 => h9) rfl dX5_turn_14 ?_
  refine lv_iload hx hb dX5_turn_17 (lv_at hl 4 rfl) ?_
  refine lv_bipush (v := 9) hx hb dX5_turn_19 (by decide) ?_
  refine lv_irem hx hb dX5_turn_21 (by decide) ?_
  refine tpI (y := nI (B % 9)) (by rw [eB]; exact (b9 hB).1) ?_
  refine va_iald hx hb hK hP 2 0 rfl rfl (vp_in_nI (Nat.mod_lt _ (by decide)) (by decide)) dX5_turn_22 ?_
  refine tpI (y := s9 (B % 9)) (by rw [nI_clamp (by omega)]) ?_
  refine lv_i2l hx hb dX5_turn_23 rfl ?_
  refine lv_lstore (lv' := [(8, .long ((s9 (B % 9)).toInt64)), (6, .long ((c9 (B % 9)).toInt64)), (0, .ref (am 0)), (1, .long x0), (3, .long y0), (5, .int t0)]) hx hb dX5_turn_24 hl (by decide) rfl (fun ls hl => ?_)
  refine lv_iconst (v := 0) hx hb dX5_turn_26 (by decide) ?_
  refine lv_istore (lv' := [(10, .int 0), (8, .long ((s9 (B % 9)).toInt64)), (6, .long ((c9 (B % 9)).toInt64)), (0, .ref (am 0)), (1, .long x0), (3, .long y0), (5, .int t0)]) hx hb dX5_turn_27 hl (by decide) rfl (fun ls hl => ?_)
  refine wloop (D := D) (A := A) (σ := Nat × Int64 × Int64) (pc := 29) (nL := 13) (fun z_1 => [(10, .int (nI z_1.1)), (8, .long z_1.2.2), (6, .long z_1.2.1), (0, .ref (am 0)), (1, .long x0), (3, .long y0), (5, .int t0)]) (fun z_1 => MW am cI g y zz j f v X) (fun z_1 => z_1.1 ≤ B / 9 ∧ (z_1.2.1, z_1.2.2) = rt B z_1.1) (fun z_1 => B / 9 - z_1.1) (fun z_1 hIz_1 ihz_1 H locs ls hP hD hS hl => ?_) (0, (c9 (B % 9)).toInt64, (s9 (B % 9)).toInt64) (⟨Nat.zero_le _, rfl⟩) _ _ _ hP hD hS (lv_sub hl [0, 1, 2, 3, 4, 5, 6] rfl)
  obtain ⟨i, cv, sv⟩ := z_1
  have hP : va_P D vwCl (MW am cI g y zz j f v X) H := hP
  have hD : va_D A (MW am cI g y zz j f v X) := hD
  have hl : lv_has ls 13 [(10, .int (nI i)), (8, .long sv), (6, .long cv), (0, .ref (am 0)), (1, .long x0), (3, .long y0), (5, .int t0)] := hl
  have hIz_1 : i ≤ B / 9 ∧ (cv, sv) = rt B i := hIz_1
  refine lv_iload hx hb dX5_turn_29 (lv_at hl 0 rfl) ?_
  refine lv_iload hx hb dX5_turn_31 (lv_at hl 6 rfl) ?_
  refine lv_bipush (v := 9) hx hb dX5_turn_33 (by decide) ?_
  refine lv_idiv hx hb dX5_turn_35 (by decide) ?_
  refine tpI (y := nI (B / 9)) (by rw [eB]; exact (b9 hB).2) ?_
  refine lv_icmp_ge (tgt := 58) hx hb dX5_turn_36 (by decide) (fun c_2 => ?_) (fun c_2 => ?_)
  · have hi9 : i = B / 9 := by
      have z := (nI_leI (by omega) (by omega)).mp c_2
      have z2 := hIz_1.1
      omega
    refine lv_aload_n hx hb dX5_turn_58 rfl (lv_at hl 3 rfl) ?_
    refine lv_lload hx hb dX5_turn_59 (lv_at hl 2 rfl) ?_
    refine lv_lload_n hx hb dX5_turn_61 rfl (lv_at hl 4 rfl) ?_
    refine lv_lmul hx hb dX5_turn_62 ?_
    refine lv_lload hx hb dX5_turn_63 (lv_at hl 1 rfl) ?_
    refine lv_lload_n hx hb dX5_turn_65 rfl (lv_at hl 5 rfl) ?_
    refine lv_lmul hx hb dX5_turn_66 ?_
    refine lv_lsub hx hb dX5_turn_67 ?_
    refine va_put (D := D) (ci := 5) (v := .long ((cv * x0) - (sv * y0))) (C := RX5) (T := TX5) (N := 31) hx hb hts iX5 tyX5 tyX5_ok nmX5 hown hK hP hD hS 0 rfl rfl 13 (by decide) hw3 (fun _ h9 => h9) rfl (tyX5_ok 13 (by decide)) rfl rfl (Nat.le_of_ble_eq_true rfl) dX5_turn_68 (fun H locs hP hD hS => ?_)
    have hP : va_P D vwCl (MW am cI g y zz (va_up j 0 ((cv * x0) - (sv * y0))) f v X) H := hP
    have hD : va_D A (MW am cI g y zz (va_up j 0 ((cv * x0) - (sv * y0))) f v X) := hD
    refine lv_aload_n hx hb dX5_turn_71 rfl (lv_at hl 3 rfl) ?_
    refine lv_lload hx hb dX5_turn_72 (lv_at hl 1 rfl) ?_
    refine lv_lload_n hx hb dX5_turn_74 rfl (lv_at hl 4 rfl) ?_
    refine lv_lmul hx hb dX5_turn_75 ?_
    refine lv_lload hx hb dX5_turn_76 (lv_at hl 2 rfl) ?_
    refine lv_lload_n hx hb dX5_turn_78 rfl (lv_at hl 5 rfl) ?_
    refine lv_lmul hx hb dX5_turn_79 ?_
    refine lv_ladd hx hb dX5_turn_80 ?_
    refine va_put (D := D) (ci := 5) (v := .long ((sv * x0) + (cv * y0))) (C := RX5) (T := TX5) (N := 31) hx hb hts iX5 tyX5 tyX5_ok nmX5 hown hK hP hD hS 0 rfl rfl 14 (by decide) hw4 (fun _ h9 => h9) rfl (tyX5_ok 14 (by decide)) rfl rfl (Nat.le_of_ble_eq_true rfl) dX5_turn_81 (fun H locs hP hD hS => ?_)
    have hP : va_P D vwCl (MW am cI g y zz (va_up (va_up j 0 ((cv * x0) - (sv * y0))) 1 ((sv * x0) + (cv * y0))) f v X) H := hP
    have hD : va_D A (MW am cI g y zz (va_up (va_up j 0 ((cv * x0) - (sv * y0))) 1 ((sv * x0) + (cv * y0))) f v X) := hD
    exact W.vret hx hb hr (fun t ht hW => ⟨⟨va_up (va_up j 0 ((cv * x0) - (sv * y0))) 1 ((sv * x0) + (cv * y0)), rfl, (by exact tn_ok hB eB hIz_1.2 hi9), by rw [ht]; exact hP, hD⟩, hS.F ht⟩) hS.2.2 dX5_turn_84
  · have hlt : i + 1 ≤ B / 9 := Nat.not_le.mp (fun q => c_2 ((nI_leI (by omega) (by omega)).mpr q))
    refine lv_lload hx hb dX5_turn_39 (lv_at hl 2 rfl) ?_
    refine lv_lstore (lv' := [(11, .long cv), (10, .int (nI i)), (8, .long sv), (6, .long cv), (0, .ref (am 0)), (1, .long x0), (3, .long y0), (5, .int t0)]) hx hb dX5_turn_41 hl (by decide) rfl (fun ls hl => ?_)
    refine lv_lload hx hb dX5_turn_43 (lv_at hl 2 rfl) ?_
    refine lv_lneg hx hb dX5_turn_45 ?_
    refine lv_lstore (lv' := [(6, .long (-sv)), (11, .long cv), (10, .int (nI i)), (8, .long sv), (0, .ref (am 0)), (1, .long x0), (3, .long y0), (5, .int t0)]) hx hb dX5_turn_46 hl (by decide) rfl (fun ls hl => ?_)
    refine lv_lload hx hb dX5_turn_48 (lv_at hl 1 rfl) ?_
    refine lv_lstore (lv' := [(8, .long cv), (6, .long (-sv)), (11, .long cv), (10, .int (nI i)), (0, .ref (am 0)), (1, .long x0), (3, .long y0), (5, .int t0)]) hx hb dX5_turn_50 hl (by decide) rfl (fun ls hl => ?_)
    refine lv_iinc (v := nI (i + 1)) (lv' := [(10, .int (nI (i + 1))), (8, .long cv), (6, .long (-sv)), (11, .long cv), (0, .ref (am 0)), (1, .long x0), (3, .long y0), (5, .int t0)]) hx hb dX5_turn_52 hl (k := 3) rfl (nI_1 _) (by decide) rfl (fun ls hl => ?_)
    refine lv_goto (tgt := 29) hx hb dX5_turn_55 (by decide) ?_
    exact ihz_1 (i + 1, -sv, cv) (show (i + 1) ≤ B / 9 ∧ ((-sv), cv) = rt B (i + 1) from ⟨hlt, by rw [rt, ← hIz_1.2]⟩) (show B / 9 - (i + 1) < B / 9 - i from (by omega)) _ _ _ hP hD hS (lv_sub hl [0, 1, 2, 4, 5, 6, 7] rfl)
set_option maxHeartbeats 4000000 in
set_option maxRecDepth 100000 in
theorem kX5_bring (l : Launch) (D : va_G) (cI cO : ClassId) (tt : Nat) (am : Nat → Nat) (g : Nat → Nat → Int32) (y : Nat → Int32) (zz : Nat → Int32) (j : Nat → Int64) (f : Nat → Int32) (v : Nat → Int32) (X : va_W) (sz : Nat) (p0 : Int32) (hI : WI g) (hp0 : isP g p0) : MmV l yX5_bring wsX5_bring ({ frames := 1, cells := 0, slots := 0, locals := 32 }) D cI cO tt (MW am cI g y zz j f v X) sz [.ref (am 0), .int p0] (S := Nat → Int64) (fun u => MW am cI g y zz u f v X) (fun u => jP j (xT (xT (f 0).toInt64 (f 1).toInt64 (g 100 2)) (yT (f 0).toInt64 (f 1).toInt64 (g 100 2)) (g 0 (rn p0))) (yT (xT (f 0).toInt64 (f 1).toInt64 (g 100 2)) (yT (f 0).toInt64 (f 1).toInt64 (g 100 2)) (g 0 (rn p0))) u) := by
  refine Met.ofW (cc := cX5_bring) (maxL := 2) (ret := none) (by decide) rfl ?_
  intro p e s m args below meth c s₁ B hml hv
  obtain ⟨rfl, hsz, hP, hK, hD0, hZ, hN⟩ := hv
  have hx := B.exec
  have hb := B.bytes
  have hr := B.returns
  have hts := atoms_spec (ws := wsX5_bring) B.pre
  have hown : s.vm.findClass RX5 = some m.cls := findClass_of_methodNamed B.named
  have hlocks := B.notSynchronized
  subst hsz
  have hD := hD0.self (sz := s.heap.size)
  generalize hAe : va_A (MW am cI g y zz j f v X) s.heap.size = A at hD hZ ⊢
  have hA : ∀ q : Nat, s.heap.size ≤ q → A q := fun q h => by rw [← hAe]; exact Or.inr h
  have hS : va_S A s.heap s.heap [] := va_S.rf
  have hl := lv_entry ([.ref (am 0), .int p0]) (n := 2) (Nat.le_of_ble_eq_true rfl)
  rw [lg_entry_eq]
  generalize (lg_sl ([.ref (am 0), .int p0]) ++ List.replicate (2 - (lg_sl ([.ref (am 0), .int p0])).length) Slot.unset).toArray = ls at hl ⊢
  have hl : lv_has ls 2 [(0, .ref (am 0)), (1, .int p0)] := hl
  have hw0 := hts (.fieldLink RX5 111 "LayerSounderModel" "along" "I") (List.mem_cons_of_mem _ (List.mem_append_left _ (List.mem_of_getElem? (i := 0) rfl)))
  have iX5 : ∀ w ∈ wsX50, w ∈ wsX5_bring := fun _ h => List.mem_cons_of_mem _ (List.mem_append_right _ h)
  have hw2 := hts (.fieldLink RX5 114 "LayerSounderModel" "across" "I") (List.mem_cons_of_mem _ (List.mem_append_left _ (List.mem_of_getElem? (i := 1) rfl)))
  have hw3 := hts (.fieldLink RX5 133 "LayerSounderModel" "skew" "I") (List.mem_cons_of_mem _ (List.mem_append_left _ (List.mem_of_getElem? (i := 2) rfl)))
  have hw4 := hts (.fieldLink RX5 97 "LayerSounderModel" "turnedX" "J") (List.mem_cons_of_mem _ (List.mem_append_left _ (List.mem_of_getElem? (i := 3) rfl)))
  have hw5 := hts (.fieldLink RX5 101 "LayerSounderModel" "turnedY" "J") (List.mem_cons_of_mem _ (List.mem_append_left _ (List.mem_of_getElem? (i := 4) rfl)))
  have hw6 := hts (.fieldLink RX5 32 "LayerSounderModel" "headings" "[I") (List.mem_cons_of_mem _ (List.mem_append_left _ (List.mem_of_getElem? (i := 5) rfl)))
  refine lv_aload_n hx hb dX5_bring_0 rfl (lv_at hl 0 rfl) ?_
  refine lv_aload_n hx hb dX5_bring_1 rfl (lv_at hl 0 rfl) ?_
  refine va_get (D := D) (ci := 5) (v := .int (f 0)) (C := RX5) (T := TX5) (N := 31) hx hb hts iX5 hown hK hP 0 rfl rfl 15 (by decide) hw0 (fun _ h9 => h9) rfl dX5_bring_2 ?_
  refine lv_i2l hx hb dX5_bring_5 rfl ?_
  refine lv_aload_n hx hb dX5_bring_6 rfl (lv_at hl 0 rfl) ?_
  refine va_get (D := D) (ci := 5) (v := .int (f 1)) (C := RX5) (T := TX5) (N := 31) hx hb hts iX5 hown hK hP 0 rfl rfl 16 (by decide) hw2 (fun _ h9 => h9) rfl dX5_bring_7 ?_
  refine lv_i2l hx hb dX5_bring_10 rfl ?_
  refine lv_aload_n hx hb dX5_bring_11 rfl (lv_at hl 0 rfl) ?_
  refine va_get (D := D) (ci := 5) (v := .int (g 100 2)) (C := RX5) (T := TX5) (N := 31) hx hb hts iX5 hown hK hP 0 rfl rfl 20 (by decide) hw3 (fun _ h9 => h9) rfl dX5_bring_12 ?_
  refine mcV (wf := fun u : Nat → Int64 => MW am cI g y zz u f v X) (va_runV (As := [.long ((f 0).toInt64), .long ((f 1).toInt64), .int (g 100 2)]) (rest := []) ⟨hx, hb, hml, hown, hts⟩ (kX5_turn l D cI cO tt am g y zz j f v X s.heap.size ((f 0).toInt64) ((f 1).toInt64) (g 100 2) hI.2.2.2.2.1) (cwV 3 hts gX5_bring_X5_turn rfl rfl rfl (by decide +kernel) ⟨(Nat.le_of_ble_eq_true rfl), (Nat.le_of_ble_eq_true rfl)⟩) (mwV hK hZ hN hP hD hS hA (va_recv hK hP (ci := 5) (q0 := 0) rfl rfl)) rfl rfl hl.1 rfl (lv_room (Nat.le_of_ble_eq_true rfl)) dX5_bring_15 ⟨Nat.zero_le _, Nat.zero_le _⟩) hD hS hA (fun uu_1 H locs hu_1 hP hD hS => ?_)
  have hP : va_P D vwCl (MW am cI g y zz uu_1 f v X) H := hP
  have hD : va_D A (MW am cI g y zz uu_1 f v X) := hD
  refine lv_aload_n hx hb dX5_bring_18 rfl (lv_at hl 0 rfl) ?_
  refine lv_aload_n hx hb dX5_bring_19 rfl (lv_at hl 0 rfl) ?_
  refine va_get (D := D) (ci := 5) (v := .long (uu_1 0)) (C := RX5) (T := TX5) (N := 31) hx hb hts iX5 hown hK hP 0 rfl rfl 13 (by decide) hw4 (fun _ h9 => h9) rfl dX5_bring_20 ?_
  refine lv_aload_n hx hb dX5_bring_23 rfl (lv_at hl 0 rfl) ?_
  refine va_get (D := D) (ci := 5) (v := .long (uu_1 1)) (C := RX5) (T := TX5) (N := 31) hx hb hts iX5 hown hK hP 0 rfl rfl 14 (by decide) hw5 (fun _ h9 => h9) rfl dX5_bring_24 ?_
  refine lv_aload_n hx hb dX5_bring_27 rfl (lv_at hl 0 rfl) ?_
  refine va_get (D := D) (ci := 5) (v := .ref (am 7)) (C := RX5) (T := TX5) (N := 31) hx hb hts iX5 hown hK hP 0 rfl rfl 9 (by decide) hw6 (fun _ h9 => h9) rfl dX5_bring_28 ?_
  refine lv_iload_n hx hb dX5_bring_31 rfl (lv_at hl 1 rfl) ?_
  refine va_iald hx hb hK hP 7 0 rfl rfl (vin hp0.1 hp0.2 hI.2.1.2 (by decide)) dX5_bring_32 ?_
  refine mcV (wf := fun u : Nat → Int64 => MW am cI g y zz u f v X) (va_runV (As := [.long (uu_1 0), .long (uu_1 1), .int (g 0 p0.toNatClampNeg)]) (rest := []) ⟨hx, hb, hml, hown, hts⟩ (kX5_turn l D cI cO tt am g y zz uu_1 f v X H.size (uu_1 0) (uu_1 1) (g 0 p0.toNatClampNeg) (hd36 hI hp0)) (cwV 3 hts gX5_bring_X5_turn rfl rfl rfl (by decide +kernel) ⟨(Nat.le_of_ble_eq_true rfl), (Nat.le_of_ble_eq_true rfl)⟩) (mwV hK hZ hN hP hD hS hA (va_recv hK hP (ci := 5) (q0 := 0) rfl rfl)) rfl rfl hl.1 rfl (lv_room (Nat.le_of_ble_eq_true rfl)) dX5_bring_33 ⟨Nat.zero_le _, Nat.zero_le _⟩) hD hS hA (fun uu_2 H locs hu_2 hP hD hS => ?_)
  have hP : va_P D vwCl (MW am cI g y zz uu_2 f v X) H := hP
  have hD : va_D A (MW am cI g y zz uu_2 f v X) := hD
  exact W.vret hx hb hr (fun t ht hW => ⟨⟨uu_2, rfl, (by exact br_ok hu_1 hu_2), by rw [ht]; exact hP, hD⟩, hS.F ht⟩) hS.2.2 dX5_bring_36
set_option maxHeartbeats 4000000 in
set_option maxRecDepth 100000 in
theorem kX5_answers (l : Launch) (D : va_G) (cI cO : ClassId) (tt : Nat) (am : Nat → Nat) (g : Nat → Nat → Int32) (y : Nat → Int32) (zz : Nat → Int32) (j : Nat → Int64) (f : Nat → Int32) (v : Nat → Int32) (X : va_W) (sz : Nat) (a0 : Int32) (b0 : Int32) (c0 : Int32) (d0 : Int32)  : MmI l yX5_answers wsX5_answers ({ frames := 0, cells := 0, slots := 0, locals := 0 }) D cI cO tt (MW am cI g y zz j f v X) sz [.ref (am 0), .int a0, .int b0, .int c0, .int d0] (S := Nat → Int32) (fun u => MW am cI g y zz j u v X) (fun z u => anP a0 b0 c0 d0 z u) := by
  refine Met.ofW (cc := cX5_answers) (maxL := 9) (ret := (some .boolean)) (by decide) rfl ?_
  intro p e s m args below meth c s₁ B hml hv
  obtain ⟨rfl, hsz, hP, hK, hD0, hZ, hN⟩ := hv
  have hx := B.exec
  have hb := B.bytes
  have hr := B.returns
  have hts := atoms_spec (ws := wsX5_answers) B.pre
  have hown : s.vm.findClass RX5 = some m.cls := findClass_of_methodNamed B.named
  have hlocks := B.notSynchronized
  subst hsz
  have hD := hD0.self (sz := s.heap.size)
  generalize hAe : va_A (MW am cI g y zz j f v X) s.heap.size = A at hD hZ ⊢
  have hA : ∀ q : Nat, s.heap.size ≤ q → A q := fun q h => by rw [← hAe]; exact Or.inr h
  have hS : va_S A s.heap s.heap [] := va_S.rf
  have hl := lv_entry ([.ref (am 0), .int a0, .int b0, .int c0, .int d0]) (n := 9) (Nat.le_of_ble_eq_true rfl)
  rw [lg_entry_eq]
  generalize (lg_sl ([.ref (am 0), .int a0, .int b0, .int c0, .int d0]) ++ List.replicate (9 - (lg_sl ([.ref (am 0), .int a0, .int b0, .int c0, .int d0])).length) Slot.unset).toArray = ls at hl ⊢
  have hl : lv_has ls 9 [(0, .ref (am 0)), (1, .int a0), (2, .int b0), (3, .int c0), (4, .int d0)] := hl
  have hw0 := hts (.fieldLink RX5 108 "LayerSounderModel" "lost" "I") (List.mem_cons_of_mem _ (List.mem_append_left _ (List.mem_of_getElem? (i := 0) rfl)))
  have iX5 : ∀ w ∈ wsX50, w ∈ wsX5_answers := fun _ h => List.mem_cons_of_mem _ (List.mem_append_right _ h)
  have hw2 := hts (.fieldLink RX5 111 "LayerSounderModel" "along" "I") (List.mem_cons_of_mem _ (List.mem_append_left _ (List.mem_of_getElem? (i := 1) rfl)))
  have hw3 := hts (.fieldLink RX5 114 "LayerSounderModel" "across" "I") (List.mem_cons_of_mem _ (List.mem_append_left _ (List.mem_of_getElem? (i := 2) rfl)))
  have hw4 := hts (.fieldLink RX5 117 "LayerSounderModel" "odd" "I") (List.mem_cons_of_mem _ (List.mem_append_left _ (List.mem_of_getElem? (i := 3) rfl)))
  refine lv_aload_n hx hb dX5_answers_0 rfl (lv_at hl 0 rfl) ?_
  refine lv_iload_n hx hb dX5_answers_1 rfl (lv_at hl 1 rfl) ?_
  refine lv_bipush (v := (-128)) hx hb dX5_answers_2 (by decide) ?_
  refine jnI (j := 12) (rest := [.ref (am 0)]) (fun z => z = bI (a0 = -128)) (fun v_2 hv_2 => ?_) (fun hJ => ?_)
  · refine lv_iload_n hx hb dX5_answers_12 rfl (lv_at hl 2 rfl) ?_
    refine lv_bipush (v := (-128)) hx hb dX5_answers_13 (by decide) ?_
    refine jnI (j := 23) (rest := [.int v_2, .ref (am 0)]) (fun z => z = bI (b0 = -128)) (fun v_4 hv_4 => ?_) (fun hJ => ?_)
    · refine lv_iadd hx hb dX5_answers_23 ?_
      refine lv_iload_n hx hb dX5_answers_24 rfl (lv_at hl 3 rfl) ?_
      refine lv_bipush (v := (-128)) hx hb dX5_answers_25 (by decide) ?_
      refine jnI (j := 35) (rest := [.int (v_2 + v_4), .ref (am 0)]) (fun z => z = bI (c0 = -128)) (fun v_6 hv_6 => ?_) (fun hJ => ?_)
      · refine lv_iadd hx hb dX5_answers_35 ?_
        refine lv_iload hx hb dX5_answers_36 (lv_at hl 4 rfl) ?_
        refine lv_bipush (v := (-128)) hx hb dX5_answers_38 (by decide) ?_
        refine jnI (j := 48) (rest := [.int ((v_2 + v_4) + v_6), .ref (am 0)]) (fun z => z = bI (d0 = -128)) (fun v_8 hv_8 => ?_) (fun hJ => ?_)
        · refine lv_iadd hx hb dX5_answers_48 ?_
          refine va_put (D := D) (ci := 5) (v := .int (((v_2 + v_4) + v_6) + v_8)) (C := RX5) (T := TX5) (N := 31) hx hb hts iX5 tyX5 tyX5_ok nmX5 hown hK hP hD hS 0 rfl rfl 18 (by decide) hw0 (fun _ h9 => h9) rfl (tyX5_ok 18 (by decide)) rfl rfl (Nat.le_of_ble_eq_true rfl) dX5_answers_49 (fun H locs hP hD hS => ?_)
          have hP : va_P D vwCl (MW am cI g y zz j (va_up f 3 (((v_2 + v_4) + v_6) + v_8)) v X) H := hP
          have hD : va_D A (MW am cI g y zz j (va_up f 3 (((v_2 + v_4) + v_6) + v_8)) v X) := hD
          refine lv_aload_n hx hb dX5_answers_52 rfl (lv_at hl 0 rfl) ?_
          refine va_get (D := D) (ci := 5) (v := .int (((v_2 + v_4) + v_6) + v_8)) (C := RX5) (T := TX5) (N := 31) hx hb hts iX5 hown hK hP 0 rfl rfl 18 (by decide) hw0 (fun _ h9 => h9) rfl dX5_answers_53 ?_
          refine lv_iconst (v := 1) hx hb dX5_answers_56 (by decide) ?_
          refine lv_icmp_le (tgt := 62) hx hb dX5_answers_57 (by decide) (fun c_9 => ?_) (fun c_9 => ?_)
          · refine lv_iload_n hx hb dX5_answers_62 rfl (lv_at hl 1 rfl) ?_
            refine lv_bipush (v := (-128)) hx hb dX5_answers_63 (by decide) ?_
            refine jnI (j := 78) (rest := []) (fun z => z = if a0 = -128 then c0 + d0 - b0 else a0) (fun v_11 hv_11 => ?_) (fun hJ => ?_)
            · refine lv_istore (lv' := [(5, .int v_11), (0, .ref (am 0)), (1, .int a0), (2, .int b0), (3, .int c0), (4, .int d0)]) hx hb dX5_answers_78 hl (by decide) rfl (fun ls hl => ?_)
              refine lv_iload_n hx hb dX5_answers_80 rfl (lv_at hl 3 rfl) ?_
              refine lv_bipush (v := (-128)) hx hb dX5_answers_81 (by decide) ?_
              refine jnI (j := 96) (rest := []) (fun z => z = if b0 = -128 then c0 + d0 - a0 else b0) (fun v_13 hv_13 => ?_) (fun hJ => ?_)
              · refine lv_istore (lv' := [(6, .int v_13), (5, .int v_11), (0, .ref (am 0)), (1, .int a0), (2, .int b0), (3, .int c0), (4, .int d0)]) hx hb dX5_answers_96 hl (by decide) rfl (fun ls hl => ?_)
                refine lv_iload_n hx hb dX5_answers_98 rfl (lv_at hl 5 rfl) ?_
                refine lv_bipush (v := (-128)) hx hb dX5_answers_99 (by decide) ?_
                refine jnI (j := 114) (rest := []) (fun z => z = if c0 = -128 then a0 + b0 - d0 else c0) (fun v_15 hv_15 => ?_) (fun hJ => ?_)
                · refine lv_istore (lv' := [(7, .int v_15), (6, .int v_13), (5, .int v_11), (0, .ref (am 0)), (1, .int a0), (2, .int b0), (3, .int c0), (4, .int d0)]) hx hb dX5_answers_114 hl (by decide) rfl (fun ls hl => ?_)
                  refine lv_iload hx hb dX5_answers_116 (lv_at hl 7 rfl) ?_
                  refine lv_bipush (v := (-128)) hx hb dX5_answers_118 (by decide) ?_
                  refine jnI (j := 133) (rest := []) (fun z => z = if d0 = -128 then a0 + b0 - c0 else d0) (fun v_17 hv_17 => ?_) (fun hJ => ?_)
                  · refine lv_istore (lv' := [(8, .int v_17), (7, .int v_15), (6, .int v_13), (5, .int v_11), (0, .ref (am 0)), (1, .int a0), (2, .int b0), (3, .int c0), (4, .int d0)]) hx hb dX5_answers_133 hl (by decide) rfl (fun ls hl => ?_)
                    refine lv_aload_n hx hb dX5_answers_135 rfl (lv_at hl 4 rfl) ?_
                    refine lv_iload hx hb dX5_answers_136 (lv_at hl 3 rfl) ?_
                    refine lv_iload hx hb dX5_answers_138 (lv_at hl 2 rfl) ?_
                    refine lv_isub hx hb dX5_answers_140 ?_
                    refine va_put (D := D) (ci := 5) (v := .int (v_11 - v_13)) (C := RX5) (T := TX5) (N := 31) hx hb hts iX5 tyX5 tyX5_ok nmX5 hown hK hP hD hS 0 rfl rfl 15 (by decide) hw2 (fun _ h9 => h9) rfl (tyX5_ok 15 (by decide)) rfl rfl (Nat.le_of_ble_eq_true rfl) dX5_answers_141 (fun H locs hP hD hS => ?_)
                    have hP : va_P D vwCl (MW am cI g y zz j (va_up (va_up f 3 (((v_2 + v_4) + v_6) + v_8)) 0 (v_11 - v_13)) v X) H := hP
                    have hD : va_D A (MW am cI g y zz j (va_up (va_up f 3 (((v_2 + v_4) + v_6) + v_8)) 0 (v_11 - v_13)) v X) := hD
                    refine lv_aload_n hx hb dX5_answers_144 rfl (lv_at hl 4 rfl) ?_
                    refine lv_iload hx hb dX5_answers_145 (lv_at hl 1 rfl) ?_
                    refine lv_iload hx hb dX5_answers_147 (lv_at hl 0 rfl) ?_
                    refine lv_isub hx hb dX5_answers_149 ?_
                    refine va_put (D := D) (ci := 5) (v := .int (v_15 - v_17)) (C := RX5) (T := TX5) (N := 31) hx hb hts iX5 tyX5 tyX5_ok nmX5 hown hK hP hD hS 0 rfl rfl 16 (by decide) hw3 (fun _ h9 => h9) rfl (tyX5_ok 16 (by decide)) rfl rfl (Nat.le_of_ble_eq_true rfl) dX5_answers_150 (fun H locs hP hD hS => ?_)
                    have hP : va_P D vwCl (MW am cI g y zz j (va_up (va_up (va_up f 3 (((v_2 + v_4) + v_6) + v_8)) 0 (v_11 - v_13)) 1 (v_15 - v_17)) v X) H := hP
                    have hD : va_D A (MW am cI g y zz j (va_up (va_up (va_up f 3 (((v_2 + v_4) + v_6) + v_8)) 0 (v_11 - v_13)) 1 (v_15 - v_17)) v X) := hD
                    refine lv_aload_n hx hb dX5_answers_153 rfl (lv_at hl 4 rfl) ?_
                    refine lv_iload hx hb dX5_answers_154 (lv_at hl 3 rfl) ?_
                    refine lv_iload hx hb dX5_answers_156 (lv_at hl 2 rfl) ?_
                    refine lv_iadd hx hb dX5_answers_158 ?_
                    refine lv_iload hx hb dX5_answers_159 (lv_at hl 1 rfl) ?_
                    refine lv_isub hx hb dX5_answers_161 ?_
                    refine lv_iload hx hb dX5_answers_162 (lv_at hl 0 rfl) ?_
                    refine lv_isub hx hb dX5_answers_164 ?_
                    refine va_put (D := D) (ci := 5) (v := .int (((v_11 + v_13) - v_15) - v_17)) (C := RX5) (T := TX5) (N := 31) hx hb hts iX5 tyX5 tyX5_ok nmX5 hown hK hP hD hS 0 rfl rfl 17 (by decide) hw4 (fun _ h9 => h9) rfl (tyX5_ok 17 (by decide)) rfl rfl (Nat.le_of_ble_eq_true rfl) dX5_answers_165 (fun H locs hP hD hS => ?_)
                    have hP : va_P D vwCl (MW am cI g y zz j (va_up (va_up (va_up (va_up f 3 (((v_2 + v_4) + v_6) + v_8)) 0 (v_11 - v_13)) 1 (v_15 - v_17)) 2 (((v_11 + v_13) - v_15) - v_17)) v X) H := hP
                    have hD : va_D A (MW am cI g y zz j (va_up (va_up (va_up (va_up f 3 (((v_2 + v_4) + v_6) + v_8)) 0 (v_11 - v_13)) 1 (v_15 - v_17)) 2 (((v_11 + v_13) - v_15) - v_17)) v X) := hD
                    refine lv_iconst (v := 1) hx hb dX5_answers_168 (by decide) ?_
                    exact W.zret (v := 1) hx hb hr rfl (fun t ht hW => ⟨⟨1, va_up (va_up (va_up (va_up f 3 (((v_2 + v_4) + v_6) + v_8)) 0 (v_11 - v_13)) 1 (v_15 - v_17)) 2 (((v_11 + v_13) - v_15) - v_17), rfl, (by exact an_yes hv_2 hv_4 hv_6 hv_8 hv_11 hv_13 hv_15 hv_17 c_9), by rw [ht]; exact hP, hD⟩, hS.F ht⟩) hS.2.2 dX5_answers_169
                  · refine lv_icmp_ne (tgt := 131) hx hb dX5_answers_120 (by decide) (fun c_18 => ?_) (fun c_18 => ?_)
                    · refine lv_iload hx hb dX5_answers_131 (lv_at hl 7 rfl) ?_
                      exact hJ _ (by exact (if_neg c_18).symm)
                    · refine lv_iload_n hx hb dX5_answers_123 rfl (lv_at hl 4 rfl) ?_
                      refine lv_iload_n hx hb dX5_answers_124 rfl (lv_at hl 5 rfl) ?_
                      refine lv_iadd hx hb dX5_answers_125 ?_
                      refine lv_iload_n hx hb dX5_answers_126 rfl (lv_at hl 6 rfl) ?_
                      refine lv_isub hx hb dX5_answers_127 ?_
                      refine lv_goto (tgt := 133) hx hb dX5_answers_128 (by decide) ?_
                      exact hJ _ (by exact (if_pos c_18).symm)
                · refine lv_icmp_ne (tgt := 113) hx hb dX5_answers_101 (by decide) (fun c_19 => ?_) (fun c_19 => ?_)
                  · refine lv_iload_n hx hb dX5_answers_113 rfl (lv_at hl 5 rfl) ?_
                    exact hJ _ (by exact (if_neg c_19).symm)
                  · refine lv_iload_n hx hb dX5_answers_104 rfl (lv_at hl 3 rfl) ?_
                    refine lv_iload_n hx hb dX5_answers_105 rfl (lv_at hl 4 rfl) ?_
                    refine lv_iadd hx hb dX5_answers_106 ?_
                    refine lv_iload hx hb dX5_answers_107 (lv_at hl 6 rfl) ?_
                    refine lv_isub hx hb dX5_answers_109 ?_
                    refine lv_goto (tgt := 114) hx hb dX5_answers_110 (by decide) ?_
                    exact hJ _ (by exact (if_pos c_19).symm)
              · refine lv_icmp_ne (tgt := 95) hx hb dX5_answers_83 (by decide) (fun c_20 => ?_) (fun c_20 => ?_)
                · refine lv_iload_n hx hb dX5_answers_95 rfl (lv_at hl 3 rfl) ?_
                  exact hJ _ (by exact (if_neg c_20).symm)
                · refine lv_iload_n hx hb dX5_answers_86 rfl (lv_at hl 4 rfl) ?_
                  refine lv_iload hx hb dX5_answers_87 (lv_at hl 5 rfl) ?_
                  refine lv_iadd hx hb dX5_answers_89 ?_
                  refine lv_iload_n hx hb dX5_answers_90 rfl (lv_at hl 2 rfl) ?_
                  refine lv_isub hx hb dX5_answers_91 ?_
                  refine lv_goto (tgt := 96) hx hb dX5_answers_92 (by decide) ?_
                  exact hJ _ (by exact (if_pos c_20).symm)
            · refine lv_icmp_ne (tgt := 77) hx hb dX5_answers_65 (by decide) (fun c_21 => ?_) (fun c_21 => ?_)
              · refine lv_iload_n hx hb dX5_answers_77 rfl (lv_at hl 1 rfl) ?_
                exact hJ _ (by exact (if_neg c_21).symm)
              · refine lv_iload_n hx hb dX5_answers_68 rfl (lv_at hl 3 rfl) ?_
                refine lv_iload hx hb dX5_answers_69 (lv_at hl 4 rfl) ?_
                refine lv_iadd hx hb dX5_answers_71 ?_
                refine lv_iload_n hx hb dX5_answers_72 rfl (lv_at hl 2 rfl) ?_
                refine lv_isub hx hb dX5_answers_73 ?_
                refine lv_goto (tgt := 78) hx hb dX5_answers_74 (by decide) ?_
                exact hJ _ (by exact (if_pos c_21).symm)
          · refine lv_iconst (v := 0) hx hb dX5_answers_60 (by decide) ?_
            exact W.zret (v := 0) hx hb hr rfl (fun t ht hW => ⟨⟨0, va_up f 3 (((v_2 + v_4) + v_6) + v_8), rfl, (by exact an_no hv_2 hv_4 hv_6 hv_8 c_9), by rw [ht]; exact hP, hD⟩, hS.F ht⟩) hS.2.2 dX5_answers_61
        · refine lv_icmp_ne (tgt := 47) hx hb dX5_answers_40 (by decide) (fun c_22 => ?_) (fun c_22 => ?_)
          · refine lv_iconst (v := 0) hx hb dX5_answers_47 (by decide) ?_
            exact hJ _ (by exact (bI_f c_22).symm)
          · refine lv_iconst (v := 1) hx hb dX5_answers_43 (by decide) ?_
            refine lv_goto (tgt := 48) hx hb dX5_answers_44 (by decide) ?_
            exact hJ _ (by exact (bI_t c_22).symm)
      · refine lv_icmp_ne (tgt := 34) hx hb dX5_answers_27 (by decide) (fun c_23 => ?_) (fun c_23 => ?_)
        · refine lv_iconst (v := 0) hx hb dX5_answers_34 (by decide) ?_
          exact hJ _ (by exact (bI_f c_23).symm)
        · refine lv_iconst (v := 1) hx hb dX5_answers_30 (by decide) ?_
          refine lv_goto (tgt := 35) hx hb dX5_answers_31 (by decide) ?_
          exact hJ _ (by exact (bI_t c_23).symm)
    · refine lv_icmp_ne (tgt := 22) hx hb dX5_answers_15 (by decide) (fun c_24 => ?_) (fun c_24 => ?_)
      · refine lv_iconst (v := 0) hx hb dX5_answers_22 (by decide) ?_
        exact hJ _ (by exact (bI_f c_24).symm)
      · refine lv_iconst (v := 1) hx hb dX5_answers_18 (by decide) ?_
        refine lv_goto (tgt := 23) hx hb dX5_answers_19 (by decide) ?_
        exact hJ _ (by exact (bI_t c_24).symm)
  · refine lv_icmp_ne (tgt := 11) hx hb dX5_answers_4 (by decide) (fun c_25 => ?_) (fun c_25 => ?_)
    · refine lv_iconst (v := 0) hx hb dX5_answers_11 (by decide) ?_
      exact hJ _ (by exact (bI_f c_25).symm)
    · refine lv_iconst (v := 1) hx hb dX5_answers_7 (by decide) ?_
      refine lv_goto (tgt := 12) hx hb dX5_answers_8 (by decide) ?_
      exact hJ _ (by exact (bI_t c_25).symm)
