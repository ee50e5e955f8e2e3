set_option maxHeartbeats 4000000 in
set_option maxRecDepth 100000 in
theorem kX4_isWithin (l : Launch) (D : va_G) (cI cO : ClassId) (tt : Nat) (w : va_W) (H0 : Heap) (x0 : Int32) (a0 : Int32) (b0 : Int32)  : MpI l yX4_isWithin wsX4_isWithin ({ frames := 0, cells := 0, slots := 0, locals := 0 }) D cI cO tt (w) H0 [.int x0, .int a0, .int b0] (bI (a0 ≤ x0 ∧ x0 ≤ b0)) := by
  refine Met.ofW (cc := cX4_isWithin) (maxL := 3) (ret := (some .boolean)) (by decide) rfl ?_
  intro p e s m args below meth c s₁ B hml hv
  obtain ⟨rfl, rfl, hP, hK, hZ, hN⟩ := hv
  have hx := B.exec
  have hb := B.bytes
  have hr := B.returns
  have hts := atoms_spec (ws := wsX4_isWithin) B.pre
  have hown : s.vm.findClass RX4 = some m.cls := findClass_of_methodNamed B.named
  have hlocks := B.notSynchronized
  have hS : va_S (fun _ => False) s.heap s.heap [] := va_S.rf
  have hl := lv_entry ([.int x0, .int a0, .int b0]) (n := 3) (Nat.le_of_ble_eq_true rfl)
  rw [lg_entry_eq]
  generalize (lg_sl ([.int x0, .int a0, .int b0]) ++ List.replicate (3 - (lg_sl ([.int x0, .int a0, .int b0])).length) Slot.unset).toArray = ls at hl ⊢
  have hl : lv_has ls 3 [(0, .int x0), (1, .int a0), (2, .int b0)] := hl
  refine lv_iload_n hx hb dX4_isWithin_0 rfl (lv_at hl 0 rfl) ?_
  refine lv_iload_n hx hb dX4_isWithin_1 rfl (lv_at hl 1 rfl) ?_
  refine lv_icmp_lt (tgt := 14) hx hb dX4_isWithin_2 (by decide) (fun c_1 => ?_) (fun c_1 => ?_)
  · refine lv_iconst (v := 0) hx hb dX4_isWithin_14 (by decide) ?_
    exact W.zret (v := 0) hx hb hr rfl (fun t ht hW => ⟨⟨0, (), rfl, (by grind [bI]), ht⟩, hS.F ht⟩) hS.2.2 dX4_isWithin_15
  · refine lv_iload_n hx hb dX4_isWithin_5 rfl (lv_at hl 0 rfl) ?_
    refine lv_iload_n hx hb dX4_isWithin_6 rfl (lv_at hl 2 rfl) ?_
    refine lv_icmp_gt (tgt := 14) hx hb dX4_isWithin_7 (by decide) (fun c_2 => ?_) (fun c_2 => ?_)
    · refine lv_iconst (v := 0) hx hb dX4_isWithin_14 (by decide) ?_
      exact W.zret (v := 0) hx hb hr rfl (fun t ht hW => ⟨⟨0, (), rfl, (by grind [bI]), ht⟩, hS.F ht⟩) hS.2.2 dX4_isWithin_15
    · refine lv_iconst (v := 1) hx hb dX4_isWithin_10 (by decide) ?_
      refine lv_goto (tgt := 15) hx hb dX4_isWithin_11 (by decide) ?_
      exact W.zret (v := 1) hx hb hr rfl (fun t ht hW => ⟨⟨1, (), rfl, (by grind [bI]), ht⟩, hS.F ht⟩) hS.2.2 dX4_isWithin_15
set_option maxHeartbeats 4000000 in
set_option maxRecDepth 100000 in
theorem kX4_isForm (l : Launch) (D : va_G) (cI cO : ClassId) (tt : Nat) (w : va_W) (H0 : Heap) (v0 : Int32)  : MpI l yX4_isForm wsX4_isForm ({ frames := 1, cells := 0, slots := 0, locals := 22 }) D cI cO tt (w) H0 [.int v0] (bI (0 ≤ v0 ∧ v0 ≤ 2)) := by
  refine Met.ofW (cc := cX4_isForm) (maxL := 1) (ret := (some .boolean)) (by decide) rfl ?_
  intro p e s m args below meth c s₁ B hml hv
  obtain ⟨rfl, rfl, hP, hK, hZ, hN⟩ := hv
  have hx := B.exec
  have hb := B.bytes
  have hr := B.returns
  have hts := atoms_spec (ws := wsX4_isForm) B.pre
  have hown : s.vm.findClass RX4 = some m.cls := findClass_of_methodNamed B.named
  have hlocks := B.notSynchronized
  have hS : va_S (fun _ => False) s.heap s.heap [] := va_S.rf
  have hl := lv_entry ([.int v0]) (n := 1) (Nat.le_of_ble_eq_true rfl)
  rw [lg_entry_eq]
  generalize (lg_sl ([.int v0]) ++ List.replicate (1 - (lg_sl ([.int v0])).length) Slot.unset).toArray = ls at hl ⊢
  have hl : lv_has ls 1 [(0, .int v0)] := hl
  refine lv_iload_n hx hb dX4_isForm_0 rfl (lv_at hl 0 rfl) ?_
  refine lv_iconst (v := 0) hx hb dX4_isForm_1 (by decide) ?_
  refine lv_iconst (v := 2) hx hb dX4_isForm_2 (by decide) ?_
  refine pcI (va_runS (As := [.int v0, .int 0, .int 2]) (rest := []) ⟨hx, hb, hml, hown, hts⟩ (kX4_isWithin l D cI cO tt w s.heap v0 0 2 ) (va_cwS 3 hts gX4_isForm_X4_isWithin rfl rfl rfl (by decide +kernel) ⟨(Nat.le_of_ble_eq_true rfl), (Nat.le_of_ble_eq_true rfl)⟩) (pwS hK hZ hN hP hS) rfl rfl hl.1 rfl (lv_room (Nat.le_of_ble_eq_true rfl)) dX4_isForm_3 ⟨Nat.zero_le _, Nat.zero_le _⟩) hS (fun locs hS => ?_)
  exact W.zret (v := bI (0 ≤ v0 ∧ v0 ≤ 2)) hx hb hr bI_nar (fun t ht hW => ⟨⟨bI (0 ≤ v0 ∧ v0 ≤ 2), (), rfl, (by rfl), ht⟩, hS.F ht⟩) hS.2.2 dX4_isForm_6
set_option maxHeartbeats 4000000 in
set_option maxRecDepth 100000 in
theorem kX4_isTurn (l : Launch) (D : va_G) (cI cO : ClassId) (tt : Nat) (w : va_W) (H0 : Heap) (v0 : Int32)  : MpI l yX4_isTurn wsX4_isTurn ({ frames := 1, cells := 0, slots := 0, locals := 22 }) D cI cO tt (w) H0 [.int v0] (bI (0 ≤ v0 ∧ v0 ≤ 35)) := by
  refine Met.ofW (cc := cX4_isTurn) (maxL := 1) (ret := (some .boolean)) (by decide) rfl ?_
  intro p e s m args below meth c s₁ B hml hv
  obtain ⟨rfl, rfl, hP, hK, hZ, hN⟩ := hv
  have hx := B.exec
  have hb := B.bytes
  have hr := B.returns
  have hts := atoms_spec (ws := wsX4_isTurn) B.pre
  have hown : s.vm.findClass RX4 = some m.cls := findClass_of_methodNamed B.named
  have hlocks := B.notSynchronized
  have hS : va_S (fun _ => False) s.heap s.heap [] := va_S.rf
  have hl := lv_entry ([.int v0]) (n := 1) (Nat.le_of_ble_eq_true rfl)
  rw [lg_entry_eq]
  generalize (lg_sl ([.int v0]) ++ List.replicate (1 - (lg_sl ([.int v0])).length) Slot.unset).toArray = ls at hl ⊢
  have hl : lv_has ls 1 [(0, .int v0)] := hl
  refine lv_iload_n hx hb dX4_isTurn_0 rfl (lv_at hl 0 rfl) ?_
  refine lv_iconst (v := 0) hx hb dX4_isTurn_1 (by decide) ?_
  refine lv_bipush (v := 35) hx hb dX4_isTurn_2 (by decide) ?_
  refine pcI (va_runS (As := [.int v0, .int 0, .int 35]) (rest := []) ⟨hx, hb, hml, hown, hts⟩ (kX4_isWithin l D cI cO tt w s.heap v0 0 35 ) (va_cwS 3 hts gX4_isTurn_X4_isWithin rfl rfl rfl (by decide +kernel) ⟨(Nat.le_of_ble_eq_true rfl), (Nat.le_of_ble_eq_true rfl)⟩) (pwS hK hZ hN hP hS) rfl rfl hl.1 rfl (lv_room (Nat.le_of_ble_eq_true rfl)) dX4_isTurn_4 ⟨Nat.zero_le _, Nat.zero_le _⟩) hS (fun locs hS => ?_)
  exact W.zret (v := bI (0 ≤ v0 ∧ v0 ≤ 35)) hx hb hr bI_nar (fun t ht hW => ⟨⟨bI (0 ≤ v0 ∧ v0 ≤ 35), (), rfl, (by rfl), ht⟩, hS.F ht⟩) hS.2.2 dX4_isTurn_7
set_option maxHeartbeats 4000000 in
set_option maxRecDepth 100000 in
theorem kX4_isPlace (l : Launch) (D : va_G) (cI cO : ClassId) (tt : Nat) (w : va_W) (H0 : Heap) (v0 : Int32)  : MpI l yX4_isPlace wsX4_isPlace ({ frames := 1, cells := 0, slots := 0, locals := 22 }) D cI cO tt (w) H0 [.int v0] (bI (-1000000 ≤ v0 ∧ v0 ≤ 1000000)) := by
  refine Met.ofW (cc := cX4_isPlace) (maxL := 1) (ret := (some .boolean)) (by decide) rfl ?_
  intro p e s m args below meth c s₁ B hml hv
  obtain ⟨rfl, rfl, hP, hK, hZ, hN⟩ := hv
  have hx := B.exec
  have hb := B.bytes
  have hr := B.returns
  have hts := atoms_spec (ws := wsX4_isPlace) B.pre
  have hown : s.vm.findClass RX4 = some m.cls := findClass_of_methodNamed B.named
  have hlocks := B.notSynchronized
  have hS : va_S (fun _ => False) s.heap s.heap [] := va_S.rf
  have hl := lv_entry ([.int v0]) (n := 1) (Nat.le_of_ble_eq_true rfl)
  rw [lg_entry_eq]
  generalize (lg_sl ([.int v0]) ++ List.replicate (1 - (lg_sl ([.int v0])).length) Slot.unset).toArray = ls at hl ⊢
  have hl : lv_has ls 1 [(0, .int v0)] := hl
  have hw0 := hts (.constant RX4 193 (-1000000)) (List.mem_cons_of_mem _ ((List.mem_of_getElem? (i := 0) rfl)))
  have hw1 := hts (.constant RX4 194 (1000000)) (List.mem_cons_of_mem _ ((List.mem_of_getElem? (i := 1) rfl)))
  refine lv_iload_n hx hb dX4_isPlace_0 rfl (lv_at hl 0 rfl) ?_
  refine lv_ldc hx hb hown hw0 dX4_isPlace_1 ?_
  refine lv_ldc hx hb hown hw1 dX4_isPlace_3 ?_
  refine pcI (va_runS (As := [.int v0, .int (-1000000), .int 1000000]) (rest := []) ⟨hx, hb, hml, hown, hts⟩ (kX4_isWithin l D cI cO tt w s.heap v0 (-1000000) 1000000 ) (va_cwS 3 hts gX4_isPlace_X4_isWithin rfl rfl rfl (by decide +kernel) ⟨(Nat.le_of_ble_eq_true rfl), (Nat.le_of_ble_eq_true rfl)⟩) (pwS hK hZ hN hP hS) rfl rfl hl.1 rfl (lv_room (Nat.le_of_ble_eq_true rfl)) dX4_isPlace_5 ⟨Nat.zero_le _, Nat.zero_le _⟩) hS (fun locs hS => ?_)
  exact W.zret (v := bI ((-1000000) ≤ v0 ∧ v0 ≤ 1000000)) hx hb hr bI_nar (fun t ht hW => ⟨⟨bI ((-1000000) ≤ v0 ∧ v0 ≤ 1000000), (), rfl, (by rfl), ht⟩, hS.F ht⟩) hS.2.2 dX4_isPlace_8
set_option maxHeartbeats 4000000 in
set_option maxRecDepth 100000 in
theorem kX4_isPart (l : Launch) (D : va_G) (cI cO : ClassId) (tt : Nat) (w : va_W) (H0 : Heap) (v0 : Int32)  : MpI l yX4_isPart wsX4_isPart ({ frames := 1, cells := 0, slots := 0, locals := 22 }) D cI cO tt (w) H0 [.int v0] (bI (-20000 ≤ v0 ∧ v0 ≤ 20000)) := by
  refine Met.ofW (cc := cX4_isPart) (maxL := 1) (ret := (some .boolean)) (by decide) rfl ?_
  intro p e s m args below meth c s₁ B hml hv
  obtain ⟨rfl, rfl, hP, hK, hZ, hN⟩ := hv
  have hx := B.exec
  have hb := B.bytes
  have hr := B.returns
  have hts := atoms_spec (ws := wsX4_isPart) B.pre
  have hown : s.vm.findClass RX4 = some m.cls := findClass_of_methodNamed B.named
  have hlocks := B.notSynchronized
  have hS : va_S (fun _ => False) s.heap s.heap [] := va_S.rf
  have hl := lv_entry ([.int v0]) (n := 1) (Nat.le_of_ble_eq_true rfl)
  rw [lg_entry_eq]
  generalize (lg_sl ([.int v0]) ++ List.replicate (1 - (lg_sl ([.int v0])).length) Slot.unset).toArray = ls at hl ⊢
  have hl : lv_has ls 1 [(0, .int v0)] := hl
  refine lv_iload_n hx hb dX4_isPart_0 rfl (lv_at hl 0 rfl) ?_
  refine lv_sipush (v := (-20000)) hx hb dX4_isPart_1 (by decide) ?_
  refine lv_sipush (v := 20000) hx hb dX4_isPart_4 (by decide) ?_
  refine pcI (va_runS (As := [.int v0, .int (-20000), .int 20000]) (rest := []) ⟨hx, hb, hml, hown, hts⟩ (kX4_isWithin l D cI cO tt w s.heap v0 (-20000) 20000 ) (va_cwS 3 hts gX4_isPart_X4_isWithin rfl rfl rfl (by decide +kernel) ⟨(Nat.le_of_ble_eq_true rfl), (Nat.le_of_ble_eq_true rfl)⟩) (pwS hK hZ hN hP hS) rfl rfl hl.1 rfl (lv_room (Nat.le_of_ble_eq_true rfl)) dX4_isPart_7 ⟨Nat.zero_le _, Nat.zero_le _⟩) hS (fun locs hS => ?_)
  exact W.zret (v := bI ((-20000) ≤ v0 ∧ v0 ≤ 20000)) hx hb hr bI_nar (fun t ht hW => ⟨⟨bI ((-20000) ≤ v0 ∧ v0 ≤ 20000), (), rfl, (by rfl), ht⟩, hS.F ht⟩) hS.2.2 dX4_isPart_10
set_option maxHeartbeats 4000000 in
set_option maxRecDepth 100000 in
theorem kX4_asLong (l : Launch) (D : va_G) (cI cO : ClassId) (tt : Nat) (w : va_W) (H0 : Heap) (v0 : Int32)  : MpL l yX4_asLong wsX4_asLong ({ frames := 0, cells := 0, slots := 0, locals := 0 }) D cI cO tt (w) H0 [.int v0] ((-9223372036854775808) - v0.toInt64) := by
  refine Met.ofW (cc := cX4_asLong) (maxL := 1) (ret := (some .long)) (by decide) rfl ?_
  intro p e s m args below meth c s₁ B hml hv
  obtain ⟨rfl, rfl, hP, hK, hZ, hN⟩ := hv
  have hx := B.exec
  have hb := B.bytes
  have hr := B.returns
  have hts := atoms_spec (ws := wsX4_asLong) B.pre
  have hown : s.vm.findClass RX4 = some m.cls := findClass_of_methodNamed B.named
  have hlocks := B.notSynchronized
  have hS : va_S (fun _ => False) s.heap s.heap [] := va_S.rf
  have hl := lv_entry ([.int v0]) (n := 1) (Nat.le_of_ble_eq_true rfl)
  rw [lg_entry_eq]
  generalize (lg_sl ([.int v0]) ++ List.replicate (1 - (lg_sl ([.int v0])).length) Slot.unset).toArray = ls at hl ⊢
  have hl : lv_has ls 1 [(0, .int v0)] := hl
  have hw0 := hts (.constantLong RX4 269 (-9223372036854775808)) (List.mem_cons_of_mem _ ((List.mem_of_getElem? (i := 0) rfl)))
  refine lv_ldc2 hx hb hown hw0 dX4_asLong_0 ?_
  refine lv_iload_n hx hb dX4_asLong_3 rfl (lv_at hl 0 rfl) ?_
  refine lv_i2l hx hb dX4_asLong_4 rfl ?_
  refine lv_lsub hx hb dX4_asLong_5 ?_
  exact W.lret (v := (-9223372036854775808) - v0.toInt64) hx hb hr (fun t ht hW => ⟨⟨(-9223372036854775808) - v0.toInt64, (), rfl, (by rfl), ht⟩, hS.F ht⟩) hS.2.2 dX4_asLong_6
set_option maxHeartbeats 4000000 in
set_option maxRecDepth 100000 in
theorem kX4_asNumber (l : Launch) (D : va_G) (cI cO : ClassId) (tt : Nat) (w : va_W) (H0 : Heap) (v0 : Int32)  : MpI l yX4_asNumber wsX4_asNumber ({ frames := 0, cells := 0, slots := 0, locals := 0 }) D cI cO tt (w) H0 [.int v0] (bI (¬ v0 = 0)) := by
  refine Met.ofW (cc := cX4_asNumber) (maxL := 1) (ret := (some .int)) (by decide) rfl ?_
  intro p e s m args below meth c s₁ B hml hv
  obtain ⟨rfl, rfl, hP, hK, hZ, hN⟩ := hv
  have hx := B.exec
  have hb := B.bytes
  have hr := B.returns
  have hts := atoms_spec (ws := wsX4_asNumber) B.pre
  have hown : s.vm.findClass RX4 = some m.cls := findClass_of_methodNamed B.named
  have hlocks := B.notSynchronized
  have hS : va_S (fun _ => False) s.heap s.heap [] := va_S.rf
  have hl := lv_entry ([.int v0]) (n := 1) (Nat.le_of_ble_eq_true rfl)
  rw [lg_entry_eq]
  generalize (lg_sl ([.int v0]) ++ List.replicate (1 - (lg_sl ([.int v0])).length) Slot.unset).toArray = ls at hl ⊢
  have hl : lv_has ls 1 [(0, .int v0)] := hl
  refine lv_iload_n hx hb dX4_asNumber_0 rfl (lv_at hl 0 rfl) ?_
  refine lv_if_eq (tgt := 8) hx hb dX4_asNumber_1 (by decide) (fun c_1 => ?_) (fun c_1 => ?_)
  · refine lv_iconst (v := 0) hx hb dX4_asNumber_8 (by decide) ?_
    exact W.iret (v := 0) hx hb hr (fun t ht hW => ⟨⟨0, (), rfl, (by grind [bI]), ht⟩, hS.F ht⟩) hS.2.2 dX4_asNumber_9
  · refine lv_iconst (v := 1) hx hb dX4_asNumber_4 (by decide) ?_
    refine lv_goto (tgt := 9) hx hb dX4_asNumber_5 (by decide) ?_
    exact W.iret (v := 1) hx hb hr (fun t ht hW => ⟨⟨1, (), rfl, (by grind [bI]), ht⟩, hS.F ht⟩) hS.2.2 dX4_asNumber_9
set_option maxHeartbeats 4000000 in
set_option maxRecDepth 100000 in
theorem kX0_isNone (l : Launch) (D : va_G) (cI cO : ClassId) (tt : Nat) (w : va_W) (H0 : Heap) (v0 : Int32)  : MpI l yX0_isNone wsX0_isNone ({ frames := 0, cells := 0, slots := 0, locals := 0 }) D cI cO tt (w) H0 [.int v0] (bI (nn v0)) := by
  refine Met.ofW (cc := cX0_isNone) (maxL := 1) (ret := (some .boolean)) (by decide) rfl ?_
  intro p e s m args below meth c s₁ B hml hv
  obtain ⟨rfl, rfl, hP, hK, hZ, hN⟩ := hv
  have hx := B.exec
  have hb := B.bytes
  have hr := B.returns
  have hts := atoms_spec (ws := wsX0_isNone) B.pre
  have hown : s.vm.findClass RX0 = some m.cls := findClass_of_methodNamed B.named
  have hlocks := B.notSynchronized
  have hS : va_S (fun _ => False) s.heap s.heap [] := va_S.rf
  have hl := lv_entry ([.int v0]) (n := 1) (Nat.le_of_ble_eq_true rfl)
  rw [lg_entry_eq]
  generalize (lg_sl ([.int v0]) ++ List.replicate (1 - (lg_sl ([.int v0])).length) Slot.unset).toArray = ls at hl ⊢
  have hl : lv_has ls 1 [(0, .int v0)] := hl
  refine lv_iload_n hx hb dX0_isNone_0 rfl (lv_at hl 0 rfl) ?_
  refine lv_bipush (v := (-128)) hx hb dX0_isNone_1 (by decide) ?_
  refine lv_icmp_le (tgt := 13) hx hb dX0_isNone_3 (by decide) (fun c_1 => ?_) (fun c_1 => ?_)
  · refine lv_iconst (v := 1) hx hb dX0_isNone_13 (by decide) ?_
    refine lv_goto (tgt := 18) hx hb dX0_isNone_14 (by decide) ?_
    exact W.zret (v := 1) hx hb hr rfl (fun t ht hW => ⟨⟨1, (), rfl, (by grind [bI]), ht⟩, hS.F ht⟩) hS.2.2 dX0_isNone_18
  · refine lv_iload_n hx hb dX0_isNone_6 rfl (lv_at hl 0 rfl) ?_
    refine lv_sipush (v := 20000) hx hb dX0_isNone_7 (by decide) ?_
    refine lv_icmp_le (tgt := 17) hx hb dX0_isNone_10 (by decide) (fun c_2 => ?_) (fun c_2 => ?_)
    · refine lv_iconst (v := 0) hx hb dX0_isNone_17 (by decide) ?_
      exact W.zret (v := 0) hx hb hr rfl (fun t ht hW => ⟨⟨0, (), rfl, (by grind [bI]), ht⟩, hS.F ht⟩) hS.2.2 dX0_isNone_18
    · refine lv_iconst (v := 1) hx hb dX0_isNone_13 (by decide) ?_
      refine lv_goto (tgt := 18) hx hb dX0_isNone_14 (by decide) ?_
      exact W.zret (v := 1) hx hb hr rfl (fun t ht hW => ⟨⟨1, (), rfl, (by grind [bI]), ht⟩, hS.F ht⟩) hS.2.2 dX0_isNone_18
set_option maxHeartbeats 4000000 in
set_option maxRecDepth 100000 in
theorem kX4_cOf (l : Launch) (D : va_G) (cI cO : ClassId) (tt : Nat) (w : va_W) (H0 : Heap) (t0 : Int32)  : MpL l yX4_cOf wsX4_cOf ({ frames := 0, cells := 0, slots := 0, locals := 0 }) D cI cO tt (w) H0 [.int t0] (tuC t0) := by
  refine Met.ofW (cc := cX4_cOf) (maxL := 1) (ret := (some .long)) (by decide) rfl ?_
  intro p e s m args below meth c s₁ B hml hv
  obtain ⟨rfl, rfl, hP, hK, hZ, hN⟩ := hv
  have hx := B.exec
  have hb := B.bytes
  have hr := B.returns
  have hts := atoms_spec (ws := wsX4_cOf) B.pre
  have hown : s.vm.findClass RX4 = some m.cls := findClass_of_methodNamed B.named
  have hlocks := B.notSynchronized
  have hS : va_S (fun _ => False) s.heap s.heap [] := va_S.rf
  have hl := lv_entry ([.int t0]) (n := 1) (Nat.le_of_ble_eq_true rfl)
  rw [lg_entry_eq]
  generalize (lg_sl ([.int t0]) ++ List.replicate (1 - (lg_sl ([.int t0])).length) Slot.unset).toArray = ls at hl ⊢
  have hl : lv_has ls 1 [(0, .int t0)] := hl
  have hw0 := hts (.fieldLink RX4 271 "LayerSounder" "C_OF_TURNS" "[I") (List.mem_cons_of_mem _ ((List.mem_of_getElem? (i := 0) rfl)))
  refine lv_iload_n hx hb dX4_cOf_0 rfl (lv_at hl 0 rfl) ?_
  refine lv_if_lt (tgt := 19) hx hb dX4_cOf_1 (by decide) (fun c_1 => ?_) (fun c_1 => ?_)
  · refine lv_lconst (v := 0) hx hb dX4_cOf_19 (by decide) ?_
    exact W.lret (v := 0) hx hb hr (fun t ht hW => ⟨⟨0, (), rfl, (by grind [tuC]), ht⟩, hS.F ht⟩) hS.2.2 dX4_cOf_20
  · refine lv_iload_n hx hb dX4_cOf_4 rfl (lv_at hl 0 rfl) ?_
    refine lv_bipush (v := 36) hx hb dX4_cOf_5 (by decide) ?_
    refine lv_icmp_ge (tgt := 19) hx hb dX4_cOf_7 (by decide) (fun c_2 => ?_) (fun c_2 => ?_)
    · refine lv_lconst (v := 0) hx hb dX4_cOf_19 (by decide) ?_
      exact W.lret (v := 0) hx hb hr (fun t ht hW => ⟨⟨0, (), rfl, (by grind [tuC]), ht⟩, hS.F ht⟩) hS.2.2 dX4_cOf_20
    · refine va_gets hx hb hZ.1 hS hown hw0 (fun _ h9 => h9) dX4_cOf_10 ?_
      refine lv_iload_n hx hb dX4_cOf_13 rfl (lv_at hl 0 rfl) ?_
      refine va_ti hx hb hZ.2 hS (vin (by grind) (by grind : t0 < 36) (by decide) (by decide)) rfl dX4_cOf_14 ?_
      refine lv_i2l hx hb dX4_cOf_15 rfl ?_
      refine lv_goto (tgt := 20) hx hb dX4_cOf_16 (by decide) ?_
      exact W.lret (v := (ct t0.toNatClampNeg).toInt64) hx hb hr (fun t ht hW => ⟨⟨(ct t0.toNatClampNeg).toInt64, (), rfl, (by grind [tuC]), ht⟩, hS.F ht⟩) hS.2.2 dX4_cOf_20
set_option maxHeartbeats 4000000 in
set_option maxRecDepth 100000 in
theorem kX4_sOf (l : Launch) (D : va_G) (cI cO : ClassId) (tt : Nat) (w : va_W) (H0 : Heap) (t0 : Int32)  : MpL l yX4_sOf wsX4_sOf ({ frames := 0, cells := 0, slots := 0, locals := 0 }) D cI cO tt (w) H0 [.int t0] (tuS t0) := by
  refine Met.ofW (cc := cX4_sOf) (maxL := 1) (ret := (some .long)) (by decide) rfl ?_
  intro p e s m args below meth c s₁ B hml hv
  obtain ⟨rfl, rfl, hP, hK, hZ, hN⟩ := hv
  have hx := B.exec
  have hb := B.bytes
  have hr := B.returns
  have hts := atoms_spec (ws := wsX4_sOf) B.pre
  have hown : s.vm.findClass RX4 = some m.cls := findClass_of_methodNamed B.named
  have hlocks := B.notSynchronized
  have hS : va_S (fun _ => False) s.heap s.heap [] := va_S.rf
  have hl := lv_entry ([.int t0]) (n := 1) (Nat.le_of_ble_eq_true rfl)
  rw [lg_entry_eq]
  generalize (lg_sl ([.int t0]) ++ List.replicate (1 - (lg_sl ([.int t0])).length) Slot.unset).toArray = ls at hl ⊢
  have hl : lv_has ls 1 [(0, .int t0)] := hl
  have hw0 := hts (.fieldLink RX4 271 "LayerSounder" "C_OF_TURNS" "[I") (List.mem_cons_of_mem _ ((List.mem_of_getElem? (i := 0) rfl)))
  refine lv_iload_n hx hb dX4_sOf_0 rfl (lv_at hl 0 rfl) ?_
  refine lv_if_lt (tgt := 25) hx hb dX4_sOf_1 (by decide) (fun c_1 => ?_) (fun c_1 => ?_)
  · refine lv_lconst (v := 0) hx hb dX4_sOf_25 (by decide) ?_
    exact W.lret (v := 0) hx hb hr (fun t ht hW => ⟨⟨0, (), rfl, (by grind [tuS]), ht⟩, hS.F ht⟩) hS.2.2 dX4_sOf_26
  · refine lv_iload_n hx hb dX4_sOf_4 rfl (lv_at hl 0 rfl) ?_
    refine lv_bipush (v := 36) hx hb dX4_sOf_5 (by decide) ?_
    refine lv_icmp_ge (tgt := 25) hx hb dX4_sOf_7 (by decide) (fun c_2 => ?_) (fun c_2 => ?_)
    · refine lv_lconst (v := 0) hx hb dX4_sOf_25 (by decide) ?_
      exact W.lret (v := 0) hx hb hr (fun t ht hW => ⟨⟨0, (), rfl, (by grind [tuS]), ht⟩, hS.F ht⟩) hS.2.2 dX4_sOf_26
    · refine va_gets hx hb hZ.1 hS hown hw0 (fun _ h9 => h9) dX4_sOf_10 ?_
      refine lv_iload_n hx hb dX4_sOf_13 rfl (lv_at hl 0 rfl) ?_
      refine lv_bipush (v := 27) hx hb dX4_sOf_14 (by decide) ?_
      refine lv_iadd hx hb dX4_sOf_16 ?_
      refine lv_bipush (v := 36) hx hb dX4_sOf_17 (by decide) ?_
      refine lv_irem hx hb dX4_sOf_19 (by decide) ?_
      refine va_ti hx hb hZ.2 hS (vin_s (by grind) (by grind)) rfl dX4_sOf_20 ?_
      refine lv_i2l hx hb dX4_sOf_21 rfl ?_
      refine lv_goto (tgt := 26) hx hb dX4_sOf_22 (by decide) ?_
      exact W.lret (v := (ct ((t0 + 27) - (t0 + 27) / 36 * 36).toNatClampNeg).toInt64) hx hb hr (fun t ht hW => ⟨⟨(ct ((t0 + 27) - (t0 + 27) / 36 * 36).toNatClampNeg).toInt64, (), rfl, (by grind [tuS]), ht⟩, hS.F ht⟩) hS.2.2 dX4_sOf_26
set_option maxHeartbeats 4000000 in
set_option maxRecDepth 100000 in
theorem kX4_xTurned (l : Launch) (D : va_G) (cI cO : ClassId) (tt : Nat) (w : va_W) (H0 : Heap) (x0 : Int64) (y0 : Int64) (t0 : Int32)  : MpL l yX4_xTurned wsX4_xTurned ({ frames := 1, cells := 0, slots := 0, locals := 20 }) D cI cO tt (w) H0 [.long x0, .long y0, .int t0] (xT x0 y0 t0) := by
  refine Met.ofW (cc := cX4_xTurned) (maxL := 5) (ret := (some .long)) (by decide) rfl ?_
  intro p e s m args below meth c s₁ B hml hv
  obtain ⟨rfl, rfl, hP, hK, hZ, hN⟩ := hv
  have hx := B.exec
  have hb := B.bytes
  have hr := B.returns
  have hts := atoms_spec (ws := wsX4_xTurned) B.pre
  have hown : s.vm.findClass RX4 = some m.cls := findClass_of_methodNamed B.named
  have hlocks := B.notSynchronized
  have hS : va_S (fun _ => False) s.heap s.heap [] := va_S.rf
  have hl := lv_entry ([.long x0, .long y0, .int t0]) (n := 5) (Nat.le_of_ble_eq_true rfl)
  rw [lg_entry_eq]
  generalize (lg_sl ([.long x0, .long y0, .int t0]) ++ List.replicate (5 - (lg_sl ([.long x0, .long y0, .int t0])).length) Slot.unset).toArray = ls at hl ⊢
  have hl : lv_has ls 5 [(0, .long x0), (2, .long y0), (4, .int t0)] := hl
  refine lv_iload hx hb dX4_xTurned_0 (lv_at hl 2 rfl) ?_
  refine pcL (va_runS (As := [.int t0]) (rest := []) ⟨hx, hb, hml, hown, hts⟩ (kX4_cOf l D cI cO tt w s.heap t0 ) (va_cwS 1 hts gX4_xTurned_X4_cOf rfl rfl rfl (by decide +kernel) ⟨(Nat.le_of_ble_eq_true rfl), (Nat.le_of_ble_eq_true rfl)⟩) (pwS hK hZ hN hP hS) rfl rfl hl.1 rfl (lv_room (Nat.le_of_ble_eq_true rfl)) dX4_xTurned_2 ⟨Nat.zero_le _, Nat.zero_le _⟩) hS (fun locs hS => ?_)
  refine lv_lload_n hx hb dX4_xTurned_5 rfl (lv_at hl 0 rfl) ?_
  refine lv_lmul hx hb dX4_xTurned_6 ?_
  refine lv_iload hx hb dX4_xTurned_7 (lv_at hl 2 rfl) ?_
  refine pcL (va_runS (As := [.int t0]) (rest := [.long ((tuC t0) * x0)]) ⟨hx, hb, hml, hown, hts⟩ (kX4_sOf l D cI cO tt w s.heap t0 ) (va_cwS 1 hts gX4_xTurned_X4_sOf rfl rfl rfl (by decide +kernel) ⟨(Nat.le_of_ble_eq_true rfl), (Nat.le_of_ble_eq_true rfl)⟩) (pwS hK hZ hN hP hS) rfl rfl hl.1 rfl (lv_room (Nat.le_of_ble_eq_true rfl)) dX4_xTurned_9 ⟨Nat.zero_le _, Nat.zero_le _⟩) hS (fun locs hS => ?_)
  refine lv_lload_n hx hb dX4_xTurned_12 rfl (lv_at hl 1 rfl) ?_
  refine lv_lmul hx hb dX4_xTurned_13 ?_
  refine lv_lsub hx hb dX4_xTurned_14 ?_
  exact W.lret (v := ((tuC t0) * x0) - ((tuS t0) * y0)) hx hb hr (fun t ht hW => ⟨⟨((tuC t0) * x0) - ((tuS t0) * y0), (), rfl, (by rfl), ht⟩, hS.F ht⟩) hS.2.2 dX4_xTurned_15
set_option maxHeartbeats 4000000 in
set_option maxRecDepth 100000 in
theorem kX4_yTurned (l : Launch) (D : va_G) (cI cO : ClassId) (tt : Nat) (w : va_W) (H0 : Heap) (x0 : Int64) (y0 : Int64) (t0 : Int32)  : MpL l yX4_yTurned wsX4_yTurned ({ frames := 1, cells := 0, slots := 0, locals := 20 }) D cI cO tt (w) H0 [.long x0, .long y0, .int t0] (yT x0 y0 t0) := by
  refine Met.ofW (cc := cX4_yTurned) (maxL := 5) (ret := (some .long)) (by decide) rfl ?_
  intro p e s m args below meth c s₁ B hml hv
  obtain ⟨rfl, rfl, hP, hK, hZ, hN⟩ := hv
  have hx := B.exec
  have hb := B.bytes
  have hr := B.returns
  have hts := atoms_spec (ws := wsX4_yTurned) B.pre
  have hown : s.vm.findClass RX4 = some m.cls := findClass_of_methodNamed B.named
  have hlocks := B.notSynchronized
  have hS : va_S (fun _ => False) s.heap s.heap [] := va_S.rf
  have hl := lv_entry ([.long x0, .long y0, .int t0]) (n := 5) (Nat.le_of_ble_eq_true rfl)
  rw [lg_entry_eq]
  generalize (lg_sl ([.long x0, .long y0, .int t0]) ++ List.replicate (5 - (lg_sl ([.long x0, .long y0, .int t0])).length) Slot.unset).toArray = ls at hl ⊢
  have hl : lv_has ls 5 [(0, .long x0), (2, .long y0), (4, .int t0)] := hl
  refine lv_iload hx hb dX4_yTurned_0 (lv_at hl 2 rfl) ?_
  refine pcL (va_runS (As := [.int t0]) (rest := []) ⟨hx, hb, hml, hown, hts⟩ (kX4_sOf l D cI cO tt w s.heap t0 ) (va_cwS 1 hts gX4_yTurned_X4_sOf rfl rfl rfl (by decide +kernel) ⟨(Nat.le_of_ble_eq_true rfl), (Nat.le_of_ble_eq_true rfl)⟩) (pwS hK hZ hN hP hS) rfl rfl hl.1 rfl (lv_room (Nat.le_of_ble_eq_true rfl)) dX4_yTurned_2 ⟨Nat.zero_le _, Nat.zero_le _⟩) hS (fun locs hS => ?_)
  refine lv_lload_n hx hb dX4_yTurned_5 rfl (lv_at hl 0 rfl) ?_
  refine lv_lmul hx hb dX4_yTurned_6 ?_
  refine lv_iload hx hb dX4_yTurned_7 (lv_at hl 2 rfl) ?_
  refine pcL (va_runS (As := [.int t0]) (rest := [.long ((tuS t0) * x0)]) ⟨hx, hb, hml, hown, hts⟩ (kX4_cOf l D cI cO tt w s.heap t0 ) (va_cwS 1 hts gX4_yTurned_X4_cOf rfl rfl rfl (by decide +kernel) ⟨(Nat.le_of_ble_eq_true rfl), (Nat.le_of_ble_eq_true rfl)⟩) (pwS hK hZ hN hP hS) rfl rfl hl.1 rfl (lv_room (Nat.le_of_ble_eq_true rfl)) dX4_yTurned_9 ⟨Nat.zero_le _, Nat.zero_le _⟩) hS (fun locs hS => ?_)
  refine lv_lload_n hx hb dX4_yTurned_12 rfl (lv_at hl 1 rfl) ?_
  refine lv_lmul hx hb dX4_yTurned_13 ?_
  refine lv_ladd hx hb dX4_yTurned_14 ?_
  exact W.lret (v := ((tuS t0) * x0) + ((tuC t0) * y0)) hx hb hr (fun t ht hW => ⟨⟨((tuS t0) * x0) + ((tuC t0) * y0), (), rfl, (by rfl), ht⟩, hS.F ht⟩) hS.2.2 dX4_yTurned_15
set_option maxHeartbeats 4000000 in
set_option maxRecDepth 100000 in
theorem kX4_belowZero (l : Launch) (D : va_G) (cI cO : ClassId) (tt : Nat) (w : va_W) (H0 : Heap) (x0 : Int64)  : MpL l yX4_belowZero wsX4_belowZero ({ frames := 0, cells := 0, slots := 0, locals := 0 }) D cI cO tt (w) H0 [.long x0] (bz x0) := by
  refine Met.ofW (cc := cX4_belowZero) (maxL := 2) (ret := (some .long)) (by decide) rfl ?_
  intro p e s m args below meth c s₁ B hml hv
  obtain ⟨rfl, rfl, hP, hK, hZ, hN⟩ := hv
  have hx := B.exec
  have hb := B.bytes
  have hr := B.returns
  have hts := atoms_spec (ws := wsX4_belowZero) B.pre
  have hown : s.vm.findClass RX4 = some m.cls := findClass_of_methodNamed B.named
  have hlocks := B.notSynchronized
  have hS : va_S (fun _ => False) s.heap s.heap [] := va_S.rf
  have hl := lv_entry ([.long x0]) (n := 2) (Nat.le_of_ble_eq_true rfl)
  rw [lg_entry_eq]
  generalize (lg_sl ([.long x0]) ++ List.replicate (2 - (lg_sl ([.long x0])).length) Slot.unset).toArray = ls at hl ⊢
  have hl : lv_has ls 2 [(0, .long x0)] := hl
  refine lv_lload_n hx hb dX4_belowZero_0 rfl (lv_at hl 0 rfl) ?_
  refine lv_lconst (v := 0) hx hb dX4_belowZero_1 (by decide) ?_
  refine W.lcmp hx hb dX4_belowZero_2 ?_
  refine lv_if_le (tgt := 11) hx hb dX4_belowZero_3 (by decide) (fun c_1 => ?_) (fun c_1 => ?_)
  · have c_1 := (lg_cmp_le _ _).mp c_1
    refine lv_lload_n hx hb dX4_belowZero_11 rfl (lv_at hl 0 rfl) ?_
    exact W.lret (v := x0) hx hb hr (fun t ht hW => ⟨⟨x0, (), rfl, (by grind [bz]), ht⟩, hS.F ht⟩) hS.2.2 dX4_belowZero_12
  · have c_1 := fun h => c_1 ((lg_cmp_le _ _).mpr h)
    refine lv_lload_n hx hb dX4_belowZero_6 rfl (lv_at hl 0 rfl) ?_
    refine lv_lneg hx hb dX4_belowZero_7 ?_
    refine lv_goto (tgt := 12) hx hb dX4_belowZero_8 (by decide) ?_
    exact W.lret (v := -x0) hx hb hr (fun t ht hW => ⟨⟨-x0, (), rfl, (by grind [bz]), ht⟩, hS.F ht⟩) hS.2.2 dX4_belowZero_12
set_option maxHeartbeats 4000000 in
set_option maxRecDepth 100000 in
theorem kX2_isLost (l : Launch) (D : va_G) (cI cO : ClassId) (tt : Nat) (ad : Nat → Nat) (g : Nat → Nat → Int32) (b : Nat → Int32) (d : Nat → Nat → Int64) (X : va_W) (H0 : Heap) (rr : Nat) (hrr : rr < 8) : MpI l yX2_isLost wsX2_isLost ({ frames := 0, cells := 0, slots := 0, locals := 0 }) D cI cO tt (LW ad cI cO g b d X) H0 [.ref (ad (12 + rr))] (bI (g 4 rr = -1)) := by
  refine Met.ofW (cc := cX2_isLost) (maxL := 1) (ret := (some .boolean)) (by decide) rfl ?_
  intro p e s m args below meth c s₁ B hml hv
  obtain ⟨rfl, rfl, hP, hK, hZ, hN⟩ := hv
  have hx := B.exec
  have hb := B.bytes
  have hr := B.returns
  have hts := atoms_spec (ws := wsX2_isLost) B.pre
  have hown : s.vm.findClass RX2 = some m.cls := findClass_of_methodNamed B.named
  have hlocks := B.notSynchronized
  have hS : va_S (fun _ => False) s.heap s.heap [] := va_S.rf
  have hl := lv_entry ([.ref (ad (12 + rr))]) (n := 1) (Nat.le_of_ble_eq_true rfl)
  rw [lg_entry_eq]
  generalize (lg_sl ([.ref (ad (12 + rr))]) ++ List.replicate (1 - (lg_sl ([.ref (ad (12 + rr))])).length) Slot.unset).toArray = ls at hl ⊢
  have hl : lv_has ls 1 [(0, .ref (ad (12 + rr)))] := hl
  have hw0 := hts (.fieldLink RX2 15 "LayerSounder$Reel" "form" "I") (List.mem_cons_of_mem _ (List.mem_append_left _ (List.mem_of_getElem? (i := 0) rfl)))
  have iX2 : ∀ w ∈ wsX20, w ∈ wsX2_isLost := fun _ h => List.mem_cons_of_mem _ (List.mem_append_right _ h)
  refine lv_aload_n hx hb dX2_isLost_0 rfl (lv_at hl 0 rfl) ?_
  refine va_get (D := D) (ci := 2) (v := .int (g 4 rr)) (C := RX2) (T := TX2) (N := 3) hx hb hts iX2 hown hK hP (12 + rr) (LW_r hrr) rfl 1 (by decide) hw0 (fun _ h9 => h9) rfl dX2_isLost_1 ?_
  refine lv_iconst (v := (-1)) hx hb dX2_isLost_4 (by decide) ?_
  refine lv_icmp_ne (tgt := 12) hx hb dX2_isLost_5 (by decide) (fun c_1 => ?_) (fun c_1 => ?_)
  · refine lv_iconst (v := 0) hx hb dX2_isLost_12 (by decide) ?_
    exact W.zret (v := 0) hx hb hr rfl (fun t ht hW => ⟨⟨0, (), rfl, (by grind [bI]), ht⟩, hS.F ht⟩) hS.2.2 dX2_isLost_13
  · refine lv_iconst (v := 1) hx hb dX2_isLost_8 (by decide) ?_
    refine lv_goto (tgt := 13) hx hb dX2_isLost_9 (by decide) ?_
    exact W.zret (v := 1) hx hb hr rfl (fun t ht hW => ⟨⟨1, (), rfl, (by grind [bI]), ht⟩, hS.F ht⟩) hS.2.2 dX2_isLost_13
set_option maxHeartbeats 4000000 in
set_option maxRecDepth 100000 in
theorem kX2_holds (l : Launch) (D : va_G) (cI cO : ClassId) (tt : Nat) (ad : Nat → Nat) (g : Nat → Nat → Int32) (b : Nat → Int32) (d : Nat → Nat → Int64) (X : va_W) (H0 : Heap) (rr : Nat) (i0 : Int32) (hrr : rr < 8) : MpI l yX2_holds wsX2_holds ({ frames := 0, cells := 0, slots := 0, locals := 0 }) D cI cO tt (LW ad cI cO g b d X) H0 [.ref (ad (12 + rr)), .int i0] (bI (0 ≤ i0 ∧ i0 < g 5 rr)) := by
  refine Met.ofW (cc := cX2_holds) (maxL := 2) (ret := (some .boolean)) (by decide) rfl ?_
  intro p e s m args below meth c s₁ B hml hv
  obtain ⟨rfl, rfl, hP, hK, hZ, hN⟩ := hv
  have hx := B.exec
  have hb := B.bytes
  have hr := B.returns
  have hts := atoms_spec (ws := wsX2_holds) B.pre
  have hown : s.vm.findClass RX2 = some m.cls := findClass_of_methodNamed B.named
  have hlocks := B.notSynchronized
  have hS : va_S (fun _ => False) s.heap s.heap [] := va_S.rf
  have hl := lv_entry ([.ref (ad (12 + rr)), .int i0]) (n := 2) (Nat.le_of_ble_eq_true rfl)
  rw [lg_entry_eq]
  generalize (lg_sl ([.ref (ad (12 + rr)), .int i0]) ++ List.replicate (2 - (lg_sl ([.ref (ad (12 + rr)), .int i0])).length) Slot.unset).toArray = ls at hl ⊢
  have hl : lv_has ls 2 [(0, .ref (ad (12 + rr))), (1, .int i0)] := hl
  have hw0 := hts (.fieldLink RX2 19 "LayerSounder$Reel" "size" "I") (List.mem_cons_of_mem _ (List.mem_append_left _ (List.mem_of_getElem? (i := 0) rfl)))
  have iX2 : ∀ w ∈ wsX20, w ∈ wsX2_holds := fun _ h => List.mem_cons_of_mem _ (List.mem_append_right _ h)
  refine lv_iload_n hx hb dX2_holds_0 rfl (lv_at hl 1 rfl) ?_
  refine lv_if_lt (tgt := 16) hx hb dX2_holds_1 (by decide) (fun c_1 => ?_) (fun c_1 => ?_)
  · refine lv_iconst (v := 0) hx hb dX2_holds_16 (by decide) ?_
    exact W.zret (v := 0) hx hb hr rfl (fun t ht hW => ⟨⟨0, (), rfl, (by grind [bI]), ht⟩, hS.F ht⟩) hS.2.2 dX2_holds_17
  · refine lv_iload_n hx hb dX2_holds_4 rfl (lv_at hl 1 rfl) ?_
    refine lv_aload_n hx hb dX2_holds_5 rfl (lv_at hl 0 rfl) ?_
    refine va_get (D := D) (ci := 2) (v := .int (g 5 rr)) (C := RX2) (T := TX2) (N := 3) hx hb hts iX2 hown hK hP (12 + rr) (LW_r hrr) rfl 2 (by decide) hw0 (fun _ h9 => h9) rfl dX2_holds_6 ?_
    refine lv_icmp_ge (tgt := 16) hx hb dX2_holds_9 (by decide) (fun c_2 => ?_) (fun c_2 => ?_)
    · refine lv_iconst (v := 0) hx hb dX2_holds_16 (by decide) ?_
      exact W.zret (v := 0) hx hb hr rfl (fun t ht hW => ⟨⟨0, (), rfl, (by grind [bI]), ht⟩, hS.F ht⟩) hS.2.2 dX2_holds_17
    · refine lv_iconst (v := 1) hx hb dX2_holds_12 (by decide) ?_
      refine lv_goto (tgt := 17) hx hb dX2_holds_13 (by decide) ?_
      exact W.zret (v := 1) hx hb hr rfl (fun t ht hW => ⟨⟨1, (), rfl, (by grind [bI]), ht⟩, hS.F ht⟩) hS.2.2 dX2_holds_17
set_option maxHeartbeats 4000000 in
set_option maxRecDepth 100000 in
theorem kX2_holdsRun (l : Launch) (D : va_G) (cI cO : ClassId) (tt : Nat) (ad : Nat → Nat) (g : Nat → Nat → Int32) (b : Nat → Int32) (d : Nat → Nat → Int64) (X : va_W) (H0 : Heap) (rr : Nat) (i0 : Int32) (n0 : Int32) (hrr : rr < 8) : MpI l yX2_holdsRun wsX2_holdsRun ({ frames := 0, cells := 0, slots := 0, locals := 0 }) D cI cO tt (LW ad cI cO g b d X) H0 [.ref (ad (12 + rr)), .int i0, .int n0] (bI (0 ≤ i0 ∧ 0 ≤ n0 ∧ i0 ≤ g 5 rr - n0)) := by
  refine Met.ofW (cc := cX2_holdsRun) (maxL := 3) (ret := (some .boolean)) (by decide) rfl ?_
  intro p e s m args below meth c s₁ B hml hv
  obtain ⟨rfl, rfl, hP, hK, hZ, hN⟩ := hv
  have hx := B.exec
  have hb := B.bytes
  have hr := B.returns
  have hts := atoms_spec (ws := wsX2_holdsRun) B.pre
  have hown : s.vm.findClass RX2 = some m.cls := findClass_of_methodNamed B.named
  have hlocks := B.notSynchronized
  have hS : va_S (fun _ => False) s.heap s.heap [] := va_S.rf
  have hl := lv_entry ([.ref (ad (12 + rr)), .int i0, .int n0]) (n := 3) (Nat.le_of_ble_eq_true rfl)
  rw [lg_entry_eq]
  generalize (lg_sl ([.ref (ad (12 + rr)), .int i0, .int n0]) ++ List.replicate (3 - (lg_sl ([.ref (ad (12 + rr)), .int i0, .int n0])).length) Slot.unset).toArray = ls at hl ⊢
  have hl : lv_has ls 3 [(0, .ref (ad (12 + rr))), (1, .int i0), (2, .int n0)] := hl
  have hw0 := hts (.fieldLink RX2 19 "LayerSounder$Reel" "size" "I") (List.mem_cons_of_mem _ (List.mem_append_left _ (List.mem_of_getElem? (i := 0) rfl)))
  have iX2 : ∀ w ∈ wsX20, w ∈ wsX2_holdsRun := fun _ h => List.mem_cons_of_mem _ (List.mem_append_right _ h)
  refine lv_iload_n hx hb dX2_holdsRun_0 rfl (lv_at hl 1 rfl) ?_
  refine lv_if_lt (tgt := 22) hx hb dX2_holdsRun_1 (by decide) (fun c_1 => ?_) (fun c_1 => ?_)
  · refine lv_iconst (v := 0) hx hb dX2_holdsRun_22 (by decide) ?_
    exact W.zret (v := 0) hx hb hr rfl (fun t ht hW => ⟨⟨0, (), rfl, (by grind [bI]), ht⟩, hS.F ht⟩) hS.2.2 dX2_holdsRun_23
  · refine lv_iload_n hx hb dX2_holdsRun_4 rfl (lv_at hl 2 rfl) ?_
    refine lv_if_lt (tgt := 22) hx hb dX2_holdsRun_5 (by decide) (fun c_2 => ?_) (fun c_2 => ?_)
    · refine lv_iconst (v := 0) hx hb dX2_holdsRun_22 (by decide) ?_
      exact W.zret (v := 0) hx hb hr rfl (fun t ht hW => ⟨⟨0, (), rfl, (by grind [bI]), ht⟩, hS.F ht⟩) hS.2.2 dX2_holdsRun_23
    · refine lv_iload_n hx hb dX2_holdsRun_8 rfl (lv_at hl 1 rfl) ?_
      refine lv_aload_n hx hb dX2_holdsRun_9 rfl (lv_at hl 0 rfl) ?_
      refine va_get (D := D) (ci := 2) (v := .int (g 5 rr)) (C := RX2) (T := TX2) (N := 3) hx hb hts iX2 hown hK hP (12 + rr) (LW_r hrr) rfl 2 (by decide) hw0 (fun _ h9 => h9) rfl dX2_holdsRun_10 ?_
      refine lv_iload_n hx hb dX2_holdsRun_13 rfl (lv_at hl 2 rfl) ?_
      refine lv_isub hx hb dX2_holdsRun_14 ?_
      refine lv_icmp_gt (tgt := 22) hx hb dX2_holdsRun_15 (by decide) (fun c_3 => ?_) (fun c_3 => ?_)
      · refine lv_iconst (v := 0) hx hb dX2_holdsRun_22 (by decide) ?_
        exact W.zret (v := 0) hx hb hr rfl (fun t ht hW => ⟨⟨0, (), rfl, (by grind [bI]), ht⟩, hS.F ht⟩) hS.2.2 dX2_holdsRun_23
      · refine lv_iconst (v := 1) hx hb dX2_holdsRun_18 (by decide) ?_
        refine lv_goto (tgt := 23) hx hb dX2_holdsRun_19 (by decide) ?_
        exact W.zret (v := 1) hx hb hr rfl (fun t ht hW => ⟨⟨1, (), rfl, (by grind [bI]), ht⟩, hS.F ht⟩) hS.2.2 dX2_holdsRun_23
set_option maxHeartbeats 4000000 in
set_option maxRecDepth 100000 in
theorem kX2_findingAt (l : Launch) (D : va_G) (cI cO : ClassId) (tt : Nat) (ad : Nat → Nat) (g : Nat → Nat → Int32) (b : Nat → Int32) (d : Nat → Nat → Int64) (X : va_W) (H0 : Heap) (rr : Nat) (f0 : Int32) (i0 : Int32) (hrr : rr < 8) : MpI l yX2_findingAt wsX2_findingAt ({ frames := 1, cells := 0, slots := 0, locals := 21 }) D cI cO tt (LW ad cI cO g b d X) H0 [.ref (ad (12 + rr)), .int f0, .int i0] (fnd g rr f0 i0) := by
  refine Met.ofW (cc := cX2_findingAt) (maxL := 3) (ret := (some .int)) (by decide) rfl ?_
  intro p e s m args below meth c s₁ B hml hv
  obtain ⟨rfl, rfl, hP, hK, hZ, hN⟩ := hv
  have hx := B.exec
  have hb := B.bytes
  have hr := B.returns
  have hts := atoms_spec (ws := wsX2_findingAt) B.pre
  have hown : s.vm.findClass RX2 = some m.cls := findClass_of_methodNamed B.named
  have hlocks := B.notSynchronized
  have hS : va_S (fun _ => False) s.heap s.heap [] := va_S.rf
  have hl := lv_entry ([.ref (ad (12 + rr)), .int f0, .int i0]) (n := 3) (Nat.le_of_ble_eq_true rfl)
  rw [lg_entry_eq]
  generalize (lg_sl ([.ref (ad (12 + rr)), .int f0, .int i0]) ++ List.replicate (3 - (lg_sl ([.ref (ad (12 + rr)), .int f0, .int i0])).length) Slot.unset).toArray = ls at hl ⊢
  have hl : lv_has ls 3 [(0, .ref (ad (12 + rr))), (1, .int f0), (2, .int i0)] := hl
  have hw0 := hts (.fieldLink RX2 15 "LayerSounder$Reel" "form" "I") (List.mem_cons_of_mem _ (List.mem_append_left _ (List.mem_of_getElem? (i := 0) rfl)))
  have iX2 : ∀ w ∈ wsX20, w ∈ wsX2_findingAt := fun _ h => List.mem_cons_of_mem _ (List.mem_append_right _ h)
  refine lv_aload_n hx hb dX2_findingAt_0 rfl (lv_at hl 0 rfl) ?_
  refine pcI (va_runV (As := []) (rest := []) ⟨hx, hb, hml, hown, hts⟩ (kX2_isLost l D cI cO tt ad g b d X s.heap rr hrr) (cwV 0 hts gX2_findingAt_X2_isLost rfl rfl rfl (by decide +kernel) ⟨(Nat.le_of_ble_eq_true rfl), (Nat.le_of_ble_eq_true rfl)⟩) (pwV hK hZ hN hP hS (va_recv hK hP (ci := 2) (q0 := (12 + rr)) rfl (LW_r hrr))) rfl rfl hl.1 rfl (lv_room (Nat.le_of_ble_eq_true rfl)) dX2_findingAt_1 ⟨Nat.zero_le _, Nat.zero_le _⟩) hS (fun locs hS => ?_)
  refine lv_if_eq (tgt := 9) hx hb dX2_findingAt_4 (by decide) (fun c_1 => ?_) (fun c_1 => ?_)
  · have c_1 := bI_0.mp c_1
    refine lv_aload_n hx hb dX2_findingAt_9 rfl (lv_at hl 0 rfl) ?_
    refine va_get (D := D) (ci := 2) (v := .int (g 4 rr)) (C := RX2) (T := TX2) (N := 3) hx hb hts iX2 hown hK hP (12 + rr) (LW_r hrr) rfl 1 (by decide) hw0 (fun _ h9 => h9) rfl dX2_findingAt_10 ?_
    refine lv_iload_n hx hb dX2_findingAt_13 rfl (lv_at hl 1 rfl) ?_
    refine lv_icmp_eq (tgt := 19) hx hb dX2_findingAt_14 (by decide) (fun c_2 => ?_) (fun c_2 => ?_)
    · refine lv_aload_n hx hb dX2_findingAt_19 rfl (lv_at hl 0 rfl) ?_
      refine lv_iload_n hx hb dX2_findingAt_20 rfl (lv_at hl 2 rfl) ?_
      refine pcI (va_runV (As := [.int i0]) (rest := []) ⟨hx, hb, hml, hown, hts⟩ (kX2_holds l D cI cO tt ad g b d X s.heap rr i0 hrr) (cwV 1 hts gX2_findingAt_X2_holds rfl rfl rfl (by decide +kernel) ⟨(Nat.le_of_ble_eq_true rfl), (Nat.le_of_ble_eq_true rfl)⟩) (pwV hK hZ hN hP hS (va_recv hK hP (ci := 2) (q0 := (12 + rr)) rfl (LW_r hrr))) rfl rfl hl.1 rfl (lv_room (Nat.le_of_ble_eq_true rfl)) dX2_findingAt_21 ⟨Nat.zero_le _, Nat.zero_le _⟩) hS (fun locs hS => ?_)
      refine lv_if_eq (tgt := 31) hx hb dX2_findingAt_24 (by decide) (fun c_3 => ?_) (fun c_3 => ?_)
      · have c_3 := bI_0.mp c_3
        refine lv_iconst (v := 2) hx hb dX2_findingAt_31 (by decide) ?_
        exact W.iret (v := 2) hx hb hr (fun t ht hW => ⟨⟨2, (), rfl, (by grind [fnd]), ht⟩, hS.F ht⟩) hS.2.2 dX2_findingAt_32
      · have c_3 := bI_n0.mp c_3
        refine lv_iconst (v := 0) hx hb dX2_findingAt_27 (by decide) ?_
        refine lv_goto (tgt := 32) hx hb dX2_findingAt_28 (by decide) ?_
        exact W.iret (v := 0) hx hb hr (fun t ht hW => ⟨⟨0, (), rfl, (by grind [fnd]), ht⟩, hS.F ht⟩) hS.2.2 dX2_findingAt_32
    · refine lv_iconst (v := 3) hx hb dX2_findingAt_17 (by decide) ?_
      exact W.iret (v := 3) hx hb hr (fun t ht hW => ⟨⟨3, (), rfl, (by grind [fnd]), ht⟩, hS.F ht⟩) hS.2.2 dX2_findingAt_18
  · have c_1 := bI_n0.mp c_1
    refine lv_iconst (v := 1) hx hb dX2_findingAt_7 (by decide) ?_
    exact W.iret (v := 1) hx hb hr (fun t ht hW => ⟨⟨1, (), rfl, (by grind [fnd]), ht⟩, hS.F ht⟩) hS.2.2 dX2_findingAt_8
set_option maxHeartbeats 4000000 in
set_option maxRecDepth 100000 in
theorem kX2_narrowed (l : Launch) (D : va_G) (cI cO : ClassId) (tt : Nat) (ad : Nat → Nat) (g : Nat → Nat → Int32) (b : Nat → Int32) (d : Nat → Nat → Int64) (X : va_W) (H0 : Heap) (rr : Nat) (v0 : Int32) (hrr : rr < 8) : MpI l yX2_narrowed wsX2_narrowed ({ frames := 0, cells := 0, slots := 0, locals := 0 }) D cI cO tt (LW ad cI cO g b d X) H0 [.ref (ad (12 + rr)), .int v0] (nrw (g 4 rr) v0) := by
  refine Met.ofW (cc := cX2_narrowed) (maxL := 2) (ret := (some .int)) (by decide) rfl ?_
  intro p e s m args below meth c s₁ B hml hv
  obtain ⟨rfl, rfl, hP, hK, hZ, hN⟩ := hv
  have hx := B.exec
  have hb := B.bytes
  have hr := B.returns
  have hts := atoms_spec (ws := wsX2_narrowed) B.pre
  have hown : s.vm.findClass RX2 = some m.cls := findClass_of_methodNamed B.named
  have hlocks := B.notSynchronized
  have hS : va_S (fun _ => False) s.heap s.heap [] := va_S.rf
  have hl := lv_entry ([.ref (ad (12 + rr)), .int v0]) (n := 2) (Nat.le_of_ble_eq_true rfl)
  rw [lg_entry_eq]
  generalize (lg_sl ([.ref (ad (12 + rr)), .int v0]) ++ List.replicate (2 - (lg_sl ([.ref (ad (12 + rr)), .int v0])).length) Slot.unset).toArray = ls at hl ⊢
  have hl : lv_has ls 2 [(0, .ref (ad (12 + rr))), (1, .int v0)] := hl
  have hw0 := hts (.fieldLink RX2 15 "LayerSounder$Reel" "form" "I") (List.mem_cons_of_mem _ (List.mem_append_left _ (List.mem_of_getElem? (i := 0) rfl)))
  have iX2 : ∀ w ∈ wsX20, w ∈ wsX2_narrowed := fun _ h => List.mem_cons_of_mem _ (List.mem_append_right _ h)
  refine lv_aload_n hx hb dX2_narrowed_0 rfl (lv_at hl 0 rfl) ?_
  refine va_get (D := D) (ci := 2) (v := .int (g 4 rr)) (C := RX2) (T := TX2) (N := 3) hx hb hts iX2 hown hK hP (12 + rr) (LW_r hrr) rfl 1 (by decide) hw0 (fun _ h9 => h9) rfl dX2_narrowed_1 ?_
  refine lv_if_ne (tgt := 10) hx hb dX2_narrowed_4 (by decide) (fun c_1 => ?_) (fun c_1 => ?_)
  · refine lv_aload_n hx hb dX2_narrowed_10 rfl (lv_at hl 0 rfl) ?_
    refine va_get (D := D) (ci := 2) (v := .int (g 4 rr)) (C := RX2) (T := TX2) (N := 3) hx hb hts iX2 hown hK hP (12 + rr) (LW_r hrr) rfl 1 (by decide) hw0 (fun _ h9 => h9) rfl dX2_narrowed_11 ?_
    refine lv_iconst (v := 1) hx hb dX2_narrowed_14 (by decide) ?_
    refine lv_icmp_ne (tgt := 23) hx hb dX2_narrowed_15 (by decide) (fun c_2 => ?_) (fun c_2 => ?_)
    · refine lv_iload_n hx hb dX2_narrowed_23 rfl (lv_at hl 1 rfl) ?_
      exact W.iret (v := v0) hx hb hr (fun t ht hW => ⟨⟨v0, (), rfl, (by grind [nrw]), ht⟩, hS.F ht⟩) hS.2.2 dX2_narrowed_24
    · refine lv_iload_n hx hb dX2_narrowed_18 rfl (lv_at hl 1 rfl) ?_
      refine lv_i2s hx hb dX2_narrowed_19 rfl ?_
      refine lv_goto (tgt := 24) hx hb dX2_narrowed_20 (by decide) ?_
      exact W.iret (v := v0.toInt16.toInt32) hx hb hr (fun t ht hW => ⟨⟨v0.toInt16.toInt32, (), rfl, (by grind [nrw]), ht⟩, hS.F ht⟩) hS.2.2 dX2_narrowed_24
  · refine lv_iload_n hx hb dX2_narrowed_7 rfl (lv_at hl 1 rfl) ?_
    refine lv_i2b hx hb dX2_narrowed_8 rfl ?_
    exact W.iret (v := v0.toInt8.toInt32) hx hb hr (fun t ht hW => ⟨⟨v0.toInt8.toInt32, (), rfl, (by grind [nrw]), ht⟩, hS.F ht⟩) hS.2.2 dX2_narrowed_9
set_option maxHeartbeats 4000000 in
set_option maxRecDepth 100000 in
theorem kX2_item (l : Launch) (D : va_G) (cI cO : ClassId) (tt : Nat) (ad : Nat → Nat) (g : Nat → Nat → Int32) (b : Nat → Int32) (d : Nat → Nat → Int64) (X : va_W) (H0 : Heap) (rr : Nat) (i0 : Int32) (hrr : rr < 8) (hI : WI g) : MpI l yX2_item wsX2_item ({ frames := 1, cells := 0, slots := 0, locals := 21 }) D cI cO tt (LW ad cI cO g b d X) H0 [.ref (ad (12 + rr)), .int i0] (if 0 ≤ i0 ∧ i0 < g 5 rr then g (10 + rr) i0.toNatClampNeg else 0) := by
  refine Met.ofW (cc := cX2_item) (maxL := 2) (ret := (some .int)) (by decide) rfl ?_
  intro p e s m args below meth c s₁ B hml hv
  obtain ⟨rfl, rfl, hP, hK, hZ, hN⟩ := hv
  have hx := B.exec
  have hb := B.bytes
  have hr := B.returns
  have hts := atoms_spec (ws := wsX2_item) B.pre
  have hown : s.vm.findClass RX2 = some m.cls := findClass_of_methodNamed B.named
  have hlocks := B.notSynchronized
  have hS : va_S (fun _ => False) s.heap s.heap [] := va_S.rf
  have hl := lv_entry ([.ref (ad (12 + rr)), .int i0]) (n := 2) (Nat.le_of_ble_eq_true rfl)
  rw [lg_entry_eq]
  generalize (lg_sl ([.ref (ad (12 + rr)), .int i0]) ++ List.replicate (2 - (lg_sl ([.ref (ad (12 + rr)), .int i0])).length) Slot.unset).toArray = ls at hl ⊢
  have hl : lv_has ls 2 [(0, .ref (ad (12 + rr))), (1, .int i0)] := hl
  have hw0 := hts (.fieldLink RX2 9 "LayerSounder$Reel" "items" "[I") (List.mem_cons_of_mem _ (List.mem_append_left _ (List.mem_of_getElem? (i := 0) rfl)))
  have iX2 : ∀ w ∈ wsX20, w ∈ wsX2_item := fun _ h => List.mem_cons_of_mem _ (List.mem_append_right _ h)
  refine lv_aload_n hx hb dX2_item_0 rfl (lv_at hl 0 rfl) ?_
  refine lv_iload_n hx hb dX2_item_1 rfl (lv_at hl 1 rfl) ?_
  refine pcI (va_runV (As := [.int i0]) (rest := []) ⟨hx, hb, hml, hown, hts⟩ (kX2_holds l D cI cO tt ad g b d X s.heap rr i0 hrr) (cwV 1 hts gX2_item_X2_holds rfl rfl rfl (by decide +kernel) ⟨(Nat.le_of_ble_eq_true rfl), (Nat.le_of_ble_eq_true rfl)⟩) (pwV hK hZ hN hP hS (va_recv hK hP (ci := 2) (q0 := (12 + rr)) rfl (LW_r hrr))) rfl rfl hl.1 rfl (lv_room (Nat.le_of_ble_eq_true rfl)) dX2_item_2 ⟨Nat.zero_le _, Nat.zero_le _⟩) hS (fun locs hS => ?_)
  refine lv_if_eq (tgt := 17) hx hb dX2_item_5 (by decide) (fun c_1 => ?_) (fun c_1 => ?_)
  · have c_1 := bI_0.mp c_1
    refine lv_iconst (v := 0) hx hb dX2_item_17 (by decide) ?_
    exact W.iret (v := 0) hx hb hr (fun t ht hW => ⟨⟨0, (), rfl, (by grind), ht⟩, hS.F ht⟩) hS.2.2 dX2_item_18
  · have c_1 := bI_n0.mp c_1
    refine lv_aload_n hx hb dX2_item_8 rfl (lv_at hl 0 rfl) ?_
    refine va_get (D := D) (ci := 2) (v := .ref (ad (20 + rr))) (C := RX2) (T := TX2) (N := 3) hx hb hts iX2 hown hK hP (12 + rr) (LW_r hrr) rfl 0 (by decide) hw0 (fun _ h9 => h9) rfl dX2_item_9 ?_
    refine lv_iload_n hx hb dX2_item_12 rfl (lv_at hl 1 rfl) ?_
    refine va_iald hx hb hK hP (20 + rr) 0 (LW_i hrr) rfl (vin (p := i0) (by grind) (by grind : i0 < g 5 rr) (hI.1 rr hrr).2 (by decide)) dX2_item_13 ?_
    refine lv_goto (tgt := 18) hx hb dX2_item_14 (by decide) ?_
    exact W.iret (v := g (10 + rr) i0.toNatClampNeg) hx hb hr (fun t ht hW => ⟨⟨g (10 + rr) i0.toNatClampNeg, (), rfl, (by grind), ht⟩, hS.F ht⟩) hS.2.2 dX2_item_18
set_option maxHeartbeats 4000000 in
set_option maxRecDepth 100000 in
theorem kX2_reading (l : Launch) (D : va_G) (cI cO : ClassId) (tt : Nat) (ad : Nat → Nat) (g : Nat → Nat → Int32) (b : Nat → Int32) (d : Nat → Nat → Int64) (X : va_W) (H0 : Heap) (rr : Nat) (i0 : Int32) (hrr : rr < 8) (hI : WI g) : MpI l yX2_reading wsX2_reading ({ frames := 0, cells := 0, slots := 0, locals := 0 }) D cI cO tt (LW ad cI cO g b d X) H0 [.ref (ad (12 + rr)), .int i0] (rdC g rr i0) := by
  refine Met.ofW (cc := cX2_reading) (maxL := 2) (ret := (some .int)) (by decide) rfl ?_
  intro p e s m args below meth c s₁ B hml hv
  obtain ⟨rfl, rfl, hP, hK, hZ, hN⟩ := hv
  have hx := B.exec
  have hb := B.bytes
  have hr := B.returns
  have hts := atoms_spec (ws := wsX2_reading) B.pre
  have hown : s.vm.findClass RX2 = some m.cls := findClass_of_methodNamed B.named
  have hlocks := B.notSynchronized
  have hS : va_S (fun _ => False) s.heap s.heap [] := va_S.rf
  have hl := lv_entry ([.ref (ad (12 + rr)), .int i0]) (n := 2) (Nat.le_of_ble_eq_true rfl)
  rw [lg_entry_eq]
  generalize (lg_sl ([.ref (ad (12 + rr)), .int i0]) ++ List.replicate (2 - (lg_sl ([.ref (ad (12 + rr)), .int i0])).length) Slot.unset).toArray = ls at hl ⊢
  have hl : lv_has ls 2 [(0, .ref (ad (12 + rr))), (1, .int i0)] := hl
  have hw0 := hts (.fieldLink RX2 19 "LayerSounder$Reel" "size" "I") (List.mem_cons_of_mem _ (List.mem_append_left _ (List.mem_of_getElem? (i := 0) rfl)))
  have iX2 : ∀ w ∈ wsX20, w ∈ wsX2_reading := fun _ h => List.mem_cons_of_mem _ (List.mem_append_right _ h)
  have hw2 := hts (.fieldLink RX2 9 "LayerSounder$Reel" "items" "[I") (List.mem_cons_of_mem _ (List.mem_append_left _ (List.mem_of_getElem? (i := 1) rfl)))
  refine lv_iload_n hx hb dX2_reading_0 rfl (lv_at hl 1 rfl) ?_
  refine lv_if_lt (tgt := 21) hx hb dX2_reading_1 (by decide) (fun c_1 => ?_) (fun c_1 => ?_)
  · refine lv_bipush (v := (-128)) hx hb dX2_reading_21 (by decide) ?_
    exact W.iret (v := (-128)) hx hb hr (fun t ht hW => ⟨⟨(-128), (), rfl, (by grind [rdC]), ht⟩, hS.F ht⟩) hS.2.2 dX2_reading_23
  · refine lv_iload_n hx hb dX2_reading_4 rfl (lv_at hl 1 rfl) ?_
    refine lv_aload_n hx hb dX2_reading_5 rfl (lv_at hl 0 rfl) ?_
    refine va_get (D := D) (ci := 2) (v := .int (g 5 rr)) (C := RX2) (T := TX2) (N := 3) hx hb hts iX2 hown hK hP (12 + rr) (LW_r hrr) rfl 2 (by decide) hw0 (fun _ h9 => h9) rfl dX2_reading_6 ?_
    refine lv_icmp_ge (tgt := 21) hx hb dX2_reading_9 (by decide) (fun c_2 => ?_) (fun c_2 => ?_)
    · refine lv_bipush (v := (-128)) hx hb dX2_reading_21 (by decide) ?_
      exact W.iret (v := (-128)) hx hb hr (fun t ht hW => ⟨⟨(-128), (), rfl, (by grind [rdC]), ht⟩, hS.F ht⟩) hS.2.2 dX2_reading_23
    · refine lv_aload_n hx hb dX2_reading_12 rfl (lv_at hl 0 rfl) ?_
      refine va_get (D := D) (ci := 2) (v := .ref (ad (20 + rr))) (C := RX2) (T := TX2) (N := 3) hx hb hts iX2 hown hK hP (12 + rr) (LW_r hrr) rfl 0 (by decide) hw2 (fun _ h9 => h9) rfl dX2_reading_13 ?_
      refine lv_iload_n hx hb dX2_reading_16 rfl (lv_at hl 1 rfl) ?_
      refine va_iald hx hb hK hP (20 + rr) 0 (LW_i hrr) rfl (vin (p := i0) (by grind) (by grind : i0 < g 5 rr) (hI.1 rr hrr).2 (by decide)) dX2_reading_17 ?_
      refine lv_goto (tgt := 23) hx hb dX2_reading_18 (by decide) ?_
      exact W.iret (v := g (10 + rr) i0.toNatClampNeg) hx hb hr (fun t ht hW => ⟨⟨g (10 + rr) i0.toNatClampNeg, (), rfl, (by grind [rdC]), ht⟩, hS.F ht⟩) hS.2.2 dX2_reading_23
set_option maxHeartbeats 4000000 in
set_option maxRecDepth 100000 in
theorem kX3_isPing (l : Launch) (D : va_G) (cI cO : ClassId) (tt : Nat) (ad : Nat → Nat) (g : Nat → Nat → Int32) (b : Nat → Int32) (d : Nat → Nat → Int64) (X : va_W) (H0 : Heap) (p0 : Int32)  : MpI l yX3_isPing wsX3_isPing ({ frames := 0, cells := 0, slots := 0, locals := 0 }) D cI cO tt (LW ad cI cO g b d X) H0 [.ref (ad 2), .int p0] (bI (0 ≤ p0 ∧ p0 < g 100 7)) := by
  refine Met.ofW (cc := cX3_isPing) (maxL := 2) (ret := (some .boolean)) (by decide) rfl ?_
  intro p e s m args below meth c s₁ B hml hv
  obtain ⟨rfl, rfl, hP, hK, hZ, hN⟩ := hv
  have hx := B.exec
  have hb := B.bytes
  have hr := B.returns
  have hts := atoms_spec (ws := wsX3_isPing) B.pre
  have hown : s.vm.findClass RX3 = some m.cls := findClass_of_methodNamed B.named
  have hlocks := B.notSynchronized
  have hS : va_S (fun _ => False) s.heap s.heap [] := va_S.rf
  have hl := lv_entry ([.ref (ad 2), .int p0]) (n := 2) (Nat.le_of_ble_eq_true rfl)
  rw [lg_entry_eq]
  generalize (lg_sl ([.ref (ad 2), .int p0]) ++ List.replicate (2 - (lg_sl ([.ref (ad 2), .int p0])).length) Slot.unset).toArray = ls at hl ⊢
  have hl : lv_has ls 2 [(0, .ref (ad 2)), (1, .int p0)] := hl
  have hw0 := hts (.fieldLink RX3 24 "LayerSounder$Track" "number" "I") (List.mem_cons_of_mem _ (List.mem_append_left _ (List.mem_of_getElem? (i := 0) rfl)))
  have iX3 : ∀ w ∈ wsX30, w ∈ wsX3_isPing := fun _ h => List.mem_cons_of_mem _ (List.mem_append_right _ h)
  refine lv_iload_n hx hb dX3_isPing_0 rfl (lv_at hl 1 rfl) ?_
  refine lv_if_lt (tgt := 16) hx hb dX3_isPing_1 (by decide) (fun c_1 => ?_) (fun c_1 => ?_)
  · refine lv_iconst (v := 0) hx hb dX3_isPing_16 (by decide) ?_
    exact W.zret (v := 0) hx hb hr rfl (fun t ht hW => ⟨⟨0, (), rfl, (by grind [bI]), ht⟩, hS.F ht⟩) hS.2.2 dX3_isPing_17
  · refine lv_iload_n hx hb dX3_isPing_4 rfl (lv_at hl 1 rfl) ?_
    refine lv_aload_n hx hb dX3_isPing_5 rfl (lv_at hl 0 rfl) ?_
    refine va_get (D := D) (ci := 3) (v := .int (g 100 7)) (C := RX3) (T := TX3) (N := 5) hx hb hts iX3 hown hK hP 2 rfl rfl 4 (by decide) hw0 (fun _ h9 => h9) rfl dX3_isPing_6 ?_
    refine lv_icmp_ge (tgt := 16) hx hb dX3_isPing_9 (by decide) (fun c_2 => ?_) (fun c_2 => ?_)
    · refine lv_iconst (v := 0) hx hb dX3_isPing_16 (by decide) ?_
      exact W.zret (v := 0) hx hb hr rfl (fun t ht hW => ⟨⟨0, (), rfl, (by grind [bI]), ht⟩, hS.F ht⟩) hS.2.2 dX3_isPing_17
    · refine lv_iconst (v := 1) hx hb dX3_isPing_12 (by decide) ?_
      refine lv_goto (tgt := 17) hx hb dX3_isPing_13 (by decide) ?_
      exact W.zret (v := 1) hx hb hr rfl (fun t ht hW => ⟨⟨1, (), rfl, (by grind [bI]), ht⟩, hS.F ht⟩) hS.2.2 dX3_isPing_17
set_option maxHeartbeats 4000000 in
set_option maxRecDepth 100000 in
theorem kX3_isSpan (l : Launch) (D : va_G) (cI cO : ClassId) (tt : Nat) (ad : Nat → Nat) (g : Nat → Nat → Int32) (b : Nat → Int32) (d : Nat → Nat → Int64) (X : va_W) (H0 : Heap) (p0 : Int32) (q0 : Int32)  : MpI l yX3_isSpan wsX3_isSpan ({ frames := 1, cells := 0, slots := 0, locals := 21 }) D cI cO tt (LW ad cI cO g b d X) H0 [.ref (ad 2), .int p0, .int q0] (bI ((0 ≤ p0 ∧ p0 < g 100 7) ∧ (0 ≤ q0 ∧ q0 < g 100 7) ∧ p0 ≤ q0)) := by
  refine Met.ofW (cc := cX3_isSpan) (maxL := 3) (ret := (some .boolean)) (by decide) rfl ?_
  intro p e s m args below meth c s₁ B hml hv
  obtain ⟨rfl, rfl, hP, hK, hZ, hN⟩ := hv
  have hx := B.exec
  have hb := B.bytes
  have hr := B.returns
  have hts := atoms_spec (ws := wsX3_isSpan) B.pre
  have hown : s.vm.findClass RX3 = some m.cls := findClass_of_methodNamed B.named
  have hlocks := B.notSynchronized
  have hS : va_S (fun _ => False) s.heap s.heap [] := va_S.rf
  have hl := lv_entry ([.ref (ad 2), .int p0, .int q0]) (n := 3) (Nat.le_of_ble_eq_true rfl)
  rw [lg_entry_eq]
  generalize (lg_sl ([.ref (ad 2), .int p0, .int q0]) ++ List.replicate (3 - (lg_sl ([.ref (ad 2), .int p0, .int q0])).length) Slot.unset).toArray = ls at hl ⊢
  have hl : lv_has ls 3 [(0, .ref (ad 2)), (1, .int p0), (2, .int q0)] := hl
  refine lv_aload_n hx hb dX3_isSpan_0 rfl (lv_at hl 0 rfl) ?_
  refine lv_iload_n hx hb dX3_isSpan_1 rfl (lv_at hl 1 rfl) ?_
  refine pcI (va_runV (As := [.int p0]) (rest := []) ⟨hx, hb, hml, hown, hts⟩ (kX3_isPing l D cI cO tt ad g b d X s.heap p0 ) (cwV 1 hts gX3_isSpan_X3_isPing rfl rfl rfl (by decide +kernel) ⟨(Nat.le_of_ble_eq_true rfl), (Nat.le_of_ble_eq_true rfl)⟩) (pwV hK hZ hN hP hS (va_recv hK hP (ci := 3) (q0 := 2) rfl rfl)) rfl rfl hl.1 rfl (lv_room (Nat.le_of_ble_eq_true rfl)) dX3_isSpan_2 ⟨Nat.zero_le _, Nat.zero_le _⟩) hS (fun locs hS => ?_)
  refine lv_if_eq (tgt := 25) hx hb dX3_isSpan_5 (by decide) (fun c_1 => ?_) (fun c_1 => ?_)
  · have c_1 := bI_0.mp c_1
    refine lv_iconst (v := 0) hx hb dX3_isSpan_25 (by decide) ?_
    exact W.zret (v := 0) hx hb hr rfl (fun t ht hW => ⟨⟨0, (), rfl, (by grind [bI]), ht⟩, hS.F ht⟩) hS.2.2 dX3_isSpan_26
  · have c_1 := bI_n0.mp c_1
    refine lv_aload_n hx hb dX3_isSpan_8 rfl (lv_at hl 0 rfl) ?_
    refine lv_iload_n hx hb dX3_isSpan_9 rfl (lv_at hl 2 rfl) ?_
    refine pcI (va_runV (As := [.int q0]) (rest := []) ⟨hx, hb, hml, hown, hts⟩ (kX3_isPing l D cI cO tt ad g b d X s.heap q0 ) (cwV 1 hts gX3_isSpan_X3_isPing rfl rfl rfl (by decide +kernel) ⟨(Nat.le_of_ble_eq_true rfl), (Nat.le_of_ble_eq_true rfl)⟩) (pwV hK hZ hN hP hS (va_recv hK hP (ci := 3) (q0 := 2) rfl rfl)) rfl rfl hl.1 rfl (lv_room (Nat.le_of_ble_eq_true rfl)) dX3_isSpan_10 ⟨Nat.zero_le _, Nat.zero_le _⟩) hS (fun locs hS => ?_)
    refine lv_if_eq (tgt := 25) hx hb dX3_isSpan_13 (by decide) (fun c_2 => ?_) (fun c_2 => ?_)
    · have c_2 := bI_0.mp c_2
      refine lv_iconst (v := 0) hx hb dX3_isSpan_25 (by decide) ?_
      exact W.zret (v := 0) hx hb hr rfl (fun t ht hW => ⟨⟨0, (), rfl, (by grind [bI]), ht⟩, hS.F ht⟩) hS.2.2 dX3_isSpan_26
    · have c_2 := bI_n0.mp c_2
      refine lv_iload_n hx hb dX3_isSpan_16 rfl (lv_at hl 1 rfl) ?_
      refine lv_iload_n hx hb dX3_isSpan_17 rfl (lv_at hl 2 rfl) ?_
      refine lv_icmp_gt (tgt := 25) hx hb dX3_isSpan_18 (by decide) (fun c_3 => ?_) (fun c_3 => ?_)
      · refine lv_iconst (v := 0) hx hb dX3_isSpan_25 (by decide) ?_
        exact W.zret (v := 0) hx hb hr rfl (fun t ht hW => ⟨⟨0, (), rfl, (by grind [bI]), ht⟩, hS.F ht⟩) hS.2.2 dX3_isSpan_26
      · refine lv_iconst (v := 1) hx hb dX3_isSpan_21 (by decide) ?_
        refine lv_goto (tgt := 26) hx hb dX3_isSpan_22 (by decide) ?_
        exact W.zret (v := 1) hx hb hr rfl (fun t ht hW => ⟨⟨1, (), rfl, (by grind [bI]), ht⟩, hS.F ht⟩) hS.2.2 dX3_isSpan_26
set_option maxHeartbeats 4000000 in
set_option maxRecDepth 100000 in
theorem kX3_headingOf (l : Launch) (D : va_G) (cI cO : ClassId) (tt : Nat) (ad : Nat → Nat) (g : Nat → Nat → Int32) (b : Nat → Int32) (d : Nat → Nat → Int64) (X : va_W) (H0 : Heap) (p0 : Int32) (hI : WI g) : MpI l yX3_headingOf wsX3_headingOf ({ frames := 1, cells := 0, slots := 0, locals := 21 }) D cI cO tt (LW ad cI cO g b d X) H0 [.ref (ad 2), .int p0] (rw_ g 0 p0) := by
  refine Met.ofW (cc := cX3_headingOf) (maxL := 2) (ret := (some .int)) (by decide) rfl ?_
  intro p e s m args below meth c s₁ B hml hv
  obtain ⟨rfl, rfl, hP, hK, hZ, hN⟩ := hv
  have hx := B.exec
  have hb := B.bytes
  have hr := B.returns
  have hts := atoms_spec (ws := wsX3_headingOf) B.pre
  have hown : s.vm.findClass RX3 = some m.cls := findClass_of_methodNamed B.named
  have hlocks := B.notSynchronized
  have hS : va_S (fun _ => False) s.heap s.heap [] := va_S.rf
  have hl := lv_entry ([.ref (ad 2), .int p0]) (n := 2) (Nat.le_of_ble_eq_true rfl)
  rw [lg_entry_eq]
  generalize (lg_sl ([.ref (ad 2), .int p0]) ++ List.replicate (2 - (lg_sl ([.ref (ad 2), .int p0])).length) Slot.unset).toArray = ls at hl ⊢
  have hl : lv_has ls 2 [(0, .ref (ad 2)), (1, .int p0)] := hl
  have hw0 := hts (.fieldLink RX3 9 "LayerSounder$Track" "headings" "[I") (List.mem_cons_of_mem _ (List.mem_append_left _ (List.mem_of_getElem? (i := 0) rfl)))
  have iX3 : ∀ w ∈ wsX30, w ∈ wsX3_headingOf := fun _ h => List.mem_cons_of_mem _ (List.mem_append_right _ h)
  refine lv_aload_n hx hb dX3_headingOf_0 rfl (lv_at hl 0 rfl) ?_
  refine lv_iload_n hx hb dX3_headingOf_1 rfl (lv_at hl 1 rfl) ?_
  refine pcI (va_runV (As := [.int p0]) (rest := []) ⟨hx, hb, hml, hown, hts⟩ (kX3_isPing l D cI cO tt ad g b d X s.heap p0 ) (cwV 1 hts gX3_headingOf_X3_isPing rfl rfl rfl (by decide +kernel) ⟨(Nat.le_of_ble_eq_true rfl), (Nat.le_of_ble_eq_true rfl)⟩) (pwV hK hZ hN hP hS (va_recv hK hP (ci := 3) (q0 := 2) rfl rfl)) rfl rfl hl.1 rfl (lv_room (Nat.le_of_ble_eq_true rfl)) dX3_headingOf_2 ⟨Nat.zero_le _, Nat.zero_le _⟩) hS (fun locs hS => ?_)
  refine lv_if_eq (tgt := 17) hx hb dX3_headingOf_5 (by decide) (fun c_1 => ?_) (fun c_1 => ?_)
  · have c_1 := bI_0.mp c_1
    refine lv_iconst (v := 0) hx hb dX3_headingOf_17 (by decide) ?_
    exact W.iret (v := 0) hx hb hr (fun t ht hW => ⟨⟨0, (), rfl, (by grind [rw_]), ht⟩, hS.F ht⟩) hS.2.2 dX3_headingOf_18
  · have c_1 := bI_n0.mp c_1
    refine lv_aload_n hx hb dX3_headingOf_8 rfl (lv_at hl 0 rfl) ?_
    refine va_get (D := D) (ci := 3) (v := .ref (ad 8)) (C := RX3) (T := TX3) (N := 5) hx hb hts iX3 hown hK hP 2 rfl rfl 0 (by decide) hw0 (fun _ h9 => h9) rfl dX3_headingOf_9 ?_
    refine lv_iload_n hx hb dX3_headingOf_12 rfl (lv_at hl 1 rfl) ?_
    refine va_iald hx hb hK hP 8 0 rfl rfl (vin c_1.1 c_1.2 hI.2.1.2 (by decide)) dX3_headingOf_13 ?_
    refine lv_goto (tgt := 18) hx hb dX3_headingOf_14 (by decide) ?_
    exact W.iret (v := g 0 p0.toNatClampNeg) hx hb hr (fun t ht hW => ⟨⟨g 0 p0.toNatClampNeg, (), rfl, (by grind [rw_]), ht⟩, hS.F ht⟩) hS.2.2 dX3_headingOf_18
set_option maxHeartbeats 4000000 in
set_option maxRecDepth 100000 in
theorem kX3_xOf (l : Launch) (D : va_G) (cI cO : ClassId) (tt : Nat) (ad : Nat → Nat) (g : Nat → Nat → Int32) (b : Nat → Int32) (d : Nat → Nat → Int64) (X : va_W) (H0 : Heap) (p0 : Int32) (hI : WI g) : MpI l yX3_xOf wsX3_xOf ({ frames := 1, cells := 0, slots := 0, locals := 21 }) D cI cO tt (LW ad cI cO g b d X) H0 [.ref (ad 2), .int p0] (rw_ g 1 p0) := by
  refine Met.ofW (cc := cX3_xOf) (maxL := 2) (ret := (some .int)) (by decide) rfl ?_
  intro p e s m args below meth c s₁ B hml hv
  obtain ⟨rfl, rfl, hP, hK, hZ, hN⟩ := hv
  have hx := B.exec
  have hb := B.bytes
  have hr := B.returns
  have hts := atoms_spec (ws := wsX3_xOf) B.pre
  have hown : s.vm.findClass RX3 = some m.cls := findClass_of_methodNamed B.named
  have hlocks := B.notSynchronized
  have hS : va_S (fun _ => False) s.heap s.heap [] := va_S.rf
  have hl := lv_entry ([.ref (ad 2), .int p0]) (n := 2) (Nat.le_of_ble_eq_true rfl)
  rw [lg_entry_eq]
  generalize (lg_sl ([.ref (ad 2), .int p0]) ++ List.replicate (2 - (lg_sl ([.ref (ad 2), .int p0])).length) Slot.unset).toArray = ls at hl ⊢
  have hl : lv_has ls 2 [(0, .ref (ad 2)), (1, .int p0)] := hl
  have hw0 := hts (.fieldLink RX3 15 "LayerSounder$Track" "xs" "[I") (List.mem_cons_of_mem _ (List.mem_append_left _ (List.mem_of_getElem? (i := 0) rfl)))
  have iX3 : ∀ w ∈ wsX30, w ∈ wsX3_xOf := fun _ h => List.mem_cons_of_mem _ (List.mem_append_right _ h)
  refine lv_aload_n hx hb dX3_xOf_0 rfl (lv_at hl 0 rfl) ?_
  refine lv_iload_n hx hb dX3_xOf_1 rfl (lv_at hl 1 rfl) ?_
  refine pcI (va_runV (As := [.int p0]) (rest := []) ⟨hx, hb, hml, hown, hts⟩ (kX3_isPing l D cI cO tt ad g b d X s.heap p0 ) (cwV 1 hts gX3_xOf_X3_isPing rfl rfl rfl (by decide +kernel) ⟨(Nat.le_of_ble_eq_true rfl), (Nat.le_of_ble_eq_true rfl)⟩) (pwV hK hZ hN hP hS (va_recv hK hP (ci := 3) (q0 := 2) rfl rfl)) rfl rfl hl.1 rfl (lv_room (Nat.le_of_ble_eq_true rfl)) dX3_xOf_2 ⟨Nat.zero_le _, Nat.zero_le _⟩) hS (fun locs hS => ?_)
  refine lv_if_eq (tgt := 17) hx hb dX3_xOf_5 (by decide) (fun c_1 => ?_) (fun c_1 => ?_)
  · have c_1 := bI_0.mp c_1
    refine lv_iconst (v := 0) hx hb dX3_xOf_17 (by decide) ?_
    exact W.iret (v := 0) hx hb hr (fun t ht hW => ⟨⟨0, (), rfl, (by grind [rw_]), ht⟩, hS.F ht⟩) hS.2.2 dX3_xOf_18
  · have c_1 := bI_n0.mp c_1
    refine lv_aload_n hx hb dX3_xOf_8 rfl (lv_at hl 0 rfl) ?_
    refine va_get (D := D) (ci := 3) (v := .ref (ad 9)) (C := RX3) (T := TX3) (N := 5) hx hb hts iX3 hown hK hP 2 rfl rfl 1 (by decide) hw0 (fun _ h9 => h9) rfl dX3_xOf_9 ?_
    refine lv_iload_n hx hb dX3_xOf_12 rfl (lv_at hl 1 rfl) ?_
    refine va_iald hx hb hK hP 9 0 rfl rfl (vin c_1.1 c_1.2 hI.2.1.2 (by decide)) dX3_xOf_13 ?_
    refine lv_goto (tgt := 18) hx hb dX3_xOf_14 (by decide) ?_
    exact W.iret (v := g 1 p0.toNatClampNeg) hx hb hr (fun t ht hW => ⟨⟨g 1 p0.toNatClampNeg, (), rfl, (by grind [rw_]), ht⟩, hS.F ht⟩) hS.2.2 dX3_xOf_18
set_option maxHeartbeats 4000000 in
set_option maxRecDepth 100000 in
theorem kX3_yOf (l : Launch) (D : va_G) (cI cO : ClassId) (tt : Nat) (ad : Nat → Nat) (g : Nat → Nat → Int32) (b : Nat → Int32) (d : Nat → Nat → Int64) (X : va_W) (H0 : Heap) (p0 : Int32) (hI : WI g) : MpI l yX3_yOf wsX3_yOf ({ frames := 1, cells := 0, slots := 0, locals := 21 }) D cI cO tt (LW ad cI cO g b d X) H0 [.ref (ad 2), .int p0] (rw_ g 2 p0) := by
  refine Met.ofW (cc := cX3_yOf) (maxL := 2) (ret := (some .int)) (by decide) rfl ?_
  intro p e s m args below meth c s₁ B hml hv
  obtain ⟨rfl, rfl, hP, hK, hZ, hN⟩ := hv
  have hx := B.exec
  have hb := B.bytes
  have hr := B.returns
  have hts := atoms_spec (ws := wsX3_yOf) B.pre
  have hown : s.vm.findClass RX3 = some m.cls := findClass_of_methodNamed B.named
  have hlocks := B.notSynchronized
  have hS : va_S (fun _ => False) s.heap s.heap [] := va_S.rf
  have hl := lv_entry ([.ref (ad 2), .int p0]) (n := 2) (Nat.le_of_ble_eq_true rfl)
  rw [lg_entry_eq]
  generalize (lg_sl ([.ref (ad 2), .int p0]) ++ List.replicate (2 - (lg_sl ([.ref (ad 2), .int p0])).length) Slot.unset).toArray = ls at hl ⊢
  have hl : lv_has ls 2 [(0, .ref (ad 2)), (1, .int p0)] := hl
  have hw0 := hts (.fieldLink RX3 18 "LayerSounder$Track" "ys" "[I") (List.mem_cons_of_mem _ (List.mem_append_left _ (List.mem_of_getElem? (i := 0) rfl)))
  have iX3 : ∀ w ∈ wsX30, w ∈ wsX3_yOf := fun _ h => List.mem_cons_of_mem _ (List.mem_append_right _ h)
  refine lv_aload_n hx hb dX3_yOf_0 rfl (lv_at hl 0 rfl) ?_
  refine lv_iload_n hx hb dX3_yOf_1 rfl (lv_at hl 1 rfl) ?_
  refine pcI (va_runV (As := [.int p0]) (rest := []) ⟨hx, hb, hml, hown, hts⟩ (kX3_isPing l D cI cO tt ad g b d X s.heap p0 ) (cwV 1 hts gX3_yOf_X3_isPing rfl rfl rfl (by decide +kernel) ⟨(Nat.le_of_ble_eq_true rfl), (Nat.le_of_ble_eq_true rfl)⟩) (pwV hK hZ hN hP hS (va_recv hK hP (ci := 3) (q0 := 2) rfl rfl)) rfl rfl hl.1 rfl (lv_room (Nat.le_of_ble_eq_true rfl)) dX3_yOf_2 ⟨Nat.zero_le _, Nat.zero_le _⟩) hS (fun locs hS => ?_)
  refine lv_if_eq (tgt := 17) hx hb dX3_yOf_5 (by decide) (fun c_1 => ?_) (fun c_1 => ?_)
  · have c_1 := bI_0.mp c_1
    refine lv_iconst (v := 0) hx hb dX3_yOf_17 (by decide) ?_
    exact W.iret (v := 0) hx hb hr (fun t ht hW => ⟨⟨0, (), rfl, (by grind [rw_]), ht⟩, hS.F ht⟩) hS.2.2 dX3_yOf_18
  · have c_1 := bI_n0.mp c_1
    refine lv_aload_n hx hb dX3_yOf_8 rfl (lv_at hl 0 rfl) ?_
    refine va_get (D := D) (ci := 3) (v := .ref (ad 10)) (C := RX3) (T := TX3) (N := 5) hx hb hts iX3 hown hK hP 2 rfl rfl 2 (by decide) hw0 (fun _ h9 => h9) rfl dX3_yOf_9 ?_
    refine lv_iload_n hx hb dX3_yOf_12 rfl (lv_at hl 1 rfl) ?_
    refine va_iald hx hb hK hP 10 0 rfl rfl (vin c_1.1 c_1.2 hI.2.1.2 (by decide)) dX3_yOf_13 ?_
    refine lv_goto (tgt := 18) hx hb dX3_yOf_14 (by decide) ?_
    exact W.iret (v := g 2 p0.toNatClampNeg) hx hb hr (fun t ht hW => ⟨⟨g 2 p0.toNatClampNeg, (), rfl, (by grind [rw_]), ht⟩, hS.F ht⟩) hS.2.2 dX3_yOf_18
set_option maxHeartbeats 4000000 in
set_option maxRecDepth 100000 in
theorem kX3_depthOf (l : Launch) (D : va_G) (cI cO : ClassId) (tt : Nat) (ad : Nat → Nat) (g : Nat → Nat → Int32) (b : Nat → Int32) (d : Nat → Nat → Int64) (X : va_W) (H0 : Heap) (p0 : Int32) (hI : WI g) : MpI l yX3_depthOf wsX3_depthOf ({ frames := 1, cells := 0, slots := 0, locals := 21 }) D cI cO tt (LW ad cI cO g b d X) H0 [.ref (ad 2), .int p0] (rw_ g 3 p0) := by
  refine Met.ofW (cc := cX3_depthOf) (maxL := 2) (ret := (some .int)) (by decide) rfl ?_
  intro p e s m args below meth c s₁ B hml hv
  obtain ⟨rfl, rfl, hP, hK, hZ, hN⟩ := hv
  have hx := B.exec
  have hb := B.bytes
  have hr := B.returns
  have hts := atoms_spec (ws := wsX3_depthOf) B.pre
  have hown : s.vm.findClass RX3 = some m.cls := findClass_of_methodNamed B.named
  have hlocks := B.notSynchronized
  have hS : va_S (fun _ => False) s.heap s.heap [] := va_S.rf
  have hl := lv_entry ([.ref (ad 2), .int p0]) (n := 2) (Nat.le_of_ble_eq_true rfl)
  rw [lg_entry_eq]
  generalize (lg_sl ([.ref (ad 2), .int p0]) ++ List.replicate (2 - (lg_sl ([.ref (ad 2), .int p0])).length) Slot.unset).toArray = ls at hl ⊢
  have hl : lv_has ls 2 [(0, .ref (ad 2)), (1, .int p0)] := hl
  have hw0 := hts (.fieldLink RX3 21 "LayerSounder$Track" "depths" "[I") (List.mem_cons_of_mem _ (List.mem_append_left _ (List.mem_of_getElem? (i := 0) rfl)))
  have iX3 : ∀ w ∈ wsX30, w ∈ wsX3_depthOf := fun _ h => List.mem_cons_of_mem _ (List.mem_append_right _ h)
  refine lv_aload_n hx hb dX3_depthOf_0 rfl (lv_at hl 0 rfl) ?_
  refine lv_iload_n hx hb dX3_depthOf_1 rfl (lv_at hl 1 rfl) ?_
  refine pcI (va_runV (As := [.int p0]) (rest := []) ⟨hx, hb, hml, hown, hts⟩ (kX3_isPing l D cI cO tt ad g b d X s.heap p0 ) (cwV 1 hts gX3_depthOf_X3_isPing rfl rfl rfl (by decide +kernel) ⟨(Nat.le_of_ble_eq_true rfl), (Nat.le_of_ble_eq_true rfl)⟩) (pwV hK hZ hN hP hS (va_recv hK hP (ci := 3) (q0 := 2) rfl rfl)) rfl rfl hl.1 rfl (lv_room (Nat.le_of_ble_eq_true rfl)) dX3_depthOf_2 ⟨Nat.zero_le _, Nat.zero_le _⟩) hS (fun locs hS => ?_)
  refine lv_if_eq (tgt := 17) hx hb dX3_depthOf_5 (by decide) (fun c_1 => ?_) (fun c_1 => ?_)
  · have c_1 := bI_0.mp c_1
    refine lv_iconst (v := 0) hx hb dX3_depthOf_17 (by decide) ?_
    exact W.iret (v := 0) hx hb hr (fun t ht hW => ⟨⟨0, (), rfl, (by grind [rw_]), ht⟩, hS.F ht⟩) hS.2.2 dX3_depthOf_18
  · have c_1 := bI_n0.mp c_1
    refine lv_aload_n hx hb dX3_depthOf_8 rfl (lv_at hl 0 rfl) ?_
    refine va_get (D := D) (ci := 3) (v := .ref (ad 11)) (C := RX3) (T := TX3) (N := 5) hx hb hts iX3 hown hK hP 2 rfl rfl 3 (by decide) hw0 (fun _ h9 => h9) rfl dX3_depthOf_9 ?_
    refine lv_iload_n hx hb dX3_depthOf_12 rfl (lv_at hl 1 rfl) ?_
    refine va_iald hx hb hK hP 11 0 rfl rfl (vin c_1.1 c_1.2 hI.2.1.2 (by decide)) dX3_depthOf_13 ?_
    refine lv_goto (tgt := 18) hx hb dX3_depthOf_14 (by decide) ?_
    exact W.iret (v := g 3 p0.toNatClampNeg) hx hb hr (fun t ht hW => ⟨⟨g 3 p0.toNatClampNeg, (), rfl, (by grind [rw_]), ht⟩, hS.F ht⟩) hS.2.2 dX3_depthOf_18
set_option maxHeartbeats 4000000 in
set_option maxRecDepth 100000 in
theorem kX3_stepX (l : Launch) (D : va_G) (cI cO : ClassId) (tt : Nat) (ad : Nat → Nat) (g : Nat → Nat → Int32) (b : Nat → Int32) (d : Nat → Nat → Int64) (X : va_W) (H0 : Heap) (p0 : Int32) (hI : WI g) : MpL l yX3_stepX wsX3_stepX ({ frames := 2, cells := 0, slots := 0, locals := 42 }) D cI cO tt (LW ad cI cO g b d X) H0 [.ref (ad 2), .int p0] ((rw_ g 1 (p0 + 1) - rw_ g 1 p0).toInt64) := by
  refine Met.ofW (cc := cX3_stepX) (maxL := 2) (ret := (some .long)) (by decide) rfl ?_
  intro p e s m args below meth c s₁ B hml hv
  obtain ⟨rfl, rfl, hP, hK, hZ, hN⟩ := hv
  have hx := B.exec
  have hb := B.bytes
  have hr := B.returns
  have hts := atoms_spec (ws := wsX3_stepX) B.pre
  have hown : s.vm.findClass RX3 = some m.cls := findClass_of_methodNamed B.named
  have hlocks := B.notSynchronized
  have hS : va_S (fun _ => False) s.heap s.heap [] := va_S.rf
  have hl := lv_entry ([.ref (ad 2), .int p0]) (n := 2) (Nat.le_of_ble_eq_true rfl)
  rw [lg_entry_eq]
  generalize (lg_sl ([.ref (ad 2), .int p0]) ++ List.replicate (2 - (lg_sl ([.ref (ad 2), .int p0])).length) Slot.unset).toArray = ls at hl ⊢
  have hl : lv_has ls 2 [(0, .ref (ad 2)), (1, .int p0)] := hl
  refine lv_aload_n hx hb dX3_stepX_0 rfl (lv_at hl 0 rfl) ?_
  refine lv_iload_n hx hb dX3_stepX_1 rfl (lv_at hl 1 rfl) ?_
  refine lv_iconst (v := 1) hx hb dX3_stepX_2 (by decide) ?_
  refine lv_iadd hx hb dX3_stepX_3 ?_
  refine pcI (va_runV (As := [.int (p0 + 1)]) (rest := []) ⟨hx, hb, hml, hown, hts⟩ (kX3_xOf l D cI cO tt ad g b d X s.heap (p0 + 1) hI) (cwV 1 hts gX3_stepX_X3_xOf rfl rfl rfl (by decide +kernel) ⟨(Nat.le_of_ble_eq_true rfl), (Nat.le_of_ble_eq_true rfl)⟩) (pwV hK hZ hN hP hS (va_recv hK hP (ci := 3) (q0 := 2) rfl rfl)) rfl rfl hl.1 rfl (lv_room (Nat.le_of_ble_eq_true rfl)) dX3_stepX_4 ⟨Nat.zero_le _, Nat.zero_le _⟩) hS (fun locs hS => ?_)
  refine lv_aload_n hx hb dX3_stepX_7 rfl (lv_at hl 0 rfl) ?_
  refine lv_iload_n hx hb dX3_stepX_8 rfl (lv_at hl 1 rfl) ?_
  refine pcI (va_runV (As := [.int p0]) (rest := [.int (rw_ g 1 (p0 + 1))]) ⟨hx, hb, hml, hown, hts⟩ (kX3_xOf l D cI cO tt ad g b d X s.heap p0 hI) (cwV 1 hts gX3_stepX_X3_xOf rfl rfl rfl (by decide +kernel) ⟨(Nat.le_of_ble_eq_true rfl), (Nat.le_of_ble_eq_true rfl)⟩) (pwV hK hZ hN hP hS (va_recv hK hP (ci := 3) (q0 := 2) rfl rfl)) rfl rfl hl.1 rfl (lv_room (Nat.le_of_ble_eq_true rfl)) dX3_stepX_9 ⟨Nat.zero_le _, Nat.zero_le _⟩) hS (fun locs hS => ?_)
  refine lv_isub hx hb dX3_stepX_12 ?_
  refine lv_i2l hx hb dX3_stepX_13 rfl ?_
  exact W.lret (v := ((rw_ g 1 (p0 + 1)) - (rw_ g 1 p0)).toInt64) hx hb hr (fun t ht hW => ⟨⟨((rw_ g 1 (p0 + 1)) - (rw_ g 1 p0)).toInt64, (), rfl, (by rfl), ht⟩, hS.F ht⟩) hS.2.2 dX3_stepX_14
set_option maxHeartbeats 4000000 in
set_option maxRecDepth 100000 in
theorem kX3_stepY (l : Launch) (D : va_G) (cI cO : ClassId) (tt : Nat) (ad : Nat → Nat) (g : Nat → Nat → Int32) (b : Nat → Int32) (d : Nat → Nat → Int64) (X : va_W) (H0 : Heap) (p0 : Int32) (hI : WI g) : MpL l yX3_stepY wsX3_stepY ({ frames := 2, cells := 0, slots := 0, locals := 42 }) D cI cO tt (LW ad cI cO g b d X) H0 [.ref (ad 2), .int p0] ((rw_ g 2 (p0 + 1) - rw_ g 2 p0).toInt64) := by
  refine Met.ofW (cc := cX3_stepY) (maxL := 2) (ret := (some .long)) (by decide) rfl ?_
  intro p e s m args below meth c s₁ B hml hv
  obtain ⟨rfl, rfl, hP, hK, hZ, hN⟩ := hv
  have hx := B.exec
  have hb := B.bytes
  have hr := B.returns
  have hts := atoms_spec (ws := wsX3_stepY) B.pre
  have hown : s.vm.findClass RX3 = some m.cls := findClass_of_methodNamed B.named
  have hlocks := B.notSynchronized
  have hS : va_S (fun _ => False) s.heap s.heap [] := va_S.rf
  have hl := lv_entry ([.ref (ad 2), .int p0]) (n := 2) (Nat.le_of_ble_eq_true rfl)
  rw [lg_entry_eq]
  generalize (lg_sl ([.ref (ad 2), .int p0]) ++ List.replicate (2 - (lg_sl ([.ref (ad 2), .int p0])).length) Slot.unset).toArray = ls at hl ⊢
  have hl : lv_has ls 2 [(0, .ref (ad 2)), (1, .int p0)] := hl
  refine lv_aload_n hx hb dX3_stepY_0 rfl (lv_at hl 0 rfl) ?_
  refine lv_iload_n hx hb dX3_stepY_1 rfl (lv_at hl 1 rfl) ?_
  refine lv_iconst (v := 1) hx hb dX3_stepY_2 (by decide) ?_
  refine lv_iadd hx hb dX3_stepY_3 ?_
  refine pcI (va_runV (As := [.int (p0 + 1)]) (rest := []) ⟨hx, hb, hml, hown, hts⟩ (kX3_yOf l D cI cO tt ad g b d X s.heap (p0 + 1) hI) (cwV 1 hts gX3_stepY_X3_yOf rfl rfl rfl (by decide +kernel) ⟨(Nat.le_of_ble_eq_true rfl), (Nat.le_of_ble_eq_true rfl)⟩) (pwV hK hZ hN hP hS (va_recv hK hP (ci := 3) (q0 := 2) rfl rfl)) rfl rfl hl.1 rfl (lv_room (Nat.le_of_ble_eq_true rfl)) dX3_stepY_4 ⟨Nat.zero_le _, Nat.zero_le _⟩) hS (fun locs hS => ?_)
  refine lv_aload_n hx hb dX3_stepY_7 rfl (lv_at hl 0 rfl) ?_
  refine lv_iload_n hx hb dX3_stepY_8 rfl (lv_at hl 1 rfl) ?_
  refine pcI (va_runV (As := [.int p0]) (rest := [.int (rw_ g 2 (p0 + 1))]) ⟨hx, hb, hml, hown, hts⟩ (kX3_yOf l D cI cO tt ad g b d X s.heap p0 hI) (cwV 1 hts gX3_stepY_X3_yOf rfl rfl rfl (by decide +kernel) ⟨(Nat.le_of_ble_eq_true rfl), (Nat.le_of_ble_eq_true rfl)⟩) (pwV hK hZ hN hP hS (va_recv hK hP (ci := 3) (q0 := 2) rfl rfl)) rfl rfl hl.1 rfl (lv_room (Nat.le_of_ble_eq_true rfl)) dX3_stepY_9 ⟨Nat.zero_le _, Nat.zero_le _⟩) hS (fun locs hS => ?_)
  refine lv_isub hx hb dX3_stepY_12 ?_
  refine lv_i2l hx hb dX3_stepY_13 rfl ?_
  exact W.lret (v := ((rw_ g 2 (p0 + 1)) - (rw_ g 2 p0)).toInt64) hx hb hr (fun t ht hW => ⟨⟨((rw_ g 2 (p0 + 1)) - (rw_ g 2 p0)).toInt64, (), rfl, (by rfl), ht⟩, hS.F ht⟩) hS.2.2 dX3_stepY_14
set_option maxHeartbeats 4000000 in
set_option maxRecDepth 100000 in
theorem kX3_areNear (l : Launch) (D : va_G) (cI cO : ClassId) (tt : Nat) (ad : Nat → Nat) (g : Nat → Nat → Int32) (b : Nat → Int32) (d : Nat → Nat → Int64) (X : va_W) (H0 : Heap) (p0 : Int32) (q0 : Int32) (y0 : Int32) (hI : WI g) : MpI l yX3_areNear wsX3_areNear ({ frames := 2, cells := 0, slots := 0, locals := 42 }) D cI cO tt (LW ad cI cO g b d X) H0 [.ref (ad 2), .int p0, .int q0, .int y0] (bI (ab (rw_ g 1 q0 - rw_ g 1 p0) ≤ y0 ∧ ab (rw_ g 2 q0 - rw_ g 2 p0) ≤ y0)) := by
  refine Met.ofW (cc := cX3_areNear) (maxL := 4) (ret := (some .boolean)) (by decide) rfl ?_
  intro p e s m args below meth c s₁ B hml hv
  obtain ⟨rfl, rfl, hP, hK, hZ, hN⟩ := hv
  have hx := B.exec
  have hb := B.bytes
  have hr := B.returns
  have hts := atoms_spec (ws := wsX3_areNear) B.pre
  have hown : s.vm.findClass RX3 = some m.cls := findClass_of_methodNamed B.named
  have hlocks := B.notSynchronized
  have hS : va_S (fun _ => False) s.heap s.heap [] := va_S.rf
  have hl := lv_entry ([.ref (ad 2), .int p0, .int q0, .int y0]) (n := 4) (Nat.le_of_ble_eq_true rfl)
  rw [lg_entry_eq]
  generalize (lg_sl ([.ref (ad 2), .int p0, .int q0, .int y0]) ++ List.replicate (4 - (lg_sl ([.ref (ad 2), .int p0, .int q0, .int y0])).length) Slot.unset).toArray = ls at hl ⊢
  have hl : lv_has ls 4 [(0, .ref (ad 2)), (1, .int p0), (2, .int q0), (3, .int y0)] := hl
  have hw0 := hts (.methodLink RX3 39 Lib.Math.abs.name) (List.mem_cons_of_mem _ (List.mem_append_left _ (List.mem_of_getElem? (i := 0) rfl)))
  have hw1 := hts (.static Lib.Math.abs.name) (List.mem_cons_of_mem _ (List.mem_append_left _ (List.mem_of_getElem? (i := 1) rfl)))
  have hw2 := hts (.initialized "java/lang/Math") (List.mem_cons_of_mem _ (List.mem_append_left _ (List.mem_of_getElem? (i := 2) rfl)))
  have hw3 := hts (.code Lib.Math.abs.name Lib.Math.abs.code 1 (some .int)) (List.mem_cons_of_mem _ (List.mem_append_left _ (List.mem_of_getElem? (i := 3) rfl)))
  refine lv_aload_n hx hb dX3_areNear_0 rfl (lv_at hl 0 rfl) ?_
  refine lv_iload_n hx hb dX3_areNear_1 rfl (lv_at hl 2 rfl) ?_
  refine pcI (va_runV (As := [.int q0]) (rest := []) ⟨hx, hb, hml, hown, hts⟩ (kX3_xOf l D cI cO tt ad g b d X s.heap q0 hI) (cwV 1 hts gX3_areNear_X3_xOf rfl rfl rfl (by decide +kernel) ⟨(Nat.le_of_ble_eq_true rfl), (Nat.le_of_ble_eq_true rfl)⟩) (pwV hK hZ hN hP hS (va_recv hK hP (ci := 3) (q0 := 2) rfl rfl)) rfl rfl hl.1 rfl (lv_room (Nat.le_of_ble_eq_true rfl)) dX3_areNear_2 ⟨Nat.zero_le _, Nat.zero_le _⟩) hS (fun locs hS => ?_)
  refine lv_aload_n hx hb dX3_areNear_5 rfl (lv_at hl 0 rfl) ?_
  refine lv_iload_n hx hb dX3_areNear_6 rfl (lv_at hl 1 rfl) ?_
  refine pcI (va_runV (As := [.int p0]) (rest := [.int (rw_ g 1 q0)]) ⟨hx, hb, hml, hown, hts⟩ (kX3_xOf l D cI cO tt ad g b d X s.heap p0 hI) (cwV 1 hts gX3_areNear_X3_xOf rfl rfl rfl (by decide +kernel) ⟨(Nat.le_of_ble_eq_true rfl), (Nat.le_of_ble_eq_true rfl)⟩) (pwV hK hZ hN hP hS (va_recv hK hP (ci := 3) (q0 := 2) rfl rfl)) rfl rfl hl.1 rfl (lv_room (Nat.le_of_ble_eq_true rfl)) dX3_areNear_7 ⟨Nat.zero_le _, Nat.zero_le _⟩) hS (fun locs hS => ?_)
  refine lv_isub hx hb dX3_areNear_10 ?_
  refine va_mabs hx hb (hml.trans hl.1.symm) hown hw0 hw1 hw2 hw3 (Nat.le_of_ble_eq_true rfl) (Nat.le_of_ble_eq_true rfl) (Nat.zero_le _) (Nat.zero_le _) dX3_areNear_11 ?_
  refine lv_iload_n hx hb dX3_areNear_14 rfl (lv_at hl 3 rfl) ?_
  refine lv_icmp_gt (tgt := 40) hx hb dX3_areNear_15 (by decide) (fun c_1 => ?_) (fun c_1 => ?_)
  · refine lv_iconst (v := 0) hx hb dX3_areNear_40 (by decide) ?_
    exact W.zret (v := 0) hx hb hr rfl (fun t ht hW => ⟨⟨0, (), rfl, (by grind [bI, ab]), ht⟩, hS.F ht⟩) hS.2.2 dX3_areNear_41
  · refine lv_aload_n hx hb dX3_areNear_18 rfl (lv_at hl 0 rfl) ?_
    refine lv_iload_n hx hb dX3_areNear_19 rfl (lv_at hl 2 rfl) ?_
    refine pcI (va_runV (As := [.int q0]) (rest := []) ⟨hx, hb, hml, hown, hts⟩ (kX3_yOf l D cI cO tt ad g b d X s.heap q0 hI) (cwV 1 hts gX3_areNear_X3_yOf rfl rfl rfl (by decide +kernel) ⟨(Nat.le_of_ble_eq_true rfl), (Nat.le_of_ble_eq_true rfl)⟩) (pwV hK hZ hN hP hS (va_recv hK hP (ci := 3) (q0 := 2) rfl rfl)) rfl rfl hl.1 rfl (lv_room (Nat.le_of_ble_eq_true rfl)) dX3_areNear_20 ⟨Nat.zero_le _, Nat.zero_le _⟩) hS (fun locs hS => ?_)
    refine lv_aload_n hx hb dX3_areNear_23 rfl (lv_at hl 0 rfl) ?_
    refine lv_iload_n hx hb dX3_areNear_24 rfl (lv_at hl 1 rfl) ?_
    refine pcI (va_runV (As := [.int p0]) (rest := [.int (rw_ g 2 q0)]) ⟨hx, hb, hml, hown, hts⟩ (kX3_yOf l D cI cO tt ad g b d X s.heap p0 hI) (cwV 1 hts gX3_areNear_X3_yOf rfl rfl rfl (by decide +kernel) ⟨(Nat.le_of_ble_eq_true rfl), (Nat.le_of_ble_eq_true rfl)⟩) (pwV hK hZ hN hP hS (va_recv hK hP (ci := 3) (q0 := 2) rfl rfl)) rfl rfl hl.1 rfl (lv_room (Nat.le_of_ble_eq_true rfl)) dX3_areNear_25 ⟨Nat.zero_le _, Nat.zero_le _⟩) hS (fun locs hS => ?_)
    refine lv_isub hx hb dX3_areNear_28 ?_
    refine va_mabs hx hb (hml.trans hl.1.symm) hown hw0 hw1 hw2 hw3 (Nat.le_of_ble_eq_true rfl) (Nat.le_of_ble_eq_true rfl) (Nat.zero_le _) (Nat.zero_le _) dX3_areNear_29 ?_
    refine lv_iload_n hx hb dX3_areNear_32 rfl (lv_at hl 3 rfl) ?_
    refine lv_icmp_gt (tgt := 40) hx hb dX3_areNear_33 (by decide) (fun c_2 => ?_) (fun c_2 => ?_)
    · refine lv_iconst (v := 0) hx hb dX3_areNear_40 (by decide) ?_
      exact W.zret (v := 0) hx hb hr rfl (fun t ht hW => ⟨⟨0, (), rfl, (by grind [bI, ab]), ht⟩, hS.F ht⟩) hS.2.2 dX3_areNear_41
    · refine lv_iconst (v := 1) hx hb dX3_areNear_36 (by decide) ?_
      refine lv_goto (tgt := 41) hx hb dX3_areNear_37 (by decide) ?_
      exact W.zret (v := 1) hx hb hr rfl (fun t ht hW => ⟨⟨1, (), rfl, (by grind [bI, ab]), ht⟩, hS.F ht⟩) hS.2.2 dX3_areNear_41
set_option maxHeartbeats 4000000 in
set_option maxRecDepth 100000 in
theorem kX1_east (l : Launch) (D : va_G) (cI cO : ClassId) (tt : Nat) (ad : Nat → Nat) (g : Nat → Nat → Int32) (b : Nat → Int32) (d : Nat → Nat → Int64) (X : va_W) (H0 : Heap) (k : Nat) (t0 : Int32) (hk : k < 4) : MpL l yX1_east wsX1_east ({ frames := 2, cells := 0, slots := 0, locals := 44 }) D cI cO tt (LW ad cI cO g b d X) H0 [.ref (ad (4 + k)), .int t0] (xT (d k 0) (d k 1) t0 + d k 2) := by
  refine Met.ofW (cc := cX1_east) (maxL := 2) (ret := (some .long)) (by decide) rfl ?_
  intro p e s m args below meth c s₁ B hml hv
  obtain ⟨rfl, rfl, hP, hK, hZ, hN⟩ := hv
  have hx := B.exec
  have hb := B.bytes
  have hr := B.returns
  have hts := atoms_spec (ws := wsX1_east) B.pre
  have hown : s.vm.findClass RX1 = some m.cls := findClass_of_methodNamed B.named
  have hlocks := B.notSynchronized
  have hS : va_S (fun _ => False) s.heap s.heap [] := va_S.rf
  have hl := lv_entry ([.ref (ad (4 + k)), .int t0]) (n := 2) (Nat.le_of_ble_eq_true rfl)
  rw [lg_entry_eq]
  generalize (lg_sl ([.ref (ad (4 + k)), .int t0]) ++ List.replicate (2 - (lg_sl ([.ref (ad (4 + k)), .int t0])).length) Slot.unset).toArray = ls at hl ⊢
  have hl : lv_has ls 2 [(0, .ref (ad (4 + k))), (1, .int t0)] := hl
  have hw0 := hts (.fieldLink RX1 7 "LayerSounder$Drift" "swungX" "J") (List.mem_cons_of_mem _ (List.mem_append_left _ (List.mem_of_getElem? (i := 0) rfl)))
  have iX1 : ∀ w ∈ wsX10, w ∈ wsX1_east := fun _ h => List.mem_cons_of_mem _ (List.mem_append_right _ h)
  have hw2 := hts (.fieldLink RX1 13 "LayerSounder$Drift" "swungY" "J") (List.mem_cons_of_mem _ (List.mem_append_left _ (List.mem_of_getElem? (i := 1) rfl)))
  have hw3 := hts (.initialized RX4) (List.mem_cons_of_mem _ (List.mem_append_left _ (List.mem_of_getElem? (i := 4) rfl)))
  have hw4 := hts (.static yX4_xTurned) (List.mem_cons_of_mem _ (List.mem_append_left _ (List.mem_of_getElem? (i := 3) rfl)))
  have hw5 := hts (.fieldLink RX1 16 "LayerSounder$Drift" "heldX" "J") (List.mem_cons_of_mem _ (List.mem_append_left _ (List.mem_of_getElem? (i := 2) rfl)))
  refine lv_aload_n hx hb dX1_east_0 rfl (lv_at hl 0 rfl) ?_
  refine va_get (D := D) (ci := 1) (v := .long (d k 0)) (C := RX1) (T := TX1) (N := 4) hx hb hts iX1 hown hK hP (4 + k) (LW_d hk) rfl 0 (by decide) hw0 (fun _ h9 => h9) rfl dX1_east_1 ?_
  refine lv_aload_n hx hb dX1_east_4 rfl (lv_at hl 0 rfl) ?_
  refine va_get (D := D) (ci := 1) (v := .long (d k 1)) (C := RX1) (T := TX1) (N := 4) hx hb hts iX1 hown hK hP (4 + k) (LW_d hk) rfl 1 (by decide) hw2 (fun _ h9 => h9) rfl dX1_east_5 ?_
  refine lv_iload_n hx hb dX1_east_8 rfl (lv_at hl 1 rfl) ?_
  refine pcL (va_runSN (As := [.long (d k 0), .long (d k 1), .int t0]) (rest := []) ⟨hx, hb, hml, hown, hts⟩ (kX4_xTurned l D cI cO tt (LW ad cI cO g b d X) s.heap (d k 0) (d k 1) t0 ) ⟨va_cnB (host := RX4) 3 hts gX1_east_X4_xTurned_n22 rfl rfl rfl (hN.2 (RX1, 22, yX4_xTurned) (List.mem_of_getElem? (i := 5) rfl)) hw3 (by decide +kernel) ⟨(Nat.le_of_ble_eq_true rfl), (Nat.le_of_ble_eq_true rfl)⟩, hw4, trivial⟩ (pwS hK hZ hN hP hS) rfl rfl hl.1 rfl (lv_room (Nat.le_of_ble_eq_true rfl)) dX1_east_9 ⟨Nat.zero_le _, Nat.zero_le _⟩) hS (fun locs hS => ?_)
  refine lv_aload_n hx hb dX1_east_12 rfl (lv_at hl 0 rfl) ?_
  refine va_get (D := D) (ci := 1) (v := .long (d k 2)) (C := RX1) (T := TX1) (N := 4) hx hb hts iX1 hown hK hP (4 + k) (LW_d hk) rfl 2 (by decide) hw5 (fun _ h9 => h9) rfl dX1_east_13 ?_
  refine lv_ladd hx hb dX1_east_16 ?_
  exact W.lret (v := (xT (d k 0) (d k 1) t0) + (d k 2)) hx hb hr (fun t ht hW => ⟨⟨(xT (d k 0) (d k 1) t0) + (d k 2), (), rfl, (by rfl), ht⟩, hS.F ht⟩) hS.2.2 dX1_east_17
set_option maxHeartbeats 4000000 in
set_option maxRecDepth 100000 in
theorem kX1_north (l : Launch) (D : va_G) (cI cO : ClassId) (tt : Nat) (ad : Nat → Nat) (g : Nat → Nat → Int32) (b : Nat → Int32) (d : Nat → Nat → Int64) (X : va_W) (H0 : Heap) (k : Nat) (t0 : Int32) (hk : k < 4) : MpL l yX1_north wsX1_north ({ frames := 2, cells := 0, slots := 0, locals := 44 }) D cI cO tt (LW ad cI cO g b d X) H0 [.ref (ad (4 + k)), .int t0] (yT (d k 0) (d k 1) t0 + d k 3) := by
  refine Met.ofW (cc := cX1_north) (maxL := 2) (ret := (some .long)) (by decide) rfl ?_
  intro p e s m args below meth c s₁ B hml hv
  obtain ⟨rfl, rfl, hP, hK, hZ, hN⟩ := hv
  have hx := B.exec
  have hb := B.bytes
  have hr := B.returns
  have hts := atoms_spec (ws := wsX1_north) B.pre
  have hown : s.vm.findClass RX1 = some m.cls := findClass_of_methodNamed B.named
  have hlocks := B.notSynchronized
  have hS : va_S (fun _ => False) s.heap s.heap [] := va_S.rf
  have hl := lv_entry ([.ref (ad (4 + k)), .int t0]) (n := 2) (Nat.le_of_ble_eq_true rfl)
  rw [lg_entry_eq]
  generalize (lg_sl ([.ref (ad (4 + k)), .int t0]) ++ List.replicate (2 - (lg_sl ([.ref (ad (4 + k)), .int t0])).length) Slot.unset).toArray = ls at hl ⊢
  have hl : lv_has ls 2 [(0, .ref (ad (4 + k))), (1, .int t0)] := hl
  have hw0 := hts (.fieldLink RX1 7 "LayerSounder$Drift" "swungX" "J") (List.mem_cons_of_mem _ (List.mem_append_left _ (List.mem_of_getElem? (i := 0) rfl)))
  have iX1 : ∀ w ∈ wsX10, w ∈ wsX1_north := fun _ h => List.mem_cons_of_mem _ (List.mem_append_right _ h)
  have hw2 := hts (.fieldLink RX1 13 "LayerSounder$Drift" "swungY" "J") (List.mem_cons_of_mem _ (List.mem_append_left _ (List.mem_of_getElem? (i := 1) rfl)))
  have hw3 := hts (.initialized RX4) (List.mem_cons_of_mem _ (List.mem_append_left _ (List.mem_of_getElem? (i := 4) rfl)))
  have hw4 := hts (.static yX4_yTurned) (List.mem_cons_of_mem _ (List.mem_append_left _ (List.mem_of_getElem? (i := 3) rfl)))
  have hw5 := hts (.fieldLink RX1 19 "LayerSounder$Drift" "heldY" "J") (List.mem_cons_of_mem _ (List.mem_append_left _ (List.mem_of_getElem? (i := 2) rfl)))
  refine lv_aload_n hx hb dX1_north_0 rfl (lv_at hl 0 rfl) ?_
  refine va_get (D := D) (ci := 1) (v := .long (d k 0)) (C := RX1) (T := TX1) (N := 4) hx hb hts iX1 hown hK hP (4 + k) (LW_d hk) rfl 0 (by decide) hw0 (fun _ h9 => h9) rfl dX1_north_1 ?_
  refine lv_aload_n hx hb dX1_north_4 rfl (lv_at hl 0 rfl) ?_
  refine va_get (D := D) (ci := 1) (v := .long (d k 1)) (C := RX1) (T := TX1) (N := 4) hx hb hts iX1 hown hK hP (4 + k) (LW_d hk) rfl 1 (by decide) hw2 (fun _ h9 => h9) rfl dX1_north_5 ?_
  refine lv_iload_n hx hb dX1_north_8 rfl (lv_at hl 1 rfl) ?_
  refine pcL (va_runSN (As := [.long (d k 0), .long (d k 1), .int t0]) (rest := []) ⟨hx, hb, hml, hown, hts⟩ (kX4_yTurned l D cI cO tt (LW ad cI cO g b d X) s.heap (d k 0) (d k 1) t0 ) ⟨va_cnB (host := RX4) 3 hts gX1_north_X4_yTurned_n28 rfl rfl rfl (hN.2 (RX1, 28, yX4_yTurned) (List.mem_of_getElem? (i := 6) rfl)) hw3 (by decide +kernel) ⟨(Nat.le_of_ble_eq_true rfl), (Nat.le_of_ble_eq_true rfl)⟩, hw4, trivial⟩ (pwS hK hZ hN hP hS) rfl rfl hl.1 rfl (lv_room (Nat.le_of_ble_eq_true rfl)) dX1_north_9 ⟨Nat.zero_le _, Nat.zero_le _⟩) hS (fun locs hS => ?_)
  refine lv_aload_n hx hb dX1_north_12 rfl (lv_at hl 0 rfl) ?_
  refine va_get (D := D) (ci := 1) (v := .long (d k 3)) (C := RX1) (T := TX1) (N := 4) hx hb hts iX1 hown hK hP (4 + k) (LW_d hk) rfl 3 (by decide) hw5 (fun _ h9 => h9) rfl dX1_north_13 ?_
  refine lv_ladd hx hb dX1_north_16 ?_
  exact W.lret (v := (yT (d k 0) (d k 1) t0) + (d k 3)) hx hb hr (fun t ht hW => ⟨⟨(yT (d k 0) (d k 1) t0) + (d k 3), (), rfl, (by rfl), ht⟩, hS.F ht⟩) hS.2.2 dX1_north_17
set_option maxHeartbeats 4000000 in
set_option maxRecDepth 100000 in
theorem kX1_part (l : Launch) (D : va_G) (cI cO : ClassId) (tt : Nat) (ad : Nat → Nat) (g : Nat → Nat → Int32) (b : Nat → Int32) (d : Nat → Nat → Int64) (X : va_W) (H0 : Heap) (k : Nat) (t0 : Int32) (y0 : Int32) (hk : k < 4) : MpL l yX1_part wsX1_part ({ frames := 3, cells := 0, slots := 0, locals := 65 }) D cI cO tt (LW ad cI cO g b d X) H0 [.ref (ad (4 + k)), .int t0, .int y0] (if y0 = 0 then xT (d k 0) (d k 1) t0 + d k 2 else yT (d k 0) (d k 1) t0 + d k 3) := by
  refine Met.ofW (cc := cX1_part) (maxL := 3) (ret := (some .long)) (by decide) rfl ?_
  intro p e s m args below meth c s₁ B hml hv
  obtain ⟨rfl, rfl, hP, hK, hZ, hN⟩ := hv
  have hx := B.exec
  have hb := B.bytes
  have hr := B.returns
  have hts := atoms_spec (ws := wsX1_part) B.pre
  have hown : s.vm.findClass RX1 = some m.cls := findClass_of_methodNamed B.named
  have hlocks := B.notSynchronized
  have hS : va_S (fun _ => False) s.heap s.heap [] := va_S.rf
  have hl := lv_entry ([.ref (ad (4 + k)), .int t0, .int y0]) (n := 3) (Nat.le_of_ble_eq_true rfl)
  rw [lg_entry_eq]
  generalize (lg_sl ([.ref (ad (4 + k)), .int t0, .int y0]) ++ List.replicate (3 - (lg_sl ([.ref (ad (4 + k)), .int t0, .int y0])).length) Slot.unset).toArray = ls at hl ⊢
  have hl : lv_has ls 3 [(0, .ref (ad (4 + k))), (1, .int t0), (2, .int y0)] := hl
  refine lv_iload_n hx hb dX1_part_0 rfl (lv_at hl 2 rfl) ?_
  refine lv_if_ne (tgt := 12) hx hb dX1_part_1 (by decide) (fun c_1 => ?_) (fun c_1 => ?_)
  · refine lv_aload_n hx hb dX1_part_12 rfl (lv_at hl 0 rfl) ?_
    refine lv_iload_n hx hb dX1_part_13 rfl (lv_at hl 1 rfl) ?_
    refine pcL (va_runV (As := [.int t0]) (rest := []) ⟨hx, hb, hml, hown, hts⟩ (kX1_north l D cI cO tt ad g b d X s.heap k t0 hk) (cwV 1 hts gX1_part_X1_north rfl rfl rfl (by decide +kernel) ⟨(Nat.le_of_ble_eq_true rfl), (Nat.le_of_ble_eq_true rfl)⟩) (pwV hK hZ hN hP hS (va_recv hK hP (ci := 1) (q0 := (4 + k)) rfl (LW_d hk))) rfl rfl hl.1 rfl (lv_room (Nat.le_of_ble_eq_true rfl)) dX1_part_14 ⟨Nat.zero_le _, Nat.zero_le _⟩) hS (fun locs hS => ?_)
    exact W.lret (v := yT (d k 0) (d k 1) t0 + d k 3) hx hb hr (fun t ht hW => ⟨⟨yT (d k 0) (d k 1) t0 + d k 3, (), rfl, (by grind), ht⟩, hS.F ht⟩) hS.2.2 dX1_part_17
  · refine lv_aload_n hx hb dX1_part_4 rfl (lv_at hl 0 rfl) ?_
    refine lv_iload_n hx hb dX1_part_5 rfl (lv_at hl 1 rfl) ?_
    refine pcL (va_runV (As := [.int t0]) (rest := []) ⟨hx, hb, hml, hown, hts⟩ (kX1_east l D cI cO tt ad g b d X s.heap k t0 hk) (cwV 1 hts gX1_part_X1_east rfl rfl rfl (by decide +kernel) ⟨(Nat.le_of_ble_eq_true rfl), (Nat.le_of_ble_eq_true rfl)⟩) (pwV hK hZ hN hP hS (va_recv hK hP (ci := 1) (q0 := (4 + k)) rfl (LW_d hk))) rfl rfl hl.1 rfl (lv_room (Nat.le_of_ble_eq_true rfl)) dX1_part_6 ⟨Nat.zero_le _, Nat.zero_le _⟩) hS (fun locs hS => ?_)
    refine lv_goto (tgt := 17) hx hb dX1_part_9 (by decide) ?_
    exact W.lret (v := xT (d k 0) (d k 1) t0 + d k 2) hx hb hr (fun t ht hW => ⟨⟨xT (d k 0) (d k 1) t0 + d k 2, (), rfl, (by grind), ht⟩, hS.F ht⟩) hS.2.2 dX1_part_17
