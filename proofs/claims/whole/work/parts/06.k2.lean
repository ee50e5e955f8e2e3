set_option maxHeartbeats 4000000 in
set_option maxRecDepth 100000 in
theorem kX1_rest (l : Launch) (D : va_G) (cI cO : ClassId) (tt : Nat) (ad : Nat → Nat) (g : Nat → Nat → Int32) (b : Nat → Int32) (d : Nat → Nat → Int64) (X : va_W) (sz : Nat) (k : Nat) (hk : k < 4) : MmV l yX1_rest wsX1_rest ({ frames := 0, cells := 0, slots := 0, locals := 0 }) D cI cO tt (LW ad cI cO g b d X) sz [.ref (ad (4 + k))] (S := Nat → Nat → Int64) (fun u => LW ad cI cO g b u X) (fun u => dP d k 0 0 0 0 u) := by
  refine Met.ofW (cc := cX1_rest) (maxL := 1) (ret := none) (by decide) rfl ?_
  intro p e s m args below meth c s₁ B hml hv
  obtain ⟨rfl, hsz, hP, hK, hD0, hZ, hN⟩ := hv
  have hx := B.exec
  have hb := B.bytes
  have hr := B.returns
  have hts := atoms_spec (ws := wsX1_rest) B.pre
  have hown : s.vm.findClass RX1 = some m.cls := findClass_of_methodNamed B.named
  have hlocks := B.notSynchronized
  subst hsz
  have hD := hD0.self (sz := s.heap.size)
  generalize hAe : va_A (LW ad cI cO g b d X) s.heap.size = A at hD hZ ⊢
  have hA : ∀ q : Nat, s.heap.size ≤ q → A q := fun q h => by rw [← hAe]; exact Or.inr h
  have hS : va_S A s.heap s.heap [] := va_S.rf
  have hl := lv_entry ([.ref (ad (4 + k))]) (n := 1) (Nat.le_of_ble_eq_true rfl)
  rw [lg_entry_eq]
  generalize (lg_sl ([.ref (ad (4 + k))]) ++ List.replicate (1 - (lg_sl ([.ref (ad (4 + k))])).length) Slot.unset).toArray = ls at hl ⊢
  have hl : lv_has ls 1 [(0, .ref (ad (4 + k)))] := hl
  have hw0 := hts (.fieldLink RX1 7 "LayerSounder$Drift" "swungX" "J") (List.mem_cons_of_mem _ (List.mem_append_left _ (List.mem_of_getElem? (i := 0) rfl)))
  have iX1 : ∀ w ∈ wsX10, w ∈ wsX1_rest := fun _ h => List.mem_cons_of_mem _ (List.mem_append_right _ h)
  have hw2 := hts (.fieldLink RX1 13 "LayerSounder$Drift" "swungY" "J") (List.mem_cons_of_mem _ (List.mem_append_left _ (List.mem_of_getElem? (i := 1) rfl)))
  have hw3 := hts (.fieldLink RX1 16 "LayerSounder$Drift" "heldX" "J") (List.mem_cons_of_mem _ (List.mem_append_left _ (List.mem_of_getElem? (i := 2) rfl)))
  have hw4 := hts (.fieldLink RX1 19 "LayerSounder$Drift" "heldY" "J") (List.mem_cons_of_mem _ (List.mem_append_left _ (List.mem_of_getElem? (i := 3) rfl)))
  refine lv_aload_n hx hb dX1_rest_0 rfl (lv_at hl 0 rfl) ?_
  refine lv_lconst (v := 0) hx hb dX1_rest_1 (by decide) ?_
  refine va_put (D := D) (ci := 1) (v := .long 0) (C := RX1) (T := TX1) (N := 4) hx hb hts iX1 tyX1 tyX1_ok nmX1 hown hK hP hD hS (4 + k) (LW_d hk) rfl 0 (by decide) hw0 (fun _ h9 => h9) rfl (tyX1_ok 0 (by decide)) rfl rfl (Nat.le_of_ble_eq_true rfl) dX1_rest_2 (fun H locs hP hD hS => ?_)
  have hP : va_P D vwCl (LW ad cI cO g b (up2 d k 0 0) X) H := by
    have h9 := hP
    rw [← LW_d0 hk]
    exact h9
  have hD : va_D A (LW ad cI cO g b (up2 d k 0 0) X) := by
    have h9 := hD
    rw [← LW_d0 hk]
    exact h9
  refine lv_aload_n hx hb dX1_rest_5 rfl (lv_at hl 0 rfl) ?_
  refine lv_lconst (v := 0) hx hb dX1_rest_6 (by decide) ?_
  refine va_put (D := D) (ci := 1) (v := .long 0) (C := RX1) (T := TX1) (N := 4) hx hb hts iX1 tyX1 tyX1_ok nmX1 hown hK hP hD hS (4 + k) (LW_d hk) rfl 1 (by decide) hw2 (fun _ h9 => h9) rfl (tyX1_ok 1 (by decide)) rfl rfl (Nat.le_of_ble_eq_true rfl) dX1_rest_7 (fun H locs hP hD hS => ?_)
  have hP : va_P D vwCl (LW ad cI cO g b (up2 (up2 d k 0 0) k 1 0) X) H := by
    have h9 := hP
    rw [← LW_d1 hk]
    exact h9
  have hD : va_D A (LW ad cI cO g b (up2 (up2 d k 0 0) k 1 0) X) := by
    have h9 := hD
    rw [← LW_d1 hk]
    exact h9
  refine lv_aload_n hx hb dX1_rest_10 rfl (lv_at hl 0 rfl) ?_
  refine lv_lconst (v := 0) hx hb dX1_rest_11 (by decide) ?_
  refine va_put (D := D) (ci := 1) (v := .long 0) (C := RX1) (T := TX1) (N := 4) hx hb hts iX1 tyX1 tyX1_ok nmX1 hown hK hP hD hS (4 + k) (LW_d hk) rfl 2 (by decide) hw3 (fun _ h9 => h9) rfl (tyX1_ok 2 (by decide)) rfl rfl (Nat.le_of_ble_eq_true rfl) dX1_rest_12 (fun H locs hP hD hS => ?_)
  have hP : va_P D vwCl (LW ad cI cO g b (up2 (up2 (up2 d k 0 0) k 1 0) k 2 0) X) H := by
    have h9 := hP
    rw [← LW_d2 hk]
    exact h9
  have hD : va_D A (LW ad cI cO g b (up2 (up2 (up2 d k 0 0) k 1 0) k 2 0) X) := by
    have h9 := hD
    rw [← LW_d2 hk]
    exact h9
  refine lv_aload_n hx hb dX1_rest_15 rfl (lv_at hl 0 rfl) ?_
  refine lv_lconst (v := 0) hx hb dX1_rest_16 (by decide) ?_
  refine va_put (D := D) (ci := 1) (v := .long 0) (C := RX1) (T := TX1) (N := 4) hx hb hts iX1 tyX1 tyX1_ok nmX1 hown hK hP hD hS (4 + k) (LW_d hk) rfl 3 (by decide) hw4 (fun _ h9 => h9) rfl (tyX1_ok 3 (by decide)) rfl rfl (Nat.le_of_ble_eq_true rfl) dX1_rest_17 (fun H locs hP hD hS => ?_)
  have hP : va_P D vwCl (LW ad cI cO g b (up2 (up2 (up2 (up2 d k 0 0) k 1 0) k 2 0) k 3 0) X) H := by
    have h9 := hP
    rw [← LW_d3 hk]
    exact h9
  have hD : va_D A (LW ad cI cO g b (up2 (up2 (up2 (up2 d k 0 0) k 1 0) k 2 0) k 3 0) X) := by
    have h9 := hD
    rw [← LW_d3 hk]
    exact h9
  exact W.vret hx hb hr (fun t ht hW => ⟨⟨up2 (up2 (up2 (up2 d k 0 0) k 1 0) k 2 0) k 3 0, rfl, (by exact dP_4 d k 0 0 0 0), by rw [ht]; exact hP, hD⟩, hS.F ht⟩) hS.2.2 dX1_rest_20
set_option maxHeartbeats 4000000 in
set_option maxRecDepth 100000 in
theorem kX1_swing (l : Launch) (D : va_G) (cI cO : ClassId) (tt : Nat) (ad : Nat → Nat) (g : Nat → Nat → Int32) (b : Nat → Int32) (d : Nat → Nat → Int64) (X : va_W) (sz : Nat) (k : Nat) (x0 : Int32) (y0 : Int32) (t0 : Int32) (hk : k < 4) : MmV l yX1_swing wsX1_swing ({ frames := 2, cells := 0, slots := 0, locals := 44 }) D cI cO tt (LW ad cI cO g b d X) sz [.ref (ad (4 + k)), .int x0, .int y0, .int t0] (S := Nat → Nat → Int64) (fun u => LW ad cI cO g b u X) (fun u => dP d k (xT x0.toInt64 y0.toInt64 t0) (yT x0.toInt64 y0.toInt64 t0) (d k 2) (d k 3) u) := by
  refine Met.ofW (cc := cX1_swing) (maxL := 4) (ret := none) (by decide) rfl ?_
  intro p e s m args below meth c s₁ B hml hv
  obtain ⟨rfl, hsz, hP, hK, hD0, hZ, hN⟩ := hv
  have hx := B.exec
  have hb := B.bytes
  have hr := B.returns
  have hts := atoms_spec (ws := wsX1_swing) B.pre
  have hown : s.vm.findClass RX1 = some m.cls := findClass_of_methodNamed B.named
  have hlocks := B.notSynchronized
  subst hsz
  have hD := hD0.self (sz := s.heap.size)
  generalize hAe : va_A (LW ad cI cO g b d X) s.heap.size = A at hD hZ ⊢
  have hA : ∀ q : Nat, s.heap.size ≤ q → A q := fun q h => by rw [← hAe]; exact Or.inr h
  have hS : va_S A s.heap s.heap [] := va_S.rf
  have hl := lv_entry ([.ref (ad (4 + k)), .int x0, .int y0, .int t0]) (n := 4) (Nat.le_of_ble_eq_true rfl)
  rw [lg_entry_eq]
  generalize (lg_sl ([.ref (ad (4 + k)), .int x0, .int y0, .int t0]) ++ List.replicate (4 - (lg_sl ([.ref (ad (4 + k)), .int x0, .int y0, .int t0])).length) Slot.unset).toArray = ls at hl ⊢
  have hl : lv_has ls 4 [(0, .ref (ad (4 + k))), (1, .int x0), (2, .int y0), (3, .int t0)] := hl
  have hw0 := hts (.initialized RX4) (List.mem_cons_of_mem _ (List.mem_append_left _ (List.mem_of_getElem? (i := 3) rfl)))
  have hw1 := hts (.static yX4_xTurned) (List.mem_cons_of_mem _ (List.mem_append_left _ (List.mem_of_getElem? (i := 2) rfl)))
  have hw2 := hts (.fieldLink RX1 7 "LayerSounder$Drift" "swungX" "J") (List.mem_cons_of_mem _ (List.mem_append_left _ (List.mem_of_getElem? (i := 0) rfl)))
  have iX1 : ∀ w ∈ wsX10, w ∈ wsX1_swing := fun _ h => List.mem_cons_of_mem _ (List.mem_append_right _ h)
  have hw4 := hts (.static yX4_yTurned) (List.mem_cons_of_mem _ (List.mem_append_left _ (List.mem_of_getElem? (i := 12) rfl)))
  have hw5 := hts (.fieldLink RX1 13 "LayerSounder$Drift" "swungY" "J") (List.mem_cons_of_mem _ (List.mem_append_left _ (List.mem_of_getElem? (i := 1) rfl)))
  refine lv_aload_n hx hb dX1_swing_0 rfl (lv_at hl 0 rfl) ?_
  refine lv_iload_n hx hb dX1_swing_1 rfl (lv_at hl 1 rfl) ?_
  refine lv_i2l hx hb dX1_swing_2 rfl ?_
  refine lv_iload_n hx hb dX1_swing_3 rfl (lv_at hl 2 rfl) ?_
  refine lv_i2l hx hb dX1_swing_4 rfl ?_
  refine lv_iload_n hx hb dX1_swing_5 rfl (lv_at hl 3 rfl) ?_
  refine pcL (va_runSN (As := [.long x0.toInt64, .long y0.toInt64, .int t0]) (rest := [.ref (ad (4 + k))]) ⟨hx, hb, hml, hown, hts⟩ (kX4_xTurned l D cI cO tt (LW ad cI cO g b d X) s.heap x0.toInt64 y0.toInt64 t0 ) ⟨va_cnB (host := RX4) 3 hts gX1_swing_X4_xTurned_n22 rfl rfl rfl (hN.2 (RX1, 22, yX4_xTurned) (List.mem_of_getElem? (i := 5) rfl)) hw0 (by decide +kernel) ⟨(Nat.le_of_ble_eq_true rfl), (Nat.le_of_ble_eq_true rfl)⟩, hw1, trivial⟩ (pwS hK hZ hN hP hS) rfl rfl hl.1 rfl (lv_room (Nat.le_of_ble_eq_true rfl)) dX1_swing_6 ⟨Nat.zero_le _, Nat.zero_le _⟩) hS (fun locs hS => ?_)
  refine va_put (D := D) (ci := 1) (v := .long (xT x0.toInt64 y0.toInt64 t0)) (C := RX1) (T := TX1) (N := 4) hx hb hts iX1 tyX1 tyX1_ok nmX1 hown hK hP hD hS (4 + k) (LW_d hk) rfl 0 (by decide) hw2 (fun _ h9 => h9) rfl (tyX1_ok 0 (by decide)) rfl rfl (Nat.le_of_ble_eq_true rfl) dX1_swing_9 (fun H locs hP hD hS => ?_)
  have hP : va_P D vwCl (LW ad cI cO g b (up2 d k 0 (xT x0.toInt64 y0.toInt64 t0)) X) H := by
    have h9 := hP
    rw [← LW_d0 hk]
    exact h9
  have hD : va_D A (LW ad cI cO g b (up2 d k 0 (xT x0.toInt64 y0.toInt64 t0)) X) := by
    have h9 := hD
    rw [← LW_d0 hk]
    exact h9
  refine lv_aload_n hx hb dX1_swing_12 rfl (lv_at hl 0 rfl) ?_
  refine lv_iload_n hx hb dX1_swing_13 rfl (lv_at hl 1 rfl) ?_
  refine lv_i2l hx hb dX1_swing_14 rfl ?_
  refine lv_iload_n hx hb dX1_swing_15 rfl (lv_at hl 2 rfl) ?_
  refine lv_i2l hx hb dX1_swing_16 rfl ?_
  refine lv_iload_n hx hb dX1_swing_17 rfl (lv_at hl 3 rfl) ?_
  refine pcL (va_runSN (As := [.long x0.toInt64, .long y0.toInt64, .int t0]) (rest := [.ref (ad (4 + k))]) ⟨hx, hb, hml, hown, hts⟩ (kX4_yTurned l D cI cO tt (LW ad cI cO g b (up2 d k 0 (xT x0.toInt64 y0.toInt64 t0)) X) H x0.toInt64 y0.toInt64 t0 ) ⟨va_cnB (host := RX4) 3 hts gX1_swing_X4_yTurned_n28 rfl rfl rfl (hN.2 (RX1, 28, yX4_yTurned) (List.mem_of_getElem? (i := 6) rfl)) hw0 (by decide +kernel) ⟨(Nat.le_of_ble_eq_true rfl), (Nat.le_of_ble_eq_true rfl)⟩, hw4, trivial⟩ (pwS hK hZ hN hP hS) rfl rfl hl.1 rfl (lv_room (Nat.le_of_ble_eq_true rfl)) dX1_swing_18 ⟨Nat.zero_le _, Nat.zero_le _⟩) hS (fun locs hS => ?_)
  refine va_put (D := D) (ci := 1) (v := .long (yT x0.toInt64 y0.toInt64 t0)) (C := RX1) (T := TX1) (N := 4) hx hb hts iX1 tyX1 tyX1_ok nmX1 hown hK hP hD hS (4 + k) (LW_d hk) rfl 1 (by decide) hw5 (fun _ h9 => h9) rfl (tyX1_ok 1 (by decide)) rfl rfl (Nat.le_of_ble_eq_true rfl) dX1_swing_21 (fun H locs hP hD hS => ?_)
  have hP : va_P D vwCl (LW ad cI cO g b (up2 (up2 d k 0 (xT x0.toInt64 y0.toInt64 t0)) k 1 (yT x0.toInt64 y0.toInt64 t0)) X) H := by
    have h9 := hP
    rw [← LW_d1 hk]
    exact h9
  have hD : va_D A (LW ad cI cO g b (up2 (up2 d k 0 (xT x0.toInt64 y0.toInt64 t0)) k 1 (yT x0.toInt64 y0.toInt64 t0)) X) := by
    have h9 := hD
    rw [← LW_d1 hk]
    exact h9
  exact W.vret hx hb hr (fun t ht hW => ⟨⟨up2 (up2 d k 0 (xT x0.toInt64 y0.toInt64 t0)) k 1 (yT x0.toInt64 y0.toInt64 t0), rfl, (by exact dP_a d k _ _), by rw [ht]; exact hP, hD⟩, hS.F ht⟩) hS.2.2 dX1_swing_24
set_option maxHeartbeats 4000000 in
set_option maxRecDepth 100000 in
theorem kX1_hold (l : Launch) (D : va_G) (cI cO : ClassId) (tt : Nat) (ad : Nat → Nat) (g : Nat → Nat → Int32) (b : Nat → Int32) (d : Nat → Nat → Int64) (X : va_W) (sz : Nat) (k : Nat) (x0 : Int64) (y0 : Int64) (hk : k < 4) : MmV l yX1_hold wsX1_hold ({ frames := 0, cells := 0, slots := 0, locals := 0 }) D cI cO tt (LW ad cI cO g b d X) sz [.ref (ad (4 + k)), .long x0, .long y0] (S := Nat → Nat → Int64) (fun u => LW ad cI cO g b u X) (fun u => dP d k (d k 0) (d k 1) x0 y0 u) := by
  refine Met.ofW (cc := cX1_hold) (maxL := 5) (ret := none) (by decide) rfl ?_
  intro p e s m args below meth c s₁ B hml hv
  obtain ⟨rfl, hsz, hP, hK, hD0, hZ, hN⟩ := hv
  have hx := B.exec
  have hb := B.bytes
  have hr := B.returns
  have hts := atoms_spec (ws := wsX1_hold) B.pre
  have hown : s.vm.findClass RX1 = some m.cls := findClass_of_methodNamed B.named
  have hlocks := B.notSynchronized
  subst hsz
  have hD := hD0.self (sz := s.heap.size)
  generalize hAe : va_A (LW ad cI cO g b d X) s.heap.size = A at hD hZ ⊢
  have hA : ∀ q : Nat, s.heap.size ≤ q → A q := fun q h => by rw [← hAe]; exact Or.inr h
  have hS : va_S A s.heap s.heap [] := va_S.rf
  have hl := lv_entry ([.ref (ad (4 + k)), .long x0, .long y0]) (n := 5) (Nat.le_of_ble_eq_true rfl)
  rw [lg_entry_eq]
  generalize (lg_sl ([.ref (ad (4 + k)), .long x0, .long y0]) ++ List.replicate (5 - (lg_sl ([.ref (ad (4 + k)), .long x0, .long y0])).length) Slot.unset).toArray = ls at hl ⊢
  have hl : lv_has ls 5 [(0, .ref (ad (4 + k))), (1, .long x0), (3, .long y0)] := hl
  have hw0 := hts (.fieldLink RX1 16 "LayerSounder$Drift" "heldX" "J") (List.mem_cons_of_mem _ (List.mem_append_left _ (List.mem_of_getElem? (i := 0) rfl)))
  have iX1 : ∀ w ∈ wsX10, w ∈ wsX1_hold := fun _ h => List.mem_cons_of_mem _ (List.mem_append_right _ h)
  have hw2 := hts (.fieldLink RX1 19 "LayerSounder$Drift" "heldY" "J") (List.mem_cons_of_mem _ (List.mem_append_left _ (List.mem_of_getElem? (i := 1) rfl)))
  refine lv_aload_n hx hb dX1_hold_0 rfl (lv_at hl 0 rfl) ?_
  refine lv_lload_n hx hb dX1_hold_1 rfl (lv_at hl 1 rfl) ?_
  refine va_put (D := D) (ci := 1) (v := .long x0) (C := RX1) (T := TX1) (N := 4) hx hb hts iX1 tyX1 tyX1_ok nmX1 hown hK hP hD hS (4 + k) (LW_d hk) rfl 2 (by decide) hw0 (fun _ h9 => h9) rfl (tyX1_ok 2 (by decide)) rfl rfl (Nat.le_of_ble_eq_true rfl) dX1_hold_2 (fun H locs hP hD hS => ?_)
  have hP : va_P D vwCl (LW ad cI cO g b (up2 d k 2 x0) X) H := by
    have h9 := hP
    rw [← LW_d2 hk]
    exact h9
  have hD : va_D A (LW ad cI cO g b (up2 d k 2 x0) X) := by
    have h9 := hD
    rw [← LW_d2 hk]
    exact h9
  refine lv_aload_n hx hb dX1_hold_5 rfl (lv_at hl 0 rfl) ?_
  refine lv_lload_n hx hb dX1_hold_6 rfl (lv_at hl 2 rfl) ?_
  refine va_put (D := D) (ci := 1) (v := .long y0) (C := RX1) (T := TX1) (N := 4) hx hb hts iX1 tyX1 tyX1_ok nmX1 hown hK hP hD hS (4 + k) (LW_d hk) rfl 3 (by decide) hw2 (fun _ h9 => h9) rfl (tyX1_ok 3 (by decide)) rfl rfl (Nat.le_of_ble_eq_true rfl) dX1_hold_7 (fun H locs hP hD hS => ?_)
  have hP : va_P D vwCl (LW ad cI cO g b (up2 (up2 d k 2 x0) k 3 y0) X) H := by
    have h9 := hP
    rw [← LW_d3 hk]
    exact h9
  have hD : va_D A (LW ad cI cO g b (up2 (up2 d k 2 x0) k 3 y0) X) := by
    have h9 := hD
    rw [← LW_d3 hk]
    exact h9
  exact W.vret hx hb hr (fun t ht hW => ⟨⟨up2 (up2 d k 2 x0) k 3 y0, rfl, (by exact dP_b d k _ _), by rw [ht]; exact hP, hD⟩, hS.F ht⟩) hS.2.2 dX1_hold_10
set_option maxHeartbeats 4000000 in
set_option maxRecDepth 100000 in
theorem kX1_add (l : Launch) (D : va_G) (cI cO : ClassId) (tt : Nat) (ad : Nat → Nat) (g : Nat → Nat → Int32) (b : Nat → Int32) (d : Nat → Nat → Int64) (X : va_W) (sz : Nat) (k : Nat) (k2 : Nat) (hk : k < 4) (hk2 : k2 < 4) (hne : k2 ≠ k) : MmV l yX1_add wsX1_add ({ frames := 0, cells := 0, slots := 0, locals := 0 }) D cI cO tt (LW ad cI cO g b d X) sz [.ref (ad (4 + k)), .ref (ad (4 + k2))] (S := Nat → Nat → Int64) (fun u => LW ad cI cO g b u X) (fun u => dP d k (d k 0 + d k2 0) (d k 1 + d k2 1) (d k 2 + d k2 2) (d k 3 + d k2 3) u) := by
  refine Met.ofW (cc := cX1_add) (maxL := 2) (ret := none) (by decide) rfl ?_
  intro p e s m args below meth c s₁ B hml hv
  obtain ⟨rfl, hsz, hP, hK, hD0, hZ, hN⟩ := hv
  have hx := B.exec
  have hb := B.bytes
  have hr := B.returns
  have hts := atoms_spec (ws := wsX1_add) B.pre
  have hown : s.vm.findClass RX1 = some m.cls := findClass_of_methodNamed B.named
  have hlocks := B.notSynchronized
  subst hsz
  have hD := hD0.self (sz := s.heap.size)
  generalize hAe : va_A (LW ad cI cO g b d X) s.heap.size = A at hD hZ ⊢
  have hA : ∀ q : Nat, s.heap.size ≤ q → A q := fun q h => by rw [← hAe]; exact Or.inr h
  have hS : va_S A s.heap s.heap [] := va_S.rf
  have hl := lv_entry ([.ref (ad (4 + k)), .ref (ad (4 + k2))]) (n := 2) (Nat.le_of_ble_eq_true rfl)
  rw [lg_entry_eq]
  generalize (lg_sl ([.ref (ad (4 + k)), .ref (ad (4 + k2))]) ++ List.replicate (2 - (lg_sl ([.ref (ad (4 + k)), .ref (ad (4 + k2))])).length) Slot.unset).toArray = ls at hl ⊢
  have hl : lv_has ls 2 [(0, .ref (ad (4 + k))), (1, .ref (ad (4 + k2)))] := hl
  have hw0 := hts (.fieldLink RX1 7 "LayerSounder$Drift" "swungX" "J") (List.mem_cons_of_mem _ (List.mem_append_left _ (List.mem_of_getElem? (i := 0) rfl)))
  have iX1 : ∀ w ∈ wsX10, w ∈ wsX1_add := fun _ h => List.mem_cons_of_mem _ (List.mem_append_right _ h)
  have hw2 := hts (.fieldLink RX1 13 "LayerSounder$Drift" "swungY" "J") (List.mem_cons_of_mem _ (List.mem_append_left _ (List.mem_of_getElem? (i := 1) rfl)))
  have hw3 := hts (.fieldLink RX1 16 "LayerSounder$Drift" "heldX" "J") (List.mem_cons_of_mem _ (List.mem_append_left _ (List.mem_of_getElem? (i := 2) rfl)))
  have hw4 := hts (.fieldLink RX1 19 "LayerSounder$Drift" "heldY" "J") (List.mem_cons_of_mem _ (List.mem_append_left _ (List.mem_of_getElem? (i := 3) rfl)))
  refine lv_aload_n hx hb dX1_add_0 rfl (lv_at hl 0 rfl) ?_
  refine lv_dup hx hb dX1_add_1 rfl ?_
  refine va_get (D := D) (ci := 1) (v := .long (d k 0)) (C := RX1) (T := TX1) (N := 4) hx hb hts iX1 hown hK hP (4 + k) (LW_d hk) rfl 0 (by decide) hw0 (fun _ h9 => h9) rfl dX1_add_2 ?_
  refine lv_aload_n hx hb dX1_add_5 rfl (lv_at hl 1 rfl) ?_
  refine va_get (D := D) (ci := 1) (v := .long (d k2 0)) (C := RX1) (T := TX1) (N := 4) hx hb hts iX1 hown hK hP (4 + k2) (LW_d hk2) rfl 0 (by decide) hw0 (fun _ h9 => h9) rfl dX1_add_6 ?_
  refine lv_ladd hx hb dX1_add_9 ?_
  refine va_put (D := D) (ci := 1) (v := .long ((d k 0) + (d k2 0))) (C := RX1) (T := TX1) (N := 4) hx hb hts iX1 tyX1 tyX1_ok nmX1 hown hK hP hD hS (4 + k) (LW_d hk) rfl 0 (by decide) hw0 (fun _ h9 => h9) rfl (tyX1_ok 0 (by decide)) rfl rfl (Nat.le_of_ble_eq_true rfl) dX1_add_10 (fun H locs hP hD hS => ?_)
  have hP : va_P D vwCl (LW ad cI cO g b (up2 d k 0 ((d k 0) + (d k2 0))) X) H := by
    have h9 := hP
    rw [← LW_d0 hk]
    exact h9
  have hD : va_D A (LW ad cI cO g b (up2 d k 0 ((d k 0) + (d k2 0))) X) := by
    have h9 := hD
    rw [← LW_d0 hk]
    exact h9
  refine lv_aload_n hx hb dX1_add_13 rfl (lv_at hl 0 rfl) ?_
  refine lv_dup hx hb dX1_add_14 rfl ?_
  refine va_get (D := D) (ci := 1) (v := .long (up2 d k 0 ((d k 0) + (d k2 0)) k 1)) (C := RX1) (T := TX1) (N := 4) hx hb hts iX1 hown hK hP (4 + k) (LW_d hk) rfl 1 (by decide) hw2 (fun _ h9 => h9) rfl dX1_add_15 ?_
  refine lv_aload_n hx hb dX1_add_18 rfl (lv_at hl 1 rfl) ?_
  refine va_get (D := D) (ci := 1) (v := .long (up2 d k 0 ((d k 0) + (d k2 0)) k2 1)) (C := RX1) (T := TX1) (N := 4) hx hb hts iX1 hown hK hP (4 + k2) (LW_d hk2) rfl 1 (by decide) hw2 (fun _ h9 => h9) rfl dX1_add_19 ?_
  refine lv_ladd hx hb dX1_add_22 ?_
  refine va_put (D := D) (ci := 1) (v := .long ((up2 d k 0 ((d k 0) + (d k2 0)) k 1) + (up2 d k 0 ((d k 0) + (d k2 0)) k2 1))) (C := RX1) (T := TX1) (N := 4) hx hb hts iX1 tyX1 tyX1_ok nmX1 hown hK hP hD hS (4 + k) (LW_d hk) rfl 1 (by decide) hw2 (fun _ h9 => h9) rfl (tyX1_ok 1 (by decide)) rfl rfl (Nat.le_of_ble_eq_true rfl) dX1_add_23 (fun H locs hP hD hS => ?_)
  have hP : va_P D vwCl (LW ad cI cO g b (up2 (up2 d k 0 ((d k 0) + (d k2 0))) k 1 ((up2 d k 0 ((d k 0) + (d k2 0)) k 1) + (up2 d k 0 ((d k 0) + (d k2 0)) k2 1))) X) H := by
    have h9 := hP
    rw [← LW_d1 hk]
    exact h9
  have hD : va_D A (LW ad cI cO g b (up2 (up2 d k 0 ((d k 0) + (d k2 0))) k 1 ((up2 d k 0 ((d k 0) + (d k2 0)) k 1) + (up2 d k 0 ((d k 0) + (d k2 0)) k2 1))) X) := by
    have h9 := hD
    rw [← LW_d1 hk]
    exact h9
  refine lv_aload_n hx hb dX1_add_26 rfl (lv_at hl 0 rfl) ?_
  refine lv_dup hx hb dX1_add_27 rfl ?_
  refine va_get (D := D) (ci := 1) (v := .long (up2 (up2 d k 0 ((d k 0) + (d k2 0))) k 1 ((up2 d k 0 ((d k 0) + (d k2 0)) k 1) + (up2 d k 0 ((d k 0) + (d k2 0)) k2 1)) k 2)) (C := RX1) (T := TX1) (N := 4) hx hb hts iX1 hown hK hP (4 + k) (LW_d hk) rfl 2 (by decide) hw3 (fun _ h9 => h9) rfl dX1_add_28 ?_
  refine lv_aload_n hx hb dX1_add_31 rfl (lv_at hl 1 rfl) ?_
  refine va_get (D := D) (ci := 1) (v := .long (up2 (up2 d k 0 ((d k 0) + (d k2 0))) k 1 ((up2 d k 0 ((d k 0) + (d k2 0)) k 1) + (up2 d k 0 ((d k 0) + (d k2 0)) k2 1)) k2 2)) (C := RX1) (T := TX1) (N := 4) hx hb hts iX1 hown hK hP (4 + k2) (LW_d hk2) rfl 2 (by decide) hw3 (fun _ h9 => h9) rfl dX1_add_32 ?_
  refine lv_ladd hx hb dX1_add_35 ?_
  refine va_put (D := D) (ci := 1) (v := .long ((up2 (up2 d k 0 ((d k 0) + (d k2 0))) k 1 ((up2 d k 0 ((d k 0) + (d k2 0)) k 1) + (up2 d k 0 ((d k 0) + (d k2 0)) k2 1)) k 2) + (up2 (up2 d k 0 ((d k 0) + (d k2 0))) k 1 ((up2 d k 0 ((d k 0) + (d k2 0)) k 1) + (up2 d k 0 ((d k 0) + (d k2 0)) k2 1)) k2 2))) (C := RX1) (T := TX1) (N := 4) hx hb hts iX1 tyX1 tyX1_ok nmX1 hown hK hP hD hS (4 + k) (LW_d hk) rfl 2 (by decide) hw3 (fun _ h9 => h9) rfl (tyX1_ok 2 (by decide)) rfl rfl (Nat.le_of_ble_eq_true rfl) dX1_add_36 (fun H locs hP hD hS => ?_)
  have hP : va_P D vwCl (LW ad cI cO g b (up2 (up2 (up2 d k 0 ((d k 0) + (d k2 0))) k 1 ((up2 d k 0 ((d k 0) + (d k2 0)) k 1) + (up2 d k 0 ((d k 0) + (d k2 0)) k2 1))) k 2 ((up2 (up2 d k 0 ((d k 0) + (d k2 0))) k 1 ((up2 d k 0 ((d k 0) + (d k2 0)) k 1) + (up2 d k 0 ((d k 0) + (d k2 0)) k2 1)) k 2) + (up2 (up2 d k 0 ((d k 0) + (d k2 0))) k 1 ((up2 d k 0 ((d k 0) + (d k2 0)) k 1) + (up2 d k 0 ((d k 0) + (d k2 0)) k2 1)) k2 2))) X) H := by
    have h9 := hP
    rw [← LW_d2 hk]
    exact h9
  have hD : va_D A (LW ad cI cO g b (up2 (up2 (up2 d k 0 ((d k 0) + (d k2 0))) k 1 ((up2 d k 0 ((d k 0) + (d k2 0)) k 1) + (up2 d k 0 ((d k 0) + (d k2 0)) k2 1))) k 2 ((up2 (up2 d k 0 ((d k 0) + (d k2 0))) k 1 ((up2 d k 0 ((d k 0) + (d k2 0)) k 1) + (up2 d k 0 ((d k 0) + (d k2 0)) k2 1)) k 2) + (up2 (up2 d k 0 ((d k 0) + (d k2 0))) k 1 ((up2 d k 0 ((d k 0) + (d k2 0)) k 1) + (up2 d k 0 ((d k 0) + (d k2 0)) k2 1)) k2 2))) X) := by
    have h9 := hD
    rw [← LW_d2 hk]
    exact h9
  refine lv_aload_n hx hb dX1_add_39 rfl (lv_at hl 0 rfl) ?_
  refine lv_dup hx hb dX1_add_40 rfl ?_
  refine va_get (D := D) (ci := 1) (v := .long (up2 (up2 (up2 d k 0 ((d k 0) + (d k2 0))) k 1 ((up2 d k 0 ((d k 0) + (d k2 0)) k 1) + (up2 d k 0 ((d k 0) + (d k2 0)) k2 1))) k 2 ((up2 (up2 d k 0 ((d k 0) + (d k2 0))) k 1 ((up2 d k 0 ((d k 0) + (d k2 0)) k 1) + (up2 d k 0 ((d k 0) + (d k2 0)) k2 1)) k 2) + (up2 (up2 d k 0 ((d k 0) + (d k2 0))) k 1 ((up2 d k 0 ((d k 0) + (d k2 0)) k 1) + (up2 d k 0 ((d k 0) + (d k2 0)) k2 1)) k2 2)) k 3)) (C := RX1) (T := TX1) (N := 4) hx hb hts iX1 hown hK hP (4 + k) (LW_d hk) rfl 3 (by decide) hw4 (fun _ h9 => h9) rfl dX1_add_41 ?_
  refine lv_aload_n hx hb dX1_add_44 rfl (lv_at hl 1 rfl) ?_
  refine va_get (D := D) (ci := 1) (v := .long (up2 (up2 (up2 d k 0 ((d k 0) + (d k2 0))) k 1 ((up2 d k 0 ((d k 0) + (d k2 0)) k 1) + (up2 d k 0 ((d k 0) + (d k2 0)) k2 1))) k 2 ((up2 (up2 d k 0 ((d k 0) + (d k2 0))) k 1 ((up2 d k 0 ((d k 0) + (d k2 0)) k 1) + (up2 d k 0 ((d k 0) + (d k2 0)) k2 1)) k 2) + (up2 (up2 d k 0 ((d k 0) + (d k2 0))) k 1 ((up2 d k 0 ((d k 0) + (d k2 0)) k 1) + (up2 d k 0 ((d k 0) + (d k2 0)) k2 1)) k2 2)) k2 3)) (C := RX1) (T := TX1) (N := 4) hx hb hts iX1 hown hK hP (4 + k2) (LW_d hk2) rfl 3 (by decide) hw4 (fun _ h9 => h9) rfl dX1_add_45 ?_
  refine lv_ladd hx hb dX1_add_48 ?_
  refine va_put (D := D) (ci := 1) (v := .long ((up2 (up2 (up2 d k 0 ((d k 0) + (d k2 0))) k 1 ((up2 d k 0 ((d k 0) + (d k2 0)) k 1) + (up2 d k 0 ((d k 0) + (d k2 0)) k2 1))) k 2 ((up2 (up2 d k 0 ((d k 0) + (d k2 0))) k 1 ((up2 d k 0 ((d k 0) + (d k2 0)) k 1) + (up2 d k 0 ((d k 0) + (d k2 0)) k2 1)) k 2) + (up2 (up2 d k 0 ((d k 0) + (d k2 0))) k 1 ((up2 d k 0 ((d k 0) + (d k2 0)) k 1) + (up2 d k 0 ((d k 0) + (d k2 0)) k2 1)) k2 2)) k 3) + (up2 (up2 (up2 d k 0 ((d k 0) + (d k2 0))) k 1 ((up2 d k 0 ((d k 0) + (d k2 0)) k 1) + (up2 d k 0 ((d k 0) + (d k2 0)) k2 1))) k 2 ((up2 (up2 d k 0 ((d k 0) + (d k2 0))) k 1 ((up2 d k 0 ((d k 0) + (d k2 0)) k 1) + (up2 d k 0 ((d k 0) + (d k2 0)) k2 1)) k 2) + (up2 (up2 d k 0 ((d k 0) + (d k2 0))) k 1 ((up2 d k 0 ((d k 0) + (d k2 0)) k 1) + (up2 d k 0 ((d k 0) + (d k2 0)) k2 1)) k2 2)) k2 3))) (C := RX1) (T := TX1) (N := 4) hx hb hts iX1 tyX1 tyX1_ok nmX1 hown hK hP hD hS (4 + k) (LW_d hk) rfl 3 (by decide) hw4 (fun _ h9 => h9) rfl (tyX1_ok 3 (by decide)) rfl rfl (Nat.le_of_ble_eq_true rfl) dX1_add_49 (fun H locs hP hD hS => ?_)
  have hP : va_P D vwCl (LW ad cI cO g b (up2 (up2 (up2 (up2 d k 0 ((d k 0) + (d k2 0))) k 1 ((up2 d k 0 ((d k 0) + (d k2 0)) k 1) + (up2 d k 0 ((d k 0) + (d k2 0)) k2 1))) k 2 ((up2 (up2 d k 0 ((d k 0) + (d k2 0))) k 1 ((up2 d k 0 ((d k 0) + (d k2 0)) k 1) + (up2 d k 0 ((d k 0) + (d k2 0)) k2 1)) k 2) + (up2 (up2 d k 0 ((d k 0) + (d k2 0))) k 1 ((up2 d k 0 ((d k 0) + (d k2 0)) k 1) + (up2 d k 0 ((d k 0) + (d k2 0)) k2 1)) k2 2))) k 3 ((up2 (up2 (up2 d k 0 ((d k 0) + (d k2 0))) k 1 ((up2 d k 0 ((d k 0) + (d k2 0)) k 1) + (up2 d k 0 ((d k 0) + (d k2 0)) k2 1))) k 2 ((up2 (up2 d k 0 ((d k 0) + (d k2 0))) k 1 ((up2 d k 0 ((d k 0) + (d k2 0)) k 1) + (up2 d k 0 ((d k 0) + (d k2 0)) k2 1)) k 2) + (up2 (up2 d k 0 ((d k 0) + (d k2 0))) k 1 ((up2 d k 0 ((d k 0) + (d k2 0)) k 1) + (up2 d k 0 ((d k 0) + (d k2 0)) k2 1)) k2 2)) k 3) + (up2 (up2 (up2 d k 0 ((d k 0) + (d k2 0))) k 1 ((up2 d k 0 ((d k 0) + (d k2 0)) k 1) + (up2 d k 0 ((d k 0) + (d k2 0)) k2 1))) k 2 ((up2 (up2 d k 0 ((d k 0) + (d k2 0))) k 1 ((up2 d k 0 ((d k 0) + (d k2 0)) k 1) + (up2 d k 0 ((d k 0) + (d k2 0)) k2 1)) k 2) + (up2 (up2 d k 0 ((d k 0) + (d k2 0))) k 1 ((up2 d k 0 ((d k 0) + (d k2 0)) k 1) + (up2 d k 0 ((d k 0) + (d k2 0)) k2 1)) k2 2)) k2 3))) X) H := by
    have h9 := hP
    rw [← LW_d3 hk]
    exact h9
  have hD : va_D A (LW ad cI cO g b (up2 (up2 (up2 (up2 d k 0 ((d k 0) + (d k2 0))) k 1 ((up2 d k 0 ((d k 0) + (d k2 0)) k 1) + (up2 d k 0 ((d k 0) + (d k2 0)) k2 1))) k 2 ((up2 (up2 d k 0 ((d k 0) + (d k2 0))) k 1 ((up2 d k 0 ((d k 0) + (d k2 0)) k 1) + (up2 d k 0 ((d k 0) + (d k2 0)) k2 1)) k 2) + (up2 (up2 d k 0 ((d k 0) + (d k2 0))) k 1 ((up2 d k 0 ((d k 0) + (d k2 0)) k 1) + (up2 d k 0 ((d k 0) + (d k2 0)) k2 1)) k2 2))) k 3 ((up2 (up2 (up2 d k 0 ((d k 0) + (d k2 0))) k 1 ((up2 d k 0 ((d k 0) + (d k2 0)) k 1) + (up2 d k 0 ((d k 0) + (d k2 0)) k2 1))) k 2 ((up2 (up2 d k 0 ((d k 0) + (d k2 0))) k 1 ((up2 d k 0 ((d k 0) + (d k2 0)) k 1) + (up2 d k 0 ((d k 0) + (d k2 0)) k2 1)) k 2) + (up2 (up2 d k 0 ((d k 0) + (d k2 0))) k 1 ((up2 d k 0 ((d k 0) + (d k2 0)) k 1) + (up2 d k 0 ((d k 0) + (d k2 0)) k2 1)) k2 2)) k 3) + (up2 (up2 (up2 d k 0 ((d k 0) + (d k2 0))) k 1 ((up2 d k 0 ((d k 0) + (d k2 0)) k 1) + (up2 d k 0 ((d k 0) + (d k2 0)) k2 1))) k 2 ((up2 (up2 d k 0 ((d k 0) + (d k2 0))) k 1 ((up2 d k 0 ((d k 0) + (d k2 0)) k 1) + (up2 d k 0 ((d k 0) + (d k2 0)) k2 1)) k 2) + (up2 (up2 d k 0 ((d k 0) + (d k2 0))) k 1 ((up2 d k 0 ((d k 0) + (d k2 0)) k 1) + (up2 d k 0 ((d k 0) + (d k2 0)) k2 1)) k2 2)) k2 3))) X) := by
    have h9 := hD
    rw [← LW_d3 hk]
    exact h9
  exact W.vret hx hb hr (fun t ht hW => ⟨⟨up2 (up2 (up2 (up2 d k 0 ((d k 0) + (d k2 0))) k 1 ((up2 d k 0 ((d k 0) + (d k2 0)) k 1) + (up2 d k 0 ((d k 0) + (d k2 0)) k2 1))) k 2 ((up2 (up2 d k 0 ((d k 0) + (d k2 0))) k 1 ((up2 d k 0 ((d k 0) + (d k2 0)) k 1) + (up2 d k 0 ((d k 0) + (d k2 0)) k2 1)) k 2) + (up2 (up2 d k 0 ((d k 0) + (d k2 0))) k 1 ((up2 d k 0 ((d k 0) + (d k2 0)) k 1) + (up2 d k 0 ((d k 0) + (d k2 0)) k2 1)) k2 2))) k 3 ((up2 (up2 (up2 d k 0 ((d k 0) + (d k2 0))) k 1 ((up2 d k 0 ((d k 0) + (d k2 0)) k 1) + (up2 d k 0 ((d k 0) + (d k2 0)) k2 1))) k 2 ((up2 (up2 d k 0 ((d k 0) + (d k2 0))) k 1 ((up2 d k 0 ((d k 0) + (d k2 0)) k 1) + (up2 d k 0 ((d k 0) + (d k2 0)) k2 1)) k 2) + (up2 (up2 d k 0 ((d k 0) + (d k2 0))) k 1 ((up2 d k 0 ((d k 0) + (d k2 0)) k 1) + (up2 d k 0 ((d k 0) + (d k2 0)) k2 1)) k2 2)) k 3) + (up2 (up2 (up2 d k 0 ((d k 0) + (d k2 0))) k 1 ((up2 d k 0 ((d k 0) + (d k2 0)) k 1) + (up2 d k 0 ((d k 0) + (d k2 0)) k2 1))) k 2 ((up2 (up2 d k 0 ((d k 0) + (d k2 0))) k 1 ((up2 d k 0 ((d k 0) + (d k2 0)) k 1) + (up2 d k 0 ((d k 0) + (d k2 0)) k2 1)) k 2) + (up2 (up2 d k 0 ((d k 0) + (d k2 0))) k 1 ((up2 d k 0 ((d k 0) + (d k2 0)) k 1) + (up2 d k 0 ((d k 0) + (d k2 0)) k2 1)) k2 2)) k2 3)), rfl, (by have z := dP_4 d k (d k 0 + d k2 0) (d k 1 + d k2 1) (d k 2 + d k2 2) (d k 3 + d k2 3); simpa [up2, hne] using z), by rw [ht]; exact hP, hD⟩, hS.F ht⟩) hS.2.2 dX1_add_52
set_option maxHeartbeats 4000000 in
set_option maxRecDepth 100000 in
theorem kX1_subtract (l : Launch) (D : va_G) (cI cO : ClassId) (tt : Nat) (ad : Nat → Nat) (g : Nat → Nat → Int32) (b : Nat → Int32) (d : Nat → Nat → Int64) (X : va_W) (sz : Nat) (k : Nat) (k2 : Nat) (hk : k < 4) (hk2 : k2 < 4) (hne : k2 ≠ k) : MmV l yX1_subtract wsX1_subtract ({ frames := 0, cells := 0, slots := 0, locals := 0 }) D cI cO tt (LW ad cI cO g b d X) sz [.ref (ad (4 + k)), .ref (ad (4 + k2))] (S := Nat → Nat → Int64) (fun u => LW ad cI cO g b u X) (fun u => dP d k (d k 0 - d k2 0) (d k 1 - d k2 1) (d k 2 - d k2 2) (d k 3 - d k2 3) u) := by
  refine Met.ofW (cc := cX1_subtract) (maxL := 2) (ret := none) (by decide) rfl ?_
  intro p e s m args below meth c s₁ B hml hv
  obtain ⟨rfl, hsz, hP, hK, hD0, hZ, hN⟩ := hv
  have hx := B.exec
  have hb := B.bytes
  have hr := B.returns
  have hts := atoms_spec (ws := wsX1_subtract) B.pre
  have hown : s.vm.findClass RX1 = some m.cls := findClass_of_methodNamed B.named
  have hlocks := B.notSynchronized
  subst hsz
  have hD := hD0.self (sz := s.heap.size)
  generalize hAe : va_A (LW ad cI cO g b d X) s.heap.size = A at hD hZ ⊢
  have hA : ∀ q : Nat, s.heap.size ≤ q → A q := fun q h => by rw [← hAe]; exact Or.inr h
  have hS : va_S A s.heap s.heap [] := va_S.rf
  have hl := lv_entry ([.ref (ad (4 + k)), .ref (ad (4 + k2))]) (n := 2) (Nat.le_of_ble_eq_true rfl)
  rw [lg_entry_eq]
  generalize (lg_sl ([.ref (ad (4 + k)), .ref (ad (4 + k2))]) ++ List.replicate (2 - (lg_sl ([.ref (ad (4 + k)), .ref (ad (4 + k2))])).length) Slot.unset).toArray = ls at hl ⊢
  have hl : lv_has ls 2 [(0, .ref (ad (4 + k))), (1, .ref (ad (4 + k2)))] := hl
  have hw0 := hts (.fieldLink RX1 7 "LayerSounder$Drift" "swungX" "J") (List.mem_cons_of_mem _ (List.mem_append_left _ (List.mem_of_getElem? (i := 0) rfl)))
  have iX1 : ∀ w ∈ wsX10, w ∈ wsX1_subtract := fun _ h => List.mem_cons_of_mem _ (List.mem_append_right _ h)
  have hw2 := hts (.fieldLink RX1 13 "LayerSounder$Drift" "swungY" "J") (List.mem_cons_of_mem _ (List.mem_append_left _ (List.mem_of_getElem? (i := 1) rfl)))
  have hw3 := hts (.fieldLink RX1 16 "LayerSounder$Drift" "heldX" "J") (List.mem_cons_of_mem _ (List.mem_append_left _ (List.mem_of_getElem? (i := 2) rfl)))
  have hw4 := hts (.fieldLink RX1 19 "LayerSounder$Drift" "heldY" "J") (List.mem_cons_of_mem _ (List.mem_append_left _ (List.mem_of_getElem? (i := 3) rfl)))
  refine lv_aload_n hx hb dX1_subtract_0 rfl (lv_at hl 0 rfl) ?_
  refine lv_dup hx hb dX1_subtract_1 rfl ?_
  refine va_get (D := D) (ci := 1) (v := .long (d k 0)) (C := RX1) (T := TX1) (N := 4) hx hb hts iX1 hown hK hP (4 + k) (LW_d hk) rfl 0 (by decide) hw0 (fun _ h9 => h9) rfl dX1_subtract_2 ?_
  refine lv_aload_n hx hb dX1_subtract_5 rfl (lv_at hl 1 rfl) ?_
  refine va_get (D := D) (ci := 1) (v := .long (d k2 0)) (C := RX1) (T := TX1) (N := 4) hx hb hts iX1 hown hK hP (4 + k2) (LW_d hk2) rfl 0 (by decide) hw0 (fun _ h9 => h9) rfl dX1_subtract_6 ?_
  refine lv_lsub hx hb dX1_subtract_9 ?_
  refine va_put (D := D) (ci := 1) (v := .long ((d k 0) - (d k2 0))) (C := RX1) (T := TX1) (N := 4) hx hb hts iX1 tyX1 tyX1_ok nmX1 hown hK hP hD hS (4 + k) (LW_d hk) rfl 0 (by decide) hw0 (fun _ h9 => h9) rfl (tyX1_ok 0 (by decide)) rfl rfl (Nat.le_of_ble_eq_true rfl) dX1_subtract_10 (fun H locs hP hD hS => ?_)
  have hP : va_P D vwCl (LW ad cI cO g b (up2 d k 0 ((d k 0) - (d k2 0))) X) H := by
    have h9 := hP
    rw [← LW_d0 hk]
    exact h9
  have hD : va_D A (LW ad cI cO g b (up2 d k 0 ((d k 0) - (d k2 0))) X) := by
    have h9 := hD
    rw [← LW_d0 hk]
    exact h9
  refine lv_aload_n hx hb dX1_subtract_13 rfl (lv_at hl 0 rfl) ?_
  refine lv_dup hx hb dX1_subtract_14 rfl ?_
  refine va_get (D := D) (ci := 1) (v := .long (up2 d k 0 ((d k 0) - (d k2 0)) k 1)) (C := RX1) (T := TX1) (N := 4) hx hb hts iX1 hown hK hP (4 + k) (LW_d hk) rfl 1 (by decide) hw2 (fun _ h9 => h9) rfl dX1_subtract_15 ?_
  refine lv_aload_n hx hb dX1_subtract_18 rfl (lv_at hl 1 rfl) ?_
  refine va_get (D := D) (ci := 1) (v := .long (up2 d k 0 ((d k 0) - (d k2 0)) k2 1)) (C := RX1) (T := TX1) (N := 4) hx hb hts iX1 hown hK hP (4 + k2) (LW_d hk2) rfl 1 (by decide) hw2 (fun _ h9 => h9) rfl dX1_subtract_19 ?_
  refine lv_lsub hx hb dX1_subtract_22 ?_
  refine va_put (D := D) (ci := 1) (v := .long ((up2 d k 0 ((d k 0) - (d k2 0)) k 1) - (up2 d k 0 ((d k 0) - (d k2 0)) k2 1))) (C := RX1) (T := TX1) (N := 4) hx hb hts iX1 tyX1 tyX1_ok nmX1 hown hK hP hD hS (4 + k) (LW_d hk) rfl 1 (by decide) hw2 (fun _ h9 => h9) rfl (tyX1_ok 1 (by decide)) rfl rfl (Nat.le_of_ble_eq_true rfl) dX1_subtract_23 (fun H locs hP hD hS => ?_)
  have hP : va_P D vwCl (LW ad cI cO g b (up2 (up2 d k 0 ((d k 0) - (d k2 0))) k 1 ((up2 d k 0 ((d k 0) - (d k2 0)) k 1) - (up2 d k 0 ((d k 0) - (d k2 0)) k2 1))) X) H := by
    have h9 := hP
    rw [← LW_d1 hk]
    exact h9
  have hD : va_D A (LW ad cI cO g b (up2 (up2 d k 0 ((d k 0) - (d k2 0))) k 1 ((up2 d k 0 ((d k 0) - (d k2 0)) k 1) - (up2 d k 0 ((d k 0) - (d k2 0)) k2 1))) X) := by
    have h9 := hD
    rw [← LW_d1 hk]
    exact h9
  refine lv_aload_n hx hb dX1_subtract_26 rfl (lv_at hl 0 rfl) ?_
  refine lv_dup hx hb dX1_subtract_27 rfl ?_
  refine va_get (D := D) (ci := 1) (v := .long (up2 (up2 d k 0 ((d k 0) - (d k2 0))) k 1 ((up2 d k 0 ((d k 0) - (d k2 0)) k 1) - (up2 d k 0 ((d k 0) - (d k2 0)) k2 1)) k 2)) (C := RX1) (T := TX1) (N := 4) hx hb hts iX1 hown hK hP (4 + k) (LW_d hk) rfl 2 (by decide) hw3 (fun _ h9 => h9) rfl dX1_subtract_28 ?_
  refine lv_aload_n hx hb dX1_subtract_31 rfl (lv_at hl 1 rfl) ?_
  refine va_get (D := D) (ci := 1) (v := .long (up2 (up2 d k 0 ((d k 0) - (d k2 0))) k 1 ((up2 d k 0 ((d k 0) - (d k2 0)) k 1) - (up2 d k 0 ((d k 0) - (d k2 0)) k2 1)) k2 2)) (C := RX1) (T := TX1) (N := 4) hx hb hts iX1 hown hK hP (4 + k2) (LW_d hk2) rfl 2 (by decide) hw3 (fun _ h9 => h9) rfl dX1_subtract_32 ?_
  refine lv_lsub hx hb dX1_subtract_35 ?_
  refine va_put (D := D) (ci := 1) (v := .long ((up2 (up2 d k 0 ((d k 0) - (d k2 0))) k 1 ((up2 d k 0 ((d k 0) - (d k2 0)) k 1) - (up2 d k 0 ((d k 0) - (d k2 0)) k2 1)) k 2) - (up2 (up2 d k 0 ((d k 0) - (d k2 0))) k 1 ((up2 d k 0 ((d k 0) - (d k2 0)) k 1) - (up2 d k 0 ((d k 0) - (d k2 0)) k2 1)) k2 2))) (C := RX1) (T := TX1) (N := 4) hx hb hts iX1 tyX1 tyX1_ok nmX1 hown hK hP hD hS (4 + k) (LW_d hk) rfl 2 (by decide) hw3 (fun _ h9 => h9) rfl (tyX1_ok 2 (by decide)) rfl rfl (Nat.le_of_ble_eq_true rfl) dX1_subtract_36 (fun H locs hP hD hS => ?_)
  have hP : va_P D vwCl (LW ad cI cO g b (up2 (up2 (up2 d k 0 ((d k 0) - (d k2 0))) k 1 ((up2 d k 0 ((d k 0) - (d k2 0)) k 1) - (up2 d k 0 ((d k 0) - (d k2 0)) k2 1))) k 2 ((up2 (up2 d k 0 ((d k 0) - (d k2 0))) k 1 ((up2 d k 0 ((d k 0) - (d k2 0)) k 1) - (up2 d k 0 ((d k 0) - (d k2 0)) k2 1)) k 2) - (up2 (up2 d k 0 ((d k 0) - (d k2 0))) k 1 ((up2 d k 0 ((d k 0) - (d k2 0)) k 1) - (up2 d k 0 ((d k 0) - (d k2 0)) k2 1)) k2 2))) X) H := by
    have h9 := hP
    rw [← LW_d2 hk]
    exact h9
  have hD : va_D A (LW ad cI cO g b (up2 (up2 (up2 d k 0 ((d k 0) - (d k2 0))) k 1 ((up2 d k 0 ((d k 0) - (d k2 0)) k 1) - (up2 d k 0 ((d k 0) - (d k2 0)) k2 1))) k 2 ((up2 (up2 d k 0 ((d k 0) - (d k2 0))) k 1 ((up2 d k 0 ((d k 0) - (d k2 0)) k 1) - (up2 d k 0 ((d k 0) - (d k2 0)) k2 1)) k 2) - (up2 (up2 d k 0 ((d k 0) - (d k2 0))) k 1 ((up2 d k 0 ((d k 0) - (d k2 0)) k 1) - (up2 d k 0 ((d k 0) - (d k2 0)) k2 1)) k2 2))) X) := by
    have h9 := hD
    rw [← LW_d2 hk]
    exact h9
  refine lv_aload_n hx hb dX1_subtract_39 rfl (lv_at hl 0 rfl) ?_
  refine lv_dup hx hb dX1_subtract_40 rfl ?_
  refine va_get (D := D) (ci := 1) (v := .long (up2 (up2 (up2 d k 0 ((d k 0) - (d k2 0))) k 1 ((up2 d k 0 ((d k 0) - (d k2 0)) k 1) - (up2 d k 0 ((d k 0) - (d k2 0)) k2 1))) k 2 ((up2 (up2 d k 0 ((d k 0) - (d k2 0))) k 1 ((up2 d k 0 ((d k 0) - (d k2 0)) k 1) - (up2 d k 0 ((d k 0) - (d k2 0)) k2 1)) k 2) - (up2 (up2 d k 0 ((d k 0) - (d k2 0))) k 1 ((up2 d k 0 ((d k 0) - (d k2 0)) k 1) - (up2 d k 0 ((d k 0) - (d k2 0)) k2 1)) k2 2)) k 3)) (C := RX1) (T := TX1) (N := 4) hx hb hts iX1 hown hK hP (4 + k) (LW_d hk) rfl 3 (by decide) hw4 (fun _ h9 => h9) rfl dX1_subtract_41 ?_
  refine lv_aload_n hx hb dX1_subtract_44 rfl (lv_at hl 1 rfl) ?_
  refine va_get (D := D) (ci := 1) (v := .long (up2 (up2 (up2 d k 0 ((d k 0) - (d k2 0))) k 1 ((up2 d k 0 ((d k 0) - (d k2 0)) k 1) - (up2 d k 0 ((d k 0) - (d k2 0)) k2 1))) k 2 ((up2 (up2 d k 0 ((d k 0) - (d k2 0))) k 1 ((up2 d k 0 ((d k 0) - (d k2 0)) k 1) - (up2 d k 0 ((d k 0) - (d k2 0)) k2 1)) k 2) - (up2 (up2 d k 0 ((d k 0) - (d k2 0))) k 1 ((up2 d k 0 ((d k 0) - (d k2 0)) k 1) - (up2 d k 0 ((d k 0) - (d k2 0)) k2 1)) k2 2)) k2 3)) (C := RX1) (T := TX1) (N := 4) hx hb hts iX1 hown hK hP (4 + k2) (LW_d hk2) rfl 3 (by decide) hw4 (fun _ h9 => h9) rfl dX1_subtract_45 ?_
  refine lv_lsub hx hb dX1_subtract_48 ?_
  refine va_put (D := D) (ci := 1) (v := .long ((up2 (up2 (up2 d k 0 ((d k 0) - (d k2 0))) k 1 ((up2 d k 0 ((d k 0) - (d k2 0)) k 1) - (up2 d k 0 ((d k 0) - (d k2 0)) k2 1))) k 2 ((up2 (up2 d k 0 ((d k 0) - (d k2 0))) k 1 ((up2 d k 0 ((d k 0) - (d k2 0)) k 1) - (up2 d k 0 ((d k 0) - (d k2 0)) k2 1)) k 2) - (up2 (up2 d k 0 ((d k 0) - (d k2 0))) k 1 ((up2 d k 0 ((d k 0) - (d k2 0)) k 1) - (up2 d k 0 ((d k 0) - (d k2 0)) k2 1)) k2 2)) k 3) - (up2 (up2 (up2 d k 0 ((d k 0) - (d k2 0))) k 1 ((up2 d k 0 ((d k 0) - (d k2 0)) k 1) - (up2 d k 0 ((d k 0) - (d k2 0)) k2 1))) k 2 ((up2 (up2 d k 0 ((d k 0) - (d k2 0))) k 1 ((up2 d k 0 ((d k 0) - (d k2 0)) k 1) - (up2 d k 0 ((d k 0) - (d k2 0)) k2 1)) k 2) - (up2 (up2 d k 0 ((d k 0) - (d k2 0))) k 1 ((up2 d k 0 ((d k 0) - (d k2 0)) k 1) - (up2 d k 0 ((d k 0) - (d k2 0)) k2 1)) k2 2)) k2 3))) (C := RX1) (T := TX1) (N := 4) hx hb hts iX1 tyX1 tyX1_ok nmX1 hown hK hP hD hS (4 + k) (LW_d hk) rfl 3 (by decide) hw4 (fun _ h9 => h9) rfl (tyX1_ok 3 (by decide)) rfl rfl (Nat.le_of_ble_eq_true rfl) dX1_subtract_49 (fun H locs hP hD hS => ?_)
  have hP : va_P D vwCl (LW ad cI cO g b (up2 (up2 (up2 (up2 d k 0 ((d k 0) - (d k2 0))) k 1 ((up2 d k 0 ((d k 0) - (d k2 0)) k 1) - (up2 d k 0 ((d k 0) - (d k2 0)) k2 1))) k 2 ((up2 (up2 d k 0 ((d k 0) - (d k2 0))) k 1 ((up2 d k 0 ((d k 0) - (d k2 0)) k 1) - (up2 d k 0 ((d k 0) - (d k2 0)) k2 1)) k 2) - (up2 (up2 d k 0 ((d k 0) - (d k2 0))) k 1 ((up2 d k 0 ((d k 0) - (d k2 0)) k 1) - (up2 d k 0 ((d k 0) - (d k2 0)) k2 1)) k2 2))) k 3 ((up2 (up2 (up2 d k 0 ((d k 0) - (d k2 0))) k 1 ((up2 d k 0 ((d k 0) - (d k2 0)) k 1) - (up2 d k 0 ((d k 0) - (d k2 0)) k2 1))) k 2 ((up2 (up2 d k 0 ((d k 0) - (d k2 0))) k 1 ((up2 d k 0 ((d k 0) - (d k2 0)) k 1) - (up2 d k 0 ((d k 0) - (d k2 0)) k2 1)) k 2) - (up2 (up2 d k 0 ((d k 0) - (d k2 0))) k 1 ((up2 d k 0 ((d k 0) - (d k2 0)) k 1) - (up2 d k 0 ((d k 0) - (d k2 0)) k2 1)) k2 2)) k 3) - (up2 (up2 (up2 d k 0 ((d k 0) - (d k2 0))) k 1 ((up2 d k 0 ((d k 0) - (d k2 0)) k 1) - (up2 d k 0 ((d k 0) - (d k2 0)) k2 1))) k 2 ((up2 (up2 d k 0 ((d k 0) - (d k2 0))) k 1 ((up2 d k 0 ((d k 0) - (d k2 0)) k 1) - (up2 d k 0 ((d k 0) - (d k2 0)) k2 1)) k 2) - (up2 (up2 d k 0 ((d k 0) - (d k2 0))) k 1 ((up2 d k 0 ((d k 0) - (d k2 0)) k 1) - (up2 d k 0 ((d k 0) - (d k2 0)) k2 1)) k2 2)) k2 3))) X) H := by
    have h9 := hP
    rw [← LW_d3 hk]
    exact h9
  have hD : va_D A (LW ad cI cO g b (up2 (up2 (up2 (up2 d k 0 ((d k 0) - (d k2 0))) k 1 ((up2 d k 0 ((d k 0) - (d k2 0)) k 1) - (up2 d k 0 ((d k 0) - (d k2 0)) k2 1))) k 2 ((up2 (up2 d k 0 ((d k 0) - (d k2 0))) k 1 ((up2 d k 0 ((d k 0) - (d k2 0)) k 1) - (up2 d k 0 ((d k 0) - (d k2 0)) k2 1)) k 2) - (up2 (up2 d k 0 ((d k 0) - (d k2 0))) k 1 ((up2 d k 0 ((d k 0) - (d k2 0)) k 1) - (up2 d k 0 ((d k 0) - (d k2 0)) k2 1)) k2 2))) k 3 ((up2 (up2 (up2 d k 0 ((d k 0) - (d k2 0))) k 1 ((up2 d k 0 ((d k 0) - (d k2 0)) k 1) - (up2 d k 0 ((d k 0) - (d k2 0)) k2 1))) k 2 ((up2 (up2 d k 0 ((d k 0) - (d k2 0))) k 1 ((up2 d k 0 ((d k 0) - (d k2 0)) k 1) - (up2 d k 0 ((d k 0) - (d k2 0)) k2 1)) k 2) - (up2 (up2 d k 0 ((d k 0) - (d k2 0))) k 1 ((up2 d k 0 ((d k 0) - (d k2 0)) k 1) - (up2 d k 0 ((d k 0) - (d k2 0)) k2 1)) k2 2)) k 3) - (up2 (up2 (up2 d k 0 ((d k 0) - (d k2 0))) k 1 ((up2 d k 0 ((d k 0) - (d k2 0)) k 1) - (up2 d k 0 ((d k 0) - (d k2 0)) k2 1))) k 2 ((up2 (up2 d k 0 ((d k 0) - (d k2 0))) k 1 ((up2 d k 0 ((d k 0) - (d k2 0)) k 1) - (up2 d k 0 ((d k 0) - (d k2 0)) k2 1)) k 2) - (up2 (up2 d k 0 ((d k 0) - (d k2 0))) k 1 ((up2 d k 0 ((d k 0) - (d k2 0)) k 1) - (up2 d k 0 ((d k 0) - (d k2 0)) k2 1)) k2 2)) k2 3))) X) := by
    have h9 := hD
    rw [← LW_d3 hk]
    exact h9
  exact W.vret hx hb hr (fun t ht hW => ⟨⟨up2 (up2 (up2 (up2 d k 0 ((d k 0) - (d k2 0))) k 1 ((up2 d k 0 ((d k 0) - (d k2 0)) k 1) - (up2 d k 0 ((d k 0) - (d k2 0)) k2 1))) k 2 ((up2 (up2 d k 0 ((d k 0) - (d k2 0))) k 1 ((up2 d k 0 ((d k 0) - (d k2 0)) k 1) - (up2 d k 0 ((d k 0) - (d k2 0)) k2 1)) k 2) - (up2 (up2 d k 0 ((d k 0) - (d k2 0))) k 1 ((up2 d k 0 ((d k 0) - (d k2 0)) k 1) - (up2 d k 0 ((d k 0) - (d k2 0)) k2 1)) k2 2))) k 3 ((up2 (up2 (up2 d k 0 ((d k 0) - (d k2 0))) k 1 ((up2 d k 0 ((d k 0) - (d k2 0)) k 1) - (up2 d k 0 ((d k 0) - (d k2 0)) k2 1))) k 2 ((up2 (up2 d k 0 ((d k 0) - (d k2 0))) k 1 ((up2 d k 0 ((d k 0) - (d k2 0)) k 1) - (up2 d k 0 ((d k 0) - (d k2 0)) k2 1)) k 2) - (up2 (up2 d k 0 ((d k 0) - (d k2 0))) k 1 ((up2 d k 0 ((d k 0) - (d k2 0)) k 1) - (up2 d k 0 ((d k 0) - (d k2 0)) k2 1)) k2 2)) k 3) - (up2 (up2 (up2 d k 0 ((d k 0) - (d k2 0))) k 1 ((up2 d k 0 ((d k 0) - (d k2 0)) k 1) - (up2 d k 0 ((d k 0) - (d k2 0)) k2 1))) k 2 ((up2 (up2 d k 0 ((d k 0) - (d k2 0))) k 1 ((up2 d k 0 ((d k 0) - (d k2 0)) k 1) - (up2 d k 0 ((d k 0) - (d k2 0)) k2 1)) k 2) - (up2 (up2 d k 0 ((d k 0) - (d k2 0))) k 1 ((up2 d k 0 ((d k 0) - (d k2 0)) k 1) - (up2 d k 0 ((d k 0) - (d k2 0)) k2 1)) k2 2)) k2 3)), rfl, (by have z := dP_4 d k (d k 0 - d k2 0) (d k 1 - d k2 1) (d k 2 - d k2 2) (d k 3 - d k2 3); simpa [up2, hne] using z), by rw [ht]; exact hP, hD⟩, hS.F ht⟩) hS.2.2 dX1_subtract_52
set_option maxHeartbeats 4000000 in
set_option maxRecDepth 100000 in
theorem kX1_multiply (l : Launch) (D : va_G) (cI cO : ClassId) (tt : Nat) (ad : Nat → Nat) (g : Nat → Nat → Int32) (b : Nat → Int32) (d : Nat → Nat → Int64) (X : va_W) (sz : Nat) (k : Nat) (y0 : Int64) (hk : k < 4) : MmV l yX1_multiply wsX1_multiply ({ frames := 0, cells := 0, slots := 0, locals := 0 }) D cI cO tt (LW ad cI cO g b d X) sz [.ref (ad (4 + k)), .long y0] (S := Nat → Nat → Int64) (fun u => LW ad cI cO g b u X) (fun u => dP d k (d k 0 * y0) (d k 1 * y0) (d k 2 * y0) (d k 3 * y0) u) := by
  refine Met.ofW (cc := cX1_multiply) (maxL := 3) (ret := none) (by decide) rfl ?_
  intro p e s m args below meth c s₁ B hml hv
  obtain ⟨rfl, hsz, hP, hK, hD0, hZ, hN⟩ := hv
  have hx := B.exec
  have hb := B.bytes
  have hr := B.returns
  have hts := atoms_spec (ws := wsX1_multiply) B.pre
  have hown : s.vm.findClass RX1 = some m.cls := findClass_of_methodNamed B.named
  have hlocks := B.notSynchronized
  subst hsz
  have hD := hD0.self (sz := s.heap.size)
  generalize hAe : va_A (LW ad cI cO g b d X) s.heap.size = A at hD hZ ⊢
  have hA : ∀ q : Nat, s.heap.size ≤ q → A q := fun q h => by rw [← hAe]; exact Or.inr h
  have hS : va_S A s.heap s.heap [] := va_S.rf
  have hl := lv_entry ([.ref (ad (4 + k)), .long y0]) (n := 3) (Nat.le_of_ble_eq_true rfl)
  rw [lg_entry_eq]
  generalize (lg_sl ([.ref (ad (4 + k)), .long y0]) ++ List.replicate (3 - (lg_sl ([.ref (ad (4 + k)), .long y0])).length) Slot.unset).toArray = ls at hl ⊢
  have hl : lv_has ls 3 [(0, .ref (ad (4 + k))), (1, .long y0)] := hl
  have hw0 := hts (.fieldLink RX1 7 "LayerSounder$Drift" "swungX" "J") (List.mem_cons_of_mem _ (List.mem_append_left _ (List.mem_of_getElem? (i := 0) rfl)))
  have iX1 : ∀ w ∈ wsX10, w ∈ wsX1_multiply := fun _ h => List.mem_cons_of_mem _ (List.mem_append_right _ h)
  have hw2 := hts (.fieldLink RX1 13 "LayerSounder$Drift" "swungY" "J") (List.mem_cons_of_mem _ (List.mem_append_left _ (List.mem_of_getElem? (i := 1) rfl)))
  have hw3 := hts (.fieldLink RX1 16 "LayerSounder$Drift" "heldX" "J") (List.mem_cons_of_mem _ (List.mem_append_left _ (List.mem_of_getElem? (i := 2) rfl)))
  have hw4 := hts (.fieldLink RX1 19 "LayerSounder$Drift" "heldY" "J") (List.mem_cons_of_mem _ (List.mem_append_left _ (List.mem_of_getElem? (i := 3) rfl)))
  refine lv_aload_n hx hb dX1_multiply_0 rfl (lv_at hl 0 rfl) ?_
  refine lv_dup hx hb dX1_multiply_1 rfl ?_
  refine va_get (D := D) (ci := 1) (v := .long (d k 0)) (C := RX1) (T := TX1) (N := 4) hx hb hts iX1 hown hK hP (4 + k) (LW_d hk) rfl 0 (by decide) hw0 (fun _ h9 => h9) rfl dX1_multiply_2 ?_
  refine lv_lload_n hx hb dX1_multiply_5 rfl (lv_at hl 1 rfl) ?_
  refine lv_lmul hx hb dX1_multiply_6 ?_
  refine va_put (D := D) (ci := 1) (v := .long ((d k 0) * y0)) (C := RX1) (T := TX1) (N := 4) hx hb hts iX1 tyX1 tyX1_ok nmX1 hown hK hP hD hS (4 + k) (LW_d hk) rfl 0 (by decide) hw0 (fun _ h9 => h9) rfl (tyX1_ok 0 (by decide)) rfl rfl (Nat.le_of_ble_eq_true rfl) dX1_multiply_7 (fun H locs hP hD hS => ?_)
  have hP : va_P D vwCl (LW ad cI cO g b (up2 d k 0 ((d k 0) * y0)) X) H := by
    have h9 := hP
    rw [← LW_d0 hk]
    exact h9
  have hD : va_D A (LW ad cI cO g b (up2 d k 0 ((d k 0) * y0)) X) := by
    have h9 := hD
    rw [← LW_d0 hk]
    exact h9
  refine lv_aload_n hx hb dX1_multiply_10 rfl (lv_at hl 0 rfl) ?_
  refine lv_dup hx hb dX1_multiply_11 rfl ?_
  refine va_get (D := D) (ci := 1) (v := .long (up2 d k 0 ((d k 0) * y0) k 1)) (C := RX1) (T := TX1) (N := 4) hx hb hts iX1 hown hK hP (4 + k) (LW_d hk) rfl 1 (by decide) hw2 (fun _ h9 => h9) rfl dX1_multiply_12 ?_
  refine lv_lload_n hx hb dX1_multiply_15 rfl (lv_at hl 1 rfl) ?_
  refine lv_lmul hx hb dX1_multiply_16 ?_
  refine va_put (D := D) (ci := 1) (v := .long ((up2 d k 0 ((d k 0) * y0) k 1) * y0)) (C := RX1) (T := TX1) (N := 4) hx hb hts iX1 tyX1 tyX1_ok nmX1 hown hK hP hD hS (4 + k) (LW_d hk) rfl 1 (by decide) hw2 (fun _ h9 => h9) rfl (tyX1_ok 1 (by decide)) rfl rfl (Nat.le_of_ble_eq_true rfl) dX1_multiply_17 (fun H locs hP hD hS => ?_)
  have hP : va_P D vwCl (LW ad cI cO g b (up2 (up2 d k 0 ((d k 0) * y0)) k 1 ((up2 d k 0 ((d k 0) * y0) k 1) * y0)) X) H := by
    have h9 := hP
    rw [← LW_d1 hk]
    exact h9
  have hD : va_D A (LW ad cI cO g b (up2 (up2 d k 0 ((d k 0) * y0)) k 1 ((up2 d k 0 ((d k 0) * y0) k 1) * y0)) X) := by
    have h9 := hD
    rw [← LW_d1 hk]
    exact h9
  refine lv_aload_n hx hb dX1_multiply_20 rfl (lv_at hl 0 rfl) ?_
  refine lv_dup hx hb dX1_multiply_21 rfl ?_
  refine va_get (D := D) (ci := 1) (v := .long (up2 (up2 d k 0 ((d k 0) * y0)) k 1 ((up2 d k 0 ((d k 0) * y0) k 1) * y0) k 2)) (C := RX1) (T := TX1) (N := 4) hx hb hts iX1 hown hK hP (4 + k) (LW_d hk) rfl 2 (by decide) hw3 (fun _ h9 => h9) rfl dX1_multiply_22 ?_
  refine lv_lload_n hx hb dX1_multiply_25 rfl (lv_at hl 1 rfl) ?_
  refine lv_lmul hx hb dX1_multiply_26 ?_
  refine va_put (D := D) (ci := 1) (v := .long ((up2 (up2 d k 0 ((d k 0) * y0)) k 1 ((up2 d k 0 ((d k 0) * y0) k 1) * y0) k 2) * y0)) (C := RX1) (T := TX1) (N := 4) hx hb hts iX1 tyX1 tyX1_ok nmX1 hown hK hP hD hS (4 + k) (LW_d hk) rfl 2 (by decide) hw3 (fun _ h9 => h9) rfl (tyX1_ok 2 (by decide)) rfl rfl (Nat.le_of_ble_eq_true rfl) dX1_multiply_27 (fun H locs hP hD hS => ?_)
  have hP : va_P D vwCl (LW ad cI cO g b (up2 (up2 (up2 d k 0 ((d k 0) * y0)) k 1 ((up2 d k 0 ((d k 0) * y0) k 1) * y0)) k 2 ((up2 (up2 d k 0 ((d k 0) * y0)) k 1 ((up2 d k 0 ((d k 0) * y0) k 1) * y0) k 2) * y0)) X) H := by
    have h9 := hP
    rw [← LW_d2 hk]
    exact h9
  have hD : va_D A (LW ad cI cO g b (up2 (up2 (up2 d k 0 ((d k 0) * y0)) k 1 ((up2 d k 0 ((d k 0) * y0) k 1) * y0)) k 2 ((up2 (up2 d k 0 ((d k 0) * y0)) k 1 ((up2 d k 0 ((d k 0) * y0) k 1) * y0) k 2) * y0)) X) := by
    have h9 := hD
    rw [← LW_d2 hk]
    exact h9
  refine lv_aload_n hx hb dX1_multiply_30 rfl (lv_at hl 0 rfl) ?_
  refine lv_dup hx hb dX1_multiply_31 rfl ?_
  refine va_get (D := D) (ci := 1) (v := .long (up2 (up2 (up2 d k 0 ((d k 0) * y0)) k 1 ((up2 d k 0 ((d k 0) * y0) k 1) * y0)) k 2 ((up2 (up2 d k 0 ((d k 0) * y0)) k 1 ((up2 d k 0 ((d k 0) * y0) k 1) * y0) k 2) * y0) k 3)) (C := RX1) (T := TX1) (N := 4) hx hb hts iX1 hown hK hP (4 + k) (LW_d hk) rfl 3 (by decide) hw4 (fun _ h9 => h9) rfl dX1_multiply_32 ?_
  refine lv_lload_n hx hb dX1_multiply_35 rfl (lv_at hl 1 rfl) ?_
  refine lv_lmul hx hb dX1_multiply_36 ?_
  refine va_put (D := D) (ci := 1) (v := .long ((up2 (up2 (up2 d k 0 ((d k 0) * y0)) k 1 ((up2 d k 0 ((d k 0) * y0) k 1) * y0)) k 2 ((up2 (up2 d k 0 ((d k 0) * y0)) k 1 ((up2 d k 0 ((d k 0) * y0) k 1) * y0) k 2) * y0) k 3) * y0)) (C := RX1) (T := TX1) (N := 4) hx hb hts iX1 tyX1 tyX1_ok nmX1 hown hK hP hD hS (4 + k) (LW_d hk) rfl 3 (by decide) hw4 (fun _ h9 => h9) rfl (tyX1_ok 3 (by decide)) rfl rfl (Nat.le_of_ble_eq_true rfl) dX1_multiply_37 (fun H locs hP hD hS => ?_)
  have hP : va_P D vwCl (LW ad cI cO g b (up2 (up2 (up2 (up2 d k 0 ((d k 0) * y0)) k 1 ((up2 d k 0 ((d k 0) * y0) k 1) * y0)) k 2 ((up2 (up2 d k 0 ((d k 0) * y0)) k 1 ((up2 d k 0 ((d k 0) * y0) k 1) * y0) k 2) * y0)) k 3 ((up2 (up2 (up2 d k 0 ((d k 0) * y0)) k 1 ((up2 d k 0 ((d k 0) * y0) k 1) * y0)) k 2 ((up2 (up2 d k 0 ((d k 0) * y0)) k 1 ((up2 d k 0 ((d k 0) * y0) k 1) * y0) k 2) * y0) k 3) * y0)) X) H := by
    have h9 := hP
    rw [← LW_d3 hk]
    exact h9
  have hD : va_D A (LW ad cI cO g b (up2 (up2 (up2 (up2 d k 0 ((d k 0) * y0)) k 1 ((up2 d k 0 ((d k 0) * y0) k 1) * y0)) k 2 ((up2 (up2 d k 0 ((d k 0) * y0)) k 1 ((up2 d k 0 ((d k 0) * y0) k 1) * y0) k 2) * y0)) k 3 ((up2 (up2 (up2 d k 0 ((d k 0) * y0)) k 1 ((up2 d k 0 ((d k 0) * y0) k 1) * y0)) k 2 ((up2 (up2 d k 0 ((d k 0) * y0)) k 1 ((up2 d k 0 ((d k 0) * y0) k 1) * y0) k 2) * y0) k 3) * y0)) X) := by
    have h9 := hD
    rw [← LW_d3 hk]
    exact h9
  exact W.vret hx hb hr (fun t ht hW => ⟨⟨up2 (up2 (up2 (up2 d k 0 ((d k 0) * y0)) k 1 ((up2 d k 0 ((d k 0) * y0) k 1) * y0)) k 2 ((up2 (up2 d k 0 ((d k 0) * y0)) k 1 ((up2 d k 0 ((d k 0) * y0) k 1) * y0) k 2) * y0)) k 3 ((up2 (up2 (up2 d k 0 ((d k 0) * y0)) k 1 ((up2 d k 0 ((d k 0) * y0) k 1) * y0)) k 2 ((up2 (up2 d k 0 ((d k 0) * y0)) k 1 ((up2 d k 0 ((d k 0) * y0) k 1) * y0) k 2) * y0) k 3) * y0), rfl, (by have z := dP_4 d k (d k 0 * y0) (d k 1 * y0) (d k 2 * y0) (d k 3 * y0); simpa [up2] using z), by rw [ht]; exact hP, hD⟩, hS.F ht⟩) hS.2.2 dX1_multiply_40
set_option maxHeartbeats 4000000 in
set_option maxRecDepth 100000 in
theorem kX0_take (l : Launch) (D : va_G) (cI cO : ClassId) (tt : Nat) (ad : Nat → Nat) (g : Nat → Nat → Int32) (b : Nat → Int32) (d : Nat → Nat → Int64) (X : va_W) (sz : Nat) (a0 : Int32) (b0 : Int32) (c0 : Int32) (d0 : Int32)  : MmV l yX0_take wsX0_take ({ frames := 1, cells := 0, slots := 0, locals := 20 }) D cI cO tt (LW ad cI cO g b d X) sz [.ref (ad 3), .int a0, .int b0, .int c0, .int d0] (S := Nat → Int32) (fun u => LW ad cI cO g u d X) (fun u => tkP a0 b0 c0 d0 u) := by
  refine Met.ofW (cc := cX0_take) (maxL := 10) (ret := none) (by decide) rfl ?_
  intro p e s m args below meth c s₁ B hml hv
  obtain ⟨rfl, hsz, hP, hK, hD0, hZ, hN⟩ := hv
  have hx := B.exec
  have hb := B.bytes
  have hr := B.returns
  have hts := atoms_spec (ws := wsX0_take) B.pre
  have hown : s.vm.findClass RX0 = some m.cls := findClass_of_methodNamed B.named
  have hlocks := B.notSynchronized
  subst hsz
  have hD := hD0.self (sz := s.heap.size)
  generalize hAe : va_A (LW ad cI cO g b d X) s.heap.size = A at hD hZ ⊢
  have hA : ∀ q : Nat, s.heap.size ≤ q → A q := fun q h => by rw [← hAe]; exact Or.inr h
  have hS : va_S A s.heap s.heap [] := va_S.rf
  have hl := lv_entry ([.ref (ad 3), .int a0, .int b0, .int c0, .int d0]) (n := 10) (Nat.le_of_ble_eq_true rfl)
  rw [lg_entry_eq]
  generalize (lg_sl ([.ref (ad 3), .int a0, .int b0, .int c0, .int d0]) ++ List.replicate (10 - (lg_sl ([.ref (ad 3), .int a0, .int b0, .int c0, .int d0])).length) Slot.unset).toArray = ls at hl ⊢
  have hl : lv_has ls 10 [(0, .ref (ad 3)), (1, .int a0), (2, .int b0), (3, .int c0), (4, .int d0)] := hl
  have hw0 := hts (.initialized RX4) (List.mem_cons_of_mem _ (List.mem_append_left _ (List.mem_of_getElem? (i := 10) rfl)))
  have hw1 := hts (.static yX4_asNumber) (List.mem_cons_of_mem _ (List.mem_append_left _ (List.mem_of_getElem? (i := 9) rfl)))
  have hw2 := hts (.fieldLink RX0 9 "LayerSounder$Beams" "answered" "Z") (List.mem_cons_of_mem _ (List.mem_append_left _ (List.mem_of_getElem? (i := 0) rfl)))
  have iX0 : ∀ w ∈ wsX00, w ∈ wsX0_take := fun _ h => List.mem_cons_of_mem _ (List.mem_append_right _ h)
  have hw4 := hts (.fieldLink RX0 15 "LayerSounder$Beams" "three" "Z") (List.mem_cons_of_mem _ (List.mem_append_left _ (List.mem_of_getElem? (i := 1) rfl)))
  have hw5 := hts (.fieldLink RX0 18 "LayerSounder$Beams" "along" "I") (List.mem_cons_of_mem _ (List.mem_append_left _ (List.mem_of_getElem? (i := 2) rfl)))
  have hw6 := hts (.fieldLink RX0 22 "LayerSounder$Beams" "across" "I") (List.mem_cons_of_mem _ (List.mem_append_left _ (List.mem_of_getElem? (i := 3) rfl)))
  have hw7 := hts (.fieldLink RX0 25 "LayerSounder$Beams" "odd" "I") (List.mem_cons_of_mem _ (List.mem_append_left _ (List.mem_of_getElem? (i := 4) rfl)))
  refine lv_iload_n hx hb dX0_take_0 rfl (lv_at hl 1 rfl) ?_
  refine pcI (va_runS (As := [.int a0]) (rest := []) ⟨hx, hb, hml, hown, hts⟩ (kX0_isNone l D cI cO tt (LW ad cI cO g b d X) s.heap a0 ) (va_cwS 1 hts gX0_take_X0_isNone rfl rfl rfl (by decide +kernel) ⟨(Nat.le_of_ble_eq_true rfl), (Nat.le_of_ble_eq_true rfl)⟩) (pwS hK hZ hN hP hS) rfl rfl hl.1 rfl (lv_room (Nat.le_of_ble_eq_true rfl)) dX0_take_1 ⟨Nat.zero_le _, Nat.zero_le _⟩) hS (fun locs hS => ?_)
  refine pcI (va_runSN (As := [.int (bI (nn a0))]) (rest := []) ⟨hx, hb, hml, hown, hts⟩ (kX4_asNumber l D cI cO tt (LW ad cI cO g b d X) s.heap (bI (nn a0)) ) ⟨va_cnB (host := RX4) 1 hts gX0_take_X4_asNumber_n32 rfl rfl rfl (hN.2 (RX0, 32, yX4_asNumber) (List.mem_of_getElem? (i := 4) rfl)) hw0 (by decide +kernel) ⟨(Nat.le_of_ble_eq_true rfl), (Nat.le_of_ble_eq_true rfl)⟩, hw1, trivial⟩ (pwS hK hZ hN hP hS) rfl rfl hl.1 rfl (lv_room (Nat.le_of_ble_eq_true rfl)) dX0_take_4 ⟨Nat.zero_le _, Nat.zero_le _⟩) hS (fun locs hS => ?_)
  refine tpI bI_bI ?_
  refine lv_iload_n hx hb dX0_take_7 rfl (lv_at hl 2 rfl) ?_
  refine pcI (va_runS (As := [.int b0]) (rest := [.int (bI (nn a0))]) ⟨hx, hb, hml, hown, hts⟩ (kX0_isNone l D cI cO tt (LW ad cI cO g b d X) s.heap b0 ) (va_cwS 1 hts gX0_take_X0_isNone rfl rfl rfl (by decide +kernel) ⟨(Nat.le_of_ble_eq_true rfl), (Nat.le_of_ble_eq_true rfl)⟩) (pwS hK hZ hN hP hS) rfl rfl hl.1 rfl (lv_room (Nat.le_of_ble_eq_true rfl)) dX0_take_8 ⟨Nat.zero_le _, Nat.zero_le _⟩) hS (fun locs hS => ?_)
  refine pcI (va_runSN (As := [.int (bI (nn b0))]) (rest := [.int (bI (nn a0))]) ⟨hx, hb, hml, hown, hts⟩ (kX4_asNumber l D cI cO tt (LW ad cI cO g b d X) s.heap (bI (nn b0)) ) ⟨va_cnB (host := RX4) 1 hts gX0_take_X4_asNumber_n32 rfl rfl rfl (hN.2 (RX0, 32, yX4_asNumber) (List.mem_of_getElem? (i := 4) rfl)) hw0 (by decide +kernel) ⟨(Nat.le_of_ble_eq_true rfl), (Nat.le_of_ble_eq_true rfl)⟩, hw1, trivial⟩ (pwS hK hZ hN hP hS) rfl rfl hl.1 rfl (lv_room (Nat.le_of_ble_eq_true rfl)) dX0_take_11 ⟨Nat.zero_le _, Nat.zero_le _⟩) hS (fun locs hS => ?_)
  refine tpI bI_bI ?_
  refine lv_iadd hx hb dX0_take_14 ?_
  refine lv_iload_n hx hb dX0_take_15 rfl (lv_at hl 3 rfl) ?_
  refine pcI (va_runS (As := [.int c0]) (rest := [.int ((bI (nn a0)) + (bI (nn b0)))]) ⟨hx, hb, hml, hown, hts⟩ (kX0_isNone l D cI cO tt (LW ad cI cO g b d X) s.heap c0 ) (va_cwS 1 hts gX0_take_X0_isNone rfl rfl rfl (by decide +kernel) ⟨(Nat.le_of_ble_eq_true rfl), (Nat.le_of_ble_eq_true rfl)⟩) (pwS hK hZ hN hP hS) rfl rfl hl.1 rfl (lv_room (Nat.le_of_ble_eq_true rfl)) dX0_take_16 ⟨Nat.zero_le _, Nat.zero_le _⟩) hS (fun locs hS => ?_)
  refine pcI (va_runSN (As := [.int (bI (nn c0))]) (rest := [.int ((bI (nn a0)) + (bI (nn b0)))]) ⟨hx, hb, hml, hown, hts⟩ (kX4_asNumber l D cI cO tt (LW ad cI cO g b d X) s.heap (bI (nn c0)) ) ⟨va_cnB (host := RX4) 1 hts gX0_take_X4_asNumber_n32 rfl rfl rfl (hN.2 (RX0, 32, yX4_asNumber) (List.mem_of_getElem? (i := 4) rfl)) hw0 (by decide +kernel) ⟨(Nat.le_of_ble_eq_true rfl), (Nat.le_of_ble_eq_true rfl)⟩, hw1, trivial⟩ (pwS hK hZ hN hP hS) rfl rfl hl.1 rfl (lv_room (Nat.le_of_ble_eq_true rfl)) dX0_take_19 ⟨Nat.zero_le _, Nat.zero_le _⟩) hS (fun locs hS => ?_)
  refine tpI bI_bI ?_
  refine lv_iadd hx hb dX0_take_22 ?_
  refine lv_iload hx hb dX0_take_23 (lv_at hl 4 rfl) ?_
  refine pcI (va_runS (As := [.int d0]) (rest := [.int (((bI (nn a0)) + (bI (nn b0))) + (bI (nn c0)))]) ⟨hx, hb, hml, hown, hts⟩ (kX0_isNone l D cI cO tt (LW ad cI cO g b d X) s.heap d0 ) (va_cwS 1 hts gX0_take_X0_isNone rfl rfl rfl (by decide +kernel) ⟨(Nat.le_of_ble_eq_true rfl), (Nat.le_of_ble_eq_true rfl)⟩) (pwS hK hZ hN hP hS) rfl rfl hl.1 rfl (lv_room (Nat.le_of_ble_eq_true rfl)) dX0_take_25 ⟨Nat.zero_le _, Nat.zero_le _⟩) hS (fun locs hS => ?_)
  refine pcI (va_runSN (As := [.int (bI (nn d0))]) (rest := [.int (((bI (nn a0)) + (bI (nn b0))) + (bI (nn c0)))]) ⟨hx, hb, hml, hown, hts⟩ (kX4_asNumber l D cI cO tt (LW ad cI cO g b d X) s.heap (bI (nn d0)) ) ⟨va_cnB (host := RX4) 1 hts gX0_take_X4_asNumber_n32 rfl rfl rfl (hN.2 (RX0, 32, yX4_asNumber) (List.mem_of_getElem? (i := 4) rfl)) hw0 (by decide +kernel) ⟨(Nat.le_of_ble_eq_true rfl), (Nat.le_of_ble_eq_true rfl)⟩, hw1, trivial⟩ (pwS hK hZ hN hP hS) rfl rfl hl.1 rfl (lv_room (Nat.le_of_ble_eq_true rfl)) dX0_take_28 ⟨Nat.zero_le _, Nat.zero_le _⟩) hS (fun locs hS => ?_)
  refine tpI bI_bI ?_
  refine lv_iadd hx hb dX0_take_31 ?_
  refine lv_topi (fun x_1 ex_1 => ?_)
  refine lv_istore (lv' := [(5, .int x_1), (0, .ref (ad 3)), (1, .int a0), (2, .int b0), (3, .int c0), (4, .int d0)]) hx hb dX0_take_32 hl (by decide) rfl (fun ls hl => ?_)
  refine lv_aload_n hx hb dX0_take_34 rfl (lv_at hl 1 rfl) ?_
  refine lv_iload hx hb dX0_take_35 (lv_at hl 0 rfl) ?_
  refine lv_iconst (v := 1) hx hb dX0_take_37 (by decide) ?_
  refine jnI (j := 46) (rest := [.ref (ad 3)]) (fun z => z = bI (x_1 ≤ 1)) (fun v_3 hv_3 => ?_) (fun hJ => ?_)
  · refine va_put (D := D) (ci := 0) (v := .int v_3) (C := RX0) (T := TX0) (N := 5) hx hb hts iX0 tyX0 tyX0_ok nmX0 hown hK hP hD hS 3 rfl rfl 0 (by decide) hw2 (fun _ h9 => h9) rfl (tyX0_ok 0 (by decide)) (by rw [hv_3]; exact bI_nar) (by rw [hv_3]; exact bI_fit) (Nat.le_of_ble_eq_true rfl) dX0_take_46 (fun H locs hP hD hS => ?_)
    have hP : va_P D vwCl (LW ad cI cO g (va_up b 0 v_3) d X) H := hP
    have hD : va_D A (LW ad cI cO g (va_up b 0 v_3) d X) := hD
    refine lv_aload_n hx hb dX0_take_49 rfl (lv_at hl 1 rfl) ?_
    refine lv_iload hx hb dX0_take_50 (lv_at hl 0 rfl) ?_
    refine lv_iconst (v := 1) hx hb dX0_take_52 (by decide) ?_
    refine jnI (j := 61) (rest := [.ref (ad 3)]) (fun z => z = bI (x_1 = 1)) (fun v_5 hv_5 => ?_) (fun hJ => ?_)
    · refine va_put (D := D) (ci := 0) (v := .int v_5) (C := RX0) (T := TX0) (N := 5) hx hb hts iX0 tyX0 tyX0_ok nmX0 hown hK hP hD hS 3 rfl rfl 1 (by decide) hw4 (fun _ h9 => h9) rfl (tyX0_ok 1 (by decide)) (by rw [hv_5]; exact bI_nar) (by rw [hv_5]; exact bI_fit) (Nat.le_of_ble_eq_true rfl) dX0_take_61 (fun H locs hP hD hS => ?_)
      have hP : va_P D vwCl (LW ad cI cO g (va_up (va_up b 0 v_3) 1 v_5) d X) H := hP
      have hD : va_D A (LW ad cI cO g (va_up (va_up b 0 v_3) 1 v_5) d X) := hD
      refine lv_aload_n hx hb dX0_take_64 rfl (lv_at hl 1 rfl) ?_
      refine va_get (D := D) (ci := 0) (v := .int v_3) (C := RX0) (T := TX0) (N := 5) hx hb hts iX0 hown hK hP 3 rfl rfl 0 (by decide) hw2 (fun _ h9 => h9) rfl dX0_take_65 ?_
      refine lv_if_ne (tgt := 72) hx hb dX0_take_68 (by decide) (fun c_6 => ?_) (fun c_6 => ?_)
      · refine lv_iload_n hx hb dX0_take_72 rfl (lv_at hl 2 rfl) ?_
        refine pcI (va_runS (As := [.int a0]) (rest := []) ⟨hx, hb, hml, hown, hts⟩ (kX0_isNone l D cI cO tt (LW ad cI cO g (va_up (va_up b 0 v_3) 1 v_5) d X) H a0 ) (va_cwS 1 hts gX0_take_X0_isNone rfl rfl rfl (by decide +kernel) ⟨(Nat.le_of_ble_eq_true rfl), (Nat.le_of_ble_eq_true rfl)⟩) (pwS hK hZ hN hP hS) rfl rfl hl.1 rfl (lv_room (Nat.le_of_ble_eq_true rfl)) dX0_take_73 ⟨Nat.zero_le _, Nat.zero_le _⟩) hS (fun locs hS => ?_)
        refine jnI (j := 89) (rest := []) (fun z => z = if nn a0 then c0 + d0 - b0 else a0) (fun v_8 hv_8 => ?_) (fun hJ => ?_)
        · refine lv_istore (lv' := [(6, .int v_8), (5, .int x_1), (0, .ref (ad 3)), (1, .int a0), (2, .int b0), (3, .int c0), (4, .int d0)]) hx hb dX0_take_89 hl (by decide) rfl (fun ls hl => ?_)
          refine lv_iload_n hx hb dX0_take_91 rfl (lv_at hl 4 rfl) ?_
          refine pcI (va_runS (As := [.int b0]) (rest := []) ⟨hx, hb, hml, hown, hts⟩ (kX0_isNone l D cI cO tt (LW ad cI cO g (va_up (va_up b 0 v_3) 1 v_5) d X) H b0 ) (va_cwS 1 hts gX0_take_X0_isNone rfl rfl rfl (by decide +kernel) ⟨(Nat.le_of_ble_eq_true rfl), (Nat.le_of_ble_eq_true rfl)⟩) (pwS hK hZ hN hP hS) rfl rfl hl.1 rfl (lv_room (Nat.le_of_ble_eq_true rfl)) dX0_take_92 ⟨Nat.zero_le _, Nat.zero_le _⟩) hS (fun locs hS => ?_)
          refine jnI (j := 108) (rest := []) (fun z => z = if nn b0 then c0 + d0 - a0 else b0) (fun v_10 hv_10 => ?_) (fun hJ => ?_)
          · refine lv_istore (lv' := [(7, .int v_10), (6, .int v_8), (5, .int x_1), (0, .ref (ad 3)), (1, .int a0), (2, .int b0), (3, .int c0), (4, .int d0)]) hx hb dX0_take_108 hl (by decide) rfl (fun ls hl => ?_)
            refine lv_iload_n hx hb dX0_take_110 rfl (lv_at hl 6 rfl) ?_
            refine pcI (va_runS (As := [.int c0]) (rest := []) ⟨hx, hb, hml, hown, hts⟩ (kX0_isNone l D cI cO tt (LW ad cI cO g (va_up (va_up b 0 v_3) 1 v_5) d X) H c0 ) (va_cwS 1 hts gX0_take_X0_isNone rfl rfl rfl (by decide +kernel) ⟨(Nat.le_of_ble_eq_true rfl), (Nat.le_of_ble_eq_true rfl)⟩) (pwS hK hZ hN hP hS) rfl rfl hl.1 rfl (lv_room (Nat.le_of_ble_eq_true rfl)) dX0_take_111 ⟨Nat.zero_le _, Nat.zero_le _⟩) hS (fun locs hS => ?_)
            refine jnI (j := 127) (rest := []) (fun z => z = if nn c0 then a0 + b0 - d0 else c0) (fun v_12 hv_12 => ?_) (fun hJ => ?_)
            · refine lv_istore (lv' := [(8, .int v_12), (7, .int v_10), (6, .int v_8), (5, .int x_1), (0, .ref (ad 3)), (1, .int a0), (2, .int b0), (3, .int c0), (4, .int d0)]) hx hb dX0_take_127 hl (by decide) rfl (fun ls hl => ?_)
              refine lv_iload hx hb dX0_take_129 (lv_at hl 8 rfl) ?_
              refine pcI (va_runS (As := [.int d0]) (rest := []) ⟨hx, hb, hml, hown, hts⟩ (kX0_isNone l D cI cO tt (LW ad cI cO g (va_up (va_up b 0 v_3) 1 v_5) d X) H d0 ) (va_cwS 1 hts gX0_take_X0_isNone rfl rfl rfl (by decide +kernel) ⟨(Nat.le_of_ble_eq_true rfl), (Nat.le_of_ble_eq_true rfl)⟩) (pwS hK hZ hN hP hS) rfl rfl hl.1 rfl (lv_room (Nat.le_of_ble_eq_true rfl)) dX0_take_131 ⟨Nat.zero_le _, Nat.zero_le _⟩) hS (fun locs hS => ?_)
              refine jnI (j := 147) (rest := []) (fun z => z = if nn d0 then a0 + b0 - c0 else d0) (fun v_14 hv_14 => ?_) (fun hJ => ?_)
              · refine lv_istore (lv' := [(9, .int v_14), (8, .int v_12), (7, .int v_10), (6, .int v_8), (5, .int x_1), (0, .ref (ad 3)), (1, .int a0), (2, .int b0), (3, .int c0), (4, .int d0)]) hx hb dX0_take_147 hl (by decide) rfl (fun ls hl => ?_)
                refine lv_aload_n hx hb dX0_take_149 rfl (lv_at hl 5 rfl) ?_
                refine lv_iload hx hb dX0_take_150 (lv_at hl 3 rfl) ?_
                refine lv_iload hx hb dX0_take_152 (lv_at hl 2 rfl) ?_
                refine lv_isub hx hb dX0_take_154 ?_
                refine va_put (D := D) (ci := 0) (v := .int (v_8 - v_10)) (C := RX0) (T := TX0) (N := 5) hx hb hts iX0 tyX0 tyX0_ok nmX0 hown hK hP hD hS 3 rfl rfl 2 (by decide) hw5 (fun _ h9 => h9) rfl (tyX0_ok 2 (by decide)) rfl rfl (Nat.le_of_ble_eq_true rfl) dX0_take_155 (fun H locs hP hD hS => ?_)
                have hP : va_P D vwCl (LW ad cI cO g (va_up (va_up (va_up b 0 v_3) 1 v_5) 2 (v_8 - v_10)) d X) H := hP
                have hD : va_D A (LW ad cI cO g (va_up (va_up (va_up b 0 v_3) 1 v_5) 2 (v_8 - v_10)) d X) := hD
                refine lv_aload_n hx hb dX0_take_158 rfl (lv_at hl 5 rfl) ?_
                refine lv_iload hx hb dX0_take_159 (lv_at hl 1 rfl) ?_
                refine lv_iload hx hb dX0_take_161 (lv_at hl 0 rfl) ?_
                refine lv_isub hx hb dX0_take_163 ?_
                refine va_put (D := D) (ci := 0) (v := .int (v_12 - v_14)) (C := RX0) (T := TX0) (N := 5) hx hb hts iX0 tyX0 tyX0_ok nmX0 hown hK hP hD hS 3 rfl rfl 3 (by decide) hw6 (fun _ h9 => h9) rfl (tyX0_ok 3 (by decide)) rfl rfl (Nat.le_of_ble_eq_true rfl) dX0_take_164 (fun H locs hP hD hS => ?_)
                have hP : va_P D vwCl (LW ad cI cO g (va_up (va_up (va_up (va_up b 0 v_3) 1 v_5) 2 (v_8 - v_10)) 3 (v_12 - v_14)) d X) H := hP
                have hD : va_D A (LW ad cI cO g (va_up (va_up (va_up (va_up b 0 v_3) 1 v_5) 2 (v_8 - v_10)) 3 (v_12 - v_14)) d X) := hD
                refine lv_aload_n hx hb dX0_take_167 rfl (lv_at hl 5 rfl) ?_
                refine lv_iload hx hb dX0_take_168 (lv_at hl 3 rfl) ?_
                refine lv_iload hx hb dX0_take_170 (lv_at hl 2 rfl) ?_
                refine lv_iadd hx hb dX0_take_172 ?_
                refine lv_iload hx hb dX0_take_173 (lv_at hl 1 rfl) ?_
                refine lv_isub hx hb dX0_take_175 ?_
                refine lv_iload hx hb dX0_take_176 (lv_at hl 0 rfl) ?_
                refine lv_isub hx hb dX0_take_178 ?_
                refine va_put (D := D) (ci := 0) (v := .int (((v_8 + v_10) - v_12) - v_14)) (C := RX0) (T := TX0) (N := 5) hx hb hts iX0 tyX0 tyX0_ok nmX0 hown hK hP hD hS 3 rfl rfl 4 (by decide) hw7 (fun _ h9 => h9) rfl (tyX0_ok 4 (by decide)) rfl rfl (Nat.le_of_ble_eq_true rfl) dX0_take_179 (fun H locs hP hD hS => ?_)
                have hP : va_P D vwCl (LW ad cI cO g (va_up (va_up (va_up (va_up (va_up b 0 v_3) 1 v_5) 2 (v_8 - v_10)) 3 (v_12 - v_14)) 4 (((v_8 + v_10) - v_12) - v_14)) d X) H := hP
                have hD : va_D A (LW ad cI cO g (va_up (va_up (va_up (va_up (va_up b 0 v_3) 1 v_5) 2 (v_8 - v_10)) 3 (v_12 - v_14)) 4 (((v_8 + v_10) - v_12) - v_14)) d X) := hD
                exact W.vret hx hb hr (fun t ht hW => ⟨⟨va_up (va_up (va_up (va_up (va_up b 0 v_3) 1 v_5) 2 (v_8 - v_10)) 3 (v_12 - v_14)) 4 (((v_8 + v_10) - v_12) - v_14), rfl, (by exact tk_yes ex_1 hv_3 hv_5 hv_8 hv_10 hv_12 hv_14), by rw [ht]; exact hP, hD⟩, hS.F ht⟩) hS.2.2 dX0_take_182
              · refine lv_if_eq (tgt := 145) hx hb dX0_take_134 (by decide) (fun c_15 => ?_) (fun c_15 => ?_)
                · have c_15 := bI_0.mp c_15
                  refine lv_iload hx hb dX0_take_145 (lv_at hl 8 rfl) ?_
                  exact hJ _ (by exact (if_neg c_15).symm)
                · have c_15 := bI_n0.mp c_15
                  refine lv_iload_n hx hb dX0_take_137 rfl (lv_at hl 5 rfl) ?_
                  refine lv_iload_n hx hb dX0_take_138 rfl (lv_at hl 6 rfl) ?_
                  refine lv_iadd hx hb dX0_take_139 ?_
                  refine lv_iload_n hx hb dX0_take_140 rfl (lv_at hl 7 rfl) ?_
                  refine lv_isub hx hb dX0_take_141 ?_
                  refine lv_goto (tgt := 147) hx hb dX0_take_142 (by decide) ?_
                  exact hJ _ (by exact (if_pos c_15).symm)
            · refine lv_if_eq (tgt := 126) hx hb dX0_take_114 (by decide) (fun c_16 => ?_) (fun c_16 => ?_)
              · have c_16 := bI_0.mp c_16
                refine lv_iload_n hx hb dX0_take_126 rfl (lv_at hl 6 rfl) ?_
                exact hJ _ (by exact (if_neg c_16).symm)
              · have c_16 := bI_n0.mp c_16
                refine lv_iload_n hx hb dX0_take_117 rfl (lv_at hl 4 rfl) ?_
                refine lv_iload_n hx hb dX0_take_118 rfl (lv_at hl 5 rfl) ?_
                refine lv_iadd hx hb dX0_take_119 ?_
                refine lv_iload hx hb dX0_take_120 (lv_at hl 7 rfl) ?_
                refine lv_isub hx hb dX0_take_122 ?_
                refine lv_goto (tgt := 127) hx hb dX0_take_123 (by decide) ?_
                exact hJ _ (by exact (if_pos c_16).symm)
          · refine lv_if_eq (tgt := 107) hx hb dX0_take_95 (by decide) (fun c_17 => ?_) (fun c_17 => ?_)
            · have c_17 := bI_0.mp c_17
              refine lv_iload_n hx hb dX0_take_107 rfl (lv_at hl 4 rfl) ?_
              exact hJ _ (by exact (if_neg c_17).symm)
            · have c_17 := bI_n0.mp c_17
              refine lv_iload_n hx hb dX0_take_98 rfl (lv_at hl 5 rfl) ?_
              refine lv_iload hx hb dX0_take_99 (lv_at hl 6 rfl) ?_
              refine lv_iadd hx hb dX0_take_101 ?_
              refine lv_iload_n hx hb dX0_take_102 rfl (lv_at hl 3 rfl) ?_
              refine lv_isub hx hb dX0_take_103 ?_
              refine lv_goto (tgt := 108) hx hb dX0_take_104 (by decide) ?_
              exact hJ _ (by exact (if_pos c_17).symm)
        · refine lv_if_eq (tgt := 88) hx hb dX0_take_76 (by decide) (fun c_18 => ?_) (fun c_18 => ?_)
          · have c_18 := bI_0.mp c_18
            refine lv_iload_n hx hb dX0_take_88 rfl (lv_at hl 2 rfl) ?_
            exact hJ _ (by exact (if_neg c_18).symm)
          · have c_18 := bI_n0.mp c_18
            refine lv_iload_n hx hb dX0_take_79 rfl (lv_at hl 4 rfl) ?_
            refine lv_iload hx hb dX0_take_80 (lv_at hl 5 rfl) ?_
            refine lv_iadd hx hb dX0_take_82 ?_
            refine lv_iload_n hx hb dX0_take_83 rfl (lv_at hl 3 rfl) ?_
            refine lv_isub hx hb dX0_take_84 ?_
            refine lv_goto (tgt := 89) hx hb dX0_take_85 (by decide) ?_
            exact hJ _ (by exact (if_pos c_18).symm)
      · exact W.vret hx hb hr (fun t ht hW => ⟨⟨va_up (va_up b 0 v_3) 1 v_5, rfl, (by exact tk_no ex_1 hv_3 hv_5 c_6), by rw [ht]; exact hP, hD⟩, hS.F ht⟩) hS.2.2 dX0_take_71
    · refine lv_icmp_ne (tgt := 60) hx hb dX0_take_53 (by decide) (fun c_19 => ?_) (fun c_19 => ?_)
      · refine lv_iconst (v := 0) hx hb dX0_take_60 (by decide) ?_
        exact hJ _ (by exact (bI_f c_19).symm)
      · refine lv_iconst (v := 1) hx hb dX0_take_56 (by decide) ?_
        refine lv_goto (tgt := 61) hx hb dX0_take_57 (by decide) ?_
        exact hJ _ (by exact (bI_t c_19).symm)
  · refine lv_icmp_gt (tgt := 45) hx hb dX0_take_38 (by decide) (fun c_20 => ?_) (fun c_20 => ?_)
    · refine lv_iconst (v := 0) hx hb dX0_take_45 (by decide) ?_
      exact hJ _ (by exact (bI_f (by grind)).symm)
    · refine lv_iconst (v := 1) hx hb dX0_take_41 (by decide) ?_
      refine lv_goto (tgt := 46) hx hb dX0_take_42 (by decide) ?_
      exact hJ _ (by exact (bI_t (by grind)).symm)
set_option maxHeartbeats 4000000 in
set_option maxRecDepth 100000 in
theorem kX4_isReel (l : Launch) (D : va_G) (cI cO : ClassId) (tt : Nat) (ad : Nat → Nat) (g : Nat → Nat → Int32) (b : Nat → Int32) (d : Nat → Nat → Int64) (X : va_W) (H0 : Heap) (r0 : Int32)  : MpI l yX4_isReel wsX4_isReel ({ frames := 0, cells := 0, slots := 0, locals := 0 }) D cI cO tt (LW ad cI cO g b d X) H0 [.ref (ad 0), .int r0] (bI (0 ≤ r0 ∧ r0 < 8)) := by
  refine Met.ofW (cc := cX4_isReel) (maxL := 2) (ret := (some .boolean)) (by decide) rfl ?_
  intro p e s m args below meth c s₁ B hml hv
  obtain ⟨rfl, rfl, hP, hK, hZ, hN⟩ := hv
  have hx := B.exec
  have hb := B.bytes
  have hr := B.returns
  have hts := atoms_spec (ws := wsX4_isReel) B.pre
  have hown : s.vm.findClass RX4 = some m.cls := findClass_of_methodNamed B.named
  have hlocks := B.notSynchronized
  have hS : va_S (fun _ => False) s.heap s.heap [] := va_S.rf
  have hl := lv_entry ([.ref (ad 0), .int r0]) (n := 2) (Nat.le_of_ble_eq_true rfl)
  rw [lg_entry_eq]
  generalize (lg_sl ([.ref (ad 0), .int r0]) ++ List.replicate (2 - (lg_sl ([.ref (ad 0), .int r0])).length) Slot.unset).toArray = ls at hl ⊢
  have hl : lv_has ls 2 [(0, .ref (ad 0)), (1, .int r0)] := hl
  have hw0 := hts (.fieldLink RX4 11 "LayerSounder" "reels" "[LLayerSounder$Reel;") (List.mem_cons_of_mem _ (List.mem_append_left _ (List.mem_of_getElem? (i := 0) rfl)))
  have iX4 : ∀ w ∈ wsX40, w ∈ wsX4_isReel := fun _ h => List.mem_cons_of_mem _ (List.mem_append_right _ h)
  refine lv_iload_n hx hb dX4_isReel_0 rfl (lv_at hl 1 rfl) ?_
  refine lv_if_lt (tgt := 17) hx hb dX4_isReel_1 (by decide) (fun c_1 => ?_) (fun c_1 => ?_)
  · refine lv_iconst (v := 0) hx hb dX4_isReel_17 (by decide) ?_
    exact W.zret (v := 0) hx hb hr rfl (fun t ht hW => ⟨⟨0, (), rfl, (by grind [bI]), ht⟩, hS.F ht⟩) hS.2.2 dX4_isReel_18
  · refine lv_iload_n hx hb dX4_isReel_4 rfl (lv_at hl 1 rfl) ?_
    refine lv_aload_n hx hb dX4_isReel_5 rfl (lv_at hl 0 rfl) ?_
    refine va_get (D := D) (ci := 4) (v := .ref (ad 1)) (C := RX4) (T := TX4) (N := 14) hx hb hts iX4 hown hK hP 0 rfl rfl 0 (by decide) hw0 (fun _ h9 => h9) rfl dX4_isReel_6 ?_
    refine va_alen hx hb hK hP 1 1 rfl rfl (v := 8) rfl dX4_isReel_9 ?_
    refine lv_icmp_ge (tgt := 17) hx hb dX4_isReel_10 (by decide) (fun c_2 => ?_) (fun c_2 => ?_)
    · refine lv_iconst (v := 0) hx hb dX4_isReel_17 (by decide) ?_
      exact W.zret (v := 0) hx hb hr rfl (fun t ht hW => ⟨⟨0, (), rfl, (by grind [bI]), ht⟩, hS.F ht⟩) hS.2.2 dX4_isReel_18
    · refine lv_iconst (v := 1) hx hb dX4_isReel_13 (by decide) ?_
      refine lv_goto (tgt := 18) hx hb dX4_isReel_14 (by decide) ?_
      exact W.zret (v := 1) hx hb hr rfl (fun t ht hW => ⟨⟨1, (), rfl, (by grind [bI]), ht⟩, hS.F ht⟩) hS.2.2 dX4_isReel_18
set_option maxHeartbeats 4000000 in
set_option maxRecDepth 100000 in
theorem kX4_readingOf (l : Launch) (D : va_G) (cI cO : ClassId) (tt : Nat) (ad : Nat → Nat) (g : Nat → Nat → Int32) (b : Nat → Int32) (d : Nat → Nat → Int64) (X : va_W) (H0 : Heap) (r0 : Int32) (i0 : Int32) (rr : Nat) (hrr : rr < 8) (he : r0 = nI rr) (hI : WI g) : MpI l yX4_readingOf wsX4_readingOf ({ frames := 1, cells := 0, slots := 0, locals := 21 }) D cI cO tt (LW ad cI cO g b d X) H0 [.ref (ad 0), .int r0, .int i0] (rdC g rr i0) := by
  refine Met.ofW (cc := cX4_readingOf) (maxL := 3) (ret := (some .int)) (by decide) rfl ?_
  intro p e s m args below meth c s₁ B hml hv
  obtain ⟨rfl, rfl, hP, hK, hZ, hN⟩ := hv
  have hx := B.exec
  have hb := B.bytes
  have hr := B.returns
  have hts := atoms_spec (ws := wsX4_readingOf) B.pre
  have hown : s.vm.findClass RX4 = some m.cls := findClass_of_methodNamed B.named
  have hlocks := B.notSynchronized
  have hS : va_S (fun _ => False) s.heap s.heap [] := va_S.rf
  have hl := lv_entry ([.ref (ad 0), .int r0, .int i0]) (n := 3) (Nat.le_of_ble_eq_true rfl)
  rw [lg_entry_eq]
  generalize (lg_sl ([.ref (ad 0), .int r0, .int i0]) ++ List.replicate (3 - (lg_sl ([.ref (ad 0), .int r0, .int i0])).length) Slot.unset).toArray = ls at hl ⊢
  have hl : lv_has ls 3 [(0, .ref (ad 0)), (1, .int r0), (2, .int i0)] := hl
  have hw0 := hts (.fieldLink RX4 11 "LayerSounder" "reels" "[LLayerSounder$Reel;") (List.mem_cons_of_mem _ (List.mem_append_left _ (List.mem_append_left _ (List.mem_of_getElem? (i := 0) rfl))))
  have iX4 : ∀ w ∈ wsX40, w ∈ wsX4_readingOf := fun _ h => List.mem_cons_of_mem _ (List.mem_append_left _ (List.mem_append_right _ h))
  refine lv_aload_n hx hb dX4_readingOf_0 rfl (lv_at hl 0 rfl) ?_
  refine lv_iload_n hx hb dX4_readingOf_1 rfl (lv_at hl 1 rfl) ?_
  refine pcI (va_runV (As := [.int r0]) (rest := []) ⟨hx, hb, hml, hown, hts⟩ (kX4_isReel l D cI cO tt ad g b d X s.heap r0 ) (cwV 1 hts gX4_readingOf_X4_isReel rfl rfl rfl (by decide +kernel) ⟨(Nat.le_of_ble_eq_true rfl), (Nat.le_of_ble_eq_true rfl)⟩) (pwV hK hZ hN hP hS (va_recv hK hP (ci := 4) (q0 := 0) rfl rfl)) rfl rfl hl.1 rfl (lv_room (Nat.le_of_ble_eq_true rfl)) dX4_readingOf_2 ⟨Nat.zero_le _, Nat.zero_le _⟩) hS (fun locs hS => ?_)
  refine lv_if_eq (tgt := 21) hx hb dX4_readingOf_5 (by decide) (fun c_1 => ?_) (fun c_1 => ?_)
  · have c_1 := bI_0.mp c_1
    exact absurd (rl_in hrr he) c_1
  · have c_1 := bI_n0.mp c_1
    refine lv_aload_n hx hb dX4_readingOf_8 rfl (lv_at hl 0 rfl) ?_
    refine va_get (D := D) (ci := 4) (v := .ref (ad 1)) (C := RX4) (T := TX4) (N := 14) hx hb hts iX4 hown hK hP 0 rfl rfl 0 (by decide) hw0 (fun _ h9 => h9) rfl dX4_readingOf_9 ?_
    refine lv_iload_n hx hb dX4_readingOf_12 rfl (lv_at hl 1 rfl) ?_
    refine va_aldq hx hb hK hP 1 1 rfl rfl (rl_vin hrr he) dX4_readingOf_13 ?_
    refine rfr (w := ad (12 + rr)) (rl_ad hrr he) ?_
    refine lv_iload_n hx hb dX4_readingOf_14 rfl (lv_at hl 2 rfl) ?_
    refine pcI (va_runV (As := [.int i0]) (rest := []) ⟨hx, hb, hml, hown, hts⟩ (kX2_reading l D cI cO tt ad g b d X s.heap rr i0 hrr hI) (cwV 1 hts gX4_readingOf_X2_reading rfl rfl rfl (by decide +kernel) ⟨(Nat.le_of_ble_eq_true rfl), (Nat.le_of_ble_eq_true rfl)⟩) (pwV hK hZ hN hP hS (va_recv hK hP (ci := 2) (q0 := (12 + rr)) rfl (LW_r hrr))) rfl rfl hl.1 rfl (lv_room (Nat.le_of_ble_eq_true rfl)) dX4_readingOf_15 ⟨Nat.zero_le _, Nat.zero_le _⟩) hS (fun locs hS => ?_)
    refine lv_goto (tgt := 23) hx hb dX4_readingOf_18 (by decide) ?_
    exact W.iret (v := rdC g rr i0) hx hb hr (fun t ht hW => ⟨⟨rdC g rr i0, (), rfl, (by rfl), ht⟩, hS.F ht⟩) hS.2.2 dX4_readingOf_23
set_option maxHeartbeats 4000000 in
set_option maxRecDepth 100000 in
theorem kX4_readBeams0 (l : Launch) (D : va_G) (cI cO : ClassId) (tt : Nat) (ad : Nat → Nat) (g : Nat → Nat → Int32) (b : Nat → Int32) (d : Nat → Nat → Int64) (X : va_W) (sz : Nat) (i0 : Int32) (hI : WI g) : MmV l yX4_readBeams wsX4_readBeams ({ frames := 2, cells := 0, slots := 0, locals := 49 }) D cI cO tt (LW ad cI cO g b d X) sz [.ref (ad 0), .int 0, .int i0] (S := Nat → Int32) (fun u => LW ad cI cO g u d X) (fun u => rdP g 0 i0 u) := by
  refine Met.ofW (cc := cX4_readBeams) (maxL := 7) (ret := none) (by decide) rfl ?_
  intro p e s m args below meth c s₁ B hml hv
  obtain ⟨rfl, hsz, hP, hK, hD0, hZ, hN⟩ := hv
  have hx := B.exec
  have hb := B.bytes
  have hr := B.returns
  have hts := atoms_spec (ws := wsX4_readBeams) B.pre
  have hown : s.vm.findClass RX4 = some m.cls := findClass_of_methodNamed B.named
  have hlocks := B.notSynchronized
  subst hsz
  have hD := hD0.self (sz := s.heap.size)
  generalize hAe : va_A (LW ad cI cO g b d X) s.heap.size = A at hD hZ ⊢
  have hA : ∀ q : Nat, s.heap.size ≤ q → A q := fun q h => by rw [← hAe]; exact Or.inr h
  have hS : va_S A s.heap s.heap [] := va_S.rf
  have hl := lv_entry ([.ref (ad 0), .int 0, .int i0]) (n := 7) (Nat.le_of_ble_eq_true rfl)
  rw [lg_entry_eq]
  generalize (lg_sl ([.ref (ad 0), .int 0, .int i0]) ++ List.replicate (7 - (lg_sl ([.ref (ad 0), .int 0, .int i0])).length) Slot.unset).toArray = ls at hl ⊢
  have hl : lv_has ls 7 [(0, .ref (ad 0)), (1, .int 0), (2, .int i0)] := hl
  have hw0 := hts (.fieldLink RX4 25 "LayerSounder" "beams" "LLayerSounder$Beams;") (List.mem_cons_of_mem _ (List.mem_append_left _ (List.mem_append_left _ (List.mem_append_left _ (List.mem_append_left _ (List.mem_of_getElem? (l := wsX4_readBeams_r1) (i := 0) rfl))))))
  have iX4 : ∀ w ∈ wsX40, w ∈ wsX4_readBeams := fun _ h => List.mem_cons_of_mem _ (List.mem_append_left _ (List.mem_append_left _ (List.mem_append_right _ h)))
  refine lv_aload_n hx hb dX4_readBeams_0 rfl (lv_at hl 0 rfl) ?_
  refine lv_iload_n hx hb dX4_readBeams_1 rfl (lv_at hl 1 rfl) ?_
  refine lv_iload_n hx hb dX4_readBeams_2 rfl (lv_at hl 2 rfl) ?_
  refine pcI (va_runV (As := [.int 0, .int i0]) (rest := []) ⟨hx, hb, hml, hown, hts⟩ (kX4_readingOf l D cI cO tt ad g b d X s.heap 0 i0 0 (by decide) (by decide) hI) (cwV 2 hts gX4_readBeams_X4_readingOf rfl rfl rfl (by decide +kernel) ⟨(Nat.le_of_ble_eq_true rfl), (Nat.le_of_ble_eq_true rfl)⟩) (pwV hK hZ hN hP hS (va_recv hK hP (ci := 4) (q0 := 0) rfl rfl)) rfl rfl hl.1 rfl (lv_room (Nat.le_of_ble_eq_true rfl)) dX4_readBeams_3 ⟨Nat.zero_le _, Nat.zero_le _⟩) hS (fun locs hS => ?_)
  refine lv_istore_n (lv' := [(3, .int (rdC g 0 i0)), (0, .ref (ad 0)), (1, .int 0), (2, .int i0)]) hx hb dX4_readBeams_6 rfl hl (by decide) rfl (fun ls hl => ?_)
  refine lv_aload_n hx hb dX4_readBeams_7 rfl (lv_at hl 1 rfl) ?_
  refine lv_iload_n hx hb dX4_readBeams_8 rfl (lv_at hl 2 rfl) ?_
  refine lv_iconst (v := 1) hx hb dX4_readBeams_9 (by decide) ?_
  refine lv_iadd hx hb dX4_readBeams_10 ?_
  refine lv_iload_n hx hb dX4_readBeams_11 rfl (lv_at hl 3 rfl) ?_
  refine pcI (va_runV (As := [.int (0 + 1), .int i0]) (rest := []) ⟨hx, hb, hml, hown, hts⟩ (kX4_readingOf l D cI cO tt ad g b d X s.heap (0 + 1) i0 1 (by decide) (by decide) hI) (cwV 2 hts gX4_readBeams_X4_readingOf rfl rfl rfl (by decide +kernel) ⟨(Nat.le_of_ble_eq_true rfl), (Nat.le_of_ble_eq_true rfl)⟩) (pwV hK hZ hN hP hS (va_recv hK hP (ci := 4) (q0 := 0) rfl rfl)) rfl rfl hl.1 rfl (lv_room (Nat.le_of_ble_eq_true rfl)) dX4_readBeams_12 ⟨Nat.zero_le _, Nat.zero_le _⟩) hS (fun locs hS => ?_)
  refine lv_istore (lv' := [(4, .int (rdC g 1 i0)), (3, .int (rdC g 0 i0)), (0, .ref (ad 0)), (1, .int 0), (2, .int i0)]) hx hb dX4_readBeams_15 hl (by decide) rfl (fun ls hl => ?_)
  refine lv_aload_n hx hb dX4_readBeams_17 rfl (lv_at hl 2 rfl) ?_
  refine lv_iload_n hx hb dX4_readBeams_18 rfl (lv_at hl 3 rfl) ?_
  refine lv_iconst (v := 2) hx hb dX4_readBeams_19 (by decide) ?_
  refine lv_iadd hx hb dX4_readBeams_20 ?_
  refine lv_iload_n hx hb dX4_readBeams_21 rfl (lv_at hl 4 rfl) ?_
  refine pcI (va_runV (As := [.int (0 + 2), .int i0]) (rest := []) ⟨hx, hb, hml, hown, hts⟩ (kX4_readingOf l D cI cO tt ad g b d X s.heap (0 + 2) i0 2 (by decide) (by decide) hI) (cwV 2 hts gX4_readBeams_X4_readingOf rfl rfl rfl (by decide +kernel) ⟨(Nat.le_of_ble_eq_true rfl), (Nat.le_of_ble_eq_true rfl)⟩) (pwV hK hZ hN hP hS (va_recv hK hP (ci := 4) (q0 := 0) rfl rfl)) rfl rfl hl.1 rfl (lv_room (Nat.le_of_ble_eq_true rfl)) dX4_readBeams_22 ⟨Nat.zero_le _, Nat.zero_le _⟩) hS (fun locs hS => ?_)
  refine lv_istore (lv' := [(5, .int (rdC g 2 i0)), (4, .int (rdC g 1 i0)), (3, .int (rdC g 0 i0)), (0, .ref (ad 0)), (1, .int 0), (2, .int i0)]) hx hb dX4_readBeams_25 hl (by decide) rfl (fun ls hl => ?_)
  refine lv_aload_n hx hb dX4_readBeams_27 rfl (lv_at hl 3 rfl) ?_
  refine lv_iload_n hx hb dX4_readBeams_28 rfl (lv_at hl 4 rfl) ?_
  refine lv_iconst (v := 3) hx hb dX4_readBeams_29 (by decide) ?_
  refine lv_iadd hx hb dX4_readBeams_30 ?_
  refine lv_iload_n hx hb dX4_readBeams_31 rfl (lv_at hl 5 rfl) ?_
  refine pcI (va_runV (As := [.int (0 + 3), .int i0]) (rest := []) ⟨hx, hb, hml, hown, hts⟩ (kX4_readingOf l D cI cO tt ad g b d X s.heap (0 + 3) i0 3 (by decide) (by decide) hI) (cwV 2 hts gX4_readBeams_X4_readingOf rfl rfl rfl (by decide +kernel) ⟨(Nat.le_of_ble_eq_true rfl), (Nat.le_of_ble_eq_true rfl)⟩) (pwV hK hZ hN hP hS (va_recv hK hP (ci := 4) (q0 := 0) rfl rfl)) rfl rfl hl.1 rfl (lv_room (Nat.le_of_ble_eq_true rfl)) dX4_readBeams_32 ⟨Nat.zero_le _, Nat.zero_le _⟩) hS (fun locs hS => ?_)
  refine lv_istore (lv' := [(6, .int (rdC g 3 i0)), (5, .int (rdC g 2 i0)), (4, .int (rdC g 1 i0)), (3, .int (rdC g 0 i0)), (0, .ref (ad 0)), (1, .int 0), (2, .int i0)]) hx hb dX4_readBeams_35 hl (by decide) rfl (fun ls hl => ?_)
  refine lv_aload_n hx hb dX4_readBeams_37 rfl (lv_at hl 4 rfl) ?_
  refine va_get (D := D) (ci := 4) (v := .ref (ad 3)) (C := RX4) (T := TX4) (N := 14) hx hb hts iX4 hown hK hP 0 rfl rfl 2 (by decide) hw0 (fun _ h9 => h9) rfl dX4_readBeams_38 ?_
  refine lv_iload_n hx hb dX4_readBeams_41 rfl (lv_at hl 3 rfl) ?_
  refine lv_iload hx hb dX4_readBeams_42 (lv_at hl 2 rfl) ?_
  refine lv_iload hx hb dX4_readBeams_44 (lv_at hl 1 rfl) ?_
  refine lv_iload hx hb dX4_readBeams_46 (lv_at hl 0 rfl) ?_
  refine mcV (wf := fun u => LW ad cI cO g u d X) (va_runV (As := [.int (rdC g 0 i0), .int (rdC g 1 i0), .int (rdC g 2 i0), .int (rdC g 3 i0)]) (rest := []) ⟨hx, hb, hml, hown, hts⟩ (kX0_take l D cI cO tt ad g b d X s.heap.size (rdC g 0 i0) (rdC g 1 i0) (rdC g 2 i0) (rdC g 3 i0) ) (cwV 4 hts gX4_readBeams_X0_take rfl rfl rfl (by decide +kernel) ⟨(Nat.le_of_ble_eq_true rfl), (Nat.le_of_ble_eq_true rfl)⟩) (mwV hK hZ hN hP hD hS hA (va_recv hK hP (ci := 0) (q0 := 3) rfl rfl)) rfl rfl hl.1 rfl (lv_room (Nat.le_of_ble_eq_true rfl)) dX4_readBeams_48 ⟨Nat.zero_le _, Nat.zero_le _⟩) hD hS hA (fun uu_1 H locs hu_1 hP hD hS => ?_)
  have hP : va_P D vwCl (LW ad cI cO g uu_1 d X) H := hP
  have hD : va_D A (LW ad cI cO g uu_1 d X) := hD
  exact W.vret hx hb hr (fun t ht hW => ⟨⟨uu_1, rfl, (by exact hu_1), by rw [ht]; exact hP, hD⟩, hS.F ht⟩) hS.2.2 dX4_readBeams_51
set_option maxHeartbeats 4000000 in
set_option maxRecDepth 100000 in
theorem kX4_readBeams4 (l : Launch) (D : va_G) (cI cO : ClassId) (tt : Nat) (ad : Nat → Nat) (g : Nat → Nat → Int32) (b : Nat → Int32) (d : Nat → Nat → Int64) (X : va_W) (sz : Nat) (i0 : Int32) (hI : WI g) : MmV l yX4_readBeams wsX4_readBeams ({ frames := 2, cells := 0, slots := 0, locals := 49 }) D cI cO tt (LW ad cI cO g b d X) sz [.ref (ad 0), .int 4, .int i0] (S := Nat → Int32) (fun u => LW ad cI cO g u d X) (fun u => rdP g 4 i0 u) := by
  refine Met.ofW (cc := cX4_readBeams) (maxL := 7) (ret := none) (by decide) rfl ?_
  intro p e s m args below meth c s₁ B hml hv
  obtain ⟨rfl, hsz, hP, hK, hD0, hZ, hN⟩ := hv
  have hx := B.exec
  have hb := B.bytes
  have hr := B.returns
  have hts := atoms_spec (ws := wsX4_readBeams) B.pre
  have hown : s.vm.findClass RX4 = some m.cls := findClass_of_methodNamed B.named
  have hlocks := B.notSynchronized
  subst hsz
  have hD := hD0.self (sz := s.heap.size)
  generalize hAe : va_A (LW ad cI cO g b d X) s.heap.size = A at hD hZ ⊢
  have hA : ∀ q : Nat, s.heap.size ≤ q → A q := fun q h => by rw [← hAe]; exact Or.inr h
  have hS : va_S A s.heap s.heap [] := va_S.rf
  have hl := lv_entry ([.ref (ad 0), .int 4, .int i0]) (n := 7) (Nat.le_of_ble_eq_true rfl)
  rw [lg_entry_eq]
  generalize (lg_sl ([.ref (ad 0), .int 4, .int i0]) ++ List.replicate (7 - (lg_sl ([.ref (ad 0), .int 4, .int i0])).length) Slot.unset).toArray = ls at hl ⊢
  have hl : lv_has ls 7 [(0, .ref (ad 0)), (1, .int 4), (2, .int i0)] := hl
  have hw0 := hts (.fieldLink RX4 25 "LayerSounder" "beams" "LLayerSounder$Beams;") (List.mem_cons_of_mem _ (List.mem_append_left _ (List.mem_append_left _ (List.mem_append_left _ (List.mem_append_left _ (List.mem_of_getElem? (l := wsX4_readBeams_r1) (i := 0) rfl))))))
  have iX4 : ∀ w ∈ wsX40, w ∈ wsX4_readBeams := fun _ h => List.mem_cons_of_mem _ (List.mem_append_left _ (List.mem_append_left _ (List.mem_append_right _ h)))
  refine lv_aload_n hx hb dX4_readBeams_0 rfl (lv_at hl 0 rfl) ?_
  refine lv_iload_n hx hb dX4_readBeams_1 rfl (lv_at hl 1 rfl) ?_
  refine lv_iload_n hx hb dX4_readBeams_2 rfl (lv_at hl 2 rfl) ?_
  refine pcI (va_runV (As := [.int 4, .int i0]) (rest := []) ⟨hx, hb, hml, hown, hts⟩ (kX4_readingOf l D cI cO tt ad g b d X s.heap 4 i0 4 (by decide) (by decide) hI) (cwV 2 hts gX4_readBeams_X4_readingOf rfl rfl rfl (by decide +kernel) ⟨(Nat.le_of_ble_eq_true rfl), (Nat.le_of_ble_eq_true rfl)⟩) (pwV hK hZ hN hP hS (va_recv hK hP (ci := 4) (q0 := 0) rfl rfl)) rfl rfl hl.1 rfl (lv_room (Nat.le_of_ble_eq_true rfl)) dX4_readBeams_3 ⟨Nat.zero_le _, Nat.zero_le _⟩) hS (fun locs hS => ?_)
  refine lv_istore_n (lv' := [(3, .int (rdC g 4 i0)), (0, .ref (ad 0)), (1, .int 4), (2, .int i0)]) hx hb dX4_readBeams_6 rfl hl (by decide) rfl (fun ls hl => ?_)
  refine lv_aload_n hx hb dX4_readBeams_7 rfl (lv_at hl 1 rfl) ?_
  refine lv_iload_n hx hb dX4_readBeams_8 rfl (lv_at hl 2 rfl) ?_
  refine lv_iconst (v := 1) hx hb dX4_readBeams_9 (by decide) ?_
  refine lv_iadd hx hb dX4_readBeams_10 ?_
  refine lv_iload_n hx hb dX4_readBeams_11 rfl (lv_at hl 3 rfl) ?_
  refine pcI (va_runV (As := [.int (4 + 1), .int i0]) (rest := []) ⟨hx, hb, hml, hown, hts⟩ (kX4_readingOf l D cI cO tt ad g b d X s.heap (4 + 1) i0 5 (by decide) (by decide) hI) (cwV 2 hts gX4_readBeams_X4_readingOf rfl rfl rfl (by decide +kernel) ⟨(Nat.le_of_ble_eq_true rfl), (Nat.le_of_ble_eq_true rfl)⟩) (pwV hK hZ hN hP hS (va_recv hK hP (ci := 4) (q0 := 0) rfl rfl)) rfl rfl hl.1 rfl (lv_room (Nat.le_of_ble_eq_true rfl)) dX4_readBeams_12 ⟨Nat.zero_le _, Nat.zero_le _⟩) hS (fun locs hS => ?_)
  refine lv_istore (lv' := [(4, .int (rdC g 5 i0)), (3, .int (rdC g 4 i0)), (0, .ref (ad 0)), (1, .int 4), (2, .int i0)]) hx hb dX4_readBeams_15 hl (by decide) rfl (fun ls hl => ?_)
  refine lv_aload_n hx hb dX4_readBeams_17 rfl (lv_at hl 2 rfl) ?_
  refine lv_iload_n hx hb dX4_readBeams_18 rfl (lv_at hl 3 rfl) ?_
  refine lv_iconst (v := 2) hx hb dX4_readBeams_19 (by decide) ?_
  refine lv_iadd hx hb dX4_readBeams_20 ?_
  refine lv_iload_n hx hb dX4_readBeams_21 rfl (lv_at hl 4 rfl) ?_
  refine pcI (va_runV (As := [.int (4 + 2), .int i0]) (rest := []) ⟨hx, hb, hml, hown, hts⟩ (kX4_readingOf l D cI cO tt ad g b d X s.heap (4 + 2) i0 6 (by decide) (by decide) hI) (cwV 2 hts gX4_readBeams_X4_readingOf rfl rfl rfl (by decide +kernel) ⟨(Nat.le_of_ble_eq_true rfl), (Nat.le_of_ble_eq_true rfl)⟩) (pwV hK hZ hN hP hS (va_recv hK hP (ci := 4) (q0 := 0) rfl rfl)) rfl rfl hl.1 rfl (lv_room (Nat.le_of_ble_eq_true rfl)) dX4_readBeams_22 ⟨Nat.zero_le _, Nat.zero_le _⟩) hS (fun locs hS => ?_)
  refine lv_istore (lv' := [(5, .int (rdC g 6 i0)), (4, .int (rdC g 5 i0)), (3, .int (rdC g 4 i0)), (0, .ref (ad 0)), (1, .int 4), (2, .int i0)]) hx hb dX4_readBeams_25 hl (by decide) rfl (fun ls hl => ?_)
  refine lv_aload_n hx hb dX4_readBeams_27 rfl (lv_at hl 3 rfl) ?_
  refine lv_iload_n hx hb dX4_readBeams_28 rfl (lv_at hl 4 rfl) ?_
  refine lv_iconst (v := 3) hx hb dX4_readBeams_29 (by decide) ?_
  refine lv_iadd hx hb dX4_readBeams_30 ?_
  refine lv_iload_n hx hb dX4_readBeams_31 rfl (lv_at hl 5 rfl) ?_
  refine pcI (va_runV (As := [.int (4 + 3), .int i0]) (rest := []) ⟨hx, hb, hml, hown, hts⟩ (kX4_readingOf l D cI cO tt ad g b d X s.heap (4 + 3) i0 7 (by decide) (by decide) hI) (cwV 2 hts gX4_readBeams_X4_readingOf rfl rfl rfl (by decide +kernel) ⟨(Nat.le_of_ble_eq_true rfl), (Nat.le_of_ble_eq_true rfl)⟩) (pwV hK hZ hN hP hS (va_recv hK hP (ci := 4) (q0 := 0) rfl rfl)) rfl rfl hl.1 rfl (lv_room (Nat.le_of_ble_eq_true rfl)) dX4_readBeams_32 ⟨Nat.zero_le _, Nat.zero_le _⟩) hS (fun locs hS => ?_)
  refine lv_istore (lv' := [(6, .int (rdC g 7 i0)), (5, .int (rdC g 6 i0)), (4, .int (rdC g 5 i0)), (3, .int (rdC g 4 i0)), (0, .ref (ad 0)), (1, .int 4), (2, .int i0)]) hx hb dX4_readBeams_35 hl (by decide) rfl (fun ls hl => ?_)
  refine lv_aload_n hx hb dX4_readBeams_37 rfl (lv_at hl 4 rfl) ?_
  refine va_get (D := D) (ci := 4) (v := .ref (ad 3)) (C := RX4) (T := TX4) (N := 14) hx hb hts iX4 hown hK hP 0 rfl rfl 2 (by decide) hw0 (fun _ h9 => h9) rfl dX4_readBeams_38 ?_
  refine lv_iload_n hx hb dX4_readBeams_41 rfl (lv_at hl 3 rfl) ?_
  refine lv_iload hx hb dX4_readBeams_42 (lv_at hl 2 rfl) ?_
  refine lv_iload hx hb dX4_readBeams_44 (lv_at hl 1 rfl) ?_
  refine lv_iload hx hb dX4_readBeams_46 (lv_at hl 0 rfl) ?_
  refine mcV (wf := fun u => LW ad cI cO g u d X) (va_runV (As := [.int (rdC g 4 i0), .int (rdC g 5 i0), .int (rdC g 6 i0), .int (rdC g 7 i0)]) (rest := []) ⟨hx, hb, hml, hown, hts⟩ (kX0_take l D cI cO tt ad g b d X s.heap.size (rdC g 4 i0) (rdC g 5 i0) (rdC g 6 i0) (rdC g 7 i0) ) (cwV 4 hts gX4_readBeams_X0_take rfl rfl rfl (by decide +kernel) ⟨(Nat.le_of_ble_eq_true rfl), (Nat.le_of_ble_eq_true rfl)⟩) (mwV hK hZ hN hP hD hS hA (va_recv hK hP (ci := 0) (q0 := 3) rfl rfl)) rfl rfl hl.1 rfl (lv_room (Nat.le_of_ble_eq_true rfl)) dX4_readBeams_48 ⟨Nat.zero_le _, Nat.zero_le _⟩) hD hS hA (fun uu_1 H locs hu_1 hP hD hS => ?_)
  have hP : va_P D vwCl (LW ad cI cO g uu_1 d X) H := hP
  have hD : va_D A (LW ad cI cO g uu_1 d X) := hD
  exact W.vret hx hb hr (fun t ht hW => ⟨⟨uu_1, rfl, (by exact hu_1), by rw [ht]; exact hP, hD⟩, hS.F ht⟩) hS.2.2 dX4_readBeams_51
set_option maxHeartbeats 4000000 in
set_option maxRecDepth 100000 in
theorem kX4_itemOfCell (l : Launch) (D : va_G) (cI cO : ClassId) (tt : Nat) (ad : Nat → Nat) (g : Nat → Nat → Int32) (b : Nat → Int32) (d : Nat → Nat → Int64) (X : va_W) (H0 : Heap) (p0 : Int32) (c0 : Int32)  : MpI l yX4_itemOfCell wsX4_itemOfCell ({ frames := 0, cells := 0, slots := 0, locals := 0 }) D cI cO tt (LW ad cI cO g b d X) H0 [.ref (ad 0), .int p0, .int c0] (itC g p0 c0) := by
  refine Met.ofW (cc := cX4_itemOfCell) (maxL := 3) (ret := (some .int)) (by decide) rfl ?_
  intro p e s m args below meth c s₁ B hml hv
  obtain ⟨rfl, rfl, hP, hK, hZ, hN⟩ := hv
  have hx := B.exec
  have hb := B.bytes
  have hr := B.returns
  have hts := atoms_spec (ws := wsX4_itemOfCell) B.pre
  have hown : s.vm.findClass RX4 = some m.cls := findClass_of_methodNamed B.named
  have hlocks := B.notSynchronized
  have hS : va_S (fun _ => False) s.heap s.heap [] := va_S.rf
  have hl := lv_entry ([.ref (ad 0), .int p0, .int c0]) (n := 3) (Nat.le_of_ble_eq_true rfl)
  rw [lg_entry_eq]
  generalize (lg_sl ([.ref (ad 0), .int p0, .int c0]) ++ List.replicate (3 - (lg_sl ([.ref (ad 0), .int p0, .int c0])).length) Slot.unset).toArray = ls at hl ⊢
  have hl : lv_has ls 3 [(0, .ref (ad 0)), (1, .int p0), (2, .int c0)] := hl
  have hw0 := hts (.fieldLink RX4 45 "LayerSounder" "layers" "I") (List.mem_cons_of_mem _ (List.mem_append_left _ (List.mem_of_getElem? (i := 0) rfl)))
  have iX4 : ∀ w ∈ wsX40, w ∈ wsX4_itemOfCell := fun _ h => List.mem_cons_of_mem _ (List.mem_append_right _ h)
  refine lv_aload_n hx hb dX4_itemOfCell_0 rfl (lv_at hl 0 rfl) ?_
  refine va_get (D := D) (ci := 4) (v := .int (g 100 0)) (C := RX4) (T := TX4) (N := 14) hx hb hts iX4 hown hK hP 0 rfl rfl 7 (by decide) hw0 (fun _ h9 => h9) rfl dX4_itemOfCell_1 ?_
  refine lv_iload_n hx hb dX4_itemOfCell_4 rfl (lv_at hl 1 rfl) ?_
  refine lv_imul hx hb dX4_itemOfCell_5 ?_
  refine lv_iload_n hx hb dX4_itemOfCell_6 rfl (lv_at hl 2 rfl) ?_
  refine lv_iadd hx hb dX4_itemOfCell_7 ?_
  exact W.iret (v := ((g 100 0) * p0) + c0) hx hb hr (fun t ht hW => ⟨⟨((g 100 0) * p0) + c0, (), rfl, (by rfl), ht⟩, hS.F ht⟩) hS.2.2 dX4_itemOfCell_8
set_option maxHeartbeats 4000000 in
set_option maxRecDepth 100000 in
theorem kX4_findOwn (l : Launch) (D : va_G) (cI cO : ClassId) (tt : Nat) (ad : Nat → Nat) (g : Nat → Nat → Int32) (b : Nat → Int32) (d : Nat → Nat → Int64) (X : va_W) (sz : Nat) (p0 : Int32) (hI : WI g) : MmI l yX4_findOwn wsX4_findOwn ({ frames := 3, cells := 0, slots := 0, locals := 75 }) D cI cO tt (LW ad cI cO g b d X) sz [.ref (ad 0), .int p0] (S := (Nat → Int32) × (Nat → Nat → Int64)) (fun u => LW ad cI cO g u.1 u.2 X) (fun r0 u => foP g p0 d r0 u.2) := by
  refine Met.ofW (cc := cX4_findOwn) (maxL := 2) (ret := (some .boolean)) (by decide) rfl ?_
  intro p e s m args below meth c s₁ B hml hv
  obtain ⟨rfl, hsz, hP, hK, hD0, hZ, hN⟩ := hv
  have hx := B.exec
  have hb := B.bytes
  have hr := B.returns
  have hts := atoms_spec (ws := wsX4_findOwn) B.pre
  have hown : s.vm.findClass RX4 = some m.cls := findClass_of_methodNamed B.named
  have hlocks := B.notSynchronized
  subst hsz
  have hD := hD0.self (sz := s.heap.size)
  generalize hAe : va_A (LW ad cI cO g b d X) s.heap.size = A at hD hZ ⊢
  have hA : ∀ q : Nat, s.heap.size ≤ q → A q := fun q h => by rw [← hAe]; exact Or.inr h
  have hS : va_S A s.heap s.heap [] := va_S.rf
  have hl := lv_entry ([.ref (ad 0), .int p0]) (n := 2) (Nat.le_of_ble_eq_true rfl)
  rw [lg_entry_eq]
  generalize (lg_sl ([.ref (ad 0), .int p0]) ++ List.replicate (2 - (lg_sl ([.ref (ad 0), .int p0])).length) Slot.unset).toArray = ls at hl ⊢
  have hl : lv_has ls 2 [(0, .ref (ad 0)), (1, .int p0)] := hl
  have hw0 := hts (.fieldLink RX4 32 "LayerSounder" "ownDrift" "LLayerSounder$Drift;") (List.mem_cons_of_mem _ (List.mem_append_left _ (List.mem_append_left _ (List.mem_append_left _ (List.mem_append_left _ (List.mem_append_left _ (List.mem_append_left _ (List.mem_of_getElem? (l := wsX4_findOwn_r1) (i := 0) rfl))))))))
  have iX4 : ∀ w ∈ wsX40, w ∈ wsX4_findOwn := fun _ h => List.mem_cons_of_mem _ (List.mem_append_left _ (List.mem_append_left _ (List.mem_append_left _ (List.mem_append_left _ (List.mem_append_right _ h)))))
  have hw2 := hts (.fieldLink RX4 49 "LayerSounder" "howOwn" "I") (List.mem_cons_of_mem _ (List.mem_append_left _ (List.mem_append_left _ (List.mem_append_left _ (List.mem_append_left _ (List.mem_append_left _ (List.mem_append_left _ (List.mem_of_getElem? (l := wsX4_findOwn_r1) (i := 1) rfl))))))))
  have hw3 := hts (.fieldLink RX4 18 "LayerSounder" "track" "LLayerSounder$Track;") (List.mem_cons_of_mem _ (List.mem_append_left _ (List.mem_append_left _ (List.mem_append_left _ (List.mem_append_left _ (List.mem_append_left _ (List.mem_append_left _ (List.mem_of_getElem? (l := wsX4_findOwn_r1) (i := 3) rfl))))))))
  have hw4 := hts (.constantLong RX4 293 (4225)) (List.mem_cons_of_mem _ (List.mem_append_left _ (List.mem_append_left _ (List.mem_append_left _ (List.mem_append_left _ (List.mem_append_left _ (List.mem_append_left _ (List.mem_of_getElem? (l := wsX4_findOwn_r1) (i := 4) rfl))))))))
  have hw5 := hts (.fieldLink RX4 25 "LayerSounder" "beams" "LLayerSounder$Beams;") (List.mem_cons_of_mem _ (List.mem_append_left _ (List.mem_append_left _ (List.mem_append_left _ (List.mem_append_left _ (List.mem_append_left _ (List.mem_append_left _ (List.mem_of_getElem? (l := wsX4_findOwn_r1) (i := 2) rfl))))))))
  have iX0 : ∀ w ∈ wsX00, w ∈ wsX4_findOwn := fun _ h => List.mem_cons_of_mem _ (List.mem_append_left _ (List.mem_append_left _ (List.mem_append_left _ (List.mem_append_right _ h))))
  refine lv_aload_n hx hb dX4_findOwn_0 rfl (lv_at hl 0 rfl) ?_
  refine va_get (D := D) (ci := 4) (v := .ref (ad 4)) (C := RX4) (T := TX4) (N := 14) hx hb hts iX4 hown hK hP 0 rfl rfl 3 (by decide) hw0 (fun _ h9 => h9) rfl dX4_findOwn_1 ?_
  refine mcV (wf := fun u => LW ad cI cO g b u X) (va_runV (As := []) (rest := []) ⟨hx, hb, hml, hown, hts⟩ (kX1_rest l D cI cO tt ad g b d X s.heap.size 0 (by decide)) (cwV 0 hts gX4_findOwn_X1_rest rfl rfl rfl (by decide +kernel) ⟨(Nat.le_of_ble_eq_true rfl), (Nat.le_of_ble_eq_true rfl)⟩) (mwV hK hZ hN hP hD hS hA (va_recv hK hP (ci := 1) (q0 := 4) rfl rfl)) rfl rfl hl.1 rfl (lv_room (Nat.le_of_ble_eq_true rfl)) dX4_findOwn_4 ⟨Nat.zero_le _, Nat.zero_le _⟩) hD hS hA (fun uu_1 H locs hu_1 hP hD hS => ?_)
  have hP : va_P D vwCl (LW ad cI cO g b uu_1 X) H := hP
  have hD : va_D A (LW ad cI cO g b uu_1 X) := hD
  refine lv_aload_n hx hb dX4_findOwn_7 rfl (lv_at hl 0 rfl) ?_
  refine va_get (D := D) (ci := 4) (v := .int (g 100 1)) (C := RX4) (T := TX4) (N := 14) hx hb hts iX4 hown hK hP 0 rfl rfl 8 (by decide) hw2 (fun _ h9 => h9) rfl dX4_findOwn_8 ?_
  refine lv_iconst (v := 1) hx hb dX4_findOwn_11 (by decide) ?_
  refine lv_icmp_ne (tgt := 62) hx hb dX4_findOwn_12 (by decide) (fun c_2 => ?_) (fun c_2 => ?_)
  · refine lv_aload_n hx hb dX4_findOwn_62 rfl (lv_at hl 0 rfl) ?_
    refine va_get (D := D) (ci := 4) (v := .int (g 100 1)) (C := RX4) (T := TX4) (N := 14) hx hb hts iX4 hown hK hP 0 rfl rfl 8 (by decide) hw2 (fun _ h9 => h9) rfl dX4_findOwn_63 ?_
    refine lv_iconst (v := 2) hx hb dX4_findOwn_66 (by decide) ?_
    refine lv_icmp_ne (tgt := 116) hx hb dX4_findOwn_67 (by decide) (fun c_3 => ?_) (fun c_3 => ?_)
    · refine lv_iconst (v := 1) hx hb dX4_findOwn_116 (by decide) ?_
      exact W.zret (v := 1) hx hb hr rfl (fun t ht hW => ⟨⟨1, (b, uu_1), rfl, (by exact fo_A c_2 c_3 hu_1), by rw [ht]; exact hP, hD⟩, hS.F ht⟩) hS.2.2 dX4_findOwn_117
    · refine lv_aload_n hx hb dX4_findOwn_70 rfl (lv_at hl 0 rfl) ?_
      refine va_get (D := D) (ci := 4) (v := .ref (ad 2)) (C := RX4) (T := TX4) (N := 14) hx hb hts iX4 hown hK hP 0 rfl rfl 1 (by decide) hw3 (fun _ h9 => h9) rfl dX4_findOwn_71 ?_
      refine lv_iload_n hx hb dX4_findOwn_74 rfl (lv_at hl 1 rfl) ?_
      refine lv_iconst (v := 1) hx hb dX4_findOwn_75 (by decide) ?_
      refine lv_iadd hx hb dX4_findOwn_76 ?_
      refine pcI (va_runV (As := [.int (p0 + 1)]) (rest := []) ⟨hx, hb, hml, hown, hts⟩ (kX3_isPing l D cI cO tt ad g b uu_1 X H (p0 + 1) ) (cwV 1 hts gX4_findOwn_X3_isPing rfl rfl rfl (by decide +kernel) ⟨(Nat.le_of_ble_eq_true rfl), (Nat.le_of_ble_eq_true rfl)⟩) (pwV hK hZ hN hP hS (va_recv hK hP (ci := 3) (q0 := 2) rfl rfl)) rfl rfl hl.1 rfl (lv_room (Nat.le_of_ble_eq_true rfl)) dX4_findOwn_77 ⟨Nat.zero_le _, Nat.zero_le _⟩) hS (fun locs hS => ?_)
      refine lv_if_ne (tgt := 85) hx hb dX4_findOwn_80 (by decide) (fun c_4 => ?_) (fun c_4 => ?_)
      · have c_4 := bI_n0.mp c_4
        refine lv_aload_n hx hb dX4_findOwn_85 rfl (lv_at hl 0 rfl) ?_
        refine va_get (D := D) (ci := 4) (v := .ref (ad 4)) (C := RX4) (T := TX4) (N := 14) hx hb hts iX4 hown hK hP 0 rfl rfl 3 (by decide) hw0 (fun _ h9 => h9) rfl dX4_findOwn_86 ?_
        refine lv_ldc2 hx hb hown hw4 dX4_findOwn_89 ?_
        refine lv_aload_n hx hb dX4_findOwn_92 rfl (lv_at hl 0 rfl) ?_
        refine va_get (D := D) (ci := 4) (v := .ref (ad 2)) (C := RX4) (T := TX4) (N := 14) hx hb hts iX4 hown hK hP 0 rfl rfl 1 (by decide) hw3 (fun _ h9 => h9) rfl dX4_findOwn_93 ?_
        refine lv_iload_n hx hb dX4_findOwn_96 rfl (lv_at hl 1 rfl) ?_
        refine pcL (va_runV (As := [.int p0]) (rest := [.long 4225, .ref (ad 4)]) ⟨hx, hb, hml, hown, hts⟩ (kX3_stepX l D cI cO tt ad g b uu_1 X H p0 hI) (cwV 1 hts gX4_findOwn_X3_stepX rfl rfl rfl (by decide +kernel) ⟨(Nat.le_of_ble_eq_true rfl), (Nat.le_of_ble_eq_true rfl)⟩) (pwV hK hZ hN hP hS (va_recv hK hP (ci := 3) (q0 := 2) rfl rfl)) rfl rfl hl.1 rfl (lv_room (Nat.le_of_ble_eq_true rfl)) dX4_findOwn_97 ⟨Nat.zero_le _, Nat.zero_le _⟩) hS (fun locs hS => ?_)
        refine lv_lmul hx hb dX4_findOwn_100 ?_
        refine lv_ldc2 hx hb hown hw4 dX4_findOwn_101 ?_
        refine lv_aload_n hx hb dX4_findOwn_104 rfl (lv_at hl 0 rfl) ?_
        refine va_get (D := D) (ci := 4) (v := .ref (ad 2)) (C := RX4) (T := TX4) (N := 14) hx hb hts iX4 hown hK hP 0 rfl rfl 1 (by decide) hw3 (fun _ h9 => h9) rfl dX4_findOwn_105 ?_
        refine lv_iload_n hx hb dX4_findOwn_108 rfl (lv_at hl 1 rfl) ?_
        refine pcL (va_runV (As := [.int p0]) (rest := [.long 4225, .long (4225 * ((rw_ g 1 (p0 + 1) - rw_ g 1 p0).toInt64)), .ref (ad 4)]) ⟨hx, hb, hml, hown, hts⟩ (kX3_stepY l D cI cO tt ad g b uu_1 X H p0 hI) (cwV 1 hts gX4_findOwn_X3_stepY rfl rfl rfl (by decide +kernel) ⟨(Nat.le_of_ble_eq_true rfl), (Nat.le_of_ble_eq_true rfl)⟩) (pwV hK hZ hN hP hS (va_recv hK hP (ci := 3) (q0 := 2) rfl rfl)) rfl rfl hl.1 rfl (lv_room (Nat.le_of_ble_eq_true rfl)) dX4_findOwn_109 ⟨Nat.zero_le _, Nat.zero_le _⟩) hS (fun locs hS => ?_)
        refine lv_lmul hx hb dX4_findOwn_112 ?_
        refine mcV (wf := fun u => LW ad cI cO g b u X) (va_runV (As := [.long (4225 * ((rw_ g 1 (p0 + 1) - rw_ g 1 p0).toInt64)), .long (4225 * ((rw_ g 2 (p0 + 1) - rw_ g 2 p0).toInt64))]) (rest := []) ⟨hx, hb, hml, hown, hts⟩ (kX1_hold l D cI cO tt ad g b uu_1 X H.size 0 (4225 * ((rw_ g 1 (p0 + 1) - rw_ g 1 p0).toInt64)) (4225 * ((rw_ g 2 (p0 + 1) - rw_ g 2 p0).toInt64)) (by decide)) (cwV 2 hts gX4_findOwn_X1_hold rfl rfl rfl (by decide +kernel) ⟨(Nat.le_of_ble_eq_true rfl), (Nat.le_of_ble_eq_true rfl)⟩) (mwV hK hZ hN hP hD hS hA (va_recv hK hP (ci := 1) (q0 := 4) rfl rfl)) rfl rfl hl.1 rfl (lv_room (Nat.le_of_ble_eq_true rfl)) dX4_findOwn_113 ⟨Nat.zero_le _, Nat.zero_le _⟩) hD hS hA (fun uu_5 H locs hu_5 hP hD hS => ?_)
        have hP : va_P D vwCl (LW ad cI cO g b uu_5 X) H := hP
        have hD : va_D A (LW ad cI cO g b uu_5 X) := hD
        refine lv_iconst (v := 1) hx hb dX4_findOwn_116 (by decide) ?_
        exact W.zret (v := 1) hx hb hr rfl (fun t ht hW => ⟨⟨1, (b, uu_5), rfl, (by exact fo_E c_3 c_4 hu_1 hu_5), by rw [ht]; exact hP, hD⟩, hS.F ht⟩) hS.2.2 dX4_findOwn_117
      · have c_4 := bI_0.mp c_4
        refine lv_iconst (v := 0) hx hb dX4_findOwn_83 (by decide) ?_
        exact W.zret (v := 0) hx hb hr rfl (fun t ht hW => ⟨⟨0, (b, uu_1), rfl, (by exact fo_D c_3 c_4 hu_1), by rw [ht]; exact hP, hD⟩, hS.F ht⟩) hS.2.2 dX4_findOwn_84
  · refine lv_aload_n hx hb dX4_findOwn_15 rfl (lv_at hl 0 rfl) ?_
    refine lv_iconst (v := 4) hx hb dX4_findOwn_16 (by decide) ?_
    refine lv_iload_n hx hb dX4_findOwn_17 rfl (lv_at hl 1 rfl) ?_
    refine mcV (wf := fun u => LW ad cI cO g u uu_1 X) (va_runV (As := [.int 4, .int p0]) (rest := []) ⟨hx, hb, hml, hown, hts⟩ (kX4_readBeams4 l D cI cO tt ad g b uu_1 X H.size p0 hI) (cwV 2 hts gX4_findOwn_X4_readBeams rfl rfl rfl (by decide +kernel) ⟨(Nat.le_of_ble_eq_true rfl), (Nat.le_of_ble_eq_true rfl)⟩) (mwV hK hZ hN hP hD hS hA (va_recv hK hP (ci := 4) (q0 := 0) rfl rfl)) rfl rfl hl.1 rfl (lv_room (Nat.le_of_ble_eq_true rfl)) dX4_findOwn_18 ⟨Nat.zero_le _, Nat.zero_le _⟩) hD hS hA (fun uu_6 H locs hu_6 hP hD hS => ?_)
    have hP : va_P D vwCl (LW ad cI cO g uu_6 uu_1 X) H := hP
    have hD : va_D A (LW ad cI cO g uu_6 uu_1 X) := hD
    refine lv_aload_n hx hb dX4_findOwn_21 rfl (lv_at hl 0 rfl) ?_
    refine va_get (D := D) (ci := 4) (v := .ref (ad 3)) (C := RX4) (T := TX4) (N := 14) hx hb hts iX4 hown hK hP 0 rfl rfl 2 (by decide) hw5 (fun _ h9 => h9) rfl dX4_findOwn_22 ?_
    refine va_getN (D := D) (ci := 0) (v := .int (uu_6 0)) (C := RX0) (T := TX0) (N := 5) hx hb hts iX0 hown hK hP 3 rfl rfl 0 (by decide) (va_Nw.use rfl (hN.1 (175, RX0, "answered", "Z") (List.mem_of_getElem? (i := 3) rfl))) (fun _ h9 => h9) rfl dX4_findOwn_25 ?_
    refine lv_if_ne (tgt := 33) hx hb dX4_findOwn_28 (by decide) (fun c_7 => ?_) (fun c_7 => ?_)
    · refine lv_aload_n hx hb dX4_findOwn_33 rfl (lv_at hl 0 rfl) ?_
      refine va_get (D := D) (ci := 4) (v := .ref (ad 4)) (C := RX4) (T := TX4) (N := 14) hx hb hts iX4 hown hK hP 0 rfl rfl 3 (by decide) hw0 (fun _ h9 => h9) rfl dX4_findOwn_34 ?_
      refine lv_aload_n hx hb dX4_findOwn_37 rfl (lv_at hl 0 rfl) ?_
      refine va_get (D := D) (ci := 4) (v := .ref (ad 3)) (C := RX4) (T := TX4) (N := 14) hx hb hts iX4 hown hK hP 0 rfl rfl 2 (by decide) hw5 (fun _ h9 => h9) rfl dX4_findOwn_38 ?_
      refine va_getN (D := D) (ci := 0) (v := .int (uu_6 2)) (C := RX0) (T := TX0) (N := 5) hx hb hts iX0 hown hK hP 3 rfl rfl 2 (by decide) (va_Nw.use rfl (hN.1 (178, RX0, "along", "I") (List.mem_of_getElem? (i := 4) rfl))) (fun _ h9 => h9) rfl dX4_findOwn_41 ?_
      refine lv_aload_n hx hb dX4_findOwn_44 rfl (lv_at hl 0 rfl) ?_
      refine va_get (D := D) (ci := 4) (v := .ref (ad 3)) (C := RX4) (T := TX4) (N := 14) hx hb hts iX4 hown hK hP 0 rfl rfl 2 (by decide) hw5 (fun _ h9 => h9) rfl dX4_findOwn_45 ?_
      refine va_getN (D := D) (ci := 0) (v := .int (uu_6 3)) (C := RX0) (T := TX0) (N := 5) hx hb hts iX0 hown hK hP 3 rfl rfl 3 (by decide) (va_Nw.use rfl (hN.1 (181, RX0, "across", "I") (List.mem_of_getElem? (i := 5) rfl))) (fun _ h9 => h9) rfl dX4_findOwn_48 ?_
      refine lv_aload_n hx hb dX4_findOwn_51 rfl (lv_at hl 0 rfl) ?_
      refine va_get (D := D) (ci := 4) (v := .ref (ad 2)) (C := RX4) (T := TX4) (N := 14) hx hb hts iX4 hown hK hP 0 rfl rfl 1 (by decide) hw3 (fun _ h9 => h9) rfl dX4_findOwn_52 ?_
      refine lv_iload_n hx hb dX4_findOwn_55 rfl (lv_at hl 1 rfl) ?_
      refine pcI (va_runV (As := [.int p0]) (rest := [.int (uu_6 3), .int (uu_6 2), .ref (ad 4)]) ⟨hx, hb, hml, hown, hts⟩ (kX3_headingOf l D cI cO tt ad g uu_6 uu_1 X H p0 hI) (cwV 1 hts gX4_findOwn_X3_headingOf rfl rfl rfl (by decide +kernel) ⟨(Nat.le_of_ble_eq_true rfl), (Nat.le_of_ble_eq_true rfl)⟩) (pwV hK hZ hN hP hS (va_recv hK hP (ci := 3) (q0 := 2) rfl rfl)) rfl rfl hl.1 rfl (lv_room (Nat.le_of_ble_eq_true rfl)) dX4_findOwn_56 ⟨Nat.zero_le _, Nat.zero_le _⟩) hS (fun locs hS => ?_)
      refine mcV (wf := fun u => LW ad cI cO g uu_6 u X) (va_runV (As := [.int (uu_6 2), .int (uu_6 3), .int (rw_ g 0 p0)]) (rest := []) ⟨hx, hb, hml, hown, hts⟩ (kX1_swing l D cI cO tt ad g uu_6 uu_1 X H.size 0 (uu_6 2) (uu_6 3) (rw_ g 0 p0) (by decide)) (cwV 3 hts gX4_findOwn_X1_swing rfl rfl rfl (by decide +kernel) ⟨(Nat.le_of_ble_eq_true rfl), (Nat.le_of_ble_eq_true rfl)⟩) (mwV hK hZ hN hP hD hS hA (va_recv hK hP (ci := 1) (q0 := 4) rfl rfl)) rfl rfl hl.1 rfl (lv_room (Nat.le_of_ble_eq_true rfl)) dX4_findOwn_59 ⟨Nat.zero_le _, Nat.zero_le _⟩) hD hS hA (fun uu_8 H locs hu_8 hP hD hS => ?_)
      have hP : va_P D vwCl (LW ad cI cO g uu_6 uu_8 X) H := hP
      have hD : va_D A (LW ad cI cO g uu_6 uu_8 X) := hD
      refine lv_aload_n hx hb dX4_findOwn_62 rfl (lv_at hl 0 rfl) ?_
      refine va_get (D := D) (ci := 4) (v := .int (g 100 1)) (C := RX4) (T := TX4) (N := 14) hx hb hts iX4 hown hK hP 0 rfl rfl 8 (by decide) hw2 (fun _ h9 => h9) rfl dX4_findOwn_63 ?_
      refine lv_iconst (v := 2) hx hb dX4_findOwn_66 (by decide) ?_
      refine lv_icmp_ne (tgt := 116) hx hb dX4_findOwn_67 (by decide) (fun c_9 => ?_) (fun c_9 => ?_)
      · refine lv_iconst (v := 1) hx hb dX4_findOwn_116 (by decide) ?_
        exact W.zret (v := 1) hx hb hr rfl (fun t ht hW => ⟨⟨1, (uu_6, uu_8), rfl, (by exact fo_C c_2 hu_6 c_7 hu_1 hu_8), by rw [ht]; exact hP, hD⟩, hS.F ht⟩) hS.2.2 dX4_findOwn_117
      · exact absurd (c_2.symm.trans c_9) (by decide)
    · refine lv_iconst (v := 0) hx hb dX4_findOwn_31 (by decide) ?_
      exact W.zret (v := 0) hx hb hr rfl (fun t ht hW => ⟨⟨0, (uu_6, uu_1), rfl, (by exact fo_B c_2 hu_6 c_7 hu_1), by rw [ht]; exact hP, hD⟩, hS.F ht⟩) hS.2.2 dX4_findOwn_32
set_option maxHeartbeats 4000000 in
set_option maxRecDepth 100000 in
theorem kX4_findPace (l : Launch) (D : va_G) (cI cO : ClassId) (tt : Nat) (ad : Nat → Nat) (g : Nat → Nat → Int32) (b : Nat → Int32) (d : Nat → Nat → Int64) (X : va_W) (sz : Nat) (p0 : Int32) (hI : WI g) : MmV l yX4_findPace wsX4_findPace ({ frames := 3, cells := 0, slots := 0, locals := 67 }) D cI cO tt (LW ad cI cO g b d X) sz [.ref (ad 0), .int p0] (S := Nat → Nat → Int64) (fun u => LW ad cI cO g b u X) (fun u => dP d 1 (xT (b 2).toInt64 (b 3).toInt64 (rw_ g 0 p0) - d 0 0) (yT (b 2).toInt64 (b 3).toInt64 (rw_ g 0 p0) - d 0 1) (0 - d 0 2) (0 - d 0 3) u) := by
  refine Met.ofW (cc := cX4_findPace) (maxL := 2) (ret := none) (by decide) rfl ?_
  intro p e s m args below meth c s₁ B hml hv
  obtain ⟨rfl, hsz, hP, hK, hD0, hZ, hN⟩ := hv
  have hx := B.exec
  have hb := B.bytes
  have hr := B.returns
  have hts := atoms_spec (ws := wsX4_findPace) B.pre
  have hown : s.vm.findClass RX4 = some m.cls := findClass_of_methodNamed B.named
  have hlocks := B.notSynchronized
  subst hsz
  have hD := hD0.self (sz := s.heap.size)
  generalize hAe : va_A (LW ad cI cO g b d X) s.heap.size = A at hD hZ ⊢
  have hA : ∀ q : Nat, s.heap.size ≤ q → A q := fun q h => by rw [← hAe]; exact Or.inr h
  have hS : va_S A s.heap s.heap [] := va_S.rf
  have hl := lv_entry ([.ref (ad 0), .int p0]) (n := 2) (Nat.le_of_ble_eq_true rfl)
  rw [lg_entry_eq]
  generalize (lg_sl ([.ref (ad 0), .int p0]) ++ List.replicate (2 - (lg_sl ([.ref (ad 0), .int p0])).length) Slot.unset).toArray = ls at hl ⊢
  have hl : lv_has ls 2 [(0, .ref (ad 0)), (1, .int p0)] := hl
  have hw0 := hts (.fieldLink RX4 36 "LayerSounder" "paceDrift" "LLayerSounder$Drift;") (List.mem_cons_of_mem _ (List.mem_append_left _ (List.mem_append_left _ (List.mem_append_left _ (List.mem_append_left _ (List.mem_append_left _ (List.mem_of_getElem? (l := wsX4_findPace_r1) (i := 0) rfl)))))))
  have iX4 : ∀ w ∈ wsX40, w ∈ wsX4_findPace := fun _ h => List.mem_cons_of_mem _ (List.mem_append_left _ (List.mem_append_left _ (List.mem_append_left _ (List.mem_append_right _ h))))
  have hw2 := hts (.fieldLink RX4 25 "LayerSounder" "beams" "LLayerSounder$Beams;") (List.mem_cons_of_mem _ (List.mem_append_left _ (List.mem_append_left _ (List.mem_append_left _ (List.mem_append_left _ (List.mem_append_left _ (List.mem_of_getElem? (l := wsX4_findPace_r1) (i := 1) rfl)))))))
  have iX0 : ∀ w ∈ wsX00, w ∈ wsX4_findPace := fun _ h => List.mem_cons_of_mem _ (List.mem_append_left _ (List.mem_append_left _ (List.mem_append_right _ h)))
  have hw4 := hts (.fieldLink RX4 18 "LayerSounder" "track" "LLayerSounder$Track;") (List.mem_cons_of_mem _ (List.mem_append_left _ (List.mem_append_left _ (List.mem_append_left _ (List.mem_append_left _ (List.mem_append_left _ (List.mem_of_getElem? (l := wsX4_findPace_r1) (i := 2) rfl)))))))
  have hw5 := hts (.fieldLink RX4 32 "LayerSounder" "ownDrift" "LLayerSounder$Drift;") (List.mem_cons_of_mem _ (List.mem_append_left _ (List.mem_append_left _ (List.mem_append_left _ (List.mem_append_left _ (List.mem_append_left _ (List.mem_of_getElem? (l := wsX4_findPace_r1) (i := 3) rfl)))))))
  refine lv_aload_n hx hb dX4_findPace_0 rfl (lv_at hl 0 rfl) ?_
  refine va_get (D := D) (ci := 4) (v := .ref (ad 5)) (C := RX4) (T := TX4) (N := 14) hx hb hts iX4 hown hK hP 0 rfl rfl 4 (by decide) hw0 (fun _ h9 => h9) rfl dX4_findPace_1 ?_
  refine mcV (wf := fun u => LW ad cI cO g b u X) (va_runV (As := []) (rest := []) ⟨hx, hb, hml, hown, hts⟩ (kX1_rest l D cI cO tt ad g b d X s.heap.size 1 (by decide)) (cwV 0 hts gX4_findPace_X1_rest rfl rfl rfl (by decide +kernel) ⟨(Nat.le_of_ble_eq_true rfl), (Nat.le_of_ble_eq_true rfl)⟩) (mwV hK hZ hN hP hD hS hA (va_recv hK hP (ci := 1) (q0 := 5) rfl rfl)) rfl rfl hl.1 rfl (lv_room (Nat.le_of_ble_eq_true rfl)) dX4_findPace_4 ⟨Nat.zero_le _, Nat.zero_le _⟩) hD hS hA (fun uu_1 H locs hu_1 hP hD hS => ?_)
  have hP : va_P D vwCl (LW ad cI cO g b uu_1 X) H := hP
  have hD : va_D A (LW ad cI cO g b uu_1 X) := hD
  refine lv_aload_n hx hb dX4_findPace_7 rfl (lv_at hl 0 rfl) ?_
  refine va_get (D := D) (ci := 4) (v := .ref (ad 5)) (C := RX4) (T := TX4) (N := 14) hx hb hts iX4 hown hK hP 0 rfl rfl 4 (by decide) hw0 (fun _ h9 => h9) rfl dX4_findPace_8 ?_
  refine lv_aload_n hx hb dX4_findPace_11 rfl (lv_at hl 0 rfl) ?_
  refine va_get (D := D) (ci := 4) (v := .ref (ad 3)) (C := RX4) (T := TX4) (N := 14) hx hb hts iX4 hown hK hP 0 rfl rfl 2 (by decide) hw2 (fun _ h9 => h9) rfl dX4_findPace_12 ?_
  refine va_getN (D := D) (ci := 0) (v := .int (b 2)) (C := RX0) (T := TX0) (N := 5) hx hb hts iX0 hown hK hP 3 rfl rfl 2 (by decide) (va_Nw.use rfl (hN.1 (178, RX0, "along", "I") (List.mem_of_getElem? (i := 4) rfl))) (fun _ h9 => h9) rfl dX4_findPace_15 ?_
  refine lv_aload_n hx hb dX4_findPace_18 rfl (lv_at hl 0 rfl) ?_
  refine va_get (D := D) (ci := 4) (v := .ref (ad 3)) (C := RX4) (T := TX4) (N := 14) hx hb hts iX4 hown hK hP 0 rfl rfl 2 (by decide) hw2 (fun _ h9 => h9) rfl dX4_findPace_19 ?_
  refine va_getN (D := D) (ci := 0) (v := .int (b 3)) (C := RX0) (T := TX0) (N := 5) hx hb hts iX0 hown hK hP 3 rfl rfl 3 (by decide) (va_Nw.use rfl (hN.1 (181, RX0, "across", "I") (List.mem_of_getElem? (i := 5) rfl))) (fun _ h9 => h9) rfl dX4_findPace_22 ?_
  refine lv_aload_n hx hb dX4_findPace_25 rfl (lv_at hl 0 rfl) ?_
  refine va_get (D := D) (ci := 4) (v := .ref (ad 2)) (C := RX4) (T := TX4) (N := 14) hx hb hts iX4 hown hK hP 0 rfl rfl 1 (by decide) hw4 (fun _ h9 => h9) rfl dX4_findPace_26 ?_
  refine lv_iload_n hx hb dX4_findPace_29 rfl (lv_at hl 1 rfl) ?_
  refine pcI (va_runV (As := [.int p0]) (rest := [.int (b 3), .int (b 2), .ref (ad 5)]) ⟨hx, hb, hml, hown, hts⟩ (kX3_headingOf l D cI cO tt ad g b uu_1 X H p0 hI) (cwV 1 hts gX4_findPace_X3_headingOf rfl rfl rfl (by decide +kernel) ⟨(Nat.le_of_ble_eq_true rfl), (Nat.le_of_ble_eq_true rfl)⟩) (pwV hK hZ hN hP hS (va_recv hK hP (ci := 3) (q0 := 2) rfl rfl)) rfl rfl hl.1 rfl (lv_room (Nat.le_of_ble_eq_true rfl)) dX4_findPace_30 ⟨Nat.zero_le _, Nat.zero_le _⟩) hS (fun locs hS => ?_)
  refine mcV (wf := fun u => LW ad cI cO g b u X) (va_runV (As := [.int (b 2), .int (b 3), .int (rw_ g 0 p0)]) (rest := []) ⟨hx, hb, hml, hown, hts⟩ (kX1_swing l D cI cO tt ad g b uu_1 X H.size 1 (b 2) (b 3) (rw_ g 0 p0) (by decide)) (cwV 3 hts gX4_findPace_X1_swing rfl rfl rfl (by decide +kernel) ⟨(Nat.le_of_ble_eq_true rfl), (Nat.le_of_ble_eq_true rfl)⟩) (mwV hK hZ hN hP hD hS hA (va_recv hK hP (ci := 1) (q0 := 5) rfl rfl)) rfl rfl hl.1 rfl (lv_room (Nat.le_of_ble_eq_true rfl)) dX4_findPace_33 ⟨Nat.zero_le _, Nat.zero_le _⟩) hD hS hA (fun uu_2 H locs hu_2 hP hD hS => ?_)
  have hP : va_P D vwCl (LW ad cI cO g b uu_2 X) H := hP
  have hD : va_D A (LW ad cI cO g b uu_2 X) := hD
  refine lv_aload_n hx hb dX4_findPace_36 rfl (lv_at hl 0 rfl) ?_
  refine va_get (D := D) (ci := 4) (v := .ref (ad 5)) (C := RX4) (T := TX4) (N := 14) hx hb hts iX4 hown hK hP 0 rfl rfl 4 (by decide) hw0 (fun _ h9 => h9) rfl dX4_findPace_37 ?_
  refine lv_aload_n hx hb dX4_findPace_40 rfl (lv_at hl 0 rfl) ?_
  refine va_get (D := D) (ci := 4) (v := .ref (ad 4)) (C := RX4) (T := TX4) (N := 14) hx hb hts iX4 hown hK hP 0 rfl rfl 3 (by decide) hw5 (fun _ h9 => h9) rfl dX4_findPace_41 ?_
  refine mcV (wf := fun u => LW ad cI cO g b u X) (va_runV (As := [.ref (ad 4)]) (rest := []) ⟨hx, hb, hml, hown, hts⟩ (kX1_subtract l D cI cO tt ad g b uu_2 X H.size 1 0 (by decide) (by decide) (by decide)) (cwV 1 hts gX4_findPace_X1_subtract rfl rfl rfl (by decide +kernel) ⟨(Nat.le_of_ble_eq_true rfl), (Nat.le_of_ble_eq_true rfl)⟩) (mwV hK hZ hN hP hD hS hA (va_recv hK hP (ci := 1) (q0 := 5) rfl rfl)) rfl rfl hl.1 rfl (lv_room (Nat.le_of_ble_eq_true rfl)) dX4_findPace_44 ⟨Nat.zero_le _, Nat.zero_le _⟩) hD hS hA (fun uu_3 H locs hu_3 hP hD hS => ?_)
  have hP : va_P D vwCl (LW ad cI cO g b uu_3 X) H := hP
  have hD : va_D A (LW ad cI cO g b uu_3 X) := hD
  exact W.vret hx hb hr (fun t ht hW => ⟨⟨uu_3, rfl, (by exact fp_ok hu_1 hu_2 hu_3), by rw [ht]; exact hP, hD⟩, hS.F ht⟩) hS.2.2 dX4_findPace_47
set_option maxHeartbeats 4000000 in
set_option maxRecDepth 100000 in
theorem kX4_judge (l : Launch) (D : va_G) (cI cO : ClassId) (tt : Nat) (ad : Nat → Nat) (g : Nat → Nat → Int32) (b : Nat → Int32) (d : Nat → Nat → Int64) (X : va_W) (sz : Nat) (p0 : Int32) (c0 : Int32) (o0 : Int32) (hI : WI g) : MmI l yX4_judge wsX4_judge ({ frames := 3, cells := 0, slots := 0, locals := 75 }) D cI cO tt (LW ad cI cO g b d X) sz [.ref (ad 0), .int p0, .int c0, .int o0] (S := Nat → Int32) (fun u => LW ad cI cO g u d X) (fun r0 u => jdP g p0 c0 o0 r0 u) := by
  refine Met.ofW (cc := cX4_judge) (maxL := 4) (ret := (some .int)) (by decide) rfl ?_
  intro p e s m args below meth c s₁ B hml hv
  obtain ⟨rfl, hsz, hP, hK, hD0, hZ, hN⟩ := hv
  have hx := B.exec
  have hb := B.bytes
  have hr := B.returns
  have hts := atoms_spec (ws := wsX4_judge) B.pre
  have hown : s.vm.findClass RX4 = some m.cls := findClass_of_methodNamed B.named
  have hlocks := B.notSynchronized
  subst hsz
  have hD := hD0.self (sz := s.heap.size)
  generalize hAe : va_A (LW ad cI cO g b d X) s.heap.size = A at hD hZ ⊢
  have hA : ∀ q : Nat, s.heap.size ≤ q → A q := fun q h => by rw [← hAe]; exact Or.inr h
  have hS : va_S A s.heap s.heap [] := va_S.rf
  have hl := lv_entry ([.ref (ad 0), .int p0, .int c0, .int o0]) (n := 4) (Nat.le_of_ble_eq_true rfl)
  rw [lg_entry_eq]
  generalize (lg_sl ([.ref (ad 0), .int p0, .int c0, .int o0]) ++ List.replicate (4 - (lg_sl ([.ref (ad 0), .int p0, .int c0, .int o0])).length) Slot.unset).toArray = ls at hl ⊢
  have hl : lv_has ls 4 [(0, .ref (ad 0)), (1, .int p0), (2, .int c0), (3, .int o0)] := hl
  have hw0 := hts (.fieldLink RX4 25 "LayerSounder" "beams" "LLayerSounder$Beams;") (List.mem_cons_of_mem _ (List.mem_append_left _ (List.mem_append_left _ (List.mem_append_left _ (List.mem_append_left _ (List.mem_append_left _ (List.mem_of_getElem? (l := wsX4_judge_r1) (i := 0) rfl)))))))
  have iX4 : ∀ w ∈ wsX40, w ∈ wsX4_judge := fun _ h => List.mem_cons_of_mem _ (List.mem_append_left _ (List.mem_append_left _ (List.mem_append_left _ (List.mem_append_right _ h))))
  have iX0 : ∀ w ∈ wsX00, w ∈ wsX4_judge := fun _ h => List.mem_cons_of_mem _ (List.mem_append_left _ (List.mem_append_left _ (List.mem_append_right _ h)))
  have hw3 := hts (.fieldLink RX4 55 "LayerSounder" "edgeCells" "I") (List.mem_cons_of_mem _ (List.mem_append_left _ (List.mem_append_left _ (List.mem_append_left _ (List.mem_append_left _ (List.mem_append_left _ (List.mem_of_getElem? (l := wsX4_judge_r1) (i := 1) rfl)))))))
  have hw4 := hts (.fieldLink RX4 18 "LayerSounder" "track" "LLayerSounder$Track;") (List.mem_cons_of_mem _ (List.mem_append_left _ (List.mem_append_left _ (List.mem_append_left _ (List.mem_append_left _ (List.mem_append_left _ (List.mem_of_getElem? (l := wsX4_judge_r1) (i := 2) rfl)))))))
  have hw5 := hts (.fieldLink RX4 62 "LayerSounder" "oddBound" "I") (List.mem_cons_of_mem _ (List.mem_append_left _ (List.mem_append_left _ (List.mem_append_left _ (List.mem_append_left _ (List.mem_append_left _ (List.mem_of_getElem? (l := wsX4_judge_r1) (i := 4) rfl)))))))
  have hw6 := hts (.fieldLink RX4 58 "LayerSounder" "threesTaken" "Z") (List.mem_cons_of_mem _ (List.mem_append_left _ (List.mem_append_left _ (List.mem_append_left _ (List.mem_append_left _ (List.mem_append_left _ (List.mem_of_getElem? (l := wsX4_judge_r1) (i := 3) rfl)))))))
  refine lv_iload_n hx hb dX4_judge_0 rfl (lv_at hl 3 rfl) ?_
  refine lv_if_ne (tgt := 6) hx hb dX4_judge_1 (by decide) (fun c_1 => ?_) (fun c_1 => ?_)
  · refine lv_aload_n hx hb dX4_judge_6 rfl (lv_at hl 0 rfl) ?_
    refine lv_iconst (v := 0) hx hb dX4_judge_7 (by decide) ?_
    refine lv_aload_n hx hb dX4_judge_8 rfl (lv_at hl 0 rfl) ?_
    refine lv_iload_n hx hb dX4_judge_9 rfl (lv_at hl 1 rfl) ?_
    refine lv_iload_n hx hb dX4_judge_10 rfl (lv_at hl 2 rfl) ?_
    refine pcI (va_runV (As := [.int p0, .int c0]) (rest := [.int 0, .ref (ad 0)]) ⟨hx, hb, hml, hown, hts⟩ (kX4_itemOfCell l D cI cO tt ad g b d X s.heap p0 c0 ) (cwV 2 hts gX4_judge_X4_itemOfCell rfl rfl rfl (by decide +kernel) ⟨(Nat.le_of_ble_eq_true rfl), (Nat.le_of_ble_eq_true rfl)⟩) (pwV hK hZ hN hP hS (va_recv hK hP (ci := 4) (q0 := 0) rfl rfl)) rfl rfl hl.1 rfl (lv_room (Nat.le_of_ble_eq_true rfl)) dX4_judge_11 ⟨Nat.zero_le _, Nat.zero_le _⟩) hS (fun locs hS => ?_)
    refine mcV (wf := fun u => LW ad cI cO g u d X) (va_runV (As := [.int 0, .int (itC g p0 c0)]) (rest := []) ⟨hx, hb, hml, hown, hts⟩ (kX4_readBeams0 l D cI cO tt ad g b d X s.heap.size (itC g p0 c0) hI) (cwV 2 hts gX4_judge_X4_readBeams rfl rfl rfl (by decide +kernel) ⟨(Nat.le_of_ble_eq_true rfl), (Nat.le_of_ble_eq_true rfl)⟩) (mwV hK hZ hN hP hD hS hA (va_recv hK hP (ci := 4) (q0 := 0) rfl rfl)) rfl rfl hl.1 rfl (lv_room (Nat.le_of_ble_eq_true rfl)) dX4_judge_14 ⟨Nat.zero_le _, Nat.zero_le _⟩) hD hS hA (fun uu_2 H locs hu_2 hP hD hS => ?_)
    have hP : va_P D vwCl (LW ad cI cO g uu_2 d X) H := hP
    have hD : va_D A (LW ad cI cO g uu_2 d X) := hD
    refine lv_aload_n hx hb dX4_judge_17 rfl (lv_at hl 0 rfl) ?_
    refine va_get (D := D) (ci := 4) (v := .ref (ad 3)) (C := RX4) (T := TX4) (N := 14) hx hb hts iX4 hown hK hP 0 rfl rfl 2 (by decide) hw0 (fun _ h9 => h9) rfl dX4_judge_18 ?_
    refine va_getN (D := D) (ci := 0) (v := .int (uu_2 0)) (C := RX0) (T := TX0) (N := 5) hx hb hts iX0 hown hK hP 3 rfl rfl 0 (by decide) (va_Nw.use rfl (hN.1 (175, RX0, "answered", "Z") (List.mem_of_getElem? (i := 3) rfl))) (fun _ h9 => h9) rfl dX4_judge_21 ?_
    refine lv_if_ne (tgt := 29) hx hb dX4_judge_24 (by decide) (fun c_3 => ?_) (fun c_3 => ?_)
    · refine lv_iload_n hx hb dX4_judge_29 rfl (lv_at hl 2 rfl) ?_
      refine lv_aload_n hx hb dX4_judge_30 rfl (lv_at hl 0 rfl) ?_
      refine va_get (D := D) (ci := 4) (v := .int (g 100 3)) (C := RX4) (T := TX4) (N := 14) hx hb hts iX4 hown hK hP 0 rfl rfl 10 (by decide) hw3 (fun _ h9 => h9) rfl dX4_judge_31 ?_
      refine lv_iadd hx hb dX4_judge_34 ?_
      refine lv_aload_n hx hb dX4_judge_35 rfl (lv_at hl 0 rfl) ?_
      refine va_get (D := D) (ci := 4) (v := .ref (ad 2)) (C := RX4) (T := TX4) (N := 14) hx hb hts iX4 hown hK hP 0 rfl rfl 1 (by decide) hw4 (fun _ h9 => h9) rfl dX4_judge_36 ?_
      refine lv_iload_n hx hb dX4_judge_39 rfl (lv_at hl 1 rfl) ?_
      refine pcI (va_runV (As := [.int p0]) (rest := [.int (c0 + (g 100 3))]) ⟨hx, hb, hml, hown, hts⟩ (kX3_depthOf l D cI cO tt ad g uu_2 d X H p0 hI) (cwV 1 hts gX4_judge_X3_depthOf rfl rfl rfl (by decide +kernel) ⟨(Nat.le_of_ble_eq_true rfl), (Nat.le_of_ble_eq_true rfl)⟩) (pwV hK hZ hN hP hS (va_recv hK hP (ci := 3) (q0 := 2) rfl rfl)) rfl rfl hl.1 rfl (lv_room (Nat.le_of_ble_eq_true rfl)) dX4_judge_40 ⟨Nat.zero_le _, Nat.zero_le _⟩) hS (fun locs hS => ?_)
      refine lv_icmp_lt (tgt := 48) hx hb dX4_judge_43 (by decide) (fun c_4 => ?_) (fun c_4 => ?_)
      · refine lv_aload_n hx hb dX4_judge_48 rfl (lv_at hl 0 rfl) ?_
        refine va_get (D := D) (ci := 4) (v := .ref (ad 3)) (C := RX4) (T := TX4) (N := 14) hx hb hts iX4 hown hK hP 0 rfl rfl 2 (by decide) hw0 (fun _ h9 => h9) rfl dX4_judge_49 ?_
        refine va_getN (D := D) (ci := 0) (v := .int (uu_2 1)) (C := RX0) (T := TX0) (N := 5) hx hb hts iX0 hown hK hP 3 rfl rfl 1 (by decide) (va_Nw.use rfl (hN.1 (187, RX0, "three", "Z") (List.mem_of_getElem? (i := 7) rfl))) (fun _ h9 => h9) rfl dX4_judge_52 ?_
        refine lv_if_eq (tgt := 67) hx hb dX4_judge_55 (by decide) (fun c_5 => ?_) (fun c_5 => ?_)
        · refine lv_aload_n hx hb dX4_judge_67 rfl (lv_at hl 0 rfl) ?_
          refine va_get (D := D) (ci := 4) (v := .ref (ad 3)) (C := RX4) (T := TX4) (N := 14) hx hb hts iX4 hown hK hP 0 rfl rfl 2 (by decide) hw0 (fun _ h9 => h9) rfl dX4_judge_68 ?_
          refine va_getN (D := D) (ci := 0) (v := .int (uu_2 4)) (C := RX0) (T := TX0) (N := 5) hx hb hts iX0 hown hK hP 3 rfl rfl 4 (by decide) (va_Nw.use rfl (hN.1 (184, RX0, "odd", "I") (List.mem_of_getElem? (i := 6) rfl))) (fun _ h9 => h9) rfl dX4_judge_71 ?_
          refine lv_aload_n hx hb dX4_judge_74 rfl (lv_at hl 0 rfl) ?_
          refine va_get (D := D) (ci := 4) (v := .int (g 100 5)) (C := RX4) (T := TX4) (N := 14) hx hb hts iX4 hown hK hP 0 rfl rfl 12 (by decide) hw5 (fun _ h9 => h9) rfl dX4_judge_75 ?_
          refine lv_ineg hx hb dX4_judge_78 ?_
          refine lv_aload_n hx hb dX4_judge_79 rfl (lv_at hl 0 rfl) ?_
          refine va_get (D := D) (ci := 4) (v := .int (g 100 5)) (C := RX4) (T := TX4) (N := 14) hx hb hts iX4 hown hK hP 0 rfl rfl 12 (by decide) hw5 (fun _ h9 => h9) rfl dX4_judge_80 ?_
          refine pcI (va_runS (As := [.int (uu_2 4), .int (-(g 100 5)), .int (g 100 5)]) (rest := []) ⟨hx, hb, hml, hown, hts⟩ (kX4_isWithin l D cI cO tt (LW ad cI cO g uu_2 d X) H (uu_2 4) (-(g 100 5)) (g 100 5) ) (va_cwS 3 hts gX4_judge_X4_isWithin rfl rfl rfl (by decide +kernel) ⟨(Nat.le_of_ble_eq_true rfl), (Nat.le_of_ble_eq_true rfl)⟩) (pwS hK hZ hN hP hS) rfl rfl hl.1 rfl (lv_room (Nat.le_of_ble_eq_true rfl)) dX4_judge_83 ⟨Nat.zero_le _, Nat.zero_le _⟩) hS (fun locs hS => ?_)
          refine lv_if_ne (tgt := 91) hx hb dX4_judge_86 (by decide) (fun c_6 => ?_) (fun c_6 => ?_)
          · have c_6 := bI_n0.mp c_6
            refine lv_aload_n hx hb dX4_judge_91 rfl (lv_at hl 0 rfl) ?_
            refine va_get (D := D) (ci := 4) (v := .ref (ad 3)) (C := RX4) (T := TX4) (N := 14) hx hb hts iX4 hown hK hP 0 rfl rfl 2 (by decide) hw0 (fun _ h9 => h9) rfl dX4_judge_92 ?_
            refine va_getN (D := D) (ci := 0) (v := .int (uu_2 2)) (C := RX0) (T := TX0) (N := 5) hx hb hts iX0 hown hK hP 3 rfl rfl 2 (by decide) (va_Nw.use rfl (hN.1 (178, RX0, "along", "I") (List.mem_of_getElem? (i := 4) rfl))) (fun _ h9 => h9) rfl dX4_judge_95 ?_
            refine pcI (va_runS (As := [.int (uu_2 2)]) (rest := []) ⟨hx, hb, hml, hown, hts⟩ (kX4_isPart l D cI cO tt (LW ad cI cO g uu_2 d X) H (uu_2 2) ) (va_cwS 1 hts gX4_judge_X4_isPart rfl rfl rfl (by decide +kernel) ⟨(Nat.le_of_ble_eq_true rfl), (Nat.le_of_ble_eq_true rfl)⟩) (pwS hK hZ hN hP hS) rfl rfl hl.1 rfl (lv_room (Nat.le_of_ble_eq_true rfl)) dX4_judge_98 ⟨Nat.zero_le _, Nat.zero_le _⟩) hS (fun locs hS => ?_)
            refine lv_if_eq (tgt := 121) hx hb dX4_judge_101 (by decide) (fun c_7 => ?_) (fun c_7 => ?_)
            · have c_7 := bI_0.mp c_7
              refine lv_bipush (v := 6) hx hb dX4_judge_121 (by decide) ?_
              exact W.iret (v := 6) hx hb hr (fun t ht hW => ⟨⟨6, uu_2, rfl, (by refine jd_x c_1 hu_2 c_3 ?_; grind), by rw [ht]; exact hP, hD⟩, hS.F ht⟩) hS.2.2 dX4_judge_123
            · have c_7 := bI_n0.mp c_7
              refine lv_aload_n hx hb dX4_judge_104 rfl (lv_at hl 0 rfl) ?_
              refine va_get (D := D) (ci := 4) (v := .ref (ad 3)) (C := RX4) (T := TX4) (N := 14) hx hb hts iX4 hown hK hP 0 rfl rfl 2 (by decide) hw0 (fun _ h9 => h9) rfl dX4_judge_105 ?_
              refine va_getN (D := D) (ci := 0) (v := .int (uu_2 3)) (C := RX0) (T := TX0) (N := 5) hx hb hts iX0 hown hK hP 3 rfl rfl 3 (by decide) (va_Nw.use rfl (hN.1 (181, RX0, "across", "I") (List.mem_of_getElem? (i := 5) rfl))) (fun _ h9 => h9) rfl dX4_judge_108 ?_
              refine pcI (va_runS (As := [.int (uu_2 3)]) (rest := []) ⟨hx, hb, hml, hown, hts⟩ (kX4_isPart l D cI cO tt (LW ad cI cO g uu_2 d X) H (uu_2 3) ) (va_cwS 1 hts gX4_judge_X4_isPart rfl rfl rfl (by decide +kernel) ⟨(Nat.le_of_ble_eq_true rfl), (Nat.le_of_ble_eq_true rfl)⟩) (pwS hK hZ hN hP hS) rfl rfl hl.1 rfl (lv_room (Nat.le_of_ble_eq_true rfl)) dX4_judge_111 ⟨Nat.zero_le _, Nat.zero_le _⟩) hS (fun locs hS => ?_)
              refine lv_if_eq (tgt := 121) hx hb dX4_judge_114 (by decide) (fun c_8 => ?_) (fun c_8 => ?_)
              · have c_8 := bI_0.mp c_8
                refine lv_bipush (v := 6) hx hb dX4_judge_121 (by decide) ?_
                exact W.iret (v := 6) hx hb hr (fun t ht hW => ⟨⟨6, uu_2, rfl, (by refine jd_x c_1 hu_2 c_3 ?_; grind), by rw [ht]; exact hP, hD⟩, hS.F ht⟩) hS.2.2 dX4_judge_123
              · have c_8 := bI_n0.mp c_8
                refine lv_iconst (v := 0) hx hb dX4_judge_117 (by decide) ?_
                refine lv_goto (tgt := 123) hx hb dX4_judge_118 (by decide) ?_
                exact W.iret (v := 0) hx hb hr (fun t ht hW => ⟨⟨0, uu_2, rfl, (by refine jd_x c_1 hu_2 c_3 ?_; grind), by rw [ht]; exact hP, hD⟩, hS.F ht⟩) hS.2.2 dX4_judge_123
          · have c_6 := bI_0.mp c_6
            refine lv_iconst (v := 5) hx hb dX4_judge_89 (by decide) ?_
            exact W.iret (v := 5) hx hb hr (fun t ht hW => ⟨⟨5, uu_2, rfl, (by refine jd_x c_1 hu_2 c_3 ?_; grind), by rw [ht]; exact hP, hD⟩, hS.F ht⟩) hS.2.2 dX4_judge_90
        · refine lv_aload_n hx hb dX4_judge_58 rfl (lv_at hl 0 rfl) ?_
          refine va_get (D := D) (ci := 4) (v := .int (g 100 4)) (C := RX4) (T := TX4) (N := 14) hx hb hts iX4 hown hK hP 0 rfl rfl 11 (by decide) hw6 (fun _ h9 => h9) rfl dX4_judge_59 ?_
          refine lv_if_ne (tgt := 67) hx hb dX4_judge_62 (by decide) (fun c_9 => ?_) (fun c_9 => ?_)
          · refine lv_aload_n hx hb dX4_judge_67 rfl (lv_at hl 0 rfl) ?_
            refine va_get (D := D) (ci := 4) (v := .ref (ad 3)) (C := RX4) (T := TX4) (N := 14) hx hb hts iX4 hown hK hP 0 rfl rfl 2 (by decide) hw0 (fun _ h9 => h9) rfl dX4_judge_68 ?_
            refine va_getN (D := D) (ci := 0) (v := .int (uu_2 4)) (C := RX0) (T := TX0) (N := 5) hx hb hts iX0 hown hK hP 3 rfl rfl 4 (by decide) (va_Nw.use rfl (hN.1 (184, RX0, "odd", "I") (List.mem_of_getElem? (i := 6) rfl))) (fun _ h9 => h9) rfl dX4_judge_71 ?_
            refine lv_aload_n hx hb dX4_judge_74 rfl (lv_at hl 0 rfl) ?_
            refine va_get (D := D) (ci := 4) (v := .int (g 100 5)) (C := RX4) (T := TX4) (N := 14) hx hb hts iX4 hown hK hP 0 rfl rfl 12 (by decide) hw5 (fun _ h9 => h9) rfl dX4_judge_75 ?_
            refine lv_ineg hx hb dX4_judge_78 ?_
            refine lv_aload_n hx hb dX4_judge_79 rfl (lv_at hl 0 rfl) ?_
            refine va_get (D := D) (ci := 4) (v := .int (g 100 5)) (C := RX4) (T := TX4) (N := 14) hx hb hts iX4 hown hK hP 0 rfl rfl 12 (by decide) hw5 (fun _ h9 => h9) rfl dX4_judge_80 ?_
            refine pcI (va_runS (As := [.int (uu_2 4), .int (-(g 100 5)), .int (g 100 5)]) (rest := []) ⟨hx, hb, hml, hown, hts⟩ (kX4_isWithin l D cI cO tt (LW ad cI cO g uu_2 d X) H (uu_2 4) (-(g 100 5)) (g 100 5) ) (va_cwS 3 hts gX4_judge_X4_isWithin rfl rfl rfl (by decide +kernel) ⟨(Nat.le_of_ble_eq_true rfl), (Nat.le_of_ble_eq_true rfl)⟩) (pwS hK hZ hN hP hS) rfl rfl hl.1 rfl (lv_room (Nat.le_of_ble_eq_true rfl)) dX4_judge_83 ⟨Nat.zero_le _, Nat.zero_le _⟩) hS (fun locs hS => ?_)
            refine lv_if_ne (tgt := 91) hx hb dX4_judge_86 (by decide) (fun c_10 => ?_) (fun c_10 => ?_)
            · have c_10 := bI_n0.mp c_10
              refine lv_aload_n hx hb dX4_judge_91 rfl (lv_at hl 0 rfl) ?_
              refine va_get (D := D) (ci := 4) (v := .ref (ad 3)) (C := RX4) (T := TX4) (N := 14) hx hb hts iX4 hown hK hP 0 rfl rfl 2 (by decide) hw0 (fun _ h9 => h9) rfl dX4_judge_92 ?_
              refine va_getN (D := D) (ci := 0) (v := .int (uu_2 2)) (C := RX0) (T := TX0) (N := 5) hx hb hts iX0 hown hK hP 3 rfl rfl 2 (by decide) (va_Nw.use rfl (hN.1 (178, RX0, "along", "I") (List.mem_of_getElem? (i := 4) rfl))) (fun _ h9 => h9) rfl dX4_judge_95 ?_
              refine pcI (va_runS (As := [.int (uu_2 2)]) (rest := []) ⟨hx, hb, hml, hown, hts⟩ (kX4_isPart l D cI cO tt (LW ad cI cO g uu_2 d X) H (uu_2 2) ) (va_cwS 1 hts gX4_judge_X4_isPart rfl rfl rfl (by decide +kernel) ⟨(Nat.le_of_ble_eq_true rfl), (Nat.le_of_ble_eq_true rfl)⟩) (pwS hK hZ hN hP hS) rfl rfl hl.1 rfl (lv_room (Nat.le_of_ble_eq_true rfl)) dX4_judge_98 ⟨Nat.zero_le _, Nat.zero_le _⟩) hS (fun locs hS => ?_)
              refine lv_if_eq (tgt := 121) hx hb dX4_judge_101 (by decide) (fun c_11 => ?_) (fun c_11 => ?_)
              · have c_11 := bI_0.mp c_11
                refine lv_bipush (v := 6) hx hb dX4_judge_121 (by decide) ?_
                exact W.iret (v := 6) hx hb hr (fun t ht hW => ⟨⟨6, uu_2, rfl, (by refine jd_x c_1 hu_2 c_3 ?_; grind), by rw [ht]; exact hP, hD⟩, hS.F ht⟩) hS.2.2 dX4_judge_123
              · have c_11 := bI_n0.mp c_11
                refine lv_aload_n hx hb dX4_judge_104 rfl (lv_at hl 0 rfl) ?_
                refine va_get (D := D) (ci := 4) (v := .ref (ad 3)) (C := RX4) (T := TX4) (N := 14) hx hb hts iX4 hown hK hP 0 rfl rfl 2 (by decide) hw0 (fun _ h9 => h9) rfl dX4_judge_105 ?_
                refine va_getN (D := D) (ci := 0) (v := .int (uu_2 3)) (C := RX0) (T := TX0) (N := 5) hx hb hts iX0 hown hK hP 3 rfl rfl 3 (by decide) (va_Nw.use rfl (hN.1 (181, RX0, "across", "I") (List.mem_of_getElem? (i := 5) rfl))) (fun _ h9 => h9) rfl dX4_judge_108 ?_
                refine pcI (va_runS (As := [.int (uu_2 3)]) (rest := []) ⟨hx, hb, hml, hown, hts⟩ (kX4_isPart l D cI cO tt (LW ad cI cO g uu_2 d X) H (uu_2 3) ) (va_cwS 1 hts gX4_judge_X4_isPart rfl rfl rfl (by decide +kernel) ⟨(Nat.le_of_ble_eq_true rfl), (Nat.le_of_ble_eq_true rfl)⟩) (pwS hK hZ hN hP hS) rfl rfl hl.1 rfl (lv_room (Nat.le_of_ble_eq_true rfl)) dX4_judge_111 ⟨Nat.zero_le _, Nat.zero_le _⟩) hS (fun locs hS => ?_)
                refine lv_if_eq (tgt := 121) hx hb dX4_judge_114 (by decide) (fun c_12 => ?_) (fun c_12 => ?_)
                · have c_12 := bI_0.mp c_12
                  refine lv_bipush (v := 6) hx hb dX4_judge_121 (by decide) ?_
                  exact W.iret (v := 6) hx hb hr (fun t ht hW => ⟨⟨6, uu_2, rfl, (by refine jd_x c_1 hu_2 c_3 ?_; grind), by rw [ht]; exact hP, hD⟩, hS.F ht⟩) hS.2.2 dX4_judge_123
                · have c_12 := bI_n0.mp c_12
                  refine lv_iconst (v := 0) hx hb dX4_judge_117 (by decide) ?_
                  refine lv_goto (tgt := 123) hx hb dX4_judge_118 (by decide) ?_
                  exact W.iret (v := 0) hx hb hr (fun t ht hW => ⟨⟨0, uu_2, rfl, (by refine jd_x c_1 hu_2 c_3 ?_; grind), by rw [ht]; exact hP, hD⟩, hS.F ht⟩) hS.2.2 dX4_judge_123
            · have c_10 := bI_0.mp c_10
              refine lv_iconst (v := 5) hx hb dX4_judge_89 (by decide) ?_
              exact W.iret (v := 5) hx hb hr (fun t ht hW => ⟨⟨5, uu_2, rfl, (by refine jd_x c_1 hu_2 c_3 ?_; grind), by rw [ht]; exact hP, hD⟩, hS.F ht⟩) hS.2.2 dX4_judge_90
          · refine lv_iconst (v := 4) hx hb dX4_judge_65 (by decide) ?_
            exact W.iret (v := 4) hx hb hr (fun t ht hW => ⟨⟨4, uu_2, rfl, (by refine jd_x c_1 hu_2 c_3 ?_; grind), by rw [ht]; exact hP, hD⟩, hS.F ht⟩) hS.2.2 dX4_judge_66
      · refine lv_iconst (v := 3) hx hb dX4_judge_46 (by decide) ?_
        exact W.iret (v := 3) hx hb hr (fun t ht hW => ⟨⟨3, uu_2, rfl, (by refine jd_x c_1 hu_2 c_3 ?_; grind), by rw [ht]; exact hP, hD⟩, hS.F ht⟩) hS.2.2 dX4_judge_47
    · refine lv_iconst (v := 2) hx hb dX4_judge_27 (by decide) ?_
      exact W.iret (v := 2) hx hb hr (fun t ht hW => ⟨⟨2, uu_2, rfl, (by exact jd_2 c_1 hu_2 c_3), by rw [ht]; exact hP, hD⟩, hS.F ht⟩) hS.2.2 dX4_judge_28
  · refine lv_iconst (v := 1) hx hb dX4_judge_4 (by decide) ?_
    exact W.iret (v := 1) hx hb hr (fun t ht hW => ⟨⟨1, b, rfl, (by exact jd_1 c_1), by rw [ht]; exact hP, hD⟩, hS.F ht⟩) hS.2.2 dX4_judge_5
