set_option maxHeartbeats 4000000 in
set_option maxRecDepth 100000 in
theorem kX4_found (l : Launch) (D : va_G) (cI cO : ClassId) (tt : Nat) (ad : Nat → Nat) (g : Nat → Nat → Int32) (b : Nat → Int32) (d : Nat → Nat → Int64) (X : va_W) (sz : Nat) (f0 : Int32)  : MmI l yX4_found wsX4_found ({ frames := 0, cells := 0, slots := 0, locals := 0 }) D cI cO tt (LW ad cI cO g b d X) sz [.ref (ad 0), .int f0] (S := Nat → Nat → Int32) (fun u => LW ad cI cO u b d X) (fun r0 u => r0 = -10 - f0 ∧ u = up2 g 100 6 f0) := by
  refine Met.ofW (cc := cX4_found) (maxL := 2) (ret := (some .int)) (by decide) rfl ?_
  intro p e s m args below meth c s₁ B hml hv
  obtain ⟨rfl, hsz, hP, hK, hD0, hZ, hN⟩ := hv
  have hx := B.exec
  have hb := B.bytes
  have hr := B.returns
  have hts := atoms_spec (ws := wsX4_found) B.pre
  have hown : s.vm.findClass RX4 = some m.cls := findClass_of_methodNamed B.named
  have hlocks := B.notSynchronized
  subst hsz
  have hD := hD0.self (sz := s.heap.size)
  generalize hAe : va_A (LW ad cI cO g b d X) s.heap.size = A at hD hZ ⊢
  have hA : ∀ q : Nat, s.heap.size ≤ q → A q := fun q h => by rw [← hAe]; exact Or.inr h
  have hS : va_S A s.heap s.heap [] := va_S.rf
  have hl := lv_entry ([.ref (ad 0), .int f0]) (n := 2) (Nat.le_of_ble_eq_true rfl)
  rw [lg_entry_eq]
  generalize (lg_sl ([.ref (ad 0), .int f0]) ++ List.replicate (2 - (lg_sl ([.ref (ad 0), .int f0])).length) Slot.unset).toArray = ls at hl ⊢
  have hl : lv_has ls 2 [(0, .ref (ad 0)), (1, .int f0)] := hl
  have hw0 := hts (.fieldLink RX4 65 "LayerSounder" "latestFinding" "I") (List.mem_cons_of_mem _ (List.mem_append_left _ (List.mem_of_getElem? (i := 0) rfl)))
  have iX4 : ∀ w ∈ wsX40, w ∈ wsX4_found := fun _ h => List.mem_cons_of_mem _ (List.mem_append_right _ h)
  refine lv_aload_n hx hb dX4_found_0 rfl (lv_at hl 0 rfl) ?_
  refine lv_iload_n hx hb dX4_found_1 rfl (lv_at hl 1 rfl) ?_
  refine va_put (D := D) (ci := 4) (v := .int f0) (C := RX4) (T := TX4) (N := 14) hx hb hts iX4 tyX4 tyX4_ok nmX4 hown hK hP hD hS 0 rfl rfl 13 (by decide) hw0 (fun _ h9 => h9) rfl (tyX4_ok 13 (by decide)) rfl rfl (Nat.le_of_ble_eq_true rfl) dX4_found_2 (fun H locs hP hD hS => ?_)
  have hP : va_P D vwCl (LW ad cI cO (up2 g 100 6 f0) b d X) H := hP
  have hD : va_D A (LW ad cI cO (up2 g 100 6 f0) b d X) := hD
  refine lv_bipush (v := (-10)) hx hb dX4_found_5 (by decide) ?_
  refine lv_iload_n hx hb dX4_found_7 rfl (lv_at hl 1 rfl) ?_
  refine lv_isub hx hb dX4_found_8 ?_
  exact W.iret (v := (-10) - f0) hx hb hr (fun t ht hW => ⟨⟨(-10) - f0, up2 g 100 6 f0, rfl, (by exact ⟨rfl, rfl⟩), by rw [ht]; exact hP, hD⟩, hS.F ht⟩) hS.2.2 dX4_found_9
set_option maxHeartbeats 4000000 in
set_option maxRecDepth 100000 in
theorem kX2_renew (l : Launch) (D : va_G) (cI cO : ClassId) (tt : Nat) (ad : Nat → Nat) (g : Nat → Nat → Int32) (b : Nat → Int32) (d : Nat → Nat → Int64) (X : va_W) (sz : Nat) (rr : Nat) (f0 : Int32) (n0 : Int32) (hrr : rr < 8) (hn0 : 0 ≤ n0 ∧ n0 ≤ 200) : MmV l yX2_renew wsX2_renew ({ frames := 1, cells := 0, slots := 0, locals := 21 }) D cI cO tt (LW ad cI cO g b d X) sz [.ref (ad (12 + rr)), .int f0, .int n0] (S := Nat → Nat → Int32) (fun u => LW ad cI cO u b d X) (fun u => u = zr (up2 (up2 g 4 rr f0) 5 rr n0) rr (rn n0)) := by
  refine Met.ofW (cc := cX2_renew) (maxL := 4) (ret := none) (by decide) rfl ?_
  intro p e s m args below meth c s₁ B hml hv
  obtain ⟨rfl, hsz, hP, hK, hD0, hZ, hN⟩ := hv
  have hx := B.exec
  have hb := B.bytes
  have hr := B.returns
  have hts := atoms_spec (ws := wsX2_renew) B.pre
  have hown : s.vm.findClass RX2 = some m.cls := findClass_of_methodNamed B.named
  have hlocks := B.notSynchronized
  subst hsz
  have hD := hD0.self (sz := s.heap.size)
  generalize hAe : va_A (LW ad cI cO g b d X) s.heap.size = A at hD hZ ⊢
  have hA : ∀ q : Nat, s.heap.size ≤ q → A q := fun q h => by rw [← hAe]; exact Or.inr h
  have hS : va_S A s.heap s.heap [] := va_S.rf
  have hl := lv_entry ([.ref (ad (12 + rr)), .int f0, .int n0]) (n := 4) (Nat.le_of_ble_eq_true rfl)
  rw [lg_entry_eq]
  generalize (lg_sl ([.ref (ad (12 + rr)), .int f0, .int n0]) ++ List.replicate (4 - (lg_sl ([.ref (ad (12 + rr)), .int f0, .int n0])).length) Slot.unset).toArray = ls at hl ⊢
  have hl : lv_has ls 4 [(0, .ref (ad (12 + rr))), (1, .int f0), (2, .int n0)] := hl
  have hw0 := hts (.fieldLink RX2 15 "LayerSounder$Reel" "form" "I") (List.mem_cons_of_mem _ (List.mem_append_left _ (List.mem_of_getElem? (i := 0) rfl)))
  have iX2 : ∀ w ∈ wsX20, w ∈ wsX2_renew := fun _ h => List.mem_cons_of_mem _ (List.mem_append_right _ h)
  have hw2 := hts (.fieldLink RX2 9 "LayerSounder$Reel" "items" "[I") (List.mem_cons_of_mem _ (List.mem_append_left _ (List.mem_of_getElem? (i := 1) rfl)))
  have hw3 := hts (.methodLink RX2 22 Lib.Math.min.name) (List.mem_cons_of_mem _ (List.mem_append_left _ (List.mem_of_getElem? (i := 2) rfl)))
  have hw4 := hts (.static Lib.Math.min.name) (List.mem_cons_of_mem _ (List.mem_append_left _ (List.mem_of_getElem? (i := 3) rfl)))
  have hw5 := hts (.initialized "java/lang/Math") (List.mem_cons_of_mem _ (List.mem_append_left _ (List.mem_of_getElem? (i := 4) rfl)))
  have hw6 := hts (.code Lib.Math.min.name Lib.Math.min.code 2 (some .int)) (List.mem_cons_of_mem _ (List.mem_append_left _ (List.mem_of_getElem? (i := 5) rfl)))
  have hw7 := hts (.fieldLink RX2 19 "LayerSounder$Reel" "size" "I") (List.mem_cons_of_mem _ (List.mem_append_left _ (List.mem_of_getElem? (i := 6) rfl)))
  refine lv_aload_n hx hb dX2_renew_0 rfl (lv_at hl 0 rfl) ?_
  refine lv_iload_n hx hb dX2_renew_1 rfl (lv_at hl 1 rfl) ?_
  refine va_put (D := D) (ci := 2) (v := .int f0) (C := RX2) (T := TX2) (N := 3) hx hb hts iX2 tyX2 tyX2_ok nmX2 hown hK hP hD hS (12 + rr) (LW_r hrr) rfl 1 (by decide) hw0 (fun _ h9 => h9) rfl (tyX2_ok 1 (by decide)) rfl rfl (Nat.le_of_ble_eq_true rfl) dX2_renew_2 (fun H locs hP hD hS => ?_)
  have hP : va_P D vwCl (LW ad cI cO (up2 g 4 rr f0) b d X) H := by
    have h9 := hP
    rw [← LW_r1 hrr]
    exact h9
  have hD : va_D A (LW ad cI cO (up2 g 4 rr f0) b d X) := by
    have h9 := hD
    rw [← LW_r1 hrr]
    exact h9
  refine lv_aload_n hx hb dX2_renew_5 rfl (lv_at hl 0 rfl) ?_
  refine lv_iload_n hx hb dX2_renew_6 rfl (lv_at hl 2 rfl) ?_
  refine lv_aload_n hx hb dX2_renew_7 rfl (lv_at hl 0 rfl) ?_
  refine va_get (D := D) (ci := 2) (v := .ref (ad (20 + rr))) (C := RX2) (T := TX2) (N := 3) hx hb hts iX2 hown hK hP (12 + rr) (LW_r hrr) rfl 0 (by decide) hw2 (fun _ h9 => h9) rfl dX2_renew_8 ?_
  refine va_alen hx hb hK hP (20 + rr) 0 (LW_i hrr) rfl (v := 200) rfl dX2_renew_11 ?_
  refine va_mmin hx hb (hml.trans hl.1.symm) hown hw3 hw4 hw5 hw6 (Nat.le_of_ble_eq_true rfl) (Nat.le_of_ble_eq_true rfl) (Nat.zero_le _) (Nat.zero_le _) dX2_renew_12 ?_
  refine tpI (y := n0) (if_neg (Int32.not_lt.mpr hn0.2)) ?_
  refine va_put (D := D) (ci := 2) (v := .int n0) (C := RX2) (T := TX2) (N := 3) hx hb hts iX2 tyX2 tyX2_ok nmX2 hown hK hP hD hS (12 + rr) (LW_r hrr) rfl 2 (by decide) hw7 (fun _ h9 => h9) rfl (tyX2_ok 2 (by decide)) rfl rfl (Nat.le_of_ble_eq_true rfl) dX2_renew_15 (fun H locs hP hD hS => ?_)
  have hP : va_P D vwCl (LW ad cI cO (up2 (up2 g 4 rr f0) 5 rr n0) b d X) H := by
    have h9 := hP
    rw [← LW_r2 hrr]
    exact h9
  have hD : va_D A (LW ad cI cO (up2 (up2 g 4 rr f0) 5 rr n0) b d X) := by
    have h9 := hD
    rw [← LW_r2 hrr]
    exact h9
  refine lv_iconst (v := 0) hx hb dX2_renew_18 (by decide) ?_
  refine lv_istore_n (lv' := [(3, .int 0), (0, .ref (ad (12 + rr))), (1, .int f0), (2, .int n0)]) hx hb dX2_renew_19 rfl hl (by decide) rfl (fun ls hl => ?_)
  have hP : va_P D vwCl (LW ad cI cO (zr (up2 (up2 g 4 rr f0) 5 rr n0) rr 0) b d X) H := by rw [zr_0]; exact hP
  have hD : va_D A (LW ad cI cO (zr (up2 (up2 g 4 rr f0) 5 rr n0) rr 0) b d X) := by rw [zr_0]; exact hD
  refine wloop (D := D) (A := A) (σ := Nat) (pc := 20) (nL := 4) (fun z_1 => [(3, .int (nI z_1)), (0, .ref (ad (12 + rr))), (1, .int f0), (2, .int n0)]) (fun z_1 => LW ad cI cO (zr (up2 (up2 g 4 rr f0) 5 rr n0) rr z_1) b d X) (fun z_1 => z_1 ≤ rn n0) (fun z_1 => rn n0 - z_1) (fun z_1 hIz_1 ihz_1 H locs ls hP hD hS hl => ?_) 0 (Nat.zero_le _) _ _ _ hP hD hS (lv_sub hl [0, 1, 2, 3] rfl)
  obtain ⟨i, rfl⟩ : ∃ q, q = z_1 := ⟨_, rfl⟩
  have hP : va_P D vwCl (LW ad cI cO (zr (up2 (up2 g 4 rr f0) 5 rr n0) rr i) b d X) H := hP
  have hD : va_D A (LW ad cI cO (zr (up2 (up2 g 4 rr f0) 5 rr n0) rr i) b d X) := hD
  have hl : lv_has ls 4 [(3, .int (nI i)), (0, .ref (ad (12 + rr))), (1, .int f0), (2, .int n0)] := hl
  have hIz_1 : i ≤ rn n0 := hIz_1
  refine lv_iload_n hx hb dX2_renew_20 rfl (lv_at hl 0 rfl) ?_
  refine lv_aload_n hx hb dX2_renew_21 rfl (lv_at hl 1 rfl) ?_
  refine va_get (D := D) (ci := 2) (v := .int (zr (up2 (up2 g 4 rr f0) 5 rr n0) rr i 5 rr)) (C := RX2) (T := TX2) (N := 3) hx hb hts iX2 hown hK hP (12 + rr) (LW_r hrr) rfl 2 (by decide) hw7 (fun _ h9 => h9) rfl dX2_renew_22 ?_
  refine tpI (y := n0) (by rw [zr_n _ _ _ (by decide)]; simp [up2]) ?_
  refine lv_icmp_ge (tgt := 41) hx hb dX2_renew_25 (by decide) (fun c_2 => ?_) (fun c_2 => ?_)
  · exact W.vret hx hb hr (fun t ht hW => ⟨⟨zr (up2 (up2 g 4 rr f0) 5 rr n0) rr i, rfl, (by show _ = zr _ rr (rn n0); rw [nlast hn0.1 hIz_1 c_2]), by rw [ht]; exact hP, hD⟩, hS.F ht⟩) hS.2.2 dX2_renew_41
  · have hlt := nless hn0.1 hn0.2 hIz_1 c_2
    refine lv_aload_n hx hb dX2_renew_28 rfl (lv_at hl 1 rfl) ?_
    refine va_get (D := D) (ci := 2) (v := .ref (ad (20 + rr))) (C := RX2) (T := TX2) (N := 3) hx hb hts iX2 hown hK hP (12 + rr) (LW_r hrr) rfl 0 (by decide) hw2 (fun _ h9 => h9) rfl dX2_renew_29 ?_
    refine lv_iload_n hx hb dX2_renew_32 rfl (lv_at hl 0 rfl) ?_
    refine lv_iconst (v := 0) hx hb dX2_renew_33 (by decide) ?_
    refine va_iast hx hb hK hP hD hS (20 + rr) 0 (LW_i hrr) rfl (vp_in_nI hlt.2 (by decide)) dX2_renew_34 (fun H locs hP hD hS => ?_)
    have hP : va_P D vwCl (LW ad cI cO (up2 (zr (up2 (up2 g 4 rr f0) 5 rr n0) rr i) (10 + rr) ((nI i).toNatClampNeg) 0) b d X) H := by
      have h9 := hP
      rw [← LW_is hrr]
      exact h9
    have hD : va_D A (LW ad cI cO (up2 (zr (up2 (up2 g 4 rr f0) 5 rr n0) rr i) (10 + rr) ((nI i).toNatClampNeg) 0) b d X) := by
      have h9 := hD
      rw [← LW_is hrr]
      exact h9
    refine lv_iinc (v := nI (i + 1)) (lv' := [(3, .int (nI (i + 1))), (0, .ref (ad (12 + rr))), (1, .int f0), (2, .int n0)]) hx hb dX2_renew_35 hl (k := 0) rfl (by rw [← nI_1]; rfl) (by decide) rfl (fun ls hl => ?_)
    refine lv_goto (tgt := 20) hx hb dX2_renew_38 (by decide) ?_
    rw [zr_s _ _ hlt.2] at hP hD
    exact ihz_1 (i + 1) (show (i + 1) ≤ rn n0 from (by omega)) (show rn n0 - (i + 1) < rn n0 - i from (by omega)) _ _ _ hP hD hS (lv_sub hl [0, 1, 2, 3] rfl)
set_option maxHeartbeats 4000000 in
set_option maxRecDepth 100000 in
theorem kX2_drop (l : Launch) (D : va_G) (cI cO : ClassId) (tt : Nat) (ad : Nat → Nat) (g : Nat → Nat → Int32) (b : Nat → Int32) (d : Nat → Nat → Int64) (X : va_W) (sz : Nat) (rr : Nat) (hrr : rr < 8) : MmI l yX2_drop wsX2_drop ({ frames := 0, cells := 0, slots := 0, locals := 0 }) D cI cO tt (LW ad cI cO g b d X) sz [.ref (ad (12 + rr))] (S := Nat → Nat → Int32) (fun u => LW ad cI cO u b d X) (fun r0 u => r0 = g 5 rr ∧ u = up2 (up2 g 4 rr (-1)) 5 rr 0) := by
  refine Met.ofW (cc := cX2_drop) (maxL := 2) (ret := (some .int)) (by decide) rfl ?_
  intro p e s m args below meth c s₁ B hml hv
  obtain ⟨rfl, hsz, hP, hK, hD0, hZ, hN⟩ := hv
  have hx := B.exec
  have hb := B.bytes
  have hr := B.returns
  have hts := atoms_spec (ws := wsX2_drop) B.pre
  have hown : s.vm.findClass RX2 = some m.cls := findClass_of_methodNamed B.named
  have hlocks := B.notSynchronized
  subst hsz
  have hD := hD0.self (sz := s.heap.size)
  generalize hAe : va_A (LW ad cI cO g b d X) s.heap.size = A at hD hZ ⊢
  have hA : ∀ q : Nat, s.heap.size ≤ q → A q := fun q h => by rw [← hAe]; exact Or.inr h
  have hS : va_S A s.heap s.heap [] := va_S.rf
  have hl := lv_entry ([.ref (ad (12 + rr))]) (n := 2) (Nat.le_of_ble_eq_true rfl)
  rw [lg_entry_eq]
  generalize (lg_sl ([.ref (ad (12 + rr))]) ++ List.replicate (2 - (lg_sl ([.ref (ad (12 + rr))])).length) Slot.unset).toArray = ls at hl ⊢
  have hl : lv_has ls 2 [(0, .ref (ad (12 + rr)))] := hl
  have hw0 := hts (.fieldLink RX2 19 "LayerSounder$Reel" "size" "I") (List.mem_cons_of_mem _ (List.mem_append_left _ (List.mem_of_getElem? (i := 0) rfl)))
  have iX2 : ∀ w ∈ wsX20, w ∈ wsX2_drop := fun _ h => List.mem_cons_of_mem _ (List.mem_append_right _ h)
  have hw2 := hts (.fieldLink RX2 15 "LayerSounder$Reel" "form" "I") (List.mem_cons_of_mem _ (List.mem_append_left _ (List.mem_of_getElem? (i := 1) rfl)))
  refine lv_aload_n hx hb dX2_drop_0 rfl (lv_at hl 0 rfl) ?_
  refine va_get (D := D) (ci := 2) (v := .int (g 5 rr)) (C := RX2) (T := TX2) (N := 3) hx hb hts iX2 hown hK hP (12 + rr) (LW_r hrr) rfl 2 (by decide) hw0 (fun _ h9 => h9) rfl dX2_drop_1 ?_
  refine lv_topi (fun x_1 ex_1 => ?_)
  refine lv_istore_n (lv' := [(1, .int x_1), (0, .ref (ad (12 + rr)))]) hx hb dX2_drop_4 rfl hl (by decide) rfl (fun ls hl => ?_)
  refine lv_aload_n hx hb dX2_drop_5 rfl (lv_at hl 1 rfl) ?_
  refine lv_iconst (v := (-1)) hx hb dX2_drop_6 (by decide) ?_
  refine va_put (D := D) (ci := 2) (v := .int (-1)) (C := RX2) (T := TX2) (N := 3) hx hb hts iX2 tyX2 tyX2_ok nmX2 hown hK hP hD hS (12 + rr) (LW_r hrr) rfl 1 (by decide) hw2 (fun _ h9 => h9) rfl (tyX2_ok 1 (by decide)) rfl rfl (Nat.le_of_ble_eq_true rfl) dX2_drop_7 (fun H locs hP hD hS => ?_)
  have hP : va_P D vwCl (LW ad cI cO (up2 g 4 rr (-1)) b d X) H := by
    have h9 := hP
    rw [← LW_r1 hrr]
    exact h9
  have hD : va_D A (LW ad cI cO (up2 g 4 rr (-1)) b d X) := by
    have h9 := hD
    rw [← LW_r1 hrr]
    exact h9
  refine lv_aload_n hx hb dX2_drop_10 rfl (lv_at hl 1 rfl) ?_
  refine lv_iconst (v := 0) hx hb dX2_drop_11 (by decide) ?_
  refine va_put (D := D) (ci := 2) (v := .int 0) (C := RX2) (T := TX2) (N := 3) hx hb hts iX2 tyX2 tyX2_ok nmX2 hown hK hP hD hS (12 + rr) (LW_r hrr) rfl 2 (by decide) hw0 (fun _ h9 => h9) rfl (tyX2_ok 2 (by decide)) rfl rfl (Nat.le_of_ble_eq_true rfl) dX2_drop_12 (fun H locs hP hD hS => ?_)
  have hP : va_P D vwCl (LW ad cI cO (up2 (up2 g 4 rr (-1)) 5 rr 0) b d X) H := by
    have h9 := hP
    rw [← LW_r2 hrr]
    exact h9
  have hD : va_D A (LW ad cI cO (up2 (up2 g 4 rr (-1)) 5 rr 0) b d X) := by
    have h9 := hD
    rw [← LW_r2 hrr]
    exact h9
  refine lv_iload_n hx hb dX2_drop_15 rfl (lv_at hl 0 rfl) ?_
  exact W.iret (v := x_1) hx hb hr (fun t ht hW => ⟨⟨x_1, up2 (up2 g 4 rr (-1)) 5 rr 0, rfl, (by exact ⟨ex_1, rfl⟩), by rw [ht]; exact hP, hD⟩, hS.F ht⟩) hS.2.2 dX2_drop_16
set_option maxHeartbeats 4000000 in
set_option maxRecDepth 100000 in
theorem kX2_store (l : Launch) (D : va_G) (cI cO : ClassId) (tt : Nat) (ad : Nat → Nat) (g : Nat → Nat → Int32) (b : Nat → Int32) (d : Nat → Nat → Int64) (X : va_W) (sz : Nat) (rr : Nat) (i0 : Int32) (v0 : Int32) (hrr : rr < 8) (hI : WI g) (hi0 : 0 ≤ i0 ∧ i0 < g 5 rr) : MmV l yX2_store wsX2_store ({ frames := 1, cells := 0, slots := 0, locals := 21 }) D cI cO tt (LW ad cI cO g b d X) sz [.ref (ad (12 + rr)), .int i0, .int v0] (S := Nat → Nat → Int32) (fun u => LW ad cI cO u b d X) (fun u => u = up2 g (10 + rr) (rn i0) (nrw (g 4 rr) v0)) := by
  refine Met.ofW (cc := cX2_store) (maxL := 3) (ret := none) (by decide) rfl ?_
  intro p e s m args below meth c s₁ B hml hv
  obtain ⟨rfl, hsz, hP, hK, hD0, hZ, hN⟩ := hv
  have hx := B.exec
  have hb := B.bytes
  have hr := B.returns
  have hts := atoms_spec (ws := wsX2_store) B.pre
  have hown : s.vm.findClass RX2 = some m.cls := findClass_of_methodNamed B.named
  have hlocks := B.notSynchronized
  subst hsz
  have hD := hD0.self (sz := s.heap.size)
  generalize hAe : va_A (LW ad cI cO g b d X) s.heap.size = A at hD hZ ⊢
  have hA : ∀ q : Nat, s.heap.size ≤ q → A q := fun q h => by rw [← hAe]; exact Or.inr h
  have hS : va_S A s.heap s.heap [] := va_S.rf
  have hl := lv_entry ([.ref (ad (12 + rr)), .int i0, .int v0]) (n := 3) (Nat.le_of_ble_eq_true rfl)
  rw [lg_entry_eq]
  generalize (lg_sl ([.ref (ad (12 + rr)), .int i0, .int v0]) ++ List.replicate (3 - (lg_sl ([.ref (ad (12 + rr)), .int i0, .int v0])).length) Slot.unset).toArray = ls at hl ⊢
  have hl : lv_has ls 3 [(0, .ref (ad (12 + rr))), (1, .int i0), (2, .int v0)] := hl
  have hw0 := hts (.fieldLink RX2 9 "LayerSounder$Reel" "items" "[I") (List.mem_cons_of_mem _ (List.mem_append_left _ (List.mem_of_getElem? (i := 0) rfl)))
  have iX2 : ∀ w ∈ wsX20, w ∈ wsX2_store := fun _ h => List.mem_cons_of_mem _ (List.mem_append_right _ h)
  refine lv_aload_n hx hb dX2_store_0 rfl (lv_at hl 0 rfl) ?_
  refine lv_iload_n hx hb dX2_store_1 rfl (lv_at hl 1 rfl) ?_
  refine pcI (va_runV (As := [.int i0]) (rest := []) ⟨hx, hb, hml, hown, hts⟩ (kX2_holds l D cI cO tt ad g b d X s.heap rr i0 hrr) (cwV 1 hts gX2_store_X2_holds rfl rfl rfl (by decide +kernel) ⟨(Nat.le_of_ble_eq_true rfl), (Nat.le_of_ble_eq_true rfl)⟩) (pwV hK hZ hN hP hS (va_recv hK hP (ci := 2) (q0 := (12 + rr)) rfl (LW_r hrr))) rfl rfl hl.1 rfl (lv_room (Nat.le_of_ble_eq_true rfl)) dX2_store_2 ⟨Nat.zero_le _, Nat.zero_le _⟩) hS (fun locs hS => ?_)
  refine lv_if_eq (tgt := 19) hx hb dX2_store_5 (by decide) (fun c_1 => ?_) (fun c_1 => ?_)
  · have c_1 := bI_0.mp c_1
    exact absurd hi0 c_1
  · have c_1 := bI_n0.mp c_1
    refine lv_aload_n hx hb dX2_store_8 rfl (lv_at hl 0 rfl) ?_
    refine va_get (D := D) (ci := 2) (v := .ref (ad (20 + rr))) (C := RX2) (T := TX2) (N := 3) hx hb hts iX2 hown hK hP (12 + rr) (LW_r hrr) rfl 0 (by decide) hw0 (fun _ h9 => h9) rfl dX2_store_9 ?_
    refine lv_iload_n hx hb dX2_store_12 rfl (lv_at hl 1 rfl) ?_
    refine lv_aload_n hx hb dX2_store_13 rfl (lv_at hl 0 rfl) ?_
    refine lv_iload_n hx hb dX2_store_14 rfl (lv_at hl 2 rfl) ?_
    refine pcI (va_runV (As := [.int v0]) (rest := [.int i0, .ref (ad (20 + rr))]) ⟨hx, hb, hml, hown, hts⟩ (kX2_narrowed l D cI cO tt ad g b d X s.heap rr v0 hrr) (cwV 1 hts gX2_store_X2_narrowed rfl rfl rfl (by decide +kernel) ⟨(Nat.le_of_ble_eq_true rfl), (Nat.le_of_ble_eq_true rfl)⟩) (pwV hK hZ hN hP hS (va_recv hK hP (ci := 2) (q0 := (12 + rr)) rfl (LW_r hrr))) rfl rfl hl.1 rfl (lv_room (Nat.le_of_ble_eq_true rfl)) dX2_store_15 ⟨Nat.zero_le _, Nat.zero_le _⟩) hS (fun locs hS => ?_)
    refine va_iast hx hb hK hP hD hS (20 + rr) 0 (LW_i hrr) rfl (vin hi0.1 hi0.2 (hI.1 rr hrr).2 (by decide)) dX2_store_18 (fun H locs hP hD hS => ?_)
    have hP : va_P D vwCl (LW ad cI cO (up2 g (10 + rr) i0.toNatClampNeg (nrw (g 4 rr) v0)) b d X) H := by
      have h9 := hP
      rw [← LW_is hrr]
      exact h9
    have hD : va_D A (LW ad cI cO (up2 g (10 + rr) i0.toNatClampNeg (nrw (g 4 rr) v0)) b d X) := by
      have h9 := hD
      rw [← LW_is hrr]
      exact h9
    exact W.vret hx hb hr (fun t ht hW => ⟨⟨up2 g (10 + rr) i0.toNatClampNeg (nrw (g 4 rr) v0), rfl, (by rfl), by rw [ht]; exact hP, hD⟩, hS.F ht⟩) hS.2.2 dX2_store_19
set_option maxHeartbeats 4000000 in
set_option maxRecDepth 100000 in
theorem kX4_reel (l : Launch) (D : va_G) (cI cO : ClassId) (tt : Nat) (ad : Nat → Nat) (g : Nat → Nat → Int32) (b : Nat → Int32) (d : Nat → Nat → Int64) (X : va_W) (sz : Nat) (r0 : Int32) (f0 : Int32) (n0 : Int32)  : MmI l yX4_reel wsX4_reel ({ frames := 2, cells := 0, slots := 0, locals := 44 }) D cI cO tt (LW ad cI cO g b d X) sz [.ref (ad 0), .int r0, .int f0, .int n0] (S := (Nat → Nat → Int32) × (Nat → Int32) × (Nat → Nat → Int64)) (fun u => LW ad cI cO u.1 u.2.1 u.2.2 X) (fun z u => z = fReel r0 f0 n0 ∧ u.1 = gReel g r0 f0 n0) := by
  refine Met.ofW (cc := cX4_reel) (maxL := 4) (ret := (some .int)) (by decide) rfl ?_
  intro p e s m args below meth c s₁ B hml hv
  obtain ⟨rfl, hsz, hP, hK, hD0, hZ, hN⟩ := hv
  have hx := B.exec
  have hb := B.bytes
  have hr := B.returns
  have hts := atoms_spec (ws := wsX4_reel) B.pre
  have hown : s.vm.findClass RX4 = some m.cls := findClass_of_methodNamed B.named
  have hlocks := B.notSynchronized
  subst hsz
  have hD := hD0.self (sz := s.heap.size)
  generalize hAe : va_A (LW ad cI cO g b d X) s.heap.size = A at hD hZ ⊢
  have hA : ∀ q : Nat, s.heap.size ≤ q → A q := fun q h => by rw [← hAe]; exact Or.inr h
  have hS : va_S A s.heap s.heap [] := va_S.rf
  have hl := lv_entry ([.ref (ad 0), .int r0, .int f0, .int n0]) (n := 4) (Nat.le_of_ble_eq_true rfl)
  rw [lg_entry_eq]
  generalize (lg_sl ([.ref (ad 0), .int r0, .int f0, .int n0]) ++ List.replicate (4 - (lg_sl ([.ref (ad 0), .int r0, .int f0, .int n0])).length) Slot.unset).toArray = ls at hl ⊢
  have hl : lv_has ls 4 [(0, .ref (ad 0)), (1, .int r0), (2, .int f0), (3, .int n0)] := hl
  have hw0 := hts (.fieldLink RX4 11 "LayerSounder" "reels" "[LLayerSounder$Reel;") (List.mem_cons_of_mem _ (List.mem_append_left _ (List.mem_append_left _ (List.mem_append_left _ (List.mem_of_getElem? (l := wsX4_reel_r1) (i := 0) rfl)))))
  have iX4 : ∀ w ∈ wsX40, w ∈ wsX4_reel := fun _ h => List.mem_cons_of_mem _ (List.mem_append_left _ (List.mem_append_right _ h))
  refine lv_aload_n hx hb dX4_reel_0 rfl (lv_at hl 0 rfl) ?_
  refine lv_iload_n hx hb dX4_reel_1 rfl (lv_at hl 1 rfl) ?_
  refine pcI (va_runV (As := [.int r0]) (rest := []) ⟨hx, hb, hml, hown, hts⟩ (kX4_isReel l D cI cO tt ad g b d X s.heap r0 ) (cwV 1 hts gX4_reel_X4_isReel rfl rfl rfl (by decide +kernel) ⟨(Nat.le_of_ble_eq_true rfl), (Nat.le_of_ble_eq_true rfl)⟩) (pwV hK hZ hN hP hS (va_recv hK hP (ci := 4) (q0 := 0) rfl rfl)) rfl rfl hl.1 rfl (lv_room (Nat.le_of_ble_eq_true rfl)) dX4_reel_2 ⟨Nat.zero_le _, Nat.zero_le _⟩) hS (fun locs hS => ?_)
  refine lv_if_eq (tgt := 22) hx hb dX4_reel_5 (by decide) (fun c_1 => ?_) (fun c_1 => ?_)
  · have c_1 := bI_0.mp c_1
    refine lv_bipush (v := (-2)) hx hb dX4_reel_22 (by decide) ?_
    exact W.iret (v := (-2)) hx hb hr (fun t ht hW => ⟨⟨(-2), (g, b, d), rfl, (by constructor <;> grind [fReel, gReel]), by rw [ht]; exact hP, hD⟩, hS.F ht⟩) hS.2.2 dX4_reel_24
  · have c_1 := bI_n0.mp c_1
    obtain ⟨R1, eR1⟩ : ∃ k : Nat, k = rn r0 := ⟨_, rfl⟩
    have hR1 : R1 < 8 := by rw [eR1]; exact rc c_1
    refine lv_iload_n hx hb dX4_reel_8 rfl (lv_at hl 2 rfl) ?_
    refine pcI (va_runS (As := [.int f0]) (rest := []) ⟨hx, hb, hml, hown, hts⟩ (kX4_isForm l D cI cO tt (LW ad cI cO g b d X) s.heap f0 ) (va_cwS 1 hts gX4_reel_X4_isForm rfl rfl rfl (by decide +kernel) ⟨(Nat.le_of_ble_eq_true rfl), (Nat.le_of_ble_eq_true rfl)⟩) (pwS hK hZ hN hP hS) rfl rfl hl.1 rfl (lv_room (Nat.le_of_ble_eq_true rfl)) dX4_reel_9 ⟨Nat.zero_le _, Nat.zero_le _⟩) hS (fun locs hS => ?_)
    refine lv_if_eq (tgt := 22) hx hb dX4_reel_12 (by decide) (fun c_2 => ?_) (fun c_2 => ?_)
    · have c_2 := bI_0.mp c_2
      refine lv_bipush (v := (-2)) hx hb dX4_reel_22 (by decide) ?_
      exact W.iret (v := (-2)) hx hb hr (fun t ht hW => ⟨⟨(-2), (g, b, d), rfl, (by constructor <;> grind [fReel, gReel]), by rw [ht]; exact hP, hD⟩, hS.F ht⟩) hS.2.2 dX4_reel_24
    · have c_2 := bI_n0.mp c_2
      refine lv_iload_n hx hb dX4_reel_15 rfl (lv_at hl 3 rfl) ?_
      refine lv_sipush (v := 200) hx hb dX4_reel_16 (by decide) ?_
      refine lv_icmp_le (tgt := 25) hx hb dX4_reel_19 (by decide) (fun c_3 => ?_) (fun c_3 => ?_)
      · refine lv_iload_n hx hb dX4_reel_25 rfl (lv_at hl 3 rfl) ?_
        refine lv_if_ge (tgt := 35) hx hb dX4_reel_26 (by decide) (fun c_4 => ?_) (fun c_4 => ?_)
        · refine lv_aload_n hx hb dX4_reel_35 rfl (lv_at hl 0 rfl) ?_
          refine va_get (D := D) (ci := 4) (v := .ref (ad 1)) (C := RX4) (T := TX4) (N := 14) hx hb hts iX4 hown hK hP 0 rfl rfl 0 (by decide) hw0 (fun _ h9 => h9) rfl dX4_reel_36 ?_
          refine lv_iload_n hx hb dX4_reel_39 rfl (lv_at hl 1 rfl) ?_
          refine va_aldq hx hb hK hP 1 1 rfl rfl (rv c_1) dX4_reel_40 ?_
          refine rfr (w := ad (12 + R1)) (by rw [eR1]) ?_
          refine lv_iload_n hx hb dX4_reel_41 rfl (lv_at hl 2 rfl) ?_
          refine lv_iload_n hx hb dX4_reel_42 rfl (lv_at hl 3 rfl) ?_
          refine mcV (wf := fun u : Nat → Nat → Int32 => LW ad cI cO u b d X) (va_runV (As := [.int f0, .int n0]) (rest := []) ⟨hx, hb, hml, hown, hts⟩ (kX2_renew l D cI cO tt ad g b d X s.heap.size R1 f0 n0 hR1 (⟨c_4, c_3⟩)) (cwV 2 hts gX4_reel_X2_renew rfl rfl rfl (by decide +kernel) ⟨(Nat.le_of_ble_eq_true rfl), (Nat.le_of_ble_eq_true rfl)⟩) (mwV hK hZ hN hP hD hS hA (va_recv hK hP (ci := 2) (q0 := (12 + R1)) rfl (LW_r hR1))) rfl rfl hl.1 rfl (lv_room (Nat.le_of_ble_eq_true rfl)) dX4_reel_43 ⟨Nat.zero_le _, Nat.zero_le _⟩) hD hS hA (fun uu_5 H locs hu_5 hP hD hS => ?_)
          have hu_5 : uu_5 = zr (up2 (up2 g 4 R1 f0) 5 R1 n0) R1 (rn n0) := hu_5
          subst hu_5
          have hP : va_P D vwCl (LW ad cI cO (zr (up2 (up2 g 4 R1 f0) 5 R1 n0) R1 (rn n0)) b d X) H := hP
          have hD : va_D A (LW ad cI cO (zr (up2 (up2 g 4 R1 f0) 5 R1 n0) R1 (rn n0)) b d X) := hD
          refine lv_iload_n hx hb dX4_reel_46 rfl (lv_at hl 3 rfl) ?_
          exact W.iret (v := n0) hx hb hr (fun t ht hW => ⟨⟨n0, (zr (up2 (up2 g 4 R1 f0) 5 R1 n0) R1 (rn n0), b, d), rfl, (by constructor <;> grind [fReel, gReel]), by rw [ht]; exact hP, hD⟩, hS.F ht⟩) hS.2.2 dX4_reel_47
        · refine lv_aload_n hx hb dX4_reel_29 rfl (lv_at hl 0 rfl) ?_
          refine lv_iconst (v := 5) hx hb dX4_reel_30 (by decide) ?_
          refine mcI (wf := fun u : Nat → Nat → Int32 => LW ad cI cO u b d X) (va_runV (As := [.int 5]) (rest := []) ⟨hx, hb, hml, hown, hts⟩ (kX4_found l D cI cO tt ad g b d X s.heap.size 5 ) (cwV 1 hts gX4_reel_X4_found rfl rfl rfl (by decide +kernel) ⟨(Nat.le_of_ble_eq_true rfl), (Nat.le_of_ble_eq_true rfl)⟩) (mwV hK hZ hN hP hD hS hA (va_recv hK hP (ci := 4) (q0 := 0) rfl rfl)) rfl rfl hl.1 rfl (lv_room (Nat.le_of_ble_eq_true rfl)) dX4_reel_31 ⟨Nat.zero_le _, Nat.zero_le _⟩) hD hS hA (fun ru_6 uu_6 H locs hu_6 hP hD hS => ?_)
          obtain ⟨eru_6, euu_6⟩ := hu_6
          have euu_6 : uu_6 = up2 g 100 6 5 := euu_6
          subst eru_6
          subst euu_6
          have hP : va_P D vwCl (LW ad cI cO (up2 g 100 6 5) b d X) H := hP
          have hD : va_D A (LW ad cI cO (up2 g 100 6 5) b d X) := hD
          exact W.iret (v := (-10) - 5) hx hb hr (fun t ht hW => ⟨⟨(-10) - 5, (up2 g 100 6 5, b, d), rfl, (by constructor <;> grind [fReel, gReel]), by rw [ht]; exact hP, hD⟩, hS.F ht⟩) hS.2.2 dX4_reel_34
      · refine lv_bipush (v := (-2)) hx hb dX4_reel_22 (by decide) ?_
        exact W.iret (v := (-2)) hx hb hr (fun t ht hW => ⟨⟨(-2), (g, b, d), rfl, (by constructor <;> grind [fReel, gReel]), by rw [ht]; exact hP, hD⟩, hS.F ht⟩) hS.2.2 dX4_reel_24
set_option maxHeartbeats 4000000 in
set_option maxRecDepth 100000 in
theorem kX4_lose (l : Launch) (D : va_G) (cI cO : ClassId) (tt : Nat) (ad : Nat → Nat) (g : Nat → Nat → Int32) (b : Nat → Int32) (d : Nat → Nat → Int64) (X : va_W) (sz : Nat) (r0 : Int32)  : MmI l yX4_lose wsX4_lose ({ frames := 1, cells := 0, slots := 0, locals := 21 }) D cI cO tt (LW ad cI cO g b d X) sz [.ref (ad 0), .int r0] (S := (Nat → Nat → Int32) × (Nat → Int32) × (Nat → Nat → Int64)) (fun u => LW ad cI cO u.1 u.2.1 u.2.2 X) (fun z u => z = fLose g r0 ∧ u.1 = gLose g r0) := by
  refine Met.ofW (cc := cX4_lose) (maxL := 2) (ret := (some .int)) (by decide) rfl ?_
  intro p e s m args below meth c s₁ B hml hv
  obtain ⟨rfl, hsz, hP, hK, hD0, hZ, hN⟩ := hv
  have hx := B.exec
  have hb := B.bytes
  have hr := B.returns
  have hts := atoms_spec (ws := wsX4_lose) B.pre
  have hown : s.vm.findClass RX4 = some m.cls := findClass_of_methodNamed B.named
  have hlocks := B.notSynchronized
  subst hsz
  have hD := hD0.self (sz := s.heap.size)
  generalize hAe : va_A (LW ad cI cO g b d X) s.heap.size = A at hD hZ ⊢
  have hA : ∀ q : Nat, s.heap.size ≤ q → A q := fun q h => by rw [← hAe]; exact Or.inr h
  have hS : va_S A s.heap s.heap [] := va_S.rf
  have hl := lv_entry ([.ref (ad 0), .int r0]) (n := 2) (Nat.le_of_ble_eq_true rfl)
  rw [lg_entry_eq]
  generalize (lg_sl ([.ref (ad 0), .int r0]) ++ List.replicate (2 - (lg_sl ([.ref (ad 0), .int r0])).length) Slot.unset).toArray = ls at hl ⊢
  have hl : lv_has ls 2 [(0, .ref (ad 0)), (1, .int r0)] := hl
  have hw0 := hts (.fieldLink RX4 11 "LayerSounder" "reels" "[LLayerSounder$Reel;") (List.mem_cons_of_mem _ (List.mem_append_left _ (List.mem_append_left _ (List.mem_of_getElem? (i := 0) rfl))))
  have iX4 : ∀ w ∈ wsX40, w ∈ wsX4_lose := fun _ h => List.mem_cons_of_mem _ (List.mem_append_left _ (List.mem_append_right _ h))
  refine lv_aload_n hx hb dX4_lose_0 rfl (lv_at hl 0 rfl) ?_
  refine lv_iload_n hx hb dX4_lose_1 rfl (lv_at hl 1 rfl) ?_
  refine pcI (va_runV (As := [.int r0]) (rest := []) ⟨hx, hb, hml, hown, hts⟩ (kX4_isReel l D cI cO tt ad g b d X s.heap r0 ) (cwV 1 hts gX4_lose_X4_isReel rfl rfl rfl (by decide +kernel) ⟨(Nat.le_of_ble_eq_true rfl), (Nat.le_of_ble_eq_true rfl)⟩) (pwV hK hZ hN hP hS (va_recv hK hP (ci := 4) (q0 := 0) rfl rfl)) rfl rfl hl.1 rfl (lv_room (Nat.le_of_ble_eq_true rfl)) dX4_lose_2 ⟨Nat.zero_le _, Nat.zero_le _⟩) hS (fun locs hS => ?_)
  refine lv_if_ne (tgt := 11) hx hb dX4_lose_5 (by decide) (fun c_1 => ?_) (fun c_1 => ?_)
  · have c_1 := bI_n0.mp c_1
    obtain ⟨R1, eR1⟩ : ∃ k : Nat, k = rn r0 := ⟨_, rfl⟩
    have hR1 : R1 < 8 := by rw [eR1]; exact rc c_1
    refine lv_aload_n hx hb dX4_lose_11 rfl (lv_at hl 0 rfl) ?_
    refine va_get (D := D) (ci := 4) (v := .ref (ad 1)) (C := RX4) (T := TX4) (N := 14) hx hb hts iX4 hown hK hP 0 rfl rfl 0 (by decide) hw0 (fun _ h9 => h9) rfl dX4_lose_12 ?_
    refine lv_iload_n hx hb dX4_lose_15 rfl (lv_at hl 1 rfl) ?_
    refine va_aldq hx hb hK hP 1 1 rfl rfl (rv c_1) dX4_lose_16 ?_
    refine rfr (w := ad (12 + R1)) (by rw [eR1]) ?_
    refine pcI (va_runV (As := []) (rest := []) ⟨hx, hb, hml, hown, hts⟩ (kX2_isLost l D cI cO tt ad g b d X s.heap R1 hR1) (cwV 0 hts gX4_lose_X2_isLost rfl rfl rfl (by decide +kernel) ⟨(Nat.le_of_ble_eq_true rfl), (Nat.le_of_ble_eq_true rfl)⟩) (pwV hK hZ hN hP hS (va_recv hK hP (ci := 2) (q0 := (12 + R1)) rfl (LW_r hR1))) rfl rfl hl.1 rfl (lv_room (Nat.le_of_ble_eq_true rfl)) dX4_lose_17 ⟨Nat.zero_le _, Nat.zero_le _⟩) hS (fun locs hS => ?_)
    refine lv_if_eq (tgt := 29) hx hb dX4_lose_20 (by decide) (fun c_2 => ?_) (fun c_2 => ?_)
    · have c_2 := bI_0.mp c_2
      refine lv_aload_n hx hb dX4_lose_29 rfl (lv_at hl 0 rfl) ?_
      refine va_get (D := D) (ci := 4) (v := .ref (ad 1)) (C := RX4) (T := TX4) (N := 14) hx hb hts iX4 hown hK hP 0 rfl rfl 0 (by decide) hw0 (fun _ h9 => h9) rfl dX4_lose_30 ?_
      refine lv_iload_n hx hb dX4_lose_33 rfl (lv_at hl 1 rfl) ?_
      refine va_aldq hx hb hK hP 1 1 rfl rfl (rv c_1) dX4_lose_34 ?_
      refine rfr (w := ad (12 + R1)) (by rw [eR1]) ?_
      refine mcI (wf := fun u : Nat → Nat → Int32 => LW ad cI cO u b d X) (va_runV (As := []) (rest := []) ⟨hx, hb, hml, hown, hts⟩ (kX2_drop l D cI cO tt ad g b d X s.heap.size R1 hR1) (cwV 0 hts gX4_lose_X2_drop rfl rfl rfl (by decide +kernel) ⟨(Nat.le_of_ble_eq_true rfl), (Nat.le_of_ble_eq_true rfl)⟩) (mwV hK hZ hN hP hD hS hA (va_recv hK hP (ci := 2) (q0 := (12 + R1)) rfl (LW_r hR1))) rfl rfl hl.1 rfl (lv_room (Nat.le_of_ble_eq_true rfl)) dX4_lose_35 ⟨Nat.zero_le _, Nat.zero_le _⟩) hD hS hA (fun ru_3 uu_3 H locs hu_3 hP hD hS => ?_)
      obtain ⟨eru_3, euu_3⟩ := hu_3
      have euu_3 : uu_3 = up2 (up2 g 4 R1 (-1)) 5 R1 0 := euu_3
      subst eru_3
      subst euu_3
      have hP : va_P D vwCl (LW ad cI cO (up2 (up2 g 4 R1 (-1)) 5 R1 0) b d X) H := hP
      have hD : va_D A (LW ad cI cO (up2 (up2 g 4 R1 (-1)) 5 R1 0) b d X) := hD
      exact W.iret (v := g 5 R1) hx hb hr (fun t ht hW => ⟨⟨g 5 R1, (up2 (up2 g 4 R1 (-1)) 5 R1 0, b, d), rfl, (by constructor <;> grind [fLose, gLose]), by rw [ht]; exact hP, hD⟩, hS.F ht⟩) hS.2.2 dX4_lose_38
    · have c_2 := bI_n0.mp c_2
      refine lv_aload_n hx hb dX4_lose_23 rfl (lv_at hl 0 rfl) ?_
      refine lv_iconst (v := 1) hx hb dX4_lose_24 (by decide) ?_
      refine mcI (wf := fun u : Nat → Nat → Int32 => LW ad cI cO u b d X) (va_runV (As := [.int 1]) (rest := []) ⟨hx, hb, hml, hown, hts⟩ (kX4_found l D cI cO tt ad g b d X s.heap.size 1 ) (cwV 1 hts gX4_lose_X4_found rfl rfl rfl (by decide +kernel) ⟨(Nat.le_of_ble_eq_true rfl), (Nat.le_of_ble_eq_true rfl)⟩) (mwV hK hZ hN hP hD hS hA (va_recv hK hP (ci := 4) (q0 := 0) rfl rfl)) rfl rfl hl.1 rfl (lv_room (Nat.le_of_ble_eq_true rfl)) dX4_lose_25 ⟨Nat.zero_le _, Nat.zero_le _⟩) hD hS hA (fun ru_4 uu_4 H locs hu_4 hP hD hS => ?_)
      obtain ⟨eru_4, euu_4⟩ := hu_4
      have euu_4 : uu_4 = up2 g 100 6 1 := euu_4
      subst eru_4
      subst euu_4
      have hP : va_P D vwCl (LW ad cI cO (up2 g 100 6 1) b d X) H := hP
      have hD : va_D A (LW ad cI cO (up2 g 100 6 1) b d X) := hD
      exact W.iret (v := (-10) - 1) hx hb hr (fun t ht hW => ⟨⟨(-10) - 1, (up2 g 100 6 1, b, d), rfl, (by constructor <;> grind [fLose, gLose]), by rw [ht]; exact hP, hD⟩, hS.F ht⟩) hS.2.2 dX4_lose_28
  · have c_1 := bI_0.mp c_1
    refine lv_bipush (v := (-2)) hx hb dX4_lose_8 (by decide) ?_
    exact W.iret (v := (-2)) hx hb hr (fun t ht hW => ⟨⟨(-2), (g, b, d), rfl, (by constructor <;> grind [fLose, gLose]), by rw [ht]; exact hP, hD⟩, hS.F ht⟩) hS.2.2 dX4_lose_10
set_option maxHeartbeats 4000000 in
set_option maxRecDepth 100000 in
theorem kX4_put (l : Launch) (D : va_G) (cI cO : ClassId) (tt : Nat) (ad : Nat → Nat) (g : Nat → Nat → Int32) (b : Nat → Int32) (d : Nat → Nat → Int64) (X : va_W) (sz : Nat) (r0 : Int32) (f0 : Int32) (i0 : Int32) (v0 : Int32) (hI : WI g) : MmI l yX4_put wsX4_put ({ frames := 2, cells := 0, slots := 0, locals := 43 }) D cI cO tt (LW ad cI cO g b d X) sz [.ref (ad 0), .int r0, .int f0, .int i0, .int v0] (S := (Nat → Nat → Int32) × (Nat → Int32) × (Nat → Nat → Int64)) (fun u => LW ad cI cO u.1 u.2.1 u.2.2 X) (fun z u => z = fPut g r0 f0 i0 ∧ u.1 = gPut g r0 f0 i0 v0) := by
  refine Met.ofW (cc := cX4_put) (maxL := 6) (ret := (some .int)) (by decide) rfl ?_
  intro p e s m args below meth c s₁ B hml hv
  obtain ⟨rfl, hsz, hP, hK, hD0, hZ, hN⟩ := hv
  have hx := B.exec
  have hb := B.bytes
  have hr := B.returns
  have hts := atoms_spec (ws := wsX4_put) B.pre
  have hown : s.vm.findClass RX4 = some m.cls := findClass_of_methodNamed B.named
  have hlocks := B.notSynchronized
  subst hsz
  have hD := hD0.self (sz := s.heap.size)
  generalize hAe : va_A (LW ad cI cO g b d X) s.heap.size = A at hD hZ ⊢
  have hA : ∀ q : Nat, s.heap.size ≤ q → A q := fun q h => by rw [← hAe]; exact Or.inr h
  have hS : va_S A s.heap s.heap [] := va_S.rf
  have hl := lv_entry ([.ref (ad 0), .int r0, .int f0, .int i0, .int v0]) (n := 6) (Nat.le_of_ble_eq_true rfl)
  rw [lg_entry_eq]
  generalize (lg_sl ([.ref (ad 0), .int r0, .int f0, .int i0, .int v0]) ++ List.replicate (6 - (lg_sl ([.ref (ad 0), .int r0, .int f0, .int i0, .int v0])).length) Slot.unset).toArray = ls at hl ⊢
  have hl : lv_has ls 6 [(0, .ref (ad 0)), (1, .int r0), (2, .int f0), (3, .int i0), (4, .int v0)] := hl
  have hw0 := hts (.fieldLink RX4 11 "LayerSounder" "reels" "[LLayerSounder$Reel;") (List.mem_cons_of_mem _ (List.mem_append_left _ (List.mem_append_left _ (List.mem_append_left _ (List.mem_of_getElem? (l := wsX4_put_r1) (i := 0) rfl)))))
  have iX4 : ∀ w ∈ wsX40, w ∈ wsX4_put := fun _ h => List.mem_cons_of_mem _ (List.mem_append_left _ (List.mem_append_right _ h))
  refine lv_aload_n hx hb dX4_put_0 rfl (lv_at hl 0 rfl) ?_
  refine lv_iload_n hx hb dX4_put_1 rfl (lv_at hl 1 rfl) ?_
  refine pcI (va_runV (As := [.int r0]) (rest := []) ⟨hx, hb, hml, hown, hts⟩ (kX4_isReel l D cI cO tt ad g b d X s.heap r0 ) (cwV 1 hts gX4_put_X4_isReel rfl rfl rfl (by decide +kernel) ⟨(Nat.le_of_ble_eq_true rfl), (Nat.le_of_ble_eq_true rfl)⟩) (pwV hK hZ hN hP hS (va_recv hK hP (ci := 4) (q0 := 0) rfl rfl)) rfl rfl hl.1 rfl (lv_room (Nat.le_of_ble_eq_true rfl)) dX4_put_2 ⟨Nat.zero_le _, Nat.zero_le _⟩) hS (fun locs hS => ?_)
  refine lv_if_eq (tgt := 15) hx hb dX4_put_5 (by decide) (fun c_1 => ?_) (fun c_1 => ?_)
  · have c_1 := bI_0.mp c_1
    refine lv_bipush (v := (-2)) hx hb dX4_put_15 (by decide) ?_
    exact W.iret (v := (-2)) hx hb hr (fun t ht hW => ⟨⟨(-2), (g, b, d), rfl, (by constructor <;> grind [fPut, gPut]), by rw [ht]; exact hP, hD⟩, hS.F ht⟩) hS.2.2 dX4_put_17
  · have c_1 := bI_n0.mp c_1
    obtain ⟨R1, eR1⟩ : ∃ k : Nat, k = rn r0 := ⟨_, rfl⟩
    have hR1 : R1 < 8 := by rw [eR1]; exact rc c_1
    refine lv_iload_n hx hb dX4_put_8 rfl (lv_at hl 2 rfl) ?_
    refine pcI (va_runS (As := [.int f0]) (rest := []) ⟨hx, hb, hml, hown, hts⟩ (kX4_isForm l D cI cO tt (LW ad cI cO g b d X) s.heap f0 ) (va_cwS 1 hts gX4_put_X4_isForm rfl rfl rfl (by decide +kernel) ⟨(Nat.le_of_ble_eq_true rfl), (Nat.le_of_ble_eq_true rfl)⟩) (pwS hK hZ hN hP hS) rfl rfl hl.1 rfl (lv_room (Nat.le_of_ble_eq_true rfl)) dX4_put_9 ⟨Nat.zero_le _, Nat.zero_le _⟩) hS (fun locs hS => ?_)
    refine lv_if_ne (tgt := 18) hx hb dX4_put_12 (by decide) (fun c_2 => ?_) (fun c_2 => ?_)
    · have c_2 := bI_n0.mp c_2
      refine lv_aload_n hx hb dX4_put_18 rfl (lv_at hl 0 rfl) ?_
      refine va_get (D := D) (ci := 4) (v := .ref (ad 1)) (C := RX4) (T := TX4) (N := 14) hx hb hts iX4 hown hK hP 0 rfl rfl 0 (by decide) hw0 (fun _ h9 => h9) rfl dX4_put_19 ?_
      refine lv_iload_n hx hb dX4_put_22 rfl (lv_at hl 1 rfl) ?_
      refine va_aldq hx hb hK hP 1 1 rfl rfl (rv c_1) dX4_put_23 ?_
      refine rfr (w := ad (12 + R1)) (by rw [eR1]) ?_
      refine lv_iload_n hx hb dX4_put_24 rfl (lv_at hl 2 rfl) ?_
      refine lv_iload_n hx hb dX4_put_25 rfl (lv_at hl 3 rfl) ?_
      refine pcI (va_runV (As := [.int f0, .int i0]) (rest := []) ⟨hx, hb, hml, hown, hts⟩ (kX2_findingAt l D cI cO tt ad g b d X s.heap R1 f0 i0 hR1) (cwV 2 hts gX4_put_X2_findingAt rfl rfl rfl (by decide +kernel) ⟨(Nat.le_of_ble_eq_true rfl), (Nat.le_of_ble_eq_true rfl)⟩) (pwV hK hZ hN hP hS (va_recv hK hP (ci := 2) (q0 := (12 + R1)) rfl (LW_r hR1))) rfl rfl hl.1 rfl (lv_room (Nat.le_of_ble_eq_true rfl)) dX4_put_26 ⟨Nat.zero_le _, Nat.zero_le _⟩) hS (fun locs hS => ?_)
      refine lv_topi (fun x_3 ex_3 => ?_)
      refine lv_istore (lv' := [(5, .int x_3), (0, .ref (ad 0)), (1, .int r0), (2, .int f0), (3, .int i0), (4, .int v0)]) hx hb dX4_put_29 hl (by decide) rfl (fun ls hl => ?_)
      refine lv_iload hx hb dX4_put_31 (lv_at hl 0 rfl) ?_
      refine lv_if_eq (tgt := 43) hx hb dX4_put_33 (by decide) (fun c_4 => ?_) (fun c_4 => ?_)
      · refine lv_aload_n hx hb dX4_put_43 rfl (lv_at hl 1 rfl) ?_
        refine va_get (D := D) (ci := 4) (v := .ref (ad 1)) (C := RX4) (T := TX4) (N := 14) hx hb hts iX4 hown hK hP 0 rfl rfl 0 (by decide) hw0 (fun _ h9 => h9) rfl dX4_put_44 ?_
        refine lv_iload_n hx hb dX4_put_47 rfl (lv_at hl 2 rfl) ?_
        refine va_aldq hx hb hK hP 1 1 rfl rfl (rv c_1) dX4_put_48 ?_
        refine rfr (w := ad (12 + R1)) (by rw [eR1]) ?_
        refine lv_iload_n hx hb dX4_put_49 rfl (lv_at hl 4 rfl) ?_
        refine lv_iload hx hb dX4_put_50 (lv_at hl 5 rfl) ?_
        refine mcV (wf := fun u : Nat → Nat → Int32 => LW ad cI cO u b d X) (va_runV (As := [.int i0, .int v0]) (rest := []) ⟨hx, hb, hml, hown, hts⟩ (kX2_store l D cI cO tt ad g b d X s.heap.size R1 i0 v0 hR1 hI (fnd_in (ex_3.symm.trans c_4))) (cwV 2 hts gX4_put_X2_store rfl rfl rfl (by decide +kernel) ⟨(Nat.le_of_ble_eq_true rfl), (Nat.le_of_ble_eq_true rfl)⟩) (mwV hK hZ hN hP hD hS hA (va_recv hK hP (ci := 2) (q0 := (12 + R1)) rfl (LW_r hR1))) rfl rfl hl.1 rfl (lv_room (Nat.le_of_ble_eq_true rfl)) dX4_put_52 ⟨Nat.zero_le _, Nat.zero_le _⟩) hD hS hA (fun uu_5 H locs hu_5 hP hD hS => ?_)
        have hu_5 : uu_5 = up2 g (10 + R1) (rn i0) (nrw (g 4 R1) v0) := hu_5
        subst hu_5
        have hP : va_P D vwCl (LW ad cI cO (up2 g (10 + R1) (rn i0) (nrw (g 4 R1) v0)) b d X) H := hP
        have hD : va_D A (LW ad cI cO (up2 g (10 + R1) (rn i0) (nrw (g 4 R1) v0)) b d X) := hD
        refine lv_iconst (v := 1) hx hb dX4_put_55 (by decide) ?_
        exact W.iret (v := 1) hx hb hr (fun t ht hW => ⟨⟨1, (up2 g (10 + R1) (rn i0) (nrw (g 4 R1) v0), b, d), rfl, (by constructor <;> grind [fPut, gPut]), by rw [ht]; exact hP, hD⟩, hS.F ht⟩) hS.2.2 dX4_put_56
      · refine lv_aload_n hx hb dX4_put_36 rfl (lv_at hl 1 rfl) ?_
        refine lv_iload hx hb dX4_put_37 (lv_at hl 0 rfl) ?_
        refine mcI (wf := fun u : Nat → Nat → Int32 => LW ad cI cO u b d X) (va_runV (As := [.int x_3]) (rest := []) ⟨hx, hb, hml, hown, hts⟩ (kX4_found l D cI cO tt ad g b d X s.heap.size x_3 ) (cwV 1 hts gX4_put_X4_found rfl rfl rfl (by decide +kernel) ⟨(Nat.le_of_ble_eq_true rfl), (Nat.le_of_ble_eq_true rfl)⟩) (mwV hK hZ hN hP hD hS hA (va_recv hK hP (ci := 4) (q0 := 0) rfl rfl)) rfl rfl hl.1 rfl (lv_room (Nat.le_of_ble_eq_true rfl)) dX4_put_39 ⟨Nat.zero_le _, Nat.zero_le _⟩) hD hS hA (fun ru_6 uu_6 H locs hu_6 hP hD hS => ?_)
        obtain ⟨eru_6, euu_6⟩ := hu_6
        have euu_6 : uu_6 = up2 g 100 6 x_3 := euu_6
        subst eru_6
        subst euu_6
        have hP : va_P D vwCl (LW ad cI cO (up2 g 100 6 x_3) b d X) H := hP
        have hD : va_D A (LW ad cI cO (up2 g 100 6 x_3) b d X) := hD
        exact W.iret (v := (-10) - x_3) hx hb hr (fun t ht hW => ⟨⟨(-10) - x_3, (up2 g 100 6 x_3, b, d), rfl, (by constructor <;> grind [fPut, gPut]), by rw [ht]; exact hP, hD⟩, hS.F ht⟩) hS.2.2 dX4_put_42
    · have c_2 := bI_0.mp c_2
      refine lv_bipush (v := (-2)) hx hb dX4_put_15 (by decide) ?_
      exact W.iret (v := (-2)) hx hb hr (fun t ht hW => ⟨⟨(-2), (g, b, d), rfl, (by constructor <;> grind [fPut, gPut]), by rw [ht]; exact hP, hD⟩, hS.F ht⟩) hS.2.2 dX4_put_17
set_option maxHeartbeats 4000000 in
set_option maxRecDepth 100000 in
theorem kX4_get (l : Launch) (D : va_G) (cI cO : ClassId) (tt : Nat) (ad : Nat → Nat) (g : Nat → Nat → Int32) (b : Nat → Int32) (d : Nat → Nat → Int64) (X : va_W) (sz : Nat) (r0 : Int32) (f0 : Int32) (i0 : Int32) (hI : WI g) : MmI l yX4_get wsX4_get ({ frames := 2, cells := 0, slots := 0, locals := 43 }) D cI cO tt (LW ad cI cO g b d X) sz [.ref (ad 0), .int r0, .int f0, .int i0] (S := (Nat → Nat → Int32) × (Nat → Int32) × (Nat → Nat → Int64)) (fun u => LW ad cI cO u.1 u.2.1 u.2.2 X) (fun z u => z = fGet g r0 f0 i0 ∧ u.1 = gGet g r0 f0 i0) := by
  refine Met.ofW (cc := cX4_get) (maxL := 5) (ret := (some .int)) (by decide) rfl ?_
  intro p e s m args below meth c s₁ B hml hv
  obtain ⟨rfl, hsz, hP, hK, hD0, hZ, hN⟩ := hv
  have hx := B.exec
  have hb := B.bytes
  have hr := B.returns
  have hts := atoms_spec (ws := wsX4_get) B.pre
  have hown : s.vm.findClass RX4 = some m.cls := findClass_of_methodNamed B.named
  have hlocks := B.notSynchronized
  subst hsz
  have hD := hD0.self (sz := s.heap.size)
  generalize hAe : va_A (LW ad cI cO g b d X) s.heap.size = A at hD hZ ⊢
  have hA : ∀ q : Nat, s.heap.size ≤ q → A q := fun q h => by rw [← hAe]; exact Or.inr h
  have hS : va_S A s.heap s.heap [] := va_S.rf
  have hl := lv_entry ([.ref (ad 0), .int r0, .int f0, .int i0]) (n := 5) (Nat.le_of_ble_eq_true rfl)
  rw [lg_entry_eq]
  generalize (lg_sl ([.ref (ad 0), .int r0, .int f0, .int i0]) ++ List.replicate (5 - (lg_sl ([.ref (ad 0), .int r0, .int f0, .int i0])).length) Slot.unset).toArray = ls at hl ⊢
  have hl : lv_has ls 5 [(0, .ref (ad 0)), (1, .int r0), (2, .int f0), (3, .int i0)] := hl
  have hw0 := hts (.constant RX4 99 (-2147483648)) (List.mem_cons_of_mem _ (List.mem_append_left _ (List.mem_append_left _ (List.mem_append_left _ (List.mem_of_getElem? (l := wsX4_get_r1) (i := 0) rfl)))))
  have hw1 := hts (.fieldLink RX4 11 "LayerSounder" "reels" "[LLayerSounder$Reel;") (List.mem_cons_of_mem _ (List.mem_append_left _ (List.mem_append_left _ (List.mem_append_left _ (List.mem_of_getElem? (l := wsX4_get_r1) (i := 1) rfl)))))
  have iX4 : ∀ w ∈ wsX40, w ∈ wsX4_get := fun _ h => List.mem_cons_of_mem _ (List.mem_append_left _ (List.mem_append_right _ h))
  refine lv_aload_n hx hb dX4_get_0 rfl (lv_at hl 0 rfl) ?_
  refine lv_iload_n hx hb dX4_get_1 rfl (lv_at hl 1 rfl) ?_
  refine pcI (va_runV (As := [.int r0]) (rest := []) ⟨hx, hb, hml, hown, hts⟩ (kX4_isReel l D cI cO tt ad g b d X s.heap r0 ) (cwV 1 hts gX4_get_X4_isReel rfl rfl rfl (by decide +kernel) ⟨(Nat.le_of_ble_eq_true rfl), (Nat.le_of_ble_eq_true rfl)⟩) (pwV hK hZ hN hP hS (va_recv hK hP (ci := 4) (q0 := 0) rfl rfl)) rfl rfl hl.1 rfl (lv_room (Nat.le_of_ble_eq_true rfl)) dX4_get_2 ⟨Nat.zero_le _, Nat.zero_le _⟩) hS (fun locs hS => ?_)
  refine lv_if_eq (tgt := 15) hx hb dX4_get_5 (by decide) (fun c_1 => ?_) (fun c_1 => ?_)
  · have c_1 := bI_0.mp c_1
    refine lv_ldc hx hb hown hw0 dX4_get_15 ?_
    exact W.iret (v := (-2147483648)) hx hb hr (fun t ht hW => ⟨⟨(-2147483648), (g, b, d), rfl, (by constructor <;> grind [fGet, gGet, fnd]), by rw [ht]; exact hP, hD⟩, hS.F ht⟩) hS.2.2 dX4_get_17
  · have c_1 := bI_n0.mp c_1
    obtain ⟨R1, eR1⟩ : ∃ k : Nat, k = rn r0 := ⟨_, rfl⟩
    have hR1 : R1 < 8 := by rw [eR1]; exact rc c_1
    refine lv_iload_n hx hb dX4_get_8 rfl (lv_at hl 2 rfl) ?_
    refine pcI (va_runS (As := [.int f0]) (rest := []) ⟨hx, hb, hml, hown, hts⟩ (kX4_isForm l D cI cO tt (LW ad cI cO g b d X) s.heap f0 ) (va_cwS 1 hts gX4_get_X4_isForm rfl rfl rfl (by decide +kernel) ⟨(Nat.le_of_ble_eq_true rfl), (Nat.le_of_ble_eq_true rfl)⟩) (pwS hK hZ hN hP hS) rfl rfl hl.1 rfl (lv_room (Nat.le_of_ble_eq_true rfl)) dX4_get_9 ⟨Nat.zero_le _, Nat.zero_le _⟩) hS (fun locs hS => ?_)
    refine lv_if_ne (tgt := 18) hx hb dX4_get_12 (by decide) (fun c_2 => ?_) (fun c_2 => ?_)
    · have c_2 := bI_n0.mp c_2
      refine lv_aload_n hx hb dX4_get_18 rfl (lv_at hl 0 rfl) ?_
      refine va_get (D := D) (ci := 4) (v := .ref (ad 1)) (C := RX4) (T := TX4) (N := 14) hx hb hts iX4 hown hK hP 0 rfl rfl 0 (by decide) hw1 (fun _ h9 => h9) rfl dX4_get_19 ?_
      refine lv_iload_n hx hb dX4_get_22 rfl (lv_at hl 1 rfl) ?_
      refine va_aldq hx hb hK hP 1 1 rfl rfl (rv c_1) dX4_get_23 ?_
      refine rfr (w := ad (12 + R1)) (by rw [eR1]) ?_
      refine lv_iload_n hx hb dX4_get_24 rfl (lv_at hl 2 rfl) ?_
      refine lv_iload_n hx hb dX4_get_25 rfl (lv_at hl 3 rfl) ?_
      refine pcI (va_runV (As := [.int f0, .int i0]) (rest := []) ⟨hx, hb, hml, hown, hts⟩ (kX2_findingAt l D cI cO tt ad g b d X s.heap R1 f0 i0 hR1) (cwV 2 hts gX4_get_X2_findingAt rfl rfl rfl (by decide +kernel) ⟨(Nat.le_of_ble_eq_true rfl), (Nat.le_of_ble_eq_true rfl)⟩) (pwV hK hZ hN hP hS (va_recv hK hP (ci := 2) (q0 := (12 + R1)) rfl (LW_r hR1))) rfl rfl hl.1 rfl (lv_room (Nat.le_of_ble_eq_true rfl)) dX4_get_26 ⟨Nat.zero_le _, Nat.zero_le _⟩) hS (fun locs hS => ?_)
      refine lv_topi (fun x_3 ex_3 => ?_)
      refine lv_istore (lv' := [(4, .int x_3), (0, .ref (ad 0)), (1, .int r0), (2, .int f0), (3, .int i0)]) hx hb dX4_get_29 hl (by decide) rfl (fun ls hl => ?_)
      refine lv_iload hx hb dX4_get_31 (lv_at hl 0 rfl) ?_
      refine lv_if_eq (tgt := 46) hx hb dX4_get_33 (by decide) (fun c_4 => ?_) (fun c_4 => ?_)
      · refine lv_aload_n hx hb dX4_get_46 rfl (lv_at hl 1 rfl) ?_
        refine va_get (D := D) (ci := 4) (v := .ref (ad 1)) (C := RX4) (T := TX4) (N := 14) hx hb hts iX4 hown hK hP 0 rfl rfl 0 (by decide) hw1 (fun _ h9 => h9) rfl dX4_get_47 ?_
        refine lv_iload_n hx hb dX4_get_50 rfl (lv_at hl 2 rfl) ?_
        refine va_aldq hx hb hK hP 1 1 rfl rfl (rv c_1) dX4_get_51 ?_
        refine rfr (w := ad (12 + R1)) (by rw [eR1]) ?_
        refine lv_iload_n hx hb dX4_get_52 rfl (lv_at hl 4 rfl) ?_
        refine pcI (va_runV (As := [.int i0]) (rest := []) ⟨hx, hb, hml, hown, hts⟩ (kX2_item l D cI cO tt ad g b d X s.heap R1 i0 hR1 hI) (cwV 1 hts gX4_get_X2_item rfl rfl rfl (by decide +kernel) ⟨(Nat.le_of_ble_eq_true rfl), (Nat.le_of_ble_eq_true rfl)⟩) (pwV hK hZ hN hP hS (va_recv hK hP (ci := 2) (q0 := (12 + R1)) rfl (LW_r hR1))) rfl rfl hl.1 rfl (lv_room (Nat.le_of_ble_eq_true rfl)) dX4_get_53 ⟨Nat.zero_le _, Nat.zero_le _⟩) hS (fun locs hS => ?_)
        exact W.iret (v := if 0 ≤ i0 ∧ i0 < g 5 R1 then g (10 + R1) i0.toNatClampNeg else 0) hx hb hr (fun t ht hW => ⟨⟨if 0 ≤ i0 ∧ i0 < g 5 R1 then g (10 + R1) i0.toNatClampNeg else 0, (g, b, d), rfl, (by constructor <;> grind [fGet, gGet, fnd]), by rw [ht]; exact hP, hD⟩, hS.F ht⟩) hS.2.2 dX4_get_56
      · refine lv_aload_n hx hb dX4_get_36 rfl (lv_at hl 1 rfl) ?_
        refine lv_iload hx hb dX4_get_37 (lv_at hl 0 rfl) ?_
        refine mcI (wf := fun u : Nat → Nat → Int32 => LW ad cI cO u b d X) (va_runV (As := [.int x_3]) (rest := []) ⟨hx, hb, hml, hown, hts⟩ (kX4_found l D cI cO tt ad g b d X s.heap.size x_3 ) (cwV 1 hts gX4_get_X4_found rfl rfl rfl (by decide +kernel) ⟨(Nat.le_of_ble_eq_true rfl), (Nat.le_of_ble_eq_true rfl)⟩) (mwV hK hZ hN hP hD hS hA (va_recv hK hP (ci := 4) (q0 := 0) rfl rfl)) rfl rfl hl.1 rfl (lv_room (Nat.le_of_ble_eq_true rfl)) dX4_get_39 ⟨Nat.zero_le _, Nat.zero_le _⟩) hD hS hA (fun ru_5 uu_5 H locs hu_5 hP hD hS => ?_)
        obtain ⟨eru_5, euu_5⟩ := hu_5
        have euu_5 : uu_5 = up2 g 100 6 x_3 := euu_5
        subst eru_5
        subst euu_5
        have hP : va_P D vwCl (LW ad cI cO (up2 g 100 6 x_3) b d X) H := hP
        have hD : va_D A (LW ad cI cO (up2 g 100 6 x_3) b d X) := hD
        refine lv_pop hx hb dX4_get_42 rfl ?_
        refine lv_ldc hx hb hown hw0 dX4_get_43 ?_
        exact W.iret (v := (-2147483648)) hx hb hr (fun t ht hW => ⟨⟨(-2147483648), (up2 g 100 6 x_3, b, d), rfl, (by constructor <;> grind [fGet, gGet, fnd]), by rw [ht]; exact hP, hD⟩, hS.F ht⟩) hS.2.2 dX4_get_45
    · have c_2 := bI_0.mp c_2
      refine lv_ldc hx hb hown hw0 dX4_get_15 ?_
      exact W.iret (v := (-2147483648)) hx hb hr (fun t ht hW => ⟨⟨(-2147483648), (g, b, d), rfl, (by constructor <;> grind [fGet, gGet, fnd]), by rw [ht]; exact hP, hD⟩, hS.F ht⟩) hS.2.2 dX4_get_17
set_option maxHeartbeats 4000000 in
set_option maxRecDepth 100000 in
theorem kX4_cells (l : Launch) (D : va_G) (cI cO : ClassId) (tt : Nat) (ad : Nat → Nat) (g : Nat → Nat → Int32) (b : Nat → Int32) (d : Nat → Nat → Int64) (X : va_W) (sz : Nat) (n0 : Int32)  : MmI l yX4_cells wsX4_cells ({ frames := 1, cells := 0, slots := 0, locals := 22 }) D cI cO tt (LW ad cI cO g b d X) sz [.ref (ad 0), .int n0] (S := (Nat → Nat → Int32) × (Nat → Int32) × (Nat → Nat → Int64)) (fun u => LW ad cI cO u.1 u.2.1 u.2.2 X) (fun z u => z = fCells g n0 ∧ u.1 = gCells g n0) := by
  refine Met.ofW (cc := cX4_cells) (maxL := 3) (ret := (some .int)) (by decide) rfl ?_
  intro p e s m args below meth c s₁ B hml hv
  obtain ⟨rfl, hsz, hP, hK, hD0, hZ, hN⟩ := hv
  have hx := B.exec
  have hb := B.bytes
  have hr := B.returns
  have hts := atoms_spec (ws := wsX4_cells) B.pre
  have hown : s.vm.findClass RX4 = some m.cls := findClass_of_methodNamed B.named
  have hlocks := B.notSynchronized
  subst hsz
  have hD := hD0.self (sz := s.heap.size)
  generalize hAe : va_A (LW ad cI cO g b d X) s.heap.size = A at hD hZ ⊢
  have hA : ∀ q : Nat, s.heap.size ≤ q → A q := fun q h => by rw [← hAe]; exact Or.inr h
  have hS : va_S A s.heap s.heap [] := va_S.rf
  have hl := lv_entry ([.ref (ad 0), .int n0]) (n := 3) (Nat.le_of_ble_eq_true rfl)
  rw [lg_entry_eq]
  generalize (lg_sl ([.ref (ad 0), .int n0]) ++ List.replicate (3 - (lg_sl ([.ref (ad 0), .int n0])).length) Slot.unset).toArray = ls at hl ⊢
  have hl : lv_has ls 3 [(0, .ref (ad 0)), (1, .int n0)] := hl
  have hw0 := hts (.fieldLink RX4 18 "LayerSounder" "track" "LLayerSounder$Track;") (List.mem_cons_of_mem _ (List.mem_append_left _ (List.mem_append_left _ (List.mem_of_getElem? (i := 0) rfl))))
  have iX4 : ∀ w ∈ wsX40, w ∈ wsX4_cells := fun _ h => List.mem_cons_of_mem _ (List.mem_append_left _ (List.mem_append_right _ h))
  have iX3 : ∀ w ∈ wsX30, w ∈ wsX4_cells := fun _ h => List.mem_cons_of_mem _ (List.mem_append_right _ h)
  have hw3 := hts (.fieldLink RX4 45 "LayerSounder" "layers" "I") (List.mem_cons_of_mem _ (List.mem_append_left _ (List.mem_append_left _ (List.mem_of_getElem? (i := 1) rfl))))
  refine lv_iload_n hx hb dX4_cells_0 rfl (lv_at hl 1 rfl) ?_
  refine lv_iconst (v := 1) hx hb dX4_cells_1 (by decide) ?_
  refine lv_bipush (v := 16) hx hb dX4_cells_2 (by decide) ?_
  refine pcI (va_runS (As := [.int n0, .int 1, .int 16]) (rest := []) ⟨hx, hb, hml, hown, hts⟩ (kX4_isWithin l D cI cO tt (LW ad cI cO g b d X) s.heap n0 1 16 ) (va_cwS 3 hts gX4_cells_X4_isWithin rfl rfl rfl (by decide +kernel) ⟨(Nat.le_of_ble_eq_true rfl), (Nat.le_of_ble_eq_true rfl)⟩) (pwS hK hZ hN hP hS) rfl rfl hl.1 rfl (lv_room (Nat.le_of_ble_eq_true rfl)) dX4_cells_4 ⟨Nat.zero_le _, Nat.zero_le _⟩) hS (fun locs hS => ?_)
  refine lv_if_ne (tgt := 13) hx hb dX4_cells_7 (by decide) (fun c_1 => ?_) (fun c_1 => ?_)
  · have c_1 := bI_n0.mp c_1
    refine lv_aload_n hx hb dX4_cells_13 rfl (lv_at hl 0 rfl) ?_
    refine va_get (D := D) (ci := 4) (v := .ref (ad 2)) (C := RX4) (T := TX4) (N := 14) hx hb hts iX4 hown hK hP 0 rfl rfl 1 (by decide) hw0 (fun _ h9 => h9) rfl dX4_cells_14 ?_
    refine va_getN (D := D) (ci := 3) (v := .int (g 100 7)) (C := RX3) (T := TX3) (N := 5) hx hb hts iX3 hown hK hP 2 rfl rfl 4 (by decide) (va_Nw.use rfl (hN.1 (124, RX3, "number", "I") (List.mem_of_getElem? (i := 2) rfl))) (fun _ h9 => h9) rfl dX4_cells_17 ?_
    refine lv_if_le (tgt := 26) hx hb dX4_cells_20 (by decide) (fun c_2 => ?_) (fun c_2 => ?_)
    · refine lv_aload_n hx hb dX4_cells_26 rfl (lv_at hl 0 rfl) ?_
      refine va_get (D := D) (ci := 4) (v := .int (g 100 0)) (C := RX4) (T := TX4) (N := 14) hx hb hts iX4 hown hK hP 0 rfl rfl 7 (by decide) hw3 (fun _ h9 => h9) rfl dX4_cells_27 ?_
      refine lv_topi (fun x_3 ex_3 => ?_)
      refine lv_istore_n (lv' := [(2, .int x_3), (0, .ref (ad 0)), (1, .int n0)]) hx hb dX4_cells_30 rfl hl (by decide) rfl (fun ls hl => ?_)
      refine lv_aload_n hx hb dX4_cells_31 rfl (lv_at hl 1 rfl) ?_
      refine lv_iload_n hx hb dX4_cells_32 rfl (lv_at hl 2 rfl) ?_
      refine va_put (D := D) (ci := 4) (v := .int n0) (C := RX4) (T := TX4) (N := 14) hx hb hts iX4 tyX4 tyX4_ok nmX4 hown hK hP hD hS 0 rfl rfl 7 (by decide) hw3 (fun _ h9 => h9) rfl (tyX4_ok 7 (by decide)) rfl rfl (Nat.le_of_ble_eq_true rfl) dX4_cells_33 (fun H locs hP hD hS => ?_)
      have hP : va_P D vwCl (LW ad cI cO (up2 g 100 0 n0) b d X) H := hP
      have hD : va_D A (LW ad cI cO (up2 g 100 0 n0) b d X) := hD
      refine lv_iload_n hx hb dX4_cells_36 rfl (lv_at hl 0 rfl) ?_
      exact W.iret (v := x_3) hx hb hr (fun t ht hW => ⟨⟨x_3, (up2 g 100 0 n0, b, d), rfl, (by constructor <;> grind [fCells, gCells]), by rw [ht]; exact hP, hD⟩, hS.F ht⟩) hS.2.2 dX4_cells_37
    · refine lv_bipush (v := (-3)) hx hb dX4_cells_23 (by decide) ?_
      exact W.iret (v := (-3)) hx hb hr (fun t ht hW => ⟨⟨(-3), (g, b, d), rfl, (by constructor <;> grind [fCells, gCells]), by rw [ht]; exact hP, hD⟩, hS.F ht⟩) hS.2.2 dX4_cells_25
  · have c_1 := bI_0.mp c_1
    refine lv_bipush (v := (-2)) hx hb dX4_cells_10 (by decide) ?_
    exact W.iret (v := (-2)) hx hb hr (fun t ht hW => ⟨⟨(-2), (g, b, d), rfl, (by constructor <;> grind [fCells, gCells]), by rw [ht]; exact hP, hD⟩, hS.F ht⟩) hS.2.2 dX4_cells_12
set_option maxHeartbeats 4000000 in
set_option maxRecDepth 100000 in
theorem kX3_append (l : Launch) (D : va_G) (cI cO : ClassId) (tt : Nat) (ad : Nat → Nat) (g : Nat → Nat → Int32) (b : Nat → Int32) (d : Nat → Nat → Int64) (X : va_W) (sz : Nat) (h0 : Int32) (x0 : Int32) (y0 : Int32) (w0 : Int32) (hI : WI g) : MmI l yX3_append wsX3_append ({ frames := 0, cells := 0, slots := 0, locals := 0 }) D cI cO tt (LW ad cI cO g b d X) sz [.ref (ad 2), .int h0, .int x0, .int y0, .int w0] (S := Nat → Nat → Int32) (fun u => LW ad cI cO u b d X) (fun z u => z = (if 40 ≤ g 100 7 then -4 else g 100 7) ∧ u = (if 40 ≤ g 100 7 then g else up2 (up2 (up2 (up2 (up2 g 0 (rn (g 100 7)) h0) 1 (rn (g 100 7)) x0) 2 (rn (g 100 7)) y0) 3 (rn (g 100 7)) w0) 100 7 (g 100 7 + 1))) := by
  refine Met.ofW (cc := cX3_append) (maxL := 6) (ret := (some .int)) (by decide) rfl ?_
  intro p e s m args below meth c s₁ B hml hv
  obtain ⟨rfl, hsz, hP, hK, hD0, hZ, hN⟩ := hv
  have hx := B.exec
  have hb := B.bytes
  have hr := B.returns
  have hts := atoms_spec (ws := wsX3_append) B.pre
  have hown : s.vm.findClass RX3 = some m.cls := findClass_of_methodNamed B.named
  have hlocks := B.notSynchronized
  subst hsz
  have hD := hD0.self (sz := s.heap.size)
  generalize hAe : va_A (LW ad cI cO g b d X) s.heap.size = A at hD hZ ⊢
  have hA : ∀ q : Nat, s.heap.size ≤ q → A q := fun q h => by rw [← hAe]; exact Or.inr h
  have hS : va_S A s.heap s.heap [] := va_S.rf
  have hl := lv_entry ([.ref (ad 2), .int h0, .int x0, .int y0, .int w0]) (n := 6) (Nat.le_of_ble_eq_true rfl)
  rw [lg_entry_eq]
  generalize (lg_sl ([.ref (ad 2), .int h0, .int x0, .int y0, .int w0]) ++ List.replicate (6 - (lg_sl ([.ref (ad 2), .int h0, .int x0, .int y0, .int w0])).length) Slot.unset).toArray = ls at hl ⊢
  have hl : lv_has ls 6 [(0, .ref (ad 2)), (1, .int h0), (2, .int x0), (3, .int y0), (4, .int w0)] := hl
  have hw0 := hts (.fieldLink RX3 24 "LayerSounder$Track" "number" "I") (List.mem_cons_of_mem _ (List.mem_append_left _ (List.mem_of_getElem? (i := 0) rfl)))
  have iX3 : ∀ w ∈ wsX30, w ∈ wsX3_append := fun _ h => List.mem_cons_of_mem _ (List.mem_append_right _ h)
  have hw2 := hts (.fieldLink RX3 9 "LayerSounder$Track" "headings" "[I") (List.mem_cons_of_mem _ (List.mem_append_left _ (List.mem_of_getElem? (i := 1) rfl)))
  have hw3 := hts (.fieldLink RX3 15 "LayerSounder$Track" "xs" "[I") (List.mem_cons_of_mem _ (List.mem_append_left _ (List.mem_of_getElem? (i := 2) rfl)))
  have hw4 := hts (.fieldLink RX3 18 "LayerSounder$Track" "ys" "[I") (List.mem_cons_of_mem _ (List.mem_append_left _ (List.mem_of_getElem? (i := 3) rfl)))
  have hw5 := hts (.fieldLink RX3 21 "LayerSounder$Track" "depths" "[I") (List.mem_cons_of_mem _ (List.mem_append_left _ (List.mem_of_getElem? (i := 4) rfl)))
  refine lv_aload_n hx hb dX3_append_0 rfl (lv_at hl 0 rfl) ?_
  refine va_get (D := D) (ci := 3) (v := .int (g 100 7)) (C := RX3) (T := TX3) (N := 5) hx hb hts iX3 hown hK hP 2 rfl rfl 4 (by decide) hw0 (fun _ h9 => h9) rfl dX3_append_1 ?_
  refine lv_istore (lv' := [(5, .int (g 100 7)), (0, .ref (ad 2)), (1, .int h0), (2, .int x0), (3, .int y0), (4, .int w0)]) hx hb dX3_append_4 hl (by decide) rfl (fun ls hl => ?_)
  refine lv_iload hx hb dX3_append_6 (lv_at hl 0 rfl) ?_
  refine lv_if_lt (tgt := 18) hx hb dX3_append_8 (by decide) (fun c_1 => ?_) (fun c_1 => ?_)
  · refine lv_bipush (v := (-4)) hx hb dX3_append_18 (by decide) ?_
    exact W.iret (v := (-4)) hx hb hr (fun t ht hW => ⟨⟨(-4), g, rfl, (by exact absurd hI.2.1.1 (by grind)), by rw [ht]; exact hP, hD⟩, hS.F ht⟩) hS.2.2 dX3_append_20
  · refine lv_iload hx hb dX3_append_11 (lv_at hl 0 rfl) ?_
    refine lv_bipush (v := 40) hx hb dX3_append_13 (by decide) ?_
    refine lv_icmp_lt (tgt := 21) hx hb dX3_append_15 (by decide) (fun c_2 => ?_) (fun c_2 => ?_)
    · refine lv_aload_n hx hb dX3_append_21 rfl (lv_at hl 1 rfl) ?_
      refine va_get (D := D) (ci := 3) (v := .ref (ad 8)) (C := RX3) (T := TX3) (N := 5) hx hb hts iX3 hown hK hP 2 rfl rfl 0 (by decide) hw2 (fun _ h9 => h9) rfl dX3_append_22 ?_
      refine lv_iload hx hb dX3_append_25 (lv_at hl 0 rfl) ?_
      refine lv_iload_n hx hb dX3_append_27 rfl (lv_at hl 2 rfl) ?_
      refine va_iast hx hb hK hP hD hS 8 0 rfl rfl (vin hI.2.1.1 (c_2) (by decide) (by decide)) dX3_append_28 (fun H locs hP hD hS => ?_)
      have hP : va_P D vwCl (LW ad cI cO (up2 g 0 ((g 100 7).toNatClampNeg) h0) b d X) H := hP
      have hD : va_D A (LW ad cI cO (up2 g 0 ((g 100 7).toNatClampNeg) h0) b d X) := hD
      refine lv_aload_n hx hb dX3_append_29 rfl (lv_at hl 1 rfl) ?_
      refine va_get (D := D) (ci := 3) (v := .ref (ad 9)) (C := RX3) (T := TX3) (N := 5) hx hb hts iX3 hown hK hP 2 rfl rfl 1 (by decide) hw3 (fun _ h9 => h9) rfl dX3_append_30 ?_
      refine lv_iload hx hb dX3_append_33 (lv_at hl 0 rfl) ?_
      refine lv_iload_n hx hb dX3_append_35 rfl (lv_at hl 3 rfl) ?_
      refine va_iast hx hb hK hP hD hS 9 0 rfl rfl (vin hI.2.1.1 (c_2) (by decide) (by decide)) dX3_append_36 (fun H locs hP hD hS => ?_)
      have hP : va_P D vwCl (LW ad cI cO (up2 (up2 g 0 ((g 100 7).toNatClampNeg) h0) 1 ((g 100 7).toNatClampNeg) x0) b d X) H := hP
      have hD : va_D A (LW ad cI cO (up2 (up2 g 0 ((g 100 7).toNatClampNeg) h0) 1 ((g 100 7).toNatClampNeg) x0) b d X) := hD
      refine lv_aload_n hx hb dX3_append_37 rfl (lv_at hl 1 rfl) ?_
      refine va_get (D := D) (ci := 3) (v := .ref (ad 10)) (C := RX3) (T := TX3) (N := 5) hx hb hts iX3 hown hK hP 2 rfl rfl 2 (by decide) hw4 (fun _ h9 => h9) rfl dX3_append_38 ?_
      refine lv_iload hx hb dX3_append_41 (lv_at hl 0 rfl) ?_
      refine lv_iload_n hx hb dX3_append_43 rfl (lv_at hl 4 rfl) ?_
      refine va_iast hx hb hK hP hD hS 10 0 rfl rfl (vin hI.2.1.1 (c_2) (by decide) (by decide)) dX3_append_44 (fun H locs hP hD hS => ?_)
      have hP : va_P D vwCl (LW ad cI cO (up2 (up2 (up2 g 0 ((g 100 7).toNatClampNeg) h0) 1 ((g 100 7).toNatClampNeg) x0) 2 ((g 100 7).toNatClampNeg) y0) b d X) H := hP
      have hD : va_D A (LW ad cI cO (up2 (up2 (up2 g 0 ((g 100 7).toNatClampNeg) h0) 1 ((g 100 7).toNatClampNeg) x0) 2 ((g 100 7).toNatClampNeg) y0) b d X) := hD
      refine lv_aload_n hx hb dX3_append_45 rfl (lv_at hl 1 rfl) ?_
      refine va_get (D := D) (ci := 3) (v := .ref (ad 11)) (C := RX3) (T := TX3) (N := 5) hx hb hts iX3 hown hK hP 2 rfl rfl 3 (by decide) hw5 (fun _ h9 => h9) rfl dX3_append_46 ?_
      refine lv_iload hx hb dX3_append_49 (lv_at hl 0 rfl) ?_
      refine lv_iload hx hb dX3_append_51 (lv_at hl 5 rfl) ?_
      refine va_iast hx hb hK hP hD hS 11 0 rfl rfl (vin hI.2.1.1 (c_2) (by decide) (by decide)) dX3_append_53 (fun H locs hP hD hS => ?_)
      have hP : va_P D vwCl (LW ad cI cO (up2 (up2 (up2 (up2 g 0 ((g 100 7).toNatClampNeg) h0) 1 ((g 100 7).toNatClampNeg) x0) 2 ((g 100 7).toNatClampNeg) y0) 3 ((g 100 7).toNatClampNeg) w0) b d X) H := hP
      have hD : va_D A (LW ad cI cO (up2 (up2 (up2 (up2 g 0 ((g 100 7).toNatClampNeg) h0) 1 ((g 100 7).toNatClampNeg) x0) 2 ((g 100 7).toNatClampNeg) y0) 3 ((g 100 7).toNatClampNeg) w0) b d X) := hD
      refine lv_aload_n hx hb dX3_append_54 rfl (lv_at hl 1 rfl) ?_
      refine lv_dup hx hb dX3_append_55 rfl ?_
      refine va_get (D := D) (ci := 3) (v := .int (up2 (up2 (up2 (up2 g 0 ((g 100 7).toNatClampNeg) h0) 1 ((g 100 7).toNatClampNeg) x0) 2 ((g 100 7).toNatClampNeg) y0) 3 ((g 100 7).toNatClampNeg) w0 100 7)) (C := RX3) (T := TX3) (N := 5) hx hb hts iX3 hown hK hP 2 rfl rfl 4 (by decide) hw0 (fun _ h9 => h9) rfl dX3_append_56 ?_
      refine tpI (y := g 100 7) (rfl) ?_
      refine lv_iconst (v := 1) hx hb dX3_append_59 (by decide) ?_
      refine lv_iadd hx hb dX3_append_60 ?_
      refine va_put (D := D) (ci := 3) (v := .int ((g 100 7) + 1)) (C := RX3) (T := TX3) (N := 5) hx hb hts iX3 tyX3 tyX3_ok nmX3 hown hK hP hD hS 2 rfl rfl 4 (by decide) hw0 (fun _ h9 => h9) rfl (tyX3_ok 4 (by decide)) rfl rfl (Nat.le_of_ble_eq_true rfl) dX3_append_61 (fun H locs hP hD hS => ?_)
      have hP : va_P D vwCl (LW ad cI cO (up2 (up2 (up2 (up2 (up2 g 0 ((g 100 7).toNatClampNeg) h0) 1 ((g 100 7).toNatClampNeg) x0) 2 ((g 100 7).toNatClampNeg) y0) 3 ((g 100 7).toNatClampNeg) w0) 100 7 ((g 100 7) + 1)) b d X) H := hP
      have hD : va_D A (LW ad cI cO (up2 (up2 (up2 (up2 (up2 g 0 ((g 100 7).toNatClampNeg) h0) 1 ((g 100 7).toNatClampNeg) x0) 2 ((g 100 7).toNatClampNeg) y0) 3 ((g 100 7).toNatClampNeg) w0) 100 7 ((g 100 7) + 1)) b d X) := hD
      refine lv_iload hx hb dX3_append_64 (lv_at hl 0 rfl) ?_
      exact W.iret (v := g 100 7) hx hb hr (fun t ht hW => ⟨⟨g 100 7, up2 (up2 (up2 (up2 (up2 g 0 ((g 100 7).toNatClampNeg) h0) 1 ((g 100 7).toNatClampNeg) x0) 2 ((g 100 7).toNatClampNeg) y0) 3 ((g 100 7).toNatClampNeg) w0) 100 7 ((g 100 7) + 1), rfl, (by constructor <;> grind), by rw [ht]; exact hP, hD⟩, hS.F ht⟩) hS.2.2 dX3_append_66
    · refine lv_bipush (v := (-4)) hx hb dX3_append_18 (by decide) ?_
      exact W.iret (v := (-4)) hx hb hr (fun t ht hW => ⟨⟨(-4), g, rfl, (by constructor <;> grind), by rw [ht]; exact hP, hD⟩, hS.F ht⟩) hS.2.2 dX3_append_20
set_option maxHeartbeats 4000000 in
set_option maxRecDepth 100000 in
theorem kX4_ping (l : Launch) (D : va_G) (cI cO : ClassId) (tt : Nat) (ad : Nat → Nat) (g : Nat → Nat → Int32) (b : Nat → Int32) (d : Nat → Nat → Int64) (X : va_W) (sz : Nat) (h0 : Int32) (x0 : Int32) (y0 : Int32) (w0 : Int32) (hI : WI g) : MmI l yX4_ping wsX4_ping ({ frames := 2, cells := 0, slots := 0, locals := 42 }) D cI cO tt (LW ad cI cO g b d X) sz [.ref (ad 0), .int h0, .int x0, .int y0, .int w0] (S := (Nat → Nat → Int32) × (Nat → Int32) × (Nat → Nat → Int64)) (fun u => LW ad cI cO u.1 u.2.1 u.2.2 X) (fun z u => z = fPing g h0 x0 y0 w0 ∧ u.1 = gPing g h0 x0 y0 w0) := by
  refine Met.ofW (cc := cX4_ping) (maxL := 5) (ret := (some .int)) (by decide) rfl ?_
  intro p e s m args below meth c s₁ B hml hv
  obtain ⟨rfl, hsz, hP, hK, hD0, hZ, hN⟩ := hv
  have hx := B.exec
  have hb := B.bytes
  have hr := B.returns
  have hts := atoms_spec (ws := wsX4_ping) B.pre
  have hown : s.vm.findClass RX4 = some m.cls := findClass_of_methodNamed B.named
  have hlocks := B.notSynchronized
  subst hsz
  have hD := hD0.self (sz := s.heap.size)
  generalize hAe : va_A (LW ad cI cO g b d X) s.heap.size = A at hD hZ ⊢
  have hA : ∀ q : Nat, s.heap.size ≤ q → A q := fun q h => by rw [← hAe]; exact Or.inr h
  have hS : va_S A s.heap s.heap [] := va_S.rf
  have hl := lv_entry ([.ref (ad 0), .int h0, .int x0, .int y0, .int w0]) (n := 5) (Nat.le_of_ble_eq_true rfl)
  rw [lg_entry_eq]
  generalize (lg_sl ([.ref (ad 0), .int h0, .int x0, .int y0, .int w0]) ++ List.replicate (5 - (lg_sl ([.ref (ad 0), .int h0, .int x0, .int y0, .int w0])).length) Slot.unset).toArray = ls at hl ⊢
  have hl : lv_has ls 5 [(0, .ref (ad 0)), (1, .int h0), (2, .int x0), (3, .int y0), (4, .int w0)] := hl
  have hw0 := hts (.fieldLink RX4 18 "LayerSounder" "track" "LLayerSounder$Track;") (List.mem_cons_of_mem _ (List.mem_append_left _ (List.mem_append_left _ (List.mem_of_getElem? (i := 0) rfl))))
  have iX4 : ∀ w ∈ wsX40, w ∈ wsX4_ping := fun _ h => List.mem_cons_of_mem _ (List.mem_append_left _ (List.mem_append_right _ h))
  refine lv_iload_n hx hb dX4_ping_0 rfl (lv_at hl 1 rfl) ?_
  refine pcI (va_runS (As := [.int h0]) (rest := []) ⟨hx, hb, hml, hown, hts⟩ (kX4_isTurn l D cI cO tt (LW ad cI cO g b d X) s.heap h0 ) (va_cwS 1 hts gX4_ping_X4_isTurn rfl rfl rfl (by decide +kernel) ⟨(Nat.le_of_ble_eq_true rfl), (Nat.le_of_ble_eq_true rfl)⟩) (pwS hK hZ hN hP hS) rfl rfl hl.1 rfl (lv_room (Nat.le_of_ble_eq_true rfl)) dX4_ping_1 ⟨Nat.zero_le _, Nat.zero_le _⟩) hS (fun locs hS => ?_)
  refine lv_if_eq (tgt := 32) hx hb dX4_ping_4 (by decide) (fun c_1 => ?_) (fun c_1 => ?_)
  · have c_1 := bI_0.mp c_1
    refine lv_bipush (v := (-2)) hx hb dX4_ping_32 (by decide) ?_
    exact W.iret (v := (-2)) hx hb hr (fun t ht hW => ⟨⟨(-2), (g, b, d), rfl, (by constructor <;> grind [fPing, gPing]), by rw [ht]; exact hP, hD⟩, hS.F ht⟩) hS.2.2 dX4_ping_34
  · have c_1 := bI_n0.mp c_1
    refine lv_iload_n hx hb dX4_ping_7 rfl (lv_at hl 2 rfl) ?_
    refine pcI (va_runS (As := [.int x0]) (rest := []) ⟨hx, hb, hml, hown, hts⟩ (kX4_isPlace l D cI cO tt (LW ad cI cO g b d X) s.heap x0 ) (va_cwS 1 hts gX4_ping_X4_isPlace rfl rfl rfl (by decide +kernel) ⟨(Nat.le_of_ble_eq_true rfl), (Nat.le_of_ble_eq_true rfl)⟩) (pwS hK hZ hN hP hS) rfl rfl hl.1 rfl (lv_room (Nat.le_of_ble_eq_true rfl)) dX4_ping_8 ⟨Nat.zero_le _, Nat.zero_le _⟩) hS (fun locs hS => ?_)
    refine lv_if_eq (tgt := 32) hx hb dX4_ping_11 (by decide) (fun c_2 => ?_) (fun c_2 => ?_)
    · have c_2 := bI_0.mp c_2
      refine lv_bipush (v := (-2)) hx hb dX4_ping_32 (by decide) ?_
      exact W.iret (v := (-2)) hx hb hr (fun t ht hW => ⟨⟨(-2), (g, b, d), rfl, (by constructor <;> grind [fPing, gPing]), by rw [ht]; exact hP, hD⟩, hS.F ht⟩) hS.2.2 dX4_ping_34
    · have c_2 := bI_n0.mp c_2
      refine lv_iload_n hx hb dX4_ping_14 rfl (lv_at hl 3 rfl) ?_
      refine pcI (va_runS (As := [.int y0]) (rest := []) ⟨hx, hb, hml, hown, hts⟩ (kX4_isPlace l D cI cO tt (LW ad cI cO g b d X) s.heap y0 ) (va_cwS 1 hts gX4_ping_X4_isPlace rfl rfl rfl (by decide +kernel) ⟨(Nat.le_of_ble_eq_true rfl), (Nat.le_of_ble_eq_true rfl)⟩) (pwS hK hZ hN hP hS) rfl rfl hl.1 rfl (lv_room (Nat.le_of_ble_eq_true rfl)) dX4_ping_15 ⟨Nat.zero_le _, Nat.zero_le _⟩) hS (fun locs hS => ?_)
      refine lv_if_eq (tgt := 32) hx hb dX4_ping_18 (by decide) (fun c_3 => ?_) (fun c_3 => ?_)
      · have c_3 := bI_0.mp c_3
        refine lv_bipush (v := (-2)) hx hb dX4_ping_32 (by decide) ?_
        exact W.iret (v := (-2)) hx hb hr (fun t ht hW => ⟨⟨(-2), (g, b, d), rfl, (by constructor <;> grind [fPing, gPing]), by rw [ht]; exact hP, hD⟩, hS.F ht⟩) hS.2.2 dX4_ping_34
      · have c_3 := bI_n0.mp c_3
        refine lv_iload hx hb dX4_ping_21 (lv_at hl 4 rfl) ?_
        refine lv_iconst (v := 0) hx hb dX4_ping_23 (by decide) ?_
        refine lv_bipush (v := 16) hx hb dX4_ping_24 (by decide) ?_
        refine pcI (va_runS (As := [.int w0, .int 0, .int 16]) (rest := []) ⟨hx, hb, hml, hown, hts⟩ (kX4_isWithin l D cI cO tt (LW ad cI cO g b d X) s.heap w0 0 16 ) (va_cwS 3 hts gX4_ping_X4_isWithin rfl rfl rfl (by decide +kernel) ⟨(Nat.le_of_ble_eq_true rfl), (Nat.le_of_ble_eq_true rfl)⟩) (pwS hK hZ hN hP hS) rfl rfl hl.1 rfl (lv_room (Nat.le_of_ble_eq_true rfl)) dX4_ping_26 ⟨Nat.zero_le _, Nat.zero_le _⟩) hS (fun locs hS => ?_)
        refine lv_if_ne (tgt := 35) hx hb dX4_ping_29 (by decide) (fun c_4 => ?_) (fun c_4 => ?_)
        · have c_4 := bI_n0.mp c_4
          refine lv_aload_n hx hb dX4_ping_35 rfl (lv_at hl 0 rfl) ?_
          refine va_get (D := D) (ci := 4) (v := .ref (ad 2)) (C := RX4) (T := TX4) (N := 14) hx hb hts iX4 hown hK hP 0 rfl rfl 1 (by decide) hw0 (fun _ h9 => h9) rfl dX4_ping_36 ?_
          refine lv_iload_n hx hb dX4_ping_39 rfl (lv_at hl 1 rfl) ?_
          refine lv_iload_n hx hb dX4_ping_40 rfl (lv_at hl 2 rfl) ?_
          refine lv_iload_n hx hb dX4_ping_41 rfl (lv_at hl 3 rfl) ?_
          refine lv_iload hx hb dX4_ping_42 (lv_at hl 4 rfl) ?_
          refine mcI (wf := fun u : Nat → Nat → Int32 => LW ad cI cO u b d X) (va_runV (As := [.int h0, .int x0, .int y0, .int w0]) (rest := []) ⟨hx, hb, hml, hown, hts⟩ (kX3_append l D cI cO tt ad g b d X s.heap.size h0 x0 y0 w0 hI) (cwV 4 hts gX4_ping_X3_append rfl rfl rfl (by decide +kernel) ⟨(Nat.le_of_ble_eq_true rfl), (Nat.le_of_ble_eq_true rfl)⟩) (mwV hK hZ hN hP hD hS hA (va_recv hK hP (ci := 3) (q0 := 2) rfl rfl)) rfl rfl hl.1 rfl (lv_room (Nat.le_of_ble_eq_true rfl)) dX4_ping_44 ⟨Nat.zero_le _, Nat.zero_le _⟩) hD hS hA (fun ru_5 uu_5 H locs hu_5 hP hD hS => ?_)
          obtain ⟨eru_5, euu_5⟩ := hu_5
          have euu_5 : uu_5 = if 40 ≤ g 100 7 then g else up2 (up2 (up2 (up2 (up2 g 0 (rn (g 100 7)) h0) 1 (rn (g 100 7)) x0) 2 (rn (g 100 7)) y0) 3 (rn (g 100 7)) w0) 100 7 (g 100 7 + 1) := euu_5
          subst eru_5
          subst euu_5
          have hP : va_P D vwCl (LW ad cI cO (if 40 ≤ g 100 7 then g else up2 (up2 (up2 (up2 (up2 g 0 (rn (g 100 7)) h0) 1 (rn (g 100 7)) x0) 2 (rn (g 100 7)) y0) 3 (rn (g 100 7)) w0) 100 7 (g 100 7 + 1)) b d X) H := hP
          have hD : va_D A (LW ad cI cO (if 40 ≤ g 100 7 then g else up2 (up2 (up2 (up2 (up2 g 0 (rn (g 100 7)) h0) 1 (rn (g 100 7)) x0) 2 (rn (g 100 7)) y0) 3 (rn (g 100 7)) w0) 100 7 (g 100 7 + 1)) b d X) := hD
          exact W.iret (v := if 40 ≤ g 100 7 then -4 else g 100 7) hx hb hr (fun t ht hW => ⟨⟨if 40 ≤ g 100 7 then -4 else g 100 7, (if 40 ≤ g 100 7 then g else up2 (up2 (up2 (up2 (up2 g 0 (rn (g 100 7)) h0) 1 (rn (g 100 7)) x0) 2 (rn (g 100 7)) y0) 3 (rn (g 100 7)) w0) 100 7 (g 100 7 + 1), b, d), rfl, (by constructor <;> grind [fPing, gPing]), by rw [ht]; exact hP, hD⟩, hS.F ht⟩) hS.2.2 dX4_ping_47
        · have c_4 := bI_0.mp c_4
          refine lv_bipush (v := (-2)) hx hb dX4_ping_32 (by decide) ?_
          exact W.iret (v := (-2)) hx hb hr (fun t ht hW => ⟨⟨(-2), (g, b, d), rfl, (by constructor <;> grind [fPing, gPing]), by rw [ht]; exact hP, hD⟩, hS.F ht⟩) hS.2.2 dX4_ping_34
set_option maxHeartbeats 4000000 in
set_option maxRecDepth 100000 in
theorem kX3_changeHeading (l : Launch) (D : va_G) (cI cO : ClassId) (tt : Nat) (ad : Nat → Nat) (g : Nat → Nat → Int32) (b : Nat → Int32) (d : Nat → Nat → Int64) (X : va_W) (sz : Nat) (p0 : Int32) (h0 : Int32) (hI : WI g) : MmI l yX3_changeHeading wsX3_changeHeading ({ frames := 1, cells := 0, slots := 0, locals := 21 }) D cI cO tt (LW ad cI cO g b d X) sz [.ref (ad 2), .int p0, .int h0] (S := Nat → Nat → Int32) (fun u => LW ad cI cO u b d X) (fun z u => z = (if isP g p0 then g 0 (rn p0) else -2) ∧ u = (if isP g p0 then up2 g 0 (rn p0) h0 else g)) := by
  refine Met.ofW (cc := cX3_changeHeading) (maxL := 4) (ret := (some .int)) (by decide) rfl ?_
  intro p e s m args below meth c s₁ B hml hv
  obtain ⟨rfl, hsz, hP, hK, hD0, hZ, hN⟩ := hv
  have hx := B.exec
  have hb := B.bytes
  have hr := B.returns
  have hts := atoms_spec (ws := wsX3_changeHeading) B.pre
  have hown : s.vm.findClass RX3 = some m.cls := findClass_of_methodNamed B.named
  have hlocks := B.notSynchronized
  subst hsz
  have hD := hD0.self (sz := s.heap.size)
  generalize hAe : va_A (LW ad cI cO g b d X) s.heap.size = A at hD hZ ⊢
  have hA : ∀ q : Nat, s.heap.size ≤ q → A q := fun q h => by rw [← hAe]; exact Or.inr h
  have hS : va_S A s.heap s.heap [] := va_S.rf
  have hl := lv_entry ([.ref (ad 2), .int p0, .int h0]) (n := 4) (Nat.le_of_ble_eq_true rfl)
  rw [lg_entry_eq]
  generalize (lg_sl ([.ref (ad 2), .int p0, .int h0]) ++ List.replicate (4 - (lg_sl ([.ref (ad 2), .int p0, .int h0])).length) Slot.unset).toArray = ls at hl ⊢
  have hl : lv_has ls 4 [(0, .ref (ad 2)), (1, .int p0), (2, .int h0)] := hl
  have hw0 := hts (.fieldLink RX3 9 "LayerSounder$Track" "headings" "[I") (List.mem_cons_of_mem _ (List.mem_append_left _ (List.mem_of_getElem? (i := 0) rfl)))
  have iX3 : ∀ w ∈ wsX30, w ∈ wsX3_changeHeading := fun _ h => List.mem_cons_of_mem _ (List.mem_append_right _ h)
  refine lv_aload_n hx hb dX3_changeHeading_0 rfl (lv_at hl 0 rfl) ?_
  refine lv_iload_n hx hb dX3_changeHeading_1 rfl (lv_at hl 1 rfl) ?_
  refine pcI (va_runV (As := [.int p0]) (rest := []) ⟨hx, hb, hml, hown, hts⟩ (kX3_isPing l D cI cO tt ad g b d X s.heap p0 ) (cwV 1 hts gX3_changeHeading_X3_isPing rfl rfl rfl (by decide +kernel) ⟨(Nat.le_of_ble_eq_true rfl), (Nat.le_of_ble_eq_true rfl)⟩) (pwV hK hZ hN hP hS (va_recv hK hP (ci := 3) (q0 := 2) rfl rfl)) rfl rfl hl.1 rfl (lv_room (Nat.le_of_ble_eq_true rfl)) dX3_changeHeading_2 ⟨Nat.zero_le _, Nat.zero_le _⟩) hS (fun locs hS => ?_)
  refine lv_if_ne (tgt := 11) hx hb dX3_changeHeading_5 (by decide) (fun c_1 => ?_) (fun c_1 => ?_)
  · have c_1 := bI_n0.mp c_1
    refine lv_aload_n hx hb dX3_changeHeading_11 rfl (lv_at hl 0 rfl) ?_
    refine va_get (D := D) (ci := 3) (v := .ref (ad 8)) (C := RX3) (T := TX3) (N := 5) hx hb hts iX3 hown hK hP 2 rfl rfl 0 (by decide) hw0 (fun _ h9 => h9) rfl dX3_changeHeading_12 ?_
    refine lv_iload_n hx hb dX3_changeHeading_15 rfl (lv_at hl 1 rfl) ?_
    refine va_iald hx hb hK hP 8 0 rfl rfl (vin c_1.1 c_1.2 hI.2.1.2 (by decide)) dX3_changeHeading_16 ?_
    refine lv_istore_n (lv' := [(3, .int (g 0 p0.toNatClampNeg)), (0, .ref (ad 2)), (1, .int p0), (2, .int h0)]) hx hb dX3_changeHeading_17 rfl hl (by decide) rfl (fun ls hl => ?_)
    refine lv_aload_n hx hb dX3_changeHeading_18 rfl (lv_at hl 1 rfl) ?_
    refine va_get (D := D) (ci := 3) (v := .ref (ad 8)) (C := RX3) (T := TX3) (N := 5) hx hb hts iX3 hown hK hP 2 rfl rfl 0 (by decide) hw0 (fun _ h9 => h9) rfl dX3_changeHeading_19 ?_
    refine lv_iload_n hx hb dX3_changeHeading_22 rfl (lv_at hl 2 rfl) ?_
    refine lv_iload_n hx hb dX3_changeHeading_23 rfl (lv_at hl 3 rfl) ?_
    refine va_iast hx hb hK hP hD hS 8 0 rfl rfl (vin c_1.1 c_1.2 hI.2.1.2 (by decide)) dX3_changeHeading_24 (fun H locs hP hD hS => ?_)
    have hP : va_P D vwCl (LW ad cI cO (up2 g 0 p0.toNatClampNeg h0) b d X) H := hP
    have hD : va_D A (LW ad cI cO (up2 g 0 p0.toNatClampNeg h0) b d X) := hD
    refine lv_iload_n hx hb dX3_changeHeading_25 rfl (lv_at hl 0 rfl) ?_
    exact W.iret (v := g 0 p0.toNatClampNeg) hx hb hr (fun t ht hW => ⟨⟨g 0 p0.toNatClampNeg, up2 g 0 p0.toNatClampNeg h0, rfl, (by constructor <;> grind), by rw [ht]; exact hP, hD⟩, hS.F ht⟩) hS.2.2 dX3_changeHeading_26
  · have c_1 := bI_0.mp c_1
    refine lv_bipush (v := (-2)) hx hb dX3_changeHeading_8 (by decide) ?_
    exact W.iret (v := (-2)) hx hb hr (fun t ht hW => ⟨⟨(-2), g, rfl, (by constructor <;> grind), by rw [ht]; exact hP, hD⟩, hS.F ht⟩) hS.2.2 dX3_changeHeading_10
set_option maxHeartbeats 4000000 in
set_option maxRecDepth 100000 in
theorem kX4_mend (l : Launch) (D : va_G) (cI cO : ClassId) (tt : Nat) (ad : Nat → Nat) (g : Nat → Nat → Int32) (b : Nat → Int32) (d : Nat → Nat → Int64) (X : va_W) (sz : Nat) (p0 : Int32) (h0 : Int32) (hI : WI g) : MmI l yX4_mend wsX4_mend ({ frames := 2, cells := 0, slots := 0, locals := 44 }) D cI cO tt (LW ad cI cO g b d X) sz [.ref (ad 0), .int p0, .int h0] (S := (Nat → Nat → Int32) × (Nat → Int32) × (Nat → Nat → Int64)) (fun u => LW ad cI cO u.1 u.2.1 u.2.2 X) (fun z u => z = fMend g p0 h0 ∧ u.1 = gMend g p0 h0) := by
  refine Met.ofW (cc := cX4_mend) (maxL := 3) (ret := (some .int)) (by decide) rfl ?_
  intro p e s m args below meth c s₁ B hml hv
  obtain ⟨rfl, hsz, hP, hK, hD0, hZ, hN⟩ := hv
  have hx := B.exec
  have hb := B.bytes
  have hr := B.returns
  have hts := atoms_spec (ws := wsX4_mend) B.pre
  have hown : s.vm.findClass RX4 = some m.cls := findClass_of_methodNamed B.named
  have hlocks := B.notSynchronized
  subst hsz
  have hD := hD0.self (sz := s.heap.size)
  generalize hAe : va_A (LW ad cI cO g b d X) s.heap.size = A at hD hZ ⊢
  have hA : ∀ q : Nat, s.heap.size ≤ q → A q := fun q h => by rw [← hAe]; exact Or.inr h
  have hS : va_S A s.heap s.heap [] := va_S.rf
  have hl := lv_entry ([.ref (ad 0), .int p0, .int h0]) (n := 3) (Nat.le_of_ble_eq_true rfl)
  rw [lg_entry_eq]
  generalize (lg_sl ([.ref (ad 0), .int p0, .int h0]) ++ List.replicate (3 - (lg_sl ([.ref (ad 0), .int p0, .int h0])).length) Slot.unset).toArray = ls at hl ⊢
  have hl : lv_has ls 3 [(0, .ref (ad 0)), (1, .int p0), (2, .int h0)] := hl
  have hw0 := hts (.fieldLink RX4 18 "LayerSounder" "track" "LLayerSounder$Track;") (List.mem_cons_of_mem _ (List.mem_append_left _ (List.mem_append_left _ (List.mem_of_getElem? (i := 0) rfl))))
  have iX4 : ∀ w ∈ wsX40, w ∈ wsX4_mend := fun _ h => List.mem_cons_of_mem _ (List.mem_append_left _ (List.mem_append_right _ h))
  refine lv_iload_n hx hb dX4_mend_0 rfl (lv_at hl 2 rfl) ?_
  refine pcI (va_runS (As := [.int h0]) (rest := []) ⟨hx, hb, hml, hown, hts⟩ (kX4_isTurn l D cI cO tt (LW ad cI cO g b d X) s.heap h0 ) (va_cwS 1 hts gX4_mend_X4_isTurn rfl rfl rfl (by decide +kernel) ⟨(Nat.le_of_ble_eq_true rfl), (Nat.le_of_ble_eq_true rfl)⟩) (pwS hK hZ hN hP hS) rfl rfl hl.1 rfl (lv_room (Nat.le_of_ble_eq_true rfl)) dX4_mend_1 ⟨Nat.zero_le _, Nat.zero_le _⟩) hS (fun locs hS => ?_)
  refine lv_if_ne (tgt := 10) hx hb dX4_mend_4 (by decide) (fun c_1 => ?_) (fun c_1 => ?_)
  · have c_1 := bI_n0.mp c_1
    refine lv_aload_n hx hb dX4_mend_10 rfl (lv_at hl 0 rfl) ?_
    refine va_get (D := D) (ci := 4) (v := .ref (ad 2)) (C := RX4) (T := TX4) (N := 14) hx hb hts iX4 hown hK hP 0 rfl rfl 1 (by decide) hw0 (fun _ h9 => h9) rfl dX4_mend_11 ?_
    refine lv_iload_n hx hb dX4_mend_14 rfl (lv_at hl 1 rfl) ?_
    refine lv_iload_n hx hb dX4_mend_15 rfl (lv_at hl 2 rfl) ?_
    refine mcI (wf := fun u : Nat → Nat → Int32 => LW ad cI cO u b d X) (va_runV (As := [.int p0, .int h0]) (rest := []) ⟨hx, hb, hml, hown, hts⟩ (kX3_changeHeading l D cI cO tt ad g b d X s.heap.size p0 h0 hI) (cwV 2 hts gX4_mend_X3_changeHeading rfl rfl rfl (by decide +kernel) ⟨(Nat.le_of_ble_eq_true rfl), (Nat.le_of_ble_eq_true rfl)⟩) (mwV hK hZ hN hP hD hS hA (va_recv hK hP (ci := 3) (q0 := 2) rfl rfl)) rfl rfl hl.1 rfl (lv_room (Nat.le_of_ble_eq_true rfl)) dX4_mend_16 ⟨Nat.zero_le _, Nat.zero_le _⟩) hD hS hA (fun ru_2 uu_2 H locs hu_2 hP hD hS => ?_)
    obtain ⟨eru_2, euu_2⟩ := hu_2
    have euu_2 : uu_2 = if isP g p0 then up2 g 0 (rn p0) h0 else g := euu_2
    subst eru_2
    subst euu_2
    have hP : va_P D vwCl (LW ad cI cO (if isP g p0 then up2 g 0 (rn p0) h0 else g) b d X) H := hP
    have hD : va_D A (LW ad cI cO (if isP g p0 then up2 g 0 (rn p0) h0 else g) b d X) := hD
    exact W.iret (v := if isP g p0 then g 0 (rn p0) else -2) hx hb hr (fun t ht hW => ⟨⟨if isP g p0 then g 0 (rn p0) else -2, (if isP g p0 then up2 g 0 (rn p0) h0 else g, b, d), rfl, (by constructor <;> grind [fMend, gMend]), by rw [ht]; exact hP, hD⟩, hS.F ht⟩) hS.2.2 dX4_mend_19
  · have c_1 := bI_0.mp c_1
    refine lv_bipush (v := (-2)) hx hb dX4_mend_7 (by decide) ?_
    exact W.iret (v := (-2)) hx hb hr (fun t ht hW => ⟨⟨(-2), (g, b, d), rfl, (by constructor <;> grind [fMend, gMend]), by rw [ht]; exact hP, hD⟩, hS.F ht⟩) hS.2.2 dX4_mend_9
set_option maxHeartbeats 4000000 in
set_option maxRecDepth 100000 in
theorem kX4_clear (l : Launch) (D : va_G) (cI cO : ClassId) (tt : Nat) (ad : Nat → Nat) (g : Nat → Nat → Int32) (b : Nat → Int32) (d : Nat → Nat → Int64) (X : va_W) (sz : Nat)   : MmI l yX4_clear wsX4_clear ({ frames := 0, cells := 0, slots := 0, locals := 0 }) D cI cO tt (LW ad cI cO g b d X) sz [.ref (ad 0)] (S := (Nat → Nat → Int32) × (Nat → Int32) × (Nat → Nat → Int64)) (fun u => LW ad cI cO u.1 u.2.1 u.2.2 X) (fun z u => z = g 100 7 ∧ u.1 = up2 g 100 7 0) := by
  refine Met.ofW (cc := cX4_clear) (maxL := 2) (ret := (some .int)) (by decide) rfl ?_
  intro p e s m args below meth c s₁ B hml hv
  obtain ⟨rfl, hsz, hP, hK, hD0, hZ, hN⟩ := hv
  have hx := B.exec
  have hb := B.bytes
  have hr := B.returns
  have hts := atoms_spec (ws := wsX4_clear) B.pre
  have hown : s.vm.findClass RX4 = some m.cls := findClass_of_methodNamed B.named
  have hlocks := B.notSynchronized
  subst hsz
  have hD := hD0.self (sz := s.heap.size)
  generalize hAe : va_A (LW ad cI cO g b d X) s.heap.size = A at hD hZ ⊢
  have hA : ∀ q : Nat, s.heap.size ≤ q → A q := fun q h => by rw [← hAe]; exact Or.inr h
  have hS : va_S A s.heap s.heap [] := va_S.rf
  have hl := lv_entry ([.ref (ad 0)]) (n := 2) (Nat.le_of_ble_eq_true rfl)
  rw [lg_entry_eq]
  generalize (lg_sl ([.ref (ad 0)]) ++ List.replicate (2 - (lg_sl ([.ref (ad 0)])).length) Slot.unset).toArray = ls at hl ⊢
  have hl : lv_has ls 2 [(0, .ref (ad 0))] := hl
  have hw0 := hts (.fieldLink RX4 18 "LayerSounder" "track" "LLayerSounder$Track;") (List.mem_cons_of_mem _ (List.mem_append_left _ (List.mem_append_left _ (List.mem_of_getElem? (i := 0) rfl))))
  have iX4 : ∀ w ∈ wsX40, w ∈ wsX4_clear := fun _ h => List.mem_cons_of_mem _ (List.mem_append_left _ (List.mem_append_right _ h))
  have iX3 : ∀ w ∈ wsX30, w ∈ wsX4_clear := fun _ h => List.mem_cons_of_mem _ (List.mem_append_right _ h)
  refine lv_aload_n hx hb dX4_clear_0 rfl (lv_at hl 0 rfl) ?_
  refine va_get (D := D) (ci := 4) (v := .ref (ad 2)) (C := RX4) (T := TX4) (N := 14) hx hb hts iX4 hown hK hP 0 rfl rfl 1 (by decide) hw0 (fun _ h9 => h9) rfl dX4_clear_1 ?_
  refine va_getN (D := D) (ci := 3) (v := .int (g 100 7)) (C := RX3) (T := TX3) (N := 5) hx hb hts iX3 hown hK hP 2 rfl rfl 4 (by decide) (va_Nw.use rfl (hN.1 (124, RX3, "number", "I") (List.mem_of_getElem? (i := 2) rfl))) (fun _ h9 => h9) rfl dX4_clear_4 ?_
  refine lv_topi (fun x_1 ex_1 => ?_)
  refine lv_istore_n (lv' := [(1, .int x_1), (0, .ref (ad 0))]) hx hb dX4_clear_7 rfl hl (by decide) rfl (fun ls hl => ?_)
  refine lv_aload_n hx hb dX4_clear_8 rfl (lv_at hl 1 rfl) ?_
  refine va_get (D := D) (ci := 4) (v := .ref (ad 2)) (C := RX4) (T := TX4) (N := 14) hx hb hts iX4 hown hK hP 0 rfl rfl 1 (by decide) hw0 (fun _ h9 => h9) rfl dX4_clear_9 ?_
  refine lv_iconst (v := 0) hx hb dX4_clear_12 (by decide) ?_
  refine va_putN (D := D) (ci := 3) (v := .int 0) (C := RX3) (T := TX3) (N := 5) hx hb hts iX3 tyX3 tyX3_ok nmX3 hown hK hP hD hS 2 rfl rfl 4 (by decide) (va_Nw.use rfl (hN.1 (124, RX3, "number", "I") (List.mem_of_getElem? (i := 2) rfl))) (fun _ h9 => h9) rfl (tyX3_ok 4 (by decide)) rfl rfl (Nat.le_of_ble_eq_true rfl) dX4_clear_13 (fun H locs hP hD hS => ?_)
  have hP : va_P D vwCl (LW ad cI cO (up2 g 100 7 0) b d X) H := hP
  have hD : va_D A (LW ad cI cO (up2 g 100 7 0) b d X) := hD
  refine lv_iload_n hx hb dX4_clear_16 rfl (lv_at hl 0 rfl) ?_
  exact W.iret (v := x_1) hx hb hr (fun t ht hW => ⟨⟨x_1, (up2 g 100 7 0, b, d), rfl, (by constructor <;> grind), by rw [ht]; exact hP, hD⟩, hS.F ht⟩) hS.2.2 dX4_clear_17
set_option maxHeartbeats 4000000 in
set_option maxRecDepth 100000 in
theorem kX4_motion (l : Launch) (D : va_G) (cI cO : ClassId) (tt : Nat) (ad : Nat → Nat) (g : Nat → Nat → Int32) (b : Nat → Int32) (d : Nat → Nat → Int64) (X : va_W) (sz : Nat) (h0 : Int32)  : MmI l yX4_motion wsX4_motion ({ frames := 1, cells := 0, slots := 0, locals := 22 }) D cI cO tt (LW ad cI cO g b d X) sz [.ref (ad 0), .int h0] (S := (Nat → Nat → Int32) × (Nat → Int32) × (Nat → Nat → Int64)) (fun u => LW ad cI cO u.1 u.2.1 u.2.2 X) (fun z u => z = fMotion g h0 ∧ u.1 = gMotion g h0) := by
  refine Met.ofW (cc := cX4_motion) (maxL := 3) (ret := (some .int)) (by decide) rfl ?_
  intro p e s m args below meth c s₁ B hml hv
  obtain ⟨rfl, hsz, hP, hK, hD0, hZ, hN⟩ := hv
  have hx := B.exec
  have hb := B.bytes
  have hr := B.returns
  have hts := atoms_spec (ws := wsX4_motion) B.pre
  have hown : s.vm.findClass RX4 = some m.cls := findClass_of_methodNamed B.named
  have hlocks := B.notSynchronized
  subst hsz
  have hD := hD0.self (sz := s.heap.size)
  generalize hAe : va_A (LW ad cI cO g b d X) s.heap.size = A at hD hZ ⊢
  have hA : ∀ q : Nat, s.heap.size ≤ q → A q := fun q h => by rw [← hAe]; exact Or.inr h
  have hS : va_S A s.heap s.heap [] := va_S.rf
  have hl := lv_entry ([.ref (ad 0), .int h0]) (n := 3) (Nat.le_of_ble_eq_true rfl)
  rw [lg_entry_eq]
  generalize (lg_sl ([.ref (ad 0), .int h0]) ++ List.replicate (3 - (lg_sl ([.ref (ad 0), .int h0])).length) Slot.unset).toArray = ls at hl ⊢
  have hl : lv_has ls 3 [(0, .ref (ad 0)), (1, .int h0)] := hl
  have hw0 := hts (.fieldLink RX4 49 "LayerSounder" "howOwn" "I") (List.mem_cons_of_mem _ (List.mem_append_left _ (List.mem_of_getElem? (i := 0) rfl)))
  have iX4 : ∀ w ∈ wsX40, w ∈ wsX4_motion := fun _ h => List.mem_cons_of_mem _ (List.mem_append_right _ h)
  refine lv_iload_n hx hb dX4_motion_0 rfl (lv_at hl 1 rfl) ?_
  refine lv_iconst (v := 0) hx hb dX4_motion_1 (by decide) ?_
  refine lv_iconst (v := 2) hx hb dX4_motion_2 (by decide) ?_
  refine pcI (va_runS (As := [.int h0, .int 0, .int 2]) (rest := []) ⟨hx, hb, hml, hown, hts⟩ (kX4_isWithin l D cI cO tt (LW ad cI cO g b d X) s.heap h0 0 2 ) (va_cwS 3 hts gX4_motion_X4_isWithin rfl rfl rfl (by decide +kernel) ⟨(Nat.le_of_ble_eq_true rfl), (Nat.le_of_ble_eq_true rfl)⟩) (pwS hK hZ hN hP hS) rfl rfl hl.1 rfl (lv_room (Nat.le_of_ble_eq_true rfl)) dX4_motion_3 ⟨Nat.zero_le _, Nat.zero_le _⟩) hS (fun locs hS => ?_)
  refine lv_if_ne (tgt := 12) hx hb dX4_motion_6 (by decide) (fun c_1 => ?_) (fun c_1 => ?_)
  · have c_1 := bI_n0.mp c_1
    refine lv_aload_n hx hb dX4_motion_12 rfl (lv_at hl 0 rfl) ?_
    refine va_get (D := D) (ci := 4) (v := .int (g 100 1)) (C := RX4) (T := TX4) (N := 14) hx hb hts iX4 hown hK hP 0 rfl rfl 8 (by decide) hw0 (fun _ h9 => h9) rfl dX4_motion_13 ?_
    refine lv_topi (fun x_2 ex_2 => ?_)
    refine lv_istore_n (lv' := [(2, .int x_2), (0, .ref (ad 0)), (1, .int h0)]) hx hb dX4_motion_16 rfl hl (by decide) rfl (fun ls hl => ?_)
    refine lv_aload_n hx hb dX4_motion_17 rfl (lv_at hl 1 rfl) ?_
    refine lv_iload_n hx hb dX4_motion_18 rfl (lv_at hl 2 rfl) ?_
    refine va_put (D := D) (ci := 4) (v := .int h0) (C := RX4) (T := TX4) (N := 14) hx hb hts iX4 tyX4 tyX4_ok nmX4 hown hK hP hD hS 0 rfl rfl 8 (by decide) hw0 (fun _ h9 => h9) rfl (tyX4_ok 8 (by decide)) rfl rfl (Nat.le_of_ble_eq_true rfl) dX4_motion_19 (fun H locs hP hD hS => ?_)
    have hP : va_P D vwCl (LW ad cI cO (up2 g 100 1 h0) b d X) H := hP
    have hD : va_D A (LW ad cI cO (up2 g 100 1 h0) b d X) := hD
    refine lv_iload_n hx hb dX4_motion_22 rfl (lv_at hl 0 rfl) ?_
    exact W.iret (v := x_2) hx hb hr (fun t ht hW => ⟨⟨x_2, (up2 g 100 1 h0, b, d), rfl, (by constructor <;> grind [fMotion, gMotion]), by rw [ht]; exact hP, hD⟩, hS.F ht⟩) hS.2.2 dX4_motion_23
  · have c_1 := bI_0.mp c_1
    refine lv_bipush (v := (-2)) hx hb dX4_motion_9 (by decide) ?_
    exact W.iret (v := (-2)) hx hb hr (fun t ht hW => ⟨⟨(-2), (g, b, d), rfl, (by constructor <;> grind [fMotion, gMotion]), by rw [ht]; exact hP, hD⟩, hS.F ht⟩) hS.2.2 dX4_motion_11
set_option maxHeartbeats 4000000 in
set_option maxRecDepth 100000 in
theorem kX4_skew (l : Launch) (D : va_G) (cI cO : ClassId) (tt : Nat) (ad : Nat → Nat) (g : Nat → Nat → Int32) (b : Nat → Int32) (d : Nat → Nat → Int64) (X : va_W) (sz : Nat) (h0 : Int32)  : MmI l yX4_skew wsX4_skew ({ frames := 2, cells := 0, slots := 0, locals := 42 }) D cI cO tt (LW ad cI cO g b d X) sz [.ref (ad 0), .int h0] (S := (Nat → Nat → Int32) × (Nat → Int32) × (Nat → Nat → Int64)) (fun u => LW ad cI cO u.1 u.2.1 u.2.2 X) (fun z u => z = fSkew g h0 ∧ u.1 = gSkew g h0) := by
  refine Met.ofW (cc := cX4_skew) (maxL := 3) (ret := (some .int)) (by decide) rfl ?_
  intro p e s m args below meth c s₁ B hml hv
  obtain ⟨rfl, hsz, hP, hK, hD0, hZ, hN⟩ := hv
  have hx := B.exec
  have hb := B.bytes
  have hr := B.returns
  have hts := atoms_spec (ws := wsX4_skew) B.pre
  have hown : s.vm.findClass RX4 = some m.cls := findClass_of_methodNamed B.named
  have hlocks := B.notSynchronized
  subst hsz
  have hD := hD0.self (sz := s.heap.size)
  generalize hAe : va_A (LW ad cI cO g b d X) s.heap.size = A at hD hZ ⊢
  have hA : ∀ q : Nat, s.heap.size ≤ q → A q := fun q h => by rw [← hAe]; exact Or.inr h
  have hS : va_S A s.heap s.heap [] := va_S.rf
  have hl := lv_entry ([.ref (ad 0), .int h0]) (n := 3) (Nat.le_of_ble_eq_true rfl)
  rw [lg_entry_eq]
  generalize (lg_sl ([.ref (ad 0), .int h0]) ++ List.replicate (3 - (lg_sl ([.ref (ad 0), .int h0])).length) Slot.unset).toArray = ls at hl ⊢
  have hl : lv_has ls 3 [(0, .ref (ad 0)), (1, .int h0)] := hl
  have hw0 := hts (.fieldLink RX4 52 "LayerSounder" "skewTurn" "I") (List.mem_cons_of_mem _ (List.mem_append_left _ (List.mem_of_getElem? (i := 0) rfl)))
  have iX4 : ∀ w ∈ wsX40, w ∈ wsX4_skew := fun _ h => List.mem_cons_of_mem _ (List.mem_append_right _ h)
  refine lv_iload_n hx hb dX4_skew_0 rfl (lv_at hl 1 rfl) ?_
  refine pcI (va_runS (As := [.int h0]) (rest := []) ⟨hx, hb, hml, hown, hts⟩ (kX4_isTurn l D cI cO tt (LW ad cI cO g b d X) s.heap h0 ) (va_cwS 1 hts gX4_skew_X4_isTurn rfl rfl rfl (by decide +kernel) ⟨(Nat.le_of_ble_eq_true rfl), (Nat.le_of_ble_eq_true rfl)⟩) (pwS hK hZ hN hP hS) rfl rfl hl.1 rfl (lv_room (Nat.le_of_ble_eq_true rfl)) dX4_skew_1 ⟨Nat.zero_le _, Nat.zero_le _⟩) hS (fun locs hS => ?_)
  refine lv_if_ne (tgt := 10) hx hb dX4_skew_4 (by decide) (fun c_1 => ?_) (fun c_1 => ?_)
  · have c_1 := bI_n0.mp c_1
    refine lv_aload_n hx hb dX4_skew_10 rfl (lv_at hl 0 rfl) ?_
    refine va_get (D := D) (ci := 4) (v := .int (g 100 2)) (C := RX4) (T := TX4) (N := 14) hx hb hts iX4 hown hK hP 0 rfl rfl 9 (by decide) hw0 (fun _ h9 => h9) rfl dX4_skew_11 ?_
    refine lv_topi (fun x_2 ex_2 => ?_)
    refine lv_istore_n (lv' := [(2, .int x_2), (0, .ref (ad 0)), (1, .int h0)]) hx hb dX4_skew_14 rfl hl (by decide) rfl (fun ls hl => ?_)
    refine lv_aload_n hx hb dX4_skew_15 rfl (lv_at hl 1 rfl) ?_
    refine lv_iload_n hx hb dX4_skew_16 rfl (lv_at hl 2 rfl) ?_
    refine va_put (D := D) (ci := 4) (v := .int h0) (C := RX4) (T := TX4) (N := 14) hx hb hts iX4 tyX4 tyX4_ok nmX4 hown hK hP hD hS 0 rfl rfl 9 (by decide) hw0 (fun _ h9 => h9) rfl (tyX4_ok 9 (by decide)) rfl rfl (Nat.le_of_ble_eq_true rfl) dX4_skew_17 (fun H locs hP hD hS => ?_)
    have hP : va_P D vwCl (LW ad cI cO (up2 g 100 2 h0) b d X) H := hP
    have hD : va_D A (LW ad cI cO (up2 g 100 2 h0) b d X) := hD
    refine lv_iload_n hx hb dX4_skew_20 rfl (lv_at hl 0 rfl) ?_
    exact W.iret (v := x_2) hx hb hr (fun t ht hW => ⟨⟨x_2, (up2 g 100 2 h0, b, d), rfl, (by constructor <;> grind [fSkew, gSkew]), by rw [ht]; exact hP, hD⟩, hS.F ht⟩) hS.2.2 dX4_skew_21
  · have c_1 := bI_0.mp c_1
    refine lv_bipush (v := (-2)) hx hb dX4_skew_7 (by decide) ?_
    exact W.iret (v := (-2)) hx hb hr (fun t ht hW => ⟨⟨(-2), (g, b, d), rfl, (by constructor <;> grind [fSkew, gSkew]), by rw [ht]; exact hP, hD⟩, hS.F ht⟩) hS.2.2 dX4_skew_9
set_option maxHeartbeats 4000000 in
set_option maxRecDepth 100000 in
theorem kX4_laws (l : Launch) (D : va_G) (cI cO : ClassId) (tt : Nat) (ad : Nat → Nat) (g : Nat → Nat → Int32) (b : Nat → Int32) (d : Nat → Nat → Int64) (X : va_W) (sz : Nat) (e0 : Int32) (t0 : Int32) (w0 : Int32) (ht0 : t0 = 0 ∨ t0 = 1) : MmI l yX4_laws wsX4_laws ({ frames := 1, cells := 0, slots := 0, locals := 22 }) D cI cO tt (LW ad cI cO g b d X) sz [.ref (ad 0), .int e0, .int t0, .int w0] (S := (Nat → Nat → Int32) × (Nat → Int32) × (Nat → Nat → Int64)) (fun u => LW ad cI cO u.1 u.2.1 u.2.2 X) (fun z u => z = fLaws e0 w0 ∧ u.1 = gLaws g e0 t0 w0) := by
  refine Met.ofW (cc := cX4_laws) (maxL := 4) (ret := (some .int)) (by decide) rfl ?_
  intro p e s m args below meth c s₁ B hml hv
  obtain ⟨rfl, hsz, hP, hK, hD0, hZ, hN⟩ := hv
  have hx := B.exec
  have hb := B.bytes
  have hr := B.returns
  have hts := atoms_spec (ws := wsX4_laws) B.pre
  have hown : s.vm.findClass RX4 = some m.cls := findClass_of_methodNamed B.named
  have hlocks := B.notSynchronized
  subst hsz
  have hD := hD0.self (sz := s.heap.size)
  generalize hAe : va_A (LW ad cI cO g b d X) s.heap.size = A at hD hZ ⊢
  have hA : ∀ q : Nat, s.heap.size ≤ q → A q := fun q h => by rw [← hAe]; exact Or.inr h
  have hS : va_S A s.heap s.heap [] := va_S.rf
  have hl := lv_entry ([.ref (ad 0), .int e0, .int t0, .int w0]) (n := 4) (Nat.le_of_ble_eq_true rfl)
  rw [lg_entry_eq]
  generalize (lg_sl ([.ref (ad 0), .int e0, .int t0, .int w0]) ++ List.replicate (4 - (lg_sl ([.ref (ad 0), .int e0, .int t0, .int w0])).length) Slot.unset).toArray = ls at hl ⊢
  have hl : lv_has ls 4 [(0, .ref (ad 0)), (1, .int e0), (2, .int t0), (3, .int w0)] := hl
  have hw0 := hts (.constant RX4 170 (100000)) (List.mem_cons_of_mem _ (List.mem_append_left _ (List.mem_of_getElem? (i := 0) rfl)))
  have hw1 := hts (.fieldLink RX4 55 "LayerSounder" "edgeCells" "I") (List.mem_cons_of_mem _ (List.mem_append_left _ (List.mem_of_getElem? (i := 1) rfl)))
  have iX4 : ∀ w ∈ wsX40, w ∈ wsX4_laws := fun _ h => List.mem_cons_of_mem _ (List.mem_append_right _ h)
  have hw3 := hts (.fieldLink RX4 58 "LayerSounder" "threesTaken" "Z") (List.mem_cons_of_mem _ (List.mem_append_left _ (List.mem_of_getElem? (i := 2) rfl)))
  have hw4 := hts (.fieldLink RX4 62 "LayerSounder" "oddBound" "I") (List.mem_cons_of_mem _ (List.mem_append_left _ (List.mem_of_getElem? (i := 3) rfl)))
  refine lv_iload_n hx hb dX4_laws_0 rfl (lv_at hl 1 rfl) ?_
  refine lv_iconst (v := 0) hx hb dX4_laws_1 (by decide) ?_
  refine lv_bipush (v := 16) hx hb dX4_laws_2 (by decide) ?_
  refine pcI (va_runS (As := [.int e0, .int 0, .int 16]) (rest := []) ⟨hx, hb, hml, hown, hts⟩ (kX4_isWithin l D cI cO tt (LW ad cI cO g b d X) s.heap e0 0 16 ) (va_cwS 3 hts gX4_laws_X4_isWithin rfl rfl rfl (by decide +kernel) ⟨(Nat.le_of_ble_eq_true rfl), (Nat.le_of_ble_eq_true rfl)⟩) (pwS hK hZ hN hP hS) rfl rfl hl.1 rfl (lv_room (Nat.le_of_ble_eq_true rfl)) dX4_laws_4 ⟨Nat.zero_le _, Nat.zero_le _⟩) hS (fun locs hS => ?_)
  refine lv_if_eq (tgt := 20) hx hb dX4_laws_7 (by decide) (fun c_1 => ?_) (fun c_1 => ?_)
  · have c_1 := bI_0.mp c_1
    refine lv_bipush (v := (-2)) hx hb dX4_laws_20 (by decide) ?_
    exact W.iret (v := (-2)) hx hb hr (fun t ht hW => ⟨⟨(-2), (g, b, d), rfl, (by constructor <;> grind [fLaws, gLaws]), by rw [ht]; exact hP, hD⟩, hS.F ht⟩) hS.2.2 dX4_laws_22
  · have c_1 := bI_n0.mp c_1
    refine lv_iload_n hx hb dX4_laws_10 rfl (lv_at hl 3 rfl) ?_
    refine lv_iconst (v := 0) hx hb dX4_laws_11 (by decide) ?_
    refine lv_ldc hx hb hown hw0 dX4_laws_12 ?_
    refine pcI (va_runS (As := [.int w0, .int 0, .int 100000]) (rest := []) ⟨hx, hb, hml, hown, hts⟩ (kX4_isWithin l D cI cO tt (LW ad cI cO g b d X) s.heap w0 0 100000 ) (va_cwS 3 hts gX4_laws_X4_isWithin rfl rfl rfl (by decide +kernel) ⟨(Nat.le_of_ble_eq_true rfl), (Nat.le_of_ble_eq_true rfl)⟩) (pwS hK hZ hN hP hS) rfl rfl hl.1 rfl (lv_room (Nat.le_of_ble_eq_true rfl)) dX4_laws_14 ⟨Nat.zero_le _, Nat.zero_le _⟩) hS (fun locs hS => ?_)
    refine lv_if_ne (tgt := 23) hx hb dX4_laws_17 (by decide) (fun c_2 => ?_) (fun c_2 => ?_)
    · have c_2 := bI_n0.mp c_2
      refine lv_aload_n hx hb dX4_laws_23 rfl (lv_at hl 0 rfl) ?_
      refine lv_iload_n hx hb dX4_laws_24 rfl (lv_at hl 1 rfl) ?_
      refine va_put (D := D) (ci := 4) (v := .int e0) (C := RX4) (T := TX4) (N := 14) hx hb hts iX4 tyX4 tyX4_ok nmX4 hown hK hP hD hS 0 rfl rfl 10 (by decide) hw1 (fun _ h9 => h9) rfl (tyX4_ok 10 (by decide)) rfl rfl (Nat.le_of_ble_eq_true rfl) dX4_laws_25 (fun H locs hP hD hS => ?_)
      have hP : va_P D vwCl (LW ad cI cO (up2 g 100 3 e0) b d X) H := hP
      have hD : va_D A (LW ad cI cO (up2 g 100 3 e0) b d X) := hD
      refine lv_aload_n hx hb dX4_laws_28 rfl (lv_at hl 0 rfl) ?_
      refine lv_iload_n hx hb dX4_laws_29 rfl (lv_at hl 2 rfl) ?_
      refine va_put (D := D) (ci := 4) (v := .int t0) (C := RX4) (T := TX4) (N := 14) hx hb hts iX4 tyX4 tyX4_ok nmX4 hown hK hP hD hS 0 rfl rfl 11 (by decide) hw3 (fun _ h9 => h9) rfl (tyX4_ok 11 (by decide)) (bn01 ht0) (bf01 ht0) (Nat.le_of_ble_eq_true rfl) dX4_laws_30 (fun H locs hP hD hS => ?_)
      have hP : va_P D vwCl (LW ad cI cO (up2 (up2 g 100 3 e0) 100 4 t0) b d X) H := hP
      have hD : va_D A (LW ad cI cO (up2 (up2 g 100 3 e0) 100 4 t0) b d X) := hD
      refine lv_aload_n hx hb dX4_laws_33 rfl (lv_at hl 0 rfl) ?_
      refine lv_iload_n hx hb dX4_laws_34 rfl (lv_at hl 3 rfl) ?_
      refine va_put (D := D) (ci := 4) (v := .int w0) (C := RX4) (T := TX4) (N := 14) hx hb hts iX4 tyX4 tyX4_ok nmX4 hown hK hP hD hS 0 rfl rfl 12 (by decide) hw4 (fun _ h9 => h9) rfl (tyX4_ok 12 (by decide)) rfl rfl (Nat.le_of_ble_eq_true rfl) dX4_laws_35 (fun H locs hP hD hS => ?_)
      have hP : va_P D vwCl (LW ad cI cO (up2 (up2 (up2 g 100 3 e0) 100 4 t0) 100 5 w0) b d X) H := hP
      have hD : va_D A (LW ad cI cO (up2 (up2 (up2 g 100 3 e0) 100 4 t0) 100 5 w0) b d X) := hD
      refine lv_iconst (v := 1) hx hb dX4_laws_38 (by decide) ?_
      exact W.iret (v := 1) hx hb hr (fun t ht hW => ⟨⟨1, (up2 (up2 (up2 g 100 3 e0) 100 4 t0) 100 5 w0, b, d), rfl, (by constructor <;> grind [fLaws, gLaws]), by rw [ht]; exact hP, hD⟩, hS.F ht⟩) hS.2.2 dX4_laws_39
    · have c_2 := bI_0.mp c_2
      refine lv_bipush (v := (-2)) hx hb dX4_laws_20 (by decide) ?_
      exact W.iret (v := (-2)) hx hb hr (fun t ht hW => ⟨⟨(-2), (g, b, d), rfl, (by constructor <;> grind [fLaws, gLaws]), by rw [ht]; exact hP, hD⟩, hS.F ht⟩) hS.2.2 dX4_laws_22
set_option maxHeartbeats 4000000 in
set_option maxRecDepth 100000 in
theorem kX4_isCell (l : Launch) (D : va_G) (cI cO : ClassId) (tt : Nat) (ad : Nat → Nat) (g : Nat → Nat → Int32) (b : Nat → Int32) (d : Nat → Nat → Int64) (X : va_W) (H0 : Heap) (c0 : Int32)  : MpI l yX4_isCell wsX4_isCell ({ frames := 1, cells := 0, slots := 0, locals := 22 }) D cI cO tt (LW ad cI cO g b d X) H0 [.ref (ad 0), .int c0] (bI (isC g c0)) := by
  refine Met.ofW (cc := cX4_isCell) (maxL := 2) (ret := (some .boolean)) (by decide) rfl ?_
  intro p e s m args below meth c s₁ B hml hv
  obtain ⟨rfl, rfl, hP, hK, hZ, hN⟩ := hv
  have hx := B.exec
  have hb := B.bytes
  have hr := B.returns
  have hts := atoms_spec (ws := wsX4_isCell) B.pre
  have hown : s.vm.findClass RX4 = some m.cls := findClass_of_methodNamed B.named
  have hlocks := B.notSynchronized
  have hS : va_S (fun _ => False) s.heap s.heap [] := va_S.rf
  have hl := lv_entry ([.ref (ad 0), .int c0]) (n := 2) (Nat.le_of_ble_eq_true rfl)
  rw [lg_entry_eq]
  generalize (lg_sl ([.ref (ad 0), .int c0]) ++ List.replicate (2 - (lg_sl ([.ref (ad 0), .int c0])).length) Slot.unset).toArray = ls at hl ⊢
  have hl : lv_has ls 2 [(0, .ref (ad 0)), (1, .int c0)] := hl
  have hw0 := hts (.fieldLink RX4 45 "LayerSounder" "layers" "I") (List.mem_cons_of_mem _ (List.mem_append_left _ (List.mem_of_getElem? (i := 0) rfl)))
  have iX4 : ∀ w ∈ wsX40, w ∈ wsX4_isCell := fun _ h => List.mem_cons_of_mem _ (List.mem_append_right _ h)
  refine lv_iload_n hx hb dX4_isCell_0 rfl (lv_at hl 1 rfl) ?_
  refine lv_iconst (v := 0) hx hb dX4_isCell_1 (by decide) ?_
  refine lv_aload_n hx hb dX4_isCell_2 rfl (lv_at hl 0 rfl) ?_
  refine va_get (D := D) (ci := 4) (v := .int (g 100 0)) (C := RX4) (T := TX4) (N := 14) hx hb hts iX4 hown hK hP 0 rfl rfl 7 (by decide) hw0 (fun _ h9 => h9) rfl dX4_isCell_3 ?_
  refine lv_iconst (v := 1) hx hb dX4_isCell_6 (by decide) ?_
  refine lv_isub hx hb dX4_isCell_7 ?_
  refine pcI (va_runS (As := [.int c0, .int 0, .int ((g 100 0) - 1)]) (rest := []) ⟨hx, hb, hml, hown, hts⟩ (kX4_isWithin l D cI cO tt (LW ad cI cO g b d X) s.heap c0 0 ((g 100 0) - 1) ) (va_cwS 3 hts gX4_isCell_X4_isWithin rfl rfl rfl (by decide +kernel) ⟨(Nat.le_of_ble_eq_true rfl), (Nat.le_of_ble_eq_true rfl)⟩) (pwS hK hZ hN hP hS) rfl rfl hl.1 rfl (lv_room (Nat.le_of_ble_eq_true rfl)) dX4_isCell_8 ⟨Nat.zero_le _, Nat.zero_le _⟩) hS (fun locs hS => ?_)
  exact W.zret (v := bI (0 ≤ c0 ∧ c0 ≤ ((g 100 0) - 1))) hx hb hr bI_nar (fun t ht hW => ⟨⟨bI (0 ≤ c0 ∧ c0 ≤ ((g 100 0) - 1)), (), rfl, (by rfl), ht⟩, hS.F ht⟩) hS.2.2 dX4_isCell_11
set_option maxHeartbeats 4000000 in
set_option maxRecDepth 100000 in
theorem kX4_isBox (l : Launch) (D : va_G) (cI cO : ClassId) (tt : Nat) (ad : Nat → Nat) (g : Nat → Nat → Int32) (b : Nat → Int32) (d : Nat → Nat → Int64) (X : va_W) (H0 : Heap) (p0 : Int32) (q0 : Int32) (c0 : Int32) (w0 : Int32)  : MpI l yX4_isBox wsX4_isBox ({ frames := 2, cells := 0, slots := 0, locals := 43 }) D cI cO tt (LW ad cI cO g b d X) H0 [.ref (ad 0), .int p0, .int q0, .int c0, .int w0] (bI ((isP g p0 ∧ isP g q0 ∧ p0 ≤ q0) ∧ isC g c0 ∧ isC g w0 ∧ c0 ≤ w0)) := by
  refine Met.ofW (cc := cX4_isBox) (maxL := 5) (ret := (some .boolean)) (by decide) rfl ?_
  intro p e s m args below meth c s₁ B hml hv
  obtain ⟨rfl, rfl, hP, hK, hZ, hN⟩ := hv
  have hx := B.exec
  have hb := B.bytes
  have hr := B.returns
  have hts := atoms_spec (ws := wsX4_isBox) B.pre
  have hown : s.vm.findClass RX4 = some m.cls := findClass_of_methodNamed B.named
  have hlocks := B.notSynchronized
  have hS : va_S (fun _ => False) s.heap s.heap [] := va_S.rf
  have hl := lv_entry ([.ref (ad 0), .int p0, .int q0, .int c0, .int w0]) (n := 5) (Nat.le_of_ble_eq_true rfl)
  rw [lg_entry_eq]
  generalize (lg_sl ([.ref (ad 0), .int p0, .int q0, .int c0, .int w0]) ++ List.replicate (5 - (lg_sl ([.ref (ad 0), .int p0, .int q0, .int c0, .int w0])).length) Slot.unset).toArray = ls at hl ⊢
  have hl : lv_has ls 5 [(0, .ref (ad 0)), (1, .int p0), (2, .int q0), (3, .int c0), (4, .int w0)] := hl
  have hw0 := hts (.fieldLink RX4 18 "LayerSounder" "track" "LLayerSounder$Track;") (List.mem_cons_of_mem _ (List.mem_append_left _ (List.mem_append_left _ (List.mem_of_getElem? (i := 0) rfl))))
  have iX4 : ∀ w ∈ wsX40, w ∈ wsX4_isBox := fun _ h => List.mem_cons_of_mem _ (List.mem_append_left _ (List.mem_append_right _ h))
  refine lv_aload_n hx hb dX4_isBox_0 rfl (lv_at hl 0 rfl) ?_
  refine va_get (D := D) (ci := 4) (v := .ref (ad 2)) (C := RX4) (T := TX4) (N := 14) hx hb hts iX4 hown hK hP 0 rfl rfl 1 (by decide) hw0 (fun _ h9 => h9) rfl dX4_isBox_1 ?_
  refine lv_iload_n hx hb dX4_isBox_4 rfl (lv_at hl 1 rfl) ?_
  refine lv_iload_n hx hb dX4_isBox_5 rfl (lv_at hl 2 rfl) ?_
  refine pcI (va_runV (As := [.int p0, .int q0]) (rest := []) ⟨hx, hb, hml, hown, hts⟩ (kX3_isSpan l D cI cO tt ad g b d X s.heap p0 q0 ) (cwV 2 hts gX4_isBox_X3_isSpan rfl rfl rfl (by decide +kernel) ⟨(Nat.le_of_ble_eq_true rfl), (Nat.le_of_ble_eq_true rfl)⟩) (pwV hK hZ hN hP hS (va_recv hK hP (ci := 3) (q0 := 2) rfl rfl)) rfl rfl hl.1 rfl (lv_room (Nat.le_of_ble_eq_true rfl)) dX4_isBox_6 ⟨Nat.zero_le _, Nat.zero_le _⟩) hS (fun locs hS => ?_)
  refine lv_if_eq (tgt := 39) hx hb dX4_isBox_9 (by decide) (fun c_1 => ?_) (fun c_1 => ?_)
  · have c_1 := bI_0.mp c_1
    refine lv_iconst (v := 0) hx hb dX4_isBox_39 (by decide) ?_
    exact W.zret (v := 0) hx hb hr rfl (fun t ht hW => ⟨⟨0, (), rfl, (by grind [bI]), ht⟩, hS.F ht⟩) hS.2.2 dX4_isBox_40
  · have c_1 := bI_n0.mp c_1
    refine lv_aload_n hx hb dX4_isBox_12 rfl (lv_at hl 0 rfl) ?_
    refine lv_iload_n hx hb dX4_isBox_13 rfl (lv_at hl 3 rfl) ?_
    refine pcI (va_runV (As := [.int c0]) (rest := []) ⟨hx, hb, hml, hown, hts⟩ (kX4_isCell l D cI cO tt ad g b d X s.heap c0 ) (cwV 1 hts gX4_isBox_X4_isCell rfl rfl rfl (by decide +kernel) ⟨(Nat.le_of_ble_eq_true rfl), (Nat.le_of_ble_eq_true rfl)⟩) (pwV hK hZ hN hP hS (va_recv hK hP (ci := 4) (q0 := 0) rfl rfl)) rfl rfl hl.1 rfl (lv_room (Nat.le_of_ble_eq_true rfl)) dX4_isBox_14 ⟨Nat.zero_le _, Nat.zero_le _⟩) hS (fun locs hS => ?_)
    refine lv_if_eq (tgt := 39) hx hb dX4_isBox_17 (by decide) (fun c_2 => ?_) (fun c_2 => ?_)
    · have c_2 := bI_0.mp c_2
      refine lv_iconst (v := 0) hx hb dX4_isBox_39 (by decide) ?_
      exact W.zret (v := 0) hx hb hr rfl (fun t ht hW => ⟨⟨0, (), rfl, (by grind [bI]), ht⟩, hS.F ht⟩) hS.2.2 dX4_isBox_40
    · have c_2 := bI_n0.mp c_2
      refine lv_aload_n hx hb dX4_isBox_20 rfl (lv_at hl 0 rfl) ?_
      refine lv_iload hx hb dX4_isBox_21 (lv_at hl 4 rfl) ?_
      refine pcI (va_runV (As := [.int w0]) (rest := []) ⟨hx, hb, hml, hown, hts⟩ (kX4_isCell l D cI cO tt ad g b d X s.heap w0 ) (cwV 1 hts gX4_isBox_X4_isCell rfl rfl rfl (by decide +kernel) ⟨(Nat.le_of_ble_eq_true rfl), (Nat.le_of_ble_eq_true rfl)⟩) (pwV hK hZ hN hP hS (va_recv hK hP (ci := 4) (q0 := 0) rfl rfl)) rfl rfl hl.1 rfl (lv_room (Nat.le_of_ble_eq_true rfl)) dX4_isBox_23 ⟨Nat.zero_le _, Nat.zero_le _⟩) hS (fun locs hS => ?_)
      refine lv_if_eq (tgt := 39) hx hb dX4_isBox_26 (by decide) (fun c_3 => ?_) (fun c_3 => ?_)
      · have c_3 := bI_0.mp c_3
        refine lv_iconst (v := 0) hx hb dX4_isBox_39 (by decide) ?_
        exact W.zret (v := 0) hx hb hr rfl (fun t ht hW => ⟨⟨0, (), rfl, (by grind [bI]), ht⟩, hS.F ht⟩) hS.2.2 dX4_isBox_40
      · have c_3 := bI_n0.mp c_3
        refine lv_iload_n hx hb dX4_isBox_29 rfl (lv_at hl 3 rfl) ?_
        refine lv_iload hx hb dX4_isBox_30 (lv_at hl 4 rfl) ?_
        refine lv_icmp_gt (tgt := 39) hx hb dX4_isBox_32 (by decide) (fun c_4 => ?_) (fun c_4 => ?_)
        · refine lv_iconst (v := 0) hx hb dX4_isBox_39 (by decide) ?_
          exact W.zret (v := 0) hx hb hr rfl (fun t ht hW => ⟨⟨0, (), rfl, (by grind [bI]), ht⟩, hS.F ht⟩) hS.2.2 dX4_isBox_40
        · refine lv_iconst (v := 1) hx hb dX4_isBox_35 (by decide) ?_
          refine lv_goto (tgt := 40) hx hb dX4_isBox_36 (by decide) ?_
          exact W.zret (v := 1) hx hb hr rfl (fun t ht hW => ⟨⟨1, (), rfl, (by grind [bI]), ht⟩, hS.F ht⟩) hS.2.2 dX4_isBox_40
set_option maxHeartbeats 4000000 in
set_option maxRecDepth 100000 in
theorem kX4_about (l : Launch) (D : va_G) (cI cO : ClassId) (tt : Nat) (ad : Nat → Nat) (g : Nat → Nat → Int32) (b : Nat → Int32) (d : Nat → Nat → Int64) (X : va_W) (sz : Nat) (p0 : Int32) (w0 : Int32) (hI : WI g) : MmI l yX4_about wsX4_about ({ frames := 4, cells := 0, slots := 0, locals := 96 }) D cI cO tt (LW ad cI cO g b d X) sz [.ref (ad 0), .int p0, .int w0] (S := (Nat → Nat → Int32) × (Nat → Int32) × (Nat → Nat → Int64)) (fun u => LW ad cI cO u.1 u.2.1 u.2.2 X) (fun z u => z = fAbout g p0 w0 ∧ u.1 = g) := by
  refine Met.ofW (cc := cX4_about) (maxL := 3) (ret := (some .int)) (by decide) rfl ?_
  intro p e s m args below meth c s₁ B hml hv
  obtain ⟨rfl, hsz, hP, hK, hD0, hZ, hN⟩ := hv
  have hx := B.exec
  have hb := B.bytes
  have hr := B.returns
  have hts := atoms_spec (ws := wsX4_about) B.pre
  have hown : s.vm.findClass RX4 = some m.cls := findClass_of_methodNamed B.named
  have hlocks := B.notSynchronized
  subst hsz
  have hD := hD0.self (sz := s.heap.size)
  generalize hAe : va_A (LW ad cI cO g b d X) s.heap.size = A at hD hZ ⊢
  have hA : ∀ q : Nat, s.heap.size ≤ q → A q := fun q h => by rw [← hAe]; exact Or.inr h
  have hS : va_S A s.heap s.heap [] := va_S.rf
  have hl := lv_entry ([.ref (ad 0), .int p0, .int w0]) (n := 3) (Nat.le_of_ble_eq_true rfl)
  rw [lg_entry_eq]
  generalize (lg_sl ([.ref (ad 0), .int p0, .int w0]) ++ List.replicate (3 - (lg_sl ([.ref (ad 0), .int p0, .int w0])).length) Slot.unset).toArray = ls at hl ⊢
  have hl : lv_has ls 3 [(0, .ref (ad 0)), (1, .int p0), (2, .int w0)] := hl
  have hw0 := hts (.fieldLink RX4 18 "LayerSounder" "track" "LLayerSounder$Track;") (List.mem_cons_of_mem _ (List.mem_append_left _ (List.mem_append_left _ (List.mem_append_left _ (List.mem_append_left _ (List.mem_append_left _ (List.mem_append_left _ (List.mem_of_getElem? (l := wsX4_about_r1) (i := 0) rfl))))))))
  have iX4 : ∀ w ∈ wsX40, w ∈ wsX4_about := fun _ h => List.mem_cons_of_mem _ (List.mem_append_left _ (List.mem_append_left _ (List.mem_append_left _ (List.mem_append_left _ (List.mem_append_right _ h)))))
  have hw2 := hts (.constant RX4 99 (-2147483648)) (List.mem_cons_of_mem _ (List.mem_append_left _ (List.mem_append_left _ (List.mem_append_left _ (List.mem_append_left _ (List.mem_append_left _ (List.mem_append_left _ (List.mem_of_getElem? (l := wsX4_about_r1) (i := 1) rfl))))))))
  refine lv_aload_n hx hb dX4_about_0 rfl (lv_at hl 0 rfl) ?_
  refine va_get (D := D) (ci := 4) (v := .ref (ad 2)) (C := RX4) (T := TX4) (N := 14) hx hb hts iX4 hown hK hP 0 rfl rfl 1 (by decide) hw0 (fun _ h9 => h9) rfl dX4_about_1 ?_
  refine lv_iload_n hx hb dX4_about_4 rfl (lv_at hl 1 rfl) ?_
  refine pcI (va_runV (As := [.int p0]) (rest := []) ⟨hx, hb, hml, hown, hts⟩ (kX3_isPing l D cI cO tt ad g b d X s.heap p0 ) (cwV 1 hts gX4_about_X3_isPing rfl rfl rfl (by decide +kernel) ⟨(Nat.le_of_ble_eq_true rfl), (Nat.le_of_ble_eq_true rfl)⟩) (pwV hK hZ hN hP hS (va_recv hK hP (ci := 3) (q0 := 2) rfl rfl)) rfl rfl hl.1 rfl (lv_room (Nat.le_of_ble_eq_true rfl)) dX4_about_5 ⟨Nat.zero_le _, Nat.zero_le _⟩) hS (fun locs hS => ?_)
  refine lv_if_ne (tgt := 14) hx hb dX4_about_8 (by decide) (fun c_1 => ?_) (fun c_1 => ?_)
  · have c_1 := bI_n0.mp c_1
    refine lv_iload_n hx hb dX4_about_14 rfl (lv_at hl 2 rfl) ?_
    rcases sw_4 w0 with c_2 | c_2 | c_2 | c_2 | c_2 | c_2
    · refine lv_tableOut (tgt := 93) hx hb dX4_about_15 c_2.1 (by decide) ?_
      replace c_2 := c_2.2
      refine lv_ldc hx hb hown hw2 dX4_about_93 ?_
      exact W.iret (v := (-2147483648)) hx hb hr (fun t ht hW => ⟨⟨(-2147483648), (g, b, d), rfl, (by refine ⟨?_, rfl⟩; grind [fAbout, rw_]), by rw [ht]; exact hP, hD⟩, hS.F ht⟩) hS.2.2 dX4_about_95
    · refine lv_tableIn (tgt := 48) hx hb dX4_about_15 (by rw [c_2]; decide) (by rw [c_2]; decide) (by rw [c_2]; rfl) (by decide) ?_
      refine lv_aload_n hx hb dX4_about_48 rfl (lv_at hl 0 rfl) ?_
      refine va_get (D := D) (ci := 4) (v := .ref (ad 2)) (C := RX4) (T := TX4) (N := 14) hx hb hts iX4 hown hK hP 0 rfl rfl 1 (by decide) hw0 (fun _ h9 => h9) rfl dX4_about_49 ?_
      refine lv_iload_n hx hb dX4_about_52 rfl (lv_at hl 1 rfl) ?_
      refine pcI (va_runV (As := [.int p0]) (rest := []) ⟨hx, hb, hml, hown, hts⟩ (kX3_headingOf l D cI cO tt ad g b d X s.heap p0 hI) (cwV 1 hts gX4_about_X3_headingOf rfl rfl rfl (by decide +kernel) ⟨(Nat.le_of_ble_eq_true rfl), (Nat.le_of_ble_eq_true rfl)⟩) (pwV hK hZ hN hP hS (va_recv hK hP (ci := 3) (q0 := 2) rfl rfl)) rfl rfl hl.1 rfl (lv_room (Nat.le_of_ble_eq_true rfl)) dX4_about_53 ⟨Nat.zero_le _, Nat.zero_le _⟩) hS (fun locs hS => ?_)
      exact W.iret (v := rw_ g 0 p0) hx hb hr (fun t ht hW => ⟨⟨rw_ g 0 p0, (g, b, d), rfl, (by refine ⟨?_, rfl⟩; grind [fAbout, rw_]), by rw [ht]; exact hP, hD⟩, hS.F ht⟩) hS.2.2 dX4_about_56
    · refine lv_tableIn (tgt := 57) hx hb dX4_about_15 (by rw [c_2]; decide) (by rw [c_2]; decide) (by rw [c_2]; rfl) (by decide) ?_
      refine lv_aload_n hx hb dX4_about_57 rfl (lv_at hl 0 rfl) ?_
      refine va_get (D := D) (ci := 4) (v := .ref (ad 2)) (C := RX4) (T := TX4) (N := 14) hx hb hts iX4 hown hK hP 0 rfl rfl 1 (by decide) hw0 (fun _ h9 => h9) rfl dX4_about_58 ?_
      refine lv_iload_n hx hb dX4_about_61 rfl (lv_at hl 1 rfl) ?_
      refine pcI (va_runV (As := [.int p0]) (rest := []) ⟨hx, hb, hml, hown, hts⟩ (kX3_xOf l D cI cO tt ad g b d X s.heap p0 hI) (cwV 1 hts gX4_about_X3_xOf rfl rfl rfl (by decide +kernel) ⟨(Nat.le_of_ble_eq_true rfl), (Nat.le_of_ble_eq_true rfl)⟩) (pwV hK hZ hN hP hS (va_recv hK hP (ci := 3) (q0 := 2) rfl rfl)) rfl rfl hl.1 rfl (lv_room (Nat.le_of_ble_eq_true rfl)) dX4_about_62 ⟨Nat.zero_le _, Nat.zero_le _⟩) hS (fun locs hS => ?_)
      exact W.iret (v := rw_ g 1 p0) hx hb hr (fun t ht hW => ⟨⟨rw_ g 1 p0, (g, b, d), rfl, (by refine ⟨?_, rfl⟩; grind [fAbout, rw_]), by rw [ht]; exact hP, hD⟩, hS.F ht⟩) hS.2.2 dX4_about_65
    · refine lv_tableIn (tgt := 66) hx hb dX4_about_15 (by rw [c_2]; decide) (by rw [c_2]; decide) (by rw [c_2]; rfl) (by decide) ?_
      refine lv_aload_n hx hb dX4_about_66 rfl (lv_at hl 0 rfl) ?_
      refine va_get (D := D) (ci := 4) (v := .ref (ad 2)) (C := RX4) (T := TX4) (N := 14) hx hb hts iX4 hown hK hP 0 rfl rfl 1 (by decide) hw0 (fun _ h9 => h9) rfl dX4_about_67 ?_
      refine lv_iload_n hx hb dX4_about_70 rfl (lv_at hl 1 rfl) ?_
      refine pcI (va_runV (As := [.int p0]) (rest := []) ⟨hx, hb, hml, hown, hts⟩ (kX3_yOf l D cI cO tt ad g b d X s.heap p0 hI) (cwV 1 hts gX4_about_X3_yOf rfl rfl rfl (by decide +kernel) ⟨(Nat.le_of_ble_eq_true rfl), (Nat.le_of_ble_eq_true rfl)⟩) (pwV hK hZ hN hP hS (va_recv hK hP (ci := 3) (q0 := 2) rfl rfl)) rfl rfl hl.1 rfl (lv_room (Nat.le_of_ble_eq_true rfl)) dX4_about_71 ⟨Nat.zero_le _, Nat.zero_le _⟩) hS (fun locs hS => ?_)
      exact W.iret (v := rw_ g 2 p0) hx hb hr (fun t ht hW => ⟨⟨rw_ g 2 p0, (g, b, d), rfl, (by refine ⟨?_, rfl⟩; grind [fAbout, rw_]), by rw [ht]; exact hP, hD⟩, hS.F ht⟩) hS.2.2 dX4_about_74
    · refine lv_tableIn (tgt := 75) hx hb dX4_about_15 (by rw [c_2]; decide) (by rw [c_2]; decide) (by rw [c_2]; rfl) (by decide) ?_
      refine lv_aload_n hx hb dX4_about_75 rfl (lv_at hl 0 rfl) ?_
      refine va_get (D := D) (ci := 4) (v := .ref (ad 2)) (C := RX4) (T := TX4) (N := 14) hx hb hts iX4 hown hK hP 0 rfl rfl 1 (by decide) hw0 (fun _ h9 => h9) rfl dX4_about_76 ?_
      refine lv_iload_n hx hb dX4_about_79 rfl (lv_at hl 1 rfl) ?_
      refine pcI (va_runV (As := [.int p0]) (rest := []) ⟨hx, hb, hml, hown, hts⟩ (kX3_depthOf l D cI cO tt ad g b d X s.heap p0 hI) (cwV 1 hts gX4_about_X3_depthOf rfl rfl rfl (by decide +kernel) ⟨(Nat.le_of_ble_eq_true rfl), (Nat.le_of_ble_eq_true rfl)⟩) (pwV hK hZ hN hP hS (va_recv hK hP (ci := 3) (q0 := 2) rfl rfl)) rfl rfl hl.1 rfl (lv_room (Nat.le_of_ble_eq_true rfl)) dX4_about_80 ⟨Nat.zero_le _, Nat.zero_le _⟩) hS (fun locs hS => ?_)
      exact W.iret (v := rw_ g 3 p0) hx hb hr (fun t ht hW => ⟨⟨rw_ g 3 p0, (g, b, d), rfl, (by refine ⟨?_, rfl⟩; grind [fAbout, rw_]), by rw [ht]; exact hP, hD⟩, hS.F ht⟩) hS.2.2 dX4_about_83
    · refine lv_tableIn (tgt := 84) hx hb dX4_about_15 (by rw [c_2]; decide) (by rw [c_2]; decide) (by rw [c_2]; rfl) (by decide) ?_
      refine lv_aload_n hx hb dX4_about_84 rfl (lv_at hl 0 rfl) ?_
      refine lv_iload_n hx hb dX4_about_85 rfl (lv_at hl 1 rfl) ?_
      refine mcI (wf := fun u : (Nat → Int32) × (Nat → Nat → Int64) => LW ad cI cO g u.1 u.2 X) (va_runV (As := [.int p0]) (rest := []) ⟨hx, hb, hml, hown, hts⟩ (kX4_findOwn l D cI cO tt ad g b d X s.heap.size p0 hI) (cwV 1 hts gX4_about_X4_findOwn rfl rfl rfl (by decide +kernel) ⟨(Nat.le_of_ble_eq_true rfl), (Nat.le_of_ble_eq_true rfl)⟩) (mwV hK hZ hN hP hD hS hA (va_recv hK hP (ci := 4) (q0 := 0) rfl rfl)) rfl rfl hl.1 rfl (lv_room (Nat.le_of_ble_eq_true rfl)) dX4_about_86 ⟨Nat.zero_le _, Nat.zero_le _⟩) hD hS hA (fun ru_3 uu_3 H locs hu_3 hP hD hS => ?_)
      obtain ⟨bu_3, du_3⟩ := uu_3
      have hP : va_P D vwCl (LW ad cI cO g bu_3 du_3 X) H := hP
      have hD : va_D A (LW ad cI cO g bu_3 du_3 X) := hD
      have hu_3 : foP g p0 d ru_3 du_3 := hu_3
      obtain ⟨eru_3, hfu_3⟩ : ru_3 = bI (oOk g p0) ∧ foP g p0 d (bI (oOk g p0)) du_3 := ⟨hu_3.1, hu_3.1 ▸ hu_3⟩
      subst eru_3
      refine pcI (va_runS (As := [.int (bI (oOk g p0))]) (rest := []) ⟨hx, hb, hml, hown, hts⟩ (kX4_asNumber l D cI cO tt (LW ad cI cO g bu_3 du_3 X) H (bI (oOk g p0)) ) (va_cwS 1 hts gX4_about_X4_asNumber rfl rfl rfl (by decide +kernel) ⟨(Nat.le_of_ble_eq_true rfl), (Nat.le_of_ble_eq_true rfl)⟩) (pwS hK hZ hN hP hS) rfl rfl hl.1 rfl (lv_room (Nat.le_of_ble_eq_true rfl)) dX4_about_89 ⟨Nat.zero_le _, Nat.zero_le _⟩) hS (fun locs hS => ?_)
      refine tpI bI_bI ?_
      exact W.iret (v := bI (oOk g p0)) hx hb hr (fun t ht hW => ⟨⟨bI (oOk g p0), (g, bu_3, du_3), rfl, (by refine ⟨?_, rfl⟩; grind [fAbout, rw_]), by rw [ht]; exact hP, hD⟩, hS.F ht⟩) hS.2.2 dX4_about_92
  · have c_1 := bI_0.mp c_1
    refine lv_ldc hx hb hown hw2 dX4_about_11 ?_
    exact W.iret (v := (-2147483648)) hx hb hr (fun t ht hW => ⟨⟨(-2147483648), (g, b, d), rfl, (by refine ⟨?_, rfl⟩; grind [fAbout, rw_]), by rw [ht]; exact hP, hD⟩, hS.F ht⟩) hS.2.2 dX4_about_13
set_option maxHeartbeats 4000000 in
set_option maxRecDepth 100000 in
theorem kX4_own (l : Launch) (D : va_G) (cI cO : ClassId) (tt : Nat) (ad : Nat → Nat) (g : Nat → Nat → Int32) (b : Nat → Int32) (d : Nat → Nat → Int64) (X : va_W) (sz : Nat) (p0 : Int32) (w0 : Int32) (hI : WI g) : MmL l yX4_own wsX4_own ({ frames := 4, cells := 0, slots := 0, locals := 96 }) D cI cO tt (LW ad cI cO g b d X) sz [.ref (ad 0), .int p0, .int w0] (S := (Nat → Nat → Int32) × (Nat → Int32) × (Nat → Nat → Int64)) (fun u => LW ad cI cO u.1 u.2.1 u.2.2 X) (fun z u => z = fOwn g p0 w0 ∧ u.1 = g) := by
  refine Met.ofW (cc := cX4_own) (maxL := 3) (ret := (some .long)) (by decide) rfl ?_
  intro p e s m args below meth c s₁ B hml hv
  obtain ⟨rfl, hsz, hP, hK, hD0, hZ, hN⟩ := hv
  have hx := B.exec
  have hb := B.bytes
  have hr := B.returns
  have hts := atoms_spec (ws := wsX4_own) B.pre
  have hown : s.vm.findClass RX4 = some m.cls := findClass_of_methodNamed B.named
  have hlocks := B.notSynchronized
  subst hsz
  have hD := hD0.self (sz := s.heap.size)
  generalize hAe : va_A (LW ad cI cO g b d X) s.heap.size = A at hD hZ ⊢
  have hA : ∀ q : Nat, s.heap.size ≤ q → A q := fun q h => by rw [← hAe]; exact Or.inr h
  have hS : va_S A s.heap s.heap [] := va_S.rf
  have hl := lv_entry ([.ref (ad 0), .int p0, .int w0]) (n := 3) (Nat.le_of_ble_eq_true rfl)
  rw [lg_entry_eq]
  generalize (lg_sl ([.ref (ad 0), .int p0, .int w0]) ++ List.replicate (3 - (lg_sl ([.ref (ad 0), .int p0, .int w0])).length) Slot.unset).toArray = ls at hl ⊢
  have hl : lv_has ls 3 [(0, .ref (ad 0)), (1, .int p0), (2, .int w0)] := hl
  have hw0 := hts (.fieldLink RX4 18 "LayerSounder" "track" "LLayerSounder$Track;") (List.mem_cons_of_mem _ (List.mem_append_left _ (List.mem_append_left _ (List.mem_append_left _ (List.mem_append_left _ (List.mem_append_left _ (List.mem_append_left _ (List.mem_of_getElem? (l := wsX4_own_r1) (i := 0) rfl))))))))
  have iX4 : ∀ w ∈ wsX40, w ∈ wsX4_own := fun _ h => List.mem_cons_of_mem _ (List.mem_append_left _ (List.mem_append_left _ (List.mem_append_left _ (List.mem_append_left _ (List.mem_append_right _ h)))))
  have hw2 := hts (.fieldLink RX4 32 "LayerSounder" "ownDrift" "LLayerSounder$Drift;") (List.mem_cons_of_mem _ (List.mem_append_left _ (List.mem_append_left _ (List.mem_append_left _ (List.mem_append_left _ (List.mem_append_left _ (List.mem_append_left _ (List.mem_of_getElem? (l := wsX4_own_r1) (i := 1) rfl))))))))
  have hw3 := hts (.fieldLink RX4 52 "LayerSounder" "skewTurn" "I") (List.mem_cons_of_mem _ (List.mem_append_left _ (List.mem_append_left _ (List.mem_append_left _ (List.mem_append_left _ (List.mem_append_left _ (List.mem_append_left _ (List.mem_of_getElem? (l := wsX4_own_r1) (i := 2) rfl))))))))
  refine lv_aload_n hx hb dX4_own_0 rfl (lv_at hl 0 rfl) ?_
  refine va_get (D := D) (ci := 4) (v := .ref (ad 2)) (C := RX4) (T := TX4) (N := 14) hx hb hts iX4 hown hK hP 0 rfl rfl 1 (by decide) hw0 (fun _ h9 => h9) rfl dX4_own_1 ?_
  refine lv_iload_n hx hb dX4_own_4 rfl (lv_at hl 1 rfl) ?_
  refine pcI (va_runV (As := [.int p0]) (rest := []) ⟨hx, hb, hml, hown, hts⟩ (kX3_isPing l D cI cO tt ad g b d X s.heap p0 ) (cwV 1 hts gX4_own_X3_isPing rfl rfl rfl (by decide +kernel) ⟨(Nat.le_of_ble_eq_true rfl), (Nat.le_of_ble_eq_true rfl)⟩) (pwV hK hZ hN hP hS (va_recv hK hP (ci := 3) (q0 := 2) rfl rfl)) rfl rfl hl.1 rfl (lv_room (Nat.le_of_ble_eq_true rfl)) dX4_own_5 ⟨Nat.zero_le _, Nat.zero_le _⟩) hS (fun locs hS => ?_)
  refine lv_if_eq (tgt := 20) hx hb dX4_own_8 (by decide) (fun c_1 => ?_) (fun c_1 => ?_)
  · have c_1 := bI_0.mp c_1
    refine lv_bipush (v := (-2)) hx hb dX4_own_20 (by decide) ?_
    refine pcL (va_runS (As := [.int (-2)]) (rest := []) ⟨hx, hb, hml, hown, hts⟩ (kX4_asLong l D cI cO tt (LW ad cI cO g b d X) s.heap (-2) ) (va_cwS 1 hts gX4_own_X4_asLong rfl rfl rfl (by decide +kernel) ⟨(Nat.le_of_ble_eq_true rfl), (Nat.le_of_ble_eq_true rfl)⟩) (pwS hK hZ hN hP hS) rfl rfl hl.1 rfl (lv_room (Nat.le_of_ble_eq_true rfl)) dX4_own_22 ⟨Nat.zero_le _, Nat.zero_le _⟩) hS (fun locs hS => ?_)
    exact W.lret (v := (-9223372036854775808) - ((-2) : Int32).toInt64) hx hb hr (fun t ht hW => ⟨⟨(-9223372036854775808) - ((-2) : Int32).toInt64, (g, b, d), rfl, (by refine ⟨?_, rfl⟩; grind [fOwn]), by rw [ht]; exact hP, hD⟩, hS.F ht⟩) hS.2.2 dX4_own_25
  · have c_1 := bI_n0.mp c_1
    refine lv_iload_n hx hb dX4_own_11 rfl (lv_at hl 2 rfl) ?_
    refine lv_iconst (v := 0) hx hb dX4_own_12 (by decide) ?_
    refine lv_iconst (v := 1) hx hb dX4_own_13 (by decide) ?_
    refine pcI (va_runS (As := [.int w0, .int 0, .int 1]) (rest := []) ⟨hx, hb, hml, hown, hts⟩ (kX4_isWithin l D cI cO tt (LW ad cI cO g b d X) s.heap w0 0 1 ) (va_cwS 3 hts gX4_own_X4_isWithin rfl rfl rfl (by decide +kernel) ⟨(Nat.le_of_ble_eq_true rfl), (Nat.le_of_ble_eq_true rfl)⟩) (pwS hK hZ hN hP hS) rfl rfl hl.1 rfl (lv_room (Nat.le_of_ble_eq_true rfl)) dX4_own_14 ⟨Nat.zero_le _, Nat.zero_le _⟩) hS (fun locs hS => ?_)
    refine lv_if_ne (tgt := 26) hx hb dX4_own_17 (by decide) (fun c_2 => ?_) (fun c_2 => ?_)
    · have c_2 := bI_n0.mp c_2
      refine lv_aload_n hx hb dX4_own_26 rfl (lv_at hl 0 rfl) ?_
      refine lv_iload_n hx hb dX4_own_27 rfl (lv_at hl 1 rfl) ?_
      refine mcI (wf := fun u : (Nat → Int32) × (Nat → Nat → Int64) => LW ad cI cO g u.1 u.2 X) (va_runV (As := [.int p0]) (rest := []) ⟨hx, hb, hml, hown, hts⟩ (kX4_findOwn l D cI cO tt ad g b d X s.heap.size p0 hI) (cwV 1 hts gX4_own_X4_findOwn rfl rfl rfl (by decide +kernel) ⟨(Nat.le_of_ble_eq_true rfl), (Nat.le_of_ble_eq_true rfl)⟩) (mwV hK hZ hN hP hD hS hA (va_recv hK hP (ci := 4) (q0 := 0) rfl rfl)) rfl rfl hl.1 rfl (lv_room (Nat.le_of_ble_eq_true rfl)) dX4_own_28 ⟨Nat.zero_le _, Nat.zero_le _⟩) hD hS hA (fun ru_3 uu_3 H locs hu_3 hP hD hS => ?_)
      obtain ⟨bu_3, du_3⟩ := uu_3
      have hP : va_P D vwCl (LW ad cI cO g bu_3 du_3 X) H := hP
      have hD : va_D A (LW ad cI cO g bu_3 du_3 X) := hD
      have hu_3 : foP g p0 d ru_3 du_3 := hu_3
      obtain ⟨eru_3, hfu_3⟩ : ru_3 = bI (oOk g p0) ∧ foP g p0 d (bI (oOk g p0)) du_3 := ⟨hu_3.1, hu_3.1 ▸ hu_3⟩
      subst eru_3
      refine lv_if_ne (tgt := 40) hx hb dX4_own_31 (by decide) (fun c_4 => ?_) (fun c_4 => ?_)
      · have c_4 := bI_n0.mp c_4
        refine lv_aload_n hx hb dX4_own_40 rfl (lv_at hl 0 rfl) ?_
        refine va_get (D := D) (ci := 4) (v := .ref (ad 4)) (C := RX4) (T := TX4) (N := 14) hx hb hts iX4 hown hK hP 0 rfl rfl 3 (by decide) hw2 (fun _ h9 => h9) rfl dX4_own_41 ?_
        refine lv_aload_n hx hb dX4_own_44 rfl (lv_at hl 0 rfl) ?_
        refine va_get (D := D) (ci := 4) (v := .int (g 100 2)) (C := RX4) (T := TX4) (N := 14) hx hb hts iX4 hown hK hP 0 rfl rfl 9 (by decide) hw3 (fun _ h9 => h9) rfl dX4_own_45 ?_
        refine lv_iload_n hx hb dX4_own_48 rfl (lv_at hl 2 rfl) ?_
        refine pcL (va_runV (As := [.int (g 100 2), .int w0]) (rest := []) ⟨hx, hb, hml, hown, hts⟩ (kX1_part l D cI cO tt ad g bu_3 du_3 X H 0 (g 100 2) w0 (by decide)) (cwV 2 hts gX4_own_X1_part rfl rfl rfl (by decide +kernel) ⟨(Nat.le_of_ble_eq_true rfl), (Nat.le_of_ble_eq_true rfl)⟩) (pwV hK hZ hN hP hS (va_recv hK hP (ci := 1) (q0 := 4) rfl rfl)) rfl rfl hl.1 rfl (lv_room (Nat.le_of_ble_eq_true rfl)) dX4_own_49 ⟨Nat.zero_le _, Nat.zero_le _⟩) hS (fun locs hS => ?_)
        exact W.lret (v := if w0 = 0 then xT (du_3 0 0) (du_3 0 1) (g 100 2) + du_3 0 2 else yT (du_3 0 0) (du_3 0 1) (g 100 2) + du_3 0 3) hx hb hr (fun t ht hW => ⟨⟨if w0 = 0 then xT (du_3 0 0) (du_3 0 1) (g 100 2) + du_3 0 2 else yT (du_3 0 0) (du_3 0 1) (g 100 2) + du_3 0 3, (g, bu_3, du_3), rfl, (by refine ⟨?_, rfl⟩; obtain ⟨z0, z1, z2, z3⟩ := hfu_3.2.1 c_4; rw [z0, z1, z2, z3]; grind [fOwn, ownV]), by rw [ht]; exact hP, hD⟩, hS.F ht⟩) hS.2.2 dX4_own_52
      · have c_4 := bI_0.mp c_4
        refine lv_bipush (v := (-3)) hx hb dX4_own_34 (by decide) ?_
        refine pcL (va_runS (As := [.int (-3)]) (rest := []) ⟨hx, hb, hml, hown, hts⟩ (kX4_asLong l D cI cO tt (LW ad cI cO g bu_3 du_3 X) H (-3) ) (va_cwS 1 hts gX4_own_X4_asLong rfl rfl rfl (by decide +kernel) ⟨(Nat.le_of_ble_eq_true rfl), (Nat.le_of_ble_eq_true rfl)⟩) (pwS hK hZ hN hP hS) rfl rfl hl.1 rfl (lv_room (Nat.le_of_ble_eq_true rfl)) dX4_own_36 ⟨Nat.zero_le _, Nat.zero_le _⟩) hS (fun locs hS => ?_)
        exact W.lret (v := (-9223372036854775808) - ((-3) : Int32).toInt64) hx hb hr (fun t ht hW => ⟨⟨(-9223372036854775808) - ((-3) : Int32).toInt64, (g, bu_3, du_3), rfl, (by refine ⟨?_, rfl⟩; grind [fOwn]), by rw [ht]; exact hP, hD⟩, hS.F ht⟩) hS.2.2 dX4_own_39
    · have c_2 := bI_0.mp c_2
      refine lv_bipush (v := (-2)) hx hb dX4_own_20 (by decide) ?_
      refine pcL (va_runS (As := [.int (-2)]) (rest := []) ⟨hx, hb, hml, hown, hts⟩ (kX4_asLong l D cI cO tt (LW ad cI cO g b d X) s.heap (-2) ) (va_cwS 1 hts gX4_own_X4_asLong rfl rfl rfl (by decide +kernel) ⟨(Nat.le_of_ble_eq_true rfl), (Nat.le_of_ble_eq_true rfl)⟩) (pwS hK hZ hN hP hS) rfl rfl hl.1 rfl (lv_room (Nat.le_of_ble_eq_true rfl)) dX4_own_22 ⟨Nat.zero_le _, Nat.zero_le _⟩) hS (fun locs hS => ?_)
      exact W.lret (v := (-9223372036854775808) - ((-2) : Int32).toInt64) hx hb hr (fun t ht hW => ⟨⟨(-9223372036854775808) - ((-2) : Int32).toInt64, (g, b, d), rfl, (by refine ⟨?_, rfl⟩; grind [fOwn]), by rw [ht]; exact hP, hD⟩, hS.F ht⟩) hS.2.2 dX4_own_25
set_option maxHeartbeats 4000000 in
set_option maxRecDepth 100000 in
theorem kX4_answer (l : Launch) (D : va_G) (cI cO : ClassId) (tt : Nat) (ad : Nat → Nat) (g : Nat → Nat → Int32) (b : Nat → Int32) (d : Nat → Nat → Int64) (X : va_W) (sz : Nat) (a0 : Int32) (b0 : Int32) (c0 : Int32) (d0 : Int32) (w0 : Int32)  : MmI l yX4_answer wsX4_answer ({ frames := 2, cells := 0, slots := 0, locals := 49 }) D cI cO tt (LW ad cI cO g b d X) sz [.ref (ad 0), .int a0, .int b0, .int c0, .int d0, .int w0] (S := (Nat → Nat → Int32) × (Nat → Int32) × (Nat → Nat → Int64)) (fun u => LW ad cI cO u.1 u.2.1 u.2.2 X) (fun z u => z = fAnswer a0 b0 c0 d0 w0 ∧ u.1 = g) := by
  refine Met.ofW (cc := cX4_answer) (maxL := 6) (ret := (some .int)) (by decide) rfl ?_
  intro p e s m args below meth c s₁ B hml hv
  obtain ⟨rfl, hsz, hP, hK, hD0, hZ, hN⟩ := hv
  have hx := B.exec
  have hb := B.bytes
  have hr := B.returns
  have hts := atoms_spec (ws := wsX4_answer) B.pre
  have hown : s.vm.findClass RX4 = some m.cls := findClass_of_methodNamed B.named
  have hlocks := B.notSynchronized
  subst hsz
  have hD := hD0.self (sz := s.heap.size)
  generalize hAe : va_A (LW ad cI cO g b d X) s.heap.size = A at hD hZ ⊢
  have hA : ∀ q : Nat, s.heap.size ≤ q → A q := fun q h => by rw [← hAe]; exact Or.inr h
  have hS : va_S A s.heap s.heap [] := va_S.rf
  have hl := lv_entry ([.ref (ad 0), .int a0, .int b0, .int c0, .int d0, .int w0]) (n := 6) (Nat.le_of_ble_eq_true rfl)
  rw [lg_entry_eq]
  generalize (lg_sl ([.ref (ad 0), .int a0, .int b0, .int c0, .int d0, .int w0]) ++ List.replicate (6 - (lg_sl ([.ref (ad 0), .int a0, .int b0, .int c0, .int d0, .int w0])).length) Slot.unset).toArray = ls at hl ⊢
  have hl : lv_has ls 6 [(0, .ref (ad 0)), (1, .int a0), (2, .int b0), (3, .int c0), (4, .int d0), (5, .int w0)] := hl
  have hw0 := hts (.fieldLink RX4 25 "LayerSounder" "beams" "LLayerSounder$Beams;") (List.mem_cons_of_mem _ (List.mem_append_left _ (List.mem_append_left _ (List.mem_of_getElem? (i := 0) rfl))))
  have iX4 : ∀ w ∈ wsX40, w ∈ wsX4_answer := fun _ h => List.mem_cons_of_mem _ (List.mem_append_left _ (List.mem_append_right _ h))
  have iX0 : ∀ w ∈ wsX00, w ∈ wsX4_answer := fun _ h => List.mem_cons_of_mem _ (List.mem_append_right _ h)
  have hw3 := hts (.constant RX4 99 (-2147483648)) (List.mem_cons_of_mem _ (List.mem_append_left _ (List.mem_append_left _ (List.mem_of_getElem? (i := 1) rfl))))
  refine lv_aload_n hx hb dX4_answer_0 rfl (lv_at hl 0 rfl) ?_
  refine va_get (D := D) (ci := 4) (v := .ref (ad 3)) (C := RX4) (T := TX4) (N := 14) hx hb hts iX4 hown hK hP 0 rfl rfl 2 (by decide) hw0 (fun _ h9 => h9) rfl dX4_answer_1 ?_
  refine lv_iload_n hx hb dX4_answer_4 rfl (lv_at hl 1 rfl) ?_
  refine lv_iload_n hx hb dX4_answer_5 rfl (lv_at hl 2 rfl) ?_
  refine lv_iload_n hx hb dX4_answer_6 rfl (lv_at hl 3 rfl) ?_
  refine lv_iload hx hb dX4_answer_7 (lv_at hl 4 rfl) ?_
  refine mcV (wf := fun u : Nat → Int32 => LW ad cI cO g u d X) (va_runV (As := [.int a0, .int b0, .int c0, .int d0]) (rest := []) ⟨hx, hb, hml, hown, hts⟩ (kX0_take l D cI cO tt ad g b d X s.heap.size a0 b0 c0 d0 ) (cwV 4 hts gX4_answer_X0_take rfl rfl rfl (by decide +kernel) ⟨(Nat.le_of_ble_eq_true rfl), (Nat.le_of_ble_eq_true rfl)⟩) (mwV hK hZ hN hP hD hS hA (va_recv hK hP (ci := 0) (q0 := 3) rfl rfl)) rfl rfl hl.1 rfl (lv_room (Nat.le_of_ble_eq_true rfl)) dX4_answer_9 ⟨Nat.zero_le _, Nat.zero_le _⟩) hD hS hA (fun uu_1 H locs hu_1 hP hD hS => ?_)
  have hP : va_P D vwCl (LW ad cI cO g uu_1 d X) H := hP
  have hD : va_D A (LW ad cI cO g uu_1 d X) := hD
  refine lv_aload_n hx hb dX4_answer_12 rfl (lv_at hl 0 rfl) ?_
  refine va_get (D := D) (ci := 4) (v := .ref (ad 3)) (C := RX4) (T := TX4) (N := 14) hx hb hts iX4 hown hK hP 0 rfl rfl 2 (by decide) hw0 (fun _ h9 => h9) rfl dX4_answer_13 ?_
  refine va_getN (D := D) (ci := 0) (v := .int (uu_1 0)) (C := RX0) (T := TX0) (N := 5) hx hb hts iX0 hown hK hP 3 rfl rfl 0 (by decide) (va_Nw.use rfl (hN.1 (175, RX0, "answered", "Z") (List.mem_of_getElem? (i := 3) rfl))) (fun _ h9 => h9) rfl dX4_answer_16 ?_
  refine lv_if_ne (tgt := 25) hx hb dX4_answer_19 (by decide) (fun c_2 => ?_) (fun c_2 => ?_)
  · refine lv_iload hx hb dX4_answer_25 (lv_at hl 5 rfl) ?_
    rcases sw_3 w0 with c_3 | c_3 | c_3 | c_3 | c_3
    · refine lv_tableOut (tgt := 91) hx hb dX4_answer_27 c_3.1 (by decide) ?_
      replace c_3 := c_3.2
      refine lv_ldc hx hb hown hw3 dX4_answer_91 ?_
      exact W.iret (v := (-2147483648)) hx hb hr (fun t ht hW => ⟨⟨(-2147483648), (g, uu_1, d), rfl, (by refine ⟨?_, rfl⟩; have z : lo a0 b0 c0 d0 ≤ 1 := bI_n0.mp (fun q => c_2 (hu_1.1.trans q)); have z2 := hu_1.2.2 z; have z3 := hu_1.2.1; grind [fAnswer, bI]), by rw [ht]; exact hP, hD⟩, hS.F ht⟩) hS.2.2 dX4_answer_93
    · refine lv_tableIn (tgt := 56) hx hb dX4_answer_27 (by rw [c_3]; decide) (by rw [c_3]; decide) (by rw [c_3]; rfl) (by decide) ?_
      refine lv_aload_n hx hb dX4_answer_56 rfl (lv_at hl 0 rfl) ?_
      refine va_get (D := D) (ci := 4) (v := .ref (ad 3)) (C := RX4) (T := TX4) (N := 14) hx hb hts iX4 hown hK hP 0 rfl rfl 2 (by decide) hw0 (fun _ h9 => h9) rfl dX4_answer_57 ?_
      refine va_getN (D := D) (ci := 0) (v := .int (uu_1 2)) (C := RX0) (T := TX0) (N := 5) hx hb hts iX0 hown hK hP 3 rfl rfl 2 (by decide) (va_Nw.use rfl (hN.1 (178, RX0, "along", "I") (List.mem_of_getElem? (i := 4) rfl))) (fun _ h9 => h9) rfl dX4_answer_60 ?_
      exact W.iret (v := uu_1 2) hx hb hr (fun t ht hW => ⟨⟨uu_1 2, (g, uu_1, d), rfl, (by refine ⟨?_, rfl⟩; have z : lo a0 b0 c0 d0 ≤ 1 := bI_n0.mp (fun q => c_2 (hu_1.1.trans q)); have z2 := hu_1.2.2 z; have z3 := hu_1.2.1; grind [fAnswer, bI]), by rw [ht]; exact hP, hD⟩, hS.F ht⟩) hS.2.2 dX4_answer_63
    · refine lv_tableIn (tgt := 64) hx hb dX4_answer_27 (by rw [c_3]; decide) (by rw [c_3]; decide) (by rw [c_3]; rfl) (by decide) ?_
      refine lv_aload_n hx hb dX4_answer_64 rfl (lv_at hl 0 rfl) ?_
      refine va_get (D := D) (ci := 4) (v := .ref (ad 3)) (C := RX4) (T := TX4) (N := 14) hx hb hts iX4 hown hK hP 0 rfl rfl 2 (by decide) hw0 (fun _ h9 => h9) rfl dX4_answer_65 ?_
      refine va_getN (D := D) (ci := 0) (v := .int (uu_1 3)) (C := RX0) (T := TX0) (N := 5) hx hb hts iX0 hown hK hP 3 rfl rfl 3 (by decide) (va_Nw.use rfl (hN.1 (181, RX0, "across", "I") (List.mem_of_getElem? (i := 5) rfl))) (fun _ h9 => h9) rfl dX4_answer_68 ?_
      exact W.iret (v := uu_1 3) hx hb hr (fun t ht hW => ⟨⟨uu_1 3, (g, uu_1, d), rfl, (by refine ⟨?_, rfl⟩; have z : lo a0 b0 c0 d0 ≤ 1 := bI_n0.mp (fun q => c_2 (hu_1.1.trans q)); have z2 := hu_1.2.2 z; have z3 := hu_1.2.1; grind [fAnswer, bI]), by rw [ht]; exact hP, hD⟩, hS.F ht⟩) hS.2.2 dX4_answer_71
    · refine lv_tableIn (tgt := 72) hx hb dX4_answer_27 (by rw [c_3]; decide) (by rw [c_3]; decide) (by rw [c_3]; rfl) (by decide) ?_
      refine lv_aload_n hx hb dX4_answer_72 rfl (lv_at hl 0 rfl) ?_
      refine va_get (D := D) (ci := 4) (v := .ref (ad 3)) (C := RX4) (T := TX4) (N := 14) hx hb hts iX4 hown hK hP 0 rfl rfl 2 (by decide) hw0 (fun _ h9 => h9) rfl dX4_answer_73 ?_
      refine va_getN (D := D) (ci := 0) (v := .int (uu_1 4)) (C := RX0) (T := TX0) (N := 5) hx hb hts iX0 hown hK hP 3 rfl rfl 4 (by decide) (va_Nw.use rfl (hN.1 (184, RX0, "odd", "I") (List.mem_of_getElem? (i := 6) rfl))) (fun _ h9 => h9) rfl dX4_answer_76 ?_
      exact W.iret (v := uu_1 4) hx hb hr (fun t ht hW => ⟨⟨uu_1 4, (g, uu_1, d), rfl, (by refine ⟨?_, rfl⟩; have z : lo a0 b0 c0 d0 ≤ 1 := bI_n0.mp (fun q => c_2 (hu_1.1.trans q)); have z2 := hu_1.2.2 z; have z3 := hu_1.2.1; grind [fAnswer, bI]), by rw [ht]; exact hP, hD⟩, hS.F ht⟩) hS.2.2 dX4_answer_79
    · refine lv_tableIn (tgt := 80) hx hb dX4_answer_27 (by rw [c_3]; decide) (by rw [c_3]; decide) (by rw [c_3]; rfl) (by decide) ?_
      refine lv_aload_n hx hb dX4_answer_80 rfl (lv_at hl 0 rfl) ?_
      refine va_get (D := D) (ci := 4) (v := .ref (ad 3)) (C := RX4) (T := TX4) (N := 14) hx hb hts iX4 hown hK hP 0 rfl rfl 2 (by decide) hw0 (fun _ h9 => h9) rfl dX4_answer_81 ?_
      refine va_getN (D := D) (ci := 0) (v := .int (uu_1 1)) (C := RX0) (T := TX0) (N := 5) hx hb hts iX0 hown hK hP 3 rfl rfl 1 (by decide) (va_Nw.use rfl (hN.1 (187, RX0, "three", "Z") (List.mem_of_getElem? (i := 7) rfl))) (fun _ h9 => h9) rfl dX4_answer_84 ?_
      refine pcI (va_runS (As := [.int (uu_1 1)]) (rest := []) ⟨hx, hb, hml, hown, hts⟩ (kX4_asNumber l D cI cO tt (LW ad cI cO g uu_1 d X) H (uu_1 1) ) (va_cwS 1 hts gX4_answer_X4_asNumber rfl rfl rfl (by decide +kernel) ⟨(Nat.le_of_ble_eq_true rfl), (Nat.le_of_ble_eq_true rfl)⟩) (pwS hK hZ hN hP hS) rfl rfl hl.1 rfl (lv_room (Nat.le_of_ble_eq_true rfl)) dX4_answer_87 ⟨Nat.zero_le _, Nat.zero_le _⟩) hS (fun locs hS => ?_)
      exact W.iret (v := bI (¬ (uu_1 1) = 0)) hx hb hr (fun t ht hW => ⟨⟨bI (¬ (uu_1 1) = 0), (g, uu_1, d), rfl, (by refine ⟨?_, rfl⟩; have z : lo a0 b0 c0 d0 ≤ 1 := bI_n0.mp (fun q => c_2 (hu_1.1.trans q)); have z2 := hu_1.2.2 z; have z3 := hu_1.2.1; grind [fAnswer, bI]), by rw [ht]; exact hP, hD⟩, hS.F ht⟩) hS.2.2 dX4_answer_90
  · refine lv_ldc hx hb hown hw3 dX4_answer_22 ?_
    exact W.iret (v := (-2147483648)) hx hb hr (fun t ht hW => ⟨⟨(-2147483648), (g, uu_1, d), rfl, (by refine ⟨?_, rfl⟩; have z : ¬ lo a0 b0 c0 d0 ≤ 1 := bI_0.mp (hu_1.1.symm.trans c_2); grind [fAnswer]), by rw [ht]; exact hP, hD⟩, hS.F ht⟩) hS.2.2 dX4_answer_24
set_option maxHeartbeats 4000000 in
set_option maxRecDepth 100000 in
theorem kX4_beam (l : Launch) (D : va_G) (cI cO : ClassId) (tt : Nat) (ad : Nat → Nat) (g : Nat → Nat → Int32) (b : Nat → Int32) (d : Nat → Nat → Int64) (X : va_W) (H0 : Heap) (a0 : Int32) (c0 : Int32) (o0 : Int32) (s0 : Int32) (b0 : Int32)  : MpI l yX4_beam wsX4_beam ({ frames := 2, cells := 0, slots := 0, locals := 42 }) D cI cO tt (LW ad cI cO g b d X) H0 [.ref (ad 0), .int a0, .int c0, .int o0, .int s0, .int b0] (fBeam a0 c0 o0 s0 b0) := by
  refine Met.ofW (cc := cX4_beam) (maxL := 6) (ret := (some .int)) (by decide) rfl ?_
  intro p e s m args below meth c s₁ B hml hv
  obtain ⟨rfl, rfl, hP, hK, hZ, hN⟩ := hv
  have hx := B.exec
  have hb := B.bytes
  have hr := B.returns
  have hts := atoms_spec (ws := wsX4_beam) B.pre
  have hown : s.vm.findClass RX4 = some m.cls := findClass_of_methodNamed B.named
  have hlocks := B.notSynchronized
  have hS : va_S (fun _ => False) s.heap s.heap [] := va_S.rf
  have hl := lv_entry ([.ref (ad 0), .int a0, .int c0, .int o0, .int s0, .int b0]) (n := 6) (Nat.le_of_ble_eq_true rfl)
  rw [lg_entry_eq]
  generalize (lg_sl ([.ref (ad 0), .int a0, .int c0, .int o0, .int s0, .int b0]) ++ List.replicate (6 - (lg_sl ([.ref (ad 0), .int a0, .int c0, .int o0, .int s0, .int b0])).length) Slot.unset).toArray = ls at hl ⊢
  have hl : lv_has ls 6 [(0, .ref (ad 0)), (1, .int a0), (2, .int c0), (3, .int o0), (4, .int s0), (5, .int b0)] := hl
  have hw0 := hts (.constant RX4 99 (-2147483648)) (List.mem_cons_of_mem _ ((List.mem_of_getElem? (i := 2) rfl)))
  have hw1 := hts (.constant RX4 193 (-1000000)) (List.mem_cons_of_mem _ ((List.mem_of_getElem? (i := 0) rfl)))
  have hw2 := hts (.constant RX4 194 (1000000)) (List.mem_cons_of_mem _ ((List.mem_of_getElem? (i := 1) rfl)))
  refine lv_iload_n hx hb dX4_beam_0 rfl (lv_at hl 1 rfl) ?_
  refine pcI (va_runS (As := [.int a0]) (rest := []) ⟨hx, hb, hml, hown, hts⟩ (kX4_isPart l D cI cO tt (LW ad cI cO g b d X) s.heap a0 ) (va_cwS 1 hts gX4_beam_X4_isPart rfl rfl rfl (by decide +kernel) ⟨(Nat.le_of_ble_eq_true rfl), (Nat.le_of_ble_eq_true rfl)⟩) (pwS hK hZ hN hP hS) rfl rfl hl.1 rfl (lv_room (Nat.le_of_ble_eq_true rfl)) dX4_beam_1 ⟨Nat.zero_le _, Nat.zero_le _⟩) hS (fun locs hS => ?_)
  refine lv_if_eq (tgt := 33) hx hb dX4_beam_4 (by decide) (fun c_1 => ?_) (fun c_1 => ?_)
  · have c_1 := bI_0.mp c_1
    refine lv_ldc hx hb hown hw0 dX4_beam_33 ?_
    exact W.iret (v := (-2147483648)) hx hb hr (fun t ht hW => ⟨⟨(-2147483648), (), rfl, (by grind [fBeam]), ht⟩, hS.F ht⟩) hS.2.2 dX4_beam_35
  · have c_1 := bI_n0.mp c_1
    refine lv_iload_n hx hb dX4_beam_7 rfl (lv_at hl 2 rfl) ?_
    refine pcI (va_runS (As := [.int c0]) (rest := []) ⟨hx, hb, hml, hown, hts⟩ (kX4_isPart l D cI cO tt (LW ad cI cO g b d X) s.heap c0 ) (va_cwS 1 hts gX4_beam_X4_isPart rfl rfl rfl (by decide +kernel) ⟨(Nat.le_of_ble_eq_true rfl), (Nat.le_of_ble_eq_true rfl)⟩) (pwS hK hZ hN hP hS) rfl rfl hl.1 rfl (lv_room (Nat.le_of_ble_eq_true rfl)) dX4_beam_8 ⟨Nat.zero_le _, Nat.zero_le _⟩) hS (fun locs hS => ?_)
    refine lv_if_eq (tgt := 33) hx hb dX4_beam_11 (by decide) (fun c_2 => ?_) (fun c_2 => ?_)
    · have c_2 := bI_0.mp c_2
      refine lv_ldc hx hb hown hw0 dX4_beam_33 ?_
      exact W.iret (v := (-2147483648)) hx hb hr (fun t ht hW => ⟨⟨(-2147483648), (), rfl, (by grind [fBeam]), ht⟩, hS.F ht⟩) hS.2.2 dX4_beam_35
    · have c_2 := bI_n0.mp c_2
      refine lv_iload_n hx hb dX4_beam_14 rfl (lv_at hl 3 rfl) ?_
      refine pcI (va_runS (As := [.int o0]) (rest := []) ⟨hx, hb, hml, hown, hts⟩ (kX4_isPart l D cI cO tt (LW ad cI cO g b d X) s.heap o0 ) (va_cwS 1 hts gX4_beam_X4_isPart rfl rfl rfl (by decide +kernel) ⟨(Nat.le_of_ble_eq_true rfl), (Nat.le_of_ble_eq_true rfl)⟩) (pwS hK hZ hN hP hS) rfl rfl hl.1 rfl (lv_room (Nat.le_of_ble_eq_true rfl)) dX4_beam_15 ⟨Nat.zero_le _, Nat.zero_le _⟩) hS (fun locs hS => ?_)
      refine lv_if_eq (tgt := 33) hx hb dX4_beam_18 (by decide) (fun c_3 => ?_) (fun c_3 => ?_)
      · have c_3 := bI_0.mp c_3
        refine lv_ldc hx hb hown hw0 dX4_beam_33 ?_
        exact W.iret (v := (-2147483648)) hx hb hr (fun t ht hW => ⟨⟨(-2147483648), (), rfl, (by grind [fBeam]), ht⟩, hS.F ht⟩) hS.2.2 dX4_beam_35
      · have c_3 := bI_n0.mp c_3
        refine lv_iload hx hb dX4_beam_21 (lv_at hl 4 rfl) ?_
        refine lv_ldc hx hb hown hw1 dX4_beam_23 ?_
        refine lv_ldc hx hb hown hw2 dX4_beam_25 ?_
        refine pcI (va_runS (As := [.int s0, .int (-1000000), .int 1000000]) (rest := []) ⟨hx, hb, hml, hown, hts⟩ (kX4_isWithin l D cI cO tt (LW ad cI cO g b d X) s.heap s0 (-1000000) 1000000 ) (va_cwS 3 hts gX4_beam_X4_isWithin rfl rfl rfl (by decide +kernel) ⟨(Nat.le_of_ble_eq_true rfl), (Nat.le_of_ble_eq_true rfl)⟩) (pwS hK hZ hN hP hS) rfl rfl hl.1 rfl (lv_room (Nat.le_of_ble_eq_true rfl)) dX4_beam_27 ⟨Nat.zero_le _, Nat.zero_le _⟩) hS (fun locs hS => ?_)
        refine lv_if_ne (tgt := 36) hx hb dX4_beam_30 (by decide) (fun c_4 => ?_) (fun c_4 => ?_)
        · have c_4 := bI_n0.mp c_4
          refine lv_iload hx hb dX4_beam_36 (lv_at hl 5 rfl) ?_
          rcases sw_3 b0 with c_5 | c_5 | c_5 | c_5 | c_5
          · refine lv_tableOut (tgt := 104) hx hb dX4_beam_38 c_5.1 (by decide) ?_
            replace c_5 := c_5.2
            refine lv_ldc hx hb hown hw0 dX4_beam_104 ?_
            exact W.iret (v := (-2147483648)) hx hb hr (fun t ht hW => ⟨⟨(-2147483648), (), rfl, (by grind [fBeam]), ht⟩, hS.F ht⟩) hS.2.2 dX4_beam_106
          · refine lv_tableIn (tgt := 68) hx hb dX4_beam_38 (by rw [c_5]; decide) (by rw [c_5]; decide) (by rw [c_5]; rfl) (by decide) ?_
            refine lv_iload hx hb dX4_beam_68 (lv_at hl 4 rfl) ?_
            refine lv_iload_n hx hb dX4_beam_70 rfl (lv_at hl 3 rfl) ?_
            refine lv_iadd hx hb dX4_beam_71 ?_
            refine lv_iconst (v := 2) hx hb dX4_beam_72 (by decide) ?_
            refine lv_iload_n hx hb dX4_beam_73 rfl (lv_at hl 1 rfl) ?_
            refine lv_imul hx hb dX4_beam_74 ?_
            refine lv_iadd hx hb dX4_beam_75 ?_
            exact W.iret (v := (s0 + o0) + (2 * a0)) hx hb hr (fun t ht hW => ⟨⟨(s0 + o0) + (2 * a0), (), rfl, (by grind [fBeam]), ht⟩, hS.F ht⟩) hS.2.2 dX4_beam_76
          · refine lv_tableIn (tgt := 77) hx hb dX4_beam_38 (by rw [c_5]; decide) (by rw [c_5]; decide) (by rw [c_5]; rfl) (by decide) ?_
            refine lv_iload hx hb dX4_beam_77 (lv_at hl 4 rfl) ?_
            refine lv_iload_n hx hb dX4_beam_79 rfl (lv_at hl 3 rfl) ?_
            refine lv_iadd hx hb dX4_beam_80 ?_
            refine lv_iconst (v := 2) hx hb dX4_beam_81 (by decide) ?_
            refine lv_iload_n hx hb dX4_beam_82 rfl (lv_at hl 1 rfl) ?_
            refine lv_imul hx hb dX4_beam_83 ?_
            refine lv_isub hx hb dX4_beam_84 ?_
            exact W.iret (v := (s0 + o0) - (2 * a0)) hx hb hr (fun t ht hW => ⟨⟨(s0 + o0) - (2 * a0), (), rfl, (by grind [fBeam]), ht⟩, hS.F ht⟩) hS.2.2 dX4_beam_85
          · refine lv_tableIn (tgt := 86) hx hb dX4_beam_38 (by rw [c_5]; decide) (by rw [c_5]; decide) (by rw [c_5]; rfl) (by decide) ?_
            refine lv_iload hx hb dX4_beam_86 (lv_at hl 4 rfl) ?_
            refine lv_iload_n hx hb dX4_beam_88 rfl (lv_at hl 3 rfl) ?_
            refine lv_isub hx hb dX4_beam_89 ?_
            refine lv_iconst (v := 2) hx hb dX4_beam_90 (by decide) ?_
            refine lv_iload_n hx hb dX4_beam_91 rfl (lv_at hl 2 rfl) ?_
            refine lv_imul hx hb dX4_beam_92 ?_
            refine lv_iadd hx hb dX4_beam_93 ?_
            exact W.iret (v := (s0 - o0) + (2 * c0)) hx hb hr (fun t ht hW => ⟨⟨(s0 - o0) + (2 * c0), (), rfl, (by grind [fBeam]), ht⟩, hS.F ht⟩) hS.2.2 dX4_beam_94
          · refine lv_tableIn (tgt := 95) hx hb dX4_beam_38 (by rw [c_5]; decide) (by rw [c_5]; decide) (by rw [c_5]; rfl) (by decide) ?_
            refine lv_iload hx hb dX4_beam_95 (lv_at hl 4 rfl) ?_
            refine lv_iload_n hx hb dX4_beam_97 rfl (lv_at hl 3 rfl) ?_
            refine lv_isub hx hb dX4_beam_98 ?_
            refine lv_iconst (v := 2) hx hb dX4_beam_99 (by decide) ?_
            refine lv_iload_n hx hb dX4_beam_100 rfl (lv_at hl 2 rfl) ?_
            refine lv_imul hx hb dX4_beam_101 ?_
            refine lv_isub hx hb dX4_beam_102 ?_
            exact W.iret (v := (s0 - o0) - (2 * c0)) hx hb hr (fun t ht hW => ⟨⟨(s0 - o0) - (2 * c0), (), rfl, (by grind [fBeam]), ht⟩, hS.F ht⟩) hS.2.2 dX4_beam_103
        · have c_4 := bI_0.mp c_4
          refine lv_ldc hx hb hown hw0 dX4_beam_33 ?_
          exact W.iret (v := (-2147483648)) hx hb hr (fun t ht hW => ⟨⟨(-2147483648), (), rfl, (by grind [fBeam]), ht⟩, hS.F ht⟩) hS.2.2 dX4_beam_35
set_option maxHeartbeats 4000000 in
set_option maxRecDepth 100000 in
theorem kX4_turned (l : Launch) (D : va_G) (cI cO : ClassId) (tt : Nat) (ad : Nat → Nat) (g : Nat → Nat → Int32) (b : Nat → Int32) (d : Nat → Nat → Int64) (X : va_W) (H0 : Heap) (x0 : Int32) (y0 : Int32) (t0 : Int32) (w0 : Int32)  : MpI l yX4_turned wsX4_turned ({ frames := 2, cells := 0, slots := 0, locals := 44 }) D cI cO tt (LW ad cI cO g b d X) H0 [.ref (ad 0), .int x0, .int y0, .int t0, .int w0] (fTurned x0 y0 t0 w0) := by
  refine Met.ofW (cc := cX4_turned) (maxL := 5) (ret := (some .int)) (by decide) rfl ?_
  intro p e s m args below meth c s₁ B hml hv
  obtain ⟨rfl, rfl, hP, hK, hZ, hN⟩ := hv
  have hx := B.exec
  have hb := B.bytes
  have hr := B.returns
  have hts := atoms_spec (ws := wsX4_turned) B.pre
  have hown : s.vm.findClass RX4 = some m.cls := findClass_of_methodNamed B.named
  have hlocks := B.notSynchronized
  have hS : va_S (fun _ => False) s.heap s.heap [] := va_S.rf
  have hl := lv_entry ([.ref (ad 0), .int x0, .int y0, .int t0, .int w0]) (n := 5) (Nat.le_of_ble_eq_true rfl)
  rw [lg_entry_eq]
  generalize (lg_sl ([.ref (ad 0), .int x0, .int y0, .int t0, .int w0]) ++ List.replicate (5 - (lg_sl ([.ref (ad 0), .int x0, .int y0, .int t0, .int w0])).length) Slot.unset).toArray = ls at hl ⊢
  have hl : lv_has ls 5 [(0, .ref (ad 0)), (1, .int x0), (2, .int y0), (3, .int t0), (4, .int w0)] := hl
  have hw0 := hts (.constant RX4 99 (-2147483648)) (List.mem_cons_of_mem _ ((List.mem_append_left _ (List.mem_of_getElem? (l := wsX4_turned_r1) (i := 0) rfl))))
  refine lv_iload_n hx hb dX4_turned_0 rfl (lv_at hl 1 rfl) ?_
  refine pcI (va_runS (As := [.int x0]) (rest := []) ⟨hx, hb, hml, hown, hts⟩ (kX4_isPlace l D cI cO tt (LW ad cI cO g b d X) s.heap x0 ) (va_cwS 1 hts gX4_turned_X4_isPlace rfl rfl rfl (by decide +kernel) ⟨(Nat.le_of_ble_eq_true rfl), (Nat.le_of_ble_eq_true rfl)⟩) (pwS hK hZ hN hP hS) rfl rfl hl.1 rfl (lv_room (Nat.le_of_ble_eq_true rfl)) dX4_turned_1 ⟨Nat.zero_le _, Nat.zero_le _⟩) hS (fun locs hS => ?_)
  refine lv_if_eq (tgt := 31) hx hb dX4_turned_4 (by decide) (fun c_1 => ?_) (fun c_1 => ?_)
  · have c_1 := bI_0.mp c_1
    refine lv_ldc hx hb hown hw0 dX4_turned_31 ?_
    exact W.iret (v := (-2147483648)) hx hb hr (fun t ht hW => ⟨⟨(-2147483648), (), rfl, (by grind [fTurned]), ht⟩, hS.F ht⟩) hS.2.2 dX4_turned_33
  · have c_1 := bI_n0.mp c_1
    refine lv_iload_n hx hb dX4_turned_7 rfl (lv_at hl 2 rfl) ?_
    refine pcI (va_runS (As := [.int y0]) (rest := []) ⟨hx, hb, hml, hown, hts⟩ (kX4_isPlace l D cI cO tt (LW ad cI cO g b d X) s.heap y0 ) (va_cwS 1 hts gX4_turned_X4_isPlace rfl rfl rfl (by decide +kernel) ⟨(Nat.le_of_ble_eq_true rfl), (Nat.le_of_ble_eq_true rfl)⟩) (pwS hK hZ hN hP hS) rfl rfl hl.1 rfl (lv_room (Nat.le_of_ble_eq_true rfl)) dX4_turned_8 ⟨Nat.zero_le _, Nat.zero_le _⟩) hS (fun locs hS => ?_)
    refine lv_if_eq (tgt := 31) hx hb dX4_turned_11 (by decide) (fun c_2 => ?_) (fun c_2 => ?_)
    · have c_2 := bI_0.mp c_2
      refine lv_ldc hx hb hown hw0 dX4_turned_31 ?_
      exact W.iret (v := (-2147483648)) hx hb hr (fun t ht hW => ⟨⟨(-2147483648), (), rfl, (by grind [fTurned]), ht⟩, hS.F ht⟩) hS.2.2 dX4_turned_33
    · have c_2 := bI_n0.mp c_2
      refine lv_iload_n hx hb dX4_turned_14 rfl (lv_at hl 3 rfl) ?_
      refine pcI (va_runS (As := [.int t0]) (rest := []) ⟨hx, hb, hml, hown, hts⟩ (kX4_isTurn l D cI cO tt (LW ad cI cO g b d X) s.heap t0 ) (va_cwS 1 hts gX4_turned_X4_isTurn rfl rfl rfl (by decide +kernel) ⟨(Nat.le_of_ble_eq_true rfl), (Nat.le_of_ble_eq_true rfl)⟩) (pwS hK hZ hN hP hS) rfl rfl hl.1 rfl (lv_room (Nat.le_of_ble_eq_true rfl)) dX4_turned_15 ⟨Nat.zero_le _, Nat.zero_le _⟩) hS (fun locs hS => ?_)
      refine lv_if_eq (tgt := 31) hx hb dX4_turned_18 (by decide) (fun c_3 => ?_) (fun c_3 => ?_)
      · have c_3 := bI_0.mp c_3
        refine lv_ldc hx hb hown hw0 dX4_turned_31 ?_
        exact W.iret (v := (-2147483648)) hx hb hr (fun t ht hW => ⟨⟨(-2147483648), (), rfl, (by grind [fTurned]), ht⟩, hS.F ht⟩) hS.2.2 dX4_turned_33
      · have c_3 := bI_n0.mp c_3
        refine lv_iload hx hb dX4_turned_21 (lv_at hl 4 rfl) ?_
        refine lv_iconst (v := 0) hx hb dX4_turned_23 (by decide) ?_
        refine lv_iconst (v := 1) hx hb dX4_turned_24 (by decide) ?_
        refine pcI (va_runS (As := [.int w0, .int 0, .int 1]) (rest := []) ⟨hx, hb, hml, hown, hts⟩ (kX4_isWithin l D cI cO tt (LW ad cI cO g b d X) s.heap w0 0 1 ) (va_cwS 3 hts gX4_turned_X4_isWithin rfl rfl rfl (by decide +kernel) ⟨(Nat.le_of_ble_eq_true rfl), (Nat.le_of_ble_eq_true rfl)⟩) (pwS hK hZ hN hP hS) rfl rfl hl.1 rfl (lv_room (Nat.le_of_ble_eq_true rfl)) dX4_turned_25 ⟨Nat.zero_le _, Nat.zero_le _⟩) hS (fun locs hS => ?_)
        refine lv_if_ne (tgt := 34) hx hb dX4_turned_28 (by decide) (fun c_4 => ?_) (fun c_4 => ?_)
        · have c_4 := bI_n0.mp c_4
          refine lv_iload hx hb dX4_turned_34 (lv_at hl 4 rfl) ?_
          refine lv_if_ne (tgt := 50) hx hb dX4_turned_36 (by decide) (fun c_5 => ?_) (fun c_5 => ?_)
          · refine lv_iload_n hx hb dX4_turned_50 rfl (lv_at hl 1 rfl) ?_
            refine lv_i2l hx hb dX4_turned_51 rfl ?_
            refine lv_iload_n hx hb dX4_turned_52 rfl (lv_at hl 2 rfl) ?_
            refine lv_i2l hx hb dX4_turned_53 rfl ?_
            refine lv_iload_n hx hb dX4_turned_54 rfl (lv_at hl 3 rfl) ?_
            refine pcL (va_runS (As := [.long x0.toInt64, .long y0.toInt64, .int t0]) (rest := []) ⟨hx, hb, hml, hown, hts⟩ (kX4_yTurned l D cI cO tt (LW ad cI cO g b d X) s.heap x0.toInt64 y0.toInt64 t0 ) (va_cwS 3 hts gX4_turned_X4_yTurned rfl rfl rfl (by decide +kernel) ⟨(Nat.le_of_ble_eq_true rfl), (Nat.le_of_ble_eq_true rfl)⟩) (pwS hK hZ hN hP hS) rfl rfl hl.1 rfl (lv_room (Nat.le_of_ble_eq_true rfl)) dX4_turned_55 ⟨Nat.zero_le _, Nat.zero_le _⟩) hS (fun locs hS => ?_)
            refine lv_l2i hx hb dX4_turned_58 rfl ?_
            exact W.iret (v := (yT x0.toInt64 y0.toInt64 t0).toInt32) hx hb hr (fun t ht hW => ⟨⟨(yT x0.toInt64 y0.toInt64 t0).toInt32, (), rfl, (by grind [fTurned]), ht⟩, hS.F ht⟩) hS.2.2 dX4_turned_59
          · refine lv_iload_n hx hb dX4_turned_39 rfl (lv_at hl 1 rfl) ?_
            refine lv_i2l hx hb dX4_turned_40 rfl ?_
            refine lv_iload_n hx hb dX4_turned_41 rfl (lv_at hl 2 rfl) ?_
            refine lv_i2l hx hb dX4_turned_42 rfl ?_
            refine lv_iload_n hx hb dX4_turned_43 rfl (lv_at hl 3 rfl) ?_
            refine pcL (va_runS (As := [.long x0.toInt64, .long y0.toInt64, .int t0]) (rest := []) ⟨hx, hb, hml, hown, hts⟩ (kX4_xTurned l D cI cO tt (LW ad cI cO g b d X) s.heap x0.toInt64 y0.toInt64 t0 ) (va_cwS 3 hts gX4_turned_X4_xTurned rfl rfl rfl (by decide +kernel) ⟨(Nat.le_of_ble_eq_true rfl), (Nat.le_of_ble_eq_true rfl)⟩) (pwS hK hZ hN hP hS) rfl rfl hl.1 rfl (lv_room (Nat.le_of_ble_eq_true rfl)) dX4_turned_44 ⟨Nat.zero_le _, Nat.zero_le _⟩) hS (fun locs hS => ?_)
            refine lv_goto (tgt := 58) hx hb dX4_turned_47 (by decide) ?_
            refine lv_l2i hx hb dX4_turned_58 rfl ?_
            exact W.iret (v := (xT x0.toInt64 y0.toInt64 t0).toInt32) hx hb hr (fun t ht hW => ⟨⟨(xT x0.toInt64 y0.toInt64 t0).toInt32, (), rfl, (by grind [fTurned]), ht⟩, hS.F ht⟩) hS.2.2 dX4_turned_59
        · have c_4 := bI_0.mp c_4
          refine lv_ldc hx hb hown hw0 dX4_turned_31 ?_
          exact W.iret (v := (-2147483648)) hx hb hr (fun t ht hW => ⟨⟨(-2147483648), (), rfl, (by grind [fTurned]), ht⟩, hS.F ht⟩) hS.2.2 dX4_turned_33
set_option maxHeartbeats 4000000 in
set_option maxRecDepth 100000 in
theorem kX4_fate (l : Launch) (D : va_G) (cI cO : ClassId) (tt : Nat) (ad : Nat → Nat) (g : Nat → Nat → Int32) (b : Nat → Int32) (d : Nat → Nat → Int64) (X : va_W) (sz : Nat) (p0 : Int32) (c0 : Int32) (hI : WI g) : MmI l yX4_fate wsX4_fate ({ frames := 4, cells := 0, slots := 0, locals := 98 }) D cI cO tt (LW ad cI cO g b d X) sz [.ref (ad 0), .int p0, .int c0] (S := (Nat → Nat → Int32) × (Nat → Int32) × (Nat → Nat → Int64)) (fun u => LW ad cI cO u.1 u.2.1 u.2.2 X) (fun z u => z = fFate g p0 c0 ∧ u.1 = g) := by
  refine Met.ofW (cc := cX4_fate) (maxL := 3) (ret := (some .int)) (by decide) rfl ?_
  intro p e s m args below meth c s₁ B hml hv
  obtain ⟨rfl, hsz, hP, hK, hD0, hZ, hN⟩ := hv
  have hx := B.exec
  have hb := B.bytes
  have hr := B.returns
  have hts := atoms_spec (ws := wsX4_fate) B.pre
  have hown : s.vm.findClass RX4 = some m.cls := findClass_of_methodNamed B.named
  have hlocks := B.notSynchronized
  subst hsz
  have hD := hD0.self (sz := s.heap.size)
  generalize hAe : va_A (LW ad cI cO g b d X) s.heap.size = A at hD hZ ⊢
  have hA : ∀ q : Nat, s.heap.size ≤ q → A q := fun q h => by rw [← hAe]; exact Or.inr h
  have hS : va_S A s.heap s.heap [] := va_S.rf
  have hl := lv_entry ([.ref (ad 0), .int p0, .int c0]) (n := 3) (Nat.le_of_ble_eq_true rfl)
  rw [lg_entry_eq]
  generalize (lg_sl ([.ref (ad 0), .int p0, .int c0]) ++ List.replicate (3 - (lg_sl ([.ref (ad 0), .int p0, .int c0])).length) Slot.unset).toArray = ls at hl ⊢
  have hl : lv_has ls 3 [(0, .ref (ad 0)), (1, .int p0), (2, .int c0)] := hl
  have hw0 := hts (.fieldLink RX4 18 "LayerSounder" "track" "LLayerSounder$Track;") (List.mem_cons_of_mem _ (List.mem_append_left _ (List.mem_append_left _ (List.mem_append_left _ (List.mem_append_left _ (List.mem_append_left _ (List.mem_append_left _ (List.mem_of_getElem? (l := wsX4_fate_r1) (i := 0) rfl))))))))
  have iX4 : ∀ w ∈ wsX40, w ∈ wsX4_fate := fun _ h => List.mem_cons_of_mem _ (List.mem_append_left _ (List.mem_append_left _ (List.mem_append_left _ (List.mem_append_left _ (List.mem_append_right _ h)))))
  refine lv_aload_n hx hb dX4_fate_0 rfl (lv_at hl 0 rfl) ?_
  refine va_get (D := D) (ci := 4) (v := .ref (ad 2)) (C := RX4) (T := TX4) (N := 14) hx hb hts iX4 hown hK hP 0 rfl rfl 1 (by decide) hw0 (fun _ h9 => h9) rfl dX4_fate_1 ?_
  refine lv_iload_n hx hb dX4_fate_4 rfl (lv_at hl 1 rfl) ?_
  refine pcI (va_runV (As := [.int p0]) (rest := []) ⟨hx, hb, hml, hown, hts⟩ (kX3_isPing l D cI cO tt ad g b d X s.heap p0 ) (cwV 1 hts gX4_fate_X3_isPing rfl rfl rfl (by decide +kernel) ⟨(Nat.le_of_ble_eq_true rfl), (Nat.le_of_ble_eq_true rfl)⟩) (pwV hK hZ hN hP hS (va_recv hK hP (ci := 3) (q0 := 2) rfl rfl)) rfl rfl hl.1 rfl (lv_room (Nat.le_of_ble_eq_true rfl)) dX4_fate_5 ⟨Nat.zero_le _, Nat.zero_le _⟩) hS (fun locs hS => ?_)
  refine lv_if_eq (tgt := 19) hx hb dX4_fate_8 (by decide) (fun c_1 => ?_) (fun c_1 => ?_)
  · have c_1 := bI_0.mp c_1
    refine lv_bipush (v := (-2)) hx hb dX4_fate_19 (by decide) ?_
    exact W.iret (v := (-2)) hx hb hr (fun t ht hW => ⟨⟨(-2), (g, b, d), rfl, (by refine ⟨?_, rfl⟩; grind [fFate]), by rw [ht]; exact hP, hD⟩, hS.F ht⟩) hS.2.2 dX4_fate_21
  · have c_1 := bI_n0.mp c_1
    refine lv_aload_n hx hb dX4_fate_11 rfl (lv_at hl 0 rfl) ?_
    refine lv_iload_n hx hb dX4_fate_12 rfl (lv_at hl 2 rfl) ?_
    refine pcI (va_runV (As := [.int c0]) (rest := []) ⟨hx, hb, hml, hown, hts⟩ (kX4_isCell l D cI cO tt ad g b d X s.heap c0 ) (cwV 1 hts gX4_fate_X4_isCell rfl rfl rfl (by decide +kernel) ⟨(Nat.le_of_ble_eq_true rfl), (Nat.le_of_ble_eq_true rfl)⟩) (pwV hK hZ hN hP hS (va_recv hK hP (ci := 4) (q0 := 0) rfl rfl)) rfl rfl hl.1 rfl (lv_room (Nat.le_of_ble_eq_true rfl)) dX4_fate_13 ⟨Nat.zero_le _, Nat.zero_le _⟩) hS (fun locs hS => ?_)
    refine lv_if_ne (tgt := 22) hx hb dX4_fate_16 (by decide) (fun c_2 => ?_) (fun c_2 => ?_)
    · have c_2 := bI_n0.mp c_2
      refine lv_aload_n hx hb dX4_fate_22 rfl (lv_at hl 0 rfl) ?_
      refine lv_iload_n hx hb dX4_fate_23 rfl (lv_at hl 1 rfl) ?_
      refine lv_iload_n hx hb dX4_fate_24 rfl (lv_at hl 2 rfl) ?_
      refine lv_aload_n hx hb dX4_fate_25 rfl (lv_at hl 0 rfl) ?_
      refine lv_iload_n hx hb dX4_fate_26 rfl (lv_at hl 1 rfl) ?_
      refine mcI (wf := fun u : (Nat → Int32) × (Nat → Nat → Int64) => LW ad cI cO g u.1 u.2 X) (va_runV (As := [.int p0]) (rest := [.int c0, .int p0, .ref (ad 0)]) ⟨hx, hb, hml, hown, hts⟩ (kX4_findOwn l D cI cO tt ad g b d X s.heap.size p0 hI) (cwV 1 hts gX4_fate_X4_findOwn rfl rfl rfl (by decide +kernel) ⟨(Nat.le_of_ble_eq_true rfl), (Nat.le_of_ble_eq_true rfl)⟩) (mwV hK hZ hN hP hD hS hA (va_recv hK hP (ci := 4) (q0 := 0) rfl rfl)) rfl rfl hl.1 rfl (lv_room (Nat.le_of_ble_eq_true rfl)) dX4_fate_27 ⟨Nat.zero_le _, Nat.zero_le _⟩) hD hS hA (fun ru_3 uu_3 H locs hu_3 hP hD hS => ?_)
      obtain ⟨bu_3, du_3⟩ := uu_3
      have hP : va_P D vwCl (LW ad cI cO g bu_3 du_3 X) H := hP
      have hD : va_D A (LW ad cI cO g bu_3 du_3 X) := hD
      have hu_3 : foP g p0 d ru_3 du_3 := hu_3
      obtain ⟨eru_3, hfu_3⟩ : ru_3 = bI (oOk g p0) ∧ foP g p0 d (bI (oOk g p0)) du_3 := ⟨hu_3.1, hu_3.1 ▸ hu_3⟩
      subst eru_3
      refine mcI (wf := fun u : Nat → Int32 => LW ad cI cO g u du_3 X) (va_runV (As := [.int p0, .int c0, .int (bI (oOk g p0))]) (rest := []) ⟨hx, hb, hml, hown, hts⟩ (kX4_judge l D cI cO tt ad g bu_3 du_3 X H.size p0 c0 (bI (oOk g p0)) hI) (cwV 3 hts gX4_fate_X4_judge rfl rfl rfl (by decide +kernel) ⟨(Nat.le_of_ble_eq_true rfl), (Nat.le_of_ble_eq_true rfl)⟩) (mwV hK hZ hN hP hD hS hA (va_recv hK hP (ci := 4) (q0 := 0) rfl rfl)) rfl rfl hl.1 rfl (lv_room (Nat.le_of_ble_eq_true rfl)) dX4_fate_30 ⟨Nat.zero_le _, Nat.zero_le _⟩) hD hS hA (fun ru_4 uu_4 H locs hu_4 hP hD hS => ?_)
      have hP : va_P D vwCl (LW ad cI cO g uu_4 du_3 X) H := hP
      have hD : va_D A (LW ad cI cO g uu_4 du_3 X) := hD
      exact W.iret (v := ru_4) hx hb hr (fun t ht hW => ⟨⟨ru_4, (g, uu_4, du_3), rfl, (by refine ⟨?_, rfl⟩; rw [hu_4.1]; grind [fFate]), by rw [ht]; exact hP, hD⟩, hS.F ht⟩) hS.2.2 dX4_fate_33
    · have c_2 := bI_0.mp c_2
      refine lv_bipush (v := (-2)) hx hb dX4_fate_19 (by decide) ?_
      exact W.iret (v := (-2)) hx hb hr (fun t ht hW => ⟨⟨(-2), (g, b, d), rfl, (by refine ⟨?_, rfl⟩; grind [fFate]), by rw [ht]; exact hP, hD⟩, hS.F ht⟩) hS.2.2 dX4_fate_21
set_option maxHeartbeats 4000000 in
set_option maxRecDepth 100000 in
theorem kX4_pace (l : Launch) (D : va_G) (cI cO : ClassId) (tt : Nat) (ad : Nat → Nat) (g : Nat → Nat → Int32) (b : Nat → Int32) (d : Nat → Nat → Int64) (X : va_W) (sz : Nat) (p0 : Int32) (c0 : Int32) (w0 : Int32) (hI : WI g) : MmL l yX4_pace wsX4_pace ({ frames := 4, cells := 0, slots := 0, locals := 96 }) D cI cO tt (LW ad cI cO g b d X) sz [.ref (ad 0), .int p0, .int c0, .int w0] (S := (Nat → Nat → Int32) × (Nat → Int32) × (Nat → Nat → Int64)) (fun u => LW ad cI cO u.1 u.2.1 u.2.2 X) (fun z u => z = fPace g p0 c0 w0 ∧ u.1 = g) := by
  refine Met.ofW (cc := cX4_pace) (maxL := 4) (ret := (some .long)) (by decide) rfl ?_
  intro p e s m args below meth c s₁ B hml hv
  obtain ⟨rfl, hsz, hP, hK, hD0, hZ, hN⟩ := hv
  have hx := B.exec
  have hb := B.bytes
  have hr := B.returns
  have hts := atoms_spec (ws := wsX4_pace) B.pre
  have hown : s.vm.findClass RX4 = some m.cls := findClass_of_methodNamed B.named
  have hlocks := B.notSynchronized
  subst hsz
  have hD := hD0.self (sz := s.heap.size)
  generalize hAe : va_A (LW ad cI cO g b d X) s.heap.size = A at hD hZ ⊢
  have hA : ∀ q : Nat, s.heap.size ≤ q → A q := fun q h => by rw [← hAe]; exact Or.inr h
  have hS : va_S A s.heap s.heap [] := va_S.rf
  have hl := lv_entry ([.ref (ad 0), .int p0, .int c0, .int w0]) (n := 4) (Nat.le_of_ble_eq_true rfl)
  rw [lg_entry_eq]
  generalize (lg_sl ([.ref (ad 0), .int p0, .int c0, .int w0]) ++ List.replicate (4 - (lg_sl ([.ref (ad 0), .int p0, .int c0, .int w0])).length) Slot.unset).toArray = ls at hl ⊢
  have hl : lv_has ls 4 [(0, .ref (ad 0)), (1, .int p0), (2, .int c0), (3, .int w0)] := hl
  have hw0 := hts (.fieldLink RX4 18 "LayerSounder" "track" "LLayerSounder$Track;") (List.mem_cons_of_mem _ (List.mem_append_left _ (List.mem_append_left _ (List.mem_append_left _ (List.mem_append_left _ (List.mem_append_left _ (List.mem_append_left _ (List.mem_of_getElem? (l := wsX4_pace_r1) (i := 0) rfl))))))))
  have iX4 : ∀ w ∈ wsX40, w ∈ wsX4_pace := fun _ h => List.mem_cons_of_mem _ (List.mem_append_left _ (List.mem_append_left _ (List.mem_append_left _ (List.mem_append_left _ (List.mem_append_right _ h)))))
  have hw2 := hts (.fieldLink RX4 25 "LayerSounder" "beams" "LLayerSounder$Beams;") (List.mem_cons_of_mem _ (List.mem_append_left _ (List.mem_append_left _ (List.mem_append_left _ (List.mem_append_left _ (List.mem_append_left _ (List.mem_append_left _ (List.mem_of_getElem? (l := wsX4_pace_r1) (i := 1) rfl))))))))
  have iX0 : ∀ w ∈ wsX00, w ∈ wsX4_pace := fun _ h => List.mem_cons_of_mem _ (List.mem_append_left _ (List.mem_append_left _ (List.mem_append_left _ (List.mem_append_right _ h))))
  have hw4 := hts (.fieldLink RX4 36 "LayerSounder" "paceDrift" "LLayerSounder$Drift;") (List.mem_cons_of_mem _ (List.mem_append_left _ (List.mem_append_left _ (List.mem_append_left _ (List.mem_append_left _ (List.mem_append_left _ (List.mem_append_left _ (List.mem_of_getElem? (l := wsX4_pace_r1) (i := 2) rfl))))))))
  have hw5 := hts (.fieldLink RX4 52 "LayerSounder" "skewTurn" "I") (List.mem_cons_of_mem _ (List.mem_append_left _ (List.mem_append_left _ (List.mem_append_left _ (List.mem_append_left _ (List.mem_append_left _ (List.mem_append_left _ (List.mem_of_getElem? (l := wsX4_pace_r1) (i := 3) rfl))))))))
  refine lv_aload_n hx hb dX4_pace_0 rfl (lv_at hl 0 rfl) ?_
  refine va_get (D := D) (ci := 4) (v := .ref (ad 2)) (C := RX4) (T := TX4) (N := 14) hx hb hts iX4 hown hK hP 0 rfl rfl 1 (by decide) hw0 (fun _ h9 => h9) rfl dX4_pace_1 ?_
  refine lv_iload_n hx hb dX4_pace_4 rfl (lv_at hl 1 rfl) ?_
  refine pcI (va_runV (As := [.int p0]) (rest := []) ⟨hx, hb, hml, hown, hts⟩ (kX3_isPing l D cI cO tt ad g b d X s.heap p0 ) (cwV 1 hts gX4_pace_X3_isPing rfl rfl rfl (by decide +kernel) ⟨(Nat.le_of_ble_eq_true rfl), (Nat.le_of_ble_eq_true rfl)⟩) (pwV hK hZ hN hP hS (va_recv hK hP (ci := 3) (q0 := 2) rfl rfl)) rfl rfl hl.1 rfl (lv_room (Nat.le_of_ble_eq_true rfl)) dX4_pace_5 ⟨Nat.zero_le _, Nat.zero_le _⟩) hS (fun locs hS => ?_)
  refine lv_if_eq (tgt := 28) hx hb dX4_pace_8 (by decide) (fun c_1 => ?_) (fun c_1 => ?_)
  · have c_1 := bI_0.mp c_1
    refine lv_bipush (v := (-2)) hx hb dX4_pace_28 (by decide) ?_
    refine pcL (va_runS (As := [.int (-2)]) (rest := []) ⟨hx, hb, hml, hown, hts⟩ (kX4_asLong l D cI cO tt (LW ad cI cO g b d X) s.heap (-2) ) (va_cwS 1 hts gX4_pace_X4_asLong rfl rfl rfl (by decide +kernel) ⟨(Nat.le_of_ble_eq_true rfl), (Nat.le_of_ble_eq_true rfl)⟩) (pwS hK hZ hN hP hS) rfl rfl hl.1 rfl (lv_room (Nat.le_of_ble_eq_true rfl)) dX4_pace_30 ⟨Nat.zero_le _, Nat.zero_le _⟩) hS (fun locs hS => ?_)
    exact W.lret (v := (-9223372036854775808) - ((-2) : Int32).toInt64) hx hb hr (fun t ht hW => ⟨⟨(-9223372036854775808) - ((-2) : Int32).toInt64, (g, b, d), rfl, (by refine ⟨?_, rfl⟩; grind [fPace]), by rw [ht]; exact hP, hD⟩, hS.F ht⟩) hS.2.2 dX4_pace_33
  · have c_1 := bI_n0.mp c_1
    refine lv_aload_n hx hb dX4_pace_11 rfl (lv_at hl 0 rfl) ?_
    refine lv_iload_n hx hb dX4_pace_12 rfl (lv_at hl 2 rfl) ?_
    refine pcI (va_runV (As := [.int c0]) (rest := []) ⟨hx, hb, hml, hown, hts⟩ (kX4_isCell l D cI cO tt ad g b d X s.heap c0 ) (cwV 1 hts gX4_pace_X4_isCell rfl rfl rfl (by decide +kernel) ⟨(Nat.le_of_ble_eq_true rfl), (Nat.le_of_ble_eq_true rfl)⟩) (pwV hK hZ hN hP hS (va_recv hK hP (ci := 4) (q0 := 0) rfl rfl)) rfl rfl hl.1 rfl (lv_room (Nat.le_of_ble_eq_true rfl)) dX4_pace_13 ⟨Nat.zero_le _, Nat.zero_le _⟩) hS (fun locs hS => ?_)
    refine lv_if_eq (tgt := 28) hx hb dX4_pace_16 (by decide) (fun c_2 => ?_) (fun c_2 => ?_)
    · have c_2 := bI_0.mp c_2
      refine lv_bipush (v := (-2)) hx hb dX4_pace_28 (by decide) ?_
      refine pcL (va_runS (As := [.int (-2)]) (rest := []) ⟨hx, hb, hml, hown, hts⟩ (kX4_asLong l D cI cO tt (LW ad cI cO g b d X) s.heap (-2) ) (va_cwS 1 hts gX4_pace_X4_asLong rfl rfl rfl (by decide +kernel) ⟨(Nat.le_of_ble_eq_true rfl), (Nat.le_of_ble_eq_true rfl)⟩) (pwS hK hZ hN hP hS) rfl rfl hl.1 rfl (lv_room (Nat.le_of_ble_eq_true rfl)) dX4_pace_30 ⟨Nat.zero_le _, Nat.zero_le _⟩) hS (fun locs hS => ?_)
      exact W.lret (v := (-9223372036854775808) - ((-2) : Int32).toInt64) hx hb hr (fun t ht hW => ⟨⟨(-9223372036854775808) - ((-2) : Int32).toInt64, (g, b, d), rfl, (by refine ⟨?_, rfl⟩; grind [fPace]), by rw [ht]; exact hP, hD⟩, hS.F ht⟩) hS.2.2 dX4_pace_33
    · have c_2 := bI_n0.mp c_2
      refine lv_iload_n hx hb dX4_pace_19 rfl (lv_at hl 3 rfl) ?_
      refine lv_iconst (v := 0) hx hb dX4_pace_20 (by decide) ?_
      refine lv_iconst (v := 1) hx hb dX4_pace_21 (by decide) ?_
      refine pcI (va_runS (As := [.int w0, .int 0, .int 1]) (rest := []) ⟨hx, hb, hml, hown, hts⟩ (kX4_isWithin l D cI cO tt (LW ad cI cO g b d X) s.heap w0 0 1 ) (va_cwS 3 hts gX4_pace_X4_isWithin rfl rfl rfl (by decide +kernel) ⟨(Nat.le_of_ble_eq_true rfl), (Nat.le_of_ble_eq_true rfl)⟩) (pwS hK hZ hN hP hS) rfl rfl hl.1 rfl (lv_room (Nat.le_of_ble_eq_true rfl)) dX4_pace_22 ⟨Nat.zero_le _, Nat.zero_le _⟩) hS (fun locs hS => ?_)
      refine lv_if_ne (tgt := 34) hx hb dX4_pace_25 (by decide) (fun c_3 => ?_) (fun c_3 => ?_)
      · have c_3 := bI_n0.mp c_3
        refine lv_aload_n hx hb dX4_pace_34 rfl (lv_at hl 0 rfl) ?_
        refine lv_iload_n hx hb dX4_pace_35 rfl (lv_at hl 1 rfl) ?_
        refine mcI (wf := fun u : (Nat → Int32) × (Nat → Nat → Int64) => LW ad cI cO g u.1 u.2 X) (va_runV (As := [.int p0]) (rest := []) ⟨hx, hb, hml, hown, hts⟩ (kX4_findOwn l D cI cO tt ad g b d X s.heap.size p0 hI) (cwV 1 hts gX4_pace_X4_findOwn rfl rfl rfl (by decide +kernel) ⟨(Nat.le_of_ble_eq_true rfl), (Nat.le_of_ble_eq_true rfl)⟩) (mwV hK hZ hN hP hD hS hA (va_recv hK hP (ci := 4) (q0 := 0) rfl rfl)) rfl rfl hl.1 rfl (lv_room (Nat.le_of_ble_eq_true rfl)) dX4_pace_36 ⟨Nat.zero_le _, Nat.zero_le _⟩) hD hS hA (fun ru_4 uu_4 H locs hu_4 hP hD hS => ?_)
        obtain ⟨bu_4, du_4⟩ := uu_4
        have hP : va_P D vwCl (LW ad cI cO g bu_4 du_4 X) H := hP
        have hD : va_D A (LW ad cI cO g bu_4 du_4 X) := hD
        have hu_4 : foP g p0 d ru_4 du_4 := hu_4
        obtain ⟨eru_4, hfu_4⟩ : ru_4 = bI (oOk g p0) ∧ foP g p0 d (bI (oOk g p0)) du_4 := ⟨hu_4.1, hu_4.1 ▸ hu_4⟩
        subst eru_4
        refine lv_if_ne (tgt := 48) hx hb dX4_pace_39 (by decide) (fun c_5 => ?_) (fun c_5 => ?_)
        · have c_5 := bI_n0.mp c_5
          refine lv_aload_n hx hb dX4_pace_48 rfl (lv_at hl 0 rfl) ?_
          refine lv_iconst (v := 0) hx hb dX4_pace_49 (by decide) ?_
          refine lv_aload_n hx hb dX4_pace_50 rfl (lv_at hl 0 rfl) ?_
          refine lv_iload_n hx hb dX4_pace_51 rfl (lv_at hl 1 rfl) ?_
          refine lv_iload_n hx hb dX4_pace_52 rfl (lv_at hl 2 rfl) ?_
          refine pcI (va_runV (As := [.int p0, .int c0]) (rest := [.int 0, .ref (ad 0)]) ⟨hx, hb, hml, hown, hts⟩ (kX4_itemOfCell l D cI cO tt ad g bu_4 du_4 X H p0 c0 ) (cwV 2 hts gX4_pace_X4_itemOfCell rfl rfl rfl (by decide +kernel) ⟨(Nat.le_of_ble_eq_true rfl), (Nat.le_of_ble_eq_true rfl)⟩) (pwV hK hZ hN hP hS (va_recv hK hP (ci := 4) (q0 := 0) rfl rfl)) rfl rfl hl.1 rfl (lv_room (Nat.le_of_ble_eq_true rfl)) dX4_pace_53 ⟨Nat.zero_le _, Nat.zero_le _⟩) hS (fun locs hS => ?_)
          refine mcV (wf := fun u : Nat → Int32 => LW ad cI cO g u du_4 X) (va_runV (As := [.int 0, .int (itC g p0 c0)]) (rest := []) ⟨hx, hb, hml, hown, hts⟩ (kX4_readBeams0 l D cI cO tt ad g bu_4 du_4 X H.size (itC g p0 c0) hI) (cwV 2 hts gX4_pace_X4_readBeams rfl rfl rfl (by decide +kernel) ⟨(Nat.le_of_ble_eq_true rfl), (Nat.le_of_ble_eq_true rfl)⟩) (mwV hK hZ hN hP hD hS hA (va_recv hK hP (ci := 4) (q0 := 0) rfl rfl)) rfl rfl hl.1 rfl (lv_room (Nat.le_of_ble_eq_true rfl)) dX4_pace_56 ⟨Nat.zero_le _, Nat.zero_le _⟩) hD hS hA (fun uu_6 H locs hu_6 hP hD hS => ?_)
          have hP : va_P D vwCl (LW ad cI cO g uu_6 du_4 X) H := hP
          have hD : va_D A (LW ad cI cO g uu_6 du_4 X) := hD
          refine lv_aload_n hx hb dX4_pace_59 rfl (lv_at hl 0 rfl) ?_
          refine va_get (D := D) (ci := 4) (v := .ref (ad 3)) (C := RX4) (T := TX4) (N := 14) hx hb hts iX4 hown hK hP 0 rfl rfl 2 (by decide) hw2 (fun _ h9 => h9) rfl dX4_pace_60 ?_
          refine va_getN (D := D) (ci := 0) (v := .int (uu_6 0)) (C := RX0) (T := TX0) (N := 5) hx hb hts iX0 hown hK hP 3 rfl rfl 0 (by decide) (va_Nw.use rfl (hN.1 (175, RX0, "answered", "Z") (List.mem_of_getElem? (i := 3) rfl))) (fun _ h9 => h9) rfl dX4_pace_63 ?_
          refine lv_if_ne (tgt := 75) hx hb dX4_pace_66 (by decide) (fun c_7 => ?_) (fun c_7 => ?_)
          · refine lv_aload_n hx hb dX4_pace_75 rfl (lv_at hl 0 rfl) ?_
            refine lv_iload_n hx hb dX4_pace_76 rfl (lv_at hl 1 rfl) ?_
            refine mcV (wf := fun u : Nat → Nat → Int64 => LW ad cI cO g uu_6 u X) (va_runV (As := [.int p0]) (rest := []) ⟨hx, hb, hml, hown, hts⟩ (kX4_findPace l D cI cO tt ad g uu_6 du_4 X H.size p0 hI) (cwV 1 hts gX4_pace_X4_findPace rfl rfl rfl (by decide +kernel) ⟨(Nat.le_of_ble_eq_true rfl), (Nat.le_of_ble_eq_true rfl)⟩) (mwV hK hZ hN hP hD hS hA (va_recv hK hP (ci := 4) (q0 := 0) rfl rfl)) rfl rfl hl.1 rfl (lv_room (Nat.le_of_ble_eq_true rfl)) dX4_pace_77 ⟨Nat.zero_le _, Nat.zero_le _⟩) hD hS hA (fun uu_8 H locs hu_8 hP hD hS => ?_)
            have hP : va_P D vwCl (LW ad cI cO g uu_6 uu_8 X) H := hP
            have hD : va_D A (LW ad cI cO g uu_6 uu_8 X) := hD
            refine lv_aload_n hx hb dX4_pace_80 rfl (lv_at hl 0 rfl) ?_
            refine va_get (D := D) (ci := 4) (v := .ref (ad 5)) (C := RX4) (T := TX4) (N := 14) hx hb hts iX4 hown hK hP 0 rfl rfl 4 (by decide) hw4 (fun _ h9 => h9) rfl dX4_pace_81 ?_
            refine lv_aload_n hx hb dX4_pace_84 rfl (lv_at hl 0 rfl) ?_
            refine va_get (D := D) (ci := 4) (v := .int (g 100 2)) (C := RX4) (T := TX4) (N := 14) hx hb hts iX4 hown hK hP 0 rfl rfl 9 (by decide) hw5 (fun _ h9 => h9) rfl dX4_pace_85 ?_
            refine lv_iload_n hx hb dX4_pace_88 rfl (lv_at hl 3 rfl) ?_
            refine pcL (va_runV (As := [.int (g 100 2), .int w0]) (rest := []) ⟨hx, hb, hml, hown, hts⟩ (kX1_part l D cI cO tt ad g uu_6 uu_8 X H 1 (g 100 2) w0 (by decide)) (cwV 2 hts gX4_pace_X1_part rfl rfl rfl (by decide +kernel) ⟨(Nat.le_of_ble_eq_true rfl), (Nat.le_of_ble_eq_true rfl)⟩) (pwV hK hZ hN hP hS (va_recv hK hP (ci := 1) (q0 := 5) rfl rfl)) rfl rfl hl.1 rfl (lv_room (Nat.le_of_ble_eq_true rfl)) dX4_pace_89 ⟨Nat.zero_le _, Nat.zero_le _⟩) hS (fun locs hS => ?_)
            exact W.lret (v := if w0 = 0 then xT (uu_8 1 0) (uu_8 1 1) (g 100 2) + uu_8 1 2 else yT (uu_8 1 0) (uu_8 1 1) (g 100 2) + uu_8 1 3) hx hb hr (fun t ht hW => ⟨⟨if w0 = 0 then xT (uu_8 1 0) (uu_8 1 1) (g 100 2) + uu_8 1 2 else yT (uu_8 1 0) (uu_8 1 1) (g 100 2) + uu_8 1 3, (g, uu_6, uu_8), rfl, (by refine ⟨?_, rfl⟩; have z := jd_a hu_6 c_7; obtain ⟨⟨z0, z1, z2, z3⟩, -⟩ := pD_ok hfu_4 c_5 ⟨(hu_6.2.2 z).1, (hu_6.2.2 z).2.1⟩ hu_8; rw [z0, z1, z2, z3]; grind [fPace, eV, nV]), by rw [ht]; exact hP, hD⟩, hS.F ht⟩) hS.2.2 dX4_pace_92
          · refine lv_bipush (v := (-3)) hx hb dX4_pace_69 (by decide) ?_
            refine pcL (va_runS (As := [.int (-3)]) (rest := []) ⟨hx, hb, hml, hown, hts⟩ (kX4_asLong l D cI cO tt (LW ad cI cO g uu_6 du_4 X) H (-3) ) (va_cwS 1 hts gX4_pace_X4_asLong rfl rfl rfl (by decide +kernel) ⟨(Nat.le_of_ble_eq_true rfl), (Nat.le_of_ble_eq_true rfl)⟩) (pwS hK hZ hN hP hS) rfl rfl hl.1 rfl (lv_room (Nat.le_of_ble_eq_true rfl)) dX4_pace_71 ⟨Nat.zero_le _, Nat.zero_le _⟩) hS (fun locs hS => ?_)
            exact W.lret (v := (-9223372036854775808) - ((-3) : Int32).toInt64) hx hb hr (fun t ht hW => ⟨⟨(-9223372036854775808) - ((-3) : Int32).toInt64, (g, uu_6, du_4), rfl, (by refine ⟨?_, rfl⟩; have z : ¬ rLo g 0 (itC g p0 c0) ≤ 1 := bI_0.mp (hu_6.1.symm.trans c_7); grind [fPace]), by rw [ht]; exact hP, hD⟩, hS.F ht⟩) hS.2.2 dX4_pace_74
        · have c_5 := bI_0.mp c_5
          refine lv_bipush (v := (-3)) hx hb dX4_pace_42 (by decide) ?_
          refine pcL (va_runS (As := [.int (-3)]) (rest := []) ⟨hx, hb, hml, hown, hts⟩ (kX4_asLong l D cI cO tt (LW ad cI cO g bu_4 du_4 X) H (-3) ) (va_cwS 1 hts gX4_pace_X4_asLong rfl rfl rfl (by decide +kernel) ⟨(Nat.le_of_ble_eq_true rfl), (Nat.le_of_ble_eq_true rfl)⟩) (pwS hK hZ hN hP hS) rfl rfl hl.1 rfl (lv_room (Nat.le_of_ble_eq_true rfl)) dX4_pace_44 ⟨Nat.zero_le _, Nat.zero_le _⟩) hS (fun locs hS => ?_)
          exact W.lret (v := (-9223372036854775808) - ((-3) : Int32).toInt64) hx hb hr (fun t ht hW => ⟨⟨(-9223372036854775808) - ((-3) : Int32).toInt64, (g, bu_4, du_4), rfl, (by refine ⟨?_, rfl⟩; grind [fPace]), by rw [ht]; exact hP, hD⟩, hS.F ht⟩) hS.2.2 dX4_pace_47
      · have c_3 := bI_0.mp c_3
        refine lv_bipush (v := (-2)) hx hb dX4_pace_28 (by decide) ?_
        refine pcL (va_runS (As := [.int (-2)]) (rest := []) ⟨hx, hb, hml, hown, hts⟩ (kX4_asLong l D cI cO tt (LW ad cI cO g b d X) s.heap (-2) ) (va_cwS 1 hts gX4_pace_X4_asLong rfl rfl rfl (by decide +kernel) ⟨(Nat.le_of_ble_eq_true rfl), (Nat.le_of_ble_eq_true rfl)⟩) (pwS hK hZ hN hP hS) rfl rfl hl.1 rfl (lv_room (Nat.le_of_ble_eq_true rfl)) dX4_pace_30 ⟨Nat.zero_le _, Nat.zero_le _⟩) hS (fun locs hS => ?_)
        exact W.lret (v := (-9223372036854775808) - ((-2) : Int32).toInt64) hx hb hr (fun t ht hW => ⟨⟨(-9223372036854775808) - ((-2) : Int32).toInt64, (g, b, d), rfl, (by refine ⟨?_, rfl⟩; grind [fPace]), by rw [ht]; exact hP, hD⟩, hS.F ht⟩) hS.2.2 dX4_pace_33
set_option maxHeartbeats 4000000 in
set_option maxRecDepth 100000 in
theorem kX4_count (l : Launch) (D : va_G) (cI cO : ClassId) (tt : Nat) (ad : Nat → Nat) (g : Nat → Nat → Int32) (b : Nat → Int32) (d : Nat → Nat → Int64) (X : va_W) (H0 : Heap) (w0 : Int32)  : MpI l yX4_count wsX4_count ({ frames := 1, cells := 0, slots := 0, locals := 20 }) D cI cO tt (LW ad cI cO g b d X) H0 [.ref (ad 0), .int w0] (fCount g w0) := by
  refine Met.ofW (cc := cX4_count) (maxL := 2) (ret := (some .int)) (by decide) rfl ?_
  intro p e s m args below meth c s₁ B hml hv
  obtain ⟨rfl, rfl, hP, hK, hZ, hN⟩ := hv
  have hx := B.exec
  have hb := B.bytes
  have hr := B.returns
  have hts := atoms_spec (ws := wsX4_count) B.pre
  have hown : s.vm.findClass RX4 = some m.cls := findClass_of_methodNamed B.named
  have hlocks := B.notSynchronized
  have hS : va_S (fun _ => False) s.heap s.heap [] := va_S.rf
  have hl := lv_entry ([.ref (ad 0), .int w0]) (n := 2) (Nat.le_of_ble_eq_true rfl)
  rw [lg_entry_eq]
  generalize (lg_sl ([.ref (ad 0), .int w0]) ++ List.replicate (2 - (lg_sl ([.ref (ad 0), .int w0])).length) Slot.unset).toArray = ls at hl ⊢
  have hl : lv_has ls 2 [(0, .ref (ad 0)), (1, .int w0)] := hl
  have hw0 := hts (.fieldLink RX4 18 "LayerSounder" "track" "LLayerSounder$Track;") (List.mem_cons_of_mem _ (List.mem_append_left _ (List.mem_append_left _ (List.mem_of_getElem? (i := 0) rfl))))
  have iX4 : ∀ w ∈ wsX40, w ∈ wsX4_count := fun _ h => List.mem_cons_of_mem _ (List.mem_append_left _ (List.mem_append_right _ h))
  have iX3 : ∀ w ∈ wsX30, w ∈ wsX4_count := fun _ h => List.mem_cons_of_mem _ (List.mem_append_right _ h)
  have hw3 := hts (.fieldLink RX4 45 "LayerSounder" "layers" "I") (List.mem_cons_of_mem _ (List.mem_append_left _ (List.mem_append_left _ (List.mem_of_getElem? (i := 1) rfl))))
  have hw4 := hts (.fieldLink RX4 49 "LayerSounder" "howOwn" "I") (List.mem_cons_of_mem _ (List.mem_append_left _ (List.mem_append_left _ (List.mem_of_getElem? (i := 2) rfl))))
  have hw5 := hts (.fieldLink RX4 52 "LayerSounder" "skewTurn" "I") (List.mem_cons_of_mem _ (List.mem_append_left _ (List.mem_append_left _ (List.mem_of_getElem? (i := 3) rfl))))
  have hw6 := hts (.fieldLink RX4 55 "LayerSounder" "edgeCells" "I") (List.mem_cons_of_mem _ (List.mem_append_left _ (List.mem_append_left _ (List.mem_of_getElem? (i := 4) rfl))))
  have hw7 := hts (.fieldLink RX4 65 "LayerSounder" "latestFinding" "I") (List.mem_cons_of_mem _ (List.mem_append_left _ (List.mem_append_left _ (List.mem_of_getElem? (i := 5) rfl))))
  have hw8 := hts (.fieldLink RX4 62 "LayerSounder" "oddBound" "I") (List.mem_cons_of_mem _ (List.mem_append_left _ (List.mem_append_left _ (List.mem_of_getElem? (i := 6) rfl))))
  have hw9 := hts (.fieldLink RX4 58 "LayerSounder" "threesTaken" "Z") (List.mem_cons_of_mem _ (List.mem_append_left _ (List.mem_append_left _ (List.mem_of_getElem? (i := 7) rfl))))
  refine lv_iload_n hx hb dX4_count_0 rfl (lv_at hl 1 rfl) ?_
  rcases sw_7 w0 with c_1 | c_1 | c_1 | c_1 | c_1 | c_1 | c_1 | c_1 | c_1
  · refine lv_tableOut (tgt := 94) hx hb dX4_count_1 c_1.1 (by decide) ?_
    replace c_1 := c_1.2
    refine lv_bipush (v := (-2)) hx hb dX4_count_94 (by decide) ?_
    exact W.iret (v := (-2)) hx hb hr (fun t ht hW => ⟨⟨(-2), (), rfl, (by grind [fCount]), ht⟩, hS.F ht⟩) hS.2.2 dX4_count_96
  · refine lv_tableIn (tgt := 48) hx hb dX4_count_1 (by rw [c_1]; decide) (by rw [c_1]; decide) (by rw [c_1]; rfl) (by decide) ?_
    refine lv_aload_n hx hb dX4_count_48 rfl (lv_at hl 0 rfl) ?_
    refine va_get (D := D) (ci := 4) (v := .ref (ad 2)) (C := RX4) (T := TX4) (N := 14) hx hb hts iX4 hown hK hP 0 rfl rfl 1 (by decide) hw0 (fun _ h9 => h9) rfl dX4_count_49 ?_
    refine va_getN (D := D) (ci := 3) (v := .int (g 100 7)) (C := RX3) (T := TX3) (N := 5) hx hb hts iX3 hown hK hP 2 rfl rfl 4 (by decide) (va_Nw.use rfl (hN.1 (124, RX3, "number", "I") (List.mem_of_getElem? (i := 2) rfl))) (fun _ h9 => h9) rfl dX4_count_52 ?_
    exact W.iret (v := g 100 7) hx hb hr (fun t ht hW => ⟨⟨g 100 7, (), rfl, (by grind [fCount]), ht⟩, hS.F ht⟩) hS.2.2 dX4_count_55
  · refine lv_tableIn (tgt := 56) hx hb dX4_count_1 (by rw [c_1]; decide) (by rw [c_1]; decide) (by rw [c_1]; rfl) (by decide) ?_
    refine lv_aload_n hx hb dX4_count_56 rfl (lv_at hl 0 rfl) ?_
    refine va_get (D := D) (ci := 4) (v := .int (g 100 0)) (C := RX4) (T := TX4) (N := 14) hx hb hts iX4 hown hK hP 0 rfl rfl 7 (by decide) hw3 (fun _ h9 => h9) rfl dX4_count_57 ?_
    exact W.iret (v := g 100 0) hx hb hr (fun t ht hW => ⟨⟨g 100 0, (), rfl, (by grind [fCount]), ht⟩, hS.F ht⟩) hS.2.2 dX4_count_60
  · refine lv_tableIn (tgt := 61) hx hb dX4_count_1 (by rw [c_1]; decide) (by rw [c_1]; decide) (by rw [c_1]; rfl) (by decide) ?_
    refine lv_aload_n hx hb dX4_count_61 rfl (lv_at hl 0 rfl) ?_
    refine va_get (D := D) (ci := 4) (v := .int (g 100 1)) (C := RX4) (T := TX4) (N := 14) hx hb hts iX4 hown hK hP 0 rfl rfl 8 (by decide) hw4 (fun _ h9 => h9) rfl dX4_count_62 ?_
    exact W.iret (v := g 100 1) hx hb hr (fun t ht hW => ⟨⟨g 100 1, (), rfl, (by grind [fCount]), ht⟩, hS.F ht⟩) hS.2.2 dX4_count_65
  · refine lv_tableIn (tgt := 66) hx hb dX4_count_1 (by rw [c_1]; decide) (by rw [c_1]; decide) (by rw [c_1]; rfl) (by decide) ?_
    refine lv_aload_n hx hb dX4_count_66 rfl (lv_at hl 0 rfl) ?_
    refine va_get (D := D) (ci := 4) (v := .int (g 100 2)) (C := RX4) (T := TX4) (N := 14) hx hb hts iX4 hown hK hP 0 rfl rfl 9 (by decide) hw5 (fun _ h9 => h9) rfl dX4_count_67 ?_
    exact W.iret (v := g 100 2) hx hb hr (fun t ht hW => ⟨⟨g 100 2, (), rfl, (by grind [fCount]), ht⟩, hS.F ht⟩) hS.2.2 dX4_count_70
  · refine lv_tableIn (tgt := 71) hx hb dX4_count_1 (by rw [c_1]; decide) (by rw [c_1]; decide) (by rw [c_1]; rfl) (by decide) ?_
    refine lv_aload_n hx hb dX4_count_71 rfl (lv_at hl 0 rfl) ?_
    refine va_get (D := D) (ci := 4) (v := .int (g 100 3)) (C := RX4) (T := TX4) (N := 14) hx hb hts iX4 hown hK hP 0 rfl rfl 10 (by decide) hw6 (fun _ h9 => h9) rfl dX4_count_72 ?_
    exact W.iret (v := g 100 3) hx hb hr (fun t ht hW => ⟨⟨g 100 3, (), rfl, (by grind [fCount]), ht⟩, hS.F ht⟩) hS.2.2 dX4_count_75
  · refine lv_tableIn (tgt := 76) hx hb dX4_count_1 (by rw [c_1]; decide) (by rw [c_1]; decide) (by rw [c_1]; rfl) (by decide) ?_
    refine lv_aload_n hx hb dX4_count_76 rfl (lv_at hl 0 rfl) ?_
    refine va_get (D := D) (ci := 4) (v := .int (g 100 6)) (C := RX4) (T := TX4) (N := 14) hx hb hts iX4 hown hK hP 0 rfl rfl 13 (by decide) hw7 (fun _ h9 => h9) rfl dX4_count_77 ?_
    exact W.iret (v := g 100 6) hx hb hr (fun t ht hW => ⟨⟨g 100 6, (), rfl, (by grind [fCount]), ht⟩, hS.F ht⟩) hS.2.2 dX4_count_80
  · refine lv_tableIn (tgt := 81) hx hb dX4_count_1 (by rw [c_1]; decide) (by rw [c_1]; decide) (by rw [c_1]; rfl) (by decide) ?_
    refine lv_aload_n hx hb dX4_count_81 rfl (lv_at hl 0 rfl) ?_
    refine va_get (D := D) (ci := 4) (v := .int (g 100 5)) (C := RX4) (T := TX4) (N := 14) hx hb hts iX4 hown hK hP 0 rfl rfl 12 (by decide) hw8 (fun _ h9 => h9) rfl dX4_count_82 ?_
    exact W.iret (v := g 100 5) hx hb hr (fun t ht hW => ⟨⟨g 100 5, (), rfl, (by grind [fCount]), ht⟩, hS.F ht⟩) hS.2.2 dX4_count_85
  · refine lv_tableIn (tgt := 86) hx hb dX4_count_1 (by rw [c_1]; decide) (by rw [c_1]; decide) (by rw [c_1]; rfl) (by decide) ?_
    refine lv_aload_n hx hb dX4_count_86 rfl (lv_at hl 0 rfl) ?_
    refine va_get (D := D) (ci := 4) (v := .int (g 100 4)) (C := RX4) (T := TX4) (N := 14) hx hb hts iX4 hown hK hP 0 rfl rfl 11 (by decide) hw9 (fun _ h9 => h9) rfl dX4_count_87 ?_
    refine pcI (va_runS (As := [.int (g 100 4)]) (rest := []) ⟨hx, hb, hml, hown, hts⟩ (kX4_asNumber l D cI cO tt (LW ad cI cO g b d X) s.heap (g 100 4) ) (va_cwS 1 hts gX4_count_X4_asNumber rfl rfl rfl (by decide +kernel) ⟨(Nat.le_of_ble_eq_true rfl), (Nat.le_of_ble_eq_true rfl)⟩) (pwS hK hZ hN hP hS) rfl rfl hl.1 rfl (lv_room (Nat.le_of_ble_eq_true rfl)) dX4_count_90 ⟨Nat.zero_le _, Nat.zero_le _⟩) hS (fun locs hS => ?_)
    exact W.iret (v := bI (¬ (g 100 4) = 0)) hx hb hr (fun t ht hW => ⟨⟨bI (¬ (g 100 4) = 0), (), rfl, (by grind [fCount]), ht⟩, hS.F ht⟩) hS.2.2 dX4_count_93
