set_option maxHeartbeats 4000000 in
set_option maxRecDepth 100000 in
theorem kX5_lose (l : Launch) (D : va_G) (cI cO : ClassId) (tt : Nat) (am : Nat → Nat) (g : Nat → Nat → Int32) (y : Nat → Int32) (zz : Nat → Int32) (j : Nat → Int64) (f : Nat → Int32) (v : Nat → Int32) (X : va_W) (sz : Nat) (r0 : Int32) (hI : WI g) (hM : RM g y zz) : MmI l yX5_lose wsX5_lose ({ frames := 2, cells := 0, slots := 0, locals := 45 }) D cI cO tt (MW am cI g y zz j f v X) sz [.ref (am 0), .int r0] (S := (Nat → Nat → Int32) × (Nat → Int32) × (Nat → Int32) × (Nat → Int64) × (Nat → Int32) × (Nat → Int32)) (fun u => MW am cI u.1 u.2.1 u.2.2.1 u.2.2.2.1 u.2.2.2.2.1 u.2.2.2.2.2 X) (fun z u => z = fLose g r0 ∧ u.1 = gLose g r0 ∧ RM u.1 u.2.1 u.2.2.1) := by
  refine Met.ofW (cc := cX5_lose) (maxL := 2) (ret := (some .int)) (by decide) rfl ?_
  intro p e s m args below meth c s₁ B hml hv
  obtain ⟨rfl, hsz, hP, hK, hD0, hZ, hN⟩ := hv
  have hx := B.exec
  have hb := B.bytes
  have hr := B.returns
  have hts := atoms_spec (ws := wsX5_lose) B.pre
  have hown : s.vm.findClass RX5 = some m.cls := findClass_of_methodNamed B.named
  have hlocks := B.notSynchronized
  subst hsz
  have hD := hD0.self (sz := s.heap.size)
  generalize hAe : va_A (MW am cI g y zz j f v X) s.heap.size = A at hD hZ ⊢
  have hA : ∀ q : Nat, s.heap.size ≤ q → A q := fun q h => by rw [← hAe]; exact Or.inr h
  have hS : va_S A s.heap s.heap [] := va_S.rf
  have hl := lv_entry ([.ref (am 0), .int r0]) (n := 2) (Nat.le_of_ble_eq_true rfl)
  rw [lg_entry_eq]
  generalize (lg_sl ([.ref (am 0), .int r0]) ++ List.replicate (2 - (lg_sl ([.ref (am 0), .int r0])).length) Slot.unset).toArray = ls at hl ⊢
  have hl : lv_has ls 2 [(0, .ref (am 0)), (1, .int r0)] := hl
  have hw0 := hts (.fieldLink RX5 16 "LayerSounderModel" "forms" "[I") (List.mem_cons_of_mem _ (List.mem_append_left _ (List.mem_of_getElem? (i := 0) rfl)))
  have iX5 : ∀ w ∈ wsX50, w ∈ wsX5_lose := fun _ h => List.mem_cons_of_mem _ (List.mem_append_right _ h)
  have hw2 := hts (.fieldLink RX5 19 "LayerSounderModel" "sizes" "[I") (List.mem_cons_of_mem _ (List.mem_append_left _ (List.mem_of_getElem? (i := 1) rfl)))
  refine lv_iload_n hx hb dX5_lose_0 rfl (lv_at hl 1 rfl) ?_
  refine pcI (va_runS (As := [.int r0]) (rest := []) ⟨hx, hb, hml, hown, hts⟩ (kX5_isReel l D cI cO tt (MW am cI g y zz j f v X) s.heap r0 ) (va_cwS 1 hts gX5_lose_X5_isReel rfl rfl rfl (by decide +kernel) ⟨(Nat.le_of_ble_eq_true rfl), (Nat.le_of_ble_eq_true rfl)⟩) (pwS hK hZ hN hP hS) rfl rfl hl.1 rfl (lv_room (Nat.le_of_ble_eq_true rfl)) dX5_lose_1 ⟨Nat.zero_le _, Nat.zero_le _⟩) hS (fun locs hS => ?_)
  refine lv_if_ne (tgt := 10) hx hb dX5_lose_4 (by decide) (fun c_1 => ?_) (fun c_1 => ?_)
  · have c_1 := bI_n0.mp c_1
    refine lv_aload_n hx hb dX5_lose_10 rfl (lv_at hl 0 rfl) ?_
    refine va_get (D := D) (ci := 5) (v := .ref (am 3)) (C := RX5) (T := TX5) (N := 31) hx hb hts iX5 hown hK hP 0 rfl rfl 2 (by decide) hw0 (fun _ h9 => h9) rfl dX5_lose_11 ?_
    refine lv_iload_n hx hb dX5_lose_14 rfl (lv_at hl 1 rfl) ?_
    refine va_iald hx hb hK hP 3 0 rfl rfl (rv c_1) dX5_lose_15 ?_
    refine lv_if_ge (tgt := 25) hx hb dX5_lose_16 (by decide) (fun c_2 => ?_) (fun c_2 => ?_)
    · refine lv_aload_n hx hb dX5_lose_25 rfl (lv_at hl 0 rfl) ?_
      refine va_get (D := D) (ci := 5) (v := .ref (am 3)) (C := RX5) (T := TX5) (N := 31) hx hb hts iX5 hown hK hP 0 rfl rfl 2 (by decide) hw0 (fun _ h9 => h9) rfl dX5_lose_26 ?_
      refine lv_iload_n hx hb dX5_lose_29 rfl (lv_at hl 1 rfl) ?_
      refine lv_iconst (v := (-1)) hx hb dX5_lose_30 (by decide) ?_
      refine va_iast hx hb hK hP hD hS 3 0 rfl rfl (rv c_1) dX5_lose_31 (fun H locs hP hD hS => ?_)
      have hP : va_P D vwCl (MW am cI (up2 g 4 r0.toNatClampNeg (-1)) y zz j f v X) H := hP
      have hD : va_D A (MW am cI (up2 g 4 r0.toNatClampNeg (-1)) y zz j f v X) := hD
      refine lv_aload_n hx hb dX5_lose_32 rfl (lv_at hl 0 rfl) ?_
      refine va_get (D := D) (ci := 5) (v := .ref (am 4)) (C := RX5) (T := TX5) (N := 31) hx hb hts iX5 hown hK hP 0 rfl rfl 3 (by decide) hw2 (fun _ h9 => h9) rfl dX5_lose_33 ?_
      refine lv_iload_n hx hb dX5_lose_36 rfl (lv_at hl 1 rfl) ?_
      refine va_iald hx hb hK hP 4 0 rfl rfl (rv c_1) dX5_lose_37 ?_
      have hP : va_P D vwCl (MW am cI (up2 (up2 g 4 r0.toNatClampNeg (-1)) 5 (rn r0) 0) y zz j f v X) H := by rw [← MW_lose (rn r0) 0]; exact hP
      have hD : va_D A (MW am cI (up2 (up2 g 4 r0.toNatClampNeg (-1)) 5 (rn r0) 0) y zz j f v X) := by rw [← MW_lose (rn r0) 0]; exact hD
      exact W.iret (v := zz r0.toNatClampNeg) hx hb hr (fun t ht hW => ⟨⟨zz r0.toNatClampNeg, (up2 (up2 g 4 r0.toNatClampNeg (-1)) 5 (rn r0) 0, y, zz, j, f, v), rfl, (by have z0 := Int32.not_lt.mpr c_2; have z := (not_congr (lost_i hI (rc c_1))).mp z0; exact ⟨(by rw [fLose, if_pos c_1, if_neg z]; exact (hM _ (rc c_1)).2.1 z0), (by rw [gLose, if_pos c_1, if_neg z]), RM_lose hM (rc c_1)⟩), by rw [ht]; exact hP, hD⟩, hS.F ht⟩) hS.2.2 dX5_lose_38
    · refine lv_aload_n hx hb dX5_lose_19 rfl (lv_at hl 0 rfl) ?_
      refine lv_iconst (v := 1) hx hb dX5_lose_20 (by decide) ?_
      refine mcI (wf := fun u : Nat → Nat → Int32 => MW am cI u y zz j f v X) (va_runV (As := [.int 1]) (rest := []) ⟨hx, hb, hml, hown, hts⟩ (kX5_met l D cI cO tt am g y zz j f v X s.heap.size 1 ) (cwV 1 hts gX5_lose_X5_met rfl rfl rfl (by decide +kernel) ⟨(Nat.le_of_ble_eq_true rfl), (Nat.le_of_ble_eq_true rfl)⟩) (mwV hK hZ hN hP hD hS hA (va_recv hK hP (ci := 5) (q0 := 0) rfl rfl)) rfl rfl hl.1 rfl (lv_room (Nat.le_of_ble_eq_true rfl)) dX5_lose_21 ⟨Nat.zero_le _, Nat.zero_le _⟩) hD hS hA (fun ru_3 uu_3 H locs hu_3 hP hD hS => ?_)
      obtain ⟨eru_3, euu_3⟩ := hu_3
      have euu_3 : uu_3 = up2 g 100 6 1 := euu_3
      subst eru_3
      subst euu_3
      have hP : va_P D vwCl (MW am cI (up2 g 100 6 1) y zz j f v X) H := hP
      have hD : va_D A (MW am cI (up2 g 100 6 1) y zz j f v X) := hD
      exact W.iret (v := (-10) - 1) hx hb hr (fun t ht hW => ⟨⟨(-10) - 1, (up2 g 100 6 1, y, zz, j, f, v), rfl, (by have z := (lost_i hI (rc c_1)).mp (Int32.not_le.mp c_2); exact ⟨(by rw [fLose, if_pos c_1, if_pos z]; rfl), (by rw [gLose, if_pos c_1, if_pos z]), RM_u (by omega) hM⟩), by rw [ht]; exact hP, hD⟩, hS.F ht⟩) hS.2.2 dX5_lose_24
  · have c_1 := bI_0.mp c_1
    refine lv_bipush (v := (-2)) hx hb dX5_lose_7 (by decide) ?_
    exact W.iret (v := (-2)) hx hb hr (fun t ht hW => ⟨⟨(-2), (g, y, zz, j, f, v), rfl, (by exact ⟨(by grind [fLose]), (by grind [gLose]), hM⟩), by rw [ht]; exact hP, hD⟩, hS.F ht⟩) hS.2.2 dX5_lose_9
set_option maxHeartbeats 4000000 in
set_option maxRecDepth 100000 in
theorem kX5_reel (l : Launch) (D : va_G) (cI cO : ClassId) (tt : Nat) (am : Nat → Nat) (g : Nat → Nat → Int32) (y : Nat → Int32) (zz : Nat → Int32) (j : Nat → Int64) (f : Nat → Int32) (v : Nat → Int32) (X : va_W) (sz : Nat) (r0 : Int32) (f0 : Int32) (n0 : Int32) (hI : WI g) (hM : RM g y zz) : MmI l yX5_reel wsX5_reel ({ frames := 2, cells := 0, slots := 0, locals := 45 }) D cI cO tt (MW am cI g y zz j f v X) sz [.ref (am 0), .int r0, .int f0, .int n0] (S := (Nat → Nat → Int32) × (Nat → Int32) × (Nat → Int32) × (Nat → Int64) × (Nat → Int32) × (Nat → Int32)) (fun u => MW am cI u.1 u.2.1 u.2.2.1 u.2.2.2.1 u.2.2.2.2.1 u.2.2.2.2.2 X) (fun z u => z = fReel r0 f0 n0 ∧ u.1 = gReel g r0 f0 n0 ∧ RM u.1 u.2.1 u.2.2.1) := by
  refine Met.ofW (cc := cX5_reel) (maxL := 5) (ret := (some .int)) (by decide) rfl ?_
  intro p e s m args below meth c s₁ B hml hv
  obtain ⟨rfl, hsz, hP, hK, hD0, hZ, hN⟩ := hv
  have hx := B.exec
  have hb := B.bytes
  have hr := B.returns
  have hts := atoms_spec (ws := wsX5_reel) B.pre
  have hown : s.vm.findClass RX5 = some m.cls := findClass_of_methodNamed B.named
  have hlocks := B.notSynchronized
  subst hsz
  have hD := hD0.self (sz := s.heap.size)
  generalize hAe : va_A (MW am cI g y zz j f v X) s.heap.size = A at hD hZ ⊢
  have hA : ∀ q : Nat, s.heap.size ≤ q → A q := fun q h => by rw [← hAe]; exact Or.inr h
  have hS : va_S A s.heap s.heap [] := va_S.rf
  have hl := lv_entry ([.ref (am 0), .int r0, .int f0, .int n0]) (n := 5) (Nat.le_of_ble_eq_true rfl)
  rw [lg_entry_eq]
  generalize (lg_sl ([.ref (am 0), .int r0, .int f0, .int n0]) ++ List.replicate (5 - (lg_sl ([.ref (am 0), .int r0, .int f0, .int n0])).length) Slot.unset).toArray = ls at hl ⊢
  have hl : lv_has ls 5 [(0, .ref (am 0)), (1, .int r0), (2, .int f0), (3, .int n0)] := hl
  have hw0 := hts (.constantLong RX5 66 (2)) (List.mem_cons_of_mem _ (List.mem_append_left _ (List.mem_of_getElem? (i := 0) rfl)))
  have hw1 := hts (.fieldLink RX5 16 "LayerSounderModel" "forms" "[I") (List.mem_cons_of_mem _ (List.mem_append_left _ (List.mem_of_getElem? (i := 1) rfl)))
  have iX5 : ∀ w ∈ wsX50, w ∈ wsX5_reel := fun _ h => List.mem_cons_of_mem _ (List.mem_append_right _ h)
  have hw3 := hts (.fieldLink RX5 19 "LayerSounderModel" "sizes" "[I") (List.mem_cons_of_mem _ (List.mem_append_left _ (List.mem_of_getElem? (i := 2) rfl)))
  have hw4 := hts (.fieldLink RX5 22 "LayerSounderModel" "items" "[I") (List.mem_cons_of_mem _ (List.mem_append_left _ (List.mem_of_getElem? (i := 3) rfl)))
  refine lv_iload_n hx hb dX5_reel_0 rfl (lv_at hl 1 rfl) ?_
  refine pcI (va_runS (As := [.int r0]) (rest := []) ⟨hx, hb, hml, hown, hts⟩ (kX5_isReel l D cI cO tt (MW am cI g y zz j f v X) s.heap r0 ) (va_cwS 1 hts gX5_reel_X5_isReel rfl rfl rfl (by decide +kernel) ⟨(Nat.le_of_ble_eq_true rfl), (Nat.le_of_ble_eq_true rfl)⟩) (pwS hK hZ hN hP hS) rfl rfl hl.1 rfl (lv_room (Nat.le_of_ble_eq_true rfl)) dX5_reel_1 ⟨Nat.zero_le _, Nat.zero_le _⟩) hS (fun locs hS => ?_)
  refine lv_if_eq (tgt := 26) hx hb dX5_reel_4 (by decide) (fun c_1 => ?_) (fun c_1 => ?_)
  · have c_1 := bI_0.mp c_1
    refine lv_bipush (v := (-2)) hx hb dX5_reel_26 (by decide) ?_
    exact W.iret (v := (-2)) hx hb hr (fun t ht hW => ⟨⟨(-2), (g, y, zz, j, f, v), rfl, (by exact ⟨(by grind [fReel]), (by grind [gReel]), (by (repeat (first | exact hM | apply RM_u (by omega))))⟩), by rw [ht]; exact hP, hD⟩, hS.F ht⟩) hS.2.2 dX5_reel_28
  · have c_1 := bI_n0.mp c_1
    refine lv_iload_n hx hb dX5_reel_7 rfl (lv_at hl 2 rfl) ?_
    refine lv_i2l hx hb dX5_reel_8 rfl ?_
    refine lv_lconst (v := 0) hx hb dX5_reel_9 (by decide) ?_
    refine lv_ldc2 hx hb hown hw0 dX5_reel_10 ?_
    refine pcI (va_runS (As := [.long f0.toInt64, .long 0, .long 2]) (rest := []) ⟨hx, hb, hml, hown, hts⟩ (kX5_in l D cI cO tt (MW am cI g y zz j f v X) s.heap f0 (0 : Int32) (2 : Int32) f0.toInt64 0 2 rfl (by decide) (by decide)) (va_cwS 3 hts gX5_reel_X5_in rfl rfl rfl (by decide +kernel) ⟨(Nat.le_of_ble_eq_true rfl), (Nat.le_of_ble_eq_true rfl)⟩) (pwS hK hZ hN hP hS) rfl rfl hl.1 rfl (lv_room (Nat.le_of_ble_eq_true rfl)) dX5_reel_13 ⟨Nat.zero_le _, Nat.zero_le _⟩) hS (fun locs hS => ?_)
    refine lv_if_eq (tgt := 26) hx hb dX5_reel_16 (by decide) (fun c_2 => ?_) (fun c_2 => ?_)
    · have c_2 := bI_0.mp c_2
      refine lv_bipush (v := (-2)) hx hb dX5_reel_26 (by decide) ?_
      exact W.iret (v := (-2)) hx hb hr (fun t ht hW => ⟨⟨(-2), (g, y, zz, j, f, v), rfl, (by exact ⟨(by grind [fReel]), (by grind [gReel]), (by (repeat (first | exact hM | apply RM_u (by omega))))⟩), by rw [ht]; exact hP, hD⟩, hS.F ht⟩) hS.2.2 dX5_reel_28
    · have c_2 := bI_n0.mp c_2
      refine lv_iload_n hx hb dX5_reel_19 rfl (lv_at hl 3 rfl) ?_
      refine lv_sipush (v := 200) hx hb dX5_reel_20 (by decide) ?_
      refine lv_icmp_le (tgt := 29) hx hb dX5_reel_23 (by decide) (fun c_3 => ?_) (fun c_3 => ?_)
      · refine lv_iload_n hx hb dX5_reel_29 rfl (lv_at hl 3 rfl) ?_
        refine lv_if_ge (tgt := 39) hx hb dX5_reel_30 (by decide) (fun c_4 => ?_) (fun c_4 => ?_)
        · refine lv_aload_n hx hb dX5_reel_39 rfl (lv_at hl 0 rfl) ?_
          refine va_get (D := D) (ci := 5) (v := .ref (am 3)) (C := RX5) (T := TX5) (N := 31) hx hb hts iX5 hown hK hP 0 rfl rfl 2 (by decide) hw1 (fun _ h9 => h9) rfl dX5_reel_40 ?_
          refine lv_iload_n hx hb dX5_reel_43 rfl (lv_at hl 1 rfl) ?_
          refine lv_iload_n hx hb dX5_reel_44 rfl (lv_at hl 2 rfl) ?_
          refine va_iast hx hb hK hP hD hS 3 0 rfl rfl (rv c_1) dX5_reel_45 (fun H locs hP hD hS => ?_)
          have hP : va_P D vwCl (MW am cI (up2 g 4 r0.toNatClampNeg f0) y zz j f v X) H := hP
          have hD : va_D A (MW am cI (up2 g 4 r0.toNatClampNeg f0) y zz j f v X) := hD
          refine lv_aload_n hx hb dX5_reel_46 rfl (lv_at hl 0 rfl) ?_
          refine va_get (D := D) (ci := 5) (v := .ref (am 4)) (C := RX5) (T := TX5) (N := 31) hx hb hts iX5 hown hK hP 0 rfl rfl 3 (by decide) hw3 (fun _ h9 => h9) rfl dX5_reel_47 ?_
          refine lv_iload_n hx hb dX5_reel_50 rfl (lv_at hl 1 rfl) ?_
          refine lv_iload_n hx hb dX5_reel_51 rfl (lv_at hl 3 rfl) ?_
          refine va_iast hx hb hK hP hD hS 4 0 rfl rfl (rv c_1) dX5_reel_52 (fun H locs hP hD hS => ?_)
          have hP : va_P D vwCl (MW am cI (up2 g 4 r0.toNatClampNeg f0) y (upd zz r0.toNatClampNeg n0) j f v X) H := hP
          have hD : va_D A (MW am cI (up2 g 4 r0.toNatClampNeg f0) y (upd zz r0.toNatClampNeg n0) j f v X) := hD
          refine lv_iconst (v := 0) hx hb dX5_reel_53 (by decide) ?_
          refine lv_istore (lv' := [(4, .int 0), (0, .ref (am 0)), (1, .int r0), (2, .int f0), (3, .int n0)]) hx hb dX5_reel_54 hl (by decide) rfl (fun ls hl => ?_)
          have hP : va_P D vwCl (MW am cI (up2 g 4 r0.toNatClampNeg f0) (zy y (rn r0) 0) (upd zz r0.toNatClampNeg n0) j f v X) H := by rw [zy_0]; exact hP
          have hD : va_D A (MW am cI (up2 g 4 r0.toNatClampNeg f0) (zy y (rn r0) 0) (upd zz r0.toNatClampNeg n0) j f v X) := by rw [zy_0]; exact hD
          refine wloop (D := D) (A := A) (σ := Nat) (pc := 56) (nL := 5) (fun z_5 => [(4, .int (nI z_5)), (0, .ref (am 0)), (1, .int r0), (2, .int f0), (3, .int n0)]) (fun z_5 => MW am cI (up2 g 4 r0.toNatClampNeg f0) (zy y (rn r0) z_5) (upd zz r0.toNatClampNeg n0) j f v X) (fun z_5 => z_5 ≤ rn n0) (fun z_5 => rn n0 - z_5) (fun z_5 hIz_5 ihz_5 H locs ls hP hD hS hl => ?_) 0 (Nat.zero_le _) _ _ _ hP hD hS (lv_sub hl [0, 1, 2, 3, 4] rfl)
          obtain ⟨i, rfl⟩ : ∃ q, q = z_5 := ⟨_, rfl⟩
          have hP : va_P D vwCl (MW am cI (up2 g 4 r0.toNatClampNeg f0) (zy y (rn r0) i) (upd zz r0.toNatClampNeg n0) j f v X) H := hP
          have hD : va_D A (MW am cI (up2 g 4 r0.toNatClampNeg f0) (zy y (rn r0) i) (upd zz r0.toNatClampNeg n0) j f v X) := hD
          have hl : lv_has ls 5 [(4, .int (nI i)), (0, .ref (am 0)), (1, .int r0), (2, .int f0), (3, .int n0)] := hl
          have hIz_5 : i ≤ rn n0 := hIz_5
          refine lv_iload hx hb dX5_reel_56 (lv_at hl 0 rfl) ?_
          refine lv_iload_n hx hb dX5_reel_58 rfl (lv_at hl 4 rfl) ?_
          refine lv_icmp_ge (tgt := 82) hx hb dX5_reel_59 (by decide) (fun c_6 => ?_) (fun c_6 => ?_)
          · refine lv_iload_n hx hb dX5_reel_82 rfl (lv_at hl 4 rfl) ?_
            rw [← nlast c_4 hIz_5 c_6] at hP hD
            have hP : va_P D vwCl (MW am cI (zr (up2 (up2 g 4 r0.toNatClampNeg f0) 5 (rn r0) n0) (rn r0) (rn n0)) (zy y (rn r0) (rn n0)) (upd zz r0.toNatClampNeg n0) j f v X) H := by rw [← MW_zr (rc c_1) n0 (rn n0)]; exact hP
            have hD : va_D A (MW am cI (zr (up2 (up2 g 4 r0.toNatClampNeg f0) 5 (rn r0) n0) (rn r0) (rn n0)) (zy y (rn r0) (rn n0)) (upd zz r0.toNatClampNeg n0) j f v X) := by rw [← MW_zr (rc c_1) n0 (rn n0)]; exact hD
            exact W.iret (v := n0) hx hb hr (fun t ht hW => ⟨⟨n0, (zr (up2 (up2 g 4 r0.toNatClampNeg f0) 5 (rn r0) n0) (rn r0) (rn n0), zy y (rn r0) (rn n0), upd zz r0.toNatClampNeg n0, j, f, v), rfl, (by have z := Int32.not_lt.mpr c_4; exact ⟨(by rw [fReel, if_pos ⟨c_1, c_2, c_3⟩, if_neg z]), (by rw [gReel, if_pos ⟨c_1, c_2, c_3⟩, if_neg z]), RM_reel hM (rc c_1) c_4 c_3⟩), by rw [ht]; exact hP, hD⟩, hS.F ht⟩) hS.2.2 dX5_reel_83
          · have hlt := nless c_4 c_3 hIz_5 c_6
            refine lv_aload_n hx hb dX5_reel_62 rfl (lv_at hl 1 rfl) ?_
            refine va_get (D := D) (ci := 5) (v := .ref (am 5)) (C := RX5) (T := TX5) (N := 31) hx hb hts iX5 hown hK hP 0 rfl rfl 4 (by decide) hw4 (fun _ h9 => h9) rfl dX5_reel_63 ?_
            refine lv_sipush (v := 200) hx hb dX5_reel_66 (by decide) ?_
            refine lv_iload_n hx hb dX5_reel_69 rfl (lv_at hl 2 rfl) ?_
            refine lv_imul hx hb dX5_reel_70 ?_
            refine lv_iload hx hb dX5_reel_71 (lv_at hl 0 rfl) ?_
            refine lv_iadd hx hb dX5_reel_73 ?_
            refine lv_iconst (v := 0) hx hb dX5_reel_74 (by decide) ?_
            refine va_iast hx hb hK hP hD hS 5 0 rfl rfl (rix c_1 hlt.2).1 dX5_reel_75 (fun H locs hP hD hS => ?_)
            have hP : va_P D vwCl (MW am cI (up2 g 4 r0.toNatClampNeg f0) (upd (zy y (rn r0) i) (((200 * r0) + (nI i)).toNatClampNeg) 0) (upd zz r0.toNatClampNeg n0) j f v X) H := hP
            have hD : va_D A (MW am cI (up2 g 4 r0.toNatClampNeg f0) (upd (zy y (rn r0) i) (((200 * r0) + (nI i)).toNatClampNeg) 0) (upd zz r0.toNatClampNeg n0) j f v X) := hD
            refine lv_iinc (v := nI (i + 1)) (lv' := [(4, .int (nI (i + 1))), (0, .ref (am 0)), (1, .int r0), (2, .int f0), (3, .int n0)]) hx hb dX5_reel_76 hl (k := 0) rfl (nI_1 _) (by decide) rfl (fun ls hl => ?_)
            refine lv_goto (tgt := 56) hx hb dX5_reel_79 (by decide) ?_
            rw [(rix c_1 hlt.2).2, zy_s] at hP hD
            exact ihz_5 (i + 1) (show (i + 1) ≤ rn n0 from hlt.1) (show rn n0 - (i + 1) < rn n0 - i from (by omega)) _ _ _ hP hD hS (lv_sub hl [0, 1, 2, 3, 4] rfl)
        · refine lv_aload_n hx hb dX5_reel_33 rfl (lv_at hl 0 rfl) ?_
          refine lv_iconst (v := 5) hx hb dX5_reel_34 (by decide) ?_
          refine mcI (wf := fun u : Nat → Nat → Int32 => MW am cI u y zz j f v X) (va_runV (As := [.int 5]) (rest := []) ⟨hx, hb, hml, hown, hts⟩ (kX5_met l D cI cO tt am g y zz j f v X s.heap.size 5 ) (cwV 1 hts gX5_reel_X5_met rfl rfl rfl (by decide +kernel) ⟨(Nat.le_of_ble_eq_true rfl), (Nat.le_of_ble_eq_true rfl)⟩) (mwV hK hZ hN hP hD hS hA (va_recv hK hP (ci := 5) (q0 := 0) rfl rfl)) rfl rfl hl.1 rfl (lv_room (Nat.le_of_ble_eq_true rfl)) dX5_reel_35 ⟨Nat.zero_le _, Nat.zero_le _⟩) hD hS hA (fun ru_7 uu_7 H locs hu_7 hP hD hS => ?_)
          obtain ⟨eru_7, euu_7⟩ := hu_7
          have euu_7 : uu_7 = up2 g 100 6 5 := euu_7
          subst eru_7
          subst euu_7
          have hP : va_P D vwCl (MW am cI (up2 g 100 6 5) y zz j f v X) H := hP
          have hD : va_D A (MW am cI (up2 g 100 6 5) y zz j f v X) := hD
          exact W.iret (v := (-10) - 5) hx hb hr (fun t ht hW => ⟨⟨(-10) - 5, (up2 g 100 6 5, y, zz, j, f, v), rfl, (by exact ⟨(by grind [fReel]), (by grind [gReel]), (by (repeat (first | exact hM | apply RM_u (by omega))))⟩), by rw [ht]; exact hP, hD⟩, hS.F ht⟩) hS.2.2 dX5_reel_38
      · refine lv_bipush (v := (-2)) hx hb dX5_reel_26 (by decide) ?_
        exact W.iret (v := (-2)) hx hb hr (fun t ht hW => ⟨⟨(-2), (g, y, zz, j, f, v), rfl, (by exact ⟨(by grind [fReel]), (by grind [gReel]), (by (repeat (first | exact hM | apply RM_u (by omega))))⟩), by rw [ht]; exact hP, hD⟩, hS.F ht⟩) hS.2.2 dX5_reel_28
set_option maxHeartbeats 4000000 in
set_option maxRecDepth 100000 in
theorem kX5_lacks (l : Launch) (D : va_G) (cI cO : ClassId) (tt : Nat) (am : Nat → Nat) (g : Nat → Nat → Int32) (y : Nat → Int32) (zz : Nat → Int32) (j : Nat → Int64) (f : Nat → Int32) (v : Nat → Int32) (X : va_W) (sz : Nat) (r0 : Int32) (f0 : Int32) (i0 : Int32) (hI : WI g) (hM : RM g y zz) (hr0 : isR r0) : MmI l yX5_lacks wsX5_lacks ({ frames := 1, cells := 0, slots := 0, locals := 25 }) D cI cO tt (MW am cI g y zz j f v X) sz [.ref (am 0), .int r0, .int f0, .int i0] (S := Nat → Nat → Int32) (fun u => MW am cI u y zz j f v X) (fun z u => z = lk (fnd g (rn r0) f0 i0) ∧ u = (if fnd g (rn r0) f0 i0 = 0 then g else up2 g 100 6 (fnd g (rn r0) f0 i0))) := by
  refine Met.ofW (cc := cX5_lacks) (maxL := 4) (ret := (some .int)) (by decide) rfl ?_
  intro p e s m args below meth c s₁ B hml hv
  obtain ⟨rfl, hsz, hP, hK, hD0, hZ, hN⟩ := hv
  have hx := B.exec
  have hb := B.bytes
  have hr := B.returns
  have hts := atoms_spec (ws := wsX5_lacks) B.pre
  have hown : s.vm.findClass RX5 = some m.cls := findClass_of_methodNamed B.named
  have hlocks := B.notSynchronized
  subst hsz
  have hD := hD0.self (sz := s.heap.size)
  generalize hAe : va_A (MW am cI g y zz j f v X) s.heap.size = A at hD hZ ⊢
  have hA : ∀ q : Nat, s.heap.size ≤ q → A q := fun q h => by rw [← hAe]; exact Or.inr h
  have hS : va_S A s.heap s.heap [] := va_S.rf
  have hl := lv_entry ([.ref (am 0), .int r0, .int f0, .int i0]) (n := 4) (Nat.le_of_ble_eq_true rfl)
  rw [lg_entry_eq]
  generalize (lg_sl ([.ref (am 0), .int r0, .int f0, .int i0]) ++ List.replicate (4 - (lg_sl ([.ref (am 0), .int r0, .int f0, .int i0])).length) Slot.unset).toArray = ls at hl ⊢
  have hl : lv_has ls 4 [(0, .ref (am 0)), (1, .int r0), (2, .int f0), (3, .int i0)] := hl
  have hw0 := hts (.fieldLink RX5 16 "LayerSounderModel" "forms" "[I") (List.mem_cons_of_mem _ (List.mem_append_left _ (List.mem_of_getElem? (i := 0) rfl)))
  have iX5 : ∀ w ∈ wsX50, w ∈ wsX5_lacks := fun _ h => List.mem_cons_of_mem _ (List.mem_append_right _ h)
  have hw2 := hts (.fieldLink RX5 19 "LayerSounderModel" "sizes" "[I") (List.mem_cons_of_mem _ (List.mem_append_left _ (List.mem_of_getElem? (i := 1) rfl)))
  refine lv_aload_n hx hb dX5_lacks_0 rfl (lv_at hl 0 rfl) ?_
  refine va_get (D := D) (ci := 5) (v := .ref (am 3)) (C := RX5) (T := TX5) (N := 31) hx hb hts iX5 hown hK hP 0 rfl rfl 2 (by decide) hw0 (fun _ h9 => h9) rfl dX5_lacks_1 ?_
  refine lv_iload_n hx hb dX5_lacks_4 rfl (lv_at hl 1 rfl) ?_
  refine va_iald hx hb hK hP 3 0 rfl rfl (rv hr0) dX5_lacks_5 ?_
  refine lv_if_ge (tgt := 15) hx hb dX5_lacks_6 (by decide) (fun c_1 => ?_) (fun c_1 => ?_)
  · refine lv_aload_n hx hb dX5_lacks_15 rfl (lv_at hl 0 rfl) ?_
    refine va_get (D := D) (ci := 5) (v := .ref (am 3)) (C := RX5) (T := TX5) (N := 31) hx hb hts iX5 hown hK hP 0 rfl rfl 2 (by decide) hw0 (fun _ h9 => h9) rfl dX5_lacks_16 ?_
    refine lv_iload_n hx hb dX5_lacks_19 rfl (lv_at hl 1 rfl) ?_
    refine va_iald hx hb hK hP 3 0 rfl rfl (rv hr0) dX5_lacks_20 ?_
    refine lv_iload_n hx hb dX5_lacks_21 rfl (lv_at hl 2 rfl) ?_
    refine lv_icmp_eq (tgt := 31) hx hb dX5_lacks_22 (by decide) (fun c_2 => ?_) (fun c_2 => ?_)
    · refine lv_iload_n hx hb dX5_lacks_31 rfl (lv_at hl 3 rfl) ?_
      refine lv_i2l hx hb dX5_lacks_32 rfl ?_
      refine lv_lconst (v := 0) hx hb dX5_lacks_33 (by decide) ?_
      refine lv_aload_n hx hb dX5_lacks_34 rfl (lv_at hl 0 rfl) ?_
      refine va_get (D := D) (ci := 5) (v := .ref (am 4)) (C := RX5) (T := TX5) (N := 31) hx hb hts iX5 hown hK hP 0 rfl rfl 3 (by decide) hw2 (fun _ h9 => h9) rfl dX5_lacks_35 ?_
      refine lv_iload_n hx hb dX5_lacks_38 rfl (lv_at hl 1 rfl) ?_
      refine va_iald hx hb hK hP 4 0 rfl rfl (rv hr0) dX5_lacks_39 ?_
      refine lv_iconst (v := 1) hx hb dX5_lacks_40 (by decide) ?_
      refine lv_isub hx hb dX5_lacks_41 ?_
      refine lv_i2l hx hb dX5_lacks_42 rfl ?_
      refine pcI (va_runS (As := [.long i0.toInt64, .long 0, .long (((zz r0.toNatClampNeg) - 1).toInt64)]) (rest := []) ⟨hx, hb, hml, hown, hts⟩ (kX5_in l D cI cO tt (MW am cI g y zz j f v X) s.heap i0 (0 : Int32) ((zz r0.toNatClampNeg) - 1) i0.toInt64 0 (((zz r0.toNatClampNeg) - 1).toInt64) rfl (by decide) rfl) (va_cwS 3 hts gX5_lacks_X5_in rfl rfl rfl (by decide +kernel) ⟨(Nat.le_of_ble_eq_true rfl), (Nat.le_of_ble_eq_true rfl)⟩) (pwS hK hZ hN hP hS) rfl rfl hl.1 rfl (lv_room (Nat.le_of_ble_eq_true rfl)) dX5_lacks_43 ⟨Nat.zero_le _, Nat.zero_le _⟩) hS (fun locs hS => ?_)
      refine lv_if_eq (tgt := 53) hx hb dX5_lacks_46 (by decide) (fun c_3 => ?_) (fun c_3 => ?_)
      · have c_3 := bI_0.mp c_3
        refine lv_aload_n hx hb dX5_lacks_53 rfl (lv_at hl 0 rfl) ?_
        refine lv_iconst (v := 2) hx hb dX5_lacks_54 (by decide) ?_
        refine mcI (wf := fun u : Nat → Nat → Int32 => MW am cI u y zz j f v X) (va_runV (As := [.int 2]) (rest := []) ⟨hx, hb, hml, hown, hts⟩ (kX5_met l D cI cO tt am g y zz j f v X s.heap.size 2 ) (cwV 1 hts gX5_lacks_X5_met rfl rfl rfl (by decide +kernel) ⟨(Nat.le_of_ble_eq_true rfl), (Nat.le_of_ble_eq_true rfl)⟩) (mwV hK hZ hN hP hD hS hA (va_recv hK hP (ci := 5) (q0 := 0) rfl rfl)) rfl rfl hl.1 rfl (lv_room (Nat.le_of_ble_eq_true rfl)) dX5_lacks_55 ⟨Nat.zero_le _, Nat.zero_le _⟩) hD hS hA (fun ru_4 uu_4 H locs hu_4 hP hD hS => ?_)
        obtain ⟨eru_4, euu_4⟩ := hu_4
        have euu_4 : uu_4 = up2 g 100 6 2 := euu_4
        subst eru_4
        subst euu_4
        have hP : va_P D vwCl (MW am cI (up2 g 100 6 2) y zz j f v X) H := hP
        have hD : va_D A (MW am cI (up2 g 100 6 2) y zz j f v X) := hD
        exact W.iret (v := (-10) - 2) hx hb hr (fun t ht hW => ⟨⟨(-10) - 2, up2 g 100 6 2, rfl, (by have z1 := lost_i hI (rc hr0); have z2 := (hM _ (rc hr0)).2.1; have z3 := pm1 (hM _ (rc hr0)).2.2.1 (hM _ (rc hr0)).2.2.2 i0; constructor <;> grind [fnd]), by rw [ht]; exact hP, hD⟩, hS.F ht⟩) hS.2.2 dX5_lacks_58
      · have c_3 := bI_n0.mp c_3
        refine lv_iconst (v := 0) hx hb dX5_lacks_49 (by decide) ?_
        refine lv_goto (tgt := 58) hx hb dX5_lacks_50 (by decide) ?_
        exact W.iret (v := 0) hx hb hr (fun t ht hW => ⟨⟨0, g, rfl, (by have z1 := lost_i hI (rc hr0); have z2 := (hM _ (rc hr0)).2.1; have z3 := pm1 (hM _ (rc hr0)).2.2.1 (hM _ (rc hr0)).2.2.2 i0; constructor <;> grind [fnd]), by rw [ht]; exact hP, hD⟩, hS.F ht⟩) hS.2.2 dX5_lacks_58
    · refine lv_aload_n hx hb dX5_lacks_25 rfl (lv_at hl 0 rfl) ?_
      refine lv_iconst (v := 3) hx hb dX5_lacks_26 (by decide) ?_
      refine mcI (wf := fun u : Nat → Nat → Int32 => MW am cI u y zz j f v X) (va_runV (As := [.int 3]) (rest := []) ⟨hx, hb, hml, hown, hts⟩ (kX5_met l D cI cO tt am g y zz j f v X s.heap.size 3 ) (cwV 1 hts gX5_lacks_X5_met rfl rfl rfl (by decide +kernel) ⟨(Nat.le_of_ble_eq_true rfl), (Nat.le_of_ble_eq_true rfl)⟩) (mwV hK hZ hN hP hD hS hA (va_recv hK hP (ci := 5) (q0 := 0) rfl rfl)) rfl rfl hl.1 rfl (lv_room (Nat.le_of_ble_eq_true rfl)) dX5_lacks_27 ⟨Nat.zero_le _, Nat.zero_le _⟩) hD hS hA (fun ru_5 uu_5 H locs hu_5 hP hD hS => ?_)
      obtain ⟨eru_5, euu_5⟩ := hu_5
      have euu_5 : uu_5 = up2 g 100 6 3 := euu_5
      subst eru_5
      subst euu_5
      have hP : va_P D vwCl (MW am cI (up2 g 100 6 3) y zz j f v X) H := hP
      have hD : va_D A (MW am cI (up2 g 100 6 3) y zz j f v X) := hD
      exact W.iret (v := (-10) - 3) hx hb hr (fun t ht hW => ⟨⟨(-10) - 3, up2 g 100 6 3, rfl, (by have z1 := lost_i hI (rc hr0); have z2 := (hM _ (rc hr0)).2.1; have z3 := pm1 (hM _ (rc hr0)).2.2.1 (hM _ (rc hr0)).2.2.2 i0; constructor <;> grind [fnd]), by rw [ht]; exact hP, hD⟩, hS.F ht⟩) hS.2.2 dX5_lacks_30
  · refine lv_aload_n hx hb dX5_lacks_9 rfl (lv_at hl 0 rfl) ?_
    refine lv_iconst (v := 1) hx hb dX5_lacks_10 (by decide) ?_
    refine mcI (wf := fun u : Nat → Nat → Int32 => MW am cI u y zz j f v X) (va_runV (As := [.int 1]) (rest := []) ⟨hx, hb, hml, hown, hts⟩ (kX5_met l D cI cO tt am g y zz j f v X s.heap.size 1 ) (cwV 1 hts gX5_lacks_X5_met rfl rfl rfl (by decide +kernel) ⟨(Nat.le_of_ble_eq_true rfl), (Nat.le_of_ble_eq_true rfl)⟩) (mwV hK hZ hN hP hD hS hA (va_recv hK hP (ci := 5) (q0 := 0) rfl rfl)) rfl rfl hl.1 rfl (lv_room (Nat.le_of_ble_eq_true rfl)) dX5_lacks_11 ⟨Nat.zero_le _, Nat.zero_le _⟩) hD hS hA (fun ru_6 uu_6 H locs hu_6 hP hD hS => ?_)
    obtain ⟨eru_6, euu_6⟩ := hu_6
    have euu_6 : uu_6 = up2 g 100 6 1 := euu_6
    subst eru_6
    subst euu_6
    have hP : va_P D vwCl (MW am cI (up2 g 100 6 1) y zz j f v X) H := hP
    have hD : va_D A (MW am cI (up2 g 100 6 1) y zz j f v X) := hD
    exact W.iret (v := (-10) - 1) hx hb hr (fun t ht hW => ⟨⟨(-10) - 1, up2 g 100 6 1, rfl, (by have z1 := lost_i hI (rc hr0); have z2 := (hM _ (rc hr0)).2.1; have z3 := pm1 (hM _ (rc hr0)).2.2.1 (hM _ (rc hr0)).2.2.2 i0; constructor <;> grind [fnd]), by rw [ht]; exact hP, hD⟩, hS.F ht⟩) hS.2.2 dX5_lacks_14
set_option maxHeartbeats 4000000 in
set_option maxRecDepth 100000 in
theorem kX5_put (l : Launch) (D : va_G) (cI cO : ClassId) (tt : Nat) (am : Nat → Nat) (g : Nat → Nat → Int32) (y : Nat → Int32) (zz : Nat → Int32) (j : Nat → Int64) (f : Nat → Int32) (v : Nat → Int32) (X : va_W) (sz : Nat) (r0 : Int32) (f0 : Int32) (i0 : Int32) (v0 : Int32) (hI : WI g) (hM : RM g y zz) : MmI l yX5_put wsX5_put ({ frames := 2, cells := 0, slots := 0, locals := 48 }) D cI cO tt (MW am cI g y zz j f v X) sz [.ref (am 0), .int r0, .int f0, .int i0, .int v0] (S := (Nat → Nat → Int32) × (Nat → Int32) × (Nat → Int32) × (Nat → Int64) × (Nat → Int32) × (Nat → Int32)) (fun u => MW am cI u.1 u.2.1 u.2.2.1 u.2.2.2.1 u.2.2.2.2.1 u.2.2.2.2.2 X) (fun z u => z = fPut g r0 f0 i0 ∧ u.1 = gPut g r0 f0 i0 v0 ∧ RM u.1 u.2.1 u.2.2.1) := by
  refine Met.ofW (cc := cX5_put) (maxL := 6) (ret := (some .int)) (by decide) rfl ?_
  intro p e s m args below meth c s₁ B hml hv
  obtain ⟨rfl, hsz, hP, hK, hD0, hZ, hN⟩ := hv
  have hx := B.exec
  have hb := B.bytes
  have hr := B.returns
  have hts := atoms_spec (ws := wsX5_put) B.pre
  have hown : s.vm.findClass RX5 = some m.cls := findClass_of_methodNamed B.named
  have hlocks := B.notSynchronized
  subst hsz
  have hD := hD0.self (sz := s.heap.size)
  generalize hAe : va_A (MW am cI g y zz j f v X) s.heap.size = A at hD hZ ⊢
  have hA : ∀ q : Nat, s.heap.size ≤ q → A q := fun q h => by rw [← hAe]; exact Or.inr h
  have hS : va_S A s.heap s.heap [] := va_S.rf
  have hl := lv_entry ([.ref (am 0), .int r0, .int f0, .int i0, .int v0]) (n := 6) (Nat.le_of_ble_eq_true rfl)
  rw [lg_entry_eq]
  generalize (lg_sl ([.ref (am 0), .int r0, .int f0, .int i0, .int v0]) ++ List.replicate (6 - (lg_sl ([.ref (am 0), .int r0, .int f0, .int i0, .int v0])).length) Slot.unset).toArray = ls at hl ⊢
  have hl : lv_has ls 6 [(0, .ref (am 0)), (1, .int r0), (2, .int f0), (3, .int i0), (4, .int v0)] := hl
  have hw0 := hts (.constantLong RX5 66 (2)) (List.mem_cons_of_mem _ (List.mem_append_left _ (List.mem_of_getElem? (i := 0) rfl)))
  have hw1 := hts (.fieldLink RX5 22 "LayerSounderModel" "items" "[I") (List.mem_cons_of_mem _ (List.mem_append_left _ (List.mem_of_getElem? (i := 1) rfl)))
  have iX5 : ∀ w ∈ wsX50, w ∈ wsX5_put := fun _ h => List.mem_cons_of_mem _ (List.mem_append_right _ h)
  refine lv_iload_n hx hb dX5_put_0 rfl (lv_at hl 1 rfl) ?_
  refine pcI (va_runS (As := [.int r0]) (rest := []) ⟨hx, hb, hml, hown, hts⟩ (kX5_isReel l D cI cO tt (MW am cI g y zz j f v X) s.heap r0 ) (va_cwS 1 hts gX5_put_X5_isReel rfl rfl rfl (by decide +kernel) ⟨(Nat.le_of_ble_eq_true rfl), (Nat.le_of_ble_eq_true rfl)⟩) (pwS hK hZ hN hP hS) rfl rfl hl.1 rfl (lv_room (Nat.le_of_ble_eq_true rfl)) dX5_put_1 ⟨Nat.zero_le _, Nat.zero_le _⟩) hS (fun locs hS => ?_)
  refine lv_if_eq (tgt := 19) hx hb dX5_put_4 (by decide) (fun c_1 => ?_) (fun c_1 => ?_)
  · have c_1 := bI_0.mp c_1
    refine lv_bipush (v := (-2)) hx hb dX5_put_19 (by decide) ?_
    exact W.iret (v := (-2)) hx hb hr (fun t ht hW => ⟨⟨(-2), (g, y, zz, j, f, v), rfl, (by exact ⟨(by grind [fPut]), (by grind [gPut]), hM⟩), by rw [ht]; exact hP, hD⟩, hS.F ht⟩) hS.2.2 dX5_put_21
  · have c_1 := bI_n0.mp c_1
    refine lv_iload_n hx hb dX5_put_7 rfl (lv_at hl 2 rfl) ?_
    refine lv_i2l hx hb dX5_put_8 rfl ?_
    refine lv_lconst (v := 0) hx hb dX5_put_9 (by decide) ?_
    refine lv_ldc2 hx hb hown hw0 dX5_put_10 ?_
    refine pcI (va_runS (As := [.long f0.toInt64, .long 0, .long 2]) (rest := []) ⟨hx, hb, hml, hown, hts⟩ (kX5_in l D cI cO tt (MW am cI g y zz j f v X) s.heap f0 (0 : Int32) (2 : Int32) f0.toInt64 0 2 rfl (by decide) (by decide)) (va_cwS 3 hts gX5_put_X5_in rfl rfl rfl (by decide +kernel) ⟨(Nat.le_of_ble_eq_true rfl), (Nat.le_of_ble_eq_true rfl)⟩) (pwS hK hZ hN hP hS) rfl rfl hl.1 rfl (lv_room (Nat.le_of_ble_eq_true rfl)) dX5_put_13 ⟨Nat.zero_le _, Nat.zero_le _⟩) hS (fun locs hS => ?_)
    refine lv_if_ne (tgt := 22) hx hb dX5_put_16 (by decide) (fun c_2 => ?_) (fun c_2 => ?_)
    · have c_2 := bI_n0.mp c_2
      refine lv_aload_n hx hb dX5_put_22 rfl (lv_at hl 0 rfl) ?_
      refine lv_iload_n hx hb dX5_put_23 rfl (lv_at hl 1 rfl) ?_
      refine lv_iload_n hx hb dX5_put_24 rfl (lv_at hl 2 rfl) ?_
      refine lv_iload_n hx hb dX5_put_25 rfl (lv_at hl 3 rfl) ?_
      refine mcI (wf := fun u : Nat → Nat → Int32 => MW am cI u y zz j f v X) (va_runV (As := [.int r0, .int f0, .int i0]) (rest := []) ⟨hx, hb, hml, hown, hts⟩ (kX5_lacks l D cI cO tt am g y zz j f v X s.heap.size r0 f0 i0 hI hM c_1) (cwV 3 hts gX5_put_X5_lacks rfl rfl rfl (by decide +kernel) ⟨(Nat.le_of_ble_eq_true rfl), (Nat.le_of_ble_eq_true rfl)⟩) (mwV hK hZ hN hP hD hS hA (va_recv hK hP (ci := 5) (q0 := 0) rfl rfl)) rfl rfl hl.1 rfl (lv_room (Nat.le_of_ble_eq_true rfl)) dX5_put_26 ⟨Nat.zero_le _, Nat.zero_le _⟩) hD hS hA (fun ru_3 uu_3 H locs hu_3 hP hD hS => ?_)
      obtain ⟨eru_3, euu_3⟩ := hu_3
      have euu_3 : uu_3 = if fnd g (rn r0) f0 i0 = 0 then g else up2 g 100 6 (fnd g (rn r0) f0 i0) := euu_3
      subst eru_3
      subst euu_3
      have hP : va_P D vwCl (MW am cI (if fnd g (rn r0) f0 i0 = 0 then g else up2 g 100 6 (fnd g (rn r0) f0 i0)) y zz j f v X) H := hP
      have hD : va_D A (MW am cI (if fnd g (rn r0) f0 i0 = 0 then g else up2 g 100 6 (fnd g (rn r0) f0 i0)) y zz j f v X) := hD
      refine lv_istore (lv' := [(5, .int (lk (fnd g (rn r0) f0 i0))), (0, .ref (am 0)), (1, .int r0), (2, .int f0), (3, .int i0), (4, .int v0)]) hx hb dX5_put_29 hl (by decide) rfl (fun ls hl => ?_)
      refine lv_iload hx hb dX5_put_31 (lv_at hl 0 rfl) ?_
      refine lv_if_eq (tgt := 39) hx hb dX5_put_33 (by decide) (fun c_4 => ?_) (fun c_4 => ?_)
      · have hk0 := lk_0.mp c_4
        rw [if_pos hk0] at hP hD
        have hi0 := fnd_in hk0
        have hi2 : i0 < 200 := Int32.lt_of_lt_of_le hi0.2 (hI.1 _ (rc c_1)).2
        refine lv_aload_n hx hb dX5_put_39 rfl (lv_at hl 1 rfl) ?_
        refine va_get (D := D) (ci := 5) (v := .ref (am 5)) (C := RX5) (T := TX5) (N := 31) hx hb hts iX5 hown hK hP 0 rfl rfl 4 (by decide) hw1 (fun _ h9 => h9) rfl dX5_put_40 ?_
        refine lv_sipush (v := 200) hx hb dX5_put_43 (by decide) ?_
        refine lv_iload_n hx hb dX5_put_46 rfl (lv_at hl 2 rfl) ?_
        refine lv_imul hx hb dX5_put_47 ?_
        refine lv_iload_n hx hb dX5_put_48 rfl (lv_at hl 4 rfl) ?_
        refine lv_iadd hx hb dX5_put_49 ?_
        refine lv_iload_n hx hb dX5_put_50 rfl (lv_at hl 3 rfl) ?_
        refine jnI (j := 73) (rest := [.int ((200 * r0) + i0), .ref (am 5)]) (fun z => z = nrw f0 v0) (fun v_7 hv_7 => ?_) (fun hJ => ?_)
        · subst hv_7
          refine va_iast hx hb hK hP hD hS 5 0 rfl rfl (rix2 c_1 hi0.1 hi2).1 dX5_put_73 (fun H locs hP hD hS => ?_)
          have hP : va_P D vwCl (MW am cI g (upd y (((200 * r0) + i0).toNatClampNeg) (nrw f0 v0)) zz j f v X) H := hP
          have hD : va_D A (MW am cI g (upd y (((200 * r0) + i0).toNatClampNeg) (nrw f0 v0)) zz j f v X) := hD
          refine lv_iconst (v := 1) hx hb dX5_put_74 (by decide) ?_
          rw [(rix2 c_1 hi0.1 hi2).2.1] at hP hD
          have hP : va_P D vwCl (MW am cI (up2 g (10 + rn r0) (rn i0) (nrw f0 v0)) (upd y (200 * rn r0 + rn i0) (nrw f0 v0)) zz j f v X) H := by rw [← MW_row (rc c_1) (rn i0) (nrw f0 v0)]; exact hP
          have hD : va_D A (MW am cI (up2 g (10 + rn r0) (rn i0) (nrw f0 v0)) (upd y (200 * rn r0 + rn i0) (nrw f0 v0)) zz j f v X) := by rw [← MW_row (rc c_1) (rn i0) (nrw f0 v0)]; exact hD
          exact W.iret (v := 1) hx hb hr (fun t ht hW => ⟨⟨1, (up2 g (10 + rn r0) (rn i0) (nrw f0 v0), upd y (200 * rn r0 + rn i0) (nrw f0 v0), zz, j, f, v), rfl, (by exact ⟨(by rw [fPut, if_pos ⟨c_1, c_2⟩, if_pos hk0]), (by rw [gPut, if_pos ⟨c_1, c_2⟩, if_pos hk0, fnd_f hk0]), RM_put hM (rc c_1) (rix2 c_1 hi0.1 hi2).2.2 _⟩), by rw [ht]; exact hP, hD⟩, hS.F ht⟩) hS.2.2 dX5_put_75
        · refine lv_if_ne (tgt := 60) hx hb dX5_put_51 (by decide) (fun c_8 => ?_) (fun c_8 => ?_)
          · refine lv_iload_n hx hb dX5_put_60 rfl (lv_at hl 3 rfl) ?_
            refine lv_iconst (v := 1) hx hb dX5_put_61 (by decide) ?_
            refine lv_icmp_ne (tgt := 71) hx hb dX5_put_62 (by decide) (fun c_9 => ?_) (fun c_9 => ?_)
            · refine lv_iload hx hb dX5_put_71 (lv_at hl 5 rfl) ?_
              exact hJ _ (by grind [nrw])
            · refine lv_iload hx hb dX5_put_65 (lv_at hl 5 rfl) ?_
              refine lv_i2s hx hb dX5_put_67 rfl ?_
              refine lv_goto (tgt := 73) hx hb dX5_put_68 (by decide) ?_
              exact hJ _ (by grind [nrw])
          · refine lv_iload hx hb dX5_put_54 (lv_at hl 5 rfl) ?_
            refine lv_i2b hx hb dX5_put_56 rfl ?_
            refine lv_goto (tgt := 73) hx hb dX5_put_57 (by decide) ?_
            exact hJ _ (by grind [nrw])
      · have hk0 := (not_congr lk_0).mp c_4
        rw [if_neg hk0] at hP hD
        refine lv_iload hx hb dX5_put_36 (lv_at hl 0 rfl) ?_
        exact W.iret (v := lk (fnd g (rn r0) f0 i0)) hx hb hr (fun t ht hW => ⟨⟨lk (fnd g (rn r0) f0 i0), (up2 g 100 6 (fnd g (rn r0) f0 i0), y, zz, j, f, v), rfl, (by exact ⟨(by rw [fPut, if_pos ⟨c_1, c_2⟩, if_neg hk0]; exact if_neg hk0), (by rw [gPut, if_pos ⟨c_1, c_2⟩, if_neg hk0]), RM_u (by omega) hM⟩), by rw [ht]; exact hP, hD⟩, hS.F ht⟩) hS.2.2 dX5_put_38
    · have c_2 := bI_0.mp c_2
      refine lv_bipush (v := (-2)) hx hb dX5_put_19 (by decide) ?_
      exact W.iret (v := (-2)) hx hb hr (fun t ht hW => ⟨⟨(-2), (g, y, zz, j, f, v), rfl, (by exact ⟨(by grind [fPut]), (by grind [gPut]), hM⟩), by rw [ht]; exact hP, hD⟩, hS.F ht⟩) hS.2.2 dX5_put_21
set_option maxHeartbeats 4000000 in
set_option maxRecDepth 100000 in
theorem kX5_get (l : Launch) (D : va_G) (cI cO : ClassId) (tt : Nat) (am : Nat → Nat) (g : Nat → Nat → Int32) (y : Nat → Int32) (zz : Nat → Int32) (j : Nat → Int64) (f : Nat → Int32) (v : Nat → Int32) (X : va_W) (sz : Nat) (r0 : Int32) (f0 : Int32) (i0 : Int32) (hI : WI g) (hM : RM g y zz) : MmI l yX5_get wsX5_get ({ frames := 2, cells := 0, slots := 0, locals := 48 }) D cI cO tt (MW am cI g y zz j f v X) sz [.ref (am 0), .int r0, .int f0, .int i0] (S := (Nat → Nat → Int32) × (Nat → Int32) × (Nat → Int32) × (Nat → Int64) × (Nat → Int32) × (Nat → Int32)) (fun u => MW am cI u.1 u.2.1 u.2.2.1 u.2.2.2.1 u.2.2.2.2.1 u.2.2.2.2.2 X) (fun z u => z = fGet g r0 f0 i0 ∧ u.1 = gGet g r0 f0 i0 ∧ RM u.1 u.2.1 u.2.2.1) := by
  refine Met.ofW (cc := cX5_get) (maxL := 4) (ret := (some .int)) (by decide) rfl ?_
  intro p e s m args below meth c s₁ B hml hv
  obtain ⟨rfl, hsz, hP, hK, hD0, hZ, hN⟩ := hv
  have hx := B.exec
  have hb := B.bytes
  have hr := B.returns
  have hts := atoms_spec (ws := wsX5_get) B.pre
  have hown : s.vm.findClass RX5 = some m.cls := findClass_of_methodNamed B.named
  have hlocks := B.notSynchronized
  subst hsz
  have hD := hD0.self (sz := s.heap.size)
  generalize hAe : va_A (MW am cI g y zz j f v X) s.heap.size = A at hD hZ ⊢
  have hA : ∀ q : Nat, s.heap.size ≤ q → A q := fun q h => by rw [← hAe]; exact Or.inr h
  have hS : va_S A s.heap s.heap [] := va_S.rf
  have hl := lv_entry ([.ref (am 0), .int r0, .int f0, .int i0]) (n := 4) (Nat.le_of_ble_eq_true rfl)
  rw [lg_entry_eq]
  generalize (lg_sl ([.ref (am 0), .int r0, .int f0, .int i0]) ++ List.replicate (4 - (lg_sl ([.ref (am 0), .int r0, .int f0, .int i0])).length) Slot.unset).toArray = ls at hl ⊢
  have hl : lv_has ls 4 [(0, .ref (am 0)), (1, .int r0), (2, .int f0), (3, .int i0)] := hl
  have hw0 := hts (.constant RX5 76 (-2147483648)) (List.mem_cons_of_mem _ (List.mem_append_left _ (List.mem_of_getElem? (i := 1) rfl)))
  have hw1 := hts (.constantLong RX5 66 (2)) (List.mem_cons_of_mem _ (List.mem_append_left _ (List.mem_of_getElem? (i := 0) rfl)))
  have hw2 := hts (.fieldLink RX5 22 "LayerSounderModel" "items" "[I") (List.mem_cons_of_mem _ (List.mem_append_left _ (List.mem_of_getElem? (i := 2) rfl)))
  have iX5 : ∀ w ∈ wsX50, w ∈ wsX5_get := fun _ h => List.mem_cons_of_mem _ (List.mem_append_right _ h)
  refine lv_iload_n hx hb dX5_get_0 rfl (lv_at hl 1 rfl) ?_
  refine pcI (va_runS (As := [.int r0]) (rest := []) ⟨hx, hb, hml, hown, hts⟩ (kX5_isReel l D cI cO tt (MW am cI g y zz j f v X) s.heap r0 ) (va_cwS 1 hts gX5_get_X5_isReel rfl rfl rfl (by decide +kernel) ⟨(Nat.le_of_ble_eq_true rfl), (Nat.le_of_ble_eq_true rfl)⟩) (pwS hK hZ hN hP hS) rfl rfl hl.1 rfl (lv_room (Nat.le_of_ble_eq_true rfl)) dX5_get_1 ⟨Nat.zero_le _, Nat.zero_le _⟩) hS (fun locs hS => ?_)
  refine lv_if_eq (tgt := 29) hx hb dX5_get_4 (by decide) (fun c_1 => ?_) (fun c_1 => ?_)
  · have c_1 := bI_0.mp c_1
    refine lv_ldc hx hb hown hw0 dX5_get_29 ?_
    exact W.iret (v := (-2147483648)) hx hb hr (fun t ht hW => ⟨⟨(-2147483648), (g, y, zz, j, f, v), rfl, (by exact ⟨(by grind [fGet]), (by grind [gGet]), hM⟩), by rw [ht]; exact hP, hD⟩, hS.F ht⟩) hS.2.2 dX5_get_31
  · have c_1 := bI_n0.mp c_1
    refine lv_iload_n hx hb dX5_get_7 rfl (lv_at hl 2 rfl) ?_
    refine lv_i2l hx hb dX5_get_8 rfl ?_
    refine lv_lconst (v := 0) hx hb dX5_get_9 (by decide) ?_
    refine lv_ldc2 hx hb hown hw1 dX5_get_10 ?_
    refine pcI (va_runS (As := [.long f0.toInt64, .long 0, .long 2]) (rest := []) ⟨hx, hb, hml, hown, hts⟩ (kX5_in l D cI cO tt (MW am cI g y zz j f v X) s.heap f0 (0 : Int32) (2 : Int32) f0.toInt64 0 2 rfl (by decide) (by decide)) (va_cwS 3 hts gX5_get_X5_in rfl rfl rfl (by decide +kernel) ⟨(Nat.le_of_ble_eq_true rfl), (Nat.le_of_ble_eq_true rfl)⟩) (pwS hK hZ hN hP hS) rfl rfl hl.1 rfl (lv_room (Nat.le_of_ble_eq_true rfl)) dX5_get_13 ⟨Nat.zero_le _, Nat.zero_le _⟩) hS (fun locs hS => ?_)
    refine lv_if_eq (tgt := 29) hx hb dX5_get_16 (by decide) (fun c_2 => ?_) (fun c_2 => ?_)
    · have c_2 := bI_0.mp c_2
      refine lv_ldc hx hb hown hw0 dX5_get_29 ?_
      exact W.iret (v := (-2147483648)) hx hb hr (fun t ht hW => ⟨⟨(-2147483648), (g, y, zz, j, f, v), rfl, (by exact ⟨(by grind [fGet]), (by grind [gGet]), hM⟩), by rw [ht]; exact hP, hD⟩, hS.F ht⟩) hS.2.2 dX5_get_31
    · have c_2 := bI_n0.mp c_2
      refine lv_aload_n hx hb dX5_get_19 rfl (lv_at hl 0 rfl) ?_
      refine lv_iload_n hx hb dX5_get_20 rfl (lv_at hl 1 rfl) ?_
      refine lv_iload_n hx hb dX5_get_21 rfl (lv_at hl 2 rfl) ?_
      refine lv_iload_n hx hb dX5_get_22 rfl (lv_at hl 3 rfl) ?_
      refine mcI (wf := fun u : Nat → Nat → Int32 => MW am cI u y zz j f v X) (va_runV (As := [.int r0, .int f0, .int i0]) (rest := []) ⟨hx, hb, hml, hown, hts⟩ (kX5_lacks l D cI cO tt am g y zz j f v X s.heap.size r0 f0 i0 hI hM c_1) (cwV 3 hts gX5_get_X5_lacks rfl rfl rfl (by decide +kernel) ⟨(Nat.le_of_ble_eq_true rfl), (Nat.le_of_ble_eq_true rfl)⟩) (mwV hK hZ hN hP hD hS hA (va_recv hK hP (ci := 5) (q0 := 0) rfl rfl)) rfl rfl hl.1 rfl (lv_room (Nat.le_of_ble_eq_true rfl)) dX5_get_23 ⟨Nat.zero_le _, Nat.zero_le _⟩) hD hS hA (fun ru_3 uu_3 H locs hu_3 hP hD hS => ?_)
      obtain ⟨eru_3, euu_3⟩ := hu_3
      have euu_3 : uu_3 = if fnd g (rn r0) f0 i0 = 0 then g else up2 g 100 6 (fnd g (rn r0) f0 i0) := euu_3
      subst eru_3
      subst euu_3
      have hP : va_P D vwCl (MW am cI (if fnd g (rn r0) f0 i0 = 0 then g else up2 g 100 6 (fnd g (rn r0) f0 i0)) y zz j f v X) H := hP
      have hD : va_D A (MW am cI (if fnd g (rn r0) f0 i0 = 0 then g else up2 g 100 6 (fnd g (rn r0) f0 i0)) y zz j f v X) := hD
      refine lv_if_eq (tgt := 32) hx hb dX5_get_26 (by decide) (fun c_4 => ?_) (fun c_4 => ?_)
      · have hk0 := lk_0.mp c_4
        rw [if_pos hk0] at hP hD
        have hi0 := fnd_in hk0
        have hi2 : i0 < 200 := Int32.lt_of_lt_of_le hi0.2 (hI.1 _ (rc c_1)).2
        refine lv_aload_n hx hb dX5_get_32 rfl (lv_at hl 0 rfl) ?_
        refine va_get (D := D) (ci := 5) (v := .ref (am 5)) (C := RX5) (T := TX5) (N := 31) hx hb hts iX5 hown hK hP 0 rfl rfl 4 (by decide) hw2 (fun _ h9 => h9) rfl dX5_get_33 ?_
        refine lv_sipush (v := 200) hx hb dX5_get_36 (by decide) ?_
        refine lv_iload_n hx hb dX5_get_39 rfl (lv_at hl 1 rfl) ?_
        refine lv_imul hx hb dX5_get_40 ?_
        refine lv_iload_n hx hb dX5_get_41 rfl (lv_at hl 3 rfl) ?_
        refine lv_iadd hx hb dX5_get_42 ?_
        refine va_iald hx hb hK hP 5 0 rfl rfl (rix2 c_1 hi0.1 hi2).1 dX5_get_43 ?_
        exact W.iret (v := y ((200 * r0) + i0).toNatClampNeg) hx hb hr (fun t ht hW => ⟨⟨y ((200 * r0) + i0).toNatClampNeg, (g, y, zz, j, f, v), rfl, (by exact ⟨(by rw [fGet, if_pos ⟨c_1, c_2, hk0⟩, (rix2 c_1 hi0.1 hi2).2.1]; exact (hM _ (rc c_1)).1 _ (rix2 c_1 hi0.1 hi2).2.2), (by rw [gGet, if_neg (fun q => q.2.2 hk0)]), hM⟩), by rw [ht]; exact hP, hD⟩, hS.F ht⟩) hS.2.2 dX5_get_44
      · have hk0 := (not_congr lk_0).mp c_4
        rw [if_neg hk0] at hP hD
        refine lv_ldc hx hb hown hw0 dX5_get_29 ?_
        exact W.iret (v := (-2147483648)) hx hb hr (fun t ht hW => ⟨⟨(-2147483648), (up2 g 100 6 (fnd g (rn r0) f0 i0), y, zz, j, f, v), rfl, (by exact ⟨(by rw [fGet, if_neg (fun q => hk0 q.2.2)]), (by rw [gGet, if_pos ⟨c_1, c_2, hk0⟩]), RM_u (by omega) hM⟩), by rw [ht]; exact hP, hD⟩, hS.F ht⟩) hS.2.2 dX5_get_31
set_option maxHeartbeats 4000000 in
set_option maxRecDepth 100000 in
theorem kX5_copy (l : Launch) (D : va_G) (cI cO : ClassId) (tt : Nat) (am : Nat → Nat) (g : Nat → Nat → Int32) (y : Nat → Int32) (zz : Nat → Int32) (j : Nat → Int64) (f : Nat → Int32) (v : Nat → Int32) (X : va_W) (sz : Nat) (r0 : Int32) (i0 : Int32) (q0 : Int32) (j0 : Int32) (n0 : Int32) (hI : WI g) (hM : RM g y zz) : MmI l yX5_copy wsX5_copy ({ frames := 2, cells := 0, slots := 0, locals := 45 }) D cI cO tt (MW am cI g y zz j f v X) sz [.ref (am 0), .int r0, .int i0, .int q0, .int j0, .int n0] (S := (Nat → Nat → Int32) × (Nat → Int32) × (Nat → Int32) × (Nat → Int64) × (Nat → Int32) × (Nat → Int32)) (fun u => MW am cI u.1 u.2.1 u.2.2.1 u.2.2.2.1 u.2.2.2.2.1 u.2.2.2.2.2 X) (fun z u => z = fCopy g r0 i0 q0 j0 n0 ∧ u.1 = gCopy g r0 i0 q0 j0 n0 ∧ RM u.1 u.2.1 u.2.2.1) := by
  refine Met.ofW (cc := cX5_copy) (maxL := 7) (ret := (some .int)) (by decide) rfl ?_
  intro p e s m args below meth c s₁ B hml hv
  obtain ⟨rfl, hsz, hP, hK, hD0, hZ, hN⟩ := hv
  have hx := B.exec
  have hb := B.bytes
  have hr := B.returns
  have hts := atoms_spec (ws := wsX5_copy) B.pre
  have hown : s.vm.findClass RX5 = some m.cls := findClass_of_methodNamed B.named
  have hlocks := B.notSynchronized
  subst hsz
  have hD := hD0.self (sz := s.heap.size)
  generalize hAe : va_A (MW am cI g y zz j f v X) s.heap.size = A at hD hZ ⊢
  have hA : ∀ q : Nat, s.heap.size ≤ q → A q := fun q h => by rw [← hAe]; exact Or.inr h
  have hS : va_S A s.heap s.heap [] := va_S.rf
  have hl := lv_entry ([.ref (am 0), .int r0, .int i0, .int q0, .int j0, .int n0]) (n := 7) (Nat.le_of_ble_eq_true rfl)
  rw [lg_entry_eq]
  generalize (lg_sl ([.ref (am 0), .int r0, .int i0, .int q0, .int j0, .int n0]) ++ List.replicate (7 - (lg_sl ([.ref (am 0), .int r0, .int i0, .int q0, .int j0, .int n0])).length) Slot.unset).toArray = ls at hl ⊢
  have hl : lv_has ls 7 [(0, .ref (am 0)), (1, .int r0), (2, .int i0), (3, .int q0), (4, .int j0), (5, .int n0)] := hl
  have hw0 := hts (.fieldLink RX5 16 "LayerSounderModel" "forms" "[I") (List.mem_cons_of_mem _ (List.mem_append_left _ (List.mem_of_getElem? (i := 0) rfl)))
  have iX5 : ∀ w ∈ wsX50, w ∈ wsX5_copy := fun _ h => List.mem_cons_of_mem _ (List.mem_append_right _ h)
  have hw2 := hts (.fieldLink RX5 19 "LayerSounderModel" "sizes" "[I") (List.mem_cons_of_mem _ (List.mem_append_left _ (List.mem_of_getElem? (i := 1) rfl)))
  have hw3 := hts (.fieldLink RX5 22 "LayerSounderModel" "items" "[I") (List.mem_cons_of_mem _ (List.mem_append_left _ (List.mem_of_getElem? (i := 3) rfl)))
  have hw4 := hts (.fieldLink RX5 25 "LayerSounderModel" "moved" "[I") (List.mem_cons_of_mem _ (List.mem_append_left _ (List.mem_of_getElem? (i := 2) rfl)))
  refine lv_iload_n hx hb dX5_copy_0 rfl (lv_at hl 1 rfl) ?_
  refine pcI (va_runS (As := [.int r0]) (rest := []) ⟨hx, hb, hml, hown, hts⟩ (kX5_isReel l D cI cO tt (MW am cI g y zz j f v X) s.heap r0 ) (va_cwS 1 hts gX5_copy_X5_isReel rfl rfl rfl (by decide +kernel) ⟨(Nat.le_of_ble_eq_true rfl), (Nat.le_of_ble_eq_true rfl)⟩) (pwS hK hZ hN hP hS) rfl rfl hl.1 rfl (lv_room (Nat.le_of_ble_eq_true rfl)) dX5_copy_1 ⟨Nat.zero_le _, Nat.zero_le _⟩) hS (fun locs hS => ?_)
  refine lv_if_eq (tgt := 14) hx hb dX5_copy_4 (by decide) (fun c_1 => ?_) (fun c_1 => ?_)
  · have c_1 := bI_0.mp c_1
    refine lv_bipush (v := (-2)) hx hb dX5_copy_14 (by decide) ?_
    exact W.iret (v := (-2)) hx hb hr (fun t ht hW => ⟨⟨(-2), (g, y, zz, j, f, v), rfl, (by exact ⟨(by grind [fCopy]), (by grind [gCopy]), hM⟩), by rw [ht]; exact hP, hD⟩, hS.F ht⟩) hS.2.2 dX5_copy_16
  · have c_1 := bI_n0.mp c_1
    refine lv_iload_n hx hb dX5_copy_7 rfl (lv_at hl 3 rfl) ?_
    refine pcI (va_runS (As := [.int q0]) (rest := []) ⟨hx, hb, hml, hown, hts⟩ (kX5_isReel l D cI cO tt (MW am cI g y zz j f v X) s.heap q0 ) (va_cwS 1 hts gX5_copy_X5_isReel rfl rfl rfl (by decide +kernel) ⟨(Nat.le_of_ble_eq_true rfl), (Nat.le_of_ble_eq_true rfl)⟩) (pwS hK hZ hN hP hS) rfl rfl hl.1 rfl (lv_room (Nat.le_of_ble_eq_true rfl)) dX5_copy_8 ⟨Nat.zero_le _, Nat.zero_le _⟩) hS (fun locs hS => ?_)
    refine lv_if_ne (tgt := 17) hx hb dX5_copy_11 (by decide) (fun c_2 => ?_) (fun c_2 => ?_)
    · have c_2 := bI_n0.mp c_2
      refine lv_aload_n hx hb dX5_copy_17 rfl (lv_at hl 0 rfl) ?_
      refine va_get (D := D) (ci := 5) (v := .ref (am 3)) (C := RX5) (T := TX5) (N := 31) hx hb hts iX5 hown hK hP 0 rfl rfl 2 (by decide) hw0 (fun _ h9 => h9) rfl dX5_copy_18 ?_
      refine lv_iload_n hx hb dX5_copy_21 rfl (lv_at hl 1 rfl) ?_
      refine va_iald hx hb hK hP 3 0 rfl rfl (rv c_1) dX5_copy_22 ?_
      refine lv_if_lt (tgt := 35) hx hb dX5_copy_23 (by decide) (fun c_3 => ?_) (fun c_3 => ?_)
      · refine lv_aload_n hx hb dX5_copy_35 rfl (lv_at hl 0 rfl) ?_
        refine lv_iconst (v := 1) hx hb dX5_copy_36 (by decide) ?_
        refine mcI (wf := fun u : Nat → Nat → Int32 => MW am cI u y zz j f v X) (va_runV (As := [.int 1]) (rest := []) ⟨hx, hb, hml, hown, hts⟩ (kX5_met l D cI cO tt am g y zz j f v X s.heap.size 1 ) (cwV 1 hts gX5_copy_X5_met rfl rfl rfl (by decide +kernel) ⟨(Nat.le_of_ble_eq_true rfl), (Nat.le_of_ble_eq_true rfl)⟩) (mwV hK hZ hN hP hD hS hA (va_recv hK hP (ci := 5) (q0 := 0) rfl rfl)) rfl rfl hl.1 rfl (lv_room (Nat.le_of_ble_eq_true rfl)) dX5_copy_37 ⟨Nat.zero_le _, Nat.zero_le _⟩) hD hS hA (fun ru_4 uu_4 H locs hu_4 hP hD hS => ?_)
        obtain ⟨eru_4, euu_4⟩ := hu_4
        have euu_4 : uu_4 = up2 g 100 6 1 := euu_4
        subst eru_4
        subst euu_4
        have hP : va_P D vwCl (MW am cI (up2 g 100 6 1) y zz j f v X) H := hP
        have hD : va_D A (MW am cI (up2 g 100 6 1) y zz j f v X) := hD
        exact W.iret (v := (-10) - 1) hx hb hr (fun t ht hW => ⟨⟨(-10) - 1, (up2 g 100 6 1, y, zz, j, f, v), rfl, (by have l1 := lost_i hI (rc c_1); have l2 := lost_i hI (rc c_2); have k0 : kCopy g r0 i0 q0 j0 n0 = 1 := (by grind [kCopy]); exact ⟨(by rw [fCopy, if_pos ⟨c_1, c_2⟩, k0]; decide), (by rw [gCopy, if_pos ⟨c_1, c_2⟩, k0]; rfl), RM_u (by omega) hM⟩), by rw [ht]; exact hP, hD⟩, hS.F ht⟩) hS.2.2 dX5_copy_40
      · refine lv_aload_n hx hb dX5_copy_26 rfl (lv_at hl 0 rfl) ?_
        refine va_get (D := D) (ci := 5) (v := .ref (am 3)) (C := RX5) (T := TX5) (N := 31) hx hb hts iX5 hown hK hP 0 rfl rfl 2 (by decide) hw0 (fun _ h9 => h9) rfl dX5_copy_27 ?_
        refine lv_iload_n hx hb dX5_copy_30 rfl (lv_at hl 3 rfl) ?_
        refine va_iald hx hb hK hP 3 0 rfl rfl (rv c_2) dX5_copy_31 ?_
        refine lv_if_ge (tgt := 41) hx hb dX5_copy_32 (by decide) (fun c_5 => ?_) (fun c_5 => ?_)
        · refine lv_aload_n hx hb dX5_copy_41 rfl (lv_at hl 0 rfl) ?_
          refine va_get (D := D) (ci := 5) (v := .ref (am 3)) (C := RX5) (T := TX5) (N := 31) hx hb hts iX5 hown hK hP 0 rfl rfl 2 (by decide) hw0 (fun _ h9 => h9) rfl dX5_copy_42 ?_
          refine lv_iload_n hx hb dX5_copy_45 rfl (lv_at hl 1 rfl) ?_
          refine va_iald hx hb hK hP 3 0 rfl rfl (rv c_1) dX5_copy_46 ?_
          refine lv_aload_n hx hb dX5_copy_47 rfl (lv_at hl 0 rfl) ?_
          refine va_get (D := D) (ci := 5) (v := .ref (am 3)) (C := RX5) (T := TX5) (N := 31) hx hb hts iX5 hown hK hP 0 rfl rfl 2 (by decide) hw0 (fun _ h9 => h9) rfl dX5_copy_48 ?_
          refine lv_iload_n hx hb dX5_copy_51 rfl (lv_at hl 3 rfl) ?_
          refine va_iald hx hb hK hP 3 0 rfl rfl (rv c_2) dX5_copy_52 ?_
          refine lv_icmp_eq (tgt := 62) hx hb dX5_copy_53 (by decide) (fun c_6 => ?_) (fun c_6 => ?_)
          · refine lv_iload_n hx hb dX5_copy_62 rfl (lv_at hl 2 rfl) ?_
            refine lv_if_lt (tgt := 111) hx hb dX5_copy_63 (by decide) (fun c_7 => ?_) (fun c_7 => ?_)
            · refine lv_aload_n hx hb dX5_copy_111 rfl (lv_at hl 0 rfl) ?_
              refine lv_iconst (v := 2) hx hb dX5_copy_112 (by decide) ?_
              refine mcI (wf := fun u : Nat → Nat → Int32 => MW am cI u y zz j f v X) (va_runV (As := [.int 2]) (rest := []) ⟨hx, hb, hml, hown, hts⟩ (kX5_met l D cI cO tt am g y zz j f v X s.heap.size 2 ) (cwV 1 hts gX5_copy_X5_met rfl rfl rfl (by decide +kernel) ⟨(Nat.le_of_ble_eq_true rfl), (Nat.le_of_ble_eq_true rfl)⟩) (mwV hK hZ hN hP hD hS hA (va_recv hK hP (ci := 5) (q0 := 0) rfl rfl)) rfl rfl hl.1 rfl (lv_room (Nat.le_of_ble_eq_true rfl)) dX5_copy_113 ⟨Nat.zero_le _, Nat.zero_le _⟩) hD hS hA (fun ru_8 uu_8 H locs hu_8 hP hD hS => ?_)
              obtain ⟨eru_8, euu_8⟩ := hu_8
              have euu_8 : uu_8 = up2 g 100 6 2 := euu_8
              subst eru_8
              subst euu_8
              have hP : va_P D vwCl (MW am cI (up2 g 100 6 2) y zz j f v X) H := hP
              have hD : va_D A (MW am cI (up2 g 100 6 2) y zz j f v X) := hD
              exact W.iret (v := (-10) - 2) hx hb hr (fun t ht hW => ⟨⟨(-10) - 2, (up2 g 100 6 2, y, zz, j, f, v), rfl, (by have l1 := lost_i hI (rc c_1); have l2 := lost_i hI (rc c_2); have zr1 := (hM _ (rc c_1)).2.1 c_3; have zr2 := (hM _ (rc c_2)).2.1 (Int32.not_lt.mpr c_5); have k0 : kCopy g r0 i0 q0 j0 n0 = 2 := (by grind [kCopy]); exact ⟨(by rw [fCopy, if_pos ⟨c_1, c_2⟩, k0]; decide), (by rw [gCopy, if_pos ⟨c_1, c_2⟩, k0]; rfl), RM_u (by omega) hM⟩), by rw [ht]; exact hP, hD⟩, hS.F ht⟩) hS.2.2 dX5_copy_116
            · refine lv_iload hx hb dX5_copy_66 (lv_at hl 4 rfl) ?_
              refine lv_if_lt (tgt := 111) hx hb dX5_copy_68 (by decide) (fun c_9 => ?_) (fun c_9 => ?_)
              · refine lv_aload_n hx hb dX5_copy_111 rfl (lv_at hl 0 rfl) ?_
                refine lv_iconst (v := 2) hx hb dX5_copy_112 (by decide) ?_
                refine mcI (wf := fun u : Nat → Nat → Int32 => MW am cI u y zz j f v X) (va_runV (As := [.int 2]) (rest := []) ⟨hx, hb, hml, hown, hts⟩ (kX5_met l D cI cO tt am g y zz j f v X s.heap.size 2 ) (cwV 1 hts gX5_copy_X5_met rfl rfl rfl (by decide +kernel) ⟨(Nat.le_of_ble_eq_true rfl), (Nat.le_of_ble_eq_true rfl)⟩) (mwV hK hZ hN hP hD hS hA (va_recv hK hP (ci := 5) (q0 := 0) rfl rfl)) rfl rfl hl.1 rfl (lv_room (Nat.le_of_ble_eq_true rfl)) dX5_copy_113 ⟨Nat.zero_le _, Nat.zero_le _⟩) hD hS hA (fun ru_10 uu_10 H locs hu_10 hP hD hS => ?_)
                obtain ⟨eru_10, euu_10⟩ := hu_10
                have euu_10 : uu_10 = up2 g 100 6 2 := euu_10
                subst eru_10
                subst euu_10
                have hP : va_P D vwCl (MW am cI (up2 g 100 6 2) y zz j f v X) H := hP
                have hD : va_D A (MW am cI (up2 g 100 6 2) y zz j f v X) := hD
                exact W.iret (v := (-10) - 2) hx hb hr (fun t ht hW => ⟨⟨(-10) - 2, (up2 g 100 6 2, y, zz, j, f, v), rfl, (by have l1 := lost_i hI (rc c_1); have l2 := lost_i hI (rc c_2); have zr1 := (hM _ (rc c_1)).2.1 c_3; have zr2 := (hM _ (rc c_2)).2.1 (Int32.not_lt.mpr c_5); have k0 : kCopy g r0 i0 q0 j0 n0 = 2 := (by grind [kCopy]); exact ⟨(by rw [fCopy, if_pos ⟨c_1, c_2⟩, k0]; decide), (by rw [gCopy, if_pos ⟨c_1, c_2⟩, k0]; rfl), RM_u (by omega) hM⟩), by rw [ht]; exact hP, hD⟩, hS.F ht⟩) hS.2.2 dX5_copy_116
              · refine lv_iload hx hb dX5_copy_71 (lv_at hl 5 rfl) ?_
                refine lv_if_lt (tgt := 111) hx hb dX5_copy_73 (by decide) (fun c_11 => ?_) (fun c_11 => ?_)
                · refine lv_aload_n hx hb dX5_copy_111 rfl (lv_at hl 0 rfl) ?_
                  refine lv_iconst (v := 2) hx hb dX5_copy_112 (by decide) ?_
                  refine mcI (wf := fun u : Nat → Nat → Int32 => MW am cI u y zz j f v X) (va_runV (As := [.int 2]) (rest := []) ⟨hx, hb, hml, hown, hts⟩ (kX5_met l D cI cO tt am g y zz j f v X s.heap.size 2 ) (cwV 1 hts gX5_copy_X5_met rfl rfl rfl (by decide +kernel) ⟨(Nat.le_of_ble_eq_true rfl), (Nat.le_of_ble_eq_true rfl)⟩) (mwV hK hZ hN hP hD hS hA (va_recv hK hP (ci := 5) (q0 := 0) rfl rfl)) rfl rfl hl.1 rfl (lv_room (Nat.le_of_ble_eq_true rfl)) dX5_copy_113 ⟨Nat.zero_le _, Nat.zero_le _⟩) hD hS hA (fun ru_12 uu_12 H locs hu_12 hP hD hS => ?_)
                  obtain ⟨eru_12, euu_12⟩ := hu_12
                  have euu_12 : uu_12 = up2 g 100 6 2 := euu_12
                  subst eru_12
                  subst euu_12
                  have hP : va_P D vwCl (MW am cI (up2 g 100 6 2) y zz j f v X) H := hP
                  have hD : va_D A (MW am cI (up2 g 100 6 2) y zz j f v X) := hD
                  exact W.iret (v := (-10) - 2) hx hb hr (fun t ht hW => ⟨⟨(-10) - 2, (up2 g 100 6 2, y, zz, j, f, v), rfl, (by have l1 := lost_i hI (rc c_1); have l2 := lost_i hI (rc c_2); have zr1 := (hM _ (rc c_1)).2.1 c_3; have zr2 := (hM _ (rc c_2)).2.1 (Int32.not_lt.mpr c_5); have k0 : kCopy g r0 i0 q0 j0 n0 = 2 := (by grind [kCopy]); exact ⟨(by rw [fCopy, if_pos ⟨c_1, c_2⟩, k0]; decide), (by rw [gCopy, if_pos ⟨c_1, c_2⟩, k0]; rfl), RM_u (by omega) hM⟩), by rw [ht]; exact hP, hD⟩, hS.F ht⟩) hS.2.2 dX5_copy_116
                · refine lv_iload_n hx hb dX5_copy_76 rfl (lv_at hl 2 rfl) ?_
                  refine lv_i2l hx hb dX5_copy_77 rfl ?_
                  refine lv_iload hx hb dX5_copy_78 (lv_at hl 5 rfl) ?_
                  refine lv_i2l hx hb dX5_copy_80 rfl ?_
                  refine lv_ladd hx hb dX5_copy_81 ?_
                  refine lv_aload_n hx hb dX5_copy_82 rfl (lv_at hl 0 rfl) ?_
                  refine va_get (D := D) (ci := 5) (v := .ref (am 4)) (C := RX5) (T := TX5) (N := 31) hx hb hts iX5 hown hK hP 0 rfl rfl 3 (by decide) hw2 (fun _ h9 => h9) rfl dX5_copy_83 ?_
                  refine lv_iload_n hx hb dX5_copy_86 rfl (lv_at hl 1 rfl) ?_
                  refine va_iald hx hb hK hP 4 0 rfl rfl (rv c_1) dX5_copy_87 ?_
                  refine lv_i2l hx hb dX5_copy_88 rfl ?_
                  refine W.lcmp hx hb dX5_copy_89 ?_
                  refine lv_if_gt (tgt := 111) hx hb dX5_copy_90 (by decide) (fun c_13 => ?_) (fun c_13 => ?_)
                  · have c_13 := (lg_cmp_gt _ _).mp c_13
                    refine lv_aload_n hx hb dX5_copy_111 rfl (lv_at hl 0 rfl) ?_
                    refine lv_iconst (v := 2) hx hb dX5_copy_112 (by decide) ?_
                    refine mcI (wf := fun u : Nat → Nat → Int32 => MW am cI u y zz j f v X) (va_runV (As := [.int 2]) (rest := []) ⟨hx, hb, hml, hown, hts⟩ (kX5_met l D cI cO tt am g y zz j f v X s.heap.size 2 ) (cwV 1 hts gX5_copy_X5_met rfl rfl rfl (by decide +kernel) ⟨(Nat.le_of_ble_eq_true rfl), (Nat.le_of_ble_eq_true rfl)⟩) (mwV hK hZ hN hP hD hS hA (va_recv hK hP (ci := 5) (q0 := 0) rfl rfl)) rfl rfl hl.1 rfl (lv_room (Nat.le_of_ble_eq_true rfl)) dX5_copy_113 ⟨Nat.zero_le _, Nat.zero_le _⟩) hD hS hA (fun ru_14 uu_14 H locs hu_14 hP hD hS => ?_)
                    obtain ⟨eru_14, euu_14⟩ := hu_14
                    have euu_14 : uu_14 = up2 g 100 6 2 := euu_14
                    subst eru_14
                    subst euu_14
                    have hP : va_P D vwCl (MW am cI (up2 g 100 6 2) y zz j f v X) H := hP
                    have hD : va_D A (MW am cI (up2 g 100 6 2) y zz j f v X) := hD
                    exact W.iret (v := (-10) - 2) hx hb hr (fun t ht hW => ⟨⟨(-10) - 2, (up2 g 100 6 2, y, zz, j, f, v), rfl, (by have l1 := lost_i hI (rc c_1); have l2 := lost_i hI (rc c_2); have zr1 := (hM _ (rc c_1)).2.1 c_3; have zr2 := (hM _ (rc c_2)).2.1 (Int32.not_lt.mpr c_5); have hi0 := Int32.not_lt.mp c_7; have hn0 := Int32.not_lt.mp c_11; have z := rnadd (n := n0) (i := i0) (hI.1 _ (rc c_1)).1 (hI.1 _ (rc c_1)).2 hi0 hn0; rw [← zr1] at z; have z9 := Int64.not_le.mpr c_13; rw [← z, zr1] at z9; have k0 : kCopy g r0 i0 q0 j0 n0 = 2 := (by grind [kCopy]); exact ⟨(by rw [fCopy, if_pos ⟨c_1, c_2⟩, k0]; decide), (by rw [gCopy, if_pos ⟨c_1, c_2⟩, k0]; rfl), RM_u (by omega) hM⟩), by rw [ht]; exact hP, hD⟩, hS.F ht⟩) hS.2.2 dX5_copy_116
                  · have c_13 := fun h => c_13 ((lg_cmp_gt _ _).mpr h)
                    refine lv_iload hx hb dX5_copy_93 (lv_at hl 4 rfl) ?_
                    refine lv_i2l hx hb dX5_copy_95 rfl ?_
                    refine lv_iload hx hb dX5_copy_96 (lv_at hl 5 rfl) ?_
                    refine lv_i2l hx hb dX5_copy_98 rfl ?_
                    refine lv_ladd hx hb dX5_copy_99 ?_
                    refine lv_aload_n hx hb dX5_copy_100 rfl (lv_at hl 0 rfl) ?_
                    refine va_get (D := D) (ci := 5) (v := .ref (am 4)) (C := RX5) (T := TX5) (N := 31) hx hb hts iX5 hown hK hP 0 rfl rfl 3 (by decide) hw2 (fun _ h9 => h9) rfl dX5_copy_101 ?_
                    refine lv_iload_n hx hb dX5_copy_104 rfl (lv_at hl 3 rfl) ?_
                    refine va_iald hx hb hK hP 4 0 rfl rfl (rv c_2) dX5_copy_105 ?_
                    refine lv_i2l hx hb dX5_copy_106 rfl ?_
                    refine W.lcmp hx hb dX5_copy_107 ?_
                    refine lv_if_le (tgt := 117) hx hb dX5_copy_108 (by decide) (fun c_15 => ?_) (fun c_15 => ?_)
                    · have c_15 := (lg_cmp_le _ _).mp c_15
                      have hr1 := rc c_1
                      have hr2 := rc c_2
                      have zr1 := (hM _ hr1).2.1 (Int32.not_lt.mpr (Int32.not_lt.mp c_3))
                      have zr2 := (hM _ hr2).2.1 (Int32.not_lt.mpr c_5)
                      have hi0 := Int32.not_lt.mp c_7
                      have hj0 := Int32.not_lt.mp c_9
                      have hn0 := Int32.not_lt.mp c_11
                      have run1 : hRun g (rn r0) i0 n0 := ⟨hi0, hn0, (rnadd (hI.1 _ hr1).1 (hI.1 _ hr1).2 hi0 hn0).mpr (by rw [← zr1]; exact Int64.not_lt.mp c_13)⟩
                      have run2 : hRun g (rn q0) j0 n0 := ⟨hj0, hn0, (rnadd (hI.1 _ hr2).1 (hI.1 _ hr2).2 hj0 hn0).mpr (by rw [← zr2]; exact c_15)⟩
                      have b1 := cp_in hI hr1 run1
                      have b2 := cp_in hI hr2 run2
                      refine lv_iconst (v := 0) hx hb dX5_copy_117 (by decide) ?_
                      refine lv_istore (lv' := [(6, .int 0), (0, .ref (am 0)), (1, .int r0), (2, .int i0), (3, .int q0), (4, .int j0), (5, .int n0)]) hx hb dX5_copy_118 hl (by decide) rfl (fun ls hl => ?_)
                      have hP : va_P D vwCl (MW am cI g y zz j f (mvS y v (200 * rn r0 + rn i0) 0) X) s.heap := by rw [mv_0]; exact hP
                      have hD : va_D A (MW am cI g y zz j f (mvS y v (200 * rn r0 + rn i0) 0) X) := by rw [mv_0]; exact hD
                      have hn2 : n0 ≤ 200 := n200 hn0 (by omega)
                      refine wloop (D := D) (A := A) (σ := Nat) (pc := 120) (nL := 7) (fun z_16 => [(6, .int (nI z_16)), (0, .ref (am 0)), (1, .int r0), (2, .int i0), (3, .int q0), (4, .int j0), (5, .int n0)]) (fun z_16 => MW am cI g y zz j f (mvS y v (200 * rn r0 + rn i0) z_16) X) (fun z_16 => z_16 ≤ rn n0) (fun z_16 => rn n0 - z_16) (fun z_16 hIz_16 ihz_16 H locs ls hP hD hS hl => ?_) 0 (Nat.zero_le _) _ _ _ hP hD hS (lv_sub hl [0, 1, 2, 3, 4, 5, 6] rfl)
                      obtain ⟨a, rfl⟩ : ∃ q, q = z_16 := ⟨_, rfl⟩
                      have hP : va_P D vwCl (MW am cI g y zz j f (mvS y v (200 * rn r0 + rn i0) a) X) H := hP
                      have hD : va_D A (MW am cI g y zz j f (mvS y v (200 * rn r0 + rn i0) a) X) := hD
                      have hl : lv_has ls 7 [(6, .int (nI a)), (0, .ref (am 0)), (1, .int r0), (2, .int i0), (3, .int q0), (4, .int j0), (5, .int n0)] := hl
                      have hIz_16 : a ≤ rn n0 := hIz_16
                      refine lv_iload hx hb dX5_copy_120 (lv_at hl 0 rfl) ?_
                      refine lv_iload hx hb dX5_copy_122 (lv_at hl 6 rfl) ?_
                      refine lv_icmp_ge (tgt := 155) hx hb dX5_copy_124 (by decide) (fun c_17 => ?_) (fun c_17 => ?_)
                      · refine lv_iconst (v := 0) hx hb dX5_copy_155 (by decide) ?_
                        refine lv_istore (lv' := [(6, .int 0), (0, .ref (am 0)), (1, .int r0), (2, .int i0), (3, .int q0), (4, .int j0), (5, .int n0)]) hx hb dX5_copy_156 hl (by decide) rfl (fun ls hl => ?_)
                        have ha9 := nlast hn0 hIz_16 c_17
                        rw [← ha9] at hP hD
                        have hP : va_P D vwCl (MW am cI g (va_cpy (mvS y v (200 * rn r0 + rn i0) (rn n0)) y 0 (200 * rn q0 + rn j0) 0) zz j f (mvS y v (200 * rn r0 + rn i0) (rn n0)) X) H := by rw [cp_0]; exact hP
                        have hD : va_D A (MW am cI g (va_cpy (mvS y v (200 * rn r0 + rn i0) (rn n0)) y 0 (200 * rn q0 + rn j0) 0) zz j f (mvS y v (200 * rn r0 + rn i0) (rn n0)) X) := by rw [cp_0]; exact hD
                        refine wloop (D := D) (A := A) (σ := Nat) (pc := 158) (nL := 7) (fun z_18 => [(6, .int (nI z_18)), (0, .ref (am 0)), (1, .int r0), (2, .int i0), (3, .int q0), (4, .int j0), (5, .int n0)]) (fun z_18 => MW am cI g (va_cpy (mvS y v (200 * rn r0 + rn i0) (rn n0)) y 0 (200 * rn q0 + rn j0) z_18) zz j f (mvS y v (200 * rn r0 + rn i0) (rn n0)) X) (fun z_18 => z_18 ≤ rn n0) (fun z_18 => rn n0 - z_18) (fun z_18 hIz_18 ihz_18 H locs ls hP hD hS hl => ?_) 0 (Nat.zero_le _) _ _ _ hP hD hS (lv_sub hl [0, 1, 2, 3, 4, 5, 6] rfl)
                        obtain ⟨e1, rfl⟩ : ∃ q, q = z_18 := ⟨_, rfl⟩
                        have hP : va_P D vwCl (MW am cI g (va_cpy (mvS y v (200 * rn r0 + rn i0) (rn n0)) y 0 (200 * rn q0 + rn j0) e1) zz j f (mvS y v (200 * rn r0 + rn i0) (rn n0)) X) H := hP
                        have hD : va_D A (MW am cI g (va_cpy (mvS y v (200 * rn r0 + rn i0) (rn n0)) y 0 (200 * rn q0 + rn j0) e1) zz j f (mvS y v (200 * rn r0 + rn i0) (rn n0)) X) := hD
                        have hl : lv_has ls 7 [(6, .int (nI e1)), (0, .ref (am 0)), (1, .int r0), (2, .int i0), (3, .int q0), (4, .int j0), (5, .int n0)] := hl
                        have hIz_18 : e1 ≤ rn n0 := hIz_18
                        refine lv_iload hx hb dX5_copy_158 (lv_at hl 0 rfl) ?_
                        refine lv_iload hx hb dX5_copy_160 (lv_at hl 6 rfl) ?_
                        refine lv_icmp_ge (tgt := 194) hx hb dX5_copy_162 (by decide) (fun c_19 => ?_) (fun c_19 => ?_)
                        · refine lv_iconst (v := 1) hx hb dX5_copy_194 (by decide) ?_
                          rw [← nlast hn0 hIz_18 c_19] at hP hD
                          have hP : va_P D vwCl (MW am cI (va_up g (10 + rn q0) (va_cpy (g (10 + rn r0)) (g (10 + rn q0)) (rn i0) (rn j0) (rn n0))) (va_cpy (mvS y v (200 * rn r0 + rn i0) (rn n0)) y 0 (200 * rn q0 + rn j0) (rn n0)) zz j f (mvS y v (200 * rn r0 + rn i0) (rn n0)) X) H := by rw [← MW_vup hr2 (va_cpy (g (10 + rn r0)) (g (10 + rn q0)) (rn i0) (rn j0) (rn n0))]; exact hP
                          have hD : va_D A (MW am cI (va_up g (10 + rn q0) (va_cpy (g (10 + rn r0)) (g (10 + rn q0)) (rn i0) (rn j0) (rn n0))) (va_cpy (mvS y v (200 * rn r0 + rn i0) (rn n0)) y 0 (200 * rn q0 + rn j0) (rn n0)) zz j f (mvS y v (200 * rn r0 + rn i0) (rn n0)) X) := by rw [← MW_vup hr2 (va_cpy (g (10 + rn r0)) (g (10 + rn q0)) (rn i0) (rn j0) (rn n0))]; exact hD
                          exact W.iret (v := 1) hx hb hr (fun t ht hW => ⟨⟨1, (va_up g (10 + rn q0) (va_cpy (g (10 + rn r0)) (g (10 + rn q0)) (rn i0) (rn j0) (rn n0)), va_cpy (mvS y v (200 * rn r0 + rn i0) (rn n0)) y 0 (200 * rn q0 + rn j0) (rn n0), zz, j, f, mvS y v (200 * rn r0 + rn i0) (rn n0)), rfl, (by have l1 := lost_i hI (rc c_1); have l2 := lost_i hI (rc c_2); have k0 : kCopy g r0 i0 q0 j0 n0 = 0 := (by grind [kCopy]); exact ⟨(by rw [fCopy, if_pos ⟨c_1, c_2⟩, if_pos k0]), (by rw [gCopy, if_pos ⟨c_1, c_2⟩, if_pos k0]), RM_copy hM hr1 hr2 b1 b2⟩), by rw [ht]; exact hP, hD⟩, hS.F ht⟩) hS.2.2 dX5_copy_195
                        · have hlt2 := nless hn0 hn2 hIz_18 c_19
                          refine lv_aload_n hx hb dX5_copy_165 rfl (lv_at hl 1 rfl) ?_
                          refine va_get (D := D) (ci := 5) (v := .ref (am 5)) (C := RX5) (T := TX5) (N := 31) hx hb hts iX5 hown hK hP 0 rfl rfl 4 (by decide) hw3 (fun _ h9 => h9) rfl dX5_copy_166 ?_
                          refine lv_sipush (v := 200) hx hb dX5_copy_169 (by decide) ?_
                          refine lv_iload_n hx hb dX5_copy_172 rfl (lv_at hl 4 rfl) ?_
                          refine lv_imul hx hb dX5_copy_173 ?_
                          refine lv_iload hx hb dX5_copy_174 (lv_at hl 5 rfl) ?_
                          refine lv_iadd hx hb dX5_copy_176 ?_
                          refine lv_iload hx hb dX5_copy_177 (lv_at hl 0 rfl) ?_
                          refine lv_iadd hx hb dX5_copy_179 ?_
                          refine lv_aload_n hx hb dX5_copy_180 rfl (lv_at hl 1 rfl) ?_
                          refine va_get (D := D) (ci := 5) (v := .ref (am 6)) (C := RX5) (T := TX5) (N := 31) hx hb hts iX5 hown hK hP 0 rfl rfl 5 (by decide) hw4 (fun _ h9 => h9) rfl dX5_copy_181 ?_
                          refine lv_iload hx hb dX5_copy_184 (lv_at hl 0 rfl) ?_
                          refine va_iald hx hb hK hP 6 0 rfl rfl (vp_in_nI (by omega) (by decide)) dX5_copy_186 ?_
                          refine tpI (y := mvS y v (200 * rn r0 + rn i0) (rn n0) e1) (by rw [nI_clamp (by omega)]) ?_
                          refine va_iast hx hb hK hP hD hS 5 0 rfl rfl (rix3 c_2 hj0 (a := e1) (by omega)).1 dX5_copy_187 (fun H locs hP hD hS => ?_)
                          have hP : va_P D vwCl (MW am cI g (upd (va_cpy (mvS y v (200 * rn r0 + rn i0) (rn n0)) y 0 (200 * rn q0 + rn j0) e1) ((((200 * q0) + j0) + (nI e1)).toNatClampNeg) (mvS y v (200 * rn r0 + rn i0) (rn n0) e1)) zz j f (mvS y v (200 * rn r0 + rn i0) (rn n0)) X) H := hP
                          have hD : va_D A (MW am cI g (upd (va_cpy (mvS y v (200 * rn r0 + rn i0) (rn n0)) y 0 (200 * rn q0 + rn j0) e1) ((((200 * q0) + j0) + (nI e1)).toNatClampNeg) (mvS y v (200 * rn r0 + rn i0) (rn n0) e1)) zz j f (mvS y v (200 * rn r0 + rn i0) (rn n0)) X) := hD
                          refine lv_iinc (v := nI (e1 + 1)) (lv' := [(6, .int (nI (e1 + 1))), (0, .ref (am 0)), (1, .int r0), (2, .int i0), (3, .int q0), (4, .int j0), (5, .int n0)]) hx hb dX5_copy_188 hl (k := 0) rfl (nI_1 _) (by decide) rfl (fun ls hl => ?_)
                          refine lv_goto (tgt := 158) hx hb dX5_copy_191 (by decide) ?_
                          rw [(rix3 c_2 hj0 (a := e1) (by omega)).2, cp_s] at hP hD
                          exact ihz_18 (e1 + 1) (show (e1 + 1) ≤ rn n0 from hlt2.1) (show rn n0 - (e1 + 1) < rn n0 - e1 from (by omega)) _ _ _ hP hD hS (lv_sub hl [0, 1, 2, 3, 4, 5, 6] rfl)
                      · have hlt := nless hn0 hn2 hIz_16 c_17
                        refine lv_aload_n hx hb dX5_copy_127 rfl (lv_at hl 1 rfl) ?_
                        refine va_get (D := D) (ci := 5) (v := .ref (am 6)) (C := RX5) (T := TX5) (N := 31) hx hb hts iX5 hown hK hP 0 rfl rfl 5 (by decide) hw4 (fun _ h9 => h9) rfl dX5_copy_128 ?_
                        refine lv_iload hx hb dX5_copy_131 (lv_at hl 0 rfl) ?_
                        refine lv_aload_n hx hb dX5_copy_133 rfl (lv_at hl 1 rfl) ?_
                        refine va_get (D := D) (ci := 5) (v := .ref (am 5)) (C := RX5) (T := TX5) (N := 31) hx hb hts iX5 hown hK hP 0 rfl rfl 4 (by decide) hw3 (fun _ h9 => h9) rfl dX5_copy_134 ?_
                        refine lv_sipush (v := 200) hx hb dX5_copy_137 (by decide) ?_
                        refine lv_iload_n hx hb dX5_copy_140 rfl (lv_at hl 2 rfl) ?_
                        refine lv_imul hx hb dX5_copy_141 ?_
                        refine lv_iload_n hx hb dX5_copy_142 rfl (lv_at hl 3 rfl) ?_
                        refine lv_iadd hx hb dX5_copy_143 ?_
                        refine lv_iload hx hb dX5_copy_144 (lv_at hl 0 rfl) ?_
                        refine lv_iadd hx hb dX5_copy_146 ?_
                        refine va_iald hx hb hK hP 5 0 rfl rfl (rix3 c_1 hi0 (a := a) (by omega)).1 dX5_copy_147 ?_
                        refine tpI (y := y (200 * rn r0 + rn i0 + a)) (by rw [(rix3 c_1 hi0 (a := a) (by omega)).2]) ?_
                        refine va_iast hx hb hK hP hD hS 6 0 rfl rfl (vp_in_nI (by omega) (by decide)) dX5_copy_148 (fun H locs hP hD hS => ?_)
                        have hP : va_P D vwCl (MW am cI g y zz j f (upd (mvS y v (200 * rn r0 + rn i0) a) ((nI a).toNatClampNeg) (y (200 * rn r0 + rn i0 + a))) X) H := hP
                        have hD : va_D A (MW am cI g y zz j f (upd (mvS y v (200 * rn r0 + rn i0) a) ((nI a).toNatClampNeg) (y (200 * rn r0 + rn i0 + a))) X) := hD
                        refine lv_iinc (v := nI (a + 1)) (lv' := [(6, .int (nI (a + 1))), (0, .ref (am 0)), (1, .int r0), (2, .int i0), (3, .int q0), (4, .int j0), (5, .int n0)]) hx hb dX5_copy_149 hl (k := 0) rfl (nI_1 _) (by decide) rfl (fun ls hl => ?_)
                        refine lv_goto (tgt := 120) hx hb dX5_copy_152 (by decide) ?_
                        rw [nI_clamp (by omega), mv_s] at hP hD
                        exact ihz_16 (a + 1) (show (a + 1) ≤ rn n0 from hlt.1) (show rn n0 - (a + 1) < rn n0 - a from (by omega)) _ _ _ hP hD hS (lv_sub hl [0, 1, 2, 3, 4, 5, 6] rfl)
                    · have c_15 := fun h => c_15 ((lg_cmp_le _ _).mpr h)
                      refine lv_aload_n hx hb dX5_copy_111 rfl (lv_at hl 0 rfl) ?_
                      refine lv_iconst (v := 2) hx hb dX5_copy_112 (by decide) ?_
                      refine mcI (wf := fun u : Nat → Nat → Int32 => MW am cI u y zz j f v X) (va_runV (As := [.int 2]) (rest := []) ⟨hx, hb, hml, hown, hts⟩ (kX5_met l D cI cO tt am g y zz j f v X s.heap.size 2 ) (cwV 1 hts gX5_copy_X5_met rfl rfl rfl (by decide +kernel) ⟨(Nat.le_of_ble_eq_true rfl), (Nat.le_of_ble_eq_true rfl)⟩) (mwV hK hZ hN hP hD hS hA (va_recv hK hP (ci := 5) (q0 := 0) rfl rfl)) rfl rfl hl.1 rfl (lv_room (Nat.le_of_ble_eq_true rfl)) dX5_copy_113 ⟨Nat.zero_le _, Nat.zero_le _⟩) hD hS hA (fun ru_20 uu_20 H locs hu_20 hP hD hS => ?_)
                      obtain ⟨eru_20, euu_20⟩ := hu_20
                      have euu_20 : uu_20 = up2 g 100 6 2 := euu_20
                      subst eru_20
                      subst euu_20
                      have hP : va_P D vwCl (MW am cI (up2 g 100 6 2) y zz j f v X) H := hP
                      have hD : va_D A (MW am cI (up2 g 100 6 2) y zz j f v X) := hD
                      exact W.iret (v := (-10) - 2) hx hb hr (fun t ht hW => ⟨⟨(-10) - 2, (up2 g 100 6 2, y, zz, j, f, v), rfl, (by have l1 := lost_i hI (rc c_1); have l2 := lost_i hI (rc c_2); have zr1 := (hM _ (rc c_1)).2.1 c_3; have zr2 := (hM _ (rc c_2)).2.1 (Int32.not_lt.mpr c_5); have hj0 := Int32.not_lt.mp c_9; have hn0 := Int32.not_lt.mp c_11; have z := rnadd (n := n0) (i := j0) (hI.1 _ (rc c_2)).1 (hI.1 _ (rc c_2)).2 hj0 hn0; rw [← zr2] at z; have z9 := c_15; rw [← z, zr2] at z9; have k0 : kCopy g r0 i0 q0 j0 n0 = 2 := (by grind [kCopy]); exact ⟨(by rw [fCopy, if_pos ⟨c_1, c_2⟩, k0]; decide), (by rw [gCopy, if_pos ⟨c_1, c_2⟩, k0]; rfl), RM_u (by omega) hM⟩), by rw [ht]; exact hP, hD⟩, hS.F ht⟩) hS.2.2 dX5_copy_116
          · refine lv_aload_n hx hb dX5_copy_56 rfl (lv_at hl 0 rfl) ?_
            refine lv_iconst (v := 4) hx hb dX5_copy_57 (by decide) ?_
            refine mcI (wf := fun u : Nat → Nat → Int32 => MW am cI u y zz j f v X) (va_runV (As := [.int 4]) (rest := []) ⟨hx, hb, hml, hown, hts⟩ (kX5_met l D cI cO tt am g y zz j f v X s.heap.size 4 ) (cwV 1 hts gX5_copy_X5_met rfl rfl rfl (by decide +kernel) ⟨(Nat.le_of_ble_eq_true rfl), (Nat.le_of_ble_eq_true rfl)⟩) (mwV hK hZ hN hP hD hS hA (va_recv hK hP (ci := 5) (q0 := 0) rfl rfl)) rfl rfl hl.1 rfl (lv_room (Nat.le_of_ble_eq_true rfl)) dX5_copy_58 ⟨Nat.zero_le _, Nat.zero_le _⟩) hD hS hA (fun ru_21 uu_21 H locs hu_21 hP hD hS => ?_)
            obtain ⟨eru_21, euu_21⟩ := hu_21
            have euu_21 : uu_21 = up2 g 100 6 4 := euu_21
            subst eru_21
            subst euu_21
            have hP : va_P D vwCl (MW am cI (up2 g 100 6 4) y zz j f v X) H := hP
            have hD : va_D A (MW am cI (up2 g 100 6 4) y zz j f v X) := hD
            exact W.iret (v := (-10) - 4) hx hb hr (fun t ht hW => ⟨⟨(-10) - 4, (up2 g 100 6 4, y, zz, j, f, v), rfl, (by have l1 := lost_i hI (rc c_1); have l2 := lost_i hI (rc c_2); have k0 : kCopy g r0 i0 q0 j0 n0 = 4 := (by grind [kCopy]); exact ⟨(by rw [fCopy, if_pos ⟨c_1, c_2⟩, k0]; decide), (by rw [gCopy, if_pos ⟨c_1, c_2⟩, k0]; rfl), RM_u (by omega) hM⟩), by rw [ht]; exact hP, hD⟩, hS.F ht⟩) hS.2.2 dX5_copy_61
        · refine lv_aload_n hx hb dX5_copy_35 rfl (lv_at hl 0 rfl) ?_
          refine lv_iconst (v := 1) hx hb dX5_copy_36 (by decide) ?_
          refine mcI (wf := fun u : Nat → Nat → Int32 => MW am cI u y zz j f v X) (va_runV (As := [.int 1]) (rest := []) ⟨hx, hb, hml, hown, hts⟩ (kX5_met l D cI cO tt am g y zz j f v X s.heap.size 1 ) (cwV 1 hts gX5_copy_X5_met rfl rfl rfl (by decide +kernel) ⟨(Nat.le_of_ble_eq_true rfl), (Nat.le_of_ble_eq_true rfl)⟩) (mwV hK hZ hN hP hD hS hA (va_recv hK hP (ci := 5) (q0 := 0) rfl rfl)) rfl rfl hl.1 rfl (lv_room (Nat.le_of_ble_eq_true rfl)) dX5_copy_37 ⟨Nat.zero_le _, Nat.zero_le _⟩) hD hS hA (fun ru_22 uu_22 H locs hu_22 hP hD hS => ?_)
          obtain ⟨eru_22, euu_22⟩ := hu_22
          have euu_22 : uu_22 = up2 g 100 6 1 := euu_22
          subst eru_22
          subst euu_22
          have hP : va_P D vwCl (MW am cI (up2 g 100 6 1) y zz j f v X) H := hP
          have hD : va_D A (MW am cI (up2 g 100 6 1) y zz j f v X) := hD
          exact W.iret (v := (-10) - 1) hx hb hr (fun t ht hW => ⟨⟨(-10) - 1, (up2 g 100 6 1, y, zz, j, f, v), rfl, (by have l1 := lost_i hI (rc c_1); have l2 := lost_i hI (rc c_2); have k0 : kCopy g r0 i0 q0 j0 n0 = 1 := (by grind [kCopy]); exact ⟨(by rw [fCopy, if_pos ⟨c_1, c_2⟩, k0]; decide), (by rw [gCopy, if_pos ⟨c_1, c_2⟩, k0]; rfl), RM_u (by omega) hM⟩), by rw [ht]; exact hP, hD⟩, hS.F ht⟩) hS.2.2 dX5_copy_40
    · have c_2 := bI_0.mp c_2
      refine lv_bipush (v := (-2)) hx hb dX5_copy_14 (by decide) ?_
      exact W.iret (v := (-2)) hx hb hr (fun t ht hW => ⟨⟨(-2), (g, y, zz, j, f, v), rfl, (by exact ⟨(by grind [fCopy]), (by grind [gCopy]), hM⟩), by rw [ht]; exact hP, hD⟩, hS.F ht⟩) hS.2.2 dX5_copy_16
