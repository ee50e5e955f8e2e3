set_option maxHeartbeats 4000000 in
set_option maxRecDepth 100000 in
theorem kX4_copy (l : Launch) (D : va_G) (cI cO : ClassId) (tt : Nat) (ad : Nat → Nat) (g : Nat → Nat → Int32) (b : Nat → Int32) (d : Nat → Nat → Int64) (X : va_W) (sz : Nat) (r0 : Int32) (i0 : Int32) (q0 : Int32) (j0 : Int32) (n0 : Int32) (hI : WI g) : MmI l yX4_copy wsX4_copy ({ frames := 1, cells := 0, slots := 0, locals := 60 }) D cI cO tt (LW ad cI cO g b d X) sz [.ref (ad 0), .int r0, .int i0, .int q0, .int j0, .int n0] (S := (Nat → Nat → Int32) × (Nat → Int32) × (Nat → Nat → Int64)) (fun u => LW ad cI cO u.1 u.2.1 u.2.2 X) (fun z u => z = fCopy g r0 i0 q0 j0 n0 ∧ u.1 = gCopy g r0 i0 q0 j0 n0) := by
  refine Met.ofW (cc := cX4_copy) (maxL := 8) (ret := (some .int)) (by decide) rfl ?_
  intro p e s m args below meth c s₁ B hml hv
  obtain ⟨rfl, hsz, hP, hK, hD0, hZ, hN⟩ := hv
  have hx := B.exec
  have hb := B.bytes
  have hr := B.returns
  have hts := atoms_spec (ws := wsX4_copy) B.pre
  have hown : s.vm.findClass RX4 = some m.cls := findClass_of_methodNamed B.named
  have hlocks := B.notSynchronized
  subst hsz
  have hD := hD0.self (sz := s.heap.size)
  generalize hAe : va_A (LW ad cI cO g b d X) s.heap.size = A at hD hZ ⊢
  have hA : ∀ q : Nat, s.heap.size ≤ q → A q := fun q h => by rw [← hAe]; exact Or.inr h
  have hS : va_S A s.heap s.heap [] := va_S.rf
  have hl := lv_entry ([.ref (ad 0), .int r0, .int i0, .int q0, .int j0, .int n0]) (n := 8) (Nat.le_of_ble_eq_true rfl)
  rw [lg_entry_eq]
  generalize (lg_sl ([.ref (ad 0), .int r0, .int i0, .int q0, .int j0, .int n0]) ++ List.replicate (8 - (lg_sl ([.ref (ad 0), .int r0, .int i0, .int q0, .int j0, .int n0])).length) Slot.unset).toArray = ls at hl ⊢
  have hl : lv_has ls 8 [(0, .ref (ad 0)), (1, .int r0), (2, .int i0), (3, .int q0), (4, .int j0), (5, .int n0)] := hl
  have hw0 := hts (.fieldLink RX4 11 "LayerSounder" "reels" "[LLayerSounder$Reel;") (List.mem_cons_of_mem _ (List.mem_append_left _ (List.mem_append_left _ (List.mem_append_left _ (List.mem_of_getElem? (l := wsX4_copy_r1) (i := 0) rfl)))))
  have iX4 : ∀ w ∈ wsX40, w ∈ wsX4_copy := fun _ h => List.mem_cons_of_mem _ (List.mem_append_left _ (List.mem_append_right _ h))
  have iX2 : ∀ w ∈ wsX20, w ∈ wsX4_copy := fun _ h => List.mem_cons_of_mem _ (List.mem_append_right _ h)
  have hw3 := hts (.methodLink RX4 114 arraycopyName) (List.mem_cons_of_mem _ (List.mem_append_left _ (List.mem_append_left _ (List.mem_append_left _ (List.mem_of_getElem? (l := wsX4_copy_r1) (i := 1) rfl)))))
  have hw4 := hts (.native arraycopyName) (List.mem_cons_of_mem _ (List.mem_append_left _ (List.mem_append_left _ (List.mem_append_left _ (List.mem_of_getElem? (l := wsX4_copy_r1) (i := 2) rfl)))))
  have hw5 := hts (.static arraycopyName) (List.mem_cons_of_mem _ (List.mem_append_left _ (List.mem_append_left _ (List.mem_append_left _ (List.mem_of_getElem? (l := wsX4_copy_r1) (i := 3) rfl)))))
  have hw6 := hts (.initialized "java/lang/System") (List.mem_cons_of_mem _ (List.mem_append_left _ (List.mem_append_left _ (List.mem_append_left _ (List.mem_of_getElem? (l := wsX4_copy_r1) (i := 4) rfl)))))
  refine lv_aload_n hx hb dX4_copy_0 rfl (lv_at hl 0 rfl) ?_
  refine lv_iload_n hx hb dX4_copy_1 rfl (lv_at hl 1 rfl) ?_
  refine pcI (va_runV (As := [.int r0]) (rest := []) ⟨hx, hb, hml, hown, hts⟩ (kX4_isReel l D cI cO tt ad g b d X s.heap r0 ) (cwV 1 hts gX4_copy_X4_isReel rfl rfl rfl (by decide +kernel) ⟨(Nat.le_of_ble_eq_true rfl), (Nat.le_of_ble_eq_true rfl)⟩) (pwV hK hZ hN hP hS (va_recv hK hP (ci := 4) (q0 := 0) rfl rfl)) rfl rfl hl.1 rfl (lv_room (Nat.le_of_ble_eq_true rfl)) dX4_copy_2 ⟨Nat.zero_le _, Nat.zero_le _⟩) hS (fun locs hS => ?_)
  refine lv_if_eq (tgt := 16) hx hb dX4_copy_5 (by decide) (fun c_1 => ?_) (fun c_1 => ?_)
  · have c_1 := bI_0.mp c_1
    refine lv_bipush (v := (-2)) hx hb dX4_copy_16 (by decide) ?_
    exact W.iret (v := (-2)) hx hb hr (fun t ht hW => ⟨⟨(-2), (g, b, d), rfl, (by constructor <;> grind [fCopy, gCopy, kCopy]), by rw [ht]; exact hP, hD⟩, hS.F ht⟩) hS.2.2 dX4_copy_18
  · have c_1 := bI_n0.mp c_1
    obtain ⟨R1, eR1⟩ : ∃ k : Nat, k = rn r0 := ⟨_, rfl⟩
    have hR1 : R1 < 8 := by rw [eR1]; exact rc c_1
    refine lv_aload_n hx hb dX4_copy_8 rfl (lv_at hl 0 rfl) ?_
    refine lv_iload_n hx hb dX4_copy_9 rfl (lv_at hl 3 rfl) ?_
    refine pcI (va_runV (As := [.int q0]) (rest := []) ⟨hx, hb, hml, hown, hts⟩ (kX4_isReel l D cI cO tt ad g b d X s.heap q0 ) (cwV 1 hts gX4_copy_X4_isReel rfl rfl rfl (by decide +kernel) ⟨(Nat.le_of_ble_eq_true rfl), (Nat.le_of_ble_eq_true rfl)⟩) (pwV hK hZ hN hP hS (va_recv hK hP (ci := 4) (q0 := 0) rfl rfl)) rfl rfl hl.1 rfl (lv_room (Nat.le_of_ble_eq_true rfl)) dX4_copy_10 ⟨Nat.zero_le _, Nat.zero_le _⟩) hS (fun locs hS => ?_)
    refine lv_if_ne (tgt := 19) hx hb dX4_copy_13 (by decide) (fun c_2 => ?_) (fun c_2 => ?_)
    · have c_2 := bI_n0.mp c_2
      obtain ⟨R2, eR2⟩ : ∃ k : Nat, k = rn q0 := ⟨_, rfl⟩
      have hR2 : R2 < 8 := by rw [eR2]; exact rc c_2
      refine lv_aload_n hx hb dX4_copy_19 rfl (lv_at hl 0 rfl) ?_
      refine va_get (D := D) (ci := 4) (v := .ref (ad 1)) (C := RX4) (T := TX4) (N := 14) hx hb hts iX4 hown hK hP 0 rfl rfl 0 (by decide) hw0 (fun _ h9 => h9) rfl dX4_copy_20 ?_
      refine lv_iload_n hx hb dX4_copy_23 rfl (lv_at hl 1 rfl) ?_
      refine va_aldq hx hb hK hP 1 1 rfl rfl (rv c_1) dX4_copy_24 ?_
      refine rfr (w := ad (12 + R1)) (by rw [eR1]) ?_
      refine lv_astore (lv' := [(6, .ref (ad (12 + R1))), (0, .ref (ad 0)), (1, .int r0), (2, .int i0), (3, .int q0), (4, .int j0), (5, .int n0)]) hx hb dX4_copy_25 hl (by decide) rfl (fun ls hl => ?_)
      refine lv_aload_n hx hb dX4_copy_27 rfl (lv_at hl 1 rfl) ?_
      refine va_get (D := D) (ci := 4) (v := .ref (ad 1)) (C := RX4) (T := TX4) (N := 14) hx hb hts iX4 hown hK hP 0 rfl rfl 0 (by decide) hw0 (fun _ h9 => h9) rfl dX4_copy_28 ?_
      refine lv_iload_n hx hb dX4_copy_31 rfl (lv_at hl 4 rfl) ?_
      refine va_aldq hx hb hK hP 1 1 rfl rfl (rv c_2) dX4_copy_32 ?_
      refine rfr (w := ad (12 + R2)) (by rw [eR2]) ?_
      refine lv_astore (lv' := [(7, .ref (ad (12 + R2))), (6, .ref (ad (12 + R1))), (0, .ref (ad 0)), (1, .int r0), (2, .int i0), (3, .int q0), (4, .int j0), (5, .int n0)]) hx hb dX4_copy_33 hl (by decide) rfl (fun ls hl => ?_)
      refine lv_aload hx hb dX4_copy_35 (lv_at hl 1 rfl) ?_
      refine pcI (va_runV (As := []) (rest := []) ⟨hx, hb, hml, hown, hts⟩ (kX2_isLost l D cI cO tt ad g b d X s.heap R1 hR1) (cwV 0 hts gX4_copy_X2_isLost rfl rfl rfl (by decide +kernel) ⟨(Nat.le_of_ble_eq_true rfl), (Nat.le_of_ble_eq_true rfl)⟩) (pwV hK hZ hN hP hS (va_recv hK hP (ci := 2) (q0 := (12 + R1)) rfl (LW_r hR1))) rfl rfl hl.1 rfl (lv_room (Nat.le_of_ble_eq_true rfl)) dX4_copy_37 ⟨Nat.zero_le _, Nat.zero_le _⟩) hS (fun locs hS => ?_)
      refine lv_if_ne (tgt := 51) hx hb dX4_copy_40 (by decide) (fun c_3 => ?_) (fun c_3 => ?_)
      · have c_3 := bI_n0.mp c_3
        refine lv_aload_n hx hb dX4_copy_51 rfl (lv_at hl 2 rfl) ?_
        refine lv_iconst (v := 1) hx hb dX4_copy_52 (by decide) ?_
        refine mcI (wf := fun u : Nat → Nat → Int32 => LW ad cI cO u b d X) (va_runV (As := [.int 1]) (rest := []) ⟨hx, hb, hml, hown, hts⟩ (kX4_found l D cI cO tt ad g b d X s.heap.size 1 ) (cwV 1 hts gX4_copy_X4_found rfl rfl rfl (by decide +kernel) ⟨(Nat.le_of_ble_eq_true rfl), (Nat.le_of_ble_eq_true rfl)⟩) (mwV hK hZ hN hP hD hS hA (va_recv hK hP (ci := 4) (q0 := 0) rfl rfl)) rfl rfl hl.1 rfl (lv_room (Nat.le_of_ble_eq_true rfl)) dX4_copy_53 ⟨Nat.zero_le _, Nat.zero_le _⟩) hD hS hA (fun ru_4 uu_4 H locs hu_4 hP hD hS => ?_)
        obtain ⟨eru_4, euu_4⟩ := hu_4
        have euu_4 : uu_4 = up2 g 100 6 1 := euu_4
        subst eru_4
        subst euu_4
        have hP : va_P D vwCl (LW ad cI cO (up2 g 100 6 1) b d X) H := hP
        have hD : va_D A (LW ad cI cO (up2 g 100 6 1) b d X) := hD
        exact W.iret (v := (-10) - 1) hx hb hr (fun t ht hW => ⟨⟨(-10) - 1, (up2 g 100 6 1, b, d), rfl, (by constructor <;> grind [fCopy, gCopy, kCopy]), by rw [ht]; exact hP, hD⟩, hS.F ht⟩) hS.2.2 dX4_copy_56
      · have c_3 := bI_0.mp c_3
        refine lv_aload hx hb dX4_copy_43 (lv_at hl 0 rfl) ?_
        refine pcI (va_runV (As := []) (rest := []) ⟨hx, hb, hml, hown, hts⟩ (kX2_isLost l D cI cO tt ad g b d X s.heap R2 hR2) (cwV 0 hts gX4_copy_X2_isLost rfl rfl rfl (by decide +kernel) ⟨(Nat.le_of_ble_eq_true rfl), (Nat.le_of_ble_eq_true rfl)⟩) (pwV hK hZ hN hP hS (va_recv hK hP (ci := 2) (q0 := (12 + R2)) rfl (LW_r hR2))) rfl rfl hl.1 rfl (lv_room (Nat.le_of_ble_eq_true rfl)) dX4_copy_45 ⟨Nat.zero_le _, Nat.zero_le _⟩) hS (fun locs hS => ?_)
        refine lv_if_eq (tgt := 57) hx hb dX4_copy_48 (by decide) (fun c_5 => ?_) (fun c_5 => ?_)
        · have c_5 := bI_0.mp c_5
          refine lv_aload hx hb dX4_copy_57 (lv_at hl 1 rfl) ?_
          refine va_getN (D := D) (ci := 2) (v := .int (g 4 R1)) (C := RX2) (T := TX2) (N := 3) hx hb hts iX2 hown hK hP (12 + R1) (LW_r hR1) rfl 1 (by decide) (va_Nw.use rfl (hN.1 (103, RX2, "form", "I") (List.mem_of_getElem? (i := 0) rfl))) (fun _ h9 => h9) rfl dX4_copy_59 ?_
          refine lv_aload hx hb dX4_copy_62 (lv_at hl 0 rfl) ?_
          refine va_getN (D := D) (ci := 2) (v := .int (g 4 R2)) (C := RX2) (T := TX2) (N := 3) hx hb hts iX2 hown hK hP (12 + R2) (LW_r hR2) rfl 1 (by decide) (va_Nw.use rfl (hN.1 (103, RX2, "form", "I") (List.mem_of_getElem? (i := 0) rfl))) (fun _ h9 => h9) rfl dX4_copy_64 ?_
          refine lv_icmp_eq (tgt := 76) hx hb dX4_copy_67 (by decide) (fun c_6 => ?_) (fun c_6 => ?_)
          · refine lv_aload hx hb dX4_copy_76 (lv_at hl 1 rfl) ?_
            refine lv_iload_n hx hb dX4_copy_78 rfl (lv_at hl 4 rfl) ?_
            refine lv_iload hx hb dX4_copy_79 (lv_at hl 7 rfl) ?_
            refine pcI (va_runV (As := [.int i0, .int n0]) (rest := []) ⟨hx, hb, hml, hown, hts⟩ (kX2_holdsRun l D cI cO tt ad g b d X s.heap R1 i0 n0 hR1) (cwV 2 hts gX4_copy_X2_holdsRun rfl rfl rfl (by decide +kernel) ⟨(Nat.le_of_ble_eq_true rfl), (Nat.le_of_ble_eq_true rfl)⟩) (pwV hK hZ hN hP hS (va_recv hK hP (ci := 2) (q0 := (12 + R1)) rfl (LW_r hR1))) rfl rfl hl.1 rfl (lv_room (Nat.le_of_ble_eq_true rfl)) dX4_copy_81 ⟨Nat.zero_le _, Nat.zero_le _⟩) hS (fun locs hS => ?_)
            refine lv_if_eq (tgt := 99) hx hb dX4_copy_84 (by decide) (fun c_7 => ?_) (fun c_7 => ?_)
            · have c_7 := bI_0.mp c_7
              refine lv_aload_n hx hb dX4_copy_99 rfl (lv_at hl 2 rfl) ?_
              refine lv_iconst (v := 2) hx hb dX4_copy_100 (by decide) ?_
              refine mcI (wf := fun u : Nat → Nat → Int32 => LW ad cI cO u b d X) (va_runV (As := [.int 2]) (rest := []) ⟨hx, hb, hml, hown, hts⟩ (kX4_found l D cI cO tt ad g b d X s.heap.size 2 ) (cwV 1 hts gX4_copy_X4_found rfl rfl rfl (by decide +kernel) ⟨(Nat.le_of_ble_eq_true rfl), (Nat.le_of_ble_eq_true rfl)⟩) (mwV hK hZ hN hP hD hS hA (va_recv hK hP (ci := 4) (q0 := 0) rfl rfl)) rfl rfl hl.1 rfl (lv_room (Nat.le_of_ble_eq_true rfl)) dX4_copy_101 ⟨Nat.zero_le _, Nat.zero_le _⟩) hD hS hA (fun ru_8 uu_8 H locs hu_8 hP hD hS => ?_)
              obtain ⟨eru_8, euu_8⟩ := hu_8
              have euu_8 : uu_8 = up2 g 100 6 2 := euu_8
              subst eru_8
              subst euu_8
              have hP : va_P D vwCl (LW ad cI cO (up2 g 100 6 2) b d X) H := hP
              have hD : va_D A (LW ad cI cO (up2 g 100 6 2) b d X) := hD
              exact W.iret (v := (-10) - 2) hx hb hr (fun t ht hW => ⟨⟨(-10) - 2, (up2 g 100 6 2, b, d), rfl, (by constructor <;> grind [fCopy, gCopy, kCopy]), by rw [ht]; exact hP, hD⟩, hS.F ht⟩) hS.2.2 dX4_copy_104
            · have c_7 := bI_n0.mp c_7
              refine lv_aload hx hb dX4_copy_87 (lv_at hl 0 rfl) ?_
              refine lv_iload hx hb dX4_copy_89 (lv_at hl 6 rfl) ?_
              refine lv_iload hx hb dX4_copy_91 (lv_at hl 7 rfl) ?_
              refine pcI (va_runV (As := [.int j0, .int n0]) (rest := []) ⟨hx, hb, hml, hown, hts⟩ (kX2_holdsRun l D cI cO tt ad g b d X s.heap R2 j0 n0 hR2) (cwV 2 hts gX4_copy_X2_holdsRun rfl rfl rfl (by decide +kernel) ⟨(Nat.le_of_ble_eq_true rfl), (Nat.le_of_ble_eq_true rfl)⟩) (pwV hK hZ hN hP hS (va_recv hK hP (ci := 2) (q0 := (12 + R2)) rfl (LW_r hR2))) rfl rfl hl.1 rfl (lv_room (Nat.le_of_ble_eq_true rfl)) dX4_copy_93 ⟨Nat.zero_le _, Nat.zero_le _⟩) hS (fun locs hS => ?_)
              refine lv_if_ne (tgt := 105) hx hb dX4_copy_96 (by decide) (fun c_9 => ?_) (fun c_9 => ?_)
              · have c_9 := bI_n0.mp c_9
                refine lv_aload hx hb dX4_copy_105 (lv_at hl 1 rfl) ?_
                refine va_getN (D := D) (ci := 2) (v := .ref (ad (20 + R1))) (C := RX2) (T := TX2) (N := 3) hx hb hts iX2 hown hK hP (12 + R1) (LW_r hR1) rfl 0 (by decide) (va_Nw.use rfl (hN.1 (110, RX2, "items", "[I") (List.mem_of_getElem? (i := 1) rfl))) (fun _ h9 => h9) rfl dX4_copy_107 ?_
                refine lv_iload_n hx hb dX4_copy_110 rfl (lv_at hl 4 rfl) ?_
                refine lv_aload hx hb dX4_copy_111 (lv_at hl 0 rfl) ?_
                refine va_getN (D := D) (ci := 2) (v := .ref (ad (20 + R2))) (C := RX2) (T := TX2) (N := 3) hx hb hts iX2 hown hK hP (12 + R2) (LW_r hR2) rfl 0 (by decide) (va_Nw.use rfl (hN.1 (110, RX2, "items", "[I") (List.mem_of_getElem? (i := 1) rfl))) (fun _ h9 => h9) rfl dX4_copy_113 ?_
                refine lv_iload hx hb dX4_copy_116 (lv_at hl 6 rfl) ?_
                refine lv_iload hx hb dX4_copy_118 (lv_at hl 7 rfl) ?_
                refine va_copyi hx hb (hml.trans hl.1.symm) hown hw3 hw4 hw5 hw6 hK hP hD hS (20 + R1) (20 + R2) 0 0 (LW_i hR1) (LW_i hR2) rfl rfl rfl (Int32.not_lt.mpr c_7.1) (Int32.not_lt.mpr c_9.1) (Int32.not_lt.mpr c_7.2.1) (cp_in hI hR1 c_7) (cp_in hI hR2 c_9) (fun _ _ => rfl) (Nat.le_of_ble_eq_true rfl) (Nat.le_of_ble_eq_true rfl) dX4_copy_120 (fun H locs hP hD hS => ?_)
                have hP : va_P D vwCl (LW ad cI cO (va_up g (10 + R2) (va_cpy (g (10 + R1)) (g (10 + R2)) i0.toNatClampNeg j0.toNatClampNeg n0.toNatClampNeg)) b d X) H := by
                  have h9 := hP
                  rw [← LW_ic hR2]
                  exact h9
                have hD : va_D A (LW ad cI cO (va_up g (10 + R2) (va_cpy (g (10 + R1)) (g (10 + R2)) i0.toNatClampNeg j0.toNatClampNeg n0.toNatClampNeg)) b d X) := by
                  have h9 := hD
                  rw [← LW_ic hR2]
                  exact h9
                refine lv_iconst (v := 1) hx hb dX4_copy_123 (by decide) ?_
                exact W.iret (v := 1) hx hb hr (fun t ht hW => ⟨⟨1, (va_up g (10 + R2) (va_cpy (g (10 + R1)) (g (10 + R2)) i0.toNatClampNeg j0.toNatClampNeg n0.toNatClampNeg), b, d), rfl, (by constructor <;> grind [fCopy, gCopy, kCopy]), by rw [ht]; exact hP, hD⟩, hS.F ht⟩) hS.2.2 dX4_copy_124
              · have c_9 := bI_0.mp c_9
                refine lv_aload_n hx hb dX4_copy_99 rfl (lv_at hl 2 rfl) ?_
                refine lv_iconst (v := 2) hx hb dX4_copy_100 (by decide) ?_
                refine mcI (wf := fun u : Nat → Nat → Int32 => LW ad cI cO u b d X) (va_runV (As := [.int 2]) (rest := []) ⟨hx, hb, hml, hown, hts⟩ (kX4_found l D cI cO tt ad g b d X s.heap.size 2 ) (cwV 1 hts gX4_copy_X4_found rfl rfl rfl (by decide +kernel) ⟨(Nat.le_of_ble_eq_true rfl), (Nat.le_of_ble_eq_true rfl)⟩) (mwV hK hZ hN hP hD hS hA (va_recv hK hP (ci := 4) (q0 := 0) rfl rfl)) rfl rfl hl.1 rfl (lv_room (Nat.le_of_ble_eq_true rfl)) dX4_copy_101 ⟨Nat.zero_le _, Nat.zero_le _⟩) hD hS hA (fun ru_10 uu_10 H locs hu_10 hP hD hS => ?_)
                obtain ⟨eru_10, euu_10⟩ := hu_10
                have euu_10 : uu_10 = up2 g 100 6 2 := euu_10
                subst eru_10
                subst euu_10
                have hP : va_P D vwCl (LW ad cI cO (up2 g 100 6 2) b d X) H := hP
                have hD : va_D A (LW ad cI cO (up2 g 100 6 2) b d X) := hD
                exact W.iret (v := (-10) - 2) hx hb hr (fun t ht hW => ⟨⟨(-10) - 2, (up2 g 100 6 2, b, d), rfl, (by constructor <;> grind [fCopy, gCopy, kCopy]), by rw [ht]; exact hP, hD⟩, hS.F ht⟩) hS.2.2 dX4_copy_104
          · refine lv_aload_n hx hb dX4_copy_70 rfl (lv_at hl 2 rfl) ?_
            refine lv_iconst (v := 4) hx hb dX4_copy_71 (by decide) ?_
            refine mcI (wf := fun u : Nat → Nat → Int32 => LW ad cI cO u b d X) (va_runV (As := [.int 4]) (rest := []) ⟨hx, hb, hml, hown, hts⟩ (kX4_found l D cI cO tt ad g b d X s.heap.size 4 ) (cwV 1 hts gX4_copy_X4_found rfl rfl rfl (by decide +kernel) ⟨(Nat.le_of_ble_eq_true rfl), (Nat.le_of_ble_eq_true rfl)⟩) (mwV hK hZ hN hP hD hS hA (va_recv hK hP (ci := 4) (q0 := 0) rfl rfl)) rfl rfl hl.1 rfl (lv_room (Nat.le_of_ble_eq_true rfl)) dX4_copy_72 ⟨Nat.zero_le _, Nat.zero_le _⟩) hD hS hA (fun ru_11 uu_11 H locs hu_11 hP hD hS => ?_)
            obtain ⟨eru_11, euu_11⟩ := hu_11
            have euu_11 : uu_11 = up2 g 100 6 4 := euu_11
            subst eru_11
            subst euu_11
            have hP : va_P D vwCl (LW ad cI cO (up2 g 100 6 4) b d X) H := hP
            have hD : va_D A (LW ad cI cO (up2 g 100 6 4) b d X) := hD
            exact W.iret (v := (-10) - 4) hx hb hr (fun t ht hW => ⟨⟨(-10) - 4, (up2 g 100 6 4, b, d), rfl, (by constructor <;> grind [fCopy, gCopy, kCopy]), by rw [ht]; exact hP, hD⟩, hS.F ht⟩) hS.2.2 dX4_copy_75
        · have c_5 := bI_n0.mp c_5
          refine lv_aload_n hx hb dX4_copy_51 rfl (lv_at hl 2 rfl) ?_
          refine lv_iconst (v := 1) hx hb dX4_copy_52 (by decide) ?_
          refine mcI (wf := fun u : Nat → Nat → Int32 => LW ad cI cO u b d X) (va_runV (As := [.int 1]) (rest := []) ⟨hx, hb, hml, hown, hts⟩ (kX4_found l D cI cO tt ad g b d X s.heap.size 1 ) (cwV 1 hts gX4_copy_X4_found rfl rfl rfl (by decide +kernel) ⟨(Nat.le_of_ble_eq_true rfl), (Nat.le_of_ble_eq_true rfl)⟩) (mwV hK hZ hN hP hD hS hA (va_recv hK hP (ci := 4) (q0 := 0) rfl rfl)) rfl rfl hl.1 rfl (lv_room (Nat.le_of_ble_eq_true rfl)) dX4_copy_53 ⟨Nat.zero_le _, Nat.zero_le _⟩) hD hS hA (fun ru_12 uu_12 H locs hu_12 hP hD hS => ?_)
          obtain ⟨eru_12, euu_12⟩ := hu_12
          have euu_12 : uu_12 = up2 g 100 6 1 := euu_12
          subst eru_12
          subst euu_12
          have hP : va_P D vwCl (LW ad cI cO (up2 g 100 6 1) b d X) H := hP
          have hD : va_D A (LW ad cI cO (up2 g 100 6 1) b d X) := hD
          exact W.iret (v := (-10) - 1) hx hb hr (fun t ht hW => ⟨⟨(-10) - 1, (up2 g 100 6 1, b, d), rfl, (by constructor <;> grind [fCopy, gCopy, kCopy]), by rw [ht]; exact hP, hD⟩, hS.F ht⟩) hS.2.2 dX4_copy_56
    · have c_2 := bI_0.mp c_2
      refine lv_bipush (v := (-2)) hx hb dX4_copy_16 (by decide) ?_
      exact W.iret (v := (-2)) hx hb hr (fun t ht hW => ⟨⟨(-2), (g, b, d), rfl, (by constructor <;> grind [fCopy, gCopy, kCopy]), by rw [ht]; exact hP, hD⟩, hS.F ht⟩) hS.2.2 dX4_copy_18
