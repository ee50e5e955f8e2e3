set_option maxHeartbeats 4000000 in
set_option maxRecDepth 100000 in
theorem kX4_fatesOfPing (l : Launch) (D : va_G) (cI cO : ClassId) (tt : Nat) (ad : Nat → Nat) (g : Nat → Nat → Int32) (b : Nat → Int32) (d : Nat → Nat → Int64) (X : va_W) (sz : Nat) (p0 : Int32) (w0 : Int32) (hI : WI g) : MmI l yX4_fatesOfPing wsX4_fatesOfPing ({ frames := 4, cells := 0, slots := 0, locals := 98 }) D cI cO tt (LW ad cI cO g b d X) sz [.ref (ad 0), .int p0, .int w0] (S := (Nat → Int32) × (Nat → Nat → Int64)) (fun u => LW ad cI cO g u.1 u.2 X) (fun z _ => z = fts g p0 w0 (rn (g 100 0))) := by
  refine Met.ofW (cc := cX4_fatesOfPing) (maxL := 6) (ret := (some .int)) (by decide) rfl ?_
  intro p e s m args below meth c s₁ B hml hv
  obtain ⟨rfl, hsz, hP, hK, hD0, hZ, hN⟩ := hv
  have hx := B.exec
  have hb := B.bytes
  have hr := B.returns
  have hts := atoms_spec (ws := wsX4_fatesOfPing) B.pre
  have hown : s.vm.findClass RX4 = some m.cls := findClass_of_methodNamed B.named
  have hlocks := B.notSynchronized
  subst hsz
  have hD := hD0.self (sz := s.heap.size)
  generalize hAe : va_A (LW ad cI cO g b d X) s.heap.size = A at hD hZ ⊢
  have hA : ∀ q : Nat, s.heap.size ≤ q → A q := fun q h => by rw [← hAe]; exact Or.inr h
  have hS : va_S A s.heap s.heap [] := va_S.rf
  have hl := lv_entry ([.ref (ad 0), .int p0, .int w0]) (n := 6) (Nat.le_of_ble_eq_true rfl)
  rw [lg_entry_eq]
  generalize (lg_sl ([.ref (ad 0), .int p0, .int w0]) ++ List.replicate (6 - (lg_sl ([.ref (ad 0), .int p0, .int w0])).length) Slot.unset).toArray = ls at hl ⊢
  have hl : lv_has ls 6 [(0, .ref (ad 0)), (1, .int p0), (2, .int w0)] := hl
  have hw0 := hts (.fieldLink RX4 45 "LayerSounder" "layers" "I") (List.mem_cons_of_mem _ (List.mem_append_left _ (List.mem_append_left _ (List.mem_append_left _ (List.mem_append_left _ (List.mem_append_left _ (List.mem_append_left _ (List.mem_of_getElem? (l := wsX4_fatesOfPing_r1) (i := 0) rfl))))))))
  have iX4 : ∀ w ∈ wsX40, w ∈ wsX4_fatesOfPing := fun _ h => List.mem_cons_of_mem _ (List.mem_append_left _ (List.mem_append_left _ (List.mem_append_left _ (List.mem_append_left _ (List.mem_append_right _ h)))))
  refine lv_aload_n hx hb dX4_fatesOfPing_0 rfl (lv_at hl 0 rfl) ?_
  refine lv_iload_n hx hb dX4_fatesOfPing_1 rfl (lv_at hl 1 rfl) ?_
  refine mcI (wf := fun u : (Nat → Int32) × (Nat → Nat → Int64) => LW ad cI cO g u.1 u.2 X) (va_runV (As := [.int p0]) (rest := []) ⟨hx, hb, hml, hown, hts⟩ (kX4_findOwn l D cI cO tt ad g b d X s.heap.size p0 hI) (cwV 1 hts gX4_fatesOfPing_X4_findOwn rfl rfl rfl (by decide +kernel) ⟨(Nat.le_of_ble_eq_true rfl), (Nat.le_of_ble_eq_true rfl)⟩) (mwV hK hZ hN hP hD hS hA (va_recv hK hP (ci := 4) (q0 := 0) rfl rfl)) rfl rfl hl.1 rfl (lv_room (Nat.le_of_ble_eq_true rfl)) dX4_fatesOfPing_2 ⟨Nat.zero_le _, Nat.zero_le _⟩) hD hS hA (fun ru_1 uu_1 H locs hu_1 hP hD hS => ?_)
  obtain ⟨bu_1, du_1⟩ := uu_1
  have hP : va_P D vwCl (LW ad cI cO g bu_1 du_1 X) H := hP
  have hD : va_D A (LW ad cI cO g bu_1 du_1 X) := hD
  have hu_1 : foP g p0 d ru_1 du_1 := hu_1
  obtain ⟨eru_1, hfu_1⟩ : ru_1 = bI (oOk g p0) ∧ foP g p0 d (bI (oOk g p0)) du_1 := ⟨hu_1.1, hu_1.1 ▸ hu_1⟩
  subst eru_1
  refine lv_istore_n (lv' := [(3, .int (bI (oOk g p0))), (0, .ref (ad 0)), (1, .int p0), (2, .int w0)]) hx hb dX4_fatesOfPing_5 rfl hl (by decide) rfl (fun ls hl => ?_)
  refine lv_iconst (v := 0) hx hb dX4_fatesOfPing_6 (by decide) ?_
  refine lv_istore (lv' := [(4, .int 0), (3, .int (bI (oOk g p0))), (0, .ref (ad 0)), (1, .int p0), (2, .int w0)]) hx hb dX4_fatesOfPing_7 hl (by decide) rfl (fun ls hl => ?_)
  refine lv_iconst (v := 0) hx hb dX4_fatesOfPing_9 (by decide) ?_
  refine lv_istore (lv' := [(5, .int 0), (4, .int 0), (3, .int (bI (oOk g p0))), (0, .ref (ad 0)), (1, .int p0), (2, .int w0)]) hx hb dX4_fatesOfPing_10 hl (by decide) rfl (fun ls hl => ?_)
  refine wloop (D := D) (A := A) (σ := Nat × (Nat → Int32)) (pc := 12) (nL := 6) (fun z_2 => [(5, .int (nI z_2.1)), (4, .int (fts g p0 w0 z_2.1)), (3, .int (bI (oOk g p0))), (0, .ref (ad 0)), (1, .int p0), (2, .int w0)]) (fun z_2 => LW ad cI cO g z_2.2 du_1 X) (fun z_2 => z_2.1 ≤ rn (g 100 0)) (fun z_2 => rn (g 100 0) - z_2.1) (fun z_2 hIz_2 ihz_2 H locs ls hP hD hS hl => ?_) (0, bu_1) (Nat.zero_le _) _ _ _ hP hD hS (lv_sub hl [0, 1, 2, 3, 4, 5] rfl)
  obtain ⟨i, b1⟩ := z_2
  have hP : va_P D vwCl (LW ad cI cO g b1 du_1 X) H := hP
  have hD : va_D A (LW ad cI cO g b1 du_1 X) := hD
  have hl : lv_has ls 6 [(5, .int (nI i)), (4, .int (fts g p0 w0 i)), (3, .int (bI (oOk g p0))), (0, .ref (ad 0)), (1, .int p0), (2, .int w0)] := hl
  have hIz_2 : i ≤ rn (g 100 0) := hIz_2
  refine lv_iload hx hb dX4_fatesOfPing_12 (lv_at hl 0 rfl) ?_
  refine lv_aload_n hx hb dX4_fatesOfPing_14 rfl (lv_at hl 3 rfl) ?_
  refine va_get (D := D) (ci := 4) (v := .int (g 100 0)) (C := RX4) (T := TX4) (N := 14) hx hb hts iX4 hown hK hP 0 rfl rfl 7 (by decide) hw0 (fun _ h9 => h9) rfl dX4_fatesOfPing_15 ?_
  refine lv_icmp_ge (tgt := 52) hx hb dX4_fatesOfPing_18 (by decide) (fun c_3 => ?_) (fun c_3 => ?_)
  · refine lv_iload hx hb dX4_fatesOfPing_52 (lv_at hl 1 rfl) ?_
    exact W.iret (v := fts g p0 w0 i) hx hb hr (fun t ht hW => ⟨⟨fts g p0 w0 i, (b1, du_1), rfl, (by show _ = _; rw [nlast (la0 hI) hIz_2 c_3]), by rw [ht]; exact hP, hD⟩, hS.F ht⟩) hS.2.2 dX4_fatesOfPing_54
  · have hlt := laN hI hIz_2 c_3
    refine lv_iload hx hb dX4_fatesOfPing_21 (lv_at hl 1 rfl) ?_
    refine lv_aload_n hx hb dX4_fatesOfPing_23 rfl (lv_at hl 3 rfl) ?_
    refine lv_iload_n hx hb dX4_fatesOfPing_24 rfl (lv_at hl 4 rfl) ?_
    refine lv_iload hx hb dX4_fatesOfPing_25 (lv_at hl 0 rfl) ?_
    refine lv_iload_n hx hb dX4_fatesOfPing_27 rfl (lv_at hl 2 rfl) ?_
    refine mcI (wf := fun u : Nat → Int32 => LW ad cI cO g u du_1 X) (va_runV (As := [.int p0, .int (nI i), .int (bI (oOk g p0))]) (rest := [.int (fts g p0 w0 i)]) ⟨hx, hb, hml, hown, hts⟩ (kX4_judge l D cI cO tt ad g b1 du_1 X H.size p0 (nI i) (bI (oOk g p0)) hI) (cwV 3 hts gX4_fatesOfPing_X4_judge rfl rfl rfl (by decide +kernel) ⟨(Nat.le_of_ble_eq_true rfl), (Nat.le_of_ble_eq_true rfl)⟩) (mwV hK hZ hN hP hD hS hA (va_recv hK hP (ci := 4) (q0 := 0) rfl rfl)) rfl rfl hl.1 rfl (lv_room (Nat.le_of_ble_eq_true rfl)) dX4_fatesOfPing_28 ⟨Nat.zero_le _, Nat.zero_le _⟩) hD hS hA (fun ru_4 uu_4 H locs hu_4 hP hD hS => ?_)
    have hP : va_P D vwCl (LW ad cI cO g uu_4 du_1 X) H := hP
    have hD : va_D A (LW ad cI cO g uu_4 du_1 X) := hD
    obtain ⟨eru_4, hju_4⟩ : ru_4 = fateV g p0 (nI i) (bI (oOk g p0)) ∧ jdP g p0 (nI i) (bI (oOk g p0)) (fateV g p0 (nI i) (bI (oOk g p0))) uu_4 := ⟨hu_4.1, hu_4.1 ▸ hu_4⟩
    subst eru_4
    refine lv_iload_n hx hb dX4_fatesOfPing_31 rfl (lv_at hl 5 rfl) ?_
    refine jnI (j := 40) (rest := [.int (fts g p0 w0 i)]) (fun z => z = bI (fateV g p0 (nI i) (bI (oOk g p0)) = w0)) (fun v_6 hv_6 => ?_) (fun hJ => ?_)
    · subst hv_6
      refine pcI (va_runS (As := [.int (bI (fateV g p0 (nI i) (bI (oOk g p0)) = w0))]) (rest := [.int (fts g p0 w0 i)]) ⟨hx, hb, hml, hown, hts⟩ (kX4_asNumber l D cI cO tt (LW ad cI cO g uu_4 du_1 X) H (bI (fateV g p0 (nI i) (bI (oOk g p0)) = w0)) ) (va_cwS 1 hts gX4_fatesOfPing_X4_asNumber rfl rfl rfl (by decide +kernel) ⟨(Nat.le_of_ble_eq_true rfl), (Nat.le_of_ble_eq_true rfl)⟩) (pwS hK hZ hN hP hS) rfl rfl hl.1 rfl (lv_room (Nat.le_of_ble_eq_true rfl)) dX4_fatesOfPing_40 ⟨Nat.zero_le _, Nat.zero_le _⟩) hS (fun locs hS => ?_)
      refine tpI bI_bI ?_
      refine lv_iadd hx hb dX4_fatesOfPing_43 ?_
      refine lv_istore (lv' := [(4, .int ((fts g p0 w0 i) + (bI (fateV g p0 (nI i) (bI (oOk g p0)) = w0)))), (5, .int (nI i)), (3, .int (bI (oOk g p0))), (0, .ref (ad 0)), (1, .int p0), (2, .int w0)]) hx hb dX4_fatesOfPing_44 hl (by decide) rfl (fun ls hl => ?_)
      refine lv_iinc (v := nI (i + 1)) (lv' := [(5, .int (nI (i + 1))), (4, .int ((fts g p0 w0 i) + (bI (fateV g p0 (nI i) (bI (oOk g p0)) = w0)))), (3, .int (bI (oOk g p0))), (0, .ref (ad 0)), (1, .int p0), (2, .int w0)]) hx hb dX4_fatesOfPing_46 hl (k := 1) rfl (nI_1 _) (by decide) rfl (fun ls hl => ?_)
      refine lv_goto (tgt := 12) hx hb dX4_fatesOfPing_49 (by decide) ?_
      exact ihz_2 (i + 1, uu_4) (show (i + 1) ≤ rn (g 100 0) from hlt.1) (show rn (g 100 0) - (i + 1) < rn (g 100 0) - i from (Nat.sub_lt_sub_left hlt.1 (Nat.lt_succ_self i))) _ _ _ hP hD hS (lv_sub hl [0, 1, 2, 3, 4, 5] rfl)
    · refine lv_icmp_ne (tgt := 39) hx hb dX4_fatesOfPing_32 (by decide) (fun c_7 => ?_) (fun c_7 => ?_)
      · refine lv_iconst (v := 0) hx hb dX4_fatesOfPing_39 (by decide) ?_
        exact hJ _ (by exact (bI_f c_7).symm)
      · refine lv_iconst (v := 1) hx hb dX4_fatesOfPing_35 (by decide) ?_
        refine lv_goto (tgt := 40) hx hb dX4_fatesOfPing_36 (by decide) ?_
        exact hJ _ (by exact (bI_t c_7).symm)
set_option maxHeartbeats 4000000 in
set_option maxRecDepth 100000 in
theorem kX4_fates (l : Launch) (D : va_G) (cI cO : ClassId) (tt : Nat) (ad : Nat → Nat) (g : Nat → Nat → Int32) (b : Nat → Int32) (d : Nat → Nat → Int64) (X : va_W) (sz : Nat) (w0 : Int32) (hI : WI g) : MmI l yX4_fates wsX4_fates ({ frames := 5, cells := 0, slots := 0, locals := 123 }) D cI cO tt (LW ad cI cO g b d X) sz [.ref (ad 0), .int w0] (S := (Nat → Nat → Int32) × (Nat → Int32) × (Nat → Nat → Int64)) (fun u => LW ad cI cO u.1 u.2.1 u.2.2 X) (fun z u => z = fFates g w0 ∧ u.1 = g) := by
  refine Met.ofW (cc := cX4_fates) (maxL := 4) (ret := (some .int)) (by decide) rfl ?_
  intro p e s m args below meth c s₁ B hml hv
  obtain ⟨rfl, hsz, hP, hK, hD0, hZ, hN⟩ := hv
  have hx := B.exec
  have hb := B.bytes
  have hr := B.returns
  have hts := atoms_spec (ws := wsX4_fates) B.pre
  have hown : s.vm.findClass RX4 = some m.cls := findClass_of_methodNamed B.named
  have hlocks := B.notSynchronized
  subst hsz
  have hD := hD0.self (sz := s.heap.size)
  generalize hAe : va_A (LW ad cI cO g b d X) s.heap.size = A at hD hZ ⊢
  have hA : ∀ q : Nat, s.heap.size ≤ q → A q := fun q h => by rw [← hAe]; exact Or.inr h
  have hS : va_S A s.heap s.heap [] := va_S.rf
  have hl := lv_entry ([.ref (ad 0), .int w0]) (n := 4) (Nat.le_of_ble_eq_true rfl)
  rw [lg_entry_eq]
  generalize (lg_sl ([.ref (ad 0), .int w0]) ++ List.replicate (4 - (lg_sl ([.ref (ad 0), .int w0])).length) Slot.unset).toArray = ls at hl ⊢
  have hl : lv_has ls 4 [(0, .ref (ad 0)), (1, .int w0)] := hl
  have hw0 := hts (.fieldLink RX4 18 "LayerSounder" "track" "LLayerSounder$Track;") (List.mem_cons_of_mem _ (List.mem_append_left _ (List.mem_append_left _ (List.mem_append_left _ (List.mem_append_left _ (List.mem_append_left _ (List.mem_append_left _ (List.mem_of_getElem? (l := wsX4_fates_r1) (i := 0) rfl))))))))
  have iX4 : ∀ w ∈ wsX40, w ∈ wsX4_fates := fun _ h => List.mem_cons_of_mem _ (List.mem_append_left _ (List.mem_append_left _ (List.mem_append_left _ (List.mem_append_left _ (List.mem_append_right _ h)))))
  have iX3 : ∀ w ∈ wsX30, w ∈ wsX4_fates := fun _ h => List.mem_cons_of_mem _ (List.mem_append_left _ (List.mem_append_left _ (List.mem_append_left _ (List.mem_append_right _ h))))
  refine lv_iload_n hx hb dX4_fates_0 rfl (lv_at hl 1 rfl) ?_
  refine lv_iconst (v := 0) hx hb dX4_fates_1 (by decide) ?_
  refine lv_bipush (v := 6) hx hb dX4_fates_2 (by decide) ?_
  refine pcI (va_runS (As := [.int w0, .int 0, .int 6]) (rest := []) ⟨hx, hb, hml, hown, hts⟩ (kX4_isWithin l D cI cO tt (LW ad cI cO g b d X) s.heap w0 0 6 ) (va_cwS 3 hts gX4_fates_X4_isWithin rfl rfl rfl (by decide +kernel) ⟨(Nat.le_of_ble_eq_true rfl), (Nat.le_of_ble_eq_true rfl)⟩) (pwS hK hZ hN hP hS) rfl rfl hl.1 rfl (lv_room (Nat.le_of_ble_eq_true rfl)) dX4_fates_4 ⟨Nat.zero_le _, Nat.zero_le _⟩) hS (fun locs hS => ?_)
  refine lv_if_ne (tgt := 13) hx hb dX4_fates_7 (by decide) (fun c_1 => ?_) (fun c_1 => ?_)
  · have c_1 := bI_n0.mp c_1
    refine lv_iconst (v := 0) hx hb dX4_fates_13 (by decide) ?_
    refine lv_istore_n (lv' := [(2, .int 0), (0, .ref (ad 0)), (1, .int w0)]) hx hb dX4_fates_14 rfl hl (by decide) rfl (fun ls hl => ?_)
    refine lv_iconst (v := 0) hx hb dX4_fates_15 (by decide) ?_
    refine lv_istore_n (lv' := [(3, .int 0), (2, .int 0), (0, .ref (ad 0)), (1, .int w0)]) hx hb dX4_fates_16 rfl hl (by decide) rfl (fun ls hl => ?_)
    refine wloop (D := D) (A := A) (σ := Nat × (Nat → Int32) × (Nat → Nat → Int64)) (pc := 17) (nL := 4) (fun z_2 => [(3, .int (nI z_2.1)), (2, .int (sI (fun q => fts g (nI q) w0 (rn (g 100 0))) z_2.1)), (0, .ref (ad 0)), (1, .int w0)]) (fun z_2 => LW ad cI cO g z_2.2.1 z_2.2.2 X) (fun z_2 => z_2.1 ≤ rn (g 100 7)) (fun z_2 => rn (g 100 7) - z_2.1) (fun z_2 hIz_2 ihz_2 H locs ls hP hD hS hl => ?_) (0, b, d) (Nat.zero_le _) _ _ _ hP hD hS (lv_sub hl [0, 1, 2, 3] rfl)
    obtain ⟨i, b1, d1⟩ := z_2
    have hP : va_P D vwCl (LW ad cI cO g b1 d1 X) H := hP
    have hD : va_D A (LW ad cI cO g b1 d1 X) := hD
    have hl : lv_has ls 4 [(3, .int (nI i)), (2, .int (sI (fun q => fts g (nI q) w0 (rn (g 100 0))) i)), (0, .ref (ad 0)), (1, .int w0)] := hl
    have hIz_2 : i ≤ rn (g 100 7) := hIz_2
    refine lv_iload_n hx hb dX4_fates_17 rfl (lv_at hl 0 rfl) ?_
    refine lv_aload_n hx hb dX4_fates_18 rfl (lv_at hl 2 rfl) ?_
    refine va_get (D := D) (ci := 4) (v := .ref (ad 2)) (C := RX4) (T := TX4) (N := 14) hx hb hts iX4 hown hK hP 0 rfl rfl 1 (by decide) hw0 (fun _ h9 => h9) rfl dX4_fates_19 ?_
    refine va_getN (D := D) (ci := 3) (v := .int (g 100 7)) (C := RX3) (T := TX3) (N := 5) hx hb hts iX3 hown hK hP 2 rfl rfl 4 (by decide) (va_Nw.use rfl (hN.1 (124, RX3, "number", "I") (List.mem_of_getElem? (i := 2) rfl))) (fun _ h9 => h9) rfl dX4_fates_22 ?_
    refine lv_icmp_ge (tgt := 43) hx hb dX4_fates_25 (by decide) (fun c_3 => ?_) (fun c_3 => ?_)
    · refine lv_iload_n hx hb dX4_fates_43 rfl (lv_at hl 1 rfl) ?_
      exact W.iret (v := sI (fun q => fts g (nI q) w0 (rn (g 100 0))) i) hx hb hr (fun t ht hW => ⟨⟨sI (fun q => fts g (nI q) w0 (rn (g 100 0))) i, (g, b1, d1), rfl, (by refine ⟨?_, rfl⟩; rw [fFates, if_pos c_1, nlast hI.2.1.1 hIz_2 c_3]), by rw [ht]; exact hP, hD⟩, hS.F ht⟩) hS.2.2 dX4_fates_44
    · have hlt := nuN hI hIz_2 c_3
      refine lv_iload_n hx hb dX4_fates_28 rfl (lv_at hl 1 rfl) ?_
      refine lv_aload_n hx hb dX4_fates_29 rfl (lv_at hl 2 rfl) ?_
      refine lv_iload_n hx hb dX4_fates_30 rfl (lv_at hl 0 rfl) ?_
      refine lv_iload_n hx hb dX4_fates_31 rfl (lv_at hl 3 rfl) ?_
      refine mcI (wf := fun u : (Nat → Int32) × (Nat → Nat → Int64) => LW ad cI cO g u.1 u.2 X) (va_runV (As := [.int (nI i), .int w0]) (rest := [.int (sI (fun q => fts g (nI q) w0 (rn (g 100 0))) i)]) ⟨hx, hb, hml, hown, hts⟩ (kX4_fatesOfPing l D cI cO tt ad g b1 d1 X H.size (nI i) w0 hI) (cwV 2 hts gX4_fates_X4_fatesOfPing rfl rfl rfl (by decide +kernel) ⟨(Nat.le_of_ble_eq_true rfl), (Nat.le_of_ble_eq_true rfl)⟩) (mwV hK hZ hN hP hD hS hA (va_recv hK hP (ci := 4) (q0 := 0) rfl rfl)) rfl rfl hl.1 rfl (lv_room (Nat.le_of_ble_eq_true rfl)) dX4_fates_32 ⟨Nat.zero_le _, Nat.zero_le _⟩) hD hS hA (fun ru_4 uu_4 H locs hu_4 hP hD hS => ?_)
      obtain ⟨bu_4, du_4⟩ := uu_4
      have eru_4 := hu_4
      have eru_4 : ru_4 = fts g (nI i) w0 (rn (g 100 0)) := eru_4
      subst eru_4
      have hP : va_P D vwCl (LW ad cI cO g bu_4 du_4 X) H := hP
      have hD : va_D A (LW ad cI cO g bu_4 du_4 X) := hD
      refine lv_iadd hx hb dX4_fates_35 ?_
      refine lv_istore_n (lv' := [(2, .int ((sI (fun q => fts g (nI q) w0 (rn (g 100 0))) i) + (fts g (nI i) w0 (rn (g 100 0))))), (3, .int (nI i)), (0, .ref (ad 0)), (1, .int w0)]) hx hb dX4_fates_36 rfl hl (by decide) rfl (fun ls hl => ?_)
      refine lv_iinc (v := nI (i + 1)) (lv' := [(3, .int (nI (i + 1))), (2, .int ((sI (fun q => fts g (nI q) w0 (rn (g 100 0))) i) + (fts g (nI i) w0 (rn (g 100 0))))), (0, .ref (ad 0)), (1, .int w0)]) hx hb dX4_fates_37 hl (k := 1) rfl (nI_1 _) (by decide) rfl (fun ls hl => ?_)
      refine lv_goto (tgt := 17) hx hb dX4_fates_40 (by decide) ?_
      exact ihz_2 (i + 1, bu_4, du_4) (show (i + 1) ≤ rn (g 100 7) from hlt.1) (show rn (g 100 7) - (i + 1) < rn (g 100 7) - i from (Nat.sub_lt_sub_left hlt.1 (Nat.lt_succ_self i))) _ _ _ hP hD hS (lv_sub hl [0, 1, 2, 3] rfl)
  · have c_1 := bI_0.mp c_1
    refine lv_bipush (v := (-2)) hx hb dX4_fates_10 (by decide) ?_
    exact W.iret (v := (-2)) hx hb hr (fun t ht hW => ⟨⟨(-2), (g, b, d), rfl, (by refine ⟨?_, rfl⟩; rw [fFates, if_neg c_1]), by rw [ht]; exact hP, hD⟩, hS.F ht⟩) hS.2.2 dX4_fates_12
set_option maxHeartbeats 4000000 in
set_option maxRecDepth 100000 in
theorem kX4_sumGood (l : Launch) (D : va_G) (cI cO : ClassId) (tt : Nat) (ad : Nat → Nat) (g : Nat → Nat → Int32) (b : Nat → Int32) (d : Nat → Nat → Int64) (X : va_W) (sz : Nat) (k : Nat) (p0 : Int32) (q0 : Int32) (c0 : Int32) (e0 : Int32) (P : Nat) (Q : Nat) (C : Nat) (E : Nat) (hI : WI g) (hk : k < 4) (hk3 : 2 ≤ k) (hp0 : p0 = nI P) (hq0 : q0 = nI Q) (hc0 : c0 = nI C) (he0 : e0 = nI E) (hb4 : P ≤ Q ∧ Q < 40 ∧ C ≤ E ∧ E < 16) : MmI l yX4_sumGood wsX4_sumGood ({ frames := 4, cells := 0, slots := 0, locals := 98 }) D cI cO tt (LW ad cI cO g b d X) sz [.ref (ad 0), .ref (ad (4 + k)), .int p0, .int q0, .int c0, .int e0] (S := (Nat → Int32) × (Nat → Nat → Int64)) (fun u => LW ad cI cO g u.1 u.2 X) (fun z u => sgP g d k P C (E + 1 - C) (Q + 1 - P) z u.2) := by
  refine Met.ofW (cc := cX4_sumGood) (maxL := 10) (ret := (some .int)) (by decide) rfl ?_
  intro p e s m args below meth c s₁ B hml hv
  obtain ⟨rfl, hsz, hP, hK, hD0, hZ, hN⟩ := hv
  have hx := B.exec
  have hb := B.bytes
  have hr := B.returns
  have hts := atoms_spec (ws := wsX4_sumGood) B.pre
  have hown : s.vm.findClass RX4 = some m.cls := findClass_of_methodNamed B.named
  have hlocks := B.notSynchronized
  subst hsz
  have hD := hD0.self (sz := s.heap.size)
  generalize hAe : va_A (LW ad cI cO g b d X) s.heap.size = A at hD hZ ⊢
  have hA : ∀ q : Nat, s.heap.size ≤ q → A q := fun q h => by rw [← hAe]; exact Or.inr h
  have hS : va_S A s.heap s.heap [] := va_S.rf
  have hl := lv_entry ([.ref (ad 0), .ref (ad (4 + k)), .int p0, .int q0, .int c0, .int e0]) (n := 10) (Nat.le_of_ble_eq_true rfl)
  rw [lg_entry_eq]
  generalize (lg_sl ([.ref (ad 0), .ref (ad (4 + k)), .int p0, .int q0, .int c0, .int e0]) ++ List.replicate (10 - (lg_sl ([.ref (ad 0), .ref (ad (4 + k)), .int p0, .int q0, .int c0, .int e0])).length) Slot.unset).toArray = ls at hl ⊢
  have hl : lv_has ls 10 [(0, .ref (ad 0)), (1, .ref (ad (4 + k))), (2, .int p0), (3, .int q0), (4, .int c0), (5, .int e0)] := hl
  have hw0 := hts (.fieldLink RX4 36 "LayerSounder" "paceDrift" "LLayerSounder$Drift;") (List.mem_cons_of_mem _ (List.mem_append_left _ (List.mem_append_left _ (List.mem_append_left _ (List.mem_append_left _ (List.mem_append_left _ (List.mem_append_left _ (List.mem_of_getElem? (l := wsX4_sumGood_r1) (i := 0) rfl))))))))
  have iX4 : ∀ w ∈ wsX40, w ∈ wsX4_sumGood := fun _ h => List.mem_cons_of_mem _ (List.mem_append_left _ (List.mem_append_left _ (List.mem_append_left _ (List.mem_append_left _ (List.mem_append_right _ h)))))
  refine lv_aload_n hx hb dX4_sumGood_0 rfl (lv_at hl 1 rfl) ?_
  refine mcV (wf := fun u : Nat → Nat → Int64 => LW ad cI cO g b u X) (va_runV (As := []) (rest := []) ⟨hx, hb, hml, hown, hts⟩ (kX1_rest l D cI cO tt ad g b d X s.heap.size k hk) (cwV 0 hts gX4_sumGood_X1_rest rfl rfl rfl (by decide +kernel) ⟨(Nat.le_of_ble_eq_true rfl), (Nat.le_of_ble_eq_true rfl)⟩) (mwV hK hZ hN hP hD hS hA (va_recv hK hP (ci := 1) (q0 := (4 + k)) rfl (LW_d hk))) rfl rfl hl.1 rfl (lv_room (Nat.le_of_ble_eq_true rfl)) dX4_sumGood_1 ⟨Nat.zero_le _, Nat.zero_le _⟩) hD hS hA (fun uu_1 H locs hu_1 hP hD hS => ?_)
  have hP : va_P D vwCl (LW ad cI cO g b uu_1 X) H := hP
  have hD : va_D A (LW ad cI cO g b uu_1 X) := hD
  refine lv_iconst (v := 0) hx hb dX4_sumGood_4 (by decide) ?_
  refine lv_istore (lv' := [(6, .int 0), (0, .ref (ad 0)), (1, .ref (ad (4 + k))), (2, .int p0), (3, .int q0), (4, .int c0), (5, .int e0)]) hx hb dX4_sumGood_5 hl (by decide) rfl (fun ls hl => ?_)
  refine lv_iload_n hx hb dX4_sumGood_7 rfl (lv_at hl 3 rfl) ?_
  refine tpI (y := nI P) (hp0) ?_
  refine lv_istore (lv' := [(7, .int (nI P)), (6, .int 0), (0, .ref (ad 0)), (1, .ref (ad (4 + k))), (2, .int p0), (3, .int q0), (4, .int c0), (5, .int e0)]) hx hb dX4_sumGood_8 hl (by decide) rfl (fun ls hl => ?_)
  refine wloop (D := D) (A := A) (σ := Nat × Int32 × (Nat → Int32) × (Nat → Nat → Int64)) (pc := 10) (nL := 10) (fun z_2 => [(7, .int (nI (P + z_2.1))), (6, .int z_2.2.1), (0, .ref (ad 0)), (1, .ref (ad (4 + k))), (2, .int p0), (3, .int q0), (4, .int c0), (5, .int e0)]) (fun z_2 => LW ad cI cO g z_2.2.2.1 z_2.2.2.2 X) (fun z_2 => z_2.1 ≤ Q + 1 - P ∧ sgP g d k P C (E + 1 - C) z_2.1 z_2.2.1 z_2.2.2.2) (fun z_2 => Q + 1 - P - z_2.1) (fun z_2 hIz_2 ihz_2 H locs ls hP hD hS hl => ?_) (0, 0, b, uu_1) (⟨Nat.zero_le _, sg_0 hu_1⟩) _ _ _ hP hD hS (lv_sub hl [0, 1, 2, 3, 4, 5, 6, 7] rfl)
  obtain ⟨i, mm, b1, d1⟩ := z_2
  have hP : va_P D vwCl (LW ad cI cO g b1 d1 X) H := hP
  have hD : va_D A (LW ad cI cO g b1 d1 X) := hD
  have hl : lv_has ls 10 [(7, .int (nI (P + i))), (6, .int mm), (0, .ref (ad 0)), (1, .ref (ad (4 + k))), (2, .int p0), (3, .int q0), (4, .int c0), (5, .int e0)] := hl
  have hIz_2 : i ≤ Q + 1 - P ∧ sgP g d k P C (E + 1 - C) i mm d1 := hIz_2
  refine lv_iload hx hb dX4_sumGood_10 (lv_at hl 0 rfl) ?_
  refine lv_iload_n hx hb dX4_sumGood_12 rfl (lv_at hl 5 rfl) ?_
  refine tpI (y := nI Q) (hq0) ?_
  refine lv_icmp_gt (tgt := 77) hx hb dX4_sumGood_13 (by decide) (fun c_3 => ?_) (fun c_3 => ?_)
  · refine lv_iload hx hb dX4_sumGood_77 (lv_at hl 1 rfl) ?_
    exact W.iret (v := mm) hx hb hr (fun t ht hW => ⟨⟨mm, (b1, d1), rfl, (by have z := (ngt (by omega) (by omega)).mp c_3; have z2 := hIz_2.1; have z3 : i = Q + 1 - P := (by omega); show sgP g d k P C (E + 1 - C) (Q + 1 - P) mm d1; rw [← z3]; exact hIz_2.2), by rw [ht]; exact hP, hD⟩, hS.F ht⟩) hS.2.2 dX4_sumGood_79
  · have hlt : P + i ≤ Q := Nat.not_lt.mp (fun q => c_3 ((ngt (by omega) (by omega)).mpr q))
    refine lv_aload_n hx hb dX4_sumGood_16 rfl (lv_at hl 2 rfl) ?_
    refine lv_iload hx hb dX4_sumGood_17 (lv_at hl 0 rfl) ?_
    refine mcI (wf := fun u : (Nat → Int32) × (Nat → Nat → Int64) => LW ad cI cO g u.1 u.2 X) (va_runV (As := [.int (nI (P + i))]) (rest := []) ⟨hx, hb, hml, hown, hts⟩ (kX4_findOwn l D cI cO tt ad g b1 d1 X H.size (nI (P + i)) hI) (cwV 1 hts gX4_sumGood_X4_findOwn rfl rfl rfl (by decide +kernel) ⟨(Nat.le_of_ble_eq_true rfl), (Nat.le_of_ble_eq_true rfl)⟩) (mwV hK hZ hN hP hD hS hA (va_recv hK hP (ci := 4) (q0 := 0) rfl rfl)) rfl rfl hl.1 rfl (lv_room (Nat.le_of_ble_eq_true rfl)) dX4_sumGood_19 ⟨Nat.zero_le _, Nat.zero_le _⟩) hD hS hA (fun ru_4 uu_4 H locs hu_4 hP hD hS => ?_)
    obtain ⟨bu_4, du_4⟩ := uu_4
    have hP : va_P D vwCl (LW ad cI cO g bu_4 du_4 X) H := hP
    have hD : va_D A (LW ad cI cO g bu_4 du_4 X) := hD
    have hu_4 : foP g (nI (P + i)) d1 ru_4 du_4 := hu_4
    obtain ⟨eru_4, hfu_4⟩ : ru_4 = bI (oOk g (nI (P + i))) ∧ foP g (nI (P + i)) d1 (bI (oOk g (nI (P + i)))) du_4 := ⟨hu_4.1, hu_4.1 ▸ hu_4⟩
    subst eru_4
    refine lv_istore (lv' := [(8, .int (bI (oOk g (nI (P + i))))), (7, .int (nI (P + i))), (6, .int mm), (0, .ref (ad 0)), (1, .ref (ad (4 + k))), (2, .int p0), (3, .int q0), (4, .int c0), (5, .int e0)]) hx hb dX4_sumGood_22 hl (by decide) rfl (fun ls hl => ?_)
    refine lv_iload hx hb dX4_sumGood_24 (lv_at hl 7 rfl) ?_
    refine tpI (y := nI C) (hc0) ?_
    refine lv_istore (lv' := [(9, .int (nI C)), (8, .int (bI (oOk g (nI (P + i))))), (7, .int (nI (P + i))), (6, .int mm), (0, .ref (ad 0)), (1, .ref (ad (4 + k))), (2, .int p0), (3, .int q0), (4, .int c0), (5, .int e0)]) hx hb dX4_sumGood_26 hl (by decide) rfl (fun ls hl => ?_)
    refine wloop (D := D) (A := A) (σ := Nat × Int32 × (Nat → Int32) × (Nat → Nat → Int64)) (pc := 28) (nL := 10) (fun z_5 => [(9, .int (nI (C + z_5.1))), (8, .int (bI (oOk g (nI (P + i))))), (7, .int (nI (P + i))), (6, .int z_5.2.1), (0, .ref (ad 0)), (1, .ref (ad (4 + k))), (2, .int p0), (3, .int q0), (4, .int c0), (5, .int e0)]) (fun z_5 => LW ad cI cO g z_5.2.2.1 z_5.2.2.2 X) (fun z_5 => z_5.1 ≤ E + 1 - C ∧ siP g d k P C (E + 1 - C) i z_5.1 z_5.2.1 z_5.2.2.2) (fun z_5 => E + 1 - C - z_5.1) (fun z_5 hIz_5 ihz_5 H locs ls hP hD hS hl => ?_) (0, mm, bu_4, du_4) (⟨Nat.zero_le _, si_0 hk3 hIz_2.2 hfu_4⟩) _ _ _ hP hD hS (lv_sub hl [0, 1, 2, 3, 4, 5, 6, 7, 8, 9] rfl)
    obtain ⟨y, m2, b2, d2⟩ := z_5
    have hP : va_P D vwCl (LW ad cI cO g b2 d2 X) H := hP
    have hD : va_D A (LW ad cI cO g b2 d2 X) := hD
    have hl : lv_has ls 10 [(9, .int (nI (C + y))), (8, .int (bI (oOk g (nI (P + i))))), (7, .int (nI (P + i))), (6, .int m2), (0, .ref (ad 0)), (1, .ref (ad (4 + k))), (2, .int p0), (3, .int q0), (4, .int c0), (5, .int e0)] := hl
    have hIz_5 : y ≤ E + 1 - C ∧ siP g d k P C (E + 1 - C) i y m2 d2 := hIz_5
    refine lv_iload hx hb dX4_sumGood_28 (lv_at hl 0 rfl) ?_
    refine lv_iload hx hb dX4_sumGood_30 (lv_at hl 9 rfl) ?_
    refine tpI (y := nI E) (he0) ?_
    refine lv_icmp_gt (tgt := 71) hx hb dX4_sumGood_32 (by decide) (fun c_6 => ?_) (fun c_6 => ?_)
    · have hy9 : y = E + 1 - C := by
        have z := (ngt (by omega) (by omega)).mp c_6
        have z2 := hIz_5.1
        omega
      refine lv_iinc (v := nI ((P + i) + 1)) (lv' := [(7, .int (nI ((P + i) + 1))), (9, .int (nI (C + y))), (8, .int (bI (oOk g (nI (P + i))))), (6, .int m2), (0, .ref (ad 0)), (1, .ref (ad (4 + k))), (2, .int p0), (3, .int q0), (4, .int c0), (5, .int e0)]) hx hb dX4_sumGood_71 hl (k := 2) rfl (nI_1 _) (by decide) rfl (fun ls hl => ?_)
      refine lv_goto (tgt := 10) hx hb dX4_sumGood_74 (by decide) ?_
      exact ihz_2 (i + 1, m2, b2, d2) (show (i + 1) ≤ Q + 1 - P ∧ sgP g d k P C (E + 1 - C) (i + 1) m2 d2 from ⟨by omega, sg_s2 hy9 hIz_5.2⟩) (show Q + 1 - P - (i + 1) < Q + 1 - P - i from (by omega)) _ _ _ hP hD hS (lv_sub hl [0, 3, 4, 5, 6, 7, 8, 9] rfl)
    · have hlt2 : C + y ≤ E := Nat.not_lt.mp (fun q => c_6 ((ngt (by omega) (by omega)).mpr q))
      refine lv_aload_n hx hb dX4_sumGood_35 rfl (lv_at hl 4 rfl) ?_
      refine lv_iload hx hb dX4_sumGood_36 (lv_at hl 2 rfl) ?_
      refine lv_iload hx hb dX4_sumGood_38 (lv_at hl 0 rfl) ?_
      refine lv_iload hx hb dX4_sumGood_40 (lv_at hl 1 rfl) ?_
      refine mcI (wf := fun u : Nat → Int32 => LW ad cI cO g u d2 X) (va_runV (As := [.int (nI (P + i)), .int (nI (C + y)), .int (bI (oOk g (nI (P + i))))]) (rest := []) ⟨hx, hb, hml, hown, hts⟩ (kX4_judge l D cI cO tt ad g b2 d2 X H.size (nI (P + i)) (nI (C + y)) (bI (oOk g (nI (P + i)))) hI) (cwV 3 hts gX4_sumGood_X4_judge rfl rfl rfl (by decide +kernel) ⟨(Nat.le_of_ble_eq_true rfl), (Nat.le_of_ble_eq_true rfl)⟩) (mwV hK hZ hN hP hD hS hA (va_recv hK hP (ci := 4) (q0 := 0) rfl rfl)) rfl rfl hl.1 rfl (lv_room (Nat.le_of_ble_eq_true rfl)) dX4_sumGood_42 ⟨Nat.zero_le _, Nat.zero_le _⟩) hD hS hA (fun ru_7 uu_7 H locs hu_7 hP hD hS => ?_)
      have hP : va_P D vwCl (LW ad cI cO g uu_7 d2 X) H := hP
      have hD : va_D A (LW ad cI cO g uu_7 d2 X) := hD
      obtain ⟨eru_7, hju_7⟩ : ru_7 = fateV g (nI (P + i)) (nI (C + y)) (bI (oOk g (nI (P + i)))) ∧ jdP g (nI (P + i)) (nI (C + y)) (bI (oOk g (nI (P + i)))) (fateV g (nI (P + i)) (nI (C + y)) (bI (oOk g (nI (P + i))))) uu_7 := ⟨hu_7.1, hu_7.1 ▸ hu_7⟩
      subst eru_7
      refine lv_if_ne (tgt := 65) hx hb dX4_sumGood_45 (by decide) (fun c_8 => ?_) (fun c_8 => ?_)
      · refine lv_iinc (v := nI ((C + y) + 1)) (lv' := [(9, .int (nI ((C + y) + 1))), (8, .int (bI (oOk g (nI (P + i))))), (7, .int (nI (P + i))), (6, .int m2), (0, .ref (ad 0)), (1, .ref (ad (4 + k))), (2, .int p0), (3, .int q0), (4, .int c0), (5, .int e0)]) hx hb dX4_sumGood_65 hl (k := 0) rfl (nI_1 _) (by decide) rfl (fun ls hl => ?_)
        refine lv_goto (tgt := 28) hx hb dX4_sumGood_68 (by decide) ?_
        exact ihz_5 (y + 1, m2, uu_7, d2) (show (y + 1) ≤ E + 1 - C ∧ siP g d k P C (E + 1 - C) i (y + 1) m2 d2 from ⟨by omega, si_no hIz_5.2 c_8⟩) (show E + 1 - C - (y + 1) < E + 1 - C - y from (by omega)) _ _ _ hP hD hS (lv_sub hl [0, 1, 2, 3, 4, 5, 6, 7, 8, 9] rfl)
      · refine lv_aload_n hx hb dX4_sumGood_48 rfl (lv_at hl 4 rfl) ?_
        refine lv_iload hx hb dX4_sumGood_49 (lv_at hl 2 rfl) ?_
        refine mcV (wf := fun u : Nat → Nat → Int64 => LW ad cI cO g uu_7 u X) (va_runV (As := [.int (nI (P + i))]) (rest := []) ⟨hx, hb, hml, hown, hts⟩ (kX4_findPace l D cI cO tt ad g uu_7 d2 X H.size (nI (P + i)) hI) (cwV 1 hts gX4_sumGood_X4_findPace rfl rfl rfl (by decide +kernel) ⟨(Nat.le_of_ble_eq_true rfl), (Nat.le_of_ble_eq_true rfl)⟩) (mwV hK hZ hN hP hD hS hA (va_recv hK hP (ci := 4) (q0 := 0) rfl rfl)) rfl rfl hl.1 rfl (lv_room (Nat.le_of_ble_eq_true rfl)) dX4_sumGood_51 ⟨Nat.zero_le _, Nat.zero_le _⟩) hD hS hA (fun uu_9 H locs hu_9 hP hD hS => ?_)
        have hP : va_P D vwCl (LW ad cI cO g uu_7 uu_9 X) H := hP
        have hD : va_D A (LW ad cI cO g uu_7 uu_9 X) := hD
        refine lv_aload_n hx hb dX4_sumGood_54 rfl (lv_at hl 5 rfl) ?_
        refine lv_aload_n hx hb dX4_sumGood_55 rfl (lv_at hl 4 rfl) ?_
        refine va_get (D := D) (ci := 4) (v := .ref (ad 5)) (C := RX4) (T := TX4) (N := 14) hx hb hts iX4 hown hK hP 0 rfl rfl 4 (by decide) hw0 (fun _ h9 => h9) rfl dX4_sumGood_56 ?_
        refine mcV (wf := fun u : Nat → Nat → Int64 => LW ad cI cO g uu_7 u X) (va_runV (As := [.ref (ad 5)]) (rest := []) ⟨hx, hb, hml, hown, hts⟩ (kX1_add l D cI cO tt ad g uu_7 uu_9 X H.size k 1 hk (by decide) (by omega)) (cwV 1 hts gX4_sumGood_X1_add rfl rfl rfl (by decide +kernel) ⟨(Nat.le_of_ble_eq_true rfl), (Nat.le_of_ble_eq_true rfl)⟩) (mwV hK hZ hN hP hD hS hA (va_recv hK hP (ci := 1) (q0 := (4 + k)) rfl (LW_d hk))) rfl rfl hl.1 rfl (lv_room (Nat.le_of_ble_eq_true rfl)) dX4_sumGood_59 ⟨Nat.zero_le _, Nat.zero_le _⟩) hD hS hA (fun uu_10 H locs hu_10 hP hD hS => ?_)
        have hP : va_P D vwCl (LW ad cI cO g uu_7 uu_10 X) H := hP
        have hD : va_D A (LW ad cI cO g uu_7 uu_10 X) := hD
        obtain ⟨x_11, ex_11⟩ : ∃ y : Int32, y = m2 + 1 := ⟨_, rfl⟩
        refine lv_iinc (v := x_11) (lv' := [(6, .int x_11), (9, .int (nI (C + y))), (8, .int (bI (oOk g (nI (P + i))))), (7, .int (nI (P + i))), (0, .ref (ad 0)), (1, .ref (ad (4 + k))), (2, .int p0), (3, .int q0), (4, .int c0), (5, .int e0)]) hx hb dX4_sumGood_62 hl (k := 3) rfl (by rw [ex_11]; rfl) (by decide) rfl (fun ls hl => ?_)
        refine lv_iinc (v := nI ((C + y) + 1)) (lv' := [(9, .int (nI ((C + y) + 1))), (6, .int x_11), (8, .int (bI (oOk g (nI (P + i))))), (7, .int (nI (P + i))), (0, .ref (ad 0)), (1, .ref (ad (4 + k))), (2, .int p0), (3, .int q0), (4, .int c0), (5, .int e0)]) hx hb dX4_sumGood_65 hl (k := 1) rfl (nI_1 _) (by decide) rfl (fun ls hl => ?_)
        refine lv_goto (tgt := 28) hx hb dX4_sumGood_68 (by decide) ?_
        exact ihz_5 (y + 1, x_11, uu_7, uu_10) (show (y + 1) ≤ E + 1 - C ∧ siP g d k P C (E + 1 - C) i (y + 1) x_11 uu_10 from ⟨by omega, si_yes hk3 hIz_5.2 c_8 hju_7 hu_9 hu_10 ex_11⟩) (show E + 1 - C - (y + 1) < E + 1 - C - y from (by omega)) _ _ _ hP hD hS (lv_sub hl [0, 2, 3, 1, 4, 5, 6, 7, 8, 9] rfl)
set_option maxHeartbeats 4000000 in
set_option maxRecDepth 100000 in
theorem kX4_box (l : Launch) (D : va_G) (cI cO : ClassId) (tt : Nat) (ad : Nat → Nat) (g : Nat → Nat → Int32) (b : Nat → Int32) (d : Nat → Nat → Int64) (X : va_W) (sz : Nat) (p0 : Int32) (q0 : Int32) (c0 : Int32) (e0 : Int32) (w0 : Int32) (hI : WI g) : MmL l yX4_box wsX4_box ({ frames := 5, cells := 0, slots := 0, locals := 127 }) D cI cO tt (LW ad cI cO g b d X) sz [.ref (ad 0), .int p0, .int q0, .int c0, .int e0, .int w0] (S := (Nat → Nat → Int32) × (Nat → Int32) × (Nat → Nat → Int64)) (fun u => LW ad cI cO u.1 u.2.1 u.2.2 X) (fun z u => z = fBox g p0 q0 c0 e0 w0 ∧ u.1 = g) := by
  refine Met.ofW (cc := cX4_box) (maxL := 7) (ret := (some .long)) (by decide) rfl ?_
  intro p e s m args below meth c s₁ B hml hv
  obtain ⟨rfl, hsz, hP, hK, hD0, hZ, hN⟩ := hv
  have hx := B.exec
  have hb := B.bytes
  have hr := B.returns
  have hts := atoms_spec (ws := wsX4_box) B.pre
  have hown : s.vm.findClass RX4 = some m.cls := findClass_of_methodNamed B.named
  have hlocks := B.notSynchronized
  subst hsz
  have hD := hD0.self (sz := s.heap.size)
  generalize hAe : va_A (LW ad cI cO g b d X) s.heap.size = A at hD hZ ⊢
  have hA : ∀ q : Nat, s.heap.size ≤ q → A q := fun q h => by rw [← hAe]; exact Or.inr h
  have hS : va_S A s.heap s.heap [] := va_S.rf
  have hl := lv_entry ([.ref (ad 0), .int p0, .int q0, .int c0, .int e0, .int w0]) (n := 7) (Nat.le_of_ble_eq_true rfl)
  rw [lg_entry_eq]
  generalize (lg_sl ([.ref (ad 0), .int p0, .int q0, .int c0, .int e0, .int w0]) ++ List.replicate (7 - (lg_sl ([.ref (ad 0), .int p0, .int q0, .int c0, .int e0, .int w0])).length) Slot.unset).toArray = ls at hl ⊢
  have hl : lv_has ls 7 [(0, .ref (ad 0)), (1, .int p0), (2, .int q0), (3, .int c0), (4, .int e0), (5, .int w0)] := hl
  have hw0 := hts (.fieldLink RX4 39 "LayerSounder" "firstSum" "LLayerSounder$Drift;") (List.mem_cons_of_mem _ (List.mem_append_left _ (List.mem_append_left _ (List.mem_append_left _ (List.mem_append_left _ (List.mem_append_left _ (List.mem_append_left _ (List.mem_of_getElem? (l := wsX4_box_r1) (i := 0) rfl))))))))
  have iX4 : ∀ w ∈ wsX40, w ∈ wsX4_box := fun _ h => List.mem_cons_of_mem _ (List.mem_append_left _ (List.mem_append_left _ (List.mem_append_left _ (List.mem_append_left _ (List.mem_append_right _ h)))))
  have hw2 := hts (.fieldLink RX4 52 "LayerSounder" "skewTurn" "I") (List.mem_cons_of_mem _ (List.mem_append_left _ (List.mem_append_left _ (List.mem_append_left _ (List.mem_append_left _ (List.mem_append_left _ (List.mem_append_left _ (List.mem_of_getElem? (l := wsX4_box_r1) (i := 1) rfl))))))))
  refine lv_aload_n hx hb dX4_box_0 rfl (lv_at hl 0 rfl) ?_
  refine lv_iload_n hx hb dX4_box_1 rfl (lv_at hl 1 rfl) ?_
  refine lv_iload_n hx hb dX4_box_2 rfl (lv_at hl 2 rfl) ?_
  refine lv_iload_n hx hb dX4_box_3 rfl (lv_at hl 3 rfl) ?_
  refine lv_iload hx hb dX4_box_4 (lv_at hl 4 rfl) ?_
  refine pcI (va_runV (As := [.int p0, .int q0, .int c0, .int e0]) (rest := []) ⟨hx, hb, hml, hown, hts⟩ (kX4_isBox l D cI cO tt ad g b d X s.heap p0 q0 c0 e0 ) (cwV 4 hts gX4_box_X4_isBox rfl rfl rfl (by decide +kernel) ⟨(Nat.le_of_ble_eq_true rfl), (Nat.le_of_ble_eq_true rfl)⟩) (pwV hK hZ hN hP hS (va_recv hK hP (ci := 4) (q0 := 0) rfl rfl)) rfl rfl hl.1 rfl (lv_room (Nat.le_of_ble_eq_true rfl)) dX4_box_6 ⟨Nat.zero_le _, Nat.zero_le _⟩) hS (fun locs hS => ?_)
  refine lv_if_eq (tgt := 22) hx hb dX4_box_9 (by decide) (fun c_1 => ?_) (fun c_1 => ?_)
  · have c_1 := bI_0.mp c_1
    refine lv_bipush (v := (-2)) hx hb dX4_box_22 (by decide) ?_
    refine pcL (va_runS (As := [.int (-2)]) (rest := []) ⟨hx, hb, hml, hown, hts⟩ (kX4_asLong l D cI cO tt (LW ad cI cO g b d X) s.heap (-2) ) (va_cwS 1 hts gX4_box_X4_asLong rfl rfl rfl (by decide +kernel) ⟨(Nat.le_of_ble_eq_true rfl), (Nat.le_of_ble_eq_true rfl)⟩) (pwS hK hZ hN hP hS) rfl rfl hl.1 rfl (lv_room (Nat.le_of_ble_eq_true rfl)) dX4_box_24 ⟨Nat.zero_le _, Nat.zero_le _⟩) hS (fun locs hS => ?_)
    exact W.lret (v := (-9223372036854775808) - ((-2) : Int32).toInt64) hx hb hr (fun t ht hW => ⟨⟨(-9223372036854775808) - ((-2) : Int32).toInt64, (g, b, d), rfl, (by refine ⟨?_, rfl⟩; grind [fBox]), by rw [ht]; exact hP, hD⟩, hS.F ht⟩) hS.2.2 dX4_box_27
  · have c_1 := bI_n0.mp c_1
    refine lv_iload hx hb dX4_box_12 (lv_at hl 5 rfl) ?_
    refine lv_iconst (v := 0) hx hb dX4_box_14 (by decide) ?_
    refine lv_iconst (v := 2) hx hb dX4_box_15 (by decide) ?_
    refine pcI (va_runS (As := [.int w0, .int 0, .int 2]) (rest := []) ⟨hx, hb, hml, hown, hts⟩ (kX4_isWithin l D cI cO tt (LW ad cI cO g b d X) s.heap w0 0 2 ) (va_cwS 3 hts gX4_box_X4_isWithin rfl rfl rfl (by decide +kernel) ⟨(Nat.le_of_ble_eq_true rfl), (Nat.le_of_ble_eq_true rfl)⟩) (pwS hK hZ hN hP hS) rfl rfl hl.1 rfl (lv_room (Nat.le_of_ble_eq_true rfl)) dX4_box_16 ⟨Nat.zero_le _, Nat.zero_le _⟩) hS (fun locs hS => ?_)
    refine lv_if_ne (tgt := 28) hx hb dX4_box_19 (by decide) (fun c_2 => ?_) (fun c_2 => ?_)
    · have c_2 := bI_n0.mp c_2
      refine lv_aload_n hx hb dX4_box_28 rfl (lv_at hl 0 rfl) ?_
      refine lv_aload_n hx hb dX4_box_29 rfl (lv_at hl 0 rfl) ?_
      refine va_get (D := D) (ci := 4) (v := .ref (ad 6)) (C := RX4) (T := TX4) (N := 14) hx hb hts iX4 hown hK hP 0 rfl rfl 5 (by decide) hw0 (fun _ h9 => h9) rfl dX4_box_30 ?_
      refine lv_iload_n hx hb dX4_box_33 rfl (lv_at hl 1 rfl) ?_
      refine lv_iload_n hx hb dX4_box_34 rfl (lv_at hl 2 rfl) ?_
      refine lv_iload_n hx hb dX4_box_35 rfl (lv_at hl 3 rfl) ?_
      refine lv_iload hx hb dX4_box_36 (lv_at hl 4 rfl) ?_
      refine mcI (wf := fun u : (Nat → Int32) × (Nat → Nat → Int64) => LW ad cI cO g u.1 u.2 X) (va_runV (As := [.ref (ad 6), .int p0, .int q0, .int c0, .int e0]) (rest := []) ⟨hx, hb, hml, hown, hts⟩ (kX4_sumGood l D cI cO tt ad g b d X s.heap.size 2 p0 q0 c0 e0 (rn p0) (rn q0) (rn c0) (rn e0) hI (by decide) (by decide) ((p40 hI c_1.1.1).2.1) ((p40 hI c_1.1.2.1).2.1) ((c16 hI c_1.2.1).2.1) ((c16 hI c_1.2.2.1).2.1) (⟨rn_le c_1.1.1.1 c_1.1.2.2, (p40 hI c_1.1.2.1).1, rn_le c_1.2.1.1 c_1.2.2.2, (c16 hI c_1.2.2.1).1⟩)) (cwV 5 hts gX4_box_X4_sumGood rfl rfl rfl (by decide +kernel) ⟨(Nat.le_of_ble_eq_true rfl), (Nat.le_of_ble_eq_true rfl)⟩) (mwV hK hZ hN hP hD hS hA (va_recv hK hP (ci := 4) (q0 := 0) rfl rfl)) rfl rfl hl.1 rfl (lv_room (Nat.le_of_ble_eq_true rfl)) dX4_box_38 ⟨Nat.zero_le _, Nat.zero_le _⟩) hD hS hA (fun ru_3 uu_3 H locs hu_3 hP hD hS => ?_)
      obtain ⟨bu_3, du_3⟩ := uu_3
      have hu_3 : sgP g d 2 (rn p0) (rn c0) ((rn e0) + 1 - (rn c0)) ((rn q0) + 1 - (rn p0)) ru_3 du_3 := hu_3
      obtain ⟨eru_3, hsu_3⟩ : ru_3 = bxN g (rn p0) (rn c0) ((rn q0) + 1 - (rn p0)) ((rn e0) + 1 - (rn c0)) ∧ True := ⟨hu_3.1, trivial⟩
      subst eru_3
      have hP : va_P D vwCl (LW ad cI cO g bu_3 du_3 X) H := hP
      have hD : va_D A (LW ad cI cO g bu_3 du_3 X) := hD
      refine lv_istore (lv' := [(6, .int (bxN g (rn p0) (rn c0) ((rn q0) + 1 - (rn p0)) ((rn e0) + 1 - (rn c0)))), (0, .ref (ad 0)), (1, .int p0), (2, .int q0), (3, .int c0), (4, .int e0), (5, .int w0)]) hx hb dX4_box_41 hl (by decide) rfl (fun ls hl => ?_)
      refine lv_iload hx hb dX4_box_43 (lv_at hl 6 rfl) ?_
      refine lv_if_ne (tgt := 54) hx hb dX4_box_45 (by decide) (fun c_4 => ?_) (fun c_4 => ?_)
      · refine lv_aload_n hx hb dX4_box_54 rfl (lv_at hl 1 rfl) ?_
        refine va_get (D := D) (ci := 4) (v := .ref (ad 6)) (C := RX4) (T := TX4) (N := 14) hx hb hts iX4 hown hK hP 0 rfl rfl 5 (by decide) hw0 (fun _ h9 => h9) rfl dX4_box_55 ?_
        refine lv_aload_n hx hb dX4_box_58 rfl (lv_at hl 1 rfl) ?_
        refine va_get (D := D) (ci := 4) (v := .int (g 100 2)) (C := RX4) (T := TX4) (N := 14) hx hb hts iX4 hown hK hP 0 rfl rfl 9 (by decide) hw2 (fun _ h9 => h9) rfl dX4_box_59 ?_
        refine lv_iload hx hb dX4_box_62 (lv_at hl 6 rfl) ?_
        refine lv_iconst (v := 1) hx hb dX4_box_64 (by decide) ?_
        refine lv_isub hx hb dX4_box_65 ?_
        refine pcL (va_runV (As := [.int (g 100 2), .int (w0 - 1)]) (rest := []) ⟨hx, hb, hml, hown, hts⟩ (kX1_part l D cI cO tt ad g bu_3 du_3 X H 2 (g 100 2) (w0 - 1) (by decide)) (cwV 2 hts gX4_box_X1_part rfl rfl rfl (by decide +kernel) ⟨(Nat.le_of_ble_eq_true rfl), (Nat.le_of_ble_eq_true rfl)⟩) (pwV hK hZ hN hP hS (va_recv hK hP (ci := 1) (q0 := 6) rfl rfl)) rfl rfl hl.1 rfl (lv_room (Nat.le_of_ble_eq_true rfl)) dX4_box_66 ⟨Nat.zero_le _, Nat.zero_le _⟩) hS (fun locs hS => ?_)
        exact W.lret (v := if (w0 - 1) = 0 then xT (du_3 2 0) (du_3 2 1) (g 100 2) + du_3 2 2 else yT (du_3 2 0) (du_3 2 1) (g 100 2) + du_3 2 3) hx hb hr (fun t ht hW => ⟨⟨if (w0 - 1) = 0 then xT (du_3 2 0) (du_3 2 1) (g 100 2) + du_3 2 2 else yT (du_3 2 0) (du_3 2 1) (g 100 2) + du_3 2 3, (g, bu_3, du_3), rfl, (by refine ⟨?_, rfl⟩; have q : fBox g p0 q0 c0 e0 w0 = bE g p0 q0 c0 e0 w0 := (by rw [fBox, if_pos ⟨c_1, c_2⟩, if_neg c_4]); obtain ⟨z0, z1, z2, z3⟩ := hu_3.2.1; rw [q, z0, z1, z2, z3]; rfl), by rw [ht]; exact hP, hD⟩, hS.F ht⟩) hS.2.2 dX4_box_69
      · refine lv_iload hx hb dX4_box_48 (lv_at hl 0 rfl) ?_
        refine lv_i2l hx hb dX4_box_50 rfl ?_
        refine lv_goto (tgt := 69) hx hb dX4_box_51 (by decide) ?_
        exact W.lret (v := (bxN g (rn p0) (rn c0) ((rn q0) + 1 - (rn p0)) ((rn e0) + 1 - (rn c0))).toInt64) hx hb hr (fun t ht hW => ⟨⟨(bxN g (rn p0) (rn c0) ((rn q0) + 1 - (rn p0)) ((rn e0) + 1 - (rn c0))).toInt64, (g, bu_3, du_3), rfl, (by refine ⟨?_, rfl⟩; rw [fBox, if_pos ⟨c_1, c_2⟩, if_pos c_4]), by rw [ht]; exact hP, hD⟩, hS.F ht⟩) hS.2.2 dX4_box_69
    · have c_2 := bI_0.mp c_2
      refine lv_bipush (v := (-2)) hx hb dX4_box_22 (by decide) ?_
      refine pcL (va_runS (As := [.int (-2)]) (rest := []) ⟨hx, hb, hml, hown, hts⟩ (kX4_asLong l D cI cO tt (LW ad cI cO g b d X) s.heap (-2) ) (va_cwS 1 hts gX4_box_X4_asLong rfl rfl rfl (by decide +kernel) ⟨(Nat.le_of_ble_eq_true rfl), (Nat.le_of_ble_eq_true rfl)⟩) (pwS hK hZ hN hP hS) rfl rfl hl.1 rfl (lv_room (Nat.le_of_ble_eq_true rfl)) dX4_box_24 ⟨Nat.zero_le _, Nat.zero_le _⟩) hS (fun locs hS => ?_)
      exact W.lret (v := (-9223372036854775808) - ((-2) : Int32).toInt64) hx hb hr (fun t ht hW => ⟨⟨(-9223372036854775808) - ((-2) : Int32).toInt64, (g, b, d), rfl, (by refine ⟨?_, rfl⟩; grind [fBox]), by rw [ht]; exact hP, hD⟩, hS.F ht⟩) hS.2.2 dX4_box_27
set_option maxHeartbeats 4000000 in
set_option maxRecDepth 100000 in
theorem kJ9_floorDiv (l : Launch) (D : va_G) (cI cO : ClassId) (tt : Nat) (w : va_W) (H0 : Heap) (x0 : Int64) (y0 : Int64) (hy0 : ¬ y0 = 0) : MpL l yJ9_floorDiv_f86c9 wsJ9_floorDiv_f86c9 ({ frames := 0, cells := 0, slots := 0, locals := 0 }) D cI cO tt (w) H0 [.long x0, .long y0] (fdv x0 y0) := by
  refine Met_ofWF (cc := cJ9_floorDiv_f86c9) (maxL := 6) (ret := (some .long)) (by decide +kernel) rfl ?_
  intro p e s m args below meth c s₁ B hml hv
  obtain ⟨rfl, rfl, hP, hK, hZ, hN⟩ := hv
  have hx := B.exec
  have hb := B.bytes
  have hr := B.returns
  have hts := atoms_spec (ws := wsJ9_floorDiv_f86c9) B.pre
  have hown : s.vm.findClass RJ9 = some m.cls := findClass_of_methodNamed B.named
  have hlocks := B.notSynchronized
  have hS : va_S (fun _ => False) s.heap s.heap [] := va_S.rf
  have hl := lv_entry ([.long x0, .long y0]) (n := 6) (Nat.le_of_ble_eq_true rfl)
  rw [lg_entry_eq]
  generalize (lg_sl ([.long x0, .long y0]) ++ List.replicate (6 - (lg_sl ([.long x0, .long y0])).length) Slot.unset).toArray = ls at hl ⊢
  have hl : lv_has ls 6 [(0, .long x0), (2, .long y0)] := hl
  refine lv_lload_n hx hb dJ9_floorDiv_f86c9_0 rfl (lv_at hl 0 rfl) ?_
  refine lv_lload_n hx hb dJ9_floorDiv_f86c9_1 rfl (lv_at hl 1 rfl) ?_
  refine lv_ldiv hx hb dJ9_floorDiv_f86c9_2 hy0 ?_
  refine lv_lstore (lv' := [(4, .long (x0 / y0)), (0, .long x0), (2, .long y0)]) hx hb dJ9_floorDiv_f86c9_3 hl (by decide) rfl (fun ls hl => ?_)
  refine lv_lload_n hx hb dJ9_floorDiv_f86c9_5 rfl (lv_at hl 1 rfl) ?_
  refine lv_lload_n hx hb dJ9_floorDiv_f86c9_6 rfl (lv_at hl 2 rfl) ?_
  refine lv_lxor hx hb dJ9_floorDiv_f86c9_7 ?_
  refine lv_lconst (v := 0) hx hb dJ9_floorDiv_f86c9_8 (by decide) ?_
  refine W.lcmp hx hb dJ9_floorDiv_f86c9_9 ?_
  refine lv_if_ge (tgt := 27) hx hb dJ9_floorDiv_f86c9_10 (by decide) (fun c_1 => ?_) (fun c_1 => ?_)
  · have c_1 := (lg_cmp_ge _ _).mp c_1
    refine lv_lload hx hb dJ9_floorDiv_f86c9_27 (lv_at hl 0 rfl) ?_
    exact W.lret (v := x0 / y0) hx hb hr (fun t ht hW => ⟨⟨x0 / y0, (), rfl, (by grind [fdv]), ht⟩, hS.F ht⟩) hS.2.2 dJ9_floorDiv_f86c9_29
  · have c_1 := fun h => c_1 ((lg_cmp_ge _ _).mpr h)
    refine lv_lload hx hb dJ9_floorDiv_f86c9_13 (lv_at hl 0 rfl) ?_
    refine lv_lload_n hx hb dJ9_floorDiv_f86c9_15 rfl (lv_at hl 2 rfl) ?_
    refine lv_lmul hx hb dJ9_floorDiv_f86c9_16 ?_
    refine lv_lload_n hx hb dJ9_floorDiv_f86c9_17 rfl (lv_at hl 1 rfl) ?_
    refine W.lcmp hx hb dJ9_floorDiv_f86c9_18 ?_
    refine lv_if_eq (tgt := 27) hx hb dJ9_floorDiv_f86c9_19 (by decide) (fun c_2 => ?_) (fun c_2 => ?_)
    · have c_2 := (lg_cmp_eq _ _).mp c_2
      refine lv_lload hx hb dJ9_floorDiv_f86c9_27 (lv_at hl 0 rfl) ?_
      exact W.lret (v := x0 / y0) hx hb hr (fun t ht hW => ⟨⟨x0 / y0, (), rfl, (by grind [fdv]), ht⟩, hS.F ht⟩) hS.2.2 dJ9_floorDiv_f86c9_29
    · have c_2 := fun h => c_2 ((lg_cmp_eq _ _).mpr h)
      refine lv_lload hx hb dJ9_floorDiv_f86c9_22 (lv_at hl 0 rfl) ?_
      refine lv_lconst (v := 1) hx hb dJ9_floorDiv_f86c9_24 (by decide) ?_
      refine lv_lsub hx hb dJ9_floorDiv_f86c9_25 ?_
      exact W.lret (v := (x0 / y0) - 1) hx hb hr (fun t ht hW => ⟨⟨(x0 / y0) - 1, (), rfl, (by grind [fdv]), ht⟩, hS.F ht⟩) hS.2.2 dJ9_floorDiv_f86c9_26
set_option maxHeartbeats 4000000 in
set_option maxRecDepth 100000 in
theorem kX4_mean (l : Launch) (D : va_G) (cI cO : ClassId) (tt : Nat) (ad : Nat → Nat) (g : Nat → Nat → Int32) (b : Nat → Int32) (d : Nat → Nat → Int64) (X : va_W) (sz : Nat) (p0 : Int32) (q0 : Int32) (c0 : Int32) (e0 : Int32) (w0 : Int32) (hI : WI g) : MmL l yX4_mean wsX4_mean ({ frames := 5, cells := 0, slots := 0, locals := 127 }) D cI cO tt (LW ad cI cO g b d X) sz [.ref (ad 0), .int p0, .int q0, .int c0, .int e0, .int w0] (S := (Nat → Nat → Int32) × (Nat → Int32) × (Nat → Nat → Int64)) (fun u => LW ad cI cO u.1 u.2.1 u.2.2 X) (fun z u => z = fMean g p0 q0 c0 e0 w0 ∧ u.1 = g) := by
  refine Met.ofW (cc := cX4_mean) (maxL := 7) (ret := (some .long)) (by decide) rfl ?_
  intro p e s m args below meth c s₁ B hml hv
  obtain ⟨rfl, hsz, hP, hK, hD0, hZ, hN⟩ := hv
  have hx := B.exec
  have hb := B.bytes
  have hr := B.returns
  have hts := atoms_spec (ws := wsX4_mean) B.pre
  have hown : s.vm.findClass RX4 = some m.cls := findClass_of_methodNamed B.named
  have hlocks := B.notSynchronized
  subst hsz
  have hD := hD0.self (sz := s.heap.size)
  generalize hAe : va_A (LW ad cI cO g b d X) s.heap.size = A at hD hZ ⊢
  have hA : ∀ q : Nat, s.heap.size ≤ q → A q := fun q h => by rw [← hAe]; exact Or.inr h
  have hS : va_S A s.heap s.heap [] := va_S.rf
  have hl := lv_entry ([.ref (ad 0), .int p0, .int q0, .int c0, .int e0, .int w0]) (n := 7) (Nat.le_of_ble_eq_true rfl)
  rw [lg_entry_eq]
  generalize (lg_sl ([.ref (ad 0), .int p0, .int q0, .int c0, .int e0, .int w0]) ++ List.replicate (7 - (lg_sl ([.ref (ad 0), .int p0, .int q0, .int c0, .int e0, .int w0])).length) Slot.unset).toArray = ls at hl ⊢
  have hl : lv_has ls 7 [(0, .ref (ad 0)), (1, .int p0), (2, .int q0), (3, .int c0), (4, .int e0), (5, .int w0)] := hl
  have hw0 := hts (.fieldLink RX4 39 "LayerSounder" "firstSum" "LLayerSounder$Drift;") (List.mem_cons_of_mem _ (List.mem_append_left _ (List.mem_append_left _ (List.mem_append_left _ (List.mem_append_left _ (List.mem_append_left _ (List.mem_append_left _ (List.mem_of_getElem? (l := wsX4_mean_r1) (i := 0) rfl))))))))
  have iX4 : ∀ w ∈ wsX40, w ∈ wsX4_mean := fun _ h => List.mem_cons_of_mem _ (List.mem_append_left _ (List.mem_append_left _ (List.mem_append_left _ (List.mem_append_left _ (List.mem_append_right _ h)))))
  have hw2 := hts (.fieldLink RX4 52 "LayerSounder" "skewTurn" "I") (List.mem_cons_of_mem _ (List.mem_append_left _ (List.mem_append_left _ (List.mem_append_left _ (List.mem_append_left _ (List.mem_append_left _ (List.mem_append_left _ (List.mem_of_getElem? (l := wsX4_mean_r1) (i := 1) rfl))))))))
  refine lv_aload_n hx hb dX4_mean_0 rfl (lv_at hl 0 rfl) ?_
  refine lv_iload_n hx hb dX4_mean_1 rfl (lv_at hl 1 rfl) ?_
  refine lv_iload_n hx hb dX4_mean_2 rfl (lv_at hl 2 rfl) ?_
  refine lv_iload_n hx hb dX4_mean_3 rfl (lv_at hl 3 rfl) ?_
  refine lv_iload hx hb dX4_mean_4 (lv_at hl 4 rfl) ?_
  refine pcI (va_runV (As := [.int p0, .int q0, .int c0, .int e0]) (rest := []) ⟨hx, hb, hml, hown, hts⟩ (kX4_isBox l D cI cO tt ad g b d X s.heap p0 q0 c0 e0 ) (cwV 4 hts gX4_mean_X4_isBox rfl rfl rfl (by decide +kernel) ⟨(Nat.le_of_ble_eq_true rfl), (Nat.le_of_ble_eq_true rfl)⟩) (pwV hK hZ hN hP hS (va_recv hK hP (ci := 4) (q0 := 0) rfl rfl)) rfl rfl hl.1 rfl (lv_room (Nat.le_of_ble_eq_true rfl)) dX4_mean_6 ⟨Nat.zero_le _, Nat.zero_le _⟩) hS (fun locs hS => ?_)
  refine lv_if_eq (tgt := 22) hx hb dX4_mean_9 (by decide) (fun c_1 => ?_) (fun c_1 => ?_)
  · have c_1 := bI_0.mp c_1
    refine lv_bipush (v := (-2)) hx hb dX4_mean_22 (by decide) ?_
    refine pcL (va_runS (As := [.int (-2)]) (rest := []) ⟨hx, hb, hml, hown, hts⟩ (kX4_asLong l D cI cO tt (LW ad cI cO g b d X) s.heap (-2) ) (va_cwS 1 hts gX4_mean_X4_asLong rfl rfl rfl (by decide +kernel) ⟨(Nat.le_of_ble_eq_true rfl), (Nat.le_of_ble_eq_true rfl)⟩) (pwS hK hZ hN hP hS) rfl rfl hl.1 rfl (lv_room (Nat.le_of_ble_eq_true rfl)) dX4_mean_24 ⟨Nat.zero_le _, Nat.zero_le _⟩) hS (fun locs hS => ?_)
    exact W.lret (v := (-9223372036854775808) - ((-2) : Int32).toInt64) hx hb hr (fun t ht hW => ⟨⟨(-9223372036854775808) - ((-2) : Int32).toInt64, (g, b, d), rfl, (by refine ⟨?_, rfl⟩; grind [fMean]), by rw [ht]; exact hP, hD⟩, hS.F ht⟩) hS.2.2 dX4_mean_27
  · have c_1 := bI_n0.mp c_1
    refine lv_iload hx hb dX4_mean_12 (lv_at hl 5 rfl) ?_
    refine lv_iconst (v := 1) hx hb dX4_mean_14 (by decide) ?_
    refine lv_iconst (v := 2) hx hb dX4_mean_15 (by decide) ?_
    refine pcI (va_runS (As := [.int w0, .int 1, .int 2]) (rest := []) ⟨hx, hb, hml, hown, hts⟩ (kX4_isWithin l D cI cO tt (LW ad cI cO g b d X) s.heap w0 1 2 ) (va_cwS 3 hts gX4_mean_X4_isWithin rfl rfl rfl (by decide +kernel) ⟨(Nat.le_of_ble_eq_true rfl), (Nat.le_of_ble_eq_true rfl)⟩) (pwS hK hZ hN hP hS) rfl rfl hl.1 rfl (lv_room (Nat.le_of_ble_eq_true rfl)) dX4_mean_16 ⟨Nat.zero_le _, Nat.zero_le _⟩) hS (fun locs hS => ?_)
    refine lv_if_ne (tgt := 28) hx hb dX4_mean_19 (by decide) (fun c_2 => ?_) (fun c_2 => ?_)
    · have c_2 := bI_n0.mp c_2
      refine lv_aload_n hx hb dX4_mean_28 rfl (lv_at hl 0 rfl) ?_
      refine lv_aload_n hx hb dX4_mean_29 rfl (lv_at hl 0 rfl) ?_
      refine va_get (D := D) (ci := 4) (v := .ref (ad 6)) (C := RX4) (T := TX4) (N := 14) hx hb hts iX4 hown hK hP 0 rfl rfl 5 (by decide) hw0 (fun _ h9 => h9) rfl dX4_mean_30 ?_
      refine lv_iload_n hx hb dX4_mean_33 rfl (lv_at hl 1 rfl) ?_
      refine lv_iload_n hx hb dX4_mean_34 rfl (lv_at hl 2 rfl) ?_
      refine lv_iload_n hx hb dX4_mean_35 rfl (lv_at hl 3 rfl) ?_
      refine lv_iload hx hb dX4_mean_36 (lv_at hl 4 rfl) ?_
      refine mcI (wf := fun u : (Nat → Int32) × (Nat → Nat → Int64) => LW ad cI cO g u.1 u.2 X) (va_runV (As := [.ref (ad 6), .int p0, .int q0, .int c0, .int e0]) (rest := []) ⟨hx, hb, hml, hown, hts⟩ (kX4_sumGood l D cI cO tt ad g b d X s.heap.size 2 p0 q0 c0 e0 (rn p0) (rn q0) (rn c0) (rn e0) hI (by decide) (by decide) ((p40 hI c_1.1.1).2.1) ((p40 hI c_1.1.2.1).2.1) ((c16 hI c_1.2.1).2.1) ((c16 hI c_1.2.2.1).2.1) (⟨rn_le c_1.1.1.1 c_1.1.2.2, (p40 hI c_1.1.2.1).1, rn_le c_1.2.1.1 c_1.2.2.2, (c16 hI c_1.2.2.1).1⟩)) (cwV 5 hts gX4_mean_X4_sumGood rfl rfl rfl (by decide +kernel) ⟨(Nat.le_of_ble_eq_true rfl), (Nat.le_of_ble_eq_true rfl)⟩) (mwV hK hZ hN hP hD hS hA (va_recv hK hP (ci := 4) (q0 := 0) rfl rfl)) rfl rfl hl.1 rfl (lv_room (Nat.le_of_ble_eq_true rfl)) dX4_mean_38 ⟨Nat.zero_le _, Nat.zero_le _⟩) hD hS hA (fun ru_3 uu_3 H locs hu_3 hP hD hS => ?_)
      obtain ⟨bu_3, du_3⟩ := uu_3
      have hu_3 : sgP g d 2 (rn p0) (rn c0) ((rn e0) + 1 - (rn c0)) ((rn q0) + 1 - (rn p0)) ru_3 du_3 := hu_3
      obtain ⟨eru_3, hsu_3⟩ : ru_3 = bxN g (rn p0) (rn c0) ((rn q0) + 1 - (rn p0)) ((rn e0) + 1 - (rn c0)) ∧ True := ⟨hu_3.1, trivial⟩
      subst eru_3
      have hP : va_P D vwCl (LW ad cI cO g bu_3 du_3 X) H := hP
      have hD : va_D A (LW ad cI cO g bu_3 du_3 X) := hD
      refine lv_istore (lv' := [(6, .int (bxN g (rn p0) (rn c0) ((rn q0) + 1 - (rn p0)) ((rn e0) + 1 - (rn c0)))), (0, .ref (ad 0)), (1, .int p0), (2, .int q0), (3, .int c0), (4, .int e0), (5, .int w0)]) hx hb dX4_mean_41 hl (by decide) rfl (fun ls hl => ?_)
      refine lv_iload hx hb dX4_mean_43 (lv_at hl 0 rfl) ?_
      refine lv_if_ne (tgt := 54) hx hb dX4_mean_45 (by decide) (fun c_4 => ?_) (fun c_4 => ?_)
      · refine lv_aload_n hx hb dX4_mean_54 rfl (lv_at hl 1 rfl) ?_
        refine va_get (D := D) (ci := 4) (v := .ref (ad 6)) (C := RX4) (T := TX4) (N := 14) hx hb hts iX4 hown hK hP 0 rfl rfl 5 (by decide) hw0 (fun _ h9 => h9) rfl dX4_mean_55 ?_
        refine lv_aload_n hx hb dX4_mean_58 rfl (lv_at hl 1 rfl) ?_
        refine va_get (D := D) (ci := 4) (v := .int (g 100 2)) (C := RX4) (T := TX4) (N := 14) hx hb hts iX4 hown hK hP 0 rfl rfl 9 (by decide) hw2 (fun _ h9 => h9) rfl dX4_mean_59 ?_
        refine lv_iload hx hb dX4_mean_62 (lv_at hl 6 rfl) ?_
        refine lv_iconst (v := 1) hx hb dX4_mean_64 (by decide) ?_
        refine lv_isub hx hb dX4_mean_65 ?_
        refine pcL (va_runV (As := [.int (g 100 2), .int (w0 - 1)]) (rest := []) ⟨hx, hb, hml, hown, hts⟩ (kX1_part l D cI cO tt ad g bu_3 du_3 X H 2 (g 100 2) (w0 - 1) (by decide)) (cwV 2 hts gX4_mean_X1_part rfl rfl rfl (by decide +kernel) ⟨(Nat.le_of_ble_eq_true rfl), (Nat.le_of_ble_eq_true rfl)⟩) (pwV hK hZ hN hP hS (va_recv hK hP (ci := 1) (q0 := 6) rfl rfl)) rfl rfl hl.1 rfl (lv_room (Nat.le_of_ble_eq_true rfl)) dX4_mean_66 ⟨Nat.zero_le _, Nat.zero_le _⟩) hS (fun locs hS => ?_)
        refine lv_iload hx hb dX4_mean_69 (lv_at hl 0 rfl) ?_
        refine lv_i2l hx hb dX4_mean_71 rfl ?_
        refine pcL (va_runS (As := [.long (if (w0 - 1) = 0 then xT (du_3 2 0) (du_3 2 1) (g 100 2) + du_3 2 2 else yT (du_3 2 0) (du_3 2 1) (g 100 2) + du_3 2 3), .long ((bxN g (rn p0) (rn c0) ((rn q0) + 1 - (rn p0)) ((rn e0) + 1 - (rn c0))).toInt64)]) (rest := []) ⟨hx, hb, hml, hown, hts⟩ (kJ9_floorDiv l D cI cO tt (LW ad cI cO g bu_3 du_3 X) H (if (w0 - 1) = 0 then xT (du_3 2 0) (du_3 2 1) (g 100 2) + du_3 2 2 else yT (du_3 2 0) (du_3 2 1) (g 100 2) + du_3 2 3) ((bxN g (rn p0) (rn c0) ((rn q0) + 1 - (rn p0)) ((rn e0) + 1 - (rn c0))).toInt64) (i64_ne c_4)) (va_cwS 2 hts gX4_mean_J9_floorDiv_f86c9 rfl rfl rfl (by decide +kernel) ⟨(Nat.le_of_ble_eq_true rfl), (Nat.le_of_ble_eq_true rfl)⟩) (pwS hK hZ hN hP hS) rfl rfl hl.1 rfl (lv_room (Nat.le_of_ble_eq_true rfl)) dX4_mean_72 ⟨Nat.zero_le _, Nat.zero_le _⟩) hS (fun locs hS => ?_)
        exact W.lret (v := fdv (if (w0 - 1) = 0 then xT (du_3 2 0) (du_3 2 1) (g 100 2) + du_3 2 2 else yT (du_3 2 0) (du_3 2 1) (g 100 2) + du_3 2 3) ((bxN g (rn p0) (rn c0) ((rn q0) + 1 - (rn p0)) ((rn e0) + 1 - (rn c0))).toInt64)) hx hb hr (fun t ht hW => ⟨⟨fdv (if (w0 - 1) = 0 then xT (du_3 2 0) (du_3 2 1) (g 100 2) + du_3 2 2 else yT (du_3 2 0) (du_3 2 1) (g 100 2) + du_3 2 3) ((bxN g (rn p0) (rn c0) ((rn q0) + 1 - (rn p0)) ((rn e0) + 1 - (rn c0))).toInt64), (g, bu_3, du_3), rfl, (by refine ⟨?_, rfl⟩; have q : fMean g p0 q0 c0 e0 w0 = fdv (bE g p0 q0 c0 e0 w0) (bN g p0 q0 c0 e0).toInt64 := (by rw [fMean, if_pos ⟨c_1, c_2⟩, if_neg c_4]); obtain ⟨z0, z1, z2, z3⟩ := hu_3.2.1; rw [q, z0, z1, z2, z3]; rfl), by rw [ht]; exact hP, hD⟩, hS.F ht⟩) hS.2.2 dX4_mean_75
      · refine lv_bipush (v := (-3)) hx hb dX4_mean_48 (by decide) ?_
        refine pcL (va_runS (As := [.int (-3)]) (rest := []) ⟨hx, hb, hml, hown, hts⟩ (kX4_asLong l D cI cO tt (LW ad cI cO g bu_3 du_3 X) H (-3) ) (va_cwS 1 hts gX4_mean_X4_asLong rfl rfl rfl (by decide +kernel) ⟨(Nat.le_of_ble_eq_true rfl), (Nat.le_of_ble_eq_true rfl)⟩) (pwS hK hZ hN hP hS) rfl rfl hl.1 rfl (lv_room (Nat.le_of_ble_eq_true rfl)) dX4_mean_50 ⟨Nat.zero_le _, Nat.zero_le _⟩) hS (fun locs hS => ?_)
        exact W.lret (v := (-9223372036854775808) - ((-3) : Int32).toInt64) hx hb hr (fun t ht hW => ⟨⟨(-9223372036854775808) - ((-3) : Int32).toInt64, (g, bu_3, du_3), rfl, (by refine ⟨?_, rfl⟩; rw [fMean, if_pos ⟨c_1, c_2⟩, if_pos c_4]), by rw [ht]; exact hP, hD⟩, hS.F ht⟩) hS.2.2 dX4_mean_53
    · have c_2 := bI_0.mp c_2
      refine lv_bipush (v := (-2)) hx hb dX4_mean_22 (by decide) ?_
      refine pcL (va_runS (As := [.int (-2)]) (rest := []) ⟨hx, hb, hml, hown, hts⟩ (kX4_asLong l D cI cO tt (LW ad cI cO g b d X) s.heap (-2) ) (va_cwS 1 hts gX4_mean_X4_asLong rfl rfl rfl (by decide +kernel) ⟨(Nat.le_of_ble_eq_true rfl), (Nat.le_of_ble_eq_true rfl)⟩) (pwS hK hZ hN hP hS) rfl rfl hl.1 rfl (lv_room (Nat.le_of_ble_eq_true rfl)) dX4_mean_24 ⟨Nat.zero_le _, Nat.zero_le _⟩) hS (fun locs hS => ?_)
      exact W.lret (v := (-9223372036854775808) - ((-2) : Int32).toInt64) hx hb hr (fun t ht hW => ⟨⟨(-9223372036854775808) - ((-2) : Int32).toInt64, (g, b, d), rfl, (by refine ⟨?_, rfl⟩; grind [fMean]), by rw [ht]; exact hP, hD⟩, hS.F ht⟩) hS.2.2 dX4_mean_27
set_option maxHeartbeats 4000000 in
set_option maxRecDepth 100000 in
theorem kX4_missBelowZero (l : Launch) (D : va_G) (cI cO : ClassId) (tt : Nat) (ad : Nat → Nat) (g : Nat → Nat → Int32) (b : Nat → Int32) (d : Nat → Nat → Int64) (X : va_W) (H0 : Heap) (k : Nat) (t0 : Int32) (hk : k < 4) : MpL l yX4_missBelowZero wsX4_missBelowZero ({ frames := 3, cells := 0, slots := 0, locals := 65 }) D cI cO tt (LW ad cI cO g b d X) H0 [.ref (ad (4 + k)), .int t0] (mbz (d k 0) (d k 1) (d k 2) (d k 3) t0) := by
  refine Met.ofW (cc := cX4_missBelowZero) (maxL := 2) (ret := (some .long)) (by decide) rfl ?_
  intro p e s m args below meth c s₁ B hml hv
  obtain ⟨rfl, rfl, hP, hK, hZ, hN⟩ := hv
  have hx := B.exec
  have hb := B.bytes
  have hr := B.returns
  have hts := atoms_spec (ws := wsX4_missBelowZero) B.pre
  have hown : s.vm.findClass RX4 = some m.cls := findClass_of_methodNamed B.named
  have hlocks := B.notSynchronized
  have hS : va_S (fun _ => False) s.heap s.heap [] := va_S.rf
  have hl := lv_entry ([.ref (ad (4 + k)), .int t0]) (n := 2) (Nat.le_of_ble_eq_true rfl)
  rw [lg_entry_eq]
  generalize (lg_sl ([.ref (ad (4 + k)), .int t0]) ++ List.replicate (2 - (lg_sl ([.ref (ad (4 + k)), .int t0])).length) Slot.unset).toArray = ls at hl ⊢
  have hl : lv_has ls 2 [(0, .ref (ad (4 + k))), (1, .int t0)] := hl
  have hw0 := hts (.methodLink RX4 334 Lib.MathLoose.min_long.x) (List.mem_cons_of_mem _ (List.mem_append_left _ (List.mem_append_left _ (List.mem_of_getElem? (l := wsX4_missBelowZero_r1) (i := 0) rfl))))
  have hw1 := hts (.static Lib.MathLoose.min_long.x) (List.mem_cons_of_mem _ (List.mem_append_left _ (List.mem_append_left _ (List.mem_of_getElem? (l := wsX4_missBelowZero_r1) (i := 1) rfl))))
  have hw2 := hts (.initialized "java/lang/Math") (List.mem_cons_of_mem _ (List.mem_append_left _ (List.mem_append_left _ (List.mem_of_getElem? (l := wsX4_missBelowZero_r1) (i := 2) rfl))))
  have hw3 := hts (.code Lib.MathLoose.min_long.x Lib.MathLoose.min_long.code 4 (some .long)) (List.mem_cons_of_mem _ (List.mem_append_left _ (List.mem_append_left _ (List.mem_of_getElem? (l := wsX4_missBelowZero_r1) (i := 3) rfl))))
  refine lv_aload_n hx hb dX4_missBelowZero_0 rfl (lv_at hl 0 rfl) ?_
  refine lv_iload_n hx hb dX4_missBelowZero_1 rfl (lv_at hl 1 rfl) ?_
  refine pcL (va_runV (As := [.int t0]) (rest := []) ⟨hx, hb, hml, hown, hts⟩ (kX1_east l D cI cO tt ad g b d X s.heap k t0 hk) (cwV 1 hts gX4_missBelowZero_X1_east rfl rfl rfl (by decide +kernel) ⟨(Nat.le_of_ble_eq_true rfl), (Nat.le_of_ble_eq_true rfl)⟩) (pwV hK hZ hN hP hS (va_recv hK hP (ci := 1) (q0 := (4 + k)) rfl (LW_d hk))) rfl rfl hl.1 rfl (lv_room (Nat.le_of_ble_eq_true rfl)) dX4_missBelowZero_2 ⟨Nat.zero_le _, Nat.zero_le _⟩) hS (fun locs hS => ?_)
  refine pcL (va_runS (As := [.long (xT (d k 0) (d k 1) t0 + d k 2)]) (rest := []) ⟨hx, hb, hml, hown, hts⟩ (kX4_belowZero l D cI cO tt (LW ad cI cO g b d X) s.heap (xT (d k 0) (d k 1) t0 + d k 2) ) (va_cwS 1 hts gX4_missBelowZero_X4_belowZero rfl rfl rfl (by decide +kernel) ⟨(Nat.le_of_ble_eq_true rfl), (Nat.le_of_ble_eq_true rfl)⟩) (pwS hK hZ hN hP hS) rfl rfl hl.1 rfl (lv_room (Nat.le_of_ble_eq_true rfl)) dX4_missBelowZero_5 ⟨Nat.zero_le _, Nat.zero_le _⟩) hS (fun locs hS => ?_)
  refine lv_aload_n hx hb dX4_missBelowZero_8 rfl (lv_at hl 0 rfl) ?_
  refine lv_iload_n hx hb dX4_missBelowZero_9 rfl (lv_at hl 1 rfl) ?_
  refine pcL (va_runV (As := [.int t0]) (rest := [.long (bz (xT (d k 0) (d k 1) t0 + d k 2))]) ⟨hx, hb, hml, hown, hts⟩ (kX1_north l D cI cO tt ad g b d X s.heap k t0 hk) (cwV 1 hts gX4_missBelowZero_X1_north rfl rfl rfl (by decide +kernel) ⟨(Nat.le_of_ble_eq_true rfl), (Nat.le_of_ble_eq_true rfl)⟩) (pwV hK hZ hN hP hS (va_recv hK hP (ci := 1) (q0 := (4 + k)) rfl (LW_d hk))) rfl rfl hl.1 rfl (lv_room (Nat.le_of_ble_eq_true rfl)) dX4_missBelowZero_10 ⟨Nat.zero_le _, Nat.zero_le _⟩) hS (fun locs hS => ?_)
  refine pcL (va_runS (As := [.long (yT (d k 0) (d k 1) t0 + d k 3)]) (rest := [.long (bz (xT (d k 0) (d k 1) t0 + d k 2))]) ⟨hx, hb, hml, hown, hts⟩ (kX4_belowZero l D cI cO tt (LW ad cI cO g b d X) s.heap (yT (d k 0) (d k 1) t0 + d k 3) ) (va_cwS 1 hts gX4_missBelowZero_X4_belowZero rfl rfl rfl (by decide +kernel) ⟨(Nat.le_of_ble_eq_true rfl), (Nat.le_of_ble_eq_true rfl)⟩) (pwS hK hZ hN hP hS) rfl rfl hl.1 rfl (lv_room (Nat.le_of_ble_eq_true rfl)) dX4_missBelowZero_13 ⟨Nat.zero_le _, Nat.zero_le _⟩) hS (fun locs hS => ?_)
  refine va_mmin_long hx hb (hml.trans hl.1.symm) hown hw0 hw1 hw2 hw3 (Nat.le_of_ble_eq_true rfl) (Nat.le_of_ble_eq_true rfl) (Nat.zero_le _) (Nat.zero_le _) dX4_missBelowZero_16 ?_
  exact W.lret (v := if bz (yT (d k 0) (d k 1) t0 + d k 3) < bz (xT (d k 0) (d k 1) t0 + d k 2) then bz (yT (d k 0) (d k 1) t0 + d k 3) else bz (xT (d k 0) (d k 1) t0 + d k 2)) hx hb hr (fun t ht hW => ⟨⟨if bz (yT (d k 0) (d k 1) t0 + d k 3) < bz (xT (d k 0) (d k 1) t0 + d k 2) then bz (yT (d k 0) (d k 1) t0 + d k 3) else bz (xT (d k 0) (d k 1) t0 + d k 2), (), rfl, (by rfl), ht⟩, hS.F ht⟩) hS.2.2 dX4_missBelowZero_19
set_option maxHeartbeats 4000000 in
set_option maxRecDepth 100000 in
theorem kX4_turnOfLeastMiss (l : Launch) (D : va_G) (cI cO : ClassId) (tt : Nat) (ad : Nat → Nat) (g : Nat → Nat → Int32) (b : Nat → Int32) (d : Nat → Nat → Int64) (X : va_W) (H0 : Heap) (k : Nat) (hk : k < 4) : MpI l yX4_turnOfLeastMiss wsX4_turnOfLeastMiss ({ frames := 4, cells := 0, slots := 0, locals := 86 }) D cI cO tt (LW ad cI cO g b d X) H0 [.ref (ad (4 + k))] ((tlS (d k 0) (d k 1) (d k 2) (d k 3) 35).1) := by
  refine Met.ofW (cc := cX4_turnOfLeastMiss) (maxL := 7) (ret := (some .int)) (by decide) rfl ?_
  intro p e s m args below meth c s₁ B hml hv
  obtain ⟨rfl, rfl, hP, hK, hZ, hN⟩ := hv
  have hx := B.exec
  have hb := B.bytes
  have hr := B.returns
  have hts := atoms_spec (ws := wsX4_turnOfLeastMiss) B.pre
  have hown : s.vm.findClass RX4 = some m.cls := findClass_of_methodNamed B.named
  have hlocks := B.notSynchronized
  have hS : va_S (fun _ => False) s.heap s.heap [] := va_S.rf
  have hl := lv_entry ([.ref (ad (4 + k))]) (n := 7) (Nat.le_of_ble_eq_true rfl)
  rw [lg_entry_eq]
  generalize (lg_sl ([.ref (ad (4 + k))]) ++ List.replicate (7 - (lg_sl ([.ref (ad (4 + k))])).length) Slot.unset).toArray = ls at hl ⊢
  have hl : lv_has ls 7 [(0, .ref (ad (4 + k)))] := hl
  refine lv_iconst (v := 0) hx hb dX4_turnOfLeastMiss_0 (by decide) ?_
  refine lv_istore_n (lv' := [(1, .int 0), (0, .ref (ad (4 + k)))]) hx hb dX4_turnOfLeastMiss_1 rfl hl (by decide) rfl (fun ls hl => ?_)
  refine lv_aload_n hx hb dX4_turnOfLeastMiss_2 rfl (lv_at hl 1 rfl) ?_
  refine lv_iconst (v := 0) hx hb dX4_turnOfLeastMiss_3 (by decide) ?_
  refine pcL (va_runS (As := [.ref (ad (4 + k)), .int 0]) (rest := []) ⟨hx, hb, hml, hown, hts⟩ (kX4_missBelowZero l D cI cO tt ad g b d X s.heap k 0 hk) (va_cwS 2 hts gX4_turnOfLeastMiss_X4_missBelowZero rfl rfl rfl (by decide +kernel) ⟨(Nat.le_of_ble_eq_true rfl), (Nat.le_of_ble_eq_true rfl)⟩) (pwS hK hZ hN hP hS) rfl rfl hl.1 rfl (lv_room (Nat.le_of_ble_eq_true rfl)) dX4_turnOfLeastMiss_4 ⟨Nat.zero_le _, Nat.zero_le _⟩) hS (fun locs hS => ?_)
  refine lv_lstore_n (lv' := [(2, .long (mbz (d k 0) (d k 1) (d k 2) (d k 3) 0)), (1, .int 0), (0, .ref (ad (4 + k)))]) hx hb dX4_turnOfLeastMiss_7 rfl hl (by decide) rfl (fun ls hl => ?_)
  refine lv_iconst (v := 1) hx hb dX4_turnOfLeastMiss_8 (by decide) ?_
  refine lv_istore (lv' := [(4, .int 1), (2, .long (mbz (d k 0) (d k 1) (d k 2) (d k 3) 0)), (1, .int 0), (0, .ref (ad (4 + k)))]) hx hb dX4_turnOfLeastMiss_9 hl (by decide) rfl (fun ls hl => ?_)
  refine ploop (σ := Nat × Int32 × Int64) (pc := 11) (nL := 7) (fun z_1 => [(4, .int (nI (z_1.1 + 1))), (2, .long z_1.2.2), (1, .int z_1.2.1), (0, .ref (ad (4 + k)))]) (fun z_1 => z_1.1 ≤ 35 ∧ (z_1.2.1, z_1.2.2) = tlS (d k 0) (d k 1) (d k 2) (d k 3) z_1.1) (fun z_1 => 35 - z_1.1) (fun z_1 hIz_1 ihz_1 locs ls hS hl => ?_) (0, 0, mbz (d k 0) (d k 1) (d k 2) (d k 3) 0) (⟨Nat.zero_le _, rfl⟩) _ _ hS (lv_sub hl [0, 1, 2, 3] rfl)
  obtain ⟨i, bs, le⟩ := z_1
  have hl : lv_has ls 7 [(4, .int (nI (i + 1))), (2, .long le), (1, .int bs), (0, .ref (ad (4 + k)))] := hl
  have hIz_1 : i ≤ 35 ∧ (bs, le) = tlS (d k 0) (d k 1) (d k 2) (d k 3) i := hIz_1
  refine lv_iload hx hb dX4_turnOfLeastMiss_11 (lv_at hl 0 rfl) ?_
  refine lv_bipush (v := 36) hx hb dX4_turnOfLeastMiss_13 (by decide) ?_
  refine lv_icmp_ge (tgt := 45) hx hb dX4_turnOfLeastMiss_15 (by decide) (fun c_2 => ?_) (fun c_2 => ?_)
  · refine lv_iload_n hx hb dX4_turnOfLeastMiss_45 rfl (lv_at hl 2 rfl) ?_
    exact W.iret (v := bs) hx hb hr (fun t ht hW => ⟨⟨bs, (), rfl, (by have z : 36 ≤ i + 1 := (nI_leI (a := 36) (b := i + 1) (by omega) (by omega)).mp c_2; have z2 : i = 35 := (by omega); have z3 := hIz_1.2; rw [z2] at z3; rw [← z3]), ht⟩, hS.F ht⟩) hS.2.2 dX4_turnOfLeastMiss_46
  · have hlt : i + 1 ≤ 35 := by
      have z : ¬ 36 ≤ i + 1 := fun q => c_2 ((nI_leI (a := 36) (b := i + 1) (by omega) (by omega)).mpr q)
      omega
    refine lv_aload_n hx hb dX4_turnOfLeastMiss_18 rfl (lv_at hl 3 rfl) ?_
    refine lv_iload hx hb dX4_turnOfLeastMiss_19 (lv_at hl 0 rfl) ?_
    refine pcL (va_runS (As := [.ref (ad (4 + k)), .int (nI (i + 1))]) (rest := []) ⟨hx, hb, hml, hown, hts⟩ (kX4_missBelowZero l D cI cO tt ad g b d X s.heap k (nI (i + 1)) hk) (va_cwS 2 hts gX4_turnOfLeastMiss_X4_missBelowZero rfl rfl rfl (by decide +kernel) ⟨(Nat.le_of_ble_eq_true rfl), (Nat.le_of_ble_eq_true rfl)⟩) (pwS hK hZ hN hP hS) rfl rfl hl.1 rfl (lv_room (Nat.le_of_ble_eq_true rfl)) dX4_turnOfLeastMiss_21 ⟨Nat.zero_le _, Nat.zero_le _⟩) hS (fun locs hS => ?_)
    refine lv_lstore (lv' := [(5, .long (mbz (d k 0) (d k 1) (d k 2) (d k 3) (nI (i + 1)))), (4, .int (nI (i + 1))), (2, .long le), (1, .int bs), (0, .ref (ad (4 + k)))]) hx hb dX4_turnOfLeastMiss_24 hl (by decide) rfl (fun ls hl => ?_)
    refine lv_lload hx hb dX4_turnOfLeastMiss_26 (lv_at hl 0 rfl) ?_
    refine lv_lload_n hx hb dX4_turnOfLeastMiss_28 rfl (lv_at hl 2 rfl) ?_
    refine W.lcmp hx hb dX4_turnOfLeastMiss_29 ?_
    refine lv_if_le (tgt := 39) hx hb dX4_turnOfLeastMiss_30 (by decide) (fun c_3 => ?_) (fun c_3 => ?_)
    · have c_3 := (lg_cmp_le _ _).mp c_3
      refine lv_iinc (v := nI ((i + 1) + 1)) (lv' := [(4, .int (nI ((i + 1) + 1))), (5, .long (mbz (d k 0) (d k 1) (d k 2) (d k 3) (nI (i + 1)))), (2, .long le), (1, .int bs), (0, .ref (ad (4 + k)))]) hx hb dX4_turnOfLeastMiss_39 hl (k := 1) rfl (nI_1 _) (by decide) rfl (fun ls hl => ?_)
      refine lv_goto (tgt := 11) hx hb dX4_turnOfLeastMiss_42 (by decide) ?_
      exact ihz_1 (i + 1, bs, le) (show (i + 1) ≤ 35 ∧ (bs, le) = tlS (d k 0) (d k 1) (d k 2) (d k 3) (i + 1) from ⟨hlt, tl_no hIz_1.2 c_3⟩) (show 35 - (i + 1) < 35 - i from (by omega)) _ _ hS (lv_sub hl [0, 2, 3, 4] rfl)
    · have c_3 := fun h => c_3 ((lg_cmp_le _ _).mpr h)
      refine lv_lload hx hb dX4_turnOfLeastMiss_33 (lv_at hl 0 rfl) ?_
      refine lv_lstore_n (lv' := [(2, .long (mbz (d k 0) (d k 1) (d k 2) (d k 3) (nI (i + 1)))), (5, .long (mbz (d k 0) (d k 1) (d k 2) (d k 3) (nI (i + 1)))), (4, .int (nI (i + 1))), (1, .int bs), (0, .ref (ad (4 + k)))]) hx hb dX4_turnOfLeastMiss_35 rfl hl (by decide) rfl (fun ls hl => ?_)
      refine lv_iload hx hb dX4_turnOfLeastMiss_36 (lv_at hl 2 rfl) ?_
      refine lv_istore_n (lv' := [(1, .int (nI (i + 1))), (2, .long (mbz (d k 0) (d k 1) (d k 2) (d k 3) (nI (i + 1)))), (5, .long (mbz (d k 0) (d k 1) (d k 2) (d k 3) (nI (i + 1)))), (4, .int (nI (i + 1))), (0, .ref (ad (4 + k)))]) hx hb dX4_turnOfLeastMiss_38 rfl hl (by decide) rfl (fun ls hl => ?_)
      refine lv_iinc (v := nI ((i + 1) + 1)) (lv' := [(4, .int (nI ((i + 1) + 1))), (1, .int (nI (i + 1))), (2, .long (mbz (d k 0) (d k 1) (d k 2) (d k 3) (nI (i + 1)))), (5, .long (mbz (d k 0) (d k 1) (d k 2) (d k 3) (nI (i + 1)))), (0, .ref (ad (4 + k)))]) hx hb dX4_turnOfLeastMiss_39 hl (k := 3) rfl (nI_1 _) (by decide) rfl (fun ls hl => ?_)
      refine lv_goto (tgt := 11) hx hb dX4_turnOfLeastMiss_42 (by decide) ?_
      exact ihz_1 (i + 1, nI (i + 1), mbz (d k 0) (d k 1) (d k 2) (d k 3) (nI (i + 1))) (show (i + 1) ≤ 35 ∧ ((nI (i + 1)), (mbz (d k 0) (d k 1) (d k 2) (d k 3) (nI (i + 1)))) = tlS (d k 0) (d k 1) (d k 2) (d k 3) (i + 1) from ⟨hlt, tl_yes hIz_1.2 c_3⟩) (show 35 - (i + 1) < 35 - i from (by omega)) _ _ hS (lv_sub hl [0, 2, 1, 4] rfl)
set_option maxHeartbeats 4000000 in
set_option maxRecDepth 100000 in
theorem kX4_askew (l : Launch) (D : va_G) (cI cO : ClassId) (tt : Nat) (ad : Nat → Nat) (g : Nat → Nat → Int32) (b : Nat → Int32) (d : Nat → Nat → Int64) (X : va_W) (sz : Nat) (p0 : Int32) (q0 : Int32) (r0 : Int32) (s0 : Int32) (hI : WI g) : MmI l yX4_askew wsX4_askew ({ frames := 5, cells := 0, slots := 0, locals := 127 }) D cI cO tt (LW ad cI cO g b d X) sz [.ref (ad 0), .int p0, .int q0, .int r0, .int s0] (S := (Nat → Nat → Int32) × (Nat → Int32) × (Nat → Nat → Int64)) (fun u => LW ad cI cO u.1 u.2.1 u.2.2 X) (fun z u => z = fAskew g p0 q0 r0 s0 ∧ u.1 = g) := by
  refine Met.ofW (cc := cX4_askew) (maxL := 7) (ret := (some .int)) (by decide) rfl ?_
  intro p e s m args below meth c s₁ B hml hv
  obtain ⟨rfl, hsz, hP, hK, hD0, hZ, hN⟩ := hv
  have hx := B.exec
  have hb := B.bytes
  have hr := B.returns
  have hts := atoms_spec (ws := wsX4_askew) B.pre
  have hown : s.vm.findClass RX4 = some m.cls := findClass_of_methodNamed B.named
  have hlocks := B.notSynchronized
  subst hsz
  have hD := hD0.self (sz := s.heap.size)
  generalize hAe : va_A (LW ad cI cO g b d X) s.heap.size = A at hD hZ ⊢
  have hA : ∀ q : Nat, s.heap.size ≤ q → A q := fun q h => by rw [← hAe]; exact Or.inr h
  have hS : va_S A s.heap s.heap [] := va_S.rf
  have hl := lv_entry ([.ref (ad 0), .int p0, .int q0, .int r0, .int s0]) (n := 7) (Nat.le_of_ble_eq_true rfl)
  rw [lg_entry_eq]
  generalize (lg_sl ([.ref (ad 0), .int p0, .int q0, .int r0, .int s0]) ++ List.replicate (7 - (lg_sl ([.ref (ad 0), .int p0, .int q0, .int r0, .int s0])).length) Slot.unset).toArray = ls at hl ⊢
  have hl : lv_has ls 7 [(0, .ref (ad 0)), (1, .int p0), (2, .int q0), (3, .int r0), (4, .int s0)] := hl
  have hw0 := hts (.fieldLink RX4 18 "LayerSounder" "track" "LLayerSounder$Track;") (List.mem_cons_of_mem _ (List.mem_append_left _ (List.mem_append_left _ (List.mem_append_left _ (List.mem_append_left _ (List.mem_append_left _ (List.mem_append_left _ (List.mem_of_getElem? (l := wsX4_askew_r1) (i := 0) rfl))))))))
  have iX4 : ∀ w ∈ wsX40, w ∈ wsX4_askew := fun _ h => List.mem_cons_of_mem _ (List.mem_append_left _ (List.mem_append_left _ (List.mem_append_left _ (List.mem_append_left _ (List.mem_append_right _ h)))))
  have hw2 := hts (.fieldLink RX4 39 "LayerSounder" "firstSum" "LLayerSounder$Drift;") (List.mem_cons_of_mem _ (List.mem_append_left _ (List.mem_append_left _ (List.mem_append_left _ (List.mem_append_left _ (List.mem_append_left _ (List.mem_append_left _ (List.mem_of_getElem? (l := wsX4_askew_r1) (i := 1) rfl))))))))
  have hw3 := hts (.fieldLink RX4 45 "LayerSounder" "layers" "I") (List.mem_cons_of_mem _ (List.mem_append_left _ (List.mem_append_left _ (List.mem_append_left _ (List.mem_append_left _ (List.mem_append_left _ (List.mem_append_left _ (List.mem_of_getElem? (l := wsX4_askew_r1) (i := 2) rfl))))))))
  have hw4 := hts (.fieldLink RX4 42 "LayerSounder" "secondSum" "LLayerSounder$Drift;") (List.mem_cons_of_mem _ (List.mem_append_left _ (List.mem_append_left _ (List.mem_append_left _ (List.mem_append_left _ (List.mem_append_left _ (List.mem_append_left _ (List.mem_of_getElem? (l := wsX4_askew_r1) (i := 3) rfl))))))))
  refine lv_aload_n hx hb dX4_askew_0 rfl (lv_at hl 0 rfl) ?_
  refine va_get (D := D) (ci := 4) (v := .ref (ad 2)) (C := RX4) (T := TX4) (N := 14) hx hb hts iX4 hown hK hP 0 rfl rfl 1 (by decide) hw0 (fun _ h9 => h9) rfl dX4_askew_1 ?_
  refine lv_iload_n hx hb dX4_askew_4 rfl (lv_at hl 1 rfl) ?_
  refine lv_iload_n hx hb dX4_askew_5 rfl (lv_at hl 2 rfl) ?_
  refine pcI (va_runV (As := [.int p0, .int q0]) (rest := []) ⟨hx, hb, hml, hown, hts⟩ (kX3_isSpan l D cI cO tt ad g b d X s.heap p0 q0 ) (cwV 2 hts gX4_askew_X3_isSpan rfl rfl rfl (by decide +kernel) ⟨(Nat.le_of_ble_eq_true rfl), (Nat.le_of_ble_eq_true rfl)⟩) (pwV hK hZ hN hP hS (va_recv hK hP (ci := 3) (q0 := 2) rfl rfl)) rfl rfl hl.1 rfl (lv_room (Nat.le_of_ble_eq_true rfl)) dX4_askew_6 ⟨Nat.zero_le _, Nat.zero_le _⟩) hS (fun locs hS => ?_)
  refine lv_if_eq (tgt := 25) hx hb dX4_askew_9 (by decide) (fun c_1 => ?_) (fun c_1 => ?_)
  · have c_1 := bI_0.mp c_1
    refine lv_bipush (v := (-2)) hx hb dX4_askew_25 (by decide) ?_
    exact W.iret (v := (-2)) hx hb hr (fun t ht hW => ⟨⟨(-2), (g, b, d), rfl, (by refine ⟨?_, rfl⟩; grind [fAskew]), by rw [ht]; exact hP, hD⟩, hS.F ht⟩) hS.2.2 dX4_askew_27
  · have c_1 := bI_n0.mp c_1
    refine lv_aload_n hx hb dX4_askew_12 rfl (lv_at hl 0 rfl) ?_
    refine va_get (D := D) (ci := 4) (v := .ref (ad 2)) (C := RX4) (T := TX4) (N := 14) hx hb hts iX4 hown hK hP 0 rfl rfl 1 (by decide) hw0 (fun _ h9 => h9) rfl dX4_askew_13 ?_
    refine lv_iload_n hx hb dX4_askew_16 rfl (lv_at hl 3 rfl) ?_
    refine lv_iload hx hb dX4_askew_17 (lv_at hl 4 rfl) ?_
    refine pcI (va_runV (As := [.int r0, .int s0]) (rest := []) ⟨hx, hb, hml, hown, hts⟩ (kX3_isSpan l D cI cO tt ad g b d X s.heap r0 s0 ) (cwV 2 hts gX4_askew_X3_isSpan rfl rfl rfl (by decide +kernel) ⟨(Nat.le_of_ble_eq_true rfl), (Nat.le_of_ble_eq_true rfl)⟩) (pwV hK hZ hN hP hS (va_recv hK hP (ci := 3) (q0 := 2) rfl rfl)) rfl rfl hl.1 rfl (lv_room (Nat.le_of_ble_eq_true rfl)) dX4_askew_19 ⟨Nat.zero_le _, Nat.zero_le _⟩) hS (fun locs hS => ?_)
    refine lv_if_ne (tgt := 28) hx hb dX4_askew_22 (by decide) (fun c_2 => ?_) (fun c_2 => ?_)
    · have c_2 := bI_n0.mp c_2
      refine lv_aload_n hx hb dX4_askew_28 rfl (lv_at hl 0 rfl) ?_
      refine lv_aload_n hx hb dX4_askew_29 rfl (lv_at hl 0 rfl) ?_
      refine va_get (D := D) (ci := 4) (v := .ref (ad 6)) (C := RX4) (T := TX4) (N := 14) hx hb hts iX4 hown hK hP 0 rfl rfl 5 (by decide) hw2 (fun _ h9 => h9) rfl dX4_askew_30 ?_
      refine lv_iload_n hx hb dX4_askew_33 rfl (lv_at hl 1 rfl) ?_
      refine lv_iload_n hx hb dX4_askew_34 rfl (lv_at hl 2 rfl) ?_
      refine lv_iconst (v := 0) hx hb dX4_askew_35 (by decide) ?_
      refine lv_aload_n hx hb dX4_askew_36 rfl (lv_at hl 0 rfl) ?_
      refine va_get (D := D) (ci := 4) (v := .int (g 100 0)) (C := RX4) (T := TX4) (N := 14) hx hb hts iX4 hown hK hP 0 rfl rfl 7 (by decide) hw3 (fun _ h9 => h9) rfl dX4_askew_37 ?_
      refine lv_iconst (v := 1) hx hb dX4_askew_40 (by decide) ?_
      refine lv_isub hx hb dX4_askew_41 ?_
      refine mcI (wf := fun u : (Nat → Int32) × (Nat → Nat → Int64) => LW ad cI cO g u.1 u.2 X) (va_runV (As := [.ref (ad 6), .int p0, .int q0, .int 0, .int ((g 100 0) - 1)]) (rest := []) ⟨hx, hb, hml, hown, hts⟩ (kX4_sumGood l D cI cO tt ad g b d X s.heap.size 2 p0 q0 0 ((g 100 0) - 1) (rn p0) (rn q0) (rn 0) (rn (g 100 0 - 1)) hI (by decide) (by decide) ((p40 hI c_1.1).2.1) ((p40 hI c_1.2.1).2.1) rfl ((c16 hI (lac hI)).2.1) (⟨rn_le c_1.1.1 c_1.2.2, (p40 hI c_1.2.1).1, Nat.zero_le _, (c16 hI (lac hI)).1⟩)) (cwV 5 hts gX4_askew_X4_sumGood rfl rfl rfl (by decide +kernel) ⟨(Nat.le_of_ble_eq_true rfl), (Nat.le_of_ble_eq_true rfl)⟩) (mwV hK hZ hN hP hD hS hA (va_recv hK hP (ci := 4) (q0 := 0) rfl rfl)) rfl rfl hl.1 rfl (lv_room (Nat.le_of_ble_eq_true rfl)) dX4_askew_42 ⟨Nat.zero_le _, Nat.zero_le _⟩) hD hS hA (fun ru_3 uu_3 H locs hu_3 hP hD hS => ?_)
      obtain ⟨bu_3, du_3⟩ := uu_3
      have hu_3 : sgP g d 2 (rn p0) (rn 0) ((rn (g 100 0 - 1)) + 1 - (rn 0)) ((rn q0) + 1 - (rn p0)) ru_3 du_3 := hu_3
      obtain ⟨eru_3, hsu_3⟩ : ru_3 = bxN g (rn p0) (rn 0) ((rn q0) + 1 - (rn p0)) ((rn (g 100 0 - 1)) + 1 - (rn 0)) ∧ True := ⟨hu_3.1, trivial⟩
      subst eru_3
      have hP : va_P D vwCl (LW ad cI cO g bu_3 du_3 X) H := hP
      have hD : va_D A (LW ad cI cO g bu_3 du_3 X) := hD
      refine lv_istore (lv' := [(5, .int (bxN g (rn p0) (rn 0) ((rn q0) + 1 - (rn p0)) ((rn (g 100 0 - 1)) + 1 - (rn 0)))), (0, .ref (ad 0)), (1, .int p0), (2, .int q0), (3, .int r0), (4, .int s0)]) hx hb dX4_askew_45 hl (by decide) rfl (fun ls hl => ?_)
      refine lv_aload_n hx hb dX4_askew_47 rfl (lv_at hl 1 rfl) ?_
      refine lv_aload_n hx hb dX4_askew_48 rfl (lv_at hl 1 rfl) ?_
      refine va_get (D := D) (ci := 4) (v := .ref (ad 7)) (C := RX4) (T := TX4) (N := 14) hx hb hts iX4 hown hK hP 0 rfl rfl 6 (by decide) hw4 (fun _ h9 => h9) rfl dX4_askew_49 ?_
      refine lv_iload_n hx hb dX4_askew_52 rfl (lv_at hl 4 rfl) ?_
      refine lv_iload hx hb dX4_askew_53 (lv_at hl 5 rfl) ?_
      refine lv_iconst (v := 0) hx hb dX4_askew_55 (by decide) ?_
      refine lv_aload_n hx hb dX4_askew_56 rfl (lv_at hl 1 rfl) ?_
      refine va_get (D := D) (ci := 4) (v := .int (g 100 0)) (C := RX4) (T := TX4) (N := 14) hx hb hts iX4 hown hK hP 0 rfl rfl 7 (by decide) hw3 (fun _ h9 => h9) rfl dX4_askew_57 ?_
      refine lv_iconst (v := 1) hx hb dX4_askew_60 (by decide) ?_
      refine lv_isub hx hb dX4_askew_61 ?_
      refine mcI (wf := fun u : (Nat → Int32) × (Nat → Nat → Int64) => LW ad cI cO g u.1 u.2 X) (va_runV (As := [.ref (ad 7), .int r0, .int s0, .int 0, .int ((g 100 0) - 1)]) (rest := []) ⟨hx, hb, hml, hown, hts⟩ (kX4_sumGood l D cI cO tt ad g bu_3 du_3 X H.size 3 r0 s0 0 ((g 100 0) - 1) (rn r0) (rn s0) (rn 0) (rn (g 100 0 - 1)) hI (by decide) (by decide) ((p40 hI c_2.1).2.1) ((p40 hI c_2.2.1).2.1) rfl ((c16 hI (lac hI)).2.1) (⟨rn_le c_2.1.1 c_2.2.2, (p40 hI c_2.2.1).1, Nat.zero_le _, (c16 hI (lac hI)).1⟩)) (cwV 5 hts gX4_askew_X4_sumGood rfl rfl rfl (by decide +kernel) ⟨(Nat.le_of_ble_eq_true rfl), (Nat.le_of_ble_eq_true rfl)⟩) (mwV hK hZ hN hP hD hS hA (va_recv hK hP (ci := 4) (q0 := 0) rfl rfl)) rfl rfl hl.1 rfl (lv_room (Nat.le_of_ble_eq_true rfl)) dX4_askew_62 ⟨Nat.zero_le _, Nat.zero_le _⟩) hD hS hA (fun ru_4 uu_4 H locs hu_4 hP hD hS => ?_)
      obtain ⟨bu_4, du_4⟩ := uu_4
      have hu_4 : sgP g du_3 3 (rn r0) (rn 0) ((rn (g 100 0 - 1)) + 1 - (rn 0)) ((rn s0) + 1 - (rn r0)) ru_4 du_4 := hu_4
      obtain ⟨eru_4, hsu_4⟩ : ru_4 = bxN g (rn r0) (rn 0) ((rn s0) + 1 - (rn r0)) ((rn (g 100 0 - 1)) + 1 - (rn 0)) ∧ True := ⟨hu_4.1, trivial⟩
      subst eru_4
      have hP : va_P D vwCl (LW ad cI cO g bu_4 du_4 X) H := hP
      have hD : va_D A (LW ad cI cO g bu_4 du_4 X) := hD
      refine lv_istore (lv' := [(6, .int (bxN g (rn r0) (rn 0) ((rn s0) + 1 - (rn r0)) ((rn (g 100 0 - 1)) + 1 - (rn 0)))), (5, .int (bxN g (rn p0) (rn 0) ((rn q0) + 1 - (rn p0)) ((rn (g 100 0 - 1)) + 1 - (rn 0)))), (0, .ref (ad 0)), (1, .int p0), (2, .int q0), (3, .int r0), (4, .int s0)]) hx hb dX4_askew_65 hl (by decide) rfl (fun ls hl => ?_)
      refine lv_iload hx hb dX4_askew_67 (lv_at hl 1 rfl) ?_
      refine lv_if_eq (tgt := 77) hx hb dX4_askew_69 (by decide) (fun c_5 => ?_) (fun c_5 => ?_)
      · refine lv_bipush (v := (-3)) hx hb dX4_askew_77 (by decide) ?_
        exact W.iret (v := (-3)) hx hb hr (fun t ht hW => ⟨⟨(-3), (g, bu_4, du_4), rfl, (by refine ⟨?_, rfl⟩; rw [fAskew, if_pos ⟨c_1, c_2⟩, if_pos (Or.inl c_5)]), by rw [ht]; exact hP, hD⟩, hS.F ht⟩) hS.2.2 dX4_askew_79
      · refine lv_iload hx hb dX4_askew_72 (lv_at hl 0 rfl) ?_
        refine lv_if_ne (tgt := 80) hx hb dX4_askew_74 (by decide) (fun c_6 => ?_) (fun c_6 => ?_)
        · refine lv_aload_n hx hb dX4_askew_80 rfl (lv_at hl 2 rfl) ?_
          refine va_get (D := D) (ci := 4) (v := .ref (ad 6)) (C := RX4) (T := TX4) (N := 14) hx hb hts iX4 hown hK hP 0 rfl rfl 5 (by decide) hw2 (fun _ h9 => h9) rfl dX4_askew_81 ?_
          refine lv_iload hx hb dX4_askew_84 (lv_at hl 0 rfl) ?_
          refine lv_i2l hx hb dX4_askew_86 rfl ?_
          refine mcV (wf := fun u : Nat → Nat → Int64 => LW ad cI cO g bu_4 u X) (va_runV (As := [.long ((bxN g (rn r0) (rn 0) ((rn s0) + 1 - (rn r0)) ((rn (g 100 0 - 1)) + 1 - (rn 0))).toInt64)]) (rest := []) ⟨hx, hb, hml, hown, hts⟩ (kX1_multiply l D cI cO tt ad g bu_4 du_4 X H.size 2 ((bxN g (rn r0) (rn 0) ((rn s0) + 1 - (rn r0)) ((rn (g 100 0 - 1)) + 1 - (rn 0))).toInt64) (by decide)) (cwV 1 hts gX4_askew_X1_multiply rfl rfl rfl (by decide +kernel) ⟨(Nat.le_of_ble_eq_true rfl), (Nat.le_of_ble_eq_true rfl)⟩) (mwV hK hZ hN hP hD hS hA (va_recv hK hP (ci := 1) (q0 := 6) rfl rfl)) rfl rfl hl.1 rfl (lv_room (Nat.le_of_ble_eq_true rfl)) dX4_askew_87 ⟨Nat.zero_le _, Nat.zero_le _⟩) hD hS hA (fun uu_7 H locs hu_7 hP hD hS => ?_)
          have hP : va_P D vwCl (LW ad cI cO g bu_4 uu_7 X) H := hP
          have hD : va_D A (LW ad cI cO g bu_4 uu_7 X) := hD
          refine lv_aload_n hx hb dX4_askew_90 rfl (lv_at hl 2 rfl) ?_
          refine va_get (D := D) (ci := 4) (v := .ref (ad 7)) (C := RX4) (T := TX4) (N := 14) hx hb hts iX4 hown hK hP 0 rfl rfl 6 (by decide) hw4 (fun _ h9 => h9) rfl dX4_askew_91 ?_
          refine lv_iload hx hb dX4_askew_94 (lv_at hl 1 rfl) ?_
          refine lv_i2l hx hb dX4_askew_96 rfl ?_
          refine mcV (wf := fun u : Nat → Nat → Int64 => LW ad cI cO g bu_4 u X) (va_runV (As := [.long ((bxN g (rn p0) (rn 0) ((rn q0) + 1 - (rn p0)) ((rn (g 100 0 - 1)) + 1 - (rn 0))).toInt64)]) (rest := []) ⟨hx, hb, hml, hown, hts⟩ (kX1_multiply l D cI cO tt ad g bu_4 uu_7 X H.size 3 ((bxN g (rn p0) (rn 0) ((rn q0) + 1 - (rn p0)) ((rn (g 100 0 - 1)) + 1 - (rn 0))).toInt64) (by decide)) (cwV 1 hts gX4_askew_X1_multiply rfl rfl rfl (by decide +kernel) ⟨(Nat.le_of_ble_eq_true rfl), (Nat.le_of_ble_eq_true rfl)⟩) (mwV hK hZ hN hP hD hS hA (va_recv hK hP (ci := 1) (q0 := 7) rfl rfl)) rfl rfl hl.1 rfl (lv_room (Nat.le_of_ble_eq_true rfl)) dX4_askew_97 ⟨Nat.zero_le _, Nat.zero_le _⟩) hD hS hA (fun uu_8 H locs hu_8 hP hD hS => ?_)
          have hP : va_P D vwCl (LW ad cI cO g bu_4 uu_8 X) H := hP
          have hD : va_D A (LW ad cI cO g bu_4 uu_8 X) := hD
          refine lv_aload_n hx hb dX4_askew_100 rfl (lv_at hl 2 rfl) ?_
          refine va_get (D := D) (ci := 4) (v := .ref (ad 6)) (C := RX4) (T := TX4) (N := 14) hx hb hts iX4 hown hK hP 0 rfl rfl 5 (by decide) hw2 (fun _ h9 => h9) rfl dX4_askew_101 ?_
          refine lv_aload_n hx hb dX4_askew_104 rfl (lv_at hl 2 rfl) ?_
          refine va_get (D := D) (ci := 4) (v := .ref (ad 7)) (C := RX4) (T := TX4) (N := 14) hx hb hts iX4 hown hK hP 0 rfl rfl 6 (by decide) hw4 (fun _ h9 => h9) rfl dX4_askew_105 ?_
          refine mcV (wf := fun u : Nat → Nat → Int64 => LW ad cI cO g bu_4 u X) (va_runV (As := [.ref (ad 7)]) (rest := []) ⟨hx, hb, hml, hown, hts⟩ (kX1_subtract l D cI cO tt ad g bu_4 uu_8 X H.size 2 3 (by decide) (by decide) (by decide)) (cwV 1 hts gX4_askew_X1_subtract rfl rfl rfl (by decide +kernel) ⟨(Nat.le_of_ble_eq_true rfl), (Nat.le_of_ble_eq_true rfl)⟩) (mwV hK hZ hN hP hD hS hA (va_recv hK hP (ci := 1) (q0 := 6) rfl rfl)) rfl rfl hl.1 rfl (lv_room (Nat.le_of_ble_eq_true rfl)) dX4_askew_108 ⟨Nat.zero_le _, Nat.zero_le _⟩) hD hS hA (fun uu_9 H locs hu_9 hP hD hS => ?_)
          have hP : va_P D vwCl (LW ad cI cO g bu_4 uu_9 X) H := hP
          have hD : va_D A (LW ad cI cO g bu_4 uu_9 X) := hD
          refine lv_aload_n hx hb dX4_askew_111 rfl (lv_at hl 2 rfl) ?_
          refine va_get (D := D) (ci := 4) (v := .ref (ad 6)) (C := RX4) (T := TX4) (N := 14) hx hb hts iX4 hown hK hP 0 rfl rfl 5 (by decide) hw2 (fun _ h9 => h9) rfl dX4_askew_112 ?_
          refine pcI (va_runS (As := [.ref (ad 6)]) (rest := []) ⟨hx, hb, hml, hown, hts⟩ (kX4_turnOfLeastMiss l D cI cO tt ad g bu_4 uu_9 X H 2 (by decide)) (va_cwS 1 hts gX4_askew_X4_turnOfLeastMiss rfl rfl rfl (by decide +kernel) ⟨(Nat.le_of_ble_eq_true rfl), (Nat.le_of_ble_eq_true rfl)⟩) (pwS hK hZ hN hP hS) rfl rfl hl.1 rfl (lv_room (Nat.le_of_ble_eq_true rfl)) dX4_askew_115 ⟨Nat.zero_le _, Nat.zero_le _⟩) hS (fun locs hS => ?_)
          exact W.iret (v := (tlS (uu_9 2 0) (uu_9 2 1) (uu_9 2 2) (uu_9 2 3) 35).1) hx hb hr (fun t ht hW => ⟨⟨(tlS (uu_9 2 0) (uu_9 2 1) (uu_9 2 2) (uu_9 2 3) 35).1, (g, bu_4, uu_9), rfl, (by refine ⟨?_, rfl⟩; rw [fAskew, if_pos ⟨c_1, c_2⟩, if_neg (fun q => q.elim c_5 c_6)]; exact ak_ok hu_3 hu_4 hu_7 hu_8 hu_9), by rw [ht]; exact hP, hD⟩, hS.F ht⟩) hS.2.2 dX4_askew_118
        · refine lv_bipush (v := (-3)) hx hb dX4_askew_77 (by decide) ?_
          exact W.iret (v := (-3)) hx hb hr (fun t ht hW => ⟨⟨(-3), (g, bu_4, du_4), rfl, (by refine ⟨?_, rfl⟩; rw [fAskew, if_pos ⟨c_1, c_2⟩, if_pos (Or.inr c_6)]), by rw [ht]; exact hP, hD⟩, hS.F ht⟩) hS.2.2 dX4_askew_79
    · have c_2 := bI_0.mp c_2
      refine lv_bipush (v := (-2)) hx hb dX4_askew_25 (by decide) ?_
      exact W.iret (v := (-2)) hx hb hr (fun t ht hW => ⟨⟨(-2), (g, b, d), rfl, (by refine ⟨?_, rfl⟩; grind [fAskew]), by rw [ht]; exact hP, hD⟩, hS.F ht⟩) hS.2.2 dX4_askew_27
set_option maxHeartbeats 4000000 in
set_option maxRecDepth 100000 in
theorem kX4_closes (l : Launch) (D : va_G) (cI cO : ClassId) (tt : Nat) (ad : Nat → Nat) (g : Nat → Nat → Int32) (b : Nat → Int32) (d : Nat → Nat → Int64) (X : va_W) (H0 : Heap) (p0 : Int32) (y0 : Int32) (hI : WI g) : MpI l yX4_closes wsX4_closes ({ frames := 3, cells := 0, slots := 0, locals := 65 }) D cI cO tt (LW ad cI cO g b d X) H0 [.ref (ad 0), .int p0, .int y0] (fCloses g p0 y0) := by
  refine Met.ofW (cc := cX4_closes) (maxL := 4) (ret := (some .int)) (by decide) rfl ?_
  intro p e s m args below meth c s₁ B hml hv
  obtain ⟨rfl, rfl, hP, hK, hZ, hN⟩ := hv
  have hx := B.exec
  have hb := B.bytes
  have hr := B.returns
  have hts := atoms_spec (ws := wsX4_closes) B.pre
  have hown : s.vm.findClass RX4 = some m.cls := findClass_of_methodNamed B.named
  have hlocks := B.notSynchronized
  have hS : va_S (fun _ => False) s.heap s.heap [] := va_S.rf
  have hl := lv_entry ([.ref (ad 0), .int p0, .int y0]) (n := 4) (Nat.le_of_ble_eq_true rfl)
  rw [lg_entry_eq]
  generalize (lg_sl ([.ref (ad 0), .int p0, .int y0]) ++ List.replicate (4 - (lg_sl ([.ref (ad 0), .int p0, .int y0])).length) Slot.unset).toArray = ls at hl ⊢
  have hl : lv_has ls 4 [(0, .ref (ad 0)), (1, .int p0), (2, .int y0)] := hl
  have hw0 := hts (.fieldLink RX4 18 "LayerSounder" "track" "LLayerSounder$Track;") (List.mem_cons_of_mem _ (List.mem_append_left _ (List.mem_append_left _ (List.mem_append_left _ (List.mem_of_getElem? (l := wsX4_closes_r1) (i := 0) rfl)))))
  have iX4 : ∀ w ∈ wsX40, w ∈ wsX4_closes := fun _ h => List.mem_cons_of_mem _ (List.mem_append_left _ (List.mem_append_right _ h))
  have hw2 := hts (.constant RX4 194 (1000000)) (List.mem_cons_of_mem _ (List.mem_append_left _ (List.mem_append_left _ (List.mem_append_left _ (List.mem_of_getElem? (l := wsX4_closes_r1) (i := 1) rfl)))))
  have iX3 : ∀ w ∈ wsX30, w ∈ wsX4_closes := fun _ h => List.mem_cons_of_mem _ (List.mem_append_right _ h)
  refine lv_aload_n hx hb dX4_closes_0 rfl (lv_at hl 0 rfl) ?_
  refine va_get (D := D) (ci := 4) (v := .ref (ad 2)) (C := RX4) (T := TX4) (N := 14) hx hb hts iX4 hown hK hP 0 rfl rfl 1 (by decide) hw0 (fun _ h9 => h9) rfl dX4_closes_1 ?_
  refine lv_iload_n hx hb dX4_closes_4 rfl (lv_at hl 1 rfl) ?_
  refine pcI (va_runV (As := [.int p0]) (rest := []) ⟨hx, hb, hml, hown, hts⟩ (kX3_isPing l D cI cO tt ad g b d X s.heap p0 ) (cwV 1 hts gX4_closes_X3_isPing rfl rfl rfl (by decide +kernel) ⟨(Nat.le_of_ble_eq_true rfl), (Nat.le_of_ble_eq_true rfl)⟩) (pwV hK hZ hN hP hS (va_recv hK hP (ci := 3) (q0 := 2) rfl rfl)) rfl rfl hl.1 rfl (lv_room (Nat.le_of_ble_eq_true rfl)) dX4_closes_5 ⟨Nat.zero_le _, Nat.zero_le _⟩) hS (fun locs hS => ?_)
  refine lv_if_eq (tgt := 21) hx hb dX4_closes_8 (by decide) (fun c_1 => ?_) (fun c_1 => ?_)
  · have c_1 := bI_0.mp c_1
    refine lv_bipush (v := (-2)) hx hb dX4_closes_21 (by decide) ?_
    exact W.iret (v := (-2)) hx hb hr (fun t ht hW => ⟨⟨(-2), (), rfl, (by grind [fCloses]), ht⟩, hS.F ht⟩) hS.2.2 dX4_closes_23
  · have c_1 := bI_n0.mp c_1
    refine lv_iload_n hx hb dX4_closes_11 rfl (lv_at hl 2 rfl) ?_
    refine lv_iconst (v := 0) hx hb dX4_closes_12 (by decide) ?_
    refine lv_ldc hx hb hown hw2 dX4_closes_13 ?_
    refine pcI (va_runS (As := [.int y0, .int 0, .int 1000000]) (rest := []) ⟨hx, hb, hml, hown, hts⟩ (kX4_isWithin l D cI cO tt (LW ad cI cO g b d X) s.heap y0 0 1000000 ) (va_cwS 3 hts gX4_closes_X4_isWithin rfl rfl rfl (by decide +kernel) ⟨(Nat.le_of_ble_eq_true rfl), (Nat.le_of_ble_eq_true rfl)⟩) (pwS hK hZ hN hP hS) rfl rfl hl.1 rfl (lv_room (Nat.le_of_ble_eq_true rfl)) dX4_closes_15 ⟨Nat.zero_le _, Nat.zero_le _⟩) hS (fun locs hS => ?_)
    refine lv_if_ne (tgt := 24) hx hb dX4_closes_18 (by decide) (fun c_2 => ?_) (fun c_2 => ?_)
    · have c_2 := bI_n0.mp c_2
      refine lv_iload_n hx hb dX4_closes_24 rfl (lv_at hl 1 rfl) ?_
      refine lv_iconst (v := 2) hx hb dX4_closes_25 (by decide) ?_
      refine lv_iadd hx hb dX4_closes_26 ?_
      refine tpI (y := nI (rn p0 + 2)) (pl2 (p40 hI c_1).2.1) ?_
      refine lv_istore_n (lv' := [(3, .int (nI (rn p0 + 2))), (0, .ref (ad 0)), (1, .int p0), (2, .int y0)]) hx hb dX4_closes_27 rfl hl (by decide) rfl (fun ls hl => ?_)
      refine ploop (σ := Nat) (pc := 28) (nL := 4) (fun z_3 => [(3, .int (nI z_3)), (0, .ref (ad 0)), (1, .int p0), (2, .int y0)]) (fun z_3 => (z_3 ≤ rn (g 100 7) ∨ z_3 ≤ rn p0 + 2) ∧ clo g p0 y0 (rn (g 100 7) - (rn p0 + 2)) (rn p0 + 2) = clo g p0 y0 (rn (g 100 7) - z_3) z_3) (fun z_3 => rn (g 100 7) - z_3) (fun z_3 hIz_3 ihz_3 locs ls hS hl => ?_) (rn p0 + 2) (⟨Or.inr (Nat.le_refl _), rfl⟩) _ _ hS (lv_sub hl [0, 1, 2, 3] rfl)
      obtain ⟨i, rfl⟩ : ∃ q, q = z_3 := ⟨_, rfl⟩
      have hl : lv_has ls 4 [(3, .int (nI i)), (0, .ref (ad 0)), (1, .int p0), (2, .int y0)] := hl
      have hIz_3 : (i ≤ rn (g 100 7) ∨ i ≤ rn p0 + 2) ∧ clo g p0 y0 (rn (g 100 7) - (rn p0 + 2)) (rn p0 + 2) = clo g p0 y0 (rn (g 100 7) - i) i := hIz_3
      refine lv_iload_n hx hb dX4_closes_28 rfl (lv_at hl 0 rfl) ?_
      refine lv_aload_n hx hb dX4_closes_29 rfl (lv_at hl 1 rfl) ?_
      refine va_get (D := D) (ci := 4) (v := .ref (ad 2)) (C := RX4) (T := TX4) (N := 14) hx hb hts iX4 hown hK hP 0 rfl rfl 1 (by decide) hw0 (fun _ h9 => h9) rfl dX4_closes_30 ?_
      refine va_getN (D := D) (ci := 3) (v := .int (g 100 7)) (C := RX3) (T := TX3) (N := 5) hx hb hts iX3 hown hK hP 2 rfl rfl 4 (by decide) (va_Nw.use rfl (hN.1 (124, RX3, "number", "I") (List.mem_of_getElem? (i := 2) rfl))) (fun _ h9 => h9) rfl dX4_closes_33 ?_
      refine lv_icmp_ge (tgt := 60) hx hb dX4_closes_36 (by decide) (fun c_4 => ?_) (fun c_4 => ?_)
      · have hi9 : i < 100 := by
          have z := (p40 hI c_1).1
          have z2 : rn (g 100 7) ≤ 40 := rnle hI.2.1.1 hI.2.1.2 (by decide)
          have z3 := hIz_3.1
          omega
        refine lv_iconst (v := (-1)) hx hb dX4_closes_60 (by decide) ?_
        exact W.iret (v := (-1)) hx hb hr (fun t ht hW => ⟨⟨(-1), (), rfl, (by rw [fCloses, if_pos ⟨c_1, c_2⟩, hIz_3.2, clo_e (nuI hI hi9 c_4)]), ht⟩, hS.F ht⟩) hS.2.2 dX4_closes_61
      · have hi9 : i < 100 := by
          have z := (p40 hI c_1).1
          have z2 : rn (g 100 7) ≤ 40 := rnle hI.2.1.1 hI.2.1.2 (by decide)
          have z3 := hIz_3.1
          omega
        have hlt2 : i < rn (g 100 7) := nuI2 hI hi9 c_4
        have hlt : (i + 1 ≤ rn (g 100 7) ∨ i + 1 ≤ rn p0 + 2) := Or.inl hlt2
        refine lv_aload_n hx hb dX4_closes_39 rfl (lv_at hl 1 rfl) ?_
        refine va_get (D := D) (ci := 4) (v := .ref (ad 2)) (C := RX4) (T := TX4) (N := 14) hx hb hts iX4 hown hK hP 0 rfl rfl 1 (by decide) hw0 (fun _ h9 => h9) rfl dX4_closes_40 ?_
        refine lv_iload_n hx hb dX4_closes_43 rfl (lv_at hl 2 rfl) ?_
        refine lv_iload_n hx hb dX4_closes_44 rfl (lv_at hl 0 rfl) ?_
        refine lv_iload_n hx hb dX4_closes_45 rfl (lv_at hl 3 rfl) ?_
        refine pcI (va_runV (As := [.int p0, .int (nI i), .int y0]) (rest := []) ⟨hx, hb, hml, hown, hts⟩ (kX3_areNear l D cI cO tt ad g b d X s.heap p0 (nI i) y0 hI) (cwV 3 hts gX4_closes_X3_areNear rfl rfl rfl (by decide +kernel) ⟨(Nat.le_of_ble_eq_true rfl), (Nat.le_of_ble_eq_true rfl)⟩) (pwV hK hZ hN hP hS (va_recv hK hP (ci := 3) (q0 := 2) rfl rfl)) rfl rfl hl.1 rfl (lv_room (Nat.le_of_ble_eq_true rfl)) dX4_closes_46 ⟨Nat.zero_le _, Nat.zero_le _⟩) hS (fun locs hS => ?_)
        refine lv_if_eq (tgt := 54) hx hb dX4_closes_49 (by decide) (fun c_5 => ?_) (fun c_5 => ?_)
        · have c_5 := bI_0.mp c_5
          refine lv_iinc (v := nI (i + 1)) (lv' := [(3, .int (nI (i + 1))), (0, .ref (ad 0)), (1, .int p0), (2, .int y0)]) hx hb dX4_closes_54 hl (k := 0) rfl (nI_1 _) (by decide) rfl (fun ls hl => ?_)
          refine lv_goto (tgt := 28) hx hb dX4_closes_57 (by decide) ?_
          exact ihz_3 (i + 1) (show ((i + 1) ≤ rn (g 100 7) ∨ (i + 1) ≤ rn p0 + 2) ∧ clo g p0 y0 (rn (g 100 7) - (rn p0 + 2)) (rn p0 + 2) = clo g p0 y0 (rn (g 100 7) - (i + 1)) (i + 1) from ⟨hlt, by rw [hIz_3.2]; exact clo_s hlt c_5 hlt2⟩) (show rn (g 100 7) - (i + 1) < rn (g 100 7) - i from (by omega)) _ _ hS (lv_sub hl [0, 1, 2, 3] rfl)
        · have c_5 := bI_n0.mp c_5
          refine lv_iload_n hx hb dX4_closes_52 rfl (lv_at hl 0 rfl) ?_
          exact W.iret (v := nI i) hx hb hr (fun t ht hW => ⟨⟨nI i, (), rfl, (by rw [fCloses, if_pos ⟨c_1, c_2⟩, hIz_3.2, clo_h hlt2 c_5]), ht⟩, hS.F ht⟩) hS.2.2 dX4_closes_53
    · have c_2 := bI_0.mp c_2
      refine lv_bipush (v := (-2)) hx hb dX4_closes_21 (by decide) ?_
      exact W.iret (v := (-2)) hx hb hr (fun t ht hW => ⟨⟨(-2), (), rfl, (by grind [fCloses]), ht⟩, hS.F ht⟩) hS.2.2 dX4_closes_23
set_option maxHeartbeats 4000000 in
set_option maxRecDepth 100000 in
theorem kX4_cellsUnder (l : Launch) (D : va_G) (cI cO : ClassId) (tt : Nat) (ad : Nat → Nat) (g : Nat → Nat → Int32) (b : Nat → Int32) (d : Nat → Nat → Int64) (X : va_W) (H0 : Heap) (p0 : Int32) (c0 : Int32) (hI : WI g) : MpI l yX4_cellsUnder wsX4_cellsUnder ({ frames := 2, cells := 0, slots := 0, locals := 42 }) D cI cO tt (LW ad cI cO g b d X) H0 [.ref (ad 0), .int p0, .int c0] (mn (g 100 0) (rw_ g 3 p0) - 1 - c0) := by
  refine Met.ofW (cc := cX4_cellsUnder) (maxL := 3) (ret := (some .int)) (by decide) rfl ?_
  intro p e s m args below meth c s₁ B hml hv
  obtain ⟨rfl, rfl, hP, hK, hZ, hN⟩ := hv
  have hx := B.exec
  have hb := B.bytes
  have hr := B.returns
  have hts := atoms_spec (ws := wsX4_cellsUnder) B.pre
  have hown : s.vm.findClass RX4 = some m.cls := findClass_of_methodNamed B.named
  have hlocks := B.notSynchronized
  have hS : va_S (fun _ => False) s.heap s.heap [] := va_S.rf
  have hl := lv_entry ([.ref (ad 0), .int p0, .int c0]) (n := 3) (Nat.le_of_ble_eq_true rfl)
  rw [lg_entry_eq]
  generalize (lg_sl ([.ref (ad 0), .int p0, .int c0]) ++ List.replicate (3 - (lg_sl ([.ref (ad 0), .int p0, .int c0])).length) Slot.unset).toArray = ls at hl ⊢
  have hl : lv_has ls 3 [(0, .ref (ad 0)), (1, .int p0), (2, .int c0)] := hl
  have hw0 := hts (.fieldLink RX4 45 "LayerSounder" "layers" "I") (List.mem_cons_of_mem _ (List.mem_append_left _ (List.mem_append_left _ (List.mem_of_getElem? (i := 0) rfl))))
  have iX4 : ∀ w ∈ wsX40, w ∈ wsX4_cellsUnder := fun _ h => List.mem_cons_of_mem _ (List.mem_append_left _ (List.mem_append_right _ h))
  have hw2 := hts (.fieldLink RX4 18 "LayerSounder" "track" "LLayerSounder$Track;") (List.mem_cons_of_mem _ (List.mem_append_left _ (List.mem_append_left _ (List.mem_of_getElem? (i := 1) rfl))))
  have hw3 := hts (.methodLink RX4 323 Lib.Math.min.name) (List.mem_cons_of_mem _ (List.mem_append_left _ (List.mem_append_left _ (List.mem_of_getElem? (i := 2) rfl))))
  have hw4 := hts (.static Lib.Math.min.name) (List.mem_cons_of_mem _ (List.mem_append_left _ (List.mem_append_left _ (List.mem_of_getElem? (i := 3) rfl))))
  have hw5 := hts (.initialized "java/lang/Math") (List.mem_cons_of_mem _ (List.mem_append_left _ (List.mem_append_left _ (List.mem_of_getElem? (i := 4) rfl))))
  have hw6 := hts (.code Lib.Math.min.name Lib.Math.min.code 2 (some .int)) (List.mem_cons_of_mem _ (List.mem_append_left _ (List.mem_append_left _ (List.mem_of_getElem? (i := 5) rfl))))
  refine lv_aload_n hx hb dX4_cellsUnder_0 rfl (lv_at hl 0 rfl) ?_
  refine va_get (D := D) (ci := 4) (v := .int (g 100 0)) (C := RX4) (T := TX4) (N := 14) hx hb hts iX4 hown hK hP 0 rfl rfl 7 (by decide) hw0 (fun _ h9 => h9) rfl dX4_cellsUnder_1 ?_
  refine lv_aload_n hx hb dX4_cellsUnder_4 rfl (lv_at hl 0 rfl) ?_
  refine va_get (D := D) (ci := 4) (v := .ref (ad 2)) (C := RX4) (T := TX4) (N := 14) hx hb hts iX4 hown hK hP 0 rfl rfl 1 (by decide) hw2 (fun _ h9 => h9) rfl dX4_cellsUnder_5 ?_
  refine lv_iload_n hx hb dX4_cellsUnder_8 rfl (lv_at hl 1 rfl) ?_
  refine pcI (va_runV (As := [.int p0]) (rest := [.int (g 100 0)]) ⟨hx, hb, hml, hown, hts⟩ (kX3_depthOf l D cI cO tt ad g b d X s.heap p0 hI) (cwV 1 hts gX4_cellsUnder_X3_depthOf rfl rfl rfl (by decide +kernel) ⟨(Nat.le_of_ble_eq_true rfl), (Nat.le_of_ble_eq_true rfl)⟩) (pwV hK hZ hN hP hS (va_recv hK hP (ci := 3) (q0 := 2) rfl rfl)) rfl rfl hl.1 rfl (lv_room (Nat.le_of_ble_eq_true rfl)) dX4_cellsUnder_9 ⟨Nat.zero_le _, Nat.zero_le _⟩) hS (fun locs hS => ?_)
  refine va_mmin hx hb (hml.trans hl.1.symm) hown hw3 hw4 hw5 hw6 (Nat.le_of_ble_eq_true rfl) (Nat.le_of_ble_eq_true rfl) (Nat.zero_le _) (Nat.zero_le _) dX4_cellsUnder_12 ?_
  refine lv_iconst (v := 1) hx hb dX4_cellsUnder_15 (by decide) ?_
  refine lv_isub hx hb dX4_cellsUnder_16 ?_
  refine lv_iload_n hx hb dX4_cellsUnder_17 rfl (lv_at hl 2 rfl) ?_
  refine lv_isub hx hb dX4_cellsUnder_18 ?_
  exact W.iret (v := ((if rw_ g 3 p0 < g 100 0 then rw_ g 3 p0 else g 100 0) - 1) - c0) hx hb hr (fun t ht hW => ⟨⟨((if rw_ g 3 p0 < g 100 0 then rw_ g 3 p0 else g 100 0) - 1) - c0, (), rfl, (by rfl), ht⟩, hS.F ht⟩) hS.2.2 dX4_cellsUnder_19
set_option maxHeartbeats 4000000 in
set_option maxRecDepth 100000 in
theorem kX4_flowOfPace (l : Launch) (D : va_G) (cI cO : ClassId) (tt : Nat) (ad : Nat → Nat) (g : Nat → Nat → Int32) (b : Nat → Int32) (d : Nat → Nat → Int64) (X : va_W) (H0 : Heap) (p0 : Int32) (hI : WI g) : MpL l yX4_flowOfPace wsX4_flowOfPace ({ frames := 3, cells := 0, slots := 0, locals := 65 }) D cI cO tt (LW ad cI cO g b d X) H0 [.ref (ad 0), .int p0] ((xT (d 1 0) (d 1 1) (g 100 2) + d 1 2) * (rw_ g 2 (p0 + 1) - rw_ g 2 p0).toInt64 - (yT (d 1 0) (d 1 1) (g 100 2) + d 1 3) * (rw_ g 1 (p0 + 1) - rw_ g 1 p0).toInt64) := by
  refine Met.ofW (cc := cX4_flowOfPace) (maxL := 2) (ret := (some .long)) (by decide) rfl ?_
  intro p e s m args below meth c s₁ B hml hv
  obtain ⟨rfl, rfl, hP, hK, hZ, hN⟩ := hv
  have hx := B.exec
  have hb := B.bytes
  have hr := B.returns
  have hts := atoms_spec (ws := wsX4_flowOfPace) B.pre
  have hown : s.vm.findClass RX4 = some m.cls := findClass_of_methodNamed B.named
  have hlocks := B.notSynchronized
  have hS : va_S (fun _ => False) s.heap s.heap [] := va_S.rf
  have hl := lv_entry ([.ref (ad 0), .int p0]) (n := 2) (Nat.le_of_ble_eq_true rfl)
  rw [lg_entry_eq]
  generalize (lg_sl ([.ref (ad 0), .int p0]) ++ List.replicate (2 - (lg_sl ([.ref (ad 0), .int p0])).length) Slot.unset).toArray = ls at hl ⊢
  have hl : lv_has ls 2 [(0, .ref (ad 0)), (1, .int p0)] := hl
  have hw0 := hts (.fieldLink RX4 36 "LayerSounder" "paceDrift" "LLayerSounder$Drift;") (List.mem_cons_of_mem _ (List.mem_append_left _ (List.mem_append_left _ (List.mem_append_left _ (List.mem_append_left _ (List.mem_of_getElem? (l := wsX4_flowOfPace_r1) (i := 0) rfl))))))
  have iX4 : ∀ w ∈ wsX40, w ∈ wsX4_flowOfPace := fun _ h => List.mem_cons_of_mem _ (List.mem_append_left _ (List.mem_append_left _ (List.mem_append_right _ h)))
  have hw2 := hts (.fieldLink RX4 52 "LayerSounder" "skewTurn" "I") (List.mem_cons_of_mem _ (List.mem_append_left _ (List.mem_append_left _ (List.mem_append_left _ (List.mem_append_left _ (List.mem_of_getElem? (l := wsX4_flowOfPace_r1) (i := 1) rfl))))))
  have hw3 := hts (.fieldLink RX4 18 "LayerSounder" "track" "LLayerSounder$Track;") (List.mem_cons_of_mem _ (List.mem_append_left _ (List.mem_append_left _ (List.mem_append_left _ (List.mem_append_left _ (List.mem_of_getElem? (l := wsX4_flowOfPace_r1) (i := 2) rfl))))))
  refine lv_aload_n hx hb dX4_flowOfPace_0 rfl (lv_at hl 0 rfl) ?_
  refine va_get (D := D) (ci := 4) (v := .ref (ad 5)) (C := RX4) (T := TX4) (N := 14) hx hb hts iX4 hown hK hP 0 rfl rfl 4 (by decide) hw0 (fun _ h9 => h9) rfl dX4_flowOfPace_1 ?_
  refine lv_aload_n hx hb dX4_flowOfPace_4 rfl (lv_at hl 0 rfl) ?_
  refine va_get (D := D) (ci := 4) (v := .int (g 100 2)) (C := RX4) (T := TX4) (N := 14) hx hb hts iX4 hown hK hP 0 rfl rfl 9 (by decide) hw2 (fun _ h9 => h9) rfl dX4_flowOfPace_5 ?_
  refine pcL (va_runV (As := [.int (g 100 2)]) (rest := []) ⟨hx, hb, hml, hown, hts⟩ (kX1_east l D cI cO tt ad g b d X s.heap 1 (g 100 2) (by decide)) (cwV 1 hts gX4_flowOfPace_X1_east rfl rfl rfl (by decide +kernel) ⟨(Nat.le_of_ble_eq_true rfl), (Nat.le_of_ble_eq_true rfl)⟩) (pwV hK hZ hN hP hS (va_recv hK hP (ci := 1) (q0 := 5) rfl rfl)) rfl rfl hl.1 rfl (lv_room (Nat.le_of_ble_eq_true rfl)) dX4_flowOfPace_8 ⟨Nat.zero_le _, Nat.zero_le _⟩) hS (fun locs hS => ?_)
  refine lv_aload_n hx hb dX4_flowOfPace_11 rfl (lv_at hl 0 rfl) ?_
  refine va_get (D := D) (ci := 4) (v := .ref (ad 2)) (C := RX4) (T := TX4) (N := 14) hx hb hts iX4 hown hK hP 0 rfl rfl 1 (by decide) hw3 (fun _ h9 => h9) rfl dX4_flowOfPace_12 ?_
  refine lv_iload_n hx hb dX4_flowOfPace_15 rfl (lv_at hl 1 rfl) ?_
  refine pcL (va_runV (As := [.int p0]) (rest := [.long (xT (d 1 0) (d 1 1) (g 100 2) + d 1 2)]) ⟨hx, hb, hml, hown, hts⟩ (kX3_stepY l D cI cO tt ad g b d X s.heap p0 hI) (cwV 1 hts gX4_flowOfPace_X3_stepY rfl rfl rfl (by decide +kernel) ⟨(Nat.le_of_ble_eq_true rfl), (Nat.le_of_ble_eq_true rfl)⟩) (pwV hK hZ hN hP hS (va_recv hK hP (ci := 3) (q0 := 2) rfl rfl)) rfl rfl hl.1 rfl (lv_room (Nat.le_of_ble_eq_true rfl)) dX4_flowOfPace_16 ⟨Nat.zero_le _, Nat.zero_le _⟩) hS (fun locs hS => ?_)
  refine lv_lmul hx hb dX4_flowOfPace_19 ?_
  refine lv_aload_n hx hb dX4_flowOfPace_20 rfl (lv_at hl 0 rfl) ?_
  refine va_get (D := D) (ci := 4) (v := .ref (ad 5)) (C := RX4) (T := TX4) (N := 14) hx hb hts iX4 hown hK hP 0 rfl rfl 4 (by decide) hw0 (fun _ h9 => h9) rfl dX4_flowOfPace_21 ?_
  refine lv_aload_n hx hb dX4_flowOfPace_24 rfl (lv_at hl 0 rfl) ?_
  refine va_get (D := D) (ci := 4) (v := .int (g 100 2)) (C := RX4) (T := TX4) (N := 14) hx hb hts iX4 hown hK hP 0 rfl rfl 9 (by decide) hw2 (fun _ h9 => h9) rfl dX4_flowOfPace_25 ?_
  refine pcL (va_runV (As := [.int (g 100 2)]) (rest := [.long ((xT (d 1 0) (d 1 1) (g 100 2) + d 1 2) * ((rw_ g 2 (p0 + 1) - rw_ g 2 p0).toInt64))]) ⟨hx, hb, hml, hown, hts⟩ (kX1_north l D cI cO tt ad g b d X s.heap 1 (g 100 2) (by decide)) (cwV 1 hts gX4_flowOfPace_X1_north rfl rfl rfl (by decide +kernel) ⟨(Nat.le_of_ble_eq_true rfl), (Nat.le_of_ble_eq_true rfl)⟩) (pwV hK hZ hN hP hS (va_recv hK hP (ci := 1) (q0 := 5) rfl rfl)) rfl rfl hl.1 rfl (lv_room (Nat.le_of_ble_eq_true rfl)) dX4_flowOfPace_28 ⟨Nat.zero_le _, Nat.zero_le _⟩) hS (fun locs hS => ?_)
  refine lv_aload_n hx hb dX4_flowOfPace_31 rfl (lv_at hl 0 rfl) ?_
  refine va_get (D := D) (ci := 4) (v := .ref (ad 2)) (C := RX4) (T := TX4) (N := 14) hx hb hts iX4 hown hK hP 0 rfl rfl 1 (by decide) hw3 (fun _ h9 => h9) rfl dX4_flowOfPace_32 ?_
  refine lv_iload_n hx hb dX4_flowOfPace_35 rfl (lv_at hl 1 rfl) ?_
  refine pcL (va_runV (As := [.int p0]) (rest := [.long (yT (d 1 0) (d 1 1) (g 100 2) + d 1 3), .long ((xT (d 1 0) (d 1 1) (g 100 2) + d 1 2) * ((rw_ g 2 (p0 + 1) - rw_ g 2 p0).toInt64))]) ⟨hx, hb, hml, hown, hts⟩ (kX3_stepX l D cI cO tt ad g b d X s.heap p0 hI) (cwV 1 hts gX4_flowOfPace_X3_stepX rfl rfl rfl (by decide +kernel) ⟨(Nat.le_of_ble_eq_true rfl), (Nat.le_of_ble_eq_true rfl)⟩) (pwV hK hZ hN hP hS (va_recv hK hP (ci := 3) (q0 := 2) rfl rfl)) rfl rfl hl.1 rfl (lv_room (Nat.le_of_ble_eq_true rfl)) dX4_flowOfPace_36 ⟨Nat.zero_le _, Nat.zero_le _⟩) hS (fun locs hS => ?_)
  refine lv_lmul hx hb dX4_flowOfPace_39 ?_
  refine lv_lsub hx hb dX4_flowOfPace_40 ?_
  exact W.lret (v := ((xT (d 1 0) (d 1 1) (g 100 2) + d 1 2) * ((rw_ g 2 (p0 + 1) - rw_ g 2 p0).toInt64)) - ((yT (d 1 0) (d 1 1) (g 100 2) + d 1 3) * ((rw_ g 1 (p0 + 1) - rw_ g 1 p0).toInt64))) hx hb hr (fun t ht hW => ⟨⟨((xT (d 1 0) (d 1 1) (g 100 2) + d 1 2) * ((rw_ g 2 (p0 + 1) - rw_ g 2 p0).toInt64)) - ((yT (d 1 0) (d 1 1) (g 100 2) + d 1 3) * ((rw_ g 1 (p0 + 1) - rw_ g 1 p0).toInt64)), (), rfl, (by rfl), ht⟩, hS.F ht⟩) hS.2.2 dX4_flowOfPace_41
set_option maxHeartbeats 4000000 in
set_option maxRecDepth 100000 in
theorem kX4_flowOfPing (l : Launch) (D : va_G) (cI cO : ClassId) (tt : Nat) (ad : Nat → Nat) (g : Nat → Nat → Int32) (b : Nat → Int32) (d : Nat → Nat → Int64) (X : va_W) (sz : Nat) (p0 : Int32) (e0 : Int32) (hI : WI g) : MmL l yX4_flowOfPing wsX4_flowOfPing ({ frames := 4, cells := 0, slots := 0, locals := 98 }) D cI cO tt (LW ad cI cO g b d X) sz [.ref (ad 0), .int p0, .int e0] (S := (Nat → Int32) × (Nat → Nat → Int64)) (fun u => LW ad cI cO g u.1 u.2 X) (fun z _ => z = flV g p0 e0) := by
  refine Met.ofW (cc := cX4_flowOfPing) (maxL := 10) (ret := (some .long)) (by decide) rfl ?_
  intro p e s m args below meth c s₁ B hml hv
  obtain ⟨rfl, hsz, hP, hK, hD0, hZ, hN⟩ := hv
  have hx := B.exec
  have hb := B.bytes
  have hr := B.returns
  have hts := atoms_spec (ws := wsX4_flowOfPing) B.pre
  have hown : s.vm.findClass RX4 = some m.cls := findClass_of_methodNamed B.named
  have hlocks := B.notSynchronized
  subst hsz
  have hD := hD0.self (sz := s.heap.size)
  generalize hAe : va_A (LW ad cI cO g b d X) s.heap.size = A at hD hZ ⊢
  have hA : ∀ q : Nat, s.heap.size ≤ q → A q := fun q h => by rw [← hAe]; exact Or.inr h
  have hS : va_S A s.heap s.heap [] := va_S.rf
  have hl := lv_entry ([.ref (ad 0), .int p0, .int e0]) (n := 10) (Nat.le_of_ble_eq_true rfl)
  rw [lg_entry_eq]
  generalize (lg_sl ([.ref (ad 0), .int p0, .int e0]) ++ List.replicate (10 - (lg_sl ([.ref (ad 0), .int p0, .int e0])).length) Slot.unset).toArray = ls at hl ⊢
  have hl : lv_has ls 10 [(0, .ref (ad 0)), (1, .int p0), (2, .int e0)] := hl
  have hw0 := hts (.fieldLink RX4 45 "LayerSounder" "layers" "I") (List.mem_cons_of_mem _ (List.mem_append_left _ (List.mem_append_left _ (List.mem_append_left _ (List.mem_append_left _ (List.mem_append_left _ (List.mem_append_left _ (List.mem_of_getElem? (l := wsX4_flowOfPing_r1) (i := 0) rfl))))))))
  have iX4 : ∀ w ∈ wsX40, w ∈ wsX4_flowOfPing := fun _ h => List.mem_cons_of_mem _ (List.mem_append_left _ (List.mem_append_left _ (List.mem_append_left _ (List.mem_append_left _ (List.mem_append_right _ h)))))
  refine lv_aload_n hx hb dX4_flowOfPing_0 rfl (lv_at hl 0 rfl) ?_
  refine lv_iload_n hx hb dX4_flowOfPing_1 rfl (lv_at hl 1 rfl) ?_
  refine mcI (wf := fun u : (Nat → Int32) × (Nat → Nat → Int64) => LW ad cI cO g u.1 u.2 X) (va_runV (As := [.int p0]) (rest := []) ⟨hx, hb, hml, hown, hts⟩ (kX4_findOwn l D cI cO tt ad g b d X s.heap.size p0 hI) (cwV 1 hts gX4_flowOfPing_X4_findOwn rfl rfl rfl (by decide +kernel) ⟨(Nat.le_of_ble_eq_true rfl), (Nat.le_of_ble_eq_true rfl)⟩) (mwV hK hZ hN hP hD hS hA (va_recv hK hP (ci := 4) (q0 := 0) rfl rfl)) rfl rfl hl.1 rfl (lv_room (Nat.le_of_ble_eq_true rfl)) dX4_flowOfPing_2 ⟨Nat.zero_le _, Nat.zero_le _⟩) hD hS hA (fun ru_1 uu_1 H locs hu_1 hP hD hS => ?_)
  obtain ⟨bu_1, du_1⟩ := uu_1
  have hP : va_P D vwCl (LW ad cI cO g bu_1 du_1 X) H := hP
  have hD : va_D A (LW ad cI cO g bu_1 du_1 X) := hD
  have hu_1 : foP g p0 d ru_1 du_1 := hu_1
  obtain ⟨eru_1, hfu_1⟩ : ru_1 = bI (oOk g p0) ∧ foP g p0 d (bI (oOk g p0)) du_1 := ⟨hu_1.1, hu_1.1 ▸ hu_1⟩
  subst eru_1
  refine lv_istore_n (lv' := [(3, .int (bI (oOk g p0))), (0, .ref (ad 0)), (1, .int p0), (2, .int e0)]) hx hb dX4_flowOfPing_5 rfl hl (by decide) rfl (fun ls hl => ?_)
  refine lv_lconst (v := 0) hx hb dX4_flowOfPing_6 (by decide) ?_
  refine lv_lstore (lv' := [(4, .long 0), (3, .int (bI (oOk g p0))), (0, .ref (ad 0)), (1, .int p0), (2, .int e0)]) hx hb dX4_flowOfPing_7 hl (by decide) rfl (fun ls hl => ?_)
  refine lv_lconst (v := 0) hx hb dX4_flowOfPing_9 (by decide) ?_
  refine lv_lstore (lv' := [(6, .long 0), (4, .long 0), (3, .int (bI (oOk g p0))), (0, .ref (ad 0)), (1, .int p0), (2, .int e0)]) hx hb dX4_flowOfPing_10 hl (by decide) rfl (fun ls hl => ?_)
  refine lv_iconst (v := (-1)) hx hb dX4_flowOfPing_12 (by decide) ?_
  refine lv_istore (lv' := [(8, .int (-1)), (6, .long 0), (4, .long 0), (3, .int (bI (oOk g p0))), (0, .ref (ad 0)), (1, .int p0), (2, .int e0)]) hx hb dX4_flowOfPing_13 hl (by decide) rfl (fun ls hl => ?_)
  refine lv_iconst (v := 0) hx hb dX4_flowOfPing_15 (by decide) ?_
  refine lv_istore (lv' := [(9, .int 0), (8, .int (-1)), (6, .long 0), (4, .long 0), (3, .int (bI (oOk g p0))), (0, .ref (ad 0)), (1, .int p0), (2, .int e0)]) hx hb dX4_flowOfPing_16 hl (by decide) rfl (fun ls hl => ?_)
  refine wloop (D := D) (A := A) (σ := Nat × Int64 × Int64 × Int32 × (Nat → Int32) × (Nat → Nat → Int64)) (pc := 18) (nL := 10) (fun z_2 => [(9, .int (nI z_2.1)), (8, .int z_2.2.2.2.1), (6, .long z_2.2.2.1), (4, .long z_2.2.1), (3, .int (bI (oOk g p0))), (0, .ref (ad 0)), (1, .int p0), (2, .int e0)]) (fun z_2 => LW ad cI cO g z_2.2.2.2.2.1 z_2.2.2.2.2.2 X) (fun z_2 => z_2.1 ≤ rn (g 100 0) ∧ flP g p0 e0 z_2.1 z_2.2.1 z_2.2.2.1 z_2.2.2.2.1 z_2.2.2.2.2.2) (fun z_2 => rn (g 100 0) - z_2.1) (fun z_2 hIz_2 ihz_2 H locs ls hP hD hS hl => ?_) (0, 0, 0, (-1), bu_1, du_1) (⟨Nat.zero_le _, hfu_1.2.1, rfl, rfl, rfl⟩) _ _ _ hP hD hS (lv_sub hl [0, 1, 2, 3, 4, 5, 6, 7] rfl)
  obtain ⟨i, sv, lv, wv, b1, d1⟩ := z_2
  have hP : va_P D vwCl (LW ad cI cO g b1 d1 X) H := hP
  have hD : va_D A (LW ad cI cO g b1 d1 X) := hD
  have hl : lv_has ls 10 [(9, .int (nI i)), (8, .int wv), (6, .long lv), (4, .long sv), (3, .int (bI (oOk g p0))), (0, .ref (ad 0)), (1, .int p0), (2, .int e0)] := hl
  have hIz_2 : i ≤ rn (g 100 0) ∧ flP g p0 e0 i sv lv wv d1 := hIz_2
  refine lv_iload hx hb dX4_flowOfPing_18 (lv_at hl 0 rfl) ?_
  refine lv_aload_n hx hb dX4_flowOfPing_20 rfl (lv_at hl 5 rfl) ?_
  refine va_get (D := D) (ci := 4) (v := .int (g 100 0)) (C := RX4) (T := TX4) (N := 14) hx hb hts iX4 hown hK hP 0 rfl rfl 7 (by decide) hw0 (fun _ h9 => h9) rfl dX4_flowOfPing_21 ?_
  refine lv_icmp_ge (tgt := 90) hx hb dX4_flowOfPing_24 (by decide) (fun c_3 => ?_) (fun c_3 => ?_)
  · refine lv_iload_n hx hb dX4_flowOfPing_90 rfl (lv_at hl 7 rfl) ?_
    refine lv_if_eq (tgt := 111) hx hb dX4_flowOfPing_91 (by decide) (fun c_4 => ?_) (fun c_4 => ?_)
    · refine lv_lload hx hb dX4_flowOfPing_111 (lv_at hl 3 rfl) ?_
      exact W.lret (v := sv) hx hb hr (fun t ht hW => ⟨⟨sv, (b1, d1), rfl, (by obtain ⟨-, z1, z2, z3⟩ := hIz_2.2; have z4 := nlast (la0 hI) hIz_2.1 c_3; rw [← z4] at z1 z2 z3; rw [flV, if_pos c_4, z1]), by rw [ht]; exact hP, hD⟩, hS.F ht⟩) hS.2.2 dX4_flowOfPing_113
    · refine lv_lload hx hb dX4_flowOfPing_94 (lv_at hl 3 rfl) ?_
      refine lv_lload hx hb dX4_flowOfPing_96 (lv_at hl 2 rfl) ?_
      refine lv_aload_n hx hb dX4_flowOfPing_98 rfl (lv_at hl 5 rfl) ?_
      refine lv_iload_n hx hb dX4_flowOfPing_99 rfl (lv_at hl 6 rfl) ?_
      refine lv_iload hx hb dX4_flowOfPing_100 (lv_at hl 1 rfl) ?_
      refine pcI (va_runV (As := [.int p0, .int wv]) (rest := [.long lv, .long sv]) ⟨hx, hb, hml, hown, hts⟩ (kX4_cellsUnder l D cI cO tt ad g b1 d1 X H p0 wv hI) (cwV 2 hts gX4_flowOfPing_X4_cellsUnder rfl rfl rfl (by decide +kernel) ⟨(Nat.le_of_ble_eq_true rfl), (Nat.le_of_ble_eq_true rfl)⟩) (pwV hK hZ hN hP hS (va_recv hK hP (ci := 4) (q0 := 0) rfl rfl)) rfl rfl hl.1 rfl (lv_room (Nat.le_of_ble_eq_true rfl)) dX4_flowOfPing_102 ⟨Nat.zero_le _, Nat.zero_le _⟩) hS (fun locs hS => ?_)
      refine lv_i2l hx hb dX4_flowOfPing_105 rfl ?_
      refine lv_lmul hx hb dX4_flowOfPing_106 ?_
      refine lv_ladd hx hb dX4_flowOfPing_107 ?_
      refine lv_goto (tgt := 113) hx hb dX4_flowOfPing_108 (by decide) ?_
      exact W.lret (v := sv + (lv * ((mn (g 100 0) (rw_ g 3 p0) - 1 - wv).toInt64))) hx hb hr (fun t ht hW => ⟨⟨sv + (lv * ((mn (g 100 0) (rw_ g 3 p0) - 1 - wv).toInt64)), (b1, d1), rfl, (by obtain ⟨-, z1, z2, z3⟩ := hIz_2.2; have z4 := nlast (la0 hI) hIz_2.1 c_3; rw [← z4] at z1 z2 z3; rw [flV, if_neg c_4, z1, z2, z3]), by rw [ht]; exact hP, hD⟩, hS.F ht⟩) hS.2.2 dX4_flowOfPing_113
  · have hlt := laN hI hIz_2.1 c_3
    refine lv_aload_n hx hb dX4_flowOfPing_27 rfl (lv_at hl 5 rfl) ?_
    refine lv_iload_n hx hb dX4_flowOfPing_28 rfl (lv_at hl 6 rfl) ?_
    refine lv_iload hx hb dX4_flowOfPing_29 (lv_at hl 0 rfl) ?_
    refine lv_iload_n hx hb dX4_flowOfPing_31 rfl (lv_at hl 4 rfl) ?_
    refine mcI (wf := fun u : Nat → Int32 => LW ad cI cO g u d1 X) (va_runV (As := [.int p0, .int (nI i), .int (bI (oOk g p0))]) (rest := []) ⟨hx, hb, hml, hown, hts⟩ (kX4_judge l D cI cO tt ad g b1 d1 X H.size p0 (nI i) (bI (oOk g p0)) hI) (cwV 3 hts gX4_flowOfPing_X4_judge rfl rfl rfl (by decide +kernel) ⟨(Nat.le_of_ble_eq_true rfl), (Nat.le_of_ble_eq_true rfl)⟩) (mwV hK hZ hN hP hD hS hA (va_recv hK hP (ci := 4) (q0 := 0) rfl rfl)) rfl rfl hl.1 rfl (lv_room (Nat.le_of_ble_eq_true rfl)) dX4_flowOfPing_32 ⟨Nat.zero_le _, Nat.zero_le _⟩) hD hS hA (fun ru_5 uu_5 H locs hu_5 hP hD hS => ?_)
    have hP : va_P D vwCl (LW ad cI cO g uu_5 d1 X) H := hP
    have hD : va_D A (LW ad cI cO g uu_5 d1 X) := hD
    obtain ⟨eru_5, hju_5⟩ : ru_5 = fateV g p0 (nI i) (bI (oOk g p0)) ∧ jdP g p0 (nI i) (bI (oOk g p0)) (fateV g p0 (nI i) (bI (oOk g p0))) uu_5 := ⟨hu_5.1, hu_5.1 ▸ hu_5⟩
    subst eru_5
    refine lv_if_eq (tgt := 41) hx hb dX4_flowOfPing_35 (by decide) (fun c_6 => ?_) (fun c_6 => ?_)
    · refine lv_aload_n hx hb dX4_flowOfPing_41 rfl (lv_at hl 5 rfl) ?_
      refine lv_iload_n hx hb dX4_flowOfPing_42 rfl (lv_at hl 6 rfl) ?_
      refine mcV (wf := fun u : Nat → Nat → Int64 => LW ad cI cO g uu_5 u X) (va_runV (As := [.int p0]) (rest := []) ⟨hx, hb, hml, hown, hts⟩ (kX4_findPace l D cI cO tt ad g uu_5 d1 X H.size p0 hI) (cwV 1 hts gX4_flowOfPing_X4_findPace rfl rfl rfl (by decide +kernel) ⟨(Nat.le_of_ble_eq_true rfl), (Nat.le_of_ble_eq_true rfl)⟩) (mwV hK hZ hN hP hD hS hA (va_recv hK hP (ci := 4) (q0 := 0) rfl rfl)) rfl rfl hl.1 rfl (lv_room (Nat.le_of_ble_eq_true rfl)) dX4_flowOfPing_43 ⟨Nat.zero_le _, Nat.zero_le _⟩) hD hS hA (fun uu_7 H locs hu_7 hP hD hS => ?_)
      have hP : va_P D vwCl (LW ad cI cO g uu_5 uu_7 X) H := hP
      have hD : va_D A (LW ad cI cO g uu_5 uu_7 X) := hD
      refine lv_aload_n hx hb dX4_flowOfPing_46 rfl (lv_at hl 5 rfl) ?_
      refine lv_iload_n hx hb dX4_flowOfPing_47 rfl (lv_at hl 6 rfl) ?_
      refine pcL (va_runV (As := [.int p0]) (rest := []) ⟨hx, hb, hml, hown, hts⟩ (kX4_flowOfPace l D cI cO tt ad g uu_5 uu_7 X H p0 hI) (cwV 1 hts gX4_flowOfPing_X4_flowOfPace rfl rfl rfl (by decide +kernel) ⟨(Nat.le_of_ble_eq_true rfl), (Nat.le_of_ble_eq_true rfl)⟩) (pwV hK hZ hN hP hS (va_recv hK hP (ci := 4) (q0 := 0) rfl rfl)) rfl rfl hl.1 rfl (lv_room (Nat.le_of_ble_eq_true rfl)) dX4_flowOfPing_48 ⟨Nat.zero_le _, Nat.zero_le _⟩) hS (fun locs hS => ?_)
      refine lv_lstore (lv' := [(6, .long ((xT (uu_7 1 0) (uu_7 1 1) (g 100 2) + uu_7 1 2) * (rw_ g 2 (p0 + 1) - rw_ g 2 p0).toInt64 - (yT (uu_7 1 0) (uu_7 1 1) (g 100 2) + uu_7 1 3) * (rw_ g 1 (p0 + 1) - rw_ g 1 p0).toInt64)), (9, .int (nI i)), (8, .int wv), (4, .long sv), (3, .int (bI (oOk g p0))), (0, .ref (ad 0)), (1, .int p0), (2, .int e0)]) hx hb dX4_flowOfPing_51 hl (by decide) rfl (fun ls hl => ?_)
      refine lv_iload_n hx hb dX4_flowOfPing_53 rfl (lv_at hl 7 rfl) ?_
      refine lv_if_eq (tgt := 73) hx hb dX4_flowOfPing_54 (by decide) (fun c_8 => ?_) (fun c_8 => ?_)
      · refine lv_lload hx hb dX4_flowOfPing_73 (lv_at hl 3 rfl) ?_
        refine lv_lload hx hb dX4_flowOfPing_75 (lv_at hl 0 rfl) ?_
        refine lv_ladd hx hb dX4_flowOfPing_77 ?_
        refine lv_lstore (lv' := [(4, .long (sv + ((xT (uu_7 1 0) (uu_7 1 1) (g 100 2) + uu_7 1 2) * (rw_ g 2 (p0 + 1) - rw_ g 2 p0).toInt64 - (yT (uu_7 1 0) (uu_7 1 1) (g 100 2) + uu_7 1 3) * (rw_ g 1 (p0 + 1) - rw_ g 1 p0).toInt64))), (6, .long ((xT (uu_7 1 0) (uu_7 1 1) (g 100 2) + uu_7 1 2) * (rw_ g 2 (p0 + 1) - rw_ g 2 p0).toInt64 - (yT (uu_7 1 0) (uu_7 1 1) (g 100 2) + uu_7 1 3) * (rw_ g 1 (p0 + 1) - rw_ g 1 p0).toInt64)), (9, .int (nI i)), (8, .int wv), (3, .int (bI (oOk g p0))), (0, .ref (ad 0)), (1, .int p0), (2, .int e0)]) hx hb dX4_flowOfPing_78 hl (by decide) rfl (fun ls hl => ?_)
        refine lv_iload hx hb dX4_flowOfPing_80 (lv_at hl 2 rfl) ?_
        refine lv_istore (lv' := [(8, .int (nI i)), (4, .long (sv + ((xT (uu_7 1 0) (uu_7 1 1) (g 100 2) + uu_7 1 2) * (rw_ g 2 (p0 + 1) - rw_ g 2 p0).toInt64 - (yT (uu_7 1 0) (uu_7 1 1) (g 100 2) + uu_7 1 3) * (rw_ g 1 (p0 + 1) - rw_ g 1 p0).toInt64))), (6, .long ((xT (uu_7 1 0) (uu_7 1 1) (g 100 2) + uu_7 1 2) * (rw_ g 2 (p0 + 1) - rw_ g 2 p0).toInt64 - (yT (uu_7 1 0) (uu_7 1 1) (g 100 2) + uu_7 1 3) * (rw_ g 1 (p0 + 1) - rw_ g 1 p0).toInt64)), (9, .int (nI i)), (3, .int (bI (oOk g p0))), (0, .ref (ad 0)), (1, .int p0), (2, .int e0)]) hx hb dX4_flowOfPing_82 hl (by decide) rfl (fun ls hl => ?_)
        refine lv_iinc (v := nI (i + 1)) (lv' := [(9, .int (nI (i + 1))), (8, .int (nI i)), (4, .long (sv + ((xT (uu_7 1 0) (uu_7 1 1) (g 100 2) + uu_7 1 2) * (rw_ g 2 (p0 + 1) - rw_ g 2 p0).toInt64 - (yT (uu_7 1 0) (uu_7 1 1) (g 100 2) + uu_7 1 3) * (rw_ g 1 (p0 + 1) - rw_ g 1 p0).toInt64))), (6, .long ((xT (uu_7 1 0) (uu_7 1 1) (g 100 2) + uu_7 1 2) * (rw_ g 2 (p0 + 1) - rw_ g 2 p0).toInt64 - (yT (uu_7 1 0) (uu_7 1 1) (g 100 2) + uu_7 1 3) * (rw_ g 1 (p0 + 1) - rw_ g 1 p0).toInt64)), (3, .int (bI (oOk g p0))), (0, .ref (ad 0)), (1, .int p0), (2, .int e0)]) hx hb dX4_flowOfPing_84 hl (k := 3) rfl (nI_1 _) (by decide) rfl (fun ls hl => ?_)
        refine lv_goto (tgt := 18) hx hb dX4_flowOfPing_87 (by decide) ?_
        obtain ⟨z1, z2, -⟩ := pD_ok2 hIz_2.2.1 c_6 hju_5 hu_7
        exact ihz_2 (i + 1, sv + ((xT (uu_7 1 0) (uu_7 1 1) (g 100 2) + uu_7 1 2) * (rw_ g 2 (p0 + 1) - rw_ g 2 p0).toInt64 - (yT (uu_7 1 0) (uu_7 1 1) (g 100 2) + uu_7 1 3) * (rw_ g 1 (p0 + 1) - rw_ g 1 p0).toInt64), (xT (uu_7 1 0) (uu_7 1 1) (g 100 2) + uu_7 1 2) * (rw_ g 2 (p0 + 1) - rw_ g 2 p0).toInt64 - (yT (uu_7 1 0) (uu_7 1 1) (g 100 2) + uu_7 1 3) * (rw_ g 1 (p0 + 1) - rw_ g 1 p0).toInt64, nI i, uu_5, uu_7) (show (i + 1) ≤ rn (g 100 0) ∧ flP g p0 e0 (i + 1) (sv + ((xT (uu_7 1 0) (uu_7 1 1) (g 100 2) + uu_7 1 2) * (rw_ g 2 (p0 + 1) - rw_ g 2 p0).toInt64 - (yT (uu_7 1 0) (uu_7 1 1) (g 100 2) + uu_7 1 3) * (rw_ g 1 (p0 + 1) - rw_ g 1 p0).toInt64)) ((xT (uu_7 1 0) (uu_7 1 1) (g 100 2) + uu_7 1 2) * (rw_ g 2 (p0 + 1) - rw_ g 2 p0).toInt64 - (yT (uu_7 1 0) (uu_7 1 1) (g 100 2) + uu_7 1 3) * (rw_ g 1 (p0 + 1) - rw_ g 1 p0).toInt64) (nI i) uu_7 from ⟨hlt.1, fl_yes hIz_2.2 c_6 z2 (fl_v z1) (congrArg (fun q => q + _) ((if_neg (fun q => q.1 c_8)).symm))⟩) (show rn (g 100 0) - (i + 1) < rn (g 100 0) - i from (Nat.sub_lt_sub_left hlt.1 (Nat.lt_succ_self i))) _ _ _ hP hD hS (lv_sub hl [0, 1, 3, 2, 4, 5, 6, 7] rfl)
      · refine lv_iload hx hb dX4_flowOfPing_57 (lv_at hl 2 rfl) ?_
        refine lv_if_ge (tgt := 73) hx hb dX4_flowOfPing_59 (by decide) (fun c_9 => ?_) (fun c_9 => ?_)
        · refine lv_lload hx hb dX4_flowOfPing_73 (lv_at hl 3 rfl) ?_
          refine lv_lload hx hb dX4_flowOfPing_75 (lv_at hl 0 rfl) ?_
          refine lv_ladd hx hb dX4_flowOfPing_77 ?_
          refine lv_lstore (lv' := [(4, .long (sv + ((xT (uu_7 1 0) (uu_7 1 1) (g 100 2) + uu_7 1 2) * (rw_ g 2 (p0 + 1) - rw_ g 2 p0).toInt64 - (yT (uu_7 1 0) (uu_7 1 1) (g 100 2) + uu_7 1 3) * (rw_ g 1 (p0 + 1) - rw_ g 1 p0).toInt64))), (6, .long ((xT (uu_7 1 0) (uu_7 1 1) (g 100 2) + uu_7 1 2) * (rw_ g 2 (p0 + 1) - rw_ g 2 p0).toInt64 - (yT (uu_7 1 0) (uu_7 1 1) (g 100 2) + uu_7 1 3) * (rw_ g 1 (p0 + 1) - rw_ g 1 p0).toInt64)), (9, .int (nI i)), (8, .int wv), (3, .int (bI (oOk g p0))), (0, .ref (ad 0)), (1, .int p0), (2, .int e0)]) hx hb dX4_flowOfPing_78 hl (by decide) rfl (fun ls hl => ?_)
          refine lv_iload hx hb dX4_flowOfPing_80 (lv_at hl 2 rfl) ?_
          refine lv_istore (lv' := [(8, .int (nI i)), (4, .long (sv + ((xT (uu_7 1 0) (uu_7 1 1) (g 100 2) + uu_7 1 2) * (rw_ g 2 (p0 + 1) - rw_ g 2 p0).toInt64 - (yT (uu_7 1 0) (uu_7 1 1) (g 100 2) + uu_7 1 3) * (rw_ g 1 (p0 + 1) - rw_ g 1 p0).toInt64))), (6, .long ((xT (uu_7 1 0) (uu_7 1 1) (g 100 2) + uu_7 1 2) * (rw_ g 2 (p0 + 1) - rw_ g 2 p0).toInt64 - (yT (uu_7 1 0) (uu_7 1 1) (g 100 2) + uu_7 1 3) * (rw_ g 1 (p0 + 1) - rw_ g 1 p0).toInt64)), (9, .int (nI i)), (3, .int (bI (oOk g p0))), (0, .ref (ad 0)), (1, .int p0), (2, .int e0)]) hx hb dX4_flowOfPing_82 hl (by decide) rfl (fun ls hl => ?_)
          refine lv_iinc (v := nI (i + 1)) (lv' := [(9, .int (nI (i + 1))), (8, .int (nI i)), (4, .long (sv + ((xT (uu_7 1 0) (uu_7 1 1) (g 100 2) + uu_7 1 2) * (rw_ g 2 (p0 + 1) - rw_ g 2 p0).toInt64 - (yT (uu_7 1 0) (uu_7 1 1) (g 100 2) + uu_7 1 3) * (rw_ g 1 (p0 + 1) - rw_ g 1 p0).toInt64))), (6, .long ((xT (uu_7 1 0) (uu_7 1 1) (g 100 2) + uu_7 1 2) * (rw_ g 2 (p0 + 1) - rw_ g 2 p0).toInt64 - (yT (uu_7 1 0) (uu_7 1 1) (g 100 2) + uu_7 1 3) * (rw_ g 1 (p0 + 1) - rw_ g 1 p0).toInt64)), (3, .int (bI (oOk g p0))), (0, .ref (ad 0)), (1, .int p0), (2, .int e0)]) hx hb dX4_flowOfPing_84 hl (k := 3) rfl (nI_1 _) (by decide) rfl (fun ls hl => ?_)
          refine lv_goto (tgt := 18) hx hb dX4_flowOfPing_87 (by decide) ?_
          obtain ⟨z1, z2, -⟩ := pD_ok2 hIz_2.2.1 c_6 hju_5 hu_7
          exact ihz_2 (i + 1, sv + ((xT (uu_7 1 0) (uu_7 1 1) (g 100 2) + uu_7 1 2) * (rw_ g 2 (p0 + 1) - rw_ g 2 p0).toInt64 - (yT (uu_7 1 0) (uu_7 1 1) (g 100 2) + uu_7 1 3) * (rw_ g 1 (p0 + 1) - rw_ g 1 p0).toInt64), (xT (uu_7 1 0) (uu_7 1 1) (g 100 2) + uu_7 1 2) * (rw_ g 2 (p0 + 1) - rw_ g 2 p0).toInt64 - (yT (uu_7 1 0) (uu_7 1 1) (g 100 2) + uu_7 1 3) * (rw_ g 1 (p0 + 1) - rw_ g 1 p0).toInt64, nI i, uu_5, uu_7) (show (i + 1) ≤ rn (g 100 0) ∧ flP g p0 e0 (i + 1) (sv + ((xT (uu_7 1 0) (uu_7 1 1) (g 100 2) + uu_7 1 2) * (rw_ g 2 (p0 + 1) - rw_ g 2 p0).toInt64 - (yT (uu_7 1 0) (uu_7 1 1) (g 100 2) + uu_7 1 3) * (rw_ g 1 (p0 + 1) - rw_ g 1 p0).toInt64)) ((xT (uu_7 1 0) (uu_7 1 1) (g 100 2) + uu_7 1 2) * (rw_ g 2 (p0 + 1) - rw_ g 2 p0).toInt64 - (yT (uu_7 1 0) (uu_7 1 1) (g 100 2) + uu_7 1 3) * (rw_ g 1 (p0 + 1) - rw_ g 1 p0).toInt64) (nI i) uu_7 from ⟨hlt.1, fl_yes hIz_2.2 c_6 z2 (fl_v z1) (congrArg (fun q => q + _) ((if_neg (fun q => absurd q.2 (Int32.not_lt.mpr c_9))).symm))⟩) (show rn (g 100 0) - (i + 1) < rn (g 100 0) - i from (Nat.sub_lt_sub_left hlt.1 (Nat.lt_succ_self i))) _ _ _ hP hD hS (lv_sub hl [0, 1, 3, 2, 4, 5, 6, 7] rfl)
        · refine lv_lload hx hb dX4_flowOfPing_62 (lv_at hl 3 rfl) ?_
          refine lv_lload hx hb dX4_flowOfPing_64 (lv_at hl 0 rfl) ?_
          refine lv_iload hx hb dX4_flowOfPing_66 (lv_at hl 1 rfl) ?_
          refine lv_i2l hx hb dX4_flowOfPing_68 rfl ?_
          refine lv_lmul hx hb dX4_flowOfPing_69 ?_
          refine lv_ladd hx hb dX4_flowOfPing_70 ?_
          refine lv_lstore (lv' := [(4, .long (sv + (((xT (uu_7 1 0) (uu_7 1 1) (g 100 2) + uu_7 1 2) * (rw_ g 2 (p0 + 1) - rw_ g 2 p0).toInt64 - (yT (uu_7 1 0) (uu_7 1 1) (g 100 2) + uu_7 1 3) * (rw_ g 1 (p0 + 1) - rw_ g 1 p0).toInt64) * ((nI i).toInt64)))), (6, .long ((xT (uu_7 1 0) (uu_7 1 1) (g 100 2) + uu_7 1 2) * (rw_ g 2 (p0 + 1) - rw_ g 2 p0).toInt64 - (yT (uu_7 1 0) (uu_7 1 1) (g 100 2) + uu_7 1 3) * (rw_ g 1 (p0 + 1) - rw_ g 1 p0).toInt64)), (9, .int (nI i)), (8, .int wv), (3, .int (bI (oOk g p0))), (0, .ref (ad 0)), (1, .int p0), (2, .int e0)]) hx hb dX4_flowOfPing_71 hl (by decide) rfl (fun ls hl => ?_)
          refine lv_lload hx hb dX4_flowOfPing_73 (lv_at hl 0 rfl) ?_
          refine lv_lload hx hb dX4_flowOfPing_75 (lv_at hl 1 rfl) ?_
          refine lv_ladd hx hb dX4_flowOfPing_77 ?_
          refine lv_lstore (lv' := [(4, .long ((sv + (((xT (uu_7 1 0) (uu_7 1 1) (g 100 2) + uu_7 1 2) * (rw_ g 2 (p0 + 1) - rw_ g 2 p0).toInt64 - (yT (uu_7 1 0) (uu_7 1 1) (g 100 2) + uu_7 1 3) * (rw_ g 1 (p0 + 1) - rw_ g 1 p0).toInt64) * ((nI i).toInt64))) + ((xT (uu_7 1 0) (uu_7 1 1) (g 100 2) + uu_7 1 2) * (rw_ g 2 (p0 + 1) - rw_ g 2 p0).toInt64 - (yT (uu_7 1 0) (uu_7 1 1) (g 100 2) + uu_7 1 3) * (rw_ g 1 (p0 + 1) - rw_ g 1 p0).toInt64))), (6, .long ((xT (uu_7 1 0) (uu_7 1 1) (g 100 2) + uu_7 1 2) * (rw_ g 2 (p0 + 1) - rw_ g 2 p0).toInt64 - (yT (uu_7 1 0) (uu_7 1 1) (g 100 2) + uu_7 1 3) * (rw_ g 1 (p0 + 1) - rw_ g 1 p0).toInt64)), (9, .int (nI i)), (8, .int wv), (3, .int (bI (oOk g p0))), (0, .ref (ad 0)), (1, .int p0), (2, .int e0)]) hx hb dX4_flowOfPing_78 hl (by decide) rfl (fun ls hl => ?_)
          refine lv_iload hx hb dX4_flowOfPing_80 (lv_at hl 2 rfl) ?_
          refine lv_istore (lv' := [(8, .int (nI i)), (4, .long ((sv + (((xT (uu_7 1 0) (uu_7 1 1) (g 100 2) + uu_7 1 2) * (rw_ g 2 (p0 + 1) - rw_ g 2 p0).toInt64 - (yT (uu_7 1 0) (uu_7 1 1) (g 100 2) + uu_7 1 3) * (rw_ g 1 (p0 + 1) - rw_ g 1 p0).toInt64) * ((nI i).toInt64))) + ((xT (uu_7 1 0) (uu_7 1 1) (g 100 2) + uu_7 1 2) * (rw_ g 2 (p0 + 1) - rw_ g 2 p0).toInt64 - (yT (uu_7 1 0) (uu_7 1 1) (g 100 2) + uu_7 1 3) * (rw_ g 1 (p0 + 1) - rw_ g 1 p0).toInt64))), (6, .long ((xT (uu_7 1 0) (uu_7 1 1) (g 100 2) + uu_7 1 2) * (rw_ g 2 (p0 + 1) - rw_ g 2 p0).toInt64 - (yT (uu_7 1 0) (uu_7 1 1) (g 100 2) + uu_7 1 3) * (rw_ g 1 (p0 + 1) - rw_ g 1 p0).toInt64)), (9, .int (nI i)), (3, .int (bI (oOk g p0))), (0, .ref (ad 0)), (1, .int p0), (2, .int e0)]) hx hb dX4_flowOfPing_82 hl (by decide) rfl (fun ls hl => ?_)
          refine lv_iinc (v := nI (i + 1)) (lv' := [(9, .int (nI (i + 1))), (8, .int (nI i)), (4, .long ((sv + (((xT (uu_7 1 0) (uu_7 1 1) (g 100 2) + uu_7 1 2) * (rw_ g 2 (p0 + 1) - rw_ g 2 p0).toInt64 - (yT (uu_7 1 0) (uu_7 1 1) (g 100 2) + uu_7 1 3) * (rw_ g 1 (p0 + 1) - rw_ g 1 p0).toInt64) * ((nI i).toInt64))) + ((xT (uu_7 1 0) (uu_7 1 1) (g 100 2) + uu_7 1 2) * (rw_ g 2 (p0 + 1) - rw_ g 2 p0).toInt64 - (yT (uu_7 1 0) (uu_7 1 1) (g 100 2) + uu_7 1 3) * (rw_ g 1 (p0 + 1) - rw_ g 1 p0).toInt64))), (6, .long ((xT (uu_7 1 0) (uu_7 1 1) (g 100 2) + uu_7 1 2) * (rw_ g 2 (p0 + 1) - rw_ g 2 p0).toInt64 - (yT (uu_7 1 0) (uu_7 1 1) (g 100 2) + uu_7 1 3) * (rw_ g 1 (p0 + 1) - rw_ g 1 p0).toInt64)), (3, .int (bI (oOk g p0))), (0, .ref (ad 0)), (1, .int p0), (2, .int e0)]) hx hb dX4_flowOfPing_84 hl (k := 3) rfl (nI_1 _) (by decide) rfl (fun ls hl => ?_)
          refine lv_goto (tgt := 18) hx hb dX4_flowOfPing_87 (by decide) ?_
          obtain ⟨z1, z2, -⟩ := pD_ok2 hIz_2.2.1 c_6 hju_5 hu_7
          exact ihz_2 (i + 1, (sv + (((xT (uu_7 1 0) (uu_7 1 1) (g 100 2) + uu_7 1 2) * (rw_ g 2 (p0 + 1) - rw_ g 2 p0).toInt64 - (yT (uu_7 1 0) (uu_7 1 1) (g 100 2) + uu_7 1 3) * (rw_ g 1 (p0 + 1) - rw_ g 1 p0).toInt64) * ((nI i).toInt64))) + ((xT (uu_7 1 0) (uu_7 1 1) (g 100 2) + uu_7 1 2) * (rw_ g 2 (p0 + 1) - rw_ g 2 p0).toInt64 - (yT (uu_7 1 0) (uu_7 1 1) (g 100 2) + uu_7 1 3) * (rw_ g 1 (p0 + 1) - rw_ g 1 p0).toInt64), (xT (uu_7 1 0) (uu_7 1 1) (g 100 2) + uu_7 1 2) * (rw_ g 2 (p0 + 1) - rw_ g 2 p0).toInt64 - (yT (uu_7 1 0) (uu_7 1 1) (g 100 2) + uu_7 1 3) * (rw_ g 1 (p0 + 1) - rw_ g 1 p0).toInt64, nI i, uu_5, uu_7) (show (i + 1) ≤ rn (g 100 0) ∧ flP g p0 e0 (i + 1) ((sv + (((xT (uu_7 1 0) (uu_7 1 1) (g 100 2) + uu_7 1 2) * (rw_ g 2 (p0 + 1) - rw_ g 2 p0).toInt64 - (yT (uu_7 1 0) (uu_7 1 1) (g 100 2) + uu_7 1 3) * (rw_ g 1 (p0 + 1) - rw_ g 1 p0).toInt64) * ((nI i).toInt64))) + ((xT (uu_7 1 0) (uu_7 1 1) (g 100 2) + uu_7 1 2) * (rw_ g 2 (p0 + 1) - rw_ g 2 p0).toInt64 - (yT (uu_7 1 0) (uu_7 1 1) (g 100 2) + uu_7 1 3) * (rw_ g 1 (p0 + 1) - rw_ g 1 p0).toInt64)) ((xT (uu_7 1 0) (uu_7 1 1) (g 100 2) + uu_7 1 2) * (rw_ g 2 (p0 + 1) - rw_ g 2 p0).toInt64 - (yT (uu_7 1 0) (uu_7 1 1) (g 100 2) + uu_7 1 3) * (rw_ g 1 (p0 + 1) - rw_ g 1 p0).toInt64) (nI i) uu_7 from ⟨hlt.1, fl_yes hIz_2.2 c_6 z2 (fl_v z1) (congrArg (fun q => q + _) ((if_pos ⟨c_8, Int32.not_le.mp c_9⟩).symm))⟩) (show rn (g 100 0) - (i + 1) < rn (g 100 0) - i from (Nat.sub_lt_sub_left hlt.1 (Nat.lt_succ_self i))) _ _ _ hP hD hS (lv_sub hl [0, 1, 3, 2, 4, 5, 6, 7] rfl)
    · refine lv_goto (tgt := 84) hx hb dX4_flowOfPing_38 (by decide) ?_
      refine lv_iinc (v := nI (i + 1)) (lv' := [(9, .int (nI (i + 1))), (8, .int wv), (6, .long lv), (4, .long sv), (3, .int (bI (oOk g p0))), (0, .ref (ad 0)), (1, .int p0), (2, .int e0)]) hx hb dX4_flowOfPing_84 hl (k := 0) rfl (nI_1 _) (by decide) rfl (fun ls hl => ?_)
      refine lv_goto (tgt := 18) hx hb dX4_flowOfPing_87 (by decide) ?_
      exact ihz_2 (i + 1, sv, lv, wv, uu_5, d1) (show (i + 1) ≤ rn (g 100 0) ∧ flP g p0 e0 (i + 1) sv lv wv d1 from ⟨hlt.1, fl_no hIz_2.2 c_6⟩) (show rn (g 100 0) - (i + 1) < rn (g 100 0) - i from (Nat.sub_lt_sub_left hlt.1 (Nat.lt_succ_self i))) _ _ _ hP hD hS (lv_sub hl [0, 1, 2, 3, 4, 5, 6, 7] rfl)
set_option maxHeartbeats 4000000 in
set_option maxRecDepth 100000 in
theorem kX4_flow (l : Launch) (D : va_G) (cI cO : ClassId) (tt : Nat) (ad : Nat → Nat) (g : Nat → Nat → Int32) (b : Nat → Int32) (d : Nat → Nat → Int64) (X : va_W) (sz : Nat) (p0 : Int32) (q0 : Int32) (e0 : Int32) (hI : WI g) : MmL l yX4_flow wsX4_flow ({ frames := 5, cells := 0, slots := 0, locals := 127 }) D cI cO tt (LW ad cI cO g b d X) sz [.ref (ad 0), .int p0, .int q0, .int e0] (S := (Nat → Nat → Int32) × (Nat → Int32) × (Nat → Nat → Int64)) (fun u => LW ad cI cO u.1 u.2.1 u.2.2 X) (fun z u => z = fFlow g p0 q0 e0 ∧ u.1 = g) := by
  refine Met.ofW (cc := cX4_flow) (maxL := 7) (ret := (some .long)) (by decide) rfl ?_
  intro p e s m args below meth c s₁ B hml hv
  obtain ⟨rfl, hsz, hP, hK, hD0, hZ, hN⟩ := hv
  have hx := B.exec
  have hb := B.bytes
  have hr := B.returns
  have hts := atoms_spec (ws := wsX4_flow) B.pre
  have hown : s.vm.findClass RX4 = some m.cls := findClass_of_methodNamed B.named
  have hlocks := B.notSynchronized
  subst hsz
  have hD := hD0.self (sz := s.heap.size)
  generalize hAe : va_A (LW ad cI cO g b d X) s.heap.size = A at hD hZ ⊢
  have hA : ∀ q : Nat, s.heap.size ≤ q → A q := fun q h => by rw [← hAe]; exact Or.inr h
  have hS : va_S A s.heap s.heap [] := va_S.rf
  have hl := lv_entry ([.ref (ad 0), .int p0, .int q0, .int e0]) (n := 7) (Nat.le_of_ble_eq_true rfl)
  rw [lg_entry_eq]
  generalize (lg_sl ([.ref (ad 0), .int p0, .int q0, .int e0]) ++ List.replicate (7 - (lg_sl ([.ref (ad 0), .int p0, .int q0, .int e0])).length) Slot.unset).toArray = ls at hl ⊢
  have hl : lv_has ls 7 [(0, .ref (ad 0)), (1, .int p0), (2, .int q0), (3, .int e0)] := hl
  have hw0 := hts (.fieldLink RX4 18 "LayerSounder" "track" "LLayerSounder$Track;") (List.mem_cons_of_mem _ (List.mem_append_left _ (List.mem_append_left _ (List.mem_append_left _ (List.mem_append_left _ (List.mem_append_left _ (List.mem_append_left _ (List.mem_of_getElem? (l := wsX4_flow_r1) (i := 0) rfl))))))))
  have iX4 : ∀ w ∈ wsX40, w ∈ wsX4_flow := fun _ h => List.mem_cons_of_mem _ (List.mem_append_left _ (List.mem_append_left _ (List.mem_append_left _ (List.mem_append_left _ (List.mem_append_right _ h)))))
  refine lv_aload_n hx hb dX4_flow_0 rfl (lv_at hl 0 rfl) ?_
  refine va_get (D := D) (ci := 4) (v := .ref (ad 2)) (C := RX4) (T := TX4) (N := 14) hx hb hts iX4 hown hK hP 0 rfl rfl 1 (by decide) hw0 (fun _ h9 => h9) rfl dX4_flow_1 ?_
  refine lv_iload_n hx hb dX4_flow_4 rfl (lv_at hl 1 rfl) ?_
  refine lv_iload_n hx hb dX4_flow_5 rfl (lv_at hl 2 rfl) ?_
  refine pcI (va_runV (As := [.int p0, .int q0]) (rest := []) ⟨hx, hb, hml, hown, hts⟩ (kX3_isSpan l D cI cO tt ad g b d X s.heap p0 q0 ) (cwV 2 hts gX4_flow_X3_isSpan rfl rfl rfl (by decide +kernel) ⟨(Nat.le_of_ble_eq_true rfl), (Nat.le_of_ble_eq_true rfl)⟩) (pwV hK hZ hN hP hS (va_recv hK hP (ci := 3) (q0 := 2) rfl rfl)) rfl rfl hl.1 rfl (lv_room (Nat.le_of_ble_eq_true rfl)) dX4_flow_6 ⟨Nat.zero_le _, Nat.zero_le _⟩) hS (fun locs hS => ?_)
  refine lv_if_eq (tgt := 26) hx hb dX4_flow_9 (by decide) (fun c_1 => ?_) (fun c_1 => ?_)
  · have c_1 := bI_0.mp c_1
    refine lv_bipush (v := (-2)) hx hb dX4_flow_26 (by decide) ?_
    refine pcL (va_runS (As := [.int (-2)]) (rest := []) ⟨hx, hb, hml, hown, hts⟩ (kX4_asLong l D cI cO tt (LW ad cI cO g b d X) s.heap (-2) ) (va_cwS 1 hts gX4_flow_X4_asLong rfl rfl rfl (by decide +kernel) ⟨(Nat.le_of_ble_eq_true rfl), (Nat.le_of_ble_eq_true rfl)⟩) (pwS hK hZ hN hP hS) rfl rfl hl.1 rfl (lv_room (Nat.le_of_ble_eq_true rfl)) dX4_flow_28 ⟨Nat.zero_le _, Nat.zero_le _⟩) hS (fun locs hS => ?_)
    exact W.lret (v := (-9223372036854775808) - ((-2) : Int32).toInt64) hx hb hr (fun t ht hW => ⟨⟨(-9223372036854775808) - ((-2) : Int32).toInt64, (g, b, d), rfl, (by refine ⟨?_, rfl⟩; grind [fFlow]), by rw [ht]; exact hP, hD⟩, hS.F ht⟩) hS.2.2 dX4_flow_31
  · have c_1 := bI_n0.mp c_1
    refine lv_iload_n hx hb dX4_flow_12 rfl (lv_at hl 1 rfl) ?_
    refine lv_iload_n hx hb dX4_flow_13 rfl (lv_at hl 2 rfl) ?_
    refine lv_icmp_eq (tgt := 26) hx hb dX4_flow_14 (by decide) (fun c_2 => ?_) (fun c_2 => ?_)
    · refine lv_bipush (v := (-2)) hx hb dX4_flow_26 (by decide) ?_
      refine pcL (va_runS (As := [.int (-2)]) (rest := []) ⟨hx, hb, hml, hown, hts⟩ (kX4_asLong l D cI cO tt (LW ad cI cO g b d X) s.heap (-2) ) (va_cwS 1 hts gX4_flow_X4_asLong rfl rfl rfl (by decide +kernel) ⟨(Nat.le_of_ble_eq_true rfl), (Nat.le_of_ble_eq_true rfl)⟩) (pwS hK hZ hN hP hS) rfl rfl hl.1 rfl (lv_room (Nat.le_of_ble_eq_true rfl)) dX4_flow_28 ⟨Nat.zero_le _, Nat.zero_le _⟩) hS (fun locs hS => ?_)
      exact W.lret (v := (-9223372036854775808) - ((-2) : Int32).toInt64) hx hb hr (fun t ht hW => ⟨⟨(-9223372036854775808) - ((-2) : Int32).toInt64, (g, b, d), rfl, (by refine ⟨?_, rfl⟩; grind [fFlow]), by rw [ht]; exact hP, hD⟩, hS.F ht⟩) hS.2.2 dX4_flow_31
    · refine lv_iload_n hx hb dX4_flow_17 rfl (lv_at hl 3 rfl) ?_
      refine lv_iconst (v := 0) hx hb dX4_flow_18 (by decide) ?_
      refine lv_iconst (v := 1) hx hb dX4_flow_19 (by decide) ?_
      refine pcI (va_runS (As := [.int e0, .int 0, .int 1]) (rest := []) ⟨hx, hb, hml, hown, hts⟩ (kX4_isWithin l D cI cO tt (LW ad cI cO g b d X) s.heap e0 0 1 ) (va_cwS 3 hts gX4_flow_X4_isWithin rfl rfl rfl (by decide +kernel) ⟨(Nat.le_of_ble_eq_true rfl), (Nat.le_of_ble_eq_true rfl)⟩) (pwS hK hZ hN hP hS) rfl rfl hl.1 rfl (lv_room (Nat.le_of_ble_eq_true rfl)) dX4_flow_20 ⟨Nat.zero_le _, Nat.zero_le _⟩) hS (fun locs hS => ?_)
      refine lv_if_ne (tgt := 32) hx hb dX4_flow_23 (by decide) (fun c_3 => ?_) (fun c_3 => ?_)
      · have c_3 := bI_n0.mp c_3
        refine lv_lconst (v := 0) hx hb dX4_flow_32 (by decide) ?_
        refine lv_lstore (lv' := [(4, .long 0), (0, .ref (ad 0)), (1, .int p0), (2, .int q0), (3, .int e0)]) hx hb dX4_flow_33 hl (by decide) rfl (fun ls hl => ?_)
        refine lv_iload_n hx hb dX4_flow_35 rfl (lv_at hl 2 rfl) ?_
        refine tpI (y := nI (rn p0)) ((p40 hI c_1.1).2.1) ?_
        refine lv_istore (lv' := [(6, .int (nI (rn p0))), (4, .long 0), (0, .ref (ad 0)), (1, .int p0), (2, .int q0), (3, .int e0)]) hx hb dX4_flow_36 hl (by decide) rfl (fun ls hl => ?_)
        refine wloop (D := D) (A := A) (σ := Nat × (Nat → Int32) × (Nat → Nat → Int64)) (pc := 38) (nL := 7) (fun z_4 => [(6, .int (nI (rn p0 + z_4.1))), (4, .long (sL (fun x9 => flV g (nI (rn p0 + x9)) e0) z_4.1)), (0, .ref (ad 0)), (1, .int p0), (2, .int q0), (3, .int e0)]) (fun z_4 => LW ad cI cO g z_4.2.1 z_4.2.2 X) (fun z_4 => z_4.1 ≤ rn q0 - rn p0) (fun z_4 => rn q0 - rn p0 - z_4.1) (fun z_4 hIz_4 ihz_4 H locs ls hP hD hS hl => ?_) (0, b, d) (Nat.zero_le _) _ _ _ hP hD hS (lv_sub hl [0, 1, 2, 3, 4, 5] rfl)
        obtain ⟨i, b1, d1⟩ := z_4
        have hP : va_P D vwCl (LW ad cI cO g b1 d1 X) H := hP
        have hD : va_D A (LW ad cI cO g b1 d1 X) := hD
        have hl : lv_has ls 7 [(6, .int (nI (rn p0 + i))), (4, .long (sL (fun x9 => flV g (nI (rn p0 + x9)) e0) i)), (0, .ref (ad 0)), (1, .int p0), (2, .int q0), (3, .int e0)] := hl
        have hIz_4 : i ≤ rn q0 - rn p0 := hIz_4
        refine lv_iload hx hb dX4_flow_38 (lv_at hl 0 rfl) ?_
        refine lv_iload_n hx hb dX4_flow_40 rfl (lv_at hl 4 rfl) ?_
        refine lv_icmp_ge (tgt := 71) hx hb dX4_flow_41 (by decide) (fun c_5 => ?_) (fun c_5 => ?_)
        · refine lv_lload hx hb dX4_flow_71 (lv_at hl 1 rfl) ?_
          exact W.lret (v := sL (fun x9 => flV g (nI (rn p0 + x9)) e0) i) hx hb hr (fun t ht hW => ⟨⟨sL (fun x9 => flV g (nI (rn p0 + x9)) e0) i, (g, b1, d1), rfl, (by refine ⟨?_, rfl⟩; rw [fFlow, if_pos ⟨c_1, c_2, c_3⟩]; have z := fw_e (p40 hI c_1.2.1).1 (rn_le c_1.1.1 c_1.2.2) hIz_4 (p40 hI c_1.2.1).2.1 c_5; rw [z]), by rw [ht]; exact hP, hD⟩, hS.F ht⟩) hS.2.2 dX4_flow_73
        · have hlt : i < rn q0 - rn p0 := fw_l (p40 hI c_1.1).1 (p40 hI c_1.2.1).1 (p40 hI c_1.2.1).2.1 hIz_4 c_5
          refine lv_lload hx hb dX4_flow_44 (lv_at hl 1 rfl) ?_
          refine lv_aload_n hx hb dX4_flow_46 rfl (lv_at hl 2 rfl) ?_
          refine lv_iload hx hb dX4_flow_47 (lv_at hl 0 rfl) ?_
          refine lv_iload_n hx hb dX4_flow_49 rfl (lv_at hl 5 rfl) ?_
          refine lv_iconst (v := 1) hx hb dX4_flow_50 (by decide) ?_
          refine jnI (j := 59) (rest := [.int (nI (rn p0 + i)), .ref (ad 0), .long (sL (fun x9 => flV g (nI (rn p0 + x9)) e0) i)]) (fun z => z = e0) (fun v_7 hv_7 => ?_) (fun hJ => ?_)
          · replace hv_7 := hv_7.symm; subst hv_7
            refine mcL (wf := fun u : (Nat → Int32) × (Nat → Nat → Int64) => LW ad cI cO g u.1 u.2 X) (va_runV (As := [.int (nI (rn p0 + i)), .int e0]) (rest := [.long (sL (fun x9 => flV g (nI (rn p0 + x9)) e0) i)]) ⟨hx, hb, hml, hown, hts⟩ (kX4_flowOfPing l D cI cO tt ad g b1 d1 X H.size (nI (rn p0 + i)) e0 hI) (cwV 2 hts gX4_flow_X4_flowOfPing rfl rfl rfl (by decide +kernel) ⟨(Nat.le_of_ble_eq_true rfl), (Nat.le_of_ble_eq_true rfl)⟩) (mwV hK hZ hN hP hD hS hA (va_recv hK hP (ci := 4) (q0 := 0) rfl rfl)) rfl rfl hl.1 rfl (lv_room (Nat.le_of_ble_eq_true rfl)) dX4_flow_59 ⟨Nat.zero_le _, Nat.zero_le _⟩) hD hS hA (fun ru_8 uu_8 H locs hu_8 hP hD hS => ?_)
            obtain ⟨bu_8, du_8⟩ := uu_8
            have eru_8 := hu_8
            have eru_8 : ru_8 = flV g (nI (rn p0 + i)) e0 := eru_8
            subst eru_8
            have hP : va_P D vwCl (LW ad cI cO g bu_8 du_8 X) H := hP
            have hD : va_D A (LW ad cI cO g bu_8 du_8 X) := hD
            refine lv_ladd hx hb dX4_flow_62 ?_
            refine lv_lstore (lv' := [(4, .long ((sL (fun x9 => flV g (nI (rn p0 + x9)) e0) i) + (flV g (nI (rn p0 + i)) e0))), (6, .int (nI (rn p0 + i))), (0, .ref (ad 0)), (1, .int p0), (2, .int q0), (3, .int e0)]) hx hb dX4_flow_63 hl (by decide) rfl (fun ls hl => ?_)
            refine lv_iinc (v := nI ((rn p0 + i) + 1)) (lv' := [(6, .int (nI ((rn p0 + i) + 1))), (4, .long ((sL (fun x9 => flV g (nI (rn p0 + x9)) e0) i) + (flV g (nI (rn p0 + i)) e0))), (0, .ref (ad 0)), (1, .int p0), (2, .int q0), (3, .int e0)]) hx hb dX4_flow_65 hl (k := 1) rfl (nI_1 _) (by decide) rfl (fun ls hl => ?_)
            refine lv_goto (tgt := 38) hx hb dX4_flow_68 (by decide) ?_
            exact ihz_4 (i + 1, bu_8, du_8) (show (i + 1) ≤ rn q0 - rn p0 from hlt) (show rn q0 - rn p0 - (i + 1) < rn q0 - rn p0 - i from (Nat.sub_lt_sub_left hlt (Nat.lt_succ_self i))) _ _ _ hP hD hS (lv_sub hl [0, 1, 2, 3, 4, 5] rfl)
          · refine lv_icmp_ne (tgt := 58) hx hb dX4_flow_51 (by decide) (fun c_9 => ?_) (fun c_9 => ?_)
            · refine lv_iconst (v := 0) hx hb dX4_flow_58 (by decide) ?_
              exact hJ _ (by exact (e01 c_3 c_9).symm)
            · refine lv_iconst (v := 1) hx hb dX4_flow_54 (by decide) ?_
              refine lv_goto (tgt := 59) hx hb dX4_flow_55 (by decide) ?_
              exact hJ _ (by exact c_9.symm)
      · have c_3 := bI_0.mp c_3
        refine lv_bipush (v := (-2)) hx hb dX4_flow_26 (by decide) ?_
        refine pcL (va_runS (As := [.int (-2)]) (rest := []) ⟨hx, hb, hml, hown, hts⟩ (kX4_asLong l D cI cO tt (LW ad cI cO g b d X) s.heap (-2) ) (va_cwS 1 hts gX4_flow_X4_asLong rfl rfl rfl (by decide +kernel) ⟨(Nat.le_of_ble_eq_true rfl), (Nat.le_of_ble_eq_true rfl)⟩) (pwS hK hZ hN hP hS) rfl rfl hl.1 rfl (lv_room (Nat.le_of_ble_eq_true rfl)) dX4_flow_28 ⟨Nat.zero_le _, Nat.zero_le _⟩) hS (fun locs hS => ?_)
        exact W.lret (v := (-9223372036854775808) - ((-2) : Int32).toInt64) hx hb hr (fun t ht hW => ⟨⟨(-9223372036854775808) - ((-2) : Int32).toInt64, (g, b, d), rfl, (by refine ⟨?_, rfl⟩; grind [fFlow]), by rw [ht]; exact hP, hD⟩, hS.F ht⟩) hS.2.2 dX4_flow_31
set_option maxHeartbeats 4000000 in
set_option maxRecDepth 100000 in
theorem kX4_digestOfPing (l : Launch) (D : va_G) (cI cO : ClassId) (tt : Nat) (ad : Nat → Nat) (g : Nat → Nat → Int32) (b : Nat → Int32) (d : Nat → Nat → Int64) (X : va_W) (sz : Nat) (h0 : Int64) (p0 : Int32) (hI : WI g) : MmL l yX4_digestOfPing wsX4_digestOfPing ({ frames := 5, cells := 0, slots := 0, locals := 118 }) D cI cO tt (LW ad cI cO g b d X) sz [.ref (ad 0), .long h0, .int p0] (S := (Nat → Int32) × (Nat → Nat → Int64)) (fun u => LW ad cI cO g u.1 u.2 X) (fun z _ => z = dgE g p0 h0 (rn (g 100 0))) := by
  refine Met.ofW (cc := cX4_digestOfPing) (maxL := 9) (ret := (some .long)) (by decide) rfl ?_
  intro p e s m args below meth c s₁ B hml hv
  obtain ⟨rfl, hsz, hP, hK, hD0, hZ, hN⟩ := hv
  have hx := B.exec
  have hb := B.bytes
  have hr := B.returns
  have hts := atoms_spec (ws := wsX4_digestOfPing) B.pre
  have hown : s.vm.findClass RX4 = some m.cls := findClass_of_methodNamed B.named
  have hlocks := B.notSynchronized
  subst hsz
  have hD := hD0.self (sz := s.heap.size)
  generalize hAe : va_A (LW ad cI cO g b d X) s.heap.size = A at hD hZ ⊢
  have hA : ∀ q : Nat, s.heap.size ≤ q → A q := fun q h => by rw [← hAe]; exact Or.inr h
  have hS : va_S A s.heap s.heap [] := va_S.rf
  have hl := lv_entry ([.ref (ad 0), .long h0, .int p0]) (n := 9) (Nat.le_of_ble_eq_true rfl)
  rw [lg_entry_eq]
  generalize (lg_sl ([.ref (ad 0), .long h0, .int p0]) ++ List.replicate (9 - (lg_sl ([.ref (ad 0), .long h0, .int p0])).length) Slot.unset).toArray = ls at hl ⊢
  have hl : lv_has ls 9 [(0, .ref (ad 0)), (1, .long h0), (3, .int p0)] := hl
  have hw0 := hts (.fieldLink RX4 45 "LayerSounder" "layers" "I") (List.mem_cons_of_mem _ (List.mem_append_left _ (List.mem_append_left _ (List.mem_append_left _ (List.mem_append_left _ (List.mem_append_left _ (List.mem_append_left _ (List.mem_of_getElem? (l := wsX4_digestOfPing_r1) (i := 1) rfl))))))))
  have iX4 : ∀ w ∈ wsX40, w ∈ wsX4_digestOfPing := fun _ h => List.mem_cons_of_mem _ (List.mem_append_left _ (List.mem_append_left _ (List.mem_append_left _ (List.mem_append_left _ (List.mem_append_right _ h)))))
  have hw2 := hts (.constantLong RX4 260 (31)) (List.mem_cons_of_mem _ (List.mem_append_left _ (List.mem_append_left _ (List.mem_append_left _ (List.mem_append_left _ (List.mem_append_left _ (List.mem_append_left _ (List.mem_of_getElem? (l := wsX4_digestOfPing_r1) (i := 0) rfl))))))))
  have hw3 := hts (.fieldLink RX4 36 "LayerSounder" "paceDrift" "LLayerSounder$Drift;") (List.mem_cons_of_mem _ (List.mem_append_left _ (List.mem_append_left _ (List.mem_append_left _ (List.mem_append_left _ (List.mem_append_left _ (List.mem_append_left _ (List.mem_of_getElem? (l := wsX4_digestOfPing_r1) (i := 2) rfl))))))))
  have hw4 := hts (.fieldLink RX4 52 "LayerSounder" "skewTurn" "I") (List.mem_cons_of_mem _ (List.mem_append_left _ (List.mem_append_left _ (List.mem_append_left _ (List.mem_append_left _ (List.mem_append_left _ (List.mem_append_left _ (List.mem_of_getElem? (l := wsX4_digestOfPing_r1) (i := 3) rfl))))))))
  refine lv_lload_n hx hb dX4_digestOfPing_0 rfl (lv_at hl 1 rfl) ?_
  refine lv_lstore (lv' := [(4, .long h0), (0, .ref (ad 0)), (1, .long h0), (3, .int p0)]) hx hb dX4_digestOfPing_1 hl (by decide) rfl (fun ls hl => ?_)
  refine lv_iconst (v := 0) hx hb dX4_digestOfPing_3 (by decide) ?_
  refine lv_istore (lv' := [(6, .int 0), (4, .long h0), (0, .ref (ad 0)), (1, .long h0), (3, .int p0)]) hx hb dX4_digestOfPing_4 hl (by decide) rfl (fun ls hl => ?_)
  refine wloop (D := D) (A := A) (σ := Nat × (Nat → Int32) × (Nat → Nat → Int64)) (pc := 6) (nL := 9) (fun z_1 => [(6, .int (nI z_1.1)), (4, .long (dgA g p0 h0 z_1.1)), (0, .ref (ad 0)), (1, .long h0), (3, .int p0)]) (fun z_1 => LW ad cI cO g z_1.2.1 z_1.2.2 X) (fun z_1 => z_1.1 ≤ 5) (fun z_1 => 5 - z_1.1) (fun z_1 hIz_1 ihz_1 H locs ls hP hD hS hl => ?_) (0, b, d) (Nat.zero_le _) _ _ _ hP hD hS (lv_sub hl [0, 1, 2, 3, 4] rfl)
  obtain ⟨i, b1, d1⟩ := z_1
  have hP : va_P D vwCl (LW ad cI cO g b1 d1 X) H := hP
  have hD : va_D A (LW ad cI cO g b1 d1 X) := hD
  have hl : lv_has ls 9 [(6, .int (nI i)), (4, .long (dgA g p0 h0 i)), (0, .ref (ad 0)), (1, .long h0), (3, .int p0)] := hl
  have hIz_1 : i ≤ 5 := hIz_1
  refine lv_iload hx hb dX4_digestOfPing_6 (lv_at hl 0 rfl) ?_
  refine lv_iconst (v := 4) hx hb dX4_digestOfPing_8 (by decide) ?_
  refine lv_icmp_gt (tgt := 35) hx hb dX4_digestOfPing_9 (by decide) (fun c_2 => ?_) (fun c_2 => ?_)
  · have hi5 : i = 5 := by
      have z : 4 < i := (nI_ltI (a := 4) (b := i) (by omega) (by omega)).mp c_2
      omega
    refine lv_aload_n hx hb dX4_digestOfPing_35 rfl (lv_at hl 2 rfl) ?_
    refine lv_iload_n hx hb dX4_digestOfPing_36 rfl (lv_at hl 4 rfl) ?_
    refine mcI (wf := fun u : (Nat → Int32) × (Nat → Nat → Int64) => LW ad cI cO g u.1 u.2 X) (va_runV (As := [.int p0]) (rest := []) ⟨hx, hb, hml, hown, hts⟩ (kX4_findOwn l D cI cO tt ad g b1 d1 X H.size p0 hI) (cwV 1 hts gX4_digestOfPing_X4_findOwn rfl rfl rfl (by decide +kernel) ⟨(Nat.le_of_ble_eq_true rfl), (Nat.le_of_ble_eq_true rfl)⟩) (mwV hK hZ hN hP hD hS hA (va_recv hK hP (ci := 4) (q0 := 0) rfl rfl)) rfl rfl hl.1 rfl (lv_room (Nat.le_of_ble_eq_true rfl)) dX4_digestOfPing_37 ⟨Nat.zero_le _, Nat.zero_le _⟩) hD hS hA (fun ru_3 uu_3 H locs hu_3 hP hD hS => ?_)
    obtain ⟨bu_3, du_3⟩ := uu_3
    have hP : va_P D vwCl (LW ad cI cO g bu_3 du_3 X) H := hP
    have hD : va_D A (LW ad cI cO g bu_3 du_3 X) := hD
    have hu_3 : foP g p0 d1 ru_3 du_3 := hu_3
    obtain ⟨eru_3, hfu_3⟩ : ru_3 = bI (oOk g p0) ∧ foP g p0 d1 (bI (oOk g p0)) du_3 := ⟨hu_3.1, hu_3.1 ▸ hu_3⟩
    subst eru_3
    refine lv_istore (lv' := [(6, .int (bI (oOk g p0))), (4, .long (dgA g p0 h0 i)), (0, .ref (ad 0)), (1, .long h0), (3, .int p0)]) hx hb dX4_digestOfPing_40 hl (by decide) rfl (fun ls hl => ?_)
    refine lv_iconst (v := 0) hx hb dX4_digestOfPing_42 (by decide) ?_
    refine lv_istore (lv' := [(7, .int 0), (6, .int (bI (oOk g p0))), (4, .long (dgA g p0 h0 i)), (0, .ref (ad 0)), (1, .long h0), (3, .int p0)]) hx hb dX4_digestOfPing_43 hl (by decide) rfl (fun ls hl => ?_)
    refine wloop (D := D) (A := A) (σ := Nat × Int64 × (Nat → Int32) × (Nat → Nat → Int64)) (pc := 45) (nL := 9) (fun z_4 => [(7, .int (nI z_4.1)), (6, .int (bI (oOk g p0))), (4, .long z_4.2.1), (0, .ref (ad 0)), (1, .long h0), (3, .int p0)]) (fun z_4 => LW ad cI cO g z_4.2.2.1 z_4.2.2.2 X) (fun z_4 => z_4.1 ≤ rn (g 100 0) ∧ owP g p0 z_4.2.2.2 ∧ z_4.2.1 = dgE g p0 h0 z_4.1) (fun z_4 => rn (g 100 0) - z_4.1) (fun z_4 hIz_4 ihz_4 H locs ls hP hD hS hl => ?_) (0, dgA g p0 h0 i, bu_3, du_3) (⟨Nat.zero_le _, hfu_3.2.1, by rw [hi5]; rfl⟩) _ _ _ hP hD hS (lv_sub hl [0, 1, 2, 3, 4, 5] rfl)
    obtain ⟨y, hv4, b2, d2⟩ := z_4
    have hP : va_P D vwCl (LW ad cI cO g b2 d2 X) H := hP
    have hD : va_D A (LW ad cI cO g b2 d2 X) := hD
    have hl : lv_has ls 9 [(7, .int (nI y)), (6, .int (bI (oOk g p0))), (4, .long hv4), (0, .ref (ad 0)), (1, .long h0), (3, .int p0)] := hl
    have hIz_4 : y ≤ rn (g 100 0) ∧ owP g p0 d2 ∧ hv4 = dgE g p0 h0 y := hIz_4
    refine lv_iload hx hb dX4_digestOfPing_45 (lv_at hl 0 rfl) ?_
    refine lv_aload_n hx hb dX4_digestOfPing_47 rfl (lv_at hl 3 rfl) ?_
    refine va_get (D := D) (ci := 4) (v := .int (g 100 0)) (C := RX4) (T := TX4) (N := 14) hx hb hts iX4 hown hK hP 0 rfl rfl 7 (by decide) hw0 (fun _ h9 => h9) rfl dX4_digestOfPing_48 ?_
    refine lv_icmp_ge (tgt := 133) hx hb dX4_digestOfPing_51 (by decide) (fun c_5 => ?_) (fun c_5 => ?_)
    · refine lv_lload hx hb dX4_digestOfPing_133 (lv_at hl 2 rfl) ?_
      exact W.lret (v := hv4) hx hb hr (fun t ht hW => ⟨⟨hv4, (b2, d2), rfl, (by show _ = _; rw [hIz_4.2.2, nlast (la0 hI) hIz_4.1 c_5]), by rw [ht]; exact hP, hD⟩, hS.F ht⟩) hS.2.2 dX4_digestOfPing_135
    · have hlt3 := laN hI hIz_4.1 c_5
      refine lv_aload_n hx hb dX4_digestOfPing_54 rfl (lv_at hl 3 rfl) ?_
      refine lv_iload_n hx hb dX4_digestOfPing_55 rfl (lv_at hl 5 rfl) ?_
      refine lv_iload hx hb dX4_digestOfPing_56 (lv_at hl 0 rfl) ?_
      refine lv_iload hx hb dX4_digestOfPing_58 (lv_at hl 1 rfl) ?_
      refine mcI (wf := fun u : Nat → Int32 => LW ad cI cO g u d2 X) (va_runV (As := [.int p0, .int (nI y), .int (bI (oOk g p0))]) (rest := []) ⟨hx, hb, hml, hown, hts⟩ (kX4_judge l D cI cO tt ad g b2 d2 X H.size p0 (nI y) (bI (oOk g p0)) hI) (cwV 3 hts gX4_digestOfPing_X4_judge rfl rfl rfl (by decide +kernel) ⟨(Nat.le_of_ble_eq_true rfl), (Nat.le_of_ble_eq_true rfl)⟩) (mwV hK hZ hN hP hD hS hA (va_recv hK hP (ci := 4) (q0 := 0) rfl rfl)) rfl rfl hl.1 rfl (lv_room (Nat.le_of_ble_eq_true rfl)) dX4_digestOfPing_60 ⟨Nat.zero_le _, Nat.zero_le _⟩) hD hS hA (fun ru_6 uu_6 H locs hu_6 hP hD hS => ?_)
      have hP : va_P D vwCl (LW ad cI cO g uu_6 d2 X) H := hP
      have hD : va_D A (LW ad cI cO g uu_6 d2 X) := hD
      obtain ⟨eru_6, hju_6⟩ : ru_6 = fateV g p0 (nI y) (bI (oOk g p0)) ∧ jdP g p0 (nI y) (bI (oOk g p0)) (fateV g p0 (nI y) (bI (oOk g p0))) uu_6 := ⟨hu_6.1, hu_6.1 ▸ hu_6⟩
      subst eru_6
      refine lv_istore (lv' := [(8, .int (fateV g p0 (nI y) (bI (oOk g p0)))), (7, .int (nI y)), (6, .int (bI (oOk g p0))), (4, .long hv4), (0, .ref (ad 0)), (1, .long h0), (3, .int p0)]) hx hb dX4_digestOfPing_63 hl (by decide) rfl (fun ls hl => ?_)
      refine lv_ldc2 hx hb hown hw2 dX4_digestOfPing_65 ?_
      refine lv_lload hx hb dX4_digestOfPing_68 (lv_at hl 3 rfl) ?_
      refine lv_lmul hx hb dX4_digestOfPing_70 ?_
      refine lv_iload hx hb dX4_digestOfPing_71 (lv_at hl 0 rfl) ?_
      refine lv_i2l hx hb dX4_digestOfPing_73 rfl ?_
      refine lv_ladd hx hb dX4_digestOfPing_74 ?_
      refine lv_lstore (lv' := [(4, .long ((31 * hv4) + ((fateV g p0 (nI y) (bI (oOk g p0))).toInt64))), (8, .int (fateV g p0 (nI y) (bI (oOk g p0)))), (7, .int (nI y)), (6, .int (bI (oOk g p0))), (0, .ref (ad 0)), (1, .long h0), (3, .int p0)]) hx hb dX4_digestOfPing_75 hl (by decide) rfl (fun ls hl => ?_)
      refine lv_iload hx hb dX4_digestOfPing_77 (lv_at hl 1 rfl) ?_
      refine lv_if_ne (tgt := 127) hx hb dX4_digestOfPing_79 (by decide) (fun c_7 => ?_) (fun c_7 => ?_)
      · refine lv_iinc (v := nI (y + 1)) (lv' := [(7, .int (nI (y + 1))), (4, .long ((31 * hv4) + ((fateV g p0 (nI y) (bI (oOk g p0))).toInt64))), (8, .int (fateV g p0 (nI y) (bI (oOk g p0)))), (6, .int (bI (oOk g p0))), (0, .ref (ad 0)), (1, .long h0), (3, .int p0)]) hx hb dX4_digestOfPing_127 hl (k := 2) rfl (nI_1 _) (by decide) rfl (fun ls hl => ?_)
        refine lv_goto (tgt := 45) hx hb dX4_digestOfPing_130 (by decide) ?_
        exact ihz_4 (y + 1, (31 * hv4) + ((fateV g p0 (nI y) (bI (oOk g p0))).toInt64), uu_6, d2) (show (y + 1) ≤ rn (g 100 0) ∧ owP g p0 d2 ∧ ((31 * hv4) + ((fateV g p0 (nI y) (bI (oOk g p0))).toInt64)) = dgE g p0 h0 (y + 1) from ⟨hlt3.1, hIz_4.2.1, by rw [dgE, if_neg c_7, hIz_4.2.2]⟩) (show rn (g 100 0) - (y + 1) < rn (g 100 0) - y from (Nat.sub_lt_sub_left hlt3.1 (Nat.lt_succ_self y))) _ _ _ hP hD hS (lv_sub hl [0, 3, 1, 4, 5, 6] rfl)
      · refine lv_aload_n hx hb dX4_digestOfPing_82 rfl (lv_at hl 4 rfl) ?_
        refine lv_iload_n hx hb dX4_digestOfPing_83 rfl (lv_at hl 6 rfl) ?_
        refine mcV (wf := fun u : Nat → Nat → Int64 => LW ad cI cO g uu_6 u X) (va_runV (As := [.int p0]) (rest := []) ⟨hx, hb, hml, hown, hts⟩ (kX4_findPace l D cI cO tt ad g uu_6 d2 X H.size p0 hI) (cwV 1 hts gX4_digestOfPing_X4_findPace rfl rfl rfl (by decide +kernel) ⟨(Nat.le_of_ble_eq_true rfl), (Nat.le_of_ble_eq_true rfl)⟩) (mwV hK hZ hN hP hD hS hA (va_recv hK hP (ci := 4) (q0 := 0) rfl rfl)) rfl rfl hl.1 rfl (lv_room (Nat.le_of_ble_eq_true rfl)) dX4_digestOfPing_84 ⟨Nat.zero_le _, Nat.zero_le _⟩) hD hS hA (fun uu_8 H locs hu_8 hP hD hS => ?_)
        have hP : va_P D vwCl (LW ad cI cO g uu_6 uu_8 X) H := hP
        have hD : va_D A (LW ad cI cO g uu_6 uu_8 X) := hD
        refine lv_ldc2 hx hb hown hw2 dX4_digestOfPing_87 ?_
        refine lv_lload hx hb dX4_digestOfPing_90 (lv_at hl 0 rfl) ?_
        refine lv_lmul hx hb dX4_digestOfPing_92 ?_
        refine lv_aload_n hx hb dX4_digestOfPing_93 rfl (lv_at hl 4 rfl) ?_
        refine va_get (D := D) (ci := 4) (v := .ref (ad 5)) (C := RX4) (T := TX4) (N := 14) hx hb hts iX4 hown hK hP 0 rfl rfl 4 (by decide) hw3 (fun _ h9 => h9) rfl dX4_digestOfPing_94 ?_
        refine lv_aload_n hx hb dX4_digestOfPing_97 rfl (lv_at hl 4 rfl) ?_
        refine va_get (D := D) (ci := 4) (v := .int (g 100 2)) (C := RX4) (T := TX4) (N := 14) hx hb hts iX4 hown hK hP 0 rfl rfl 9 (by decide) hw4 (fun _ h9 => h9) rfl dX4_digestOfPing_98 ?_
        refine pcL (va_runV (As := [.int (g 100 2)]) (rest := [.long (31 * ((31 * hv4) + ((fateV g p0 (nI y) (bI (oOk g p0))).toInt64)))]) ⟨hx, hb, hml, hown, hts⟩ (kX1_east l D cI cO tt ad g uu_6 uu_8 X H 1 (g 100 2) (by decide)) (cwV 1 hts gX4_digestOfPing_X1_east rfl rfl rfl (by decide +kernel) ⟨(Nat.le_of_ble_eq_true rfl), (Nat.le_of_ble_eq_true rfl)⟩) (pwV hK hZ hN hP hS (va_recv hK hP (ci := 1) (q0 := 5) rfl rfl)) rfl rfl hl.1 rfl (lv_room (Nat.le_of_ble_eq_true rfl)) dX4_digestOfPing_101 ⟨Nat.zero_le _, Nat.zero_le _⟩) hS (fun locs hS => ?_)
        refine lv_ladd hx hb dX4_digestOfPing_104 ?_
        refine lv_lstore (lv' := [(4, .long ((31 * ((31 * hv4) + ((fateV g p0 (nI y) (bI (oOk g p0))).toInt64))) + (xT (uu_8 1 0) (uu_8 1 1) (g 100 2) + uu_8 1 2))), (8, .int (fateV g p0 (nI y) (bI (oOk g p0)))), (7, .int (nI y)), (6, .int (bI (oOk g p0))), (0, .ref (ad 0)), (1, .long h0), (3, .int p0)]) hx hb dX4_digestOfPing_105 hl (by decide) rfl (fun ls hl => ?_)
        refine lv_ldc2 hx hb hown hw2 dX4_digestOfPing_107 ?_
        refine lv_lload hx hb dX4_digestOfPing_110 (lv_at hl 0 rfl) ?_
        refine lv_lmul hx hb dX4_digestOfPing_112 ?_
        refine lv_aload_n hx hb dX4_digestOfPing_113 rfl (lv_at hl 4 rfl) ?_
        refine va_get (D := D) (ci := 4) (v := .ref (ad 5)) (C := RX4) (T := TX4) (N := 14) hx hb hts iX4 hown hK hP 0 rfl rfl 4 (by decide) hw3 (fun _ h9 => h9) rfl dX4_digestOfPing_114 ?_
        refine lv_aload_n hx hb dX4_digestOfPing_117 rfl (lv_at hl 4 rfl) ?_
        refine va_get (D := D) (ci := 4) (v := .int (g 100 2)) (C := RX4) (T := TX4) (N := 14) hx hb hts iX4 hown hK hP 0 rfl rfl 9 (by decide) hw4 (fun _ h9 => h9) rfl dX4_digestOfPing_118 ?_
        refine pcL (va_runV (As := [.int (g 100 2)]) (rest := [.long (31 * ((31 * ((31 * hv4) + ((fateV g p0 (nI y) (bI (oOk g p0))).toInt64))) + (xT (uu_8 1 0) (uu_8 1 1) (g 100 2) + uu_8 1 2)))]) ⟨hx, hb, hml, hown, hts⟩ (kX1_north l D cI cO tt ad g uu_6 uu_8 X H 1 (g 100 2) (by decide)) (cwV 1 hts gX4_digestOfPing_X1_north rfl rfl rfl (by decide +kernel) ⟨(Nat.le_of_ble_eq_true rfl), (Nat.le_of_ble_eq_true rfl)⟩) (pwV hK hZ hN hP hS (va_recv hK hP (ci := 1) (q0 := 5) rfl rfl)) rfl rfl hl.1 rfl (lv_room (Nat.le_of_ble_eq_true rfl)) dX4_digestOfPing_121 ⟨Nat.zero_le _, Nat.zero_le _⟩) hS (fun locs hS => ?_)
        refine lv_ladd hx hb dX4_digestOfPing_124 ?_
        refine lv_lstore (lv' := [(4, .long ((31 * ((31 * ((31 * hv4) + ((fateV g p0 (nI y) (bI (oOk g p0))).toInt64))) + (xT (uu_8 1 0) (uu_8 1 1) (g 100 2) + uu_8 1 2))) + (yT (uu_8 1 0) (uu_8 1 1) (g 100 2) + uu_8 1 3))), (8, .int (fateV g p0 (nI y) (bI (oOk g p0)))), (7, .int (nI y)), (6, .int (bI (oOk g p0))), (0, .ref (ad 0)), (1, .long h0), (3, .int p0)]) hx hb dX4_digestOfPing_125 hl (by decide) rfl (fun ls hl => ?_)
        refine lv_iinc (v := nI (y + 1)) (lv' := [(7, .int (nI (y + 1))), (4, .long ((31 * ((31 * ((31 * hv4) + ((fateV g p0 (nI y) (bI (oOk g p0))).toInt64))) + (xT (uu_8 1 0) (uu_8 1 1) (g 100 2) + uu_8 1 2))) + (yT (uu_8 1 0) (uu_8 1 1) (g 100 2) + uu_8 1 3))), (8, .int (fateV g p0 (nI y) (bI (oOk g p0)))), (6, .int (bI (oOk g p0))), (0, .ref (ad 0)), (1, .long h0), (3, .int p0)]) hx hb dX4_digestOfPing_127 hl (k := 2) rfl (nI_1 _) (by decide) rfl (fun ls hl => ?_)
        refine lv_goto (tgt := 45) hx hb dX4_digestOfPing_130 (by decide) ?_
        obtain ⟨⟨z0, z1, z2, z3⟩, zo, -⟩ := pD_ok2 hIz_4.2.1 c_7 hju_6 hu_8
        exact ihz_4 (y + 1, (31 * ((31 * ((31 * hv4) + ((fateV g p0 (nI y) (bI (oOk g p0))).toInt64))) + (xT (uu_8 1 0) (uu_8 1 1) (g 100 2) + uu_8 1 2))) + (yT (uu_8 1 0) (uu_8 1 1) (g 100 2) + uu_8 1 3), uu_6, uu_8) (show (y + 1) ≤ rn (g 100 0) ∧ owP g p0 uu_8 ∧ ((31 * ((31 * ((31 * hv4) + ((fateV g p0 (nI y) (bI (oOk g p0))).toInt64))) + (xT (uu_8 1 0) (uu_8 1 1) (g 100 2) + uu_8 1 2))) + (yT (uu_8 1 0) (uu_8 1 1) (g 100 2) + uu_8 1 3)) = dgE g p0 h0 (y + 1) from ⟨hlt3.1, zo, by rw [z0, z1, z2, z3, dgE, if_pos c_7, hIz_4.2.2]; rfl⟩) (show rn (g 100 0) - (y + 1) < rn (g 100 0) - y from (Nat.sub_lt_sub_left hlt3.1 (Nat.lt_succ_self y))) _ _ _ hP hD hS (lv_sub hl [0, 3, 1, 4, 5, 6] rfl)
  · have hlt : i + 1 ≤ 5 := by
      have z : ¬ 4 < i := fun q => c_2 ((nI_ltI (a := 4) (b := i) (by omega) (by omega)).mpr q)
      omega
    refine lv_ldc2 hx hb hown hw2 dX4_digestOfPing_12 ?_
    refine lv_lload hx hb dX4_digestOfPing_15 (lv_at hl 1 rfl) ?_
    refine lv_lmul hx hb dX4_digestOfPing_17 ?_
    refine lv_aload_n hx hb dX4_digestOfPing_18 rfl (lv_at hl 2 rfl) ?_
    refine lv_iload_n hx hb dX4_digestOfPing_19 rfl (lv_at hl 4 rfl) ?_
    refine lv_iload hx hb dX4_digestOfPing_20 (lv_at hl 0 rfl) ?_
    refine mcI (wf := fun u : (Nat → Nat → Int32) × (Nat → Int32) × (Nat → Nat → Int64) => LW ad cI cO u.1 u.2.1 u.2.2 X) (va_runV (As := [.int p0, .int (nI i)]) (rest := [.long (31 * (dgA g p0 h0 i))]) ⟨hx, hb, hml, hown, hts⟩ (kX4_about l D cI cO tt ad g b1 d1 X H.size p0 (nI i) hI) (cwV 2 hts gX4_digestOfPing_X4_about rfl rfl rfl (by decide +kernel) ⟨(Nat.le_of_ble_eq_true rfl), (Nat.le_of_ble_eq_true rfl)⟩) (mwV hK hZ hN hP hD hS hA (va_recv hK hP (ci := 4) (q0 := 0) rfl rfl)) rfl rfl hl.1 rfl (lv_room (Nat.le_of_ble_eq_true rfl)) dX4_digestOfPing_22 ⟨Nat.zero_le _, Nat.zero_le _⟩) hD hS hA (fun ru_9 uu_9 H locs hu_9 hP hD hS => ?_)
    obtain ⟨gu_9, bu_9, du_9⟩ := uu_9
    obtain ⟨eru_9, egu_9⟩ := hu_9
    have egu_9 : g = gu_9 := egu_9.symm
    subst egu_9
    have eru_9 : ru_9 = fAbout g p0 (nI i) := eru_9
    subst eru_9
    have hP : va_P D vwCl (LW ad cI cO g bu_9 du_9 X) H := hP
    have hD : va_D A (LW ad cI cO g bu_9 du_9 X) := hD
    refine lv_i2l hx hb dX4_digestOfPing_25 rfl ?_
    refine lv_ladd hx hb dX4_digestOfPing_26 ?_
    refine lv_lstore (lv' := [(4, .long ((31 * (dgA g p0 h0 i)) + ((fAbout g p0 (nI i)).toInt64))), (6, .int (nI i)), (0, .ref (ad 0)), (1, .long h0), (3, .int p0)]) hx hb dX4_digestOfPing_27 hl (by decide) rfl (fun ls hl => ?_)
    refine lv_iinc (v := nI (i + 1)) (lv' := [(6, .int (nI (i + 1))), (4, .long ((31 * (dgA g p0 h0 i)) + ((fAbout g p0 (nI i)).toInt64))), (0, .ref (ad 0)), (1, .long h0), (3, .int p0)]) hx hb dX4_digestOfPing_29 hl (k := 1) rfl (nI_1 _) (by decide) rfl (fun ls hl => ?_)
    refine lv_goto (tgt := 6) hx hb dX4_digestOfPing_32 (by decide) ?_
    exact ihz_1 (i + 1, bu_9, du_9) (show (i + 1) ≤ 5 from hlt) (show 5 - (i + 1) < 5 - i from (by omega)) _ _ _ hP hD hS (lv_sub hl [0, 1, 2, 3, 4] rfl)
set_option maxHeartbeats 4000000 in
set_option maxRecDepth 100000 in
theorem kX4_digest (l : Launch) (D : va_G) (cI cO : ClassId) (tt : Nat) (ad : Nat → Nat) (g : Nat → Nat → Int32) (b : Nat → Int32) (d : Nat → Nat → Int64) (X : va_W) (sz : Nat)  (hI : WI g) : MmL l yX4_digest wsX4_digest ({ frames := 6, cells := 0, slots := 0, locals := 146 }) D cI cO tt (LW ad cI cO g b d X) sz [.ref (ad 0)] (S := (Nat → Nat → Int32) × (Nat → Int32) × (Nat → Nat → Int64)) (fun u => LW ad cI cO u.1 u.2.1 u.2.2 X) (fun z u => z = dgT g (rn (g 100 7)) ∧ u.1 = g) := by
  refine Met.ofW (cc := cX4_digest) (maxL := 4) (ret := (some .long)) (by decide) rfl ?_
  intro p e s m args below meth c s₁ B hml hv
  obtain ⟨rfl, hsz, hP, hK, hD0, hZ, hN⟩ := hv
  have hx := B.exec
  have hb := B.bytes
  have hr := B.returns
  have hts := atoms_spec (ws := wsX4_digest) B.pre
  have hown : s.vm.findClass RX4 = some m.cls := findClass_of_methodNamed B.named
  have hlocks := B.notSynchronized
  subst hsz
  have hD := hD0.self (sz := s.heap.size)
  generalize hAe : va_A (LW ad cI cO g b d X) s.heap.size = A at hD hZ ⊢
  have hA : ∀ q : Nat, s.heap.size ≤ q → A q := fun q h => by rw [← hAe]; exact Or.inr h
  have hS : va_S A s.heap s.heap [] := va_S.rf
  have hl := lv_entry ([.ref (ad 0)]) (n := 4) (Nat.le_of_ble_eq_true rfl)
  rw [lg_entry_eq]
  generalize (lg_sl ([.ref (ad 0)]) ++ List.replicate (4 - (lg_sl ([.ref (ad 0)])).length) Slot.unset).toArray = ls at hl ⊢
  have hl : lv_has ls 4 [(0, .ref (ad 0))] := hl
  have hw0 := hts (.constantLong RX4 258 (17)) (List.mem_cons_of_mem _ (List.mem_append_left _ (List.mem_append_left _ (List.mem_append_left _ (List.mem_append_left _ (List.mem_append_left _ (List.mem_append_left _ (List.mem_of_getElem? (l := wsX4_digest_r1) (i := 0) rfl))))))))
  have hw1 := hts (.constantLong RX4 260 (31)) (List.mem_cons_of_mem _ (List.mem_append_left _ (List.mem_append_left _ (List.mem_append_left _ (List.mem_append_left _ (List.mem_append_left _ (List.mem_append_left _ (List.mem_of_getElem? (l := wsX4_digest_r1) (i := 1) rfl))))))))
  have hw2 := hts (.fieldLink RX4 18 "LayerSounder" "track" "LLayerSounder$Track;") (List.mem_cons_of_mem _ (List.mem_append_left _ (List.mem_append_left _ (List.mem_append_left _ (List.mem_append_left _ (List.mem_append_left _ (List.mem_append_left _ (List.mem_of_getElem? (l := wsX4_digest_r1) (i := 2) rfl))))))))
  have iX4 : ∀ w ∈ wsX40, w ∈ wsX4_digest := fun _ h => List.mem_cons_of_mem _ (List.mem_append_left _ (List.mem_append_left _ (List.mem_append_left _ (List.mem_append_left _ (List.mem_append_right _ h)))))
  have iX3 : ∀ w ∈ wsX30, w ∈ wsX4_digest := fun _ h => List.mem_cons_of_mem _ (List.mem_append_left _ (List.mem_append_left _ (List.mem_append_left _ (List.mem_append_right _ h))))
  refine lv_ldc2 hx hb hown hw0 dX4_digest_0 ?_
  refine lv_lstore_n (lv' := [(1, .long 17), (0, .ref (ad 0))]) hx hb dX4_digest_3 rfl hl (by decide) rfl (fun ls hl => ?_)
  refine lv_iconst (v := 0) hx hb dX4_digest_4 (by decide) ?_
  refine lv_istore_n (lv' := [(3, .int 0), (1, .long 17), (0, .ref (ad 0))]) hx hb dX4_digest_5 rfl hl (by decide) rfl (fun ls hl => ?_)
  refine wloop (D := D) (A := A) (σ := Nat × (Nat → Int32) × (Nat → Nat → Int64)) (pc := 6) (nL := 4) (fun z_1 => [(3, .int (nI z_1.1)), (1, .long (dgC g z_1.1)), (0, .ref (ad 0))]) (fun z_1 => LW ad cI cO g z_1.2.1 z_1.2.2 X) (fun z_1 => z_1.1 ≤ 5) (fun z_1 => 5 - z_1.1) (fun z_1 hIz_1 ihz_1 H locs ls hP hD hS hl => ?_) (0, b, d) (Nat.zero_le _) _ _ _ hP hD hS (lv_sub hl [0, 1, 2] rfl)
  obtain ⟨i, b1, d1⟩ := z_1
  have hP : va_P D vwCl (LW ad cI cO g b1 d1 X) H := hP
  have hD : va_D A (LW ad cI cO g b1 d1 X) := hD
  have hl : lv_has ls 4 [(3, .int (nI i)), (1, .long (dgC g i)), (0, .ref (ad 0))] := hl
  have hIz_1 : i ≤ 5 := hIz_1
  refine lv_iload_n hx hb dX4_digest_6 rfl (lv_at hl 0 rfl) ?_
  refine lv_iconst (v := 4) hx hb dX4_digest_7 (by decide) ?_
  refine lv_icmp_gt (tgt := 30) hx hb dX4_digest_8 (by decide) (fun c_2 => ?_) (fun c_2 => ?_)
  · have hi5 : i = 5 := by
      have z : 4 < i := (nI_ltI (a := 4) (b := i) (by omega) (by omega)).mp c_2
      omega
    refine lv_ldc2 hx hb hown hw1 dX4_digest_30 ?_
    refine lv_lload_n hx hb dX4_digest_33 rfl (lv_at hl 1 rfl) ?_
    refine lv_lmul hx hb dX4_digest_34 ?_
    refine lv_aload_n hx hb dX4_digest_35 rfl (lv_at hl 2 rfl) ?_
    refine lv_bipush (v := 6) hx hb dX4_digest_36 (by decide) ?_
    refine pcI (va_runV (As := [.int 6]) (rest := [.long (31 * (dgC g i))]) ⟨hx, hb, hml, hown, hts⟩ (kX4_count l D cI cO tt ad g b1 d1 X H 6 ) (cwV 1 hts gX4_digest_X4_count rfl rfl rfl (by decide +kernel) ⟨(Nat.le_of_ble_eq_true rfl), (Nat.le_of_ble_eq_true rfl)⟩) (pwV hK hZ hN hP hS (va_recv hK hP (ci := 4) (q0 := 0) rfl rfl)) rfl rfl hl.1 rfl (lv_room (Nat.le_of_ble_eq_true rfl)) dX4_digest_38 ⟨Nat.zero_le _, Nat.zero_le _⟩) hS (fun locs hS => ?_)
    refine lv_i2l hx hb dX4_digest_41 rfl ?_
    refine lv_ladd hx hb dX4_digest_42 ?_
    refine lv_lstore_n (lv' := [(1, .long ((31 * (dgC g i)) + ((fCount g 6).toInt64))), (3, .int (nI i)), (0, .ref (ad 0))]) hx hb dX4_digest_43 rfl hl (by decide) rfl (fun ls hl => ?_)
    refine lv_ldc2 hx hb hown hw1 dX4_digest_44 ?_
    refine lv_lload_n hx hb dX4_digest_47 rfl (lv_at hl 0 rfl) ?_
    refine lv_lmul hx hb dX4_digest_48 ?_
    refine lv_aload_n hx hb dX4_digest_49 rfl (lv_at hl 2 rfl) ?_
    refine lv_bipush (v := 7) hx hb dX4_digest_50 (by decide) ?_
    refine pcI (va_runV (As := [.int 7]) (rest := [.long (31 * ((31 * (dgC g i)) + ((fCount g 6).toInt64)))]) ⟨hx, hb, hml, hown, hts⟩ (kX4_count l D cI cO tt ad g b1 d1 X H 7 ) (cwV 1 hts gX4_digest_X4_count rfl rfl rfl (by decide +kernel) ⟨(Nat.le_of_ble_eq_true rfl), (Nat.le_of_ble_eq_true rfl)⟩) (pwV hK hZ hN hP hS (va_recv hK hP (ci := 4) (q0 := 0) rfl rfl)) rfl rfl hl.1 rfl (lv_room (Nat.le_of_ble_eq_true rfl)) dX4_digest_52 ⟨Nat.zero_le _, Nat.zero_le _⟩) hS (fun locs hS => ?_)
    refine lv_i2l hx hb dX4_digest_55 rfl ?_
    refine lv_ladd hx hb dX4_digest_56 ?_
    refine lv_lstore_n (lv' := [(1, .long ((31 * ((31 * (dgC g i)) + ((fCount g 6).toInt64))) + ((fCount g 7).toInt64))), (3, .int (nI i)), (0, .ref (ad 0))]) hx hb dX4_digest_57 rfl hl (by decide) rfl (fun ls hl => ?_)
    refine lv_iconst (v := 0) hx hb dX4_digest_58 (by decide) ?_
    refine lv_istore_n (lv' := [(3, .int 0), (1, .long ((31 * ((31 * (dgC g i)) + ((fCount g 6).toInt64))) + ((fCount g 7).toInt64))), (0, .ref (ad 0))]) hx hb dX4_digest_59 rfl hl (by decide) rfl (fun ls hl => ?_)
    refine wloop (D := D) (A := A) (σ := Nat × Int64 × (Nat → Int32) × (Nat → Nat → Int64)) (pc := 60) (nL := 4) (fun z_3 => [(3, .int (nI z_3.1)), (1, .long z_3.2.1), (0, .ref (ad 0))]) (fun z_3 => LW ad cI cO g z_3.2.2.1 z_3.2.2.2 X) (fun z_3 => z_3.1 ≤ rn (g 100 7) ∧ z_3.2.1 = dgT g z_3.1) (fun z_3 => rn (g 100 7) - z_3.1) (fun z_3 hIz_3 ihz_3 H locs ls hP hD hS hl => ?_) (0, (31 * ((31 * (dgC g i)) + ((fCount g 6).toInt64))) + ((fCount g 7).toInt64), b1, d1) (⟨Nat.zero_le _, by rw [hi5]; rfl⟩) _ _ _ hP hD hS (lv_sub hl [0, 1, 2] rfl)
    obtain ⟨y, hv, b2, d2⟩ := z_3
    have hP : va_P D vwCl (LW ad cI cO g b2 d2 X) H := hP
    have hD : va_D A (LW ad cI cO g b2 d2 X) := hD
    have hl : lv_has ls 4 [(3, .int (nI y)), (1, .long hv), (0, .ref (ad 0))] := hl
    have hIz_3 : y ≤ rn (g 100 7) ∧ hv = dgT g y := hIz_3
    refine lv_iload_n hx hb dX4_digest_60 rfl (lv_at hl 0 rfl) ?_
    refine lv_aload_n hx hb dX4_digest_61 rfl (lv_at hl 2 rfl) ?_
    refine va_get (D := D) (ci := 4) (v := .ref (ad 2)) (C := RX4) (T := TX4) (N := 14) hx hb hts iX4 hown hK hP 0 rfl rfl 1 (by decide) hw2 (fun _ h9 => h9) rfl dX4_digest_62 ?_
    refine va_getN (D := D) (ci := 3) (v := .int (g 100 7)) (C := RX3) (T := TX3) (N := 5) hx hb hts iX3 hown hK hP 2 rfl rfl 4 (by decide) (va_Nw.use rfl (hN.1 (124, RX3, "number", "I") (List.mem_of_getElem? (i := 2) rfl))) (fun _ h9 => h9) rfl dX4_digest_65 ?_
    refine lv_icmp_ge (tgt := 84) hx hb dX4_digest_68 (by decide) (fun c_4 => ?_) (fun c_4 => ?_)
    · refine lv_lload_n hx hb dX4_digest_84 rfl (lv_at hl 1 rfl) ?_
      exact W.lret (v := hv) hx hb hr (fun t ht hW => ⟨⟨hv, (g, b2, d2), rfl, (by refine ⟨?_, rfl⟩; rw [nlast hI.2.1.1 hIz_3.1 c_4]; exact hIz_3.2), by rw [ht]; exact hP, hD⟩, hS.F ht⟩) hS.2.2 dX4_digest_85
    · have hlt2 := nuN hI hIz_3.1 c_4
      refine lv_aload_n hx hb dX4_digest_71 rfl (lv_at hl 2 rfl) ?_
      refine lv_lload_n hx hb dX4_digest_72 rfl (lv_at hl 1 rfl) ?_
      refine lv_iload_n hx hb dX4_digest_73 rfl (lv_at hl 0 rfl) ?_
      refine mcL (wf := fun u : (Nat → Int32) × (Nat → Nat → Int64) => LW ad cI cO g u.1 u.2 X) (va_runV (As := [.long hv, .int (nI y)]) (rest := []) ⟨hx, hb, hml, hown, hts⟩ (kX4_digestOfPing l D cI cO tt ad g b2 d2 X H.size hv (nI y) hI) (cwV 2 hts gX4_digest_X4_digestOfPing rfl rfl rfl (by decide +kernel) ⟨(Nat.le_of_ble_eq_true rfl), (Nat.le_of_ble_eq_true rfl)⟩) (mwV hK hZ hN hP hD hS hA (va_recv hK hP (ci := 4) (q0 := 0) rfl rfl)) rfl rfl hl.1 rfl (lv_room (Nat.le_of_ble_eq_true rfl)) dX4_digest_74 ⟨Nat.zero_le _, Nat.zero_le _⟩) hD hS hA (fun ru_5 uu_5 H locs hu_5 hP hD hS => ?_)
      obtain ⟨bu_5, du_5⟩ := uu_5
      have eru_5 := hu_5
      have eru_5 : ru_5 = dgE g (nI y) hv (rn (g 100 0)) := eru_5
      subst eru_5
      have hP : va_P D vwCl (LW ad cI cO g bu_5 du_5 X) H := hP
      have hD : va_D A (LW ad cI cO g bu_5 du_5 X) := hD
      refine lv_lstore_n (lv' := [(1, .long (dgE g (nI y) hv (rn (g 100 0)))), (3, .int (nI y)), (0, .ref (ad 0))]) hx hb dX4_digest_77 rfl hl (by decide) rfl (fun ls hl => ?_)
      refine lv_iinc (v := nI (y + 1)) (lv' := [(3, .int (nI (y + 1))), (1, .long (dgE g (nI y) hv (rn (g 100 0)))), (0, .ref (ad 0))]) hx hb dX4_digest_78 hl (k := 1) rfl (nI_1 _) (by decide) rfl (fun ls hl => ?_)
      refine lv_goto (tgt := 60) hx hb dX4_digest_81 (by decide) ?_
      exact ihz_3 (y + 1, dgE g (nI y) hv (rn (g 100 0)), bu_5, du_5) (show (y + 1) ≤ rn (g 100 7) ∧ (dgE g (nI y) hv (rn (g 100 0))) = dgT g (y + 1) from ⟨hlt2.1, by rw [hIz_3.2]; rfl⟩) (show rn (g 100 7) - (y + 1) < rn (g 100 7) - y from (Nat.sub_lt_sub_left hlt2.1 (Nat.lt_succ_self y))) _ _ _ hP hD hS (lv_sub hl [0, 1, 2] rfl)
  · have hlt : i + 1 ≤ 5 := by
      have z : ¬ 4 < i := fun q => c_2 ((nI_ltI (a := 4) (b := i) (by omega) (by omega)).mpr q)
      omega
    refine lv_ldc2 hx hb hown hw1 dX4_digest_11 ?_
    refine lv_lload_n hx hb dX4_digest_14 rfl (lv_at hl 1 rfl) ?_
    refine lv_lmul hx hb dX4_digest_15 ?_
    refine lv_aload_n hx hb dX4_digest_16 rfl (lv_at hl 2 rfl) ?_
    refine lv_iload_n hx hb dX4_digest_17 rfl (lv_at hl 0 rfl) ?_
    refine pcI (va_runV (As := [.int (nI i)]) (rest := [.long (31 * (dgC g i))]) ⟨hx, hb, hml, hown, hts⟩ (kX4_count l D cI cO tt ad g b1 d1 X H (nI i) ) (cwV 1 hts gX4_digest_X4_count rfl rfl rfl (by decide +kernel) ⟨(Nat.le_of_ble_eq_true rfl), (Nat.le_of_ble_eq_true rfl)⟩) (pwV hK hZ hN hP hS (va_recv hK hP (ci := 4) (q0 := 0) rfl rfl)) rfl rfl hl.1 rfl (lv_room (Nat.le_of_ble_eq_true rfl)) dX4_digest_18 ⟨Nat.zero_le _, Nat.zero_le _⟩) hS (fun locs hS => ?_)
    refine lv_i2l hx hb dX4_digest_21 rfl ?_
    refine lv_ladd hx hb dX4_digest_22 ?_
    refine lv_lstore_n (lv' := [(1, .long ((31 * (dgC g i)) + ((fCount g (nI i)).toInt64))), (3, .int (nI i)), (0, .ref (ad 0))]) hx hb dX4_digest_23 rfl hl (by decide) rfl (fun ls hl => ?_)
    refine lv_iinc (v := nI (i + 1)) (lv' := [(3, .int (nI (i + 1))), (1, .long ((31 * (dgC g i)) + ((fCount g (nI i)).toInt64))), (0, .ref (ad 0))]) hx hb dX4_digest_24 hl (k := 1) rfl (nI_1 _) (by decide) rfl (fun ls hl => ?_)
    refine lv_goto (tgt := 6) hx hb dX4_digest_27 (by decide) ?_
    exact ihz_1 (i + 1, b1, d1) (show (i + 1) ≤ 5 from hlt) (show 5 - (i + 1) < 5 - i from (by omega)) _ _ _ hP hD hS (lv_sub hl [0, 1, 2] rfl)
