set_option maxHeartbeats 4000000 in
set_option maxRecDepth 100000 in
theorem kX5_fates (l : Launch) (D : va_G) (cI cO : ClassId) (tt : Nat) (am : Nat → Nat) (g : Nat → Nat → Int32) (y : Nat → Int32) (zz : Nat → Int32) (j : Nat → Int64) (f : Nat → Int32) (v : Nat → Int32) (X : va_W) (sz : Nat) (w0 : Int32) (hI : WI g) (hM : RM g y zz) : MmI l yX5_fates wsX5_fates ({ frames := 4, cells := 0, slots := 0, locals := 96 }) D cI cO tt (MW am cI g y zz j f v X) sz [.ref (am 0), .int w0] (S := (Nat → Nat → Int32) × (Nat → Int32) × (Nat → Int32) × (Nat → Int64) × (Nat → Int32) × (Nat → Int32)) (fun u => MW am cI u.1 u.2.1 u.2.2.1 u.2.2.2.1 u.2.2.2.2.1 u.2.2.2.2.2 X) (fun z u => z = fFates g w0 ∧ u.1 = g ∧ RM u.1 u.2.1 u.2.2.1) := by
  refine Met.ofW (cc := cX5_fates) (maxL := 5) (ret := (some .int)) (by decide) rfl ?_
  intro p e s m args below meth c s₁ B hml hv
  obtain ⟨rfl, hsz, hP, hK, hD0, hZ, hN⟩ := hv
  have hx := B.exec
  have hb := B.bytes
  have hr := B.returns
  have hts := atoms_spec (ws := wsX5_fates) B.pre
  have hown : s.vm.findClass RX5 = some m.cls := findClass_of_methodNamed B.named
  have hlocks := B.notSynchronized
  subst hsz
  have hD := hD0.self (sz := s.heap.size)
  generalize hAe : va_A (MW am cI g y zz j f v X) s.heap.size = A at hD hZ ⊢
  have hA : ∀ q : Nat, s.heap.size ≤ q → A q := fun q h => by rw [← hAe]; exact Or.inr h
  have hS : va_S A s.heap s.heap [] := va_S.rf
  have hl := lv_entry ([.ref (am 0), .int w0]) (n := 5) (Nat.le_of_ble_eq_true rfl)
  rw [lg_entry_eq]
  generalize (lg_sl ([.ref (am 0), .int w0]) ++ List.replicate (5 - (lg_sl ([.ref (am 0), .int w0])).length) Slot.unset).toArray = ls at hl ⊢
  have hl : lv_has ls 5 [(0, .ref (am 0)), (1, .int w0)] := hl
  have hw0 := hts (.constantLong RX5 184 (6)) (List.mem_cons_of_mem _ (List.mem_append_left _ (List.mem_append_left _ (List.mem_of_getElem? (l := wsX5_fates_r1) (i := 0) rfl))))
  have hw1 := hts (.fieldLink RX5 82 "LayerSounderModel" "pings" "I") (List.mem_cons_of_mem _ (List.mem_append_left _ (List.mem_append_left _ (List.mem_of_getElem? (l := wsX5_fates_r1) (i := 1) rfl))))
  have iX5 : ∀ w ∈ wsX50, w ∈ wsX5_fates := fun _ h => List.mem_cons_of_mem _ (List.mem_append_right _ h)
  have hw3 := hts (.fieldLink RX5 28 "LayerSounderModel" "l" "I") (List.mem_cons_of_mem _ (List.mem_append_left _ (List.mem_append_left _ (List.mem_of_getElem? (l := wsX5_fates_r1) (i := 2) rfl))))
  refine lv_iload_n hx hb dX5_fates_0 rfl (lv_at hl 1 rfl) ?_
  refine lv_i2l hx hb dX5_fates_1 rfl ?_
  refine lv_lconst (v := 0) hx hb dX5_fates_2 (by decide) ?_
  refine lv_ldc2 hx hb hown hw0 dX5_fates_3 ?_
  refine pcI (va_runS (As := [.long w0.toInt64, .long 0, .long 6]) (rest := []) ⟨hx, hb, hml, hown, hts⟩ (kX5_in l D cI cO tt (MW am cI g y zz j f v X) s.heap w0 (0 : Int32) (6 : Int32) w0.toInt64 0 6 rfl (by decide) (by decide)) (va_cwS 3 hts gX5_fates_X5_in rfl rfl rfl (by decide +kernel) ⟨(Nat.le_of_ble_eq_true rfl), (Nat.le_of_ble_eq_true rfl)⟩) (pwS hK hZ hN hP hS) rfl rfl hl.1 rfl (lv_room (Nat.le_of_ble_eq_true rfl)) dX5_fates_6 ⟨Nat.zero_le _, Nat.zero_le _⟩) hS (fun locs hS => ?_)
  refine lv_if_ne (tgt := 15) hx hb dX5_fates_9 (by decide) (fun c_1 => ?_) (fun c_1 => ?_)
  · have c_1 := bI_n0.mp c_1
    refine lv_iconst (v := 0) hx hb dX5_fates_15 (by decide) ?_
    refine lv_istore_n (lv' := [(2, .int 0), (0, .ref (am 0)), (1, .int w0)]) hx hb dX5_fates_16 rfl hl (by decide) rfl (fun ls hl => ?_)
    refine lv_iconst (v := 0) hx hb dX5_fates_17 (by decide) ?_
    refine lv_istore_n (lv' := [(3, .int 0), (2, .int 0), (0, .ref (am 0)), (1, .int w0)]) hx hb dX5_fates_18 rfl hl (by decide) rfl (fun ls hl => ?_)
    refine wloop (D := D) (A := A) (σ := Nat × Int32 × (Nat → Int64) × (Nat → Int32)) (pc := 19) (nL := 5) (fun z_2 => [(3, .int (nI z_2.1)), (2, .int z_2.2.1), (0, .ref (am 0)), (1, .int w0)]) (fun z_2 => MW am cI g y zz z_2.2.2.1 z_2.2.2.2 v X) (fun z_2 => z_2.1 ≤ rn (g 100 7) ∧ z_2.2.1 = sI (fun q => fts g (nI q) w0 (rn (g 100 0))) z_2.1) (fun z_2 => rn (g 100 7) - z_2.1) (fun z_2 hIz_2 ihz_2 H locs ls hP hD hS hl => ?_) (0, 0, j, f) (⟨Nat.zero_le _, rfl⟩) _ _ _ hP hD hS (lv_sub hl [0, 1, 2, 3] rfl)
    obtain ⟨i, mm, j1, f1⟩ := z_2
    have hP : va_P D vwCl (MW am cI g y zz j1 f1 v X) H := hP
    have hD : va_D A (MW am cI g y zz j1 f1 v X) := hD
    have hl : lv_has ls 5 [(3, .int (nI i)), (2, .int mm), (0, .ref (am 0)), (1, .int w0)] := hl
    have hIz_2 : i ≤ rn (g 100 7) ∧ mm = sI (fun q => fts g (nI q) w0 (rn (g 100 0))) i := hIz_2
    refine lv_iload_n hx hb dX5_fates_19 rfl (lv_at hl 0 rfl) ?_
    refine lv_aload_n hx hb dX5_fates_20 rfl (lv_at hl 2 rfl) ?_
    refine va_get (D := D) (ci := 5) (v := .int (g 100 7)) (C := RX5) (T := TX5) (N := 31) hx hb hts iX5 hown hK hP 0 rfl rfl 8 (by decide) hw1 (fun _ h9 => h9) rfl dX5_fates_21 ?_
    refine lv_icmp_ge (tgt := 70) hx hb dX5_fates_24 (by decide) (fun c_3 => ?_) (fun c_3 => ?_)
    · refine lv_iload_n hx hb dX5_fates_70 rfl (lv_at hl 1 rfl) ?_
      exact W.iret (v := mm) hx hb hr (fun t ht hW => ⟨⟨mm, (g, y, zz, j1, f1, v), rfl, (by exact ⟨(by rw [fFates, if_pos c_1, nlast hI.2.1.1 hIz_2.1 c_3]; exact hIz_2.2), rfl, hM⟩), by rw [ht]; exact hP, hD⟩, hS.F ht⟩) hS.2.2 dX5_fates_71
    · have hlt := nuN hI hIz_2.1 c_3
      refine lv_iconst (v := 0) hx hb dX5_fates_27 (by decide) ?_
      refine lv_istore (lv' := [(4, .int 0), (3, .int (nI i)), (2, .int mm), (0, .ref (am 0)), (1, .int w0)]) hx hb dX5_fates_28 hl (by decide) rfl (fun ls hl => ?_)
      refine wloop (D := D) (A := A) (σ := Nat × Int32 × (Nat → Int64) × (Nat → Int32)) (pc := 30) (nL := 5) (fun z_4 => [(4, .int (nI z_4.1)), (3, .int (nI i)), (2, .int z_4.2.1), (0, .ref (am 0)), (1, .int w0)]) (fun z_4 => MW am cI g y zz z_4.2.2.1 z_4.2.2.2 v X) (fun z_4 => z_4.1 ≤ rn (g 100 0) ∧ z_4.2.1 = sI (fun q => fts g (nI q) w0 (rn (g 100 0))) i + fts g (nI i) w0 z_4.1) (fun z_4 => rn (g 100 0) - z_4.1) (fun z_4 hIz_4 ihz_4 H locs ls hP hD hS hl => ?_) (0, mm, j1, f1) (⟨Nat.zero_le _, by rw [hIz_2.2]; exact (Int32.add_zero _).symm⟩) _ _ _ hP hD hS (lv_sub hl [0, 1, 2, 3, 4] rfl)
      obtain ⟨k2, m2, j2, f2⟩ := z_4
      have hP : va_P D vwCl (MW am cI g y zz j2 f2 v X) H := hP
      have hD : va_D A (MW am cI g y zz j2 f2 v X) := hD
      have hl : lv_has ls 5 [(4, .int (nI k2)), (3, .int (nI i)), (2, .int m2), (0, .ref (am 0)), (1, .int w0)] := hl
      have hIz_4 : k2 ≤ rn (g 100 0) ∧ m2 = sI (fun q => fts g (nI q) w0 (rn (g 100 0))) i + fts g (nI i) w0 k2 := hIz_4
      refine lv_iload hx hb dX5_fates_30 (lv_at hl 0 rfl) ?_
      refine lv_aload_n hx hb dX5_fates_32 rfl (lv_at hl 3 rfl) ?_
      refine va_get (D := D) (ci := 5) (v := .int (g 100 0)) (C := RX5) (T := TX5) (N := 31) hx hb hts iX5 hown hK hP 0 rfl rfl 7 (by decide) hw3 (fun _ h9 => h9) rfl dX5_fates_33 ?_
      refine lv_icmp_ge (tgt := 64) hx hb dX5_fates_36 (by decide) (fun c_5 => ?_) (fun c_5 => ?_)
      · have hk9 := nlast (la0 hI) hIz_4.1 c_5
        refine lv_iinc (v := nI (i + 1)) (lv' := [(3, .int (nI (i + 1))), (4, .int (nI k2)), (2, .int m2), (0, .ref (am 0)), (1, .int w0)]) hx hb dX5_fates_64 hl (k := 1) rfl (nI_1 _) (by decide) rfl (fun ls hl => ?_)
        refine lv_goto (tgt := 19) hx hb dX5_fates_67 (by decide) ?_
        exact ihz_2 (i + 1, m2, j2, f2) (show (i + 1) ≤ rn (g 100 7) ∧ m2 = sI (fun q => fts g (nI q) w0 (rn (g 100 0))) (i + 1) from ⟨hlt.1, by rw [hIz_4.2, ← hk9]; rfl⟩) (show rn (g 100 7) - (i + 1) < rn (g 100 7) - i from (Nat.sub_lt_sub_left hlt.1 (Nat.lt_succ_self i))) _ _ _ hP hD hS (lv_sub hl [0, 2, 3, 4] rfl)
      · have hlt2 := laN hI hIz_4.1 c_5
        refine lv_iload_n hx hb dX5_fates_39 rfl (lv_at hl 2 rfl) ?_
        refine lv_aload_n hx hb dX5_fates_40 rfl (lv_at hl 3 rfl) ?_
        refine lv_iload_n hx hb dX5_fates_41 rfl (lv_at hl 1 rfl) ?_
        refine lv_iload hx hb dX5_fates_42 (lv_at hl 0 rfl) ?_
        refine mcI (wf := fun u : (Nat → Int64) × (Nat → Int32) => MW am cI g y zz u.1 u.2 v X) (va_runV (As := [.int (nI i), .int (nI k2)]) (rest := [.int m2]) ⟨hx, hb, hml, hown, hts⟩ (kX5_fateOf l D cI cO tt am g y zz j2 f2 v X H.size (nI i) (nI k2) hI hM (isP_n hI hlt.1) (isC_n hI hlt2.1)) (cwV 2 hts gX5_fates_X5_fateOf rfl rfl rfl (by decide +kernel) ⟨(Nat.le_of_ble_eq_true rfl), (Nat.le_of_ble_eq_true rfl)⟩) (mwV hK hZ hN hP hD hS hA (va_recv hK hP (ci := 5) (q0 := 0) rfl rfl)) rfl rfl hl.1 rfl (lv_room (Nat.le_of_ble_eq_true rfl)) dX5_fates_44 ⟨Nat.zero_le _, Nat.zero_le _⟩) hD hS hA (fun ru_6 uu_6 H locs hu_6 hP hD hS => ?_)
        obtain ⟨ju_6, fu_6⟩ := uu_6
        obtain ⟨eru_6, hqu_6⟩ := hu_6
        have eru_6 : ru_6 = gdF g (nI i) (nI k2) := eru_6
        subst eru_6
        have hqu_6 : ∀ q, 4 ≤ q → ju_6 q = j2 q := hqu_6
        have hP : va_P D vwCl (MW am cI g y zz ju_6 fu_6 v X) H := hP
        have hD : va_D A (MW am cI g y zz ju_6 fu_6 v X) := hD
        refine lv_iload_n hx hb dX5_fates_47 rfl (lv_at hl 4 rfl) ?_
        refine jnI (j := 56) (rest := [.int m2]) (fun z => z = bI (gdF g (nI i) (nI k2) = w0)) (fun v_8 hv_8 => ?_) (fun hJ => ?_)
        · subst hv_8
          refine lv_iadd hx hb dX5_fates_56 ?_
          refine lv_istore_n (lv' := [(2, .int (m2 + (bI (gdF g (nI i) (nI k2) = w0)))), (4, .int (nI k2)), (3, .int (nI i)), (0, .ref (am 0)), (1, .int w0)]) hx hb dX5_fates_57 rfl hl (by decide) rfl (fun ls hl => ?_)
          refine lv_iinc (v := nI (k2 + 1)) (lv' := [(4, .int (nI (k2 + 1))), (2, .int (m2 + (bI (gdF g (nI i) (nI k2) = w0)))), (3, .int (nI i)), (0, .ref (am 0)), (1, .int w0)]) hx hb dX5_fates_58 hl (k := 1) rfl (nI_1 _) (by decide) rfl (fun ls hl => ?_)
          refine lv_goto (tgt := 30) hx hb dX5_fates_61 (by decide) ?_
          exact ihz_4 (k2 + 1, m2 + (bI (gdF g (nI i) (nI k2) = w0)), ju_6, fu_6) (show (k2 + 1) ≤ rn (g 100 0) ∧ (m2 + (bI (gdF g (nI i) (nI k2) = w0))) = sI (fun q => fts g (nI q) w0 (rn (g 100 0))) i + fts g (nI i) w0 (k2 + 1) from ⟨hlt2.1, by rw [hIz_4.2, Int32.add_assoc]; rfl⟩) (show rn (g 100 0) - (k2 + 1) < rn (g 100 0) - k2 from (Nat.sub_lt_sub_left hlt2.1 (Nat.lt_succ_self k2))) _ _ _ hP hD hS (lv_sub hl [0, 2, 1, 3, 4] rfl)
        · refine lv_icmp_ne (tgt := 55) hx hb dX5_fates_48 (by decide) (fun c_9 => ?_) (fun c_9 => ?_)
          · refine lv_iconst (v := 0) hx hb dX5_fates_55 (by decide) ?_
            exact hJ _ (by exact (bI_f c_9).symm)
          · refine lv_iconst (v := 1) hx hb dX5_fates_51 (by decide) ?_
            refine lv_goto (tgt := 56) hx hb dX5_fates_52 (by decide) ?_
            exact hJ _ (by exact (bI_t c_9).symm)
  · have c_1 := bI_0.mp c_1
    refine lv_bipush (v := (-2)) hx hb dX5_fates_12 (by decide) ?_
    exact W.iret (v := (-2)) hx hb hr (fun t ht hW => ⟨⟨(-2), (g, y, zz, j, f, v), rfl, (by exact ⟨(by rw [fFates, if_neg c_1]), rfl, hM⟩), by rw [ht]; exact hP, hD⟩, hS.F ht⟩) hS.2.2 dX5_fates_14
set_option maxHeartbeats 4000000 in
set_option maxRecDepth 100000 in
theorem kX5_gather (l : Launch) (D : va_G) (cI cO : ClassId) (tt : Nat) (am : Nat → Nat) (g : Nat → Nat → Int32) (y : Nat → Int32) (zz : Nat → Int32) (j : Nat → Int64) (f : Nat → Int32) (v : Nat → Int32) (X : va_W) (sz : Nat) (p0 : Int32) (q0 : Int32) (c0 : Int32) (e0 : Int32) (P : Nat) (Q : Nat) (C : Nat) (E : Nat) (hI : WI g) (hM : RM g y zz) (hp0 : p0 = nI P) (hq0 : q0 = nI Q) (hc0 : c0 = nI C) (he0 : e0 = nI E) (hb4 : P ≤ Q ∧ Q < rn (g 100 7) ∧ C ≤ E ∧ E < rn (g 100 0)) : MmV l yX5_gather wsX5_gather ({ frames := 4, cells := 0, slots := 0, locals := 96 }) D cI cO tt (MW am cI g y zz j f v X) sz [.ref (am 0), .int p0, .int q0, .int c0, .int e0] (S := (Nat → Int64) × (Nat → Int32)) (fun u => MW am cI g y zz u.1 u.2 v X) (fun u => gsP g P C (Q + 1 - P) (E + 1 - C) u.1) := by
  refine Met.ofW (cc := cX5_gather) (maxL := 7) (ret := none) (by decide) rfl ?_
  intro p e s m args below meth c s₁ B hml hv
  obtain ⟨rfl, hsz, hP, hK, hD0, hZ, hN⟩ := hv
  have hx := B.exec
  have hb := B.bytes
  have hr := B.returns
  have hts := atoms_spec (ws := wsX5_gather) B.pre
  have hown : s.vm.findClass RX5 = some m.cls := findClass_of_methodNamed B.named
  have hlocks := B.notSynchronized
  subst hsz
  have hD := hD0.self (sz := s.heap.size)
  generalize hAe : va_A (MW am cI g y zz j f v X) s.heap.size = A at hD hZ ⊢
  have hA : ∀ q : Nat, s.heap.size ≤ q → A q := fun q h => by rw [← hAe]; exact Or.inr h
  have hS : va_S A s.heap s.heap [] := va_S.rf
  have hl := lv_entry ([.ref (am 0), .int p0, .int q0, .int c0, .int e0]) (n := 7) (Nat.le_of_ble_eq_true rfl)
  rw [lg_entry_eq]
  generalize (lg_sl ([.ref (am 0), .int p0, .int q0, .int c0, .int e0]) ++ List.replicate (7 - (lg_sl ([.ref (am 0), .int p0, .int q0, .int c0, .int e0])).length) Slot.unset).toArray = ls at hl ⊢
  have hl : lv_has ls 7 [(0, .ref (am 0)), (1, .int p0), (2, .int q0), (3, .int c0), (4, .int e0)] := hl
  have h40 : rn (g 100 7) ≤ 40 := rnle hI.2.1.1 hI.2.1.2 (by decide)
  have h16 : rn (g 100 0) ≤ 16 := rnle (la0 hI) hI.2.2.1.2 (by decide)
  have hw0 := hts (.fieldLink RX5 186 "LayerSounderModel" "many" "J") (List.mem_cons_of_mem _ (List.mem_append_left _ (List.mem_append_left _ (List.mem_of_getElem? (l := wsX5_gather_r1) (i := 0) rfl))))
  have iX5 : ∀ w ∈ wsX50, w ∈ wsX5_gather := fun _ h => List.mem_cons_of_mem _ (List.mem_append_right _ h)
  have hw2 := hts (.fieldLink RX5 189 "LayerSounderModel" "sumX" "J") (List.mem_cons_of_mem _ (List.mem_append_left _ (List.mem_append_left _ (List.mem_of_getElem? (l := wsX5_gather_r1) (i := 1) rfl))))
  have hw3 := hts (.fieldLink RX5 192 "LayerSounderModel" "sumY" "J") (List.mem_cons_of_mem _ (List.mem_append_left _ (List.mem_append_left _ (List.mem_of_getElem? (l := wsX5_gather_r1) (i := 2) rfl))))
  have hw4 := hts (.fieldLink RX5 175 "LayerSounderModel" "paceX" "J") (List.mem_cons_of_mem _ (List.mem_append_left _ (List.mem_append_left _ (List.mem_of_getElem? (l := wsX5_gather_r1) (i := 3) rfl))))
  have hw5 := hts (.fieldLink RX5 178 "LayerSounderModel" "paceY" "J") (List.mem_cons_of_mem _ (List.mem_append_left _ (List.mem_append_left _ (List.mem_of_getElem? (l := wsX5_gather_r1) (i := 4) rfl))))
  refine lv_aload_n hx hb dX5_gather_0 rfl (lv_at hl 0 rfl) ?_
  refine lv_lconst (v := 0) hx hb dX5_gather_1 (by decide) ?_
  refine va_put (D := D) (ci := 5) (v := .long 0) (C := RX5) (T := TX5) (N := 31) hx hb hts iX5 tyX5 tyX5_ok nmX5 hown hK hP hD hS 0 rfl rfl 28 (by decide) hw0 (fun _ h9 => h9) rfl (tyX5_ok 28 (by decide)) rfl rfl (Nat.le_of_ble_eq_true rfl) dX5_gather_2 (fun H locs hP hD hS => ?_)
  have hP : va_P D vwCl (MW am cI g y zz (va_up j 6 0) f v X) H := hP
  have hD : va_D A (MW am cI g y zz (va_up j 6 0) f v X) := hD
  refine lv_aload_n hx hb dX5_gather_5 rfl (lv_at hl 0 rfl) ?_
  refine lv_lconst (v := 0) hx hb dX5_gather_6 (by decide) ?_
  refine va_put (D := D) (ci := 5) (v := .long 0) (C := RX5) (T := TX5) (N := 31) hx hb hts iX5 tyX5 tyX5_ok nmX5 hown hK hP hD hS 0 rfl rfl 29 (by decide) hw2 (fun _ h9 => h9) rfl (tyX5_ok 29 (by decide)) rfl rfl (Nat.le_of_ble_eq_true rfl) dX5_gather_7 (fun H locs hP hD hS => ?_)
  have hP : va_P D vwCl (MW am cI g y zz (va_up (va_up j 6 0) 7 0) f v X) H := hP
  have hD : va_D A (MW am cI g y zz (va_up (va_up j 6 0) 7 0) f v X) := hD
  refine lv_aload_n hx hb dX5_gather_10 rfl (lv_at hl 0 rfl) ?_
  refine lv_lconst (v := 0) hx hb dX5_gather_11 (by decide) ?_
  refine va_put (D := D) (ci := 5) (v := .long 0) (C := RX5) (T := TX5) (N := 31) hx hb hts iX5 tyX5 tyX5_ok nmX5 hown hK hP hD hS 0 rfl rfl 30 (by decide) hw3 (fun _ h9 => h9) rfl (tyX5_ok 30 (by decide)) rfl rfl (Nat.le_of_ble_eq_true rfl) dX5_gather_12 (fun H locs hP hD hS => ?_)
  have hP : va_P D vwCl (MW am cI g y zz (va_up (va_up (va_up j 6 0) 7 0) 8 0) f v X) H := hP
  have hD : va_D A (MW am cI g y zz (va_up (va_up (va_up j 6 0) 7 0) 8 0) f v X) := hD
  refine lv_iload_n hx hb dX5_gather_15 rfl (lv_at hl 1 rfl) ?_
  refine tpI (y := nI P) (hp0) ?_
  refine lv_istore (lv' := [(5, .int (nI P)), (0, .ref (am 0)), (1, .int p0), (2, .int q0), (3, .int c0), (4, .int e0)]) hx hb dX5_gather_16 hl (by decide) rfl (fun ls hl => ?_)
  refine wloop (D := D) (A := A) (σ := Nat × (Nat → Int64) × (Nat → Int32)) (pc := 18) (nL := 7) (fun z_1 => [(5, .int (nI (P + z_1.1))), (0, .ref (am 0)), (1, .int p0), (2, .int q0), (3, .int c0), (4, .int e0)]) (fun z_1 => MW am cI g y zz z_1.2.1 z_1.2.2 v X) (fun z_1 => z_1.1 ≤ Q + 1 - P ∧ gaP g P C (E + 1 - C) z_1.1 z_1.2.1) (fun z_1 => Q + 1 - P - z_1.1) (fun z_1 hIz_1 ihz_1 H locs ls hP hD hS hl => ?_) (0, va_up (va_up (va_up j 6 0) 7 0) 8 0, f) (⟨Nat.zero_le _, ga_0⟩) _ _ _ hP hD hS (lv_sub hl [0, 1, 2, 3, 4, 5] rfl)
  obtain ⟨i, j1, f1⟩ := z_1
  have hP : va_P D vwCl (MW am cI g y zz j1 f1 v X) H := hP
  have hD : va_D A (MW am cI g y zz j1 f1 v X) := hD
  have hl : lv_has ls 7 [(5, .int (nI (P + i))), (0, .ref (am 0)), (1, .int p0), (2, .int q0), (3, .int c0), (4, .int e0)] := hl
  have hIz_1 : i ≤ Q + 1 - P ∧ gaP g P C (E + 1 - C) i j1 := hIz_1
  refine lv_iload hx hb dX5_gather_18 (lv_at hl 0 rfl) ?_
  refine lv_iload_n hx hb dX5_gather_20 rfl (lv_at hl 3 rfl) ?_
  refine tpI (y := nI Q) (hq0) ?_
  refine lv_icmp_gt (tgt := 104) hx hb dX5_gather_21 (by decide) (fun c_2 => ?_) (fun c_2 => ?_)
  · exact W.vret hx hb hr (fun t ht hW => ⟨⟨(j1, f1), rfl, (by have z := (ngt (by omega) (by omega)).mp c_2; have z2 := hIz_1.1; have z3 : i = Q + 1 - P := (by omega); have z4 := hIz_1.2; rw [z3] at z4; exact gs_ok z4 (by omega) (by omega)), by rw [ht]; exact hP, hD⟩, hS.F ht⟩) hS.2.2 dX5_gather_104
  · have hlt : P + i ≤ Q := Nat.not_lt.mp (fun q => c_2 ((ngt (by omega) (by omega)).mpr q))
    refine lv_iload_n hx hb dX5_gather_24 rfl (lv_at hl 4 rfl) ?_
    refine tpI (y := nI C) (hc0) ?_
    refine lv_istore (lv' := [(6, .int (nI C)), (5, .int (nI (P + i))), (0, .ref (am 0)), (1, .int p0), (2, .int q0), (3, .int c0), (4, .int e0)]) hx hb dX5_gather_25 hl (by decide) rfl (fun ls hl => ?_)
    refine wloop (D := D) (A := A) (σ := Nat × (Nat → Int64) × (Nat → Int32)) (pc := 27) (nL := 7) (fun z_3 => [(6, .int (nI (C + z_3.1))), (5, .int (nI (P + i))), (0, .ref (am 0)), (1, .int p0), (2, .int q0), (3, .int c0), (4, .int e0)]) (fun z_3 => MW am cI g y zz z_3.2.1 z_3.2.2 v X) (fun z_3 => z_3.1 ≤ E + 1 - C ∧ giP g P C (E + 1 - C) i z_3.1 z_3.2.1) (fun z_3 => E + 1 - C - z_3.1) (fun z_3 hIz_3 ihz_3 H locs ls hP hD hS hl => ?_) (0, j1, f1) (⟨Nat.zero_le _, gi_0 hIz_1.2⟩) _ _ _ hP hD hS (lv_sub hl [0, 1, 2, 3, 4, 5, 6] rfl)
    obtain ⟨yy, j2, f2⟩ := z_3
    have hP : va_P D vwCl (MW am cI g y zz j2 f2 v X) H := hP
    have hD : va_D A (MW am cI g y zz j2 f2 v X) := hD
    have hl : lv_has ls 7 [(6, .int (nI (C + yy))), (5, .int (nI (P + i))), (0, .ref (am 0)), (1, .int p0), (2, .int q0), (3, .int c0), (4, .int e0)] := hl
    have hIz_3 : yy ≤ E + 1 - C ∧ giP g P C (E + 1 - C) i yy j2 := hIz_3
    refine lv_iload hx hb dX5_gather_27 (lv_at hl 0 rfl) ?_
    refine lv_iload hx hb dX5_gather_29 (lv_at hl 6 rfl) ?_
    refine tpI (y := nI E) (he0) ?_
    refine lv_icmp_gt (tgt := 98) hx hb dX5_gather_31 (by decide) (fun c_4 => ?_) (fun c_4 => ?_)
    · have hy9 : yy = E + 1 - C := by
        have z := (ngt (by omega) (by omega)).mp c_4
        have z2 := hIz_3.1
        omega
      refine lv_iinc (v := nI ((P + i) + 1)) (lv' := [(5, .int (nI ((P + i) + 1))), (6, .int (nI (C + yy))), (0, .ref (am 0)), (1, .int p0), (2, .int q0), (3, .int c0), (4, .int e0)]) hx hb dX5_gather_98 hl (k := 1) rfl (nI_1 _) (by decide) rfl (fun ls hl => ?_)
      refine lv_goto (tgt := 18) hx hb dX5_gather_101 (by decide) ?_
      exact ihz_1 (i + 1, j2, f2) (show (i + 1) ≤ Q + 1 - P ∧ gaP g P C (E + 1 - C) (i + 1) j2 from ⟨by omega, ga_s hy9 hIz_3.2⟩) (show Q + 1 - P - (i + 1) < Q + 1 - P - i from (by omega)) _ _ _ hP hD hS (lv_sub hl [0, 2, 3, 4, 5, 6] rfl)
    · have hlt2 : C + yy ≤ E := Nat.not_lt.mp (fun q => c_4 ((ngt (by omega) (by omega)).mpr q))
      refine lv_aload_n hx hb dX5_gather_34 rfl (lv_at hl 2 rfl) ?_
      refine lv_iload hx hb dX5_gather_35 (lv_at hl 1 rfl) ?_
      refine lv_iload hx hb dX5_gather_37 (lv_at hl 0 rfl) ?_
      refine mcI (wf := fun u : (Nat → Int64) × (Nat → Int32) => MW am cI g y zz u.1 u.2 v X) (va_runV (As := [.int (nI (P + i)), .int (nI (C + yy))]) (rest := []) ⟨hx, hb, hml, hown, hts⟩ (kX5_fateOf l D cI cO tt am g y zz j2 f2 v X H.size (nI (P + i)) (nI (C + yy)) hI hM (isP_n hI (by omega)) (isC_n hI (by omega))) (cwV 2 hts gX5_gather_X5_fateOf rfl rfl rfl (by decide +kernel) ⟨(Nat.le_of_ble_eq_true rfl), (Nat.le_of_ble_eq_true rfl)⟩) (mwV hK hZ hN hP hD hS hA (va_recv hK hP (ci := 5) (q0 := 0) rfl rfl)) rfl rfl hl.1 rfl (lv_room (Nat.le_of_ble_eq_true rfl)) dX5_gather_39 ⟨Nat.zero_le _, Nat.zero_le _⟩) hD hS hA (fun ru_5 uu_5 H locs hu_5 hP hD hS => ?_)
      obtain ⟨ju_5, fu_5⟩ := uu_5
      obtain ⟨eru_5, hqu_5⟩ := hu_5
      have eru_5 : ru_5 = gdF g (nI (P + i)) (nI (C + yy)) := eru_5
      subst eru_5
      have hqu_5 : ∀ q, 4 ≤ q → ju_5 q = j2 q := hqu_5
      have hP : va_P D vwCl (MW am cI g y zz ju_5 fu_5 v X) H := hP
      have hD : va_D A (MW am cI g y zz ju_5 fu_5 v X) := hD
      refine lv_if_ne (tgt := 92) hx hb dX5_gather_42 (by decide) (fun c_6 => ?_) (fun c_6 => ?_)
      · refine lv_iinc (v := nI ((C + yy) + 1)) (lv' := [(6, .int (nI ((C + yy) + 1))), (5, .int (nI (P + i))), (0, .ref (am 0)), (1, .int p0), (2, .int q0), (3, .int c0), (4, .int e0)]) hx hb dX5_gather_92 hl (k := 0) rfl (nI_1 _) (by decide) rfl (fun ls hl => ?_)
        refine lv_goto (tgt := 27) hx hb dX5_gather_95 (by decide) ?_
        exact ihz_3 (yy + 1, ju_5, fu_5) (show (yy + 1) ≤ E + 1 - C ∧ giP g P C (E + 1 - C) i (yy + 1) ju_5 from ⟨by omega, gi_no hIz_3.2 hqu_5 c_6⟩) (show E + 1 - C - (yy + 1) < E + 1 - C - yy from (by omega)) _ _ _ hP hD hS (lv_sub hl [0, 1, 2, 3, 4, 5, 6] rfl)
      · refine lv_aload_n hx hb dX5_gather_45 rfl (lv_at hl 2 rfl) ?_
        refine lv_iload hx hb dX5_gather_46 (lv_at hl 1 rfl) ?_
        refine lv_iload hx hb dX5_gather_48 (lv_at hl 0 rfl) ?_
        refine mcI (wf := fun u : (Nat → Int64) × (Nat → Int32) => MW am cI g y zz u.1 u.2 v X) (va_runV (As := [.int (nI (P + i)), .int (nI (C + yy))]) (rest := []) ⟨hx, hb, hml, hown, hts⟩ (kX5_findPace l D cI cO tt am g y zz ju_5 fu_5 v X H.size (nI (P + i)) (nI (C + yy)) hI hM (isP_n hI (by omega)) (isC_n hI (by omega))) (cwV 2 hts gX5_gather_X5_findPace rfl rfl rfl (by decide +kernel) ⟨(Nat.le_of_ble_eq_true rfl), (Nat.le_of_ble_eq_true rfl)⟩) (mwV hK hZ hN hP hD hS hA (va_recv hK hP (ci := 5) (q0 := 0) rfl rfl)) rfl rfl hl.1 rfl (lv_room (Nat.le_of_ble_eq_true rfl)) dX5_gather_50 ⟨Nat.zero_le _, Nat.zero_le _⟩) hD hS hA (fun ru_7 uu_7 H locs hu_7 hP hD hS => ?_)
        obtain ⟨ju_7, fu_7⟩ := uu_7
        obtain ⟨eru_7, hqu_7⟩ := (show fpP g (nI (P + i)) (nI (C + yy)) ju_5 ru_7 ju_7 from hu_7)
        subst eru_7
        have hP : va_P D vwCl (MW am cI g y zz ju_7 fu_7 v X) H := hP
        have hD : va_D A (MW am cI g y zz ju_7 fu_7 v X) := hD
        refine lv_if_eq (tgt := 92) hx hb dX5_gather_53 (by decide) (fun c_8 => ?_) (fun c_8 => ?_)
        · have c_8 := bI_0.mp c_8
          exact absurd (gd0 c_6) c_8
        · have c_8 := bI_n0.mp c_8
          refine lv_aload_n hx hb dX5_gather_56 rfl (lv_at hl 2 rfl) ?_
          refine lv_dup hx hb dX5_gather_57 rfl ?_
          refine va_get (D := D) (ci := 5) (v := .long (ju_7 6)) (C := RX5) (T := TX5) (N := 31) hx hb hts iX5 hown hK hP 0 rfl rfl 28 (by decide) hw0 (fun _ h9 => h9) rfl dX5_gather_58 ?_
          refine lv_lconst (v := 1) hx hb dX5_gather_61 (by decide) ?_
          refine lv_ladd hx hb dX5_gather_62 ?_
          refine lv_topl (fun x_9 ex_9 => ?_)
          refine va_put (D := D) (ci := 5) (v := .long x_9) (C := RX5) (T := TX5) (N := 31) hx hb hts iX5 tyX5 tyX5_ok nmX5 hown hK hP hD hS 0 rfl rfl 28 (by decide) hw0 (fun _ h9 => h9) rfl (tyX5_ok 28 (by decide)) rfl rfl (Nat.le_of_ble_eq_true rfl) dX5_gather_63 (fun H locs hP hD hS => ?_)
          have hP : va_P D vwCl (MW am cI g y zz (va_up ju_7 6 x_9) fu_7 v X) H := hP
          have hD : va_D A (MW am cI g y zz (va_up ju_7 6 x_9) fu_7 v X) := hD
          refine lv_aload_n hx hb dX5_gather_66 rfl (lv_at hl 2 rfl) ?_
          refine lv_dup hx hb dX5_gather_67 rfl ?_
          refine va_get (D := D) (ci := 5) (v := .long (va_up ju_7 6 x_9 7)) (C := RX5) (T := TX5) (N := 31) hx hb hts iX5 hown hK hP 0 rfl rfl 29 (by decide) hw2 (fun _ h9 => h9) rfl dX5_gather_68 ?_
          refine lv_aload_n hx hb dX5_gather_71 rfl (lv_at hl 2 rfl) ?_
          refine va_get (D := D) (ci := 5) (v := .long (va_up ju_7 6 x_9 4)) (C := RX5) (T := TX5) (N := 31) hx hb hts iX5 hown hK hP 0 rfl rfl 26 (by decide) hw4 (fun _ h9 => h9) rfl dX5_gather_72 ?_
          refine lv_ladd hx hb dX5_gather_75 ?_
          refine lv_topl (fun x_10 ex_10 => ?_)
          refine va_put (D := D) (ci := 5) (v := .long x_10) (C := RX5) (T := TX5) (N := 31) hx hb hts iX5 tyX5 tyX5_ok nmX5 hown hK hP hD hS 0 rfl rfl 29 (by decide) hw2 (fun _ h9 => h9) rfl (tyX5_ok 29 (by decide)) rfl rfl (Nat.le_of_ble_eq_true rfl) dX5_gather_76 (fun H locs hP hD hS => ?_)
          have hP : va_P D vwCl (MW am cI g y zz (va_up (va_up ju_7 6 x_9) 7 x_10) fu_7 v X) H := hP
          have hD : va_D A (MW am cI g y zz (va_up (va_up ju_7 6 x_9) 7 x_10) fu_7 v X) := hD
          refine lv_aload_n hx hb dX5_gather_79 rfl (lv_at hl 2 rfl) ?_
          refine lv_dup hx hb dX5_gather_80 rfl ?_
          refine va_get (D := D) (ci := 5) (v := .long (va_up (va_up ju_7 6 x_9) 7 x_10 8)) (C := RX5) (T := TX5) (N := 31) hx hb hts iX5 hown hK hP 0 rfl rfl 30 (by decide) hw3 (fun _ h9 => h9) rfl dX5_gather_81 ?_
          refine lv_aload_n hx hb dX5_gather_84 rfl (lv_at hl 2 rfl) ?_
          refine va_get (D := D) (ci := 5) (v := .long (va_up (va_up ju_7 6 x_9) 7 x_10 5)) (C := RX5) (T := TX5) (N := 31) hx hb hts iX5 hown hK hP 0 rfl rfl 27 (by decide) hw5 (fun _ h9 => h9) rfl dX5_gather_85 ?_
          refine lv_ladd hx hb dX5_gather_88 ?_
          refine lv_topl (fun x_11 ex_11 => ?_)
          refine va_put (D := D) (ci := 5) (v := .long x_11) (C := RX5) (T := TX5) (N := 31) hx hb hts iX5 tyX5 tyX5_ok nmX5 hown hK hP hD hS 0 rfl rfl 30 (by decide) hw3 (fun _ h9 => h9) rfl (tyX5_ok 30 (by decide)) rfl rfl (Nat.le_of_ble_eq_true rfl) dX5_gather_89 (fun H locs hP hD hS => ?_)
          have hP : va_P D vwCl (MW am cI g y zz (va_up (va_up (va_up ju_7 6 x_9) 7 x_10) 8 x_11) fu_7 v X) H := hP
          have hD : va_D A (MW am cI g y zz (va_up (va_up (va_up ju_7 6 x_9) 7 x_10) 8 x_11) fu_7 v X) := hD
          refine lv_iinc (v := nI ((C + yy) + 1)) (lv' := [(6, .int (nI ((C + yy) + 1))), (5, .int (nI (P + i))), (0, .ref (am 0)), (1, .int p0), (2, .int q0), (3, .int c0), (4, .int e0)]) hx hb dX5_gather_92 hl (k := 0) rfl (nI_1 _) (by decide) rfl (fun ls hl => ?_)
          refine lv_goto (tgt := 27) hx hb dX5_gather_95 (by decide) ?_
          exact ihz_3 (yy + 1, va_up (va_up (va_up ju_7 6 x_9) 7 x_10) 8 x_11, fu_7) (show (yy + 1) ≤ E + 1 - C ∧ giP g P C (E + 1 - C) i (yy + 1) (va_up (va_up (va_up ju_7 6 x_9) 7 x_10) 8 x_11) from ⟨by omega, gi_yes hIz_3.2 hqu_5 hqu_7 c_6 ex_9 ex_10 ex_11⟩) (show E + 1 - C - (yy + 1) < E + 1 - C - yy from (by omega)) _ _ _ hP hD hS (lv_sub hl [0, 1, 2, 3, 4, 5, 6] rfl)
set_option maxHeartbeats 4000000 in
set_option maxRecDepth 100000 in
theorem kX5_box (l : Launch) (D : va_G) (cI cO : ClassId) (tt : Nat) (am : Nat → Nat) (g : Nat → Nat → Int32) (y : Nat → Int32) (zz : Nat → Int32) (j : Nat → Int64) (f : Nat → Int32) (v : Nat → Int32) (X : va_W) (sz : Nat) (p0 : Int32) (q0 : Int32) (c0 : Int32) (e0 : Int32) (w0 : Int32) (hI : WI g) (hM : RM g y zz) : MmL l yX5_box wsX5_box ({ frames := 5, cells := 0, slots := 0, locals := 122 }) D cI cO tt (MW am cI g y zz j f v X) sz [.ref (am 0), .int p0, .int q0, .int c0, .int e0, .int w0] (S := (Nat → Nat → Int32) × (Nat → Int32) × (Nat → Int32) × (Nat → Int64) × (Nat → Int32) × (Nat → Int32)) (fun u => MW am cI u.1 u.2.1 u.2.2.1 u.2.2.2.1 u.2.2.2.2.1 u.2.2.2.2.2 X) (fun z u => z = fBox g p0 q0 c0 e0 w0 ∧ u.1 = g ∧ RM u.1 u.2.1 u.2.2.1) := by
  refine Met.ofW (cc := cX5_box) (maxL := 6) (ret := (some .long)) (by decide) rfl ?_
  intro p e s m args below meth c s₁ B hml hv
  obtain ⟨rfl, hsz, hP, hK, hD0, hZ, hN⟩ := hv
  have hx := B.exec
  have hb := B.bytes
  have hr := B.returns
  have hts := atoms_spec (ws := wsX5_box) B.pre
  have hown : s.vm.findClass RX5 = some m.cls := findClass_of_methodNamed B.named
  have hlocks := B.notSynchronized
  subst hsz
  have hD := hD0.self (sz := s.heap.size)
  generalize hAe : va_A (MW am cI g y zz j f v X) s.heap.size = A at hD hZ ⊢
  have hA : ∀ q : Nat, s.heap.size ≤ q → A q := fun q h => by rw [← hAe]; exact Or.inr h
  have hS : va_S A s.heap s.heap [] := va_S.rf
  have hl := lv_entry ([.ref (am 0), .int p0, .int q0, .int c0, .int e0, .int w0]) (n := 6) (Nat.le_of_ble_eq_true rfl)
  rw [lg_entry_eq]
  generalize (lg_sl ([.ref (am 0), .int p0, .int q0, .int c0, .int e0, .int w0]) ++ List.replicate (6 - (lg_sl ([.ref (am 0), .int p0, .int q0, .int c0, .int e0, .int w0])).length) Slot.unset).toArray = ls at hl ⊢
  have hl : lv_has ls 6 [(0, .ref (am 0)), (1, .int p0), (2, .int q0), (3, .int c0), (4, .int e0), (5, .int w0)] := hl
  have hw0 := hts (.constantLong RX5 66 (2)) (List.mem_cons_of_mem _ (List.mem_append_left _ (List.mem_append_left _ (List.mem_of_getElem? (l := wsX5_box_r1) (i := 0) rfl))))
  have hw1 := hts (.fieldLink RX5 192 "LayerSounderModel" "sumY" "J") (List.mem_cons_of_mem _ (List.mem_append_left _ (List.mem_append_left _ (List.mem_of_getElem? (l := wsX5_box_r1) (i := 3) rfl))))
  have iX5 : ∀ w ∈ wsX50, w ∈ wsX5_box := fun _ h => List.mem_cons_of_mem _ (List.mem_append_right _ h)
  have hw3 := hts (.fieldLink RX5 189 "LayerSounderModel" "sumX" "J") (List.mem_cons_of_mem _ (List.mem_append_left _ (List.mem_append_left _ (List.mem_of_getElem? (l := wsX5_box_r1) (i := 2) rfl))))
  have hw4 := hts (.fieldLink RX5 186 "LayerSounderModel" "many" "J") (List.mem_cons_of_mem _ (List.mem_append_left _ (List.mem_append_left _ (List.mem_of_getElem? (l := wsX5_box_r1) (i := 1) rfl))))
  refine lv_aload_n hx hb dX5_box_0 rfl (lv_at hl 0 rfl) ?_
  refine lv_iload_n hx hb dX5_box_1 rfl (lv_at hl 1 rfl) ?_
  refine lv_iload_n hx hb dX5_box_2 rfl (lv_at hl 2 rfl) ?_
  refine lv_iload_n hx hb dX5_box_3 rfl (lv_at hl 3 rfl) ?_
  refine lv_iload hx hb dX5_box_4 (lv_at hl 4 rfl) ?_
  refine pcI (va_runV (As := [.int p0, .int q0, .int c0, .int e0]) (rest := []) ⟨hx, hb, hml, hown, hts⟩ (kX5_isBox l D cI cO tt am g y zz j f v X s.heap p0 q0 c0 e0 hI) (cwV 4 hts gX5_box_X5_isBox rfl rfl rfl (by decide +kernel) ⟨(Nat.le_of_ble_eq_true rfl), (Nat.le_of_ble_eq_true rfl)⟩) (pwV hK hZ hN hP hS (va_recv hK hP (ci := 5) (q0 := 0) rfl rfl)) rfl rfl hl.1 rfl (lv_room (Nat.le_of_ble_eq_true rfl)) dX5_box_6 ⟨Nat.zero_le _, Nat.zero_le _⟩) hS (fun locs hS => ?_)
  refine lv_if_eq (tgt := 25) hx hb dX5_box_9 (by decide) (fun c_1 => ?_) (fun c_1 => ?_)
  · have c_1 := bI_0.mp c_1
    refine lv_bipush (v := (-2)) hx hb dX5_box_25 (by decide) ?_
    refine pcL (va_runS (As := [.int (-2)]) (rest := []) ⟨hx, hb, hml, hown, hts⟩ (kX5_no l D cI cO tt (MW am cI g y zz j f v X) s.heap (-2) ) (va_cwS 1 hts gX5_box_X5_no rfl rfl rfl (by decide +kernel) ⟨(Nat.le_of_ble_eq_true rfl), (Nat.le_of_ble_eq_true rfl)⟩) (pwS hK hZ hN hP hS) rfl rfl hl.1 rfl (lv_room (Nat.le_of_ble_eq_true rfl)) dX5_box_27 ⟨Nat.zero_le _, Nat.zero_le _⟩) hS (fun locs hS => ?_)
    exact W.lret (v := (-9223372036854775808) - ((-2) : Int32).toInt64) hx hb hr (fun t ht hW => ⟨⟨(-9223372036854775808) - ((-2) : Int32).toInt64, (g, y, zz, j, f, v), rfl, (by exact ⟨(by grind [fBox]), rfl, hM⟩), by rw [ht]; exact hP, hD⟩, hS.F ht⟩) hS.2.2 dX5_box_30
  · have c_1 := bI_n0.mp c_1
    refine lv_iload hx hb dX5_box_12 (lv_at hl 5 rfl) ?_
    refine lv_i2l hx hb dX5_box_14 rfl ?_
    refine lv_lconst (v := 0) hx hb dX5_box_15 (by decide) ?_
    refine lv_ldc2 hx hb hown hw0 dX5_box_16 ?_
    refine pcI (va_runS (As := [.long w0.toInt64, .long 0, .long 2]) (rest := []) ⟨hx, hb, hml, hown, hts⟩ (kX5_in l D cI cO tt (MW am cI g y zz j f v X) s.heap w0 (0 : Int32) (2 : Int32) w0.toInt64 0 2 rfl (by decide) (by decide)) (va_cwS 3 hts gX5_box_X5_in rfl rfl rfl (by decide +kernel) ⟨(Nat.le_of_ble_eq_true rfl), (Nat.le_of_ble_eq_true rfl)⟩) (pwS hK hZ hN hP hS) rfl rfl hl.1 rfl (lv_room (Nat.le_of_ble_eq_true rfl)) dX5_box_19 ⟨Nat.zero_le _, Nat.zero_le _⟩) hS (fun locs hS => ?_)
    refine lv_if_ne (tgt := 31) hx hb dX5_box_22 (by decide) (fun c_2 => ?_) (fun c_2 => ?_)
    · have c_2 := bI_n0.mp c_2
      refine lv_aload_n hx hb dX5_box_31 rfl (lv_at hl 0 rfl) ?_
      refine lv_iload_n hx hb dX5_box_32 rfl (lv_at hl 1 rfl) ?_
      refine lv_iload_n hx hb dX5_box_33 rfl (lv_at hl 2 rfl) ?_
      refine lv_iload_n hx hb dX5_box_34 rfl (lv_at hl 3 rfl) ?_
      refine lv_iload hx hb dX5_box_35 (lv_at hl 4 rfl) ?_
      refine mcV (wf := fun u : (Nat → Int64) × (Nat → Int32) => MW am cI g y zz u.1 u.2 v X) (va_runV (As := [.int p0, .int q0, .int c0, .int e0]) (rest := []) ⟨hx, hb, hml, hown, hts⟩ (kX5_gather l D cI cO tt am g y zz j f v X s.heap.size p0 q0 c0 e0 (rn p0) (rn q0) (rn c0) (rn e0) hI hM ((p40 hI c_1.1.1).2.1) ((p40 hI c_1.1.2.1).2.1) ((c16 hI c_1.2.1).2.1) ((c16 hI c_1.2.2.1).2.1) (⟨rn_le c_1.1.1.1 c_1.1.2.2, (p40 hI c_1.1.2.1).2.2, rn_le c_1.2.1.1 c_1.2.2.2, (c16 hI c_1.2.2.1).2.2⟩)) (cwV 4 hts gX5_box_X5_gather rfl rfl rfl (by decide +kernel) ⟨(Nat.le_of_ble_eq_true rfl), (Nat.le_of_ble_eq_true rfl)⟩) (mwV hK hZ hN hP hD hS hA (va_recv hK hP (ci := 5) (q0 := 0) rfl rfl)) rfl rfl hl.1 rfl (lv_room (Nat.le_of_ble_eq_true rfl)) dX5_box_37 ⟨Nat.zero_le _, Nat.zero_le _⟩) hD hS hA (fun uu_3 H locs hu_3 hP hD hS => ?_)
      obtain ⟨ju_3, fu_3⟩ := uu_3
      have hu_3 : gsP g (rn p0) (rn c0) ((rn q0) + 1 - (rn p0)) ((rn e0) + 1 - (rn c0)) ju_3 := hu_3
      have hP : va_P D vwCl (MW am cI g y zz ju_3 fu_3 v X) H := hP
      have hD : va_D A (MW am cI g y zz ju_3 fu_3 v X) := hD
      refine lv_iload hx hb dX5_box_40 (lv_at hl 5 rfl) ?_
      refine lv_if_ne (tgt := 52) hx hb dX5_box_42 (by decide) (fun c_4 => ?_) (fun c_4 => ?_)
      · refine lv_iload hx hb dX5_box_52 (lv_at hl 5 rfl) ?_
        refine lv_iconst (v := 1) hx hb dX5_box_54 (by decide) ?_
        refine lv_icmp_ne (tgt := 65) hx hb dX5_box_55 (by decide) (fun c_5 => ?_) (fun c_5 => ?_)
        · refine lv_aload_n hx hb dX5_box_65 rfl (lv_at hl 0 rfl) ?_
          refine va_get (D := D) (ci := 5) (v := .long (ju_3 8)) (C := RX5) (T := TX5) (N := 31) hx hb hts iX5 hown hK hP 0 rfl rfl 30 (by decide) hw1 (fun _ h9 => h9) rfl dX5_box_66 ?_
          exact W.lret (v := ju_3 8) hx hb hr (fun t ht hW => ⟨⟨ju_3 8, (g, y, zz, ju_3, fu_3, v), rfl, (by exact ⟨(by rw [fBox, if_pos ⟨c_1, c_2⟩, if_neg c_4, bE, if_neg (fun q => c_5 (sub1 q))]; exact hu_3.2.2), rfl, hM⟩), by rw [ht]; exact hP, hD⟩, hS.F ht⟩) hS.2.2 dX5_box_69
        · refine lv_aload_n hx hb dX5_box_58 rfl (lv_at hl 0 rfl) ?_
          refine va_get (D := D) (ci := 5) (v := .long (ju_3 7)) (C := RX5) (T := TX5) (N := 31) hx hb hts iX5 hown hK hP 0 rfl rfl 29 (by decide) hw3 (fun _ h9 => h9) rfl dX5_box_59 ?_
          refine lv_goto (tgt := 69) hx hb dX5_box_62 (by decide) ?_
          exact W.lret (v := ju_3 7) hx hb hr (fun t ht hW => ⟨⟨ju_3 7, (g, y, zz, ju_3, fu_3, v), rfl, (by exact ⟨(by rw [fBox, if_pos ⟨c_1, c_2⟩, if_neg c_4, bE, if_pos (by rw [c_5]; rfl)]; exact hu_3.2.1), rfl, hM⟩), by rw [ht]; exact hP, hD⟩, hS.F ht⟩) hS.2.2 dX5_box_69
      · refine lv_aload_n hx hb dX5_box_45 rfl (lv_at hl 0 rfl) ?_
        refine va_get (D := D) (ci := 5) (v := .long (ju_3 6)) (C := RX5) (T := TX5) (N := 31) hx hb hts iX5 hown hK hP 0 rfl rfl 28 (by decide) hw4 (fun _ h9 => h9) rfl dX5_box_46 ?_
        refine lv_goto (tgt := 69) hx hb dX5_box_49 (by decide) ?_
        exact W.lret (v := ju_3 6) hx hb hr (fun t ht hW => ⟨⟨ju_3 6, (g, y, zz, ju_3, fu_3, v), rfl, (by exact ⟨(by rw [fBox, if_pos ⟨c_1, c_2⟩, if_pos c_4]; exact hu_3.1), rfl, hM⟩), by rw [ht]; exact hP, hD⟩, hS.F ht⟩) hS.2.2 dX5_box_69
    · have c_2 := bI_0.mp c_2
      refine lv_bipush (v := (-2)) hx hb dX5_box_25 (by decide) ?_
      refine pcL (va_runS (As := [.int (-2)]) (rest := []) ⟨hx, hb, hml, hown, hts⟩ (kX5_no l D cI cO tt (MW am cI g y zz j f v X) s.heap (-2) ) (va_cwS 1 hts gX5_box_X5_no rfl rfl rfl (by decide +kernel) ⟨(Nat.le_of_ble_eq_true rfl), (Nat.le_of_ble_eq_true rfl)⟩) (pwS hK hZ hN hP hS) rfl rfl hl.1 rfl (lv_room (Nat.le_of_ble_eq_true rfl)) dX5_box_27 ⟨Nat.zero_le _, Nat.zero_le _⟩) hS (fun locs hS => ?_)
      exact W.lret (v := (-9223372036854775808) - ((-2) : Int32).toInt64) hx hb hr (fun t ht hW => ⟨⟨(-9223372036854775808) - ((-2) : Int32).toInt64, (g, y, zz, j, f, v), rfl, (by exact ⟨(by grind [fBox]), rfl, hM⟩), by rw [ht]; exact hP, hD⟩, hS.F ht⟩) hS.2.2 dX5_box_30
set_option maxHeartbeats 4000000 in
set_option maxRecDepth 100000 in
theorem kX5_mean (l : Launch) (D : va_G) (cI cO : ClassId) (tt : Nat) (am : Nat → Nat) (g : Nat → Nat → Int32) (y : Nat → Int32) (zz : Nat → Int32) (j : Nat → Int64) (f : Nat → Int32) (v : Nat → Int32) (X : va_W) (sz : Nat) (p0 : Int32) (q0 : Int32) (c0 : Int32) (e0 : Int32) (w0 : Int32) (hI : WI g) (hM : RM g y zz) : MmL l yX5_mean wsX5_mean ({ frames := 5, cells := 0, slots := 0, locals := 122 }) D cI cO tt (MW am cI g y zz j f v X) sz [.ref (am 0), .int p0, .int q0, .int c0, .int e0, .int w0] (S := (Nat → Nat → Int32) × (Nat → Int32) × (Nat → Int32) × (Nat → Int64) × (Nat → Int32) × (Nat → Int32)) (fun u => MW am cI u.1 u.2.1 u.2.2.1 u.2.2.2.1 u.2.2.2.2.1 u.2.2.2.2.2 X) (fun z u => z = fMean g p0 q0 c0 e0 w0 ∧ u.1 = g ∧ RM u.1 u.2.1 u.2.2.1) := by
  refine Met.ofW (cc := cX5_mean) (maxL := 10) (ret := (some .long)) (by decide) rfl ?_
  intro p e s m args below meth c s₁ B hml hv
  obtain ⟨rfl, hsz, hP, hK, hD0, hZ, hN⟩ := hv
  have hx := B.exec
  have hb := B.bytes
  have hr := B.returns
  have hts := atoms_spec (ws := wsX5_mean) B.pre
  have hown : s.vm.findClass RX5 = some m.cls := findClass_of_methodNamed B.named
  have hlocks := B.notSynchronized
  subst hsz
  have hD := hD0.self (sz := s.heap.size)
  generalize hAe : va_A (MW am cI g y zz j f v X) s.heap.size = A at hD hZ ⊢
  have hA : ∀ q : Nat, s.heap.size ≤ q → A q := fun q h => by rw [← hAe]; exact Or.inr h
  have hS : va_S A s.heap s.heap [] := va_S.rf
  have hl := lv_entry ([.ref (am 0), .int p0, .int q0, .int c0, .int e0, .int w0]) (n := 10) (Nat.le_of_ble_eq_true rfl)
  rw [lg_entry_eq]
  generalize (lg_sl ([.ref (am 0), .int p0, .int q0, .int c0, .int e0, .int w0]) ++ List.replicate (10 - (lg_sl ([.ref (am 0), .int p0, .int q0, .int c0, .int e0, .int w0])).length) Slot.unset).toArray = ls at hl ⊢
  have hl : lv_has ls 10 [(0, .ref (am 0)), (1, .int p0), (2, .int q0), (3, .int c0), (4, .int e0), (5, .int w0)] := hl
  have hw0 := hts (.constantLong RX5 66 (2)) (List.mem_cons_of_mem _ (List.mem_append_left _ (List.mem_append_left _ (List.mem_of_getElem? (l := wsX5_mean_r1) (i := 0) rfl))))
  have hw1 := hts (.fieldLink RX5 186 "LayerSounderModel" "many" "J") (List.mem_cons_of_mem _ (List.mem_append_left _ (List.mem_append_left _ (List.mem_of_getElem? (l := wsX5_mean_r1) (i := 1) rfl))))
  have iX5 : ∀ w ∈ wsX50, w ∈ wsX5_mean := fun _ h => List.mem_cons_of_mem _ (List.mem_append_right _ h)
  have hw3 := hts (.fieldLink RX5 192 "LayerSounderModel" "sumY" "J") (List.mem_cons_of_mem _ (List.mem_append_left _ (List.mem_append_left _ (List.mem_of_getElem? (l := wsX5_mean_r1) (i := 3) rfl))))
  have hw4 := hts (.fieldLink RX5 189 "LayerSounderModel" "sumX" "J") (List.mem_cons_of_mem _ (List.mem_append_left _ (List.mem_append_left _ (List.mem_of_getElem? (l := wsX5_mean_r1) (i := 2) rfl))))
  refine lv_aload_n hx hb dX5_mean_0 rfl (lv_at hl 0 rfl) ?_
  refine lv_iload_n hx hb dX5_mean_1 rfl (lv_at hl 1 rfl) ?_
  refine lv_iload_n hx hb dX5_mean_2 rfl (lv_at hl 2 rfl) ?_
  refine lv_iload_n hx hb dX5_mean_3 rfl (lv_at hl 3 rfl) ?_
  refine lv_iload hx hb dX5_mean_4 (lv_at hl 4 rfl) ?_
  refine pcI (va_runV (As := [.int p0, .int q0, .int c0, .int e0]) (rest := []) ⟨hx, hb, hml, hown, hts⟩ (kX5_isBox l D cI cO tt am g y zz j f v X s.heap p0 q0 c0 e0 hI) (cwV 4 hts gX5_mean_X5_isBox rfl rfl rfl (by decide +kernel) ⟨(Nat.le_of_ble_eq_true rfl), (Nat.le_of_ble_eq_true rfl)⟩) (pwV hK hZ hN hP hS (va_recv hK hP (ci := 5) (q0 := 0) rfl rfl)) rfl rfl hl.1 rfl (lv_room (Nat.le_of_ble_eq_true rfl)) dX5_mean_6 ⟨Nat.zero_le _, Nat.zero_le _⟩) hS (fun locs hS => ?_)
  refine lv_if_eq (tgt := 25) hx hb dX5_mean_9 (by decide) (fun c_1 => ?_) (fun c_1 => ?_)
  · have c_1 := bI_0.mp c_1
    refine lv_bipush (v := (-2)) hx hb dX5_mean_25 (by decide) ?_
    refine pcL (va_runS (As := [.int (-2)]) (rest := []) ⟨hx, hb, hml, hown, hts⟩ (kX5_no l D cI cO tt (MW am cI g y zz j f v X) s.heap (-2) ) (va_cwS 1 hts gX5_mean_X5_no rfl rfl rfl (by decide +kernel) ⟨(Nat.le_of_ble_eq_true rfl), (Nat.le_of_ble_eq_true rfl)⟩) (pwS hK hZ hN hP hS) rfl rfl hl.1 rfl (lv_room (Nat.le_of_ble_eq_true rfl)) dX5_mean_27 ⟨Nat.zero_le _, Nat.zero_le _⟩) hS (fun locs hS => ?_)
    exact W.lret (v := (-9223372036854775808) - ((-2) : Int32).toInt64) hx hb hr (fun t ht hW => ⟨⟨(-9223372036854775808) - ((-2) : Int32).toInt64, (g, y, zz, j, f, v), rfl, (by exact ⟨(by grind [fMean]), rfl, hM⟩), by rw [ht]; exact hP, hD⟩, hS.F ht⟩) hS.2.2 dX5_mean_30
  · have c_1 := bI_n0.mp c_1
    refine lv_iload hx hb dX5_mean_12 (lv_at hl 5 rfl) ?_
    refine lv_i2l hx hb dX5_mean_14 rfl ?_
    refine lv_lconst (v := 1) hx hb dX5_mean_15 (by decide) ?_
    refine lv_ldc2 hx hb hown hw0 dX5_mean_16 ?_
    refine pcI (va_runS (As := [.long w0.toInt64, .long 1, .long 2]) (rest := []) ⟨hx, hb, hml, hown, hts⟩ (kX5_in l D cI cO tt (MW am cI g y zz j f v X) s.heap w0 (1 : Int32) (2 : Int32) w0.toInt64 1 2 rfl (by decide) (by decide)) (va_cwS 3 hts gX5_mean_X5_in rfl rfl rfl (by decide +kernel) ⟨(Nat.le_of_ble_eq_true rfl), (Nat.le_of_ble_eq_true rfl)⟩) (pwS hK hZ hN hP hS) rfl rfl hl.1 rfl (lv_room (Nat.le_of_ble_eq_true rfl)) dX5_mean_19 ⟨Nat.zero_le _, Nat.zero_le _⟩) hS (fun locs hS => ?_)
    refine lv_if_ne (tgt := 31) hx hb dX5_mean_22 (by decide) (fun c_2 => ?_) (fun c_2 => ?_)
    · have c_2 := bI_n0.mp c_2
      refine lv_aload_n hx hb dX5_mean_31 rfl (lv_at hl 0 rfl) ?_
      refine lv_iload_n hx hb dX5_mean_32 rfl (lv_at hl 1 rfl) ?_
      refine lv_iload_n hx hb dX5_mean_33 rfl (lv_at hl 2 rfl) ?_
      refine lv_iload_n hx hb dX5_mean_34 rfl (lv_at hl 3 rfl) ?_
      refine lv_iload hx hb dX5_mean_35 (lv_at hl 4 rfl) ?_
      refine mcV (wf := fun u : (Nat → Int64) × (Nat → Int32) => MW am cI g y zz u.1 u.2 v X) (va_runV (As := [.int p0, .int q0, .int c0, .int e0]) (rest := []) ⟨hx, hb, hml, hown, hts⟩ (kX5_gather l D cI cO tt am g y zz j f v X s.heap.size p0 q0 c0 e0 (rn p0) (rn q0) (rn c0) (rn e0) hI hM ((p40 hI c_1.1.1).2.1) ((p40 hI c_1.1.2.1).2.1) ((c16 hI c_1.2.1).2.1) ((c16 hI c_1.2.2.1).2.1) (⟨rn_le c_1.1.1.1 c_1.1.2.2, (p40 hI c_1.1.2.1).2.2, rn_le c_1.2.1.1 c_1.2.2.2, (c16 hI c_1.2.2.1).2.2⟩)) (cwV 4 hts gX5_mean_X5_gather rfl rfl rfl (by decide +kernel) ⟨(Nat.le_of_ble_eq_true rfl), (Nat.le_of_ble_eq_true rfl)⟩) (mwV hK hZ hN hP hD hS hA (va_recv hK hP (ci := 5) (q0 := 0) rfl rfl)) rfl rfl hl.1 rfl (lv_room (Nat.le_of_ble_eq_true rfl)) dX5_mean_37 ⟨Nat.zero_le _, Nat.zero_le _⟩) hD hS hA (fun uu_3 H locs hu_3 hP hD hS => ?_)
      obtain ⟨ju_3, fu_3⟩ := uu_3
      have hu_3 : gsP g (rn p0) (rn c0) ((rn q0) + 1 - (rn p0)) ((rn e0) + 1 - (rn c0)) ju_3 := hu_3
      have hP : va_P D vwCl (MW am cI g y zz ju_3 fu_3 v X) H := hP
      have hD : va_D A (MW am cI g y zz ju_3 fu_3 v X) := hD
      refine lv_aload_n hx hb dX5_mean_40 rfl (lv_at hl 0 rfl) ?_
      refine va_get (D := D) (ci := 5) (v := .long (ju_3 6)) (C := RX5) (T := TX5) (N := 31) hx hb hts iX5 hown hK hP 0 rfl rfl 28 (by decide) hw1 (fun _ h9 => h9) rfl dX5_mean_41 ?_
      refine lv_lconst (v := 0) hx hb dX5_mean_44 (by decide) ?_
      refine W.lcmp hx hb dX5_mean_45 ?_
      refine lv_if_ne (tgt := 55) hx hb dX5_mean_46 (by decide) (fun c_4 => ?_) (fun c_4 => ?_)
      · have c_4 := fun h => c_4 ((lg_cmp_eq _ _).mpr h)
        refine lv_iload hx hb dX5_mean_55 (lv_at hl 5 rfl) ?_
        refine lv_iconst (v := 1) hx hb dX5_mean_57 (by decide) ?_
        refine lv_icmp_ne (tgt := 68) hx hb dX5_mean_58 (by decide) (fun c_5 => ?_) (fun c_5 => ?_)
        · refine lv_aload_n hx hb dX5_mean_68 rfl (lv_at hl 0 rfl) ?_
          refine va_get (D := D) (ci := 5) (v := .long (ju_3 8)) (C := RX5) (T := TX5) (N := 31) hx hb hts iX5 hown hK hP 0 rfl rfl 30 (by decide) hw3 (fun _ h9 => h9) rfl dX5_mean_69 ?_
          refine lv_lstore (lv' := [(6, .long (ju_3 8)), (0, .ref (am 0)), (1, .int p0), (2, .int q0), (3, .int c0), (4, .int e0), (5, .int w0)]) hx hb dX5_mean_72 hl (by decide) rfl (fun ls hl => ?_)
          refine lv_lload hx hb dX5_mean_74 (lv_at hl 0 rfl) ?_
          refine lv_aload_n hx hb dX5_mean_76 rfl (lv_at hl 1 rfl) ?_
          refine va_get (D := D) (ci := 5) (v := .long (ju_3 6)) (C := RX5) (T := TX5) (N := 31) hx hb hts iX5 hown hK hP 0 rfl rfl 28 (by decide) hw1 (fun _ h9 => h9) rfl dX5_mean_77 ?_
          refine lv_ldiv hx hb dX5_mean_80 c_4 ?_
          refine lv_lstore (lv' := [(8, .long ((ju_3 8) / (ju_3 6))), (6, .long (ju_3 8)), (0, .ref (am 0)), (1, .int p0), (2, .int q0), (3, .int c0), (4, .int e0), (5, .int w0)]) hx hb dX5_mean_81 hl (by decide) rfl (fun ls hl => ?_)
          refine lv_lload hx hb dX5_mean_83 (lv_at hl 0 rfl) ?_
          refine lv_aload_n hx hb dX5_mean_85 rfl (lv_at hl 2 rfl) ?_
          refine va_get (D := D) (ci := 5) (v := .long (ju_3 6)) (C := RX5) (T := TX5) (N := 31) hx hb hts iX5 hown hK hP 0 rfl rfl 28 (by decide) hw1 (fun _ h9 => h9) rfl dX5_mean_86 ?_
          refine lv_lmul hx hb dX5_mean_89 ?_
          refine lv_lload hx hb dX5_mean_90 (lv_at hl 1 rfl) ?_
          refine W.lcmp hx hb dX5_mean_92 ?_
          refine lv_if_le (tgt := 103) hx hb dX5_mean_93 (by decide) (fun c_6 => ?_) (fun c_6 => ?_)
          · have c_6 := (lg_cmp_le _ _).mp c_6
            refine lv_lload hx hb dX5_mean_103 (lv_at hl 0 rfl) ?_
            exact W.lret (v := (ju_3 8) / (ju_3 6)) hx hb hr (fun t ht hW => ⟨⟨(ju_3 8) / (ju_3 6), (g, y, zz, ju_3, fu_3, v), rfl, (by exact ⟨(by rw [fMean, if_pos ⟨c_1, c_2⟩, if_neg (fun q => c_4 (hu_3.1.trans ((i64_0 _).mpr q)))]; exact mn_ok hu_3.1 (by rw [bE, if_neg (fun q => c_5 (sub1 q))]; exact hu_3.2.2.symm) (mnb hI c_1) c_4 (Or.inr ⟨c_6, rfl⟩)), rfl, hM⟩), by rw [ht]; exact hP, hD⟩, hS.F ht⟩) hS.2.2 dX5_mean_105
          · have c_6 := fun h => c_6 ((lg_cmp_le _ _).mpr h)
            refine lv_lload hx hb dX5_mean_96 (lv_at hl 0 rfl) ?_
            refine lv_lconst (v := 1) hx hb dX5_mean_98 (by decide) ?_
            refine lv_lsub hx hb dX5_mean_99 ?_
            refine lv_goto (tgt := 105) hx hb dX5_mean_100 (by decide) ?_
            exact W.lret (v := ((ju_3 8) / (ju_3 6)) - 1) hx hb hr (fun t ht hW => ⟨⟨((ju_3 8) / (ju_3 6)) - 1, (g, y, zz, ju_3, fu_3, v), rfl, (by exact ⟨(by rw [fMean, if_pos ⟨c_1, c_2⟩, if_neg (fun q => c_4 (hu_3.1.trans ((i64_0 _).mpr q)))]; exact mn_ok hu_3.1 (by rw [bE, if_neg (fun q => c_5 (sub1 q))]; exact hu_3.2.2.symm) (mnb hI c_1) c_4 (Or.inl ⟨Int64.not_le.mp c_6, rfl⟩)), rfl, hM⟩), by rw [ht]; exact hP, hD⟩, hS.F ht⟩) hS.2.2 dX5_mean_105
        · refine lv_aload_n hx hb dX5_mean_61 rfl (lv_at hl 0 rfl) ?_
          refine va_get (D := D) (ci := 5) (v := .long (ju_3 7)) (C := RX5) (T := TX5) (N := 31) hx hb hts iX5 hown hK hP 0 rfl rfl 29 (by decide) hw4 (fun _ h9 => h9) rfl dX5_mean_62 ?_
          refine lv_goto (tgt := 72) hx hb dX5_mean_65 (by decide) ?_
          refine lv_lstore (lv' := [(6, .long (ju_3 7)), (0, .ref (am 0)), (1, .int p0), (2, .int q0), (3, .int c0), (4, .int e0), (5, .int w0)]) hx hb dX5_mean_72 hl (by decide) rfl (fun ls hl => ?_)
          refine lv_lload hx hb dX5_mean_74 (lv_at hl 0 rfl) ?_
          refine lv_aload_n hx hb dX5_mean_76 rfl (lv_at hl 1 rfl) ?_
          refine va_get (D := D) (ci := 5) (v := .long (ju_3 6)) (C := RX5) (T := TX5) (N := 31) hx hb hts iX5 hown hK hP 0 rfl rfl 28 (by decide) hw1 (fun _ h9 => h9) rfl dX5_mean_77 ?_
          refine lv_ldiv hx hb dX5_mean_80 c_4 ?_
          refine lv_lstore (lv' := [(8, .long ((ju_3 7) / (ju_3 6))), (6, .long (ju_3 7)), (0, .ref (am 0)), (1, .int p0), (2, .int q0), (3, .int c0), (4, .int e0), (5, .int w0)]) hx hb dX5_mean_81 hl (by decide) rfl (fun ls hl => ?_)
          refine lv_lload hx hb dX5_mean_83 (lv_at hl 0 rfl) ?_
          refine lv_aload_n hx hb dX5_mean_85 rfl (lv_at hl 2 rfl) ?_
          refine va_get (D := D) (ci := 5) (v := .long (ju_3 6)) (C := RX5) (T := TX5) (N := 31) hx hb hts iX5 hown hK hP 0 rfl rfl 28 (by decide) hw1 (fun _ h9 => h9) rfl dX5_mean_86 ?_
          refine lv_lmul hx hb dX5_mean_89 ?_
          refine lv_lload hx hb dX5_mean_90 (lv_at hl 1 rfl) ?_
          refine W.lcmp hx hb dX5_mean_92 ?_
          refine lv_if_le (tgt := 103) hx hb dX5_mean_93 (by decide) (fun c_7 => ?_) (fun c_7 => ?_)
          · have c_7 := (lg_cmp_le _ _).mp c_7
            refine lv_lload hx hb dX5_mean_103 (lv_at hl 0 rfl) ?_
            exact W.lret (v := (ju_3 7) / (ju_3 6)) hx hb hr (fun t ht hW => ⟨⟨(ju_3 7) / (ju_3 6), (g, y, zz, ju_3, fu_3, v), rfl, (by exact ⟨(by rw [fMean, if_pos ⟨c_1, c_2⟩, if_neg (fun q => c_4 (hu_3.1.trans ((i64_0 _).mpr q)))]; exact mn_ok hu_3.1 (by rw [bE, if_pos (by rw [c_5]; rfl)]; exact hu_3.2.1.symm) (mnb hI c_1) c_4 (Or.inr ⟨c_7, rfl⟩)), rfl, hM⟩), by rw [ht]; exact hP, hD⟩, hS.F ht⟩) hS.2.2 dX5_mean_105
          · have c_7 := fun h => c_7 ((lg_cmp_le _ _).mpr h)
            refine lv_lload hx hb dX5_mean_96 (lv_at hl 0 rfl) ?_
            refine lv_lconst (v := 1) hx hb dX5_mean_98 (by decide) ?_
            refine lv_lsub hx hb dX5_mean_99 ?_
            refine lv_goto (tgt := 105) hx hb dX5_mean_100 (by decide) ?_
            exact W.lret (v := ((ju_3 7) / (ju_3 6)) - 1) hx hb hr (fun t ht hW => ⟨⟨((ju_3 7) / (ju_3 6)) - 1, (g, y, zz, ju_3, fu_3, v), rfl, (by exact ⟨(by rw [fMean, if_pos ⟨c_1, c_2⟩, if_neg (fun q => c_4 (hu_3.1.trans ((i64_0 _).mpr q)))]; exact mn_ok hu_3.1 (by rw [bE, if_pos (by rw [c_5]; rfl)]; exact hu_3.2.1.symm) (mnb hI c_1) c_4 (Or.inl ⟨Int64.not_le.mp c_7, rfl⟩)), rfl, hM⟩), by rw [ht]; exact hP, hD⟩, hS.F ht⟩) hS.2.2 dX5_mean_105
      · have c_4 := (lg_cmp_eq _ _).mp c_4
        refine lv_bipush (v := (-3)) hx hb dX5_mean_49 (by decide) ?_
        refine pcL (va_runS (As := [.int (-3)]) (rest := []) ⟨hx, hb, hml, hown, hts⟩ (kX5_no l D cI cO tt (MW am cI g y zz ju_3 fu_3 v X) H (-3) ) (va_cwS 1 hts gX5_mean_X5_no rfl rfl rfl (by decide +kernel) ⟨(Nat.le_of_ble_eq_true rfl), (Nat.le_of_ble_eq_true rfl)⟩) (pwS hK hZ hN hP hS) rfl rfl hl.1 rfl (lv_room (Nat.le_of_ble_eq_true rfl)) dX5_mean_51 ⟨Nat.zero_le _, Nat.zero_le _⟩) hS (fun locs hS => ?_)
        exact W.lret (v := (-9223372036854775808) - ((-3) : Int32).toInt64) hx hb hr (fun t ht hW => ⟨⟨(-9223372036854775808) - ((-3) : Int32).toInt64, (g, y, zz, ju_3, fu_3, v), rfl, (by exact ⟨(by rw [fMean, if_pos ⟨c_1, c_2⟩, if_pos ((i64_0 _).mp (hu_3.1.symm.trans c_4))]), rfl, hM⟩), by rw [ht]; exact hP, hD⟩, hS.F ht⟩) hS.2.2 dX5_mean_54
    · have c_2 := bI_0.mp c_2
      refine lv_bipush (v := (-2)) hx hb dX5_mean_25 (by decide) ?_
      refine pcL (va_runS (As := [.int (-2)]) (rest := []) ⟨hx, hb, hml, hown, hts⟩ (kX5_no l D cI cO tt (MW am cI g y zz j f v X) s.heap (-2) ) (va_cwS 1 hts gX5_mean_X5_no rfl rfl rfl (by decide +kernel) ⟨(Nat.le_of_ble_eq_true rfl), (Nat.le_of_ble_eq_true rfl)⟩) (pwS hK hZ hN hP hS) rfl rfl hl.1 rfl (lv_room (Nat.le_of_ble_eq_true rfl)) dX5_mean_27 ⟨Nat.zero_le _, Nat.zero_le _⟩) hS (fun locs hS => ?_)
      exact W.lret (v := (-9223372036854775808) - ((-2) : Int32).toInt64) hx hb hr (fun t ht hW => ⟨⟨(-9223372036854775808) - ((-2) : Int32).toInt64, (g, y, zz, j, f, v), rfl, (by exact ⟨(by grind [fMean]), rfl, hM⟩), by rw [ht]; exact hP, hD⟩, hS.F ht⟩) hS.2.2 dX5_mean_30
set_option maxHeartbeats 4000000 in
set_option maxRecDepth 100000 in
theorem kX5_about_i (l : Launch) (D : va_G) (cI cO : ClassId) (tt : Nat) (am : Nat → Nat) (g : Nat → Nat → Int32) (y : Nat → Int32) (zz : Nat → Int32) (j : Nat → Int64) (f : Nat → Int32) (v : Nat → Int32) (X : va_W) (sz : Nat) (p0 : Int32) (w0 : Int32) (hI : WI g) (hM : RM g y zz) : MmI l yX5_about wsX5_about ({ frames := 3, cells := 0, slots := 0, locals := 74 }) D cI cO tt (MW am cI g y zz j f v X) sz [.ref (am 0), .int p0, .int w0] (S := (Nat → Int64) × (Nat → Int32)) (fun u => MW am cI g y zz u.1 u.2 v X) (fun z _ => z = fAbout g p0 w0) := by
  refine Met.ofW (cc := cX5_about) (maxL := 3) (ret := (some .int)) (by decide) rfl ?_
  intro p e s m args below meth c s₁ B hml hv
  obtain ⟨rfl, hsz, hP, hK, hD0, hZ, hN⟩ := hv
  have hx := B.exec
  have hb := B.bytes
  have hr := B.returns
  have hts := atoms_spec (ws := wsX5_about) B.pre
  have hown : s.vm.findClass RX5 = some m.cls := findClass_of_methodNamed B.named
  have hlocks := B.notSynchronized
  subst hsz
  have hD := hD0.self (sz := s.heap.size)
  generalize hAe : va_A (MW am cI g y zz j f v X) s.heap.size = A at hD hZ ⊢
  have hA : ∀ q : Nat, s.heap.size ≤ q → A q := fun q h => by rw [← hAe]; exact Or.inr h
  have hS : va_S A s.heap s.heap [] := va_S.rf
  have hl := lv_entry ([.ref (am 0), .int p0, .int w0]) (n := 3) (Nat.le_of_ble_eq_true rfl)
  rw [lg_entry_eq]
  generalize (lg_sl ([.ref (am 0), .int p0, .int w0]) ++ List.replicate (3 - (lg_sl ([.ref (am 0), .int p0, .int w0])).length) Slot.unset).toArray = ls at hl ⊢
  have hl : lv_has ls 3 [(0, .ref (am 0)), (1, .int p0), (2, .int w0)] := hl
  have hw0 := hts (.constant RX5 76 (-2147483648)) (List.mem_cons_of_mem _ (List.mem_append_left _ (List.mem_append_left _ (List.mem_of_getElem? (l := wsX5_about_r1) (i := 0) rfl))))
  have hw1 := hts (.fieldLink RX5 32 "LayerSounderModel" "headings" "[I") (List.mem_cons_of_mem _ (List.mem_append_left _ (List.mem_append_left _ (List.mem_of_getElem? (l := wsX5_about_r1) (i := 1) rfl))))
  have iX5 : ∀ w ∈ wsX50, w ∈ wsX5_about := fun _ h => List.mem_cons_of_mem _ (List.mem_append_right _ h)
  have hw3 := hts (.fieldLink RX5 35 "LayerSounderModel" "xs" "[I") (List.mem_cons_of_mem _ (List.mem_append_left _ (List.mem_append_left _ (List.mem_of_getElem? (l := wsX5_about_r1) (i := 2) rfl))))
  have hw4 := hts (.fieldLink RX5 38 "LayerSounderModel" "ys" "[I") (List.mem_cons_of_mem _ (List.mem_append_left _ (List.mem_append_left _ (List.mem_of_getElem? (l := wsX5_about_r1) (i := 3) rfl))))
  have hw5 := hts (.fieldLink RX5 41 "LayerSounderModel" "depths" "[I") (List.mem_cons_of_mem _ (List.mem_append_left _ (List.mem_append_left _ (List.mem_of_getElem? (l := wsX5_about_r1) (i := 4) rfl))))
  refine lv_aload_n hx hb dX5_about_0 rfl (lv_at hl 0 rfl) ?_
  refine lv_iload_n hx hb dX5_about_1 rfl (lv_at hl 1 rfl) ?_
  refine pcI (va_runV (As := [.int p0]) (rest := []) ⟨hx, hb, hml, hown, hts⟩ (kX5_isPing l D cI cO tt am g y zz j f v X s.heap p0 hI) (cwV 1 hts gX5_about_X5_isPing rfl rfl rfl (by decide +kernel) ⟨(Nat.le_of_ble_eq_true rfl), (Nat.le_of_ble_eq_true rfl)⟩) (pwV hK hZ hN hP hS (va_recv hK hP (ci := 5) (q0 := 0) rfl rfl)) rfl rfl hl.1 rfl (lv_room (Nat.le_of_ble_eq_true rfl)) dX5_about_2 ⟨Nat.zero_le _, Nat.zero_le _⟩) hS (fun locs hS => ?_)
  refine lv_if_ne (tgt := 11) hx hb dX5_about_5 (by decide) (fun c_1 => ?_) (fun c_1 => ?_)
  · have c_1 := bI_n0.mp c_1
    refine lv_iload_n hx hb dX5_about_11 rfl (lv_at hl 2 rfl) ?_
    rcases sw_4 w0 with c_2 | c_2 | c_2 | c_2 | c_2 | c_2
    · refine lv_tableOut (tgt := 90) hx hb dX5_about_12 c_2.1 (by decide) ?_
      replace c_2 := c_2.2
      refine lv_ldc hx hb hown hw0 dX5_about_90 ?_
      exact W.iret (v := (-2147483648)) hx hb hr (fun t ht hW => ⟨⟨(-2147483648), (j, f), rfl, (by show _ = _; grind [fAbout, bI]), by rw [ht]; exact hP, hD⟩, hS.F ht⟩) hS.2.2 dX5_about_92
    · refine lv_tableIn (tgt := 48) hx hb dX5_about_12 (by rw [c_2]; decide) (by rw [c_2]; decide) (by rw [c_2]; rfl) (by decide) ?_
      refine lv_aload_n hx hb dX5_about_48 rfl (lv_at hl 0 rfl) ?_
      refine va_get (D := D) (ci := 5) (v := .ref (am 7)) (C := RX5) (T := TX5) (N := 31) hx hb hts iX5 hown hK hP 0 rfl rfl 9 (by decide) hw1 (fun _ h9 => h9) rfl dX5_about_49 ?_
      refine lv_iload_n hx hb dX5_about_52 rfl (lv_at hl 1 rfl) ?_
      refine va_iald hx hb hK hP 7 0 rfl rfl (vin c_1.1 c_1.2 hI.2.1.2 (by decide)) dX5_about_53 ?_
      exact W.iret (v := g 0 p0.toNatClampNeg) hx hb hr (fun t ht hW => ⟨⟨g 0 p0.toNatClampNeg, (j, f), rfl, (by show _ = _; grind [fAbout, bI]), by rw [ht]; exact hP, hD⟩, hS.F ht⟩) hS.2.2 dX5_about_54
    · refine lv_tableIn (tgt := 55) hx hb dX5_about_12 (by rw [c_2]; decide) (by rw [c_2]; decide) (by rw [c_2]; rfl) (by decide) ?_
      refine lv_aload_n hx hb dX5_about_55 rfl (lv_at hl 0 rfl) ?_
      refine va_get (D := D) (ci := 5) (v := .ref (am 8)) (C := RX5) (T := TX5) (N := 31) hx hb hts iX5 hown hK hP 0 rfl rfl 10 (by decide) hw3 (fun _ h9 => h9) rfl dX5_about_56 ?_
      refine lv_iload_n hx hb dX5_about_59 rfl (lv_at hl 1 rfl) ?_
      refine va_iald hx hb hK hP 8 0 rfl rfl (vin c_1.1 c_1.2 hI.2.1.2 (by decide)) dX5_about_60 ?_
      exact W.iret (v := g 1 p0.toNatClampNeg) hx hb hr (fun t ht hW => ⟨⟨g 1 p0.toNatClampNeg, (j, f), rfl, (by show _ = _; grind [fAbout, bI]), by rw [ht]; exact hP, hD⟩, hS.F ht⟩) hS.2.2 dX5_about_61
    · refine lv_tableIn (tgt := 62) hx hb dX5_about_12 (by rw [c_2]; decide) (by rw [c_2]; decide) (by rw [c_2]; rfl) (by decide) ?_
      refine lv_aload_n hx hb dX5_about_62 rfl (lv_at hl 0 rfl) ?_
      refine va_get (D := D) (ci := 5) (v := .ref (am 9)) (C := RX5) (T := TX5) (N := 31) hx hb hts iX5 hown hK hP 0 rfl rfl 11 (by decide) hw4 (fun _ h9 => h9) rfl dX5_about_63 ?_
      refine lv_iload_n hx hb dX5_about_66 rfl (lv_at hl 1 rfl) ?_
      refine va_iald hx hb hK hP 9 0 rfl rfl (vin c_1.1 c_1.2 hI.2.1.2 (by decide)) dX5_about_67 ?_
      exact W.iret (v := g 2 p0.toNatClampNeg) hx hb hr (fun t ht hW => ⟨⟨g 2 p0.toNatClampNeg, (j, f), rfl, (by show _ = _; grind [fAbout, bI]), by rw [ht]; exact hP, hD⟩, hS.F ht⟩) hS.2.2 dX5_about_68
    · refine lv_tableIn (tgt := 69) hx hb dX5_about_12 (by rw [c_2]; decide) (by rw [c_2]; decide) (by rw [c_2]; rfl) (by decide) ?_
      refine lv_aload_n hx hb dX5_about_69 rfl (lv_at hl 0 rfl) ?_
      refine va_get (D := D) (ci := 5) (v := .ref (am 10)) (C := RX5) (T := TX5) (N := 31) hx hb hts iX5 hown hK hP 0 rfl rfl 12 (by decide) hw5 (fun _ h9 => h9) rfl dX5_about_70 ?_
      refine lv_iload_n hx hb dX5_about_73 rfl (lv_at hl 1 rfl) ?_
      refine va_iald hx hb hK hP 10 0 rfl rfl (vin c_1.1 c_1.2 hI.2.1.2 (by decide)) dX5_about_74 ?_
      exact W.iret (v := g 3 p0.toNatClampNeg) hx hb hr (fun t ht hW => ⟨⟨g 3 p0.toNatClampNeg, (j, f), rfl, (by show _ = _; grind [fAbout, bI]), by rw [ht]; exact hP, hD⟩, hS.F ht⟩) hS.2.2 dX5_about_75
    · refine lv_tableIn (tgt := 76) hx hb dX5_about_12 (by rw [c_2]; decide) (by rw [c_2]; decide) (by rw [c_2]; rfl) (by decide) ?_
      refine lv_aload_n hx hb dX5_about_76 rfl (lv_at hl 0 rfl) ?_
      refine lv_iload_n hx hb dX5_about_77 rfl (lv_at hl 1 rfl) ?_
      refine mcI (wf := fun u : (Nat → Int64) × (Nat → Int32) => MW am cI g y zz u.1 u.2 v X) (va_runV (As := [.int p0]) (rest := []) ⟨hx, hb, hml, hown, hts⟩ (kX5_findOwn l D cI cO tt am g y zz j f v X s.heap.size p0 hI hM c_1) (cwV 1 hts gX5_about_X5_findOwn rfl rfl rfl (by decide +kernel) ⟨(Nat.le_of_ble_eq_true rfl), (Nat.le_of_ble_eq_true rfl)⟩) (mwV hK hZ hN hP hD hS hA (va_recv hK hP (ci := 5) (q0 := 0) rfl rfl)) rfl rfl hl.1 rfl (lv_room (Nat.le_of_ble_eq_true rfl)) dX5_about_78 ⟨Nat.zero_le _, Nat.zero_le _⟩) hD hS hA (fun ru_3 uu_3 H locs hu_3 hP hD hS => ?_)
      obtain ⟨ju_3, fu_3⟩ := uu_3
      have hu_3 : moP g p0 j ru_3 ju_3 := hu_3
      obtain ⟨eru_3, hmu_3⟩ : ru_3 = bI (oOk g p0) ∧ moP g p0 j (bI (oOk g p0)) ju_3 := ⟨hu_3.1, hu_3.1 ▸ hu_3⟩
      subst eru_3
      have hP : va_P D vwCl (MW am cI g y zz ju_3 fu_3 v X) H := hP
      have hD : va_D A (MW am cI g y zz ju_3 fu_3 v X) := hD
      refine lv_if_eq (tgt := 88) hx hb dX5_about_81 (by decide) (fun c_4 => ?_) (fun c_4 => ?_)
      · have c_4 := bI_0.mp c_4
        refine lv_iconst (v := 0) hx hb dX5_about_88 (by decide) ?_
        exact W.iret (v := 0) hx hb hr (fun t ht hW => ⟨⟨0, (ju_3, fu_3), rfl, (by show _ = _; grind [fAbout, bI]), by rw [ht]; exact hP, hD⟩, hS.F ht⟩) hS.2.2 dX5_about_89
      · have c_4 := bI_n0.mp c_4
        refine lv_iconst (v := 1) hx hb dX5_about_84 (by decide) ?_
        refine lv_goto (tgt := 89) hx hb dX5_about_85 (by decide) ?_
        exact W.iret (v := 1) hx hb hr (fun t ht hW => ⟨⟨1, (ju_3, fu_3), rfl, (by show _ = _; grind [fAbout, bI]), by rw [ht]; exact hP, hD⟩, hS.F ht⟩) hS.2.2 dX5_about_89
  · have c_1 := bI_0.mp c_1
    refine lv_ldc hx hb hown hw0 dX5_about_8 ?_
    exact W.iret (v := (-2147483648)) hx hb hr (fun t ht hW => ⟨⟨(-2147483648), (j, f), rfl, (by show _ = _; grind [fAbout, bI]), by rw [ht]; exact hP, hD⟩, hS.F ht⟩) hS.2.2 dX5_about_10
set_option maxHeartbeats 4000000 in
set_option maxRecDepth 100000 in
theorem kX5_digest (l : Launch) (D : va_G) (cI cO : ClassId) (tt : Nat) (am : Nat → Nat) (g : Nat → Nat → Int32) (y : Nat → Int32) (zz : Nat → Int32) (j : Nat → Int64) (f : Nat → Int32) (v : Nat → Int32) (X : va_W) (sz : Nat)  (hI : WI g) (hM : RM g y zz) : MmL l yX5_digest wsX5_digest ({ frames := 4, cells := 0, slots := 0, locals := 96 }) D cI cO tt (MW am cI g y zz j f v X) sz [.ref (am 0)] (S := (Nat → Nat → Int32) × (Nat → Int32) × (Nat → Int32) × (Nat → Int64) × (Nat → Int32) × (Nat → Int32)) (fun u => MW am cI u.1 u.2.1 u.2.2.1 u.2.2.2.1 u.2.2.2.2.1 u.2.2.2.2.2 X) (fun z u => z = dgT g (rn (g 100 7)) ∧ u.1 = g ∧ RM u.1 u.2.1 u.2.2.1) := by
  refine Met.ofW (cc := cX5_digest) (maxL := 6) (ret := (some .long)) (by decide) rfl ?_
  intro p e s m args below meth c s₁ B hml hv
  obtain ⟨rfl, hsz, hP, hK, hD0, hZ, hN⟩ := hv
  have hx := B.exec
  have hb := B.bytes
  have hr := B.returns
  have hts := atoms_spec (ws := wsX5_digest) B.pre
  have hown : s.vm.findClass RX5 = some m.cls := findClass_of_methodNamed B.named
  have hlocks := B.notSynchronized
  subst hsz
  have hD := hD0.self (sz := s.heap.size)
  generalize hAe : va_A (MW am cI g y zz j f v X) s.heap.size = A at hD hZ ⊢
  have hA : ∀ q : Nat, s.heap.size ≤ q → A q := fun q h => by rw [← hAe]; exact Or.inr h
  have hS : va_S A s.heap s.heap [] := va_S.rf
  have hl := lv_entry ([.ref (am 0)]) (n := 6) (Nat.le_of_ble_eq_true rfl)
  rw [lg_entry_eq]
  generalize (lg_sl ([.ref (am 0)]) ++ List.replicate (6 - (lg_sl ([.ref (am 0)])).length) Slot.unset).toArray = ls at hl ⊢
  have hl : lv_has ls 6 [(0, .ref (am 0))] := hl
  have hw0 := hts (.constantLong RX5 208 (17)) (List.mem_cons_of_mem _ (List.mem_append_left _ (List.mem_append_left _ (List.mem_of_getElem? (l := wsX5_digest_r1) (i := 0) rfl))))
  have hw1 := hts (.fieldLink RX5 82 "LayerSounderModel" "pings" "I") (List.mem_cons_of_mem _ (List.mem_append_left _ (List.mem_append_left _ (List.mem_of_getElem? (l := wsX5_digest_r1) (i := 2) rfl))))
  have iX5 : ∀ w ∈ wsX50, w ∈ wsX5_digest := fun _ h => List.mem_cons_of_mem _ (List.mem_append_right _ h)
  have hw3 := hts (.fieldLink RX5 28 "LayerSounderModel" "l" "I") (List.mem_cons_of_mem _ (List.mem_append_left _ (List.mem_append_left _ (List.mem_of_getElem? (l := wsX5_digest_r1) (i := 3) rfl))))
  have hw4 := hts (.constantLong RX5 210 (31)) (List.mem_cons_of_mem _ (List.mem_append_left _ (List.mem_append_left _ (List.mem_of_getElem? (l := wsX5_digest_r1) (i := 1) rfl))))
  have hw5 := hts (.fieldLink RX5 175 "LayerSounderModel" "paceX" "J") (List.mem_cons_of_mem _ (List.mem_append_left _ (List.mem_append_left _ (List.mem_of_getElem? (l := wsX5_digest_r1) (i := 4) rfl))))
  have hw6 := hts (.fieldLink RX5 178 "LayerSounderModel" "paceY" "J") (List.mem_cons_of_mem _ (List.mem_append_left _ (List.mem_append_left _ (List.mem_of_getElem? (l := wsX5_digest_r1) (i := 5) rfl))))
  refine lv_ldc2 hx hb hown hw0 dX5_digest_0 ?_
  refine lv_lstore_n (lv' := [(1, .long 17), (0, .ref (am 0))]) hx hb dX5_digest_3 rfl hl (by decide) rfl (fun ls hl => ?_)
  refine lv_iconst (v := 0) hx hb dX5_digest_4 (by decide) ?_
  refine lv_istore_n (lv' := [(3, .int 0), (1, .long 17), (0, .ref (am 0))]) hx hb dX5_digest_5 rfl hl (by decide) rfl (fun ls hl => ?_)
  refine wloop (D := D) (A := A) (σ := Nat × Int64) (pc := 6) (nL := 6) (fun z_1 => [(3, .int (nI z_1.1)), (1, .long z_1.2), (0, .ref (am 0))]) (fun z_1 => MW am cI g y zz j f v X) (fun z_1 => z_1.1 ≤ 8 ∧ z_1.2 = mdC g z_1.1) (fun z_1 => 8 - z_1.1) (fun z_1 hIz_1 ihz_1 H locs ls hP hD hS hl => ?_) (0, 17) (⟨Nat.zero_le _, rfl⟩) _ _ _ hP hD hS (lv_sub hl [0, 1, 2] rfl)
  obtain ⟨i, hv⟩ := z_1
  have hP : va_P D vwCl (MW am cI g y zz j f v X) H := hP
  have hD : va_D A (MW am cI g y zz j f v X) := hD
  have hl : lv_has ls 6 [(3, .int (nI i)), (1, .long hv), (0, .ref (am 0))] := hl
  have hIz_1 : i ≤ 8 ∧ hv = mdC g i := hIz_1
  refine lv_iload_n hx hb dX5_digest_6 rfl (lv_at hl 0 rfl) ?_
  refine lv_bipush (v := 8) hx hb dX5_digest_7 (by decide) ?_
  refine lv_icmp_ge (tgt := 40) hx hb dX5_digest_9 (by decide) (fun c_2 => ?_) (fun c_2 => ?_)
  · have hi8 : i = 8 := by
      have z : 8 ≤ i := (nI_leI (a := 8) (b := i) (by omega) (by omega)).mp c_2
      have z2 := hIz_1.1
      omega
    refine lv_iconst (v := 0) hx hb dX5_digest_40 (by decide) ?_
    refine lv_istore_n (lv' := [(3, .int 0), (1, .long hv), (0, .ref (am 0))]) hx hb dX5_digest_41 rfl hl (by decide) rfl (fun ls hl => ?_)
    refine wloop (D := D) (A := A) (σ := Nat × Int64 × (Nat → Int64) × (Nat → Int32)) (pc := 42) (nL := 6) (fun z_3 => [(3, .int (nI z_3.1)), (1, .long z_3.2.1), (0, .ref (am 0))]) (fun z_3 => MW am cI g y zz z_3.2.2.1 z_3.2.2.2 v X) (fun z_3 => z_3.1 ≤ rn (g 100 7) ∧ z_3.2.1 = dgT g z_3.1) (fun z_3 => rn (g 100 7) - z_3.1) (fun z_3 hIz_3 ihz_3 H locs ls hP hD hS hl => ?_) (0, hv, j, f) (⟨Nat.zero_le _, by rw [hIz_1.2, hi8]; exact mdC_8 g⟩) _ _ _ hP hD hS (lv_sub hl [0, 1, 2] rfl)
    obtain ⟨y1, h1, j1, f1⟩ := z_3
    have hP : va_P D vwCl (MW am cI g y zz j1 f1 v X) H := hP
    have hD : va_D A (MW am cI g y zz j1 f1 v X) := hD
    have hl : lv_has ls 6 [(3, .int (nI y1)), (1, .long h1), (0, .ref (am 0))] := hl
    have hIz_3 : y1 ≤ rn (g 100 7) ∧ h1 = dgT g y1 := hIz_3
    refine lv_iload_n hx hb dX5_digest_42 rfl (lv_at hl 0 rfl) ?_
    refine lv_aload_n hx hb dX5_digest_43 rfl (lv_at hl 2 rfl) ?_
    refine va_get (D := D) (ci := 5) (v := .int (g 100 7)) (C := RX5) (T := TX5) (N := 31) hx hb hts iX5 hown hK hP 0 rfl rfl 8 (by decide) hw1 (fun _ h9 => h9) rfl dX5_digest_44 ?_
    refine lv_icmp_ge (tgt := 160) hx hb dX5_digest_47 (by decide) (fun c_4 => ?_) (fun c_4 => ?_)
    · refine lv_lload_n hx hb dX5_digest_160 rfl (lv_at hl 1 rfl) ?_
      exact W.lret (v := h1) hx hb hr (fun t ht hW => ⟨⟨h1, (g, y, zz, j1, f1, v), rfl, (by exact ⟨(by rw [nlast hI.2.1.1 hIz_3.1 c_4]; exact hIz_3.2), rfl, hM⟩), by rw [ht]; exact hP, hD⟩, hS.F ht⟩) hS.2.2 dX5_digest_161
    · have hlt2 := nuN hI hIz_3.1 c_4
      refine lv_iconst (v := 0) hx hb dX5_digest_50 (by decide) ?_
      refine lv_istore (lv' := [(4, .int 0), (3, .int (nI y1)), (1, .long h1), (0, .ref (am 0))]) hx hb dX5_digest_51 hl (by decide) rfl (fun ls hl => ?_)
      refine wloop (D := D) (A := A) (σ := Nat × Int64 × (Nat → Int64) × (Nat → Int32)) (pc := 53) (nL := 6) (fun z_5 => [(4, .int (nI z_5.1)), (3, .int (nI y1)), (1, .long z_5.2.1), (0, .ref (am 0))]) (fun z_5 => MW am cI g y zz z_5.2.2.1 z_5.2.2.2 v X) (fun z_5 => z_5.1 ≤ 5 ∧ z_5.2.1 = dgA g (nI y1) (dgT g y1) z_5.1) (fun z_5 => 5 - z_5.1) (fun z_5 hIz_5 ihz_5 H locs ls hP hD hS hl => ?_) (0, h1, j1, f1) (⟨Nat.zero_le _, hIz_3.2⟩) _ _ _ hP hD hS (lv_sub hl [0, 1, 2, 3] rfl)
      obtain ⟨a1, h2, j2, f2⟩ := z_5
      have hP : va_P D vwCl (MW am cI g y zz j2 f2 v X) H := hP
      have hD : va_D A (MW am cI g y zz j2 f2 v X) := hD
      have hl : lv_has ls 6 [(4, .int (nI a1)), (3, .int (nI y1)), (1, .long h2), (0, .ref (am 0))] := hl
      have hIz_5 : a1 ≤ 5 ∧ h2 = dgA g (nI y1) (dgT g y1) a1 := hIz_5
      refine lv_iload hx hb dX5_digest_53 (lv_at hl 0 rfl) ?_
      refine lv_iconst (v := 5) hx hb dX5_digest_55 (by decide) ?_
      refine lv_icmp_ge (tgt := 80) hx hb dX5_digest_56 (by decide) (fun c_6 => ?_) (fun c_6 => ?_)
      · have ha5 : a1 = 5 := by
          have z : 5 ≤ a1 := (nI_leI (a := 5) (b := a1) (by omega) (by omega)).mp c_6
          have z2 := hIz_5.1
          omega
        refine lv_iconst (v := 0) hx hb dX5_digest_80 (by decide) ?_
        refine lv_istore (lv' := [(4, .int 0), (3, .int (nI y1)), (1, .long h2), (0, .ref (am 0))]) hx hb dX5_digest_81 hl (by decide) rfl (fun ls hl => ?_)
        refine wloop (D := D) (A := A) (σ := Nat × Int64 × (Nat → Int64) × (Nat → Int32)) (pc := 83) (nL := 6) (fun z_7 => [(4, .int (nI z_7.1)), (3, .int (nI y1)), (1, .long z_7.2.1), (0, .ref (am 0))]) (fun z_7 => MW am cI g y zz z_7.2.2.1 z_7.2.2.2 v X) (fun z_7 => z_7.1 ≤ rn (g 100 0) ∧ z_7.2.1 = dgE g (nI y1) (dgT g y1) z_7.1) (fun z_7 => rn (g 100 0) - z_7.1) (fun z_7 hIz_7 ihz_7 H locs ls hP hD hS hl => ?_) (0, h2, j2, f2) (⟨Nat.zero_le _, by rw [hIz_5.2, ha5]; rfl⟩) _ _ _ hP hD hS (lv_sub hl [0, 1, 2, 3] rfl)
        obtain ⟨c1, h3, j3, f3⟩ := z_7
        have hP : va_P D vwCl (MW am cI g y zz j3 f3 v X) H := hP
        have hD : va_D A (MW am cI g y zz j3 f3 v X) := hD
        have hl : lv_has ls 6 [(4, .int (nI c1)), (3, .int (nI y1)), (1, .long h3), (0, .ref (am 0))] := hl
        have hIz_7 : c1 ≤ rn (g 100 0) ∧ h3 = dgE g (nI y1) (dgT g y1) c1 := hIz_7
        refine lv_iload hx hb dX5_digest_83 (lv_at hl 0 rfl) ?_
        refine lv_aload_n hx hb dX5_digest_85 rfl (lv_at hl 3 rfl) ?_
        refine va_get (D := D) (ci := 5) (v := .int (g 100 0)) (C := RX5) (T := TX5) (N := 31) hx hb hts iX5 hown hK hP 0 rfl rfl 7 (by decide) hw3 (fun _ h9 => h9) rfl dX5_digest_86 ?_
        refine lv_icmp_ge (tgt := 154) hx hb dX5_digest_89 (by decide) (fun c_8 => ?_) (fun c_8 => ?_)
        · have hk9 := nlast (la0 hI) hIz_7.1 c_8
          refine lv_iinc (v := nI (y1 + 1)) (lv' := [(3, .int (nI (y1 + 1))), (4, .int (nI c1)), (1, .long h3), (0, .ref (am 0))]) hx hb dX5_digest_154 hl (k := 1) rfl (nI_1 _) (by decide) rfl (fun ls hl => ?_)
          refine lv_goto (tgt := 42) hx hb dX5_digest_157 (by decide) ?_
          exact ihz_3 (y1 + 1, h3, j3, f3) (show (y1 + 1) ≤ rn (g 100 7) ∧ h3 = dgT g (y1 + 1) from ⟨hlt2.1, by rw [hIz_7.2, ← hk9]; rfl⟩) (show rn (g 100 7) - (y1 + 1) < rn (g 100 7) - y1 from (Nat.sub_lt_sub_left hlt2.1 (Nat.lt_succ_self y1))) _ _ _ hP hD hS (lv_sub hl [0, 2, 3] rfl)
        · have hlt4 := laN hI hIz_7.1 c_8
          refine lv_aload_n hx hb dX5_digest_92 rfl (lv_at hl 3 rfl) ?_
          refine lv_iload_n hx hb dX5_digest_93 rfl (lv_at hl 1 rfl) ?_
          refine lv_iload hx hb dX5_digest_94 (lv_at hl 0 rfl) ?_
          refine mcI (wf := fun u : (Nat → Int64) × (Nat → Int32) => MW am cI g y zz u.1 u.2 v X) (va_runV (As := [.int (nI y1), .int (nI c1)]) (rest := []) ⟨hx, hb, hml, hown, hts⟩ (kX5_fateOf l D cI cO tt am g y zz j3 f3 v X H.size (nI y1) (nI c1) hI hM (isP_n hI hlt2.1) (isC_n hI hlt4.1)) (cwV 2 hts gX5_digest_X5_fateOf rfl rfl rfl (by decide +kernel) ⟨(Nat.le_of_ble_eq_true rfl), (Nat.le_of_ble_eq_true rfl)⟩) (mwV hK hZ hN hP hD hS hA (va_recv hK hP (ci := 5) (q0 := 0) rfl rfl)) rfl rfl hl.1 rfl (lv_room (Nat.le_of_ble_eq_true rfl)) dX5_digest_96 ⟨Nat.zero_le _, Nat.zero_le _⟩) hD hS hA (fun ru_9 uu_9 H locs hu_9 hP hD hS => ?_)
          obtain ⟨ju_9, fu_9⟩ := uu_9
          obtain ⟨eru_9, hqu_9⟩ := hu_9
          have eru_9 : ru_9 = gdF g (nI y1) (nI c1) := eru_9
          subst eru_9
          have hqu_9 : ∀ q, 4 ≤ q → ju_9 q = j3 q := hqu_9
          have hP : va_P D vwCl (MW am cI g y zz ju_9 fu_9 v X) H := hP
          have hD : va_D A (MW am cI g y zz ju_9 fu_9 v X) := hD
          refine lv_istore (lv' := [(5, .int (gdF g (nI y1) (nI c1))), (4, .int (nI c1)), (3, .int (nI y1)), (1, .long h3), (0, .ref (am 0))]) hx hb dX5_digest_99 hl (by decide) rfl (fun ls hl => ?_)
          refine lv_ldc2 hx hb hown hw4 dX5_digest_101 ?_
          refine lv_lload_n hx hb dX5_digest_104 rfl (lv_at hl 3 rfl) ?_
          refine lv_lmul hx hb dX5_digest_105 ?_
          refine lv_iload hx hb dX5_digest_106 (lv_at hl 0 rfl) ?_
          refine lv_i2l hx hb dX5_digest_108 rfl ?_
          refine lv_ladd hx hb dX5_digest_109 ?_
          refine lv_lstore_n (lv' := [(1, .long ((31 * h3) + ((gdF g (nI y1) (nI c1)).toInt64))), (5, .int (gdF g (nI y1) (nI c1))), (4, .int (nI c1)), (3, .int (nI y1)), (0, .ref (am 0))]) hx hb dX5_digest_110 rfl hl (by decide) rfl (fun ls hl => ?_)
          refine lv_iload hx hb dX5_digest_111 (lv_at hl 1 rfl) ?_
          refine lv_if_ne (tgt := 148) hx hb dX5_digest_113 (by decide) (fun c_10 => ?_) (fun c_10 => ?_)
          · refine lv_iinc (v := nI (c1 + 1)) (lv' := [(4, .int (nI (c1 + 1))), (1, .long ((31 * h3) + ((gdF g (nI y1) (nI c1)).toInt64))), (5, .int (gdF g (nI y1) (nI c1))), (3, .int (nI y1)), (0, .ref (am 0))]) hx hb dX5_digest_148 hl (k := 2) rfl (nI_1 _) (by decide) rfl (fun ls hl => ?_)
            refine lv_goto (tgt := 83) hx hb dX5_digest_151 (by decide) ?_
            exact ihz_7 (c1 + 1, (31 * h3) + ((gdF g (nI y1) (nI c1)).toInt64), ju_9, fu_9) (show (c1 + 1) ≤ rn (g 100 0) ∧ ((31 * h3) + ((gdF g (nI y1) (nI c1)).toInt64)) = dgE g (nI y1) (dgT g y1) (c1 + 1) from ⟨hlt4.1, by rw [dgE, if_neg c_10, hIz_7.2]⟩) (show rn (g 100 0) - (c1 + 1) < rn (g 100 0) - c1 from (Nat.sub_lt_sub_left hlt4.1 (Nat.lt_succ_self c1))) _ _ _ hP hD hS (lv_sub hl [0, 3, 1, 4] rfl)
          · refine lv_aload_n hx hb dX5_digest_116 rfl (lv_at hl 4 rfl) ?_
            refine lv_iload_n hx hb dX5_digest_117 rfl (lv_at hl 3 rfl) ?_
            refine lv_iload hx hb dX5_digest_118 (lv_at hl 2 rfl) ?_
            refine mcI (wf := fun u : (Nat → Int64) × (Nat → Int32) => MW am cI g y zz u.1 u.2 v X) (va_runV (As := [.int (nI y1), .int (nI c1)]) (rest := []) ⟨hx, hb, hml, hown, hts⟩ (kX5_findPace l D cI cO tt am g y zz ju_9 fu_9 v X H.size (nI y1) (nI c1) hI hM (isP_n hI hlt2.1) (isC_n hI hlt4.1)) (cwV 2 hts gX5_digest_X5_findPace rfl rfl rfl (by decide +kernel) ⟨(Nat.le_of_ble_eq_true rfl), (Nat.le_of_ble_eq_true rfl)⟩) (mwV hK hZ hN hP hD hS hA (va_recv hK hP (ci := 5) (q0 := 0) rfl rfl)) rfl rfl hl.1 rfl (lv_room (Nat.le_of_ble_eq_true rfl)) dX5_digest_120 ⟨Nat.zero_le _, Nat.zero_le _⟩) hD hS hA (fun ru_11 uu_11 H locs hu_11 hP hD hS => ?_)
            obtain ⟨ju_11, fu_11⟩ := uu_11
            obtain ⟨eru_11, hqu_11⟩ := (show fpP g (nI y1) (nI c1) ju_9 ru_11 ju_11 from hu_11)
            subst eru_11
            have hP : va_P D vwCl (MW am cI g y zz ju_11 fu_11 v X) H := hP
            have hD : va_D A (MW am cI g y zz ju_11 fu_11 v X) := hD
            refine lv_if_eq (tgt := 148) hx hb dX5_digest_123 (by decide) (fun c_12 => ?_) (fun c_12 => ?_)
            · have c_12 := bI_0.mp c_12
              exact absurd (gd0 c_10) c_12
            · have c_12 := bI_n0.mp c_12
              refine lv_ldc2 hx hb hown hw4 dX5_digest_126 ?_
              refine lv_lload_n hx hb dX5_digest_129 rfl (lv_at hl 0 rfl) ?_
              refine lv_lmul hx hb dX5_digest_130 ?_
              refine lv_aload_n hx hb dX5_digest_131 rfl (lv_at hl 4 rfl) ?_
              refine va_get (D := D) (ci := 5) (v := .long (ju_11 4)) (C := RX5) (T := TX5) (N := 31) hx hb hts iX5 hown hK hP 0 rfl rfl 26 (by decide) hw5 (fun _ h9 => h9) rfl dX5_digest_132 ?_
              refine lv_ladd hx hb dX5_digest_135 ?_
              refine lv_lstore_n (lv' := [(1, .long ((31 * ((31 * h3) + ((gdF g (nI y1) (nI c1)).toInt64))) + (ju_11 4))), (5, .int (gdF g (nI y1) (nI c1))), (4, .int (nI c1)), (3, .int (nI y1)), (0, .ref (am 0))]) hx hb dX5_digest_136 rfl hl (by decide) rfl (fun ls hl => ?_)
              refine lv_ldc2 hx hb hown hw4 dX5_digest_137 ?_
              refine lv_lload_n hx hb dX5_digest_140 rfl (lv_at hl 0 rfl) ?_
              refine lv_lmul hx hb dX5_digest_141 ?_
              refine lv_aload_n hx hb dX5_digest_142 rfl (lv_at hl 4 rfl) ?_
              refine va_get (D := D) (ci := 5) (v := .long (ju_11 5)) (C := RX5) (T := TX5) (N := 31) hx hb hts iX5 hown hK hP 0 rfl rfl 27 (by decide) hw6 (fun _ h9 => h9) rfl dX5_digest_143 ?_
              refine lv_ladd hx hb dX5_digest_146 ?_
              refine lv_lstore_n (lv' := [(1, .long ((31 * ((31 * ((31 * h3) + ((gdF g (nI y1) (nI c1)).toInt64))) + (ju_11 4))) + (ju_11 5))), (5, .int (gdF g (nI y1) (nI c1))), (4, .int (nI c1)), (3, .int (nI y1)), (0, .ref (am 0))]) hx hb dX5_digest_147 rfl hl (by decide) rfl (fun ls hl => ?_)
              refine lv_iinc (v := nI (c1 + 1)) (lv' := [(4, .int (nI (c1 + 1))), (1, .long ((31 * ((31 * ((31 * h3) + ((gdF g (nI y1) (nI c1)).toInt64))) + (ju_11 4))) + (ju_11 5))), (5, .int (gdF g (nI y1) (nI c1))), (3, .int (nI y1)), (0, .ref (am 0))]) hx hb dX5_digest_148 hl (k := 2) rfl (nI_1 _) (by decide) rfl (fun ls hl => ?_)
              refine lv_goto (tgt := 83) hx hb dX5_digest_151 (by decide) ?_
              exact ihz_7 (c1 + 1, (31 * ((31 * ((31 * h3) + ((gdF g (nI y1) (nI c1)).toInt64))) + (ju_11 4))) + (ju_11 5), ju_11, fu_11) (show (c1 + 1) ≤ rn (g 100 0) ∧ ((31 * ((31 * ((31 * h3) + ((gdF g (nI y1) (nI c1)).toInt64))) + (ju_11 4))) + (ju_11 5)) = dgE g (nI y1) (dgT g y1) (c1 + 1) from ⟨hlt4.1, by obtain ⟨z4, z5⟩ := hqu_11.1 (gd0 c_10); rw [z4, z5, dgE, if_pos c_10, hIz_7.2]⟩) (show rn (g 100 0) - (c1 + 1) < rn (g 100 0) - c1 from (Nat.sub_lt_sub_left hlt4.1 (Nat.lt_succ_self c1))) _ _ _ hP hD hS (lv_sub hl [0, 3, 1, 4] rfl)
      · have hlt3 : a1 + 1 ≤ 5 := by
          have z : ¬ 5 ≤ a1 := fun q => c_6 ((nI_leI (a := 5) (b := a1) (by omega) (by omega)).mpr q)
          omega
        refine lv_ldc2 hx hb hown hw4 dX5_digest_59 ?_
        refine lv_lload_n hx hb dX5_digest_62 rfl (lv_at hl 2 rfl) ?_
        refine lv_lmul hx hb dX5_digest_63 ?_
        refine lv_aload_n hx hb dX5_digest_64 rfl (lv_at hl 3 rfl) ?_
        refine lv_iload_n hx hb dX5_digest_65 rfl (lv_at hl 1 rfl) ?_
        refine lv_iload hx hb dX5_digest_66 (lv_at hl 0 rfl) ?_
        refine mcI (wf := fun u : (Nat → Int64) × (Nat → Int32) => MW am cI g y zz u.1 u.2 v X) (va_runV (As := [.int (nI y1), .int (nI a1)]) (rest := [.long (31 * h2)]) ⟨hx, hb, hml, hown, hts⟩ (kX5_about_i l D cI cO tt am g y zz j2 f2 v X H.size (nI y1) (nI a1) hI hM) (cwV 2 hts gX5_digest_X5_about rfl rfl rfl (by decide +kernel) ⟨(Nat.le_of_ble_eq_true rfl), (Nat.le_of_ble_eq_true rfl)⟩) (mwV hK hZ hN hP hD hS hA (va_recv hK hP (ci := 5) (q0 := 0) rfl rfl)) rfl rfl hl.1 rfl (lv_room (Nat.le_of_ble_eq_true rfl)) dX5_digest_68 ⟨Nat.zero_le _, Nat.zero_le _⟩) hD hS hA (fun ru_13 uu_13 H locs hu_13 hP hD hS => ?_)
        obtain ⟨ju_13, fu_13⟩ := uu_13
        have eru_13 : ru_13 = fAbout g (nI y1) (nI a1) := hu_13
        subst eru_13
        have hP : va_P D vwCl (MW am cI g y zz ju_13 fu_13 v X) H := hP
        have hD : va_D A (MW am cI g y zz ju_13 fu_13 v X) := hD
        refine lv_i2l hx hb dX5_digest_71 rfl ?_
        refine lv_ladd hx hb dX5_digest_72 ?_
        refine lv_lstore_n (lv' := [(1, .long ((31 * h2) + ((fAbout g (nI y1) (nI a1)).toInt64))), (4, .int (nI a1)), (3, .int (nI y1)), (0, .ref (am 0))]) hx hb dX5_digest_73 rfl hl (by decide) rfl (fun ls hl => ?_)
        refine lv_iinc (v := nI (a1 + 1)) (lv' := [(4, .int (nI (a1 + 1))), (1, .long ((31 * h2) + ((fAbout g (nI y1) (nI a1)).toInt64))), (3, .int (nI y1)), (0, .ref (am 0))]) hx hb dX5_digest_74 hl (k := 1) rfl (nI_1 _) (by decide) rfl (fun ls hl => ?_)
        refine lv_goto (tgt := 53) hx hb dX5_digest_77 (by decide) ?_
        exact ihz_5 (a1 + 1, (31 * h2) + ((fAbout g (nI y1) (nI a1)).toInt64), ju_13, fu_13) (show (a1 + 1) ≤ 5 ∧ ((31 * h2) + ((fAbout g (nI y1) (nI a1)).toInt64)) = dgA g (nI y1) (dgT g y1) (a1 + 1) from ⟨hlt3, by rw [hIz_5.2]; rfl⟩) (show 5 - (a1 + 1) < 5 - a1 from (by omega)) _ _ _ hP hD hS (lv_sub hl [0, 2, 1, 3] rfl)
  · have hlt : i + 1 ≤ 8 := by
      have z : ¬ 8 ≤ i := fun q => c_2 ((nI_leI (a := 8) (b := i) (by omega) (by omega)).mpr q)
      omega
    refine lv_iload_n hx hb dX5_digest_12 rfl (lv_at hl 0 rfl) ?_
    refine lv_iconst (v := 5) hx hb dX5_digest_13 (by decide) ?_
    refine lv_icmp_ne (tgt := 21) hx hb dX5_digest_14 (by decide) (fun c_14 => ?_) (fun c_14 => ?_)
    · refine lv_ldc2 hx hb hown hw4 dX5_digest_21 ?_
      refine lv_lload_n hx hb dX5_digest_24 rfl (lv_at hl 1 rfl) ?_
      refine lv_lmul hx hb dX5_digest_25 ?_
      refine lv_aload_n hx hb dX5_digest_26 rfl (lv_at hl 2 rfl) ?_
      refine lv_iload_n hx hb dX5_digest_27 rfl (lv_at hl 0 rfl) ?_
      refine pcI (va_runV (As := [.int (nI i)]) (rest := [.long (31 * hv)]) ⟨hx, hb, hml, hown, hts⟩ (kX5_count l D cI cO tt am g y zz j f v X H (nI i) ) (cwV 1 hts gX5_digest_X5_count rfl rfl rfl (by decide +kernel) ⟨(Nat.le_of_ble_eq_true rfl), (Nat.le_of_ble_eq_true rfl)⟩) (pwV hK hZ hN hP hS (va_recv hK hP (ci := 5) (q0 := 0) rfl rfl)) rfl rfl hl.1 rfl (lv_room (Nat.le_of_ble_eq_true rfl)) dX5_digest_28 ⟨Nat.zero_le _, Nat.zero_le _⟩) hS (fun locs hS => ?_)
      refine lv_i2l hx hb dX5_digest_31 rfl ?_
      refine lv_ladd hx hb dX5_digest_32 ?_
      refine lv_lstore_n (lv' := [(1, .long ((31 * hv) + ((fCount g (nI i)).toInt64))), (3, .int (nI i)), (0, .ref (am 0))]) hx hb dX5_digest_33 rfl hl (by decide) rfl (fun ls hl => ?_)
      refine lv_iinc (v := nI (i + 1)) (lv' := [(3, .int (nI (i + 1))), (1, .long ((31 * hv) + ((fCount g (nI i)).toInt64))), (0, .ref (am 0))]) hx hb dX5_digest_34 hl (k := 1) rfl (nI_1 _) (by decide) rfl (fun ls hl => ?_)
      refine lv_goto (tgt := 6) hx hb dX5_digest_37 (by decide) ?_
      exact ihz_1 (i + 1, (31 * hv) + ((fCount g (nI i)).toInt64)) (show (i + 1) ≤ 8 ∧ ((31 * hv) + ((fCount g (nI i)).toInt64)) = mdC g (i + 1) from ⟨hlt, by rw [mdC, if_neg c_14, hIz_1.2]⟩) (show 8 - (i + 1) < 8 - i from (by omega)) _ _ _ hP hD hS (lv_sub hl [0, 1, 2] rfl)
    · refine lv_lload_n hx hb dX5_digest_17 rfl (lv_at hl 1 rfl) ?_
      refine lv_goto (tgt := 33) hx hb dX5_digest_18 (by decide) ?_
      refine lv_lstore_n (lv' := [(1, .long hv), (3, .int (nI i)), (0, .ref (am 0))]) hx hb dX5_digest_33 rfl hl (by decide) rfl (fun ls hl => ?_)
      refine lv_iinc (v := nI (i + 1)) (lv' := [(3, .int (nI (i + 1))), (1, .long hv), (0, .ref (am 0))]) hx hb dX5_digest_34 hl (k := 1) rfl (nI_1 _) (by decide) rfl (fun ls hl => ?_)
      refine lv_goto (tgt := 6) hx hb dX5_digest_37 (by decide) ?_
      exact ihz_1 (i + 1, hv) (show (i + 1) ≤ 8 ∧ hv = mdC g (i + 1) from ⟨hlt, by rw [mdC, if_pos c_14, hIz_1.2]⟩) (show 8 - (i + 1) < 8 - i from (by omega)) _ _ _ hP hD hS (lv_sub hl [0, 1, 2] rfl)
