set_option maxHeartbeats 4000000 in
set_option maxRecDepth 100000 in
/-- from the entry, for every script of at most 3072 ints, the law comes to its end with true -/
theorem whole_start {p : Program} {e : Env} {s : State} {m : MethodId} {below : List Frame} {meth : Method} {c : Code} (l : Launch) {b L : Nat} {xs : Nat → Int32} (hL : L ≤ 3072) (C0 : lw_At p s m meth c b L xs) : W p l e room_1 s m #[Value.ref b] below meth c s.heap [] 0 0 (lw_Z below #[Value.ref b] s) (entryFrame m ([Value.ref b] : List Value).toArray 4) := by
  obtain ⟨hx, hb, hr, hml, hown, hts0, hX, hbl, hlocks, hgv⟩ := id C0
  have hb : c.code = cL_law := hb
  have hown : s.vm.findClass RL = some m.cls := hown
  have hts : ∀ w ∈ wsL_law, w.before #[Value.ref b] s = true := fun w h => hts0 w (wsL_law_in w h)
  have hA : ∀ q : Nat, s.heap.size ≤ q → (fun q : Nat => s.heap.size ≤ q) q := fun _ h => h
  have hN := lw_nS hts0
  obtain ⟨tt, hZ⟩ := lw_zS hts0 hgv
  obtain ⟨D, cI, cO, hK⟩ := lw_K hts0
  have hO : va_AO RX2 s := va_AO.of (hts0 (.arrayOver (.object RX2)) (lw_mem _ (List.mem_of_getElem? (i := 15) rfl)))
  have hS : va_S (fun q : Nat => s.heap.size ≤ q) s.heap s.heap [] := va_S.rf
  have hP : va_P D vwCl [] s.heap := fun k q h => by simp at h
  have hD : va_D (fun q : Nat => s.heap.size ≤ q) [] := ⟨fun i j p q h => by simp at h, fun k q h => by simp at h⟩
  have hl := lv_entry ([.ref b]) (n := 4) (Nat.le_of_ble_eq_true rfl)
  rw [lg_entry_eq]
  generalize (lg_sl ([.ref b]) ++ List.replicate (4 - (lg_sl ([.ref b])).length) Slot.unset).toArray = ls at hl ⊢
  have hl : lv_has ls 4 [(0, .ref b)] := hl
  refine va_new (ci := 4) (fs := [.null, .null, .null, .null, .null, .null, .null, .int 0, .int 0, .int 0, .int 0, .int 0, .int 0, .int 0]) (C := RX4) (T := TX4) (N := 14) hx hb hts0 inX4 tyX4 tyX4_ok hown (hts0 (.classLink RL 7 RX4) (lw_mem _ (List.mem_of_getElem? (i := 6) rfl))) (hts0 (.instantiable RX4 14) (lw_mem _ (List.mem_of_getElem? (i := 4) rfl))) (hts0 (.initialized RX4) (lw_mem _ (List.mem_of_getElem? (i := 7) rfl))) hK hP hD hS hA rfl dfX4 (Nat.le_of_ble_eq_true rfl) (Nat.le_of_ble_eq_true rfl) dL_law_0 (fun q0 H hP hD hS => ?_)
  have hP : va_P D vwCl [(q0, .inr (4, [.null, .null, .null, .null, .null, .null, .null, .int 0, .int 0, .int 0, .int 0, .int 0, .int 0, .int 0]))] H := hP
  have hD : va_D (fun q : Nat => s.heap.size ≤ q) [(q0, .inr (4, [.null, .null, .null, .null, .null, .null, .null, .int 0, .int 0, .int 0, .int 0, .int 0, .int 0, .int 0]))] := hD
  refine W.widen (k := 1) (n := 14) (by decide) (by decide) ?_
  refine lv_dup hx hb dL_law_3 rfl ?_
  refine mkc (wc := [(q0, .inr (4, [.null, .null, .null, .null, .null, .null, .null, .int 0, .int 0, .int 0, .int 0, .int 0, .int 0, .int 0]))]) (wr := []) (wf := fun u : Nat → Nat => LW u cI cO g0 (fun _ => 0) (fun _ _ => 0) []) (va_runI (As := []) (rest := [.ref q0]) ⟨hx, hb, hml, hown, hts⟩ (kX4_init l D cI cO q0 H.size) (cwI 0 hts gL_law_X4_init rfl rfl rfl (hts0 (.initialized RX4) (lw_mem _ (List.mem_of_getElem? (i := 7) rfl))) (hts0 (.methodLink RL 9 yX4_init) (lw_mem _ (List.mem_of_getElem? (i := 10) rfl))) (hts0 (.instanceMethod yX4_init) (lw_mem _ (List.mem_of_getElem? (i := 11) rfl))) rfl (by decide +kernel) ⟨(Nat.le_of_ble_eq_true rfl), (Nat.le_of_ble_eq_true rfl)⟩) (kwS hK hO hN hP hD) rfl rfl hl.1 rfl (lv_room (Nat.le_of_ble_eq_true rfl)) dL_law_4 ⟨(Nat.le_of_ble_eq_true rfl), (Nat.le_of_ble_eq_true rfl)⟩) hP hD hS hA [0] [] rfl rfl (by decide) (by decide) (fun ad H locs ead hP hD hS => ?_)
  have hP : va_P D vwCl (LW ad cI cO g0 (fun _ => 0) (fun _ _ => 0) []) H := hP
  have hD : va_D (fun q : Nat => s.heap.size ≤ q) (LW ad cI cO g0 (fun _ => 0) (fun _ _ => 0) []) := hD
  have ead : ad 0 = q0 := ead
  refine W.widen (k := 28) (n := 1832) (by decide) (by decide) ?_
  refine lv_astore_n (lv' := [(1, .ref q0), (0, .ref b)]) hx hb dL_law_7 rfl hl (by decide) rfl (fun ls hl => ?_)
  have hl : lv_has ls 4 [(1, .ref (ad 0)), (0, .ref b)] := by rw [ead]; exact hl
  refine va_new (ci := 5) (fs := [.null, .null, .null, .null, .null, .null, .int 0, .int 0, .int 0, .null, .null, .null, .null, .long 0, .long 0, .int 0, .int 0, .int 0, .int 0, .int 0, .int 0, .int 0, .int 0, .int 0, .long 0, .long 0, .long 0, .long 0, .long 0, .long 0, .long 0]) (C := RX5) (T := TX5) (N := 31) hx hb hts0 inX5 tyX5 tyX5_ok hown (hts0 (.classLink RL 10 RX5) (lw_mem _ (List.mem_of_getElem? (i := 8) rfl))) (hts0 (.instantiable RX5 31) (lw_mem _ (List.mem_of_getElem? (i := 5) rfl))) (hts0 (.initialized RX5) (lw_mem _ (List.mem_of_getElem? (i := 9) rfl))) hK hP hD hS hA rfl dfX5 (Nat.le_of_ble_eq_true rfl) (Nat.le_of_ble_eq_true rfl) dL_law_8 (fun q1 H hP hD hS => ?_)
  have hP : va_P D vwCl (LW ad cI cO g0 (fun _ => 0) (fun _ _ => 0) [(q1, .inr (5, [.null, .null, .null, .null, .null, .null, .int 0, .int 0, .int 0, .null, .null, .null, .null, .long 0, .long 0, .int 0, .int 0, .int 0, .int 0, .int 0, .int 0, .int 0, .int 0, .int 0, .long 0, .long 0, .long 0, .long 0, .long 0, .long 0, .long 0]))]) H := hP
  have hD : va_D (fun q : Nat => s.heap.size ≤ q) (LW ad cI cO g0 (fun _ => 0) (fun _ _ => 0) [(q1, .inr (5, [.null, .null, .null, .null, .null, .null, .int 0, .int 0, .int 0, .null, .null, .null, .null, .long 0, .long 0, .int 0, .int 0, .int 0, .int 0, .int 0, .int 0, .int 0, .int 0, .int 0, .long 0, .long 0, .long 0, .long 0, .long 0, .long 0, .long 0]))]) := hD
  refine W.widen (k := 29) (n := 1863) (by decide) (by decide) ?_
  refine lv_dup hx hb dL_law_11 rfl ?_
  have hPc := hP.sub (ws' := [(q1, .inr (5, [.null, .null, .null, .null, .null, .null, .int 0, .int 0, .int 0, .null, .null, .null, .null, .long 0, .long 0, .int 0, .int 0, .int 0, .int 0, .int 0, .int 0, .int 0, .int 0, .int 0, .long 0, .long 0, .long 0, .long 0, .long 0, .long 0, .long 0]))]) [28] rfl
  have hDc := hD.sub (ws' := [(q1, .inr (5, [.null, .null, .null, .null, .null, .null, .int 0, .int 0, .int 0, .null, .null, .null, .null, .long 0, .long 0, .int 0, .int 0, .int 0, .int 0, .int 0, .int 0, .int 0, .int 0, .int 0, .long 0, .long 0, .long 0, .long 0, .long 0, .long 0, .long 0]))]) [28] (by decide) rfl
  refine mkc (wc := [(q1, .inr (5, [.null, .null, .null, .null, .null, .null, .int 0, .int 0, .int 0, .null, .null, .null, .null, .long 0, .long 0, .int 0, .int 0, .int 0, .int 0, .int 0, .int 0, .int 0, .int 0, .int 0, .long 0, .long 0, .long 0, .long 0, .long 0, .long 0, .long 0]))]) (wr := LW ad cI cO g0 (fun _ => 0) (fun _ _ => 0) []) (wf := fun u : Nat → Nat => MW u cI g0 (fun _ => 0) (fun _ => 0) (fun _ => 0) (fun _ => 0) (fun _ => 0) []) (va_runI (As := []) (rest := [.ref q1]) ⟨hx, hb, hml, hown, hts⟩ (kX5_init l D cI cO q1 H.size) (cwI 0 hts gL_law_X5_init rfl rfl rfl (hts0 (.initialized RX5) (lw_mem _ (List.mem_of_getElem? (i := 9) rfl))) (hts0 (.methodLink RL 12 yX5_init) (lw_mem _ (List.mem_of_getElem? (i := 12) rfl))) (hts0 (.instanceMethod yX5_init) (lw_mem _ (List.mem_of_getElem? (i := 13) rfl))) rfl (by decide +kernel) ⟨(Nat.le_of_ble_eq_true rfl), (Nat.le_of_ble_eq_true rfl)⟩) (kwS hK hO hN hPc hDc) rfl rfl hl.1 rfl (lv_room (Nat.le_of_ble_eq_true rfl)) dL_law_12 ⟨(Nat.le_of_ble_eq_true rfl), (Nat.le_of_ble_eq_true rfl)⟩) hP hD hS hA [28] [0, 1, 2, 3, 4, 5, 6, 7, 8, 9, 10, 11, 12, 13, 14, 15, 16, 17, 18, 19, 20, 21, 22, 23, 24, 25, 26, 27] rfl rfl (by decide) (by decide) (fun am H locs eam hP hD hS => ?_)
  have hP : va_P D vwCl (LW ad cI cO g0 (fun _ => 0) (fun _ _ => 0) (MW am cI g0 (fun _ => 0) (fun _ => 0) (fun _ => 0) (fun _ => 0) (fun _ => 0) [])) H := hP
  have hD : va_D (fun q : Nat => s.heap.size ≤ q) (LW ad cI cO g0 (fun _ => 0) (fun _ _ => 0) (MW am cI g0 (fun _ => 0) (fun _ => 0) (fun _ => 0) (fun _ => 0) (fun _ => 0) [])) := hD
  have eam : am 0 = q1 := eam
  refine W.widen (k := 39) (n := 3857) (by decide) (by decide) ?_
  refine lv_astore_n (lv' := [(2, .ref q1), (1, .ref (ad 0)), (0, .ref b)]) hx hb dL_law_15 rfl hl (by decide) rfl (fun ls hl => ?_)
  have hl : lv_has ls 4 [(2, .ref (am 0)), (1, .ref (ad 0)), (0, .ref b)] := by rw [eam]; exact hl
  refine lv_iconst (v := 0) hx hb dL_law_16 (by decide) ?_
  refine tpI (y := nI 0) nI_0.symm ?_
  refine lv_istore_n (lv' := [(3, .int (nI 0)), (2, .ref (am 0)), (1, .ref (ad 0)), (0, .ref b)]) hx hb dL_law_17 rfl hl (by decide) rfl (fun ls hl => ?_)
  exact law_loop C0 hL hK hZ hN (L + 7) 0 (Nat.zero_le _) (by omega) g0 _ _ _ _ _ _ _ WI_g0 RM_g0 _ _ _ hP hD hS (lv_sub hl [0, 3, 2, 1] rfl)
