/-! the tables' words that the law itself uses; statics, nest mates, classes -/
def lw_ws : List Cond := [.instantiable RX0 5, .instantiable RX1 4, .instantiable RX2 3, .instantiable RX3 5, .instantiable RX4 14, .instantiable RX5 31, .classLink RL 7 RX4, .initialized RX4, .classLink RL 10 RX5, .initialized RX5, .methodLink RL 9 yX4_init, .instanceMethod yX4_init, .methodLink RL 12 yX5_init, .instanceMethod yX5_init, .arrayClass .int, .arrayOver (.object RX2), .laysStatic RX4 "C_OF_TURNS" "[I"]
set_option maxRecDepth 20000 in
theorem lw_mem : ∀ w ∈ lw_ws, w ∈ lw_tbl := by decide +kernel
set_option maxRecDepth 20000 in
theorem lw_nF : ∀ q ∈ nsF, Cond.fieldLinkNest RX4 q.1 q.2.1 q.2.2.1 q.2.2.2 RX4 ∈ lw_tbl := by decide +kernel
set_option maxRecDepth 20000 in
theorem lw_nM : ∀ q ∈ nsM, Cond.methodLinkNest q.1 q.2.1 q.2.2 RX4 ∈ lw_tbl := by decide +kernel
abbrev lw_tm : Term := .static RX4 "C_OF_TURNS" "[I"
set_option maxRecDepth 20000 in
theorem lw_el : ∀ j, j < 36 → Cond.eq (.elem lw_tm (.int (Int32.ofNat j))) (.int (ct j)) ∈ flatC (Jvm.Cond.and given_1 narrow_1) := by decide +kernel
theorem lw_nS {s : State} {b : Nat} (hts0 : ∀ w ∈ lw_tbl, w.before #[Value.ref b] s = true) : nS s := ⟨fun q hq => va_Nw.of rfl (hts0 _ (lw_nF q hq)), fun q hq => va_Nw.of rfl (hts0 _ (lw_nM q hq))⟩
theorem lw_zS {s : State} {b : Nat} (hts0 : ∀ w ∈ lw_tbl, w.before #[Value.ref b] s = true) (hgv : (Jvm.Cond.and given_1 narrow_1).before #[Value.ref b] s = true) : ∃ tt : Nat, zS tt (fun q : Nat => s.heap.size ≤ q) s s.heap := by
  have hs := flat_of_before _ hgv
  have harr : (Cond.arrayOf lw_tm .int).before #[Value.ref b] s = true := hs _ (by decide +kernel)
  have hlen : (Cond.eq (.length lw_tm) (.int 36)).before #[Value.ref b] s = true := hs _ (by decide +kernel)
  have hA : ∀ a : Nat, a < s.heap.size → ¬ (fun q : Nat => s.heap.size ≤ q) a := fun a h => Nat.not_le.mpr h
  obtain ⟨tt, h1, h2⟩ := va_Tof (N := 36) (f := fun j => .int (ct j)) (by decide) harr (va_eqt hlen) (fun j hj => va_eqt (hs _ (lw_el j hj))) hA
  exact ⟨tt, va_Zof (hts0 (.laysStatic RX4 "C_OF_TURNS" "[I") (lw_mem _ (List.mem_of_getElem? (i := 16) rfl))) (hts0 (.initialized RX4) (lw_mem _ (List.mem_of_getElem? (i := 7) rfl))) h1 hA, h2⟩
theorem lw_K {s : State} {b : Nat} (hts0 : ∀ w ∈ lw_tbl, w.before #[Value.ref b] s = true) : ∃ (D : va_G) (cI cO : ClassId), va_K D vwCl (tL cI cO) s := by
  obtain ⟨c0, i0, k0⟩ := u_known (C := RX0) (T := TX0) (N := 5) (n := 5) hts0 inX0 (hts0 (.instantiable RX0 5) (lw_mem _ (List.mem_of_getElem? (i := 0) rfl)))
  obtain ⟨c1, i1, k1⟩ := u_known (C := RX1) (T := TX1) (N := 4) (n := 4) hts0 inX1 (hts0 (.instantiable RX1 4) (lw_mem _ (List.mem_of_getElem? (i := 1) rfl)))
  obtain ⟨c2, i2, k2⟩ := u_known (C := RX2) (T := TX2) (N := 3) (n := 3) hts0 inX2 (hts0 (.instantiable RX2 3) (lw_mem _ (List.mem_of_getElem? (i := 2) rfl)))
  obtain ⟨c3, i3, k3⟩ := u_known (C := RX3) (T := TX3) (N := 5) (n := 5) hts0 inX3 (hts0 (.instantiable RX3 5) (lw_mem _ (List.mem_of_getElem? (i := 3) rfl)))
  obtain ⟨c4, i4, k4⟩ := u_known (C := RX4) (T := TX4) (N := 14) (n := 14) hts0 inX4 (hts0 (.instantiable RX4 14) (lw_mem _ (List.mem_of_getElem? (i := 4) rfl)))
  obtain ⟨c5, i5, k5⟩ := u_known (C := RX5) (T := TX5) (N := 31) (n := 31) hts0 inX5 (hts0 (.instantiable RX5 31) (lw_mem _ (List.mem_of_getElem? (i := 5) rfl)))
  obtain ⟨cI, kI, pI, f1, f2, f3⟩ := Cond.arrayClass_spec (hts0 (.arrayClass .int) (lw_mem _ (List.mem_of_getElem? (i := 14) rfl)))
  obtain ⟨pO, cO, kO, o1, o2, o3, o4, o5⟩ := Cond.arrayOver_spec (hts0 (.arrayOver (.object RX2)) (lw_mem _ (List.mem_of_getElem? (i := 15) rfl)))
  refine ⟨(fun k => match k with | 0 => c0 | 1 => c1 | 2 => c2 | 3 => c3 | 4 => c4 | _ => c5, fun k => match k with | 0 => i0 | 1 => i1 | 2 => i2 | 3 => i3 | 4 => i4 | _ => i5), cI, cO, fun k q hq => ?_, fun k q hq => ?_⟩
  · match k, hq with
    | 0, hq => cases hq; exact k0
    | 1, hq => cases hq; exact k1
    | 2, hq => cases hq; exact k2
    | 3, hq => cases hq; exact k3
    | 4, hq => cases hq; exact k4
    | 5, hq => cases hq; exact k5
    | k + 6, hq => cases hq
  · match k, hq with
    | 0, hq => cases hq; exact ⟨fun _ _ => ⟨fun _ h => (by cases h), kI, f2, pI, f3⟩, f1⟩
    | 1, hq => cases hq; exact ⟨fun _ _ => ⟨fun _ h => (by cases h), kO, o3, pO, o4⟩, kO, pO, o3, o4, o1, o5⟩
    | k + 2, hq => cases hq
