/-- the law's loop -/
theorem lw_gt {i L : Nat} (hi : i < 2 ^ 30) (hL : L ≤ 3072) : nI L - 6 < nI i ↔ L < i + 6 := by
  rw [Int32.lt_iff_toInt_lt, Int32.toInt_sub, nI_toInt (by omega), nI_toInt (by omega)]
  have z : (6 : Int32).toInt = 6 := rfl
  have e : ((L : Int) - 6).bmod (2 ^ 32) = (L : Int) - 6 := by
    apply Int.bmod_eq_of_le <;> omega
  rw [z, e]
  omega
set_option maxHeartbeats 4000000 in
set_option maxRecDepth 100000 in
theorem law_loop {p : Program} {l : Launch} {e : Env} {s : State} {m : MethodId} {bb L : Nat} {below : List Frame} {meth : Method} {c : Code} {xs : Nat → Int32} {D : va_G} {ad am : Nat → Nat} {cI cO : ClassId} {tt : Nat} (C0 : lw_At p s m meth c bb L xs) (hL : L ≤ 3072) (hK : va_K D vwCl (tL cI cO) s) (hZ : zS tt (fun q : Nat => s.heap.size ≤ q) s s.heap) (hN : nS s) : ∀ (n i : Nat), i ≤ L + 6 → L + 7 ≤ i + n → LG p l e s m bb below meth c D ad am cI cO i 18 := by
  obtain ⟨hx, hb, hr, hml, hown, hts0, hX, hbl, hlocks, hgv⟩ := id C0
  have hb : c.code = cL_law := hb
  have hA : ∀ q : Nat, s.heap.size ≤ q → (fun q : Nat => s.heap.size ≤ q) q := fun _ h => h
  have hbA : ¬ (fun q : Nat => s.heap.size ≤ q) bb := Nat.not_le.mpr hbl
  intro n
  induction n with
  | zero =>
    intro i h1 h2
    exact absurd h2 (by omega)
  | succ n ih =>
    intro i h1 h2
    intro g b d y zz j f v hI hM H locs ls hP hD hS hl
    refine lv_iload_n hx hb dL_law_18 rfl (lv_at hl 0 rfl) ?_
    refine lv_aload_n hx hb dL_law_19 rfl (lv_at hl 1 rfl) ?_
    refine va_slen hx hb hX hbl hbA hS dL_law_20 ?_
    refine tpI (y := nI L) rfl ?_
    refine lv_bipush (v := 6) hx hb dL_law_21 (by decide) ?_
    refine lv_isub hx hb dL_law_23 ?_
    refine lv_icmp_gt (tgt := 1255) hx hb dL_law_24 (by decide) (fun c_1 => ?_) (fun c_1 => ?_)
    · refine lv_iconst (v := 1) hx hb dL_law_1255 (by decide) ?_
      refine va_forget (fun q hq => hS.2.2 q hq) ?_
      refine W.widen (k := 600000) (n := 7302250) (by decide) (by decide) ?_
      exact lw_ret hx hb hr hlocks dL_law_1256
    · have hi : i + 6 ≤ L := Nat.not_lt.mp (fun q => c_1 ((lw_gt (by omega) hL).mpr q))
      have C : LX p s m meth c bb L xs D cI cO tt i := ⟨C0, hK, hZ, hN, hi, hL⟩
      have kk : LG p l e s m bb below meth c D ad am cI cO i 1249 := by
        intro g b d y zz j f v hI hM H locs ls hP hD hS hl
        refine lv_iinc (v := nI (i + 6)) (lv' := [(3, .int (nI (i + 6))), (0, .ref bb), (1, .ref (ad 0)), (2, .ref (am 0))]) hx hb dL_law_1249 hl (k := 0) rfl (nI_add i 6) (by decide) rfl (fun ls hl => ?_)
        refine lv_goto (tgt := 18) hx hb dL_law_1252 (by decide) ?_
        exact ih (i + 6) (by omega) (by omega) g b d y zz j f v hI hM _ _ _ hP hD hS hl
      refine lv_aload_n hx hb dL_law_27 rfl (lv_at hl 1 rfl) ?_
      refine lv_iload_n hx hb dL_law_28 rfl (lv_at hl 0 rfl) ?_
      refine va_sld hx hb hX hbl hbA hS (vp_in_nI (show i < L by omega) (by omega)) dL_law_29 ?_
      refine lv_bipush (v := 31) hx hb dL_law_30 (by decide) ?_
      refine lv_iand hx hb dL_law_32 ?_
      obtain ⟨q, hq, eq⟩ := pk_andE (xs (nI i).toNatClampNeg) (m := 31) 5 rfl
      refine tpI eq ?_
      rcases (show q = 0 ∨ q = 1 ∨ q = 2 ∨ q = 3 ∨ q = 4 ∨ q = 5 ∨ q = 6 ∨ q = 7 ∨ q = 8 ∨ q = 9 ∨ q = 10 ∨ q = 11 ∨ q = 12 ∨ q = 13 ∨ q = 14 ∨ q = 15 ∨ q = 16 ∨ q = 17 ∨ q = 18 ∨ q = 19 ∨ q = 20 ∨ q = 21 ∨ q = 22 ∨ q = 23 ∨ q = 24 ∨ q = 25 ∨ q = 26 ∨ 27 ≤ q by omega) with rfl | rfl | rfl | rfl | rfl | rfl | rfl | rfl | rfl | rfl | rfl | rfl | rfl | rfl | rfl | rfl | rfl | rfl | rfl | rfl | rfl | rfl | rfl | rfl | rfl | rfl | rfl | hq2
      · refine lv_tableIn (tgt := 156) hx hb dL_law_33 (by decide) (by decide) rfl (by decide) ?_
        exact lc_0 C kk g b d y zz j f v hI hM _ _ _ hP hD hS hl
      · refine lv_tableIn (tgt := 199) hx hb dL_law_33 (by decide) (by decide) rfl (by decide) ?_
        exact lc_1 C kk g b d y zz j f v hI hM _ _ _ hP hD hS hl
      · refine lv_tableIn (tgt := 222) hx hb dL_law_33 (by decide) (by decide) rfl (by decide) ?_
        exact lc_2 C kk g b d y zz j f v hI hM _ _ _ hP hD hS hl
      · refine lv_tableIn (tgt := 275) hx hb dL_law_33 (by decide) (by decide) rfl (by decide) ?_
        exact lc_3 C kk g b d y zz j f v hI hM _ _ _ hP hD hS hl
      · refine lv_tableIn (tgt := 318) hx hb dL_law_33 (by decide) (by decide) rfl (by decide) ?_
        exact lc_4 C kk g b d y zz j f v hI hM _ _ _ hP hD hS hl
      · refine lv_tableIn (tgt := 381) hx hb dL_law_33 (by decide) (by decide) rfl (by decide) ?_
        exact lc_5 C kk g b d y zz j f v hI hM _ _ _ hP hD hS hl
      · refine lv_tableIn (tgt := 404) hx hb dL_law_33 (by decide) (by decide) rfl (by decide) ?_
        exact lc_6 C kk g b d y zz j f v hI hM _ _ _ hP hD hS hl
      · refine lv_tableIn (tgt := 457) hx hb dL_law_33 (by decide) (by decide) rfl (by decide) ?_
        exact lc_7 C kk g b d y zz j f v hI hM _ _ _ hP hD hS hl
      · refine lv_tableIn (tgt := 490) hx hb dL_law_33 (by decide) (by decide) rfl (by decide) ?_
        exact lc_8 C kk g b d y zz j f v hI hM _ _ _ hP hD hS hl
      · refine lv_tableIn (tgt := 503) hx hb dL_law_33 (by decide) (by decide) rfl (by decide) ?_
        exact lc_9 C kk g b d y zz j f v hI hM _ _ _ hP hD hS hl
      · refine lv_tableIn (tgt := 536) hx hb dL_law_33 (by decide) (by decide) rfl (by decide) ?_
        exact lc_10 C kk g b d y zz j f v hI hM _ _ _ hP hD hS hl
      · refine lv_tableIn (tgt := 570) hx hb dL_law_33 (by decide) (by decide) rfl (by decide) ?_
        exact lc_11 C kk g b d y zz j f v hI hM _ _ _ hP hD hS hl
      · refine lv_tableIn (tgt := 593) hx hb dL_law_33 (by decide) (by decide) rfl (by decide) ?_
        exact lc_12 C kk g b d y zz j f v hI hM _ _ _ hP hD hS hl
      · refine lv_tableIn (tgt := 616) hx hb dL_law_33 (by decide) (by decide) rfl (by decide) ?_
        exact lc_13 C kk g b d y zz j f v hI hM _ _ _ hP hD hS hl
      · refine lv_tableIn (tgt := 675) hx hb dL_law_33 (by decide) (by decide) rfl (by decide) ?_
        exact lc_14 C kk g b d y zz j f v hI hM _ _ _ hP hD hS hl
      · refine lv_tableIn (tgt := 738) hx hb dL_law_33 (by decide) (by decide) rfl (by decide) ?_
        exact lc_15 C kk g b d y zz j f v hI hM _ _ _ hP hD hS hl
      · refine lv_tableIn (tgt := 801) hx hb dL_law_33 (by decide) (by decide) rfl (by decide) ?_
        exact lc_16 C kk g b d y zz j f v hI hM _ _ _ hP hD hS hl
      · refine lv_tableIn (tgt := 854) hx hb dL_law_33 (by decide) (by decide) rfl (by decide) ?_
        exact lc_17 C kk g b d y zz j f v hI hM _ _ _ hP hD hS hl
      · refine lv_tableIn (tgt := 887) hx hb dL_law_33 (by decide) (by decide) rfl (by decide) ?_
        exact lc_18 C kk g b d y zz j f v hI hM _ _ _ hP hD hS hl
      · refine lv_tableIn (tgt := 931) hx hb dL_law_33 (by decide) (by decide) rfl (by decide) ?_
        exact lc_19 C kk g b d y zz j f v hI hM _ _ _ hP hD hS hl
      · refine lv_tableIn (tgt := 954) hx hb dL_law_33 (by decide) (by decide) rfl (by decide) ?_
        exact lc_20 C kk g b d y zz j f v hI hM _ _ _ hP hD hS hl
      · refine lv_tableIn (tgt := 1018) hx hb dL_law_33 (by decide) (by decide) rfl (by decide) ?_
        exact lc_21 C kk g b d y zz j f v hI hM _ _ _ hP hD hS hl
      · refine lv_tableIn (tgt := 1082) hx hb dL_law_33 (by decide) (by decide) rfl (by decide) ?_
        exact lc_22 C kk g b d y zz j f v hI hM _ _ _ hP hD hS hl
      · refine lv_tableIn (tgt := 1126) hx hb dL_law_33 (by decide) (by decide) rfl (by decide) ?_
        exact lc_23 C kk g b d y zz j f v hI hM _ _ _ hP hD hS hl
      · refine lv_tableIn (tgt := 1179) hx hb dL_law_33 (by decide) (by decide) rfl (by decide) ?_
        exact lc_24 C kk g b d y zz j f v hI hM _ _ _ hP hD hS hl
      · refine lv_tableIn (tgt := 1212) hx hb dL_law_33 (by decide) (by decide) rfl (by decide) ?_
        exact lc_25 C kk g b d y zz j f v hI hM _ _ _ hP hD hS hl
      · refine lv_tableIn (tgt := 1235) hx hb dL_law_33 (by decide) (by decide) rfl (by decide) ?_
        exact lc_26 C kk g b d y zz j f v hI hM _ _ _ hP hD hS hl
      · refine lv_tableOut (tgt := 1249) hx hb dL_law_33 (Or.inr (by rw [nI_toInt (by omega)]; omega)) (by decide) ?_
        exact kk g b d y zz j f v hI hM _ _ _ hP hD hS hl
