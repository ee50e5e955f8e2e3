/-! what every call keeps -/
theorem WI_cg {g g' : Nat → Nat → Int32} (hI : WI g) (h : ∀ r, r < 6 → g' r = g r) (hn : ∀ c, c < 8 → c ≠ 6 → g' 100 c = g 100 c) : WI g' := by
  unfold WI
  rw [h 0 (by decide), h 1 (by decide), h 2 (by decide), h 3 (by decide), h 4 (by decide), h 5 (by decide), hn 0 (by decide) (by decide), hn 1 (by decide) (by decide), hn 2 (by decide) (by decide), hn 3 (by decide) (by decide), hn 4 (by decide) (by decide), hn 5 (by decide) (by decide), hn 7 (by decide) (by decide)]
  exact hI
theorem WI_6 {g : Nat → Nat → Int32} (hI : WI g) (x : Int32) : WI (up2 g 100 6 x) := by
  obtain ⟨h1, h2, h3, h4, h5, h6, h7, h8, h9, h10⟩ := hI
  exact ⟨h1, h2, h3, h4, h5, h6, h7, h8, h9, h10⟩
theorem le35 {h : Int32} (a : h ≤ 35) : h < 36 := by
  rw [Int32.lt_iff_toInt_lt]
  have b := Int32.le_iff_toInt_le.mp a
  have z : (35 : Int32).toInt = 35 := rfl
  have z2 : (36 : Int32).toInt = 36 := rfl
  omega
theorem WI_rl {g : Nat → Nat → Int32} (hI : WI g) {R : Nat} {f n : Int32} (hf : -1 ≤ f ∧ f ≤ 2) (hn : 0 ≤ n ∧ n ≤ 200) (hfn : f < 0 → n = 0) : WI (up2 (up2 g 4 R f) 5 R n) := by
  obtain ⟨h1, h2, h3, h4, h5, h6, h7, h8, h9, h10⟩ := hI
  refine ⟨fun r hr => ?_, h2, h3, h4, h5, h6, h7, h8, h9, fun r hr => ?_⟩
  · by_cases e : r = R
    · subst e
      rw [up2_s]
      exact hn
    · rw [up2_n _ _ (Or.inr e), up2_n _ _ (Or.inl (by decide))]
      exact h1 r hr
  · by_cases e : r = R
    · subst e
      rw [up2_s, up2_n _ _ (Or.inl (by decide)), up2_s]
      exact ⟨hf, hfn⟩
    · rw [up2_n _ _ (Or.inl (by decide)), up2_n _ _ (Or.inr e), up2_n _ _ (Or.inr e), up2_n _ _ (Or.inl (by decide))]
      exact h10 r hr
theorem WI_row {g : Nat → Nat → Int32} (hI : WI g) {R : Nat} (hR : R < 8) (F : Nat → Int32) : WI (va_up g (10 + R) F) :=
  WI_cg hI (fun r hr => va_up_ne _ _ (by omega)) (fun c _ _ => congrFun (va_up_ne _ _ (by omega)) c)
theorem WI_reel {g : Nat → Nat → Int32} (hI : WI g) (r f n : Int32) : WI (gReel g r f n) := by
  unfold gReel
  by_cases h : isR r ∧ isF f ∧ n ≤ 200
  · rw [if_pos h]
    by_cases h2 : n < 0
    · rw [if_pos h2]; exact WI_6 hI _
    · rw [if_neg h2]
      have hR := rc h.1
      have f0 : ¬ f < 0 := Int32.not_lt.mpr h.2.1.1
      exact WI_row (WI_rl hI (R := rn r) ⟨Int32.le_trans (by decide) h.2.1.1, h.2.1.2⟩ ⟨Int32.not_lt.mp h2, h.2.2⟩ (fun z => absurd z f0)) hR _
  · rw [if_neg h]; exact hI
theorem WI_lose {g : Nat → Nat → Int32} (hI : WI g) (r : Int32) : WI (gLose g r) := by
  unfold gLose
  by_cases h : isR r
  · rw [if_pos h]
    by_cases h2 : g 4 (rn r) = -1
    · rw [if_pos h2]; exact WI_6 hI _
    · rw [if_neg h2]
      exact WI_rl hI (by decide) (by decide) (fun _ => rfl)
  · rw [if_neg h]; exact hI
theorem up2_va {g : Nat → Nat → Int32} (a b : Nat) (v : Int32) : up2 g a b v = va_up g a (upd (g a) b v) := by
  funext x y
  unfold up2 va_up upd
  by_cases h : x = a
  · subst h
    rw [if_pos rfl, if_pos rfl]
  · rw [if_neg h, if_neg h]
theorem WI_put {g : Nat → Nat → Int32} (hI : WI g) (r f i v : Int32) : WI (gPut g r f i v) := by
  unfold gPut
  by_cases h : isR r ∧ isF f
  · rw [if_pos h]
    by_cases h2 : fnd g (rn r) f i = 0
    · rw [if_pos h2, up2_va]; exact WI_row hI (rc h.1) _
    · rw [if_neg h2]; exact WI_6 hI _
  · rw [if_neg h]; exact hI
theorem WI_get {g : Nat → Nat → Int32} (hI : WI g) (r f i : Int32) : WI (gGet g r f i) := by
  unfold gGet
  by_cases h : isR r ∧ isF f ∧ ¬ fnd g (rn r) f i = 0
  · rw [if_pos h]; exact WI_6 hI _
  · rw [if_neg h]; exact hI
theorem WI_copy {g : Nat → Nat → Int32} (hI : WI g) (r i q j n : Int32) : WI (gCopy g r i q j n) := by
  unfold gCopy
  by_cases h : isR r ∧ isR q
  · rw [if_pos h]
    by_cases h2 : kCopy g r i q j n = 0
    · rw [if_pos h2]; exact WI_row hI (rc h.2) _
    · rw [if_neg h2]; exact WI_6 hI _
  · rw [if_neg h]; exact hI
theorem WI_cells {g : Nat → Nat → Int32} (hI : WI g) (n : Int32) : WI (gCells g n) := by
  unfold gCells
  by_cases h : (1 ≤ n ∧ n ≤ 16) ∧ ¬ 0 < g 100 7
  · rw [if_pos h]
    obtain ⟨h1, h2, h3, h4, h5, h6, h7, h8, h9, h10⟩ := hI
    exact ⟨h1, h2, h.1, h4, h5, h6, h7, h8, h9, h10⟩
  · rw [if_neg h]; exact hI
theorem WI_ping {g : Nat → Nat → Int32} (hI : WI g) (h x y w : Int32) : WI (gPing g h x y w) := by
  unfold gPing
  by_cases hc : pgOk h x y w ∧ ¬ 40 ≤ g 100 7
  · rw [if_pos hc]
    obtain ⟨h1, h2, h3, h4, h5, h6, h7, h8, h9, h10⟩ := hI
    obtain ⟨N, hN, e⟩ := nI_of (Int32.not_lt.mpr h2.1)
    have hN40 : N < 40 := by
      have z := hc.2
      rw [e] at z
      exact Nat.not_le.mp (fun q => z (nI_le (a := 40) q hN))
    have eN : rn (g 100 7) = N := by rw [e]; exact nI_clamp hN
    rw [eN, e, nI_1]
    refine ⟨h1, ⟨nI_pos' (by omega), nI_le (b := 40) (by omega) (by decide)⟩, h3, h4, h5, h6, h7, h8, fun q hq hq4 => ?_, h10⟩
    have hq : q < N + 1 := (nI_ltI (by omega) (by omega)).mp hq
    show (0 ≤ up2 g 0 N h 0 q ∧ up2 g 0 N h 0 q < 36) ∧ (-1000000 ≤ up2 g 1 N x 1 q ∧ up2 g 1 N x 1 q ≤ 1000000) ∧ (-1000000 ≤ up2 g 2 N y 2 q ∧ up2 g 2 N y 2 q ≤ 1000000) ∧ 0 ≤ up2 g 3 N w 3 q ∧ up2 g 3 N w 3 q ≤ 16
    by_cases eq : q = N
    · subst eq
      rw [up2_s, up2_s, up2_s, up2_s]
      exact ⟨⟨hc.1.1.1, le35 hc.1.1.2⟩, hc.1.2⟩
    · rw [up2_n _ _ (Or.inr eq), up2_n _ _ (Or.inr eq), up2_n _ _ (Or.inr eq), up2_n _ _ (Or.inr eq)]
      exact h9 q (by rw [e]; exact nI_lt (by omega) (by omega)) hq4
  · rw [if_neg hc]; exact hI
theorem WI_mend {g : Nat → Nat → Int32} (hI : WI g) (p h : Int32) : WI (gMend g p h) := by
  unfold gMend
  by_cases hc : (0 ≤ h ∧ h ≤ 35) ∧ isP g p
  · rw [if_pos hc]
    obtain ⟨h1, h2, h3, h4, h5, h6, h7, h8, h9, h10⟩ := hI
    refine ⟨h1, h2, h3, h4, h5, h6, h7, h8, fun q hq hq4 => ?_, h10⟩
    have z := h9 q hq hq4
    show (0 ≤ up2 g 0 (rn p) h 0 q ∧ up2 g 0 (rn p) h 0 q < 36) ∧ (-1000000 ≤ g 1 q ∧ g 1 q ≤ 1000000) ∧ (-1000000 ≤ g 2 q ∧ g 2 q ≤ 1000000) ∧ 0 ≤ g 3 q ∧ g 3 q ≤ 16
    refine ⟨?_, z.2⟩
    by_cases eq : q = rn p
    · subst eq
      rw [up2_s]
      exact ⟨hc.1.1, le35 hc.1.2⟩
    · rw [up2_n _ _ (Or.inr eq)]
      exact z.1
  · rw [if_neg hc]; exact hI
theorem WI_clear {g : Nat → Nat → Int32} (hI : WI g) : WI (up2 g 100 7 0) := by
  obtain ⟨h1, h2, h3, h4, h5, h6, h7, h8, h9, h10⟩ := hI
  exact ⟨h1, (show (0 : Int32) ≤ 0 ∧ (0 : Int32) ≤ 40 by decide), h3, h4, h5, h6, h7, h8, fun q hq hq4 => absurd (show nI q < 0 from hq) (nI_pos (by omega)), h10⟩
theorem WI_motion {g : Nat → Nat → Int32} (hI : WI g) (h : Int32) : WI (gMotion g h) := by
  unfold gMotion
  by_cases hc : 0 ≤ h ∧ h ≤ 2
  · rw [if_pos hc]
    obtain ⟨h1, h2, h3, h4, h5, h6, h7, h8, h9, h10⟩ := hI
    exact ⟨h1, h2, h3, hc, h5, h6, h7, h8, h9, h10⟩
  · rw [if_neg hc]; exact hI
theorem WI_skew {g : Nat → Nat → Int32} (hI : WI g) (h : Int32) : WI (gSkew g h) := by
  unfold gSkew
  by_cases hc : 0 ≤ h ∧ h ≤ 35
  · rw [if_pos hc]; exact WI_sk hI ⟨hc.1, le35 hc.2⟩
  · rw [if_neg hc]; exact hI
theorem WI_laws {g : Nat → Nat → Int32} (hI : WI g) (e t w : Int32) (ht : t = 0 ∨ t = 1) : WI (gLaws g e t w) := by
  unfold gLaws
  by_cases hc : (0 ≤ e ∧ e ≤ 16) ∧ 0 ≤ w ∧ w ≤ 100000
  · rw [if_pos hc]
    obtain ⟨h1, h2, h3, h4, h5, h6, h7, h8, h9, h10⟩ := hI
    exact ⟨h1, h2, h3, h4, h5, hc.1, ht, hc.2, h9, h10⟩
  · rw [if_neg hc]; exact hI
theorem WI_g0 : WI g0 := by
  refine ⟨by decide, by decide, by decide, by decide, by decide, by decide, by decide, by decide, fun q hq hq4 => ?_, by decide⟩
  exact absurd (show nI q < 0 from hq) (nI_pos (by omega))
theorem RM_g0 : RM g0 (fun _ => 0) (fun _ => 0) := by
  intro r hr
  refine ⟨fun i hi => ?_, fun _ => rfl, (show (0 : Int32) ≤ 0 by decide), (show (0 : Int32) ≤ 200 by decide)⟩
  show (0 : Int32) = g0 (10 + r) i
  unfold g0
  rw [if_neg (by omega), if_neg (by omega)]
