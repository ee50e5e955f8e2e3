/-! sums of the reference -/
def cE (g : Nat → Nat → Int32) (p c : Int32) : Int64 := if gdF g p c = 0 then eV g p c else 0
def cF (g : Nat → Nat → Int32) (p c : Int32) : Int64 := if gdF g p c = 0 then nV g p c else 0
def c1_ (g : Nat → Nat → Int32) (p c : Int32) : Int64 := if gdF g p c = 0 then 1 else 0
def bxL (F : Int32 → Int32 → Int64) (P C a n : Nat) : Int64 := sL (fun x => sL (fun y => F (nI (P + x)) (nI (C + y))) n) a
def gaP (g : Nat → Nat → Int32) (P C n i : Nat) (u : Nat → Int64) : Prop := u 6 = bxL (c1_ g) P C i n ∧ u 7 = bxL (cE g) P C i n ∧ u 8 = bxL (cF g) P C i n
def giP (g : Nat → Nat → Int32) (P C n i y : Nat) (u : Nat → Int64) : Prop := u 6 = bxL (c1_ g) P C i n + sL (fun y => c1_ g (nI (P + i)) (nI (C + y))) y ∧ u 7 = bxL (cE g) P C i n + sL (fun y => cE g (nI (P + i)) (nI (C + y))) y ∧ u 8 = bxL (cF g) P C i n + sL (fun y => cF g (nI (P + i)) (nI (C + y))) y
theorem ga_0 {g : Nat → Nat → Int32} {P C n : Nat} {j : Nat → Int64} : gaP g P C n 0 (va_up (va_up (va_up j 6 0) 7 0) 8 0) := ⟨rfl, rfl, rfl⟩
theorem gi_0 {g : Nat → Nat → Int32} {P C n i : Nat} {u : Nat → Int64} (h : gaP g P C n i u) : giP g P C n i 0 u := by
  obtain ⟨h1, h2, h3⟩ := h
  exact ⟨by rw [h1]; simp [sL], by rw [h2]; simp [sL], by rw [h3]; simp [sL]⟩
theorem ga_s {g : Nat → Nat → Int32} {P C n i y : Nat} {u : Nat → Int64} (hy : y = n) (h : giP g P C n i y u) : gaP g P C n (i + 1) u := by
  subst hy
  exact h
theorem gi_no {g : Nat → Nat → Int32} {P C n i y : Nat} {u u2 : Nat → Int64} (h : giP g P C n i y u) (hq : ∀ q, 4 ≤ q → u2 q = u q) (hc : ¬ gdF g (nI (P + i)) (nI (C + y)) = 0) : giP g P C n i (y + 1) u2 := by
  obtain ⟨h1, h2, h3⟩ := h
  refine ⟨?_, ?_, ?_⟩
  · rw [hq 6 (by decide), h1]; simp [sL, c1_, hc]
  · rw [hq 7 (by decide), h2]; simp [sL, cE, hc]
  · rw [hq 8 (by decide), h3]; simp [sL, cF, hc]
theorem gi_yes {g : Nat → Nat → Int32} {P C n i y : Nat} {u u2 u3 : Nat → Int64} {x1 x2 x3 : Int64} (h : giP g P C n i y u) (hq : ∀ q, 4 ≤ q → u2 q = u q) (hf : (oOk g (nI (P + i)) ∧ rLo g 0 (itC g (nI (P + i)) (nI (C + y))) ≤ 1 → u3 4 = eV g (nI (P + i)) (nI (C + y)) ∧ u3 5 = nV g (nI (P + i)) (nI (C + y))) ∧ ∀ q, 6 ≤ q → u3 q = u2 q) (hc : gdF g (nI (P + i)) (nI (C + y)) = 0) (e1 : x1 = u3 6 + 1) (e2 : x2 = va_up u3 6 x1 7 + va_up u3 6 x1 4) (e3 : x3 = va_up (va_up u3 6 x1) 7 x2 8 + va_up (va_up u3 6 x1) 7 x2 5) : giP g P C n i (y + 1) (va_up (va_up (va_up u3 6 x1) 7 x2) 8 x3) := by
  obtain ⟨h1, h2, h3⟩ := h
  obtain ⟨z4, z5⟩ := hf.1 (gd0 hc)
  have e2 : x2 = u3 7 + u3 4 := e2
  have e3 : x3 = u3 8 + u3 5 := e3
  refine ⟨?_, ?_, ?_⟩
  · show x1 = _
    rw [e1, hf.2 6 (by decide), hq 6 (by decide), h1]; simp only [sL, c1_, if_pos hc]; rw [Int64.add_assoc]
  · show x2 = _
    rw [e2, hf.2 7 (by decide), hq 7 (by decide), h2, z4]; simp only [sL, cE, if_pos hc]; rw [Int64.add_assoc]
  · show x3 = _
    rw [e3, hf.2 8 (by decide), hq 8 (by decide), h3, z5]; simp only [sL, cF, if_pos hc]; rw [Int64.add_assoc]
/-- linear -/
theorem xT_add (a b a2 b2 : Int64) (t : Int32) : xT (a + a2) (b + b2) t = xT a b t + xT a2 b2 t := by unfold xT; grind
theorem yT_add (a b a2 b2 : Int64) (t : Int32) : yT (a + a2) (b + b2) t = yT a b t + yT a2 b2 t := by unfold yT; grind
theorem xT_0 (t : Int32) : xT 0 0 t = 0 := by unfold xT; grind
theorem yT_0 (t : Int32) : yT 0 0 t = 0 := by unfold yT; grind
theorem sL_x (f0 f1 f2 : Nat → Int64) (t : Int32) (n : Nat) : sL (fun k => xT (f0 k) (f1 k) t + f2 k) n = xT (sL f0 n) (sL f1 n) t + sL f2 n := by
  induction n with
  | zero => simp [sL, xT_0]
  | succ n ih => simp only [sL, ih, xT_add]; grind
theorem sL_y (f0 f1 f2 : Nat → Int64) (t : Int32) (n : Nat) : sL (fun k => yT (f0 k) (f1 k) t + f2 k) n = yT (sL f0 n) (sL f1 n) t + sL f2 n := by
  induction n with
  | zero => simp [sL, yT_0]
  | succ n ih => simp only [sL, ih, yT_add]; grind
theorem cE_l (g : Nat → Nat → Int32) (p c : Int32) : cE g p c = xT (cd g p c 0) (cd g p c 1) (g 100 2) + cd g p c 2 := by
  unfold cE cd eV
  by_cases h : gdF g p c = 0
  · simp only [if_pos h]
  · simp only [if_neg h, xT_0]; rfl
theorem cF_l (g : Nat → Nat → Int32) (p c : Int32) : cF g p c = yT (cd g p c 0) (cd g p c 1) (g 100 2) + cd g p c 3 := by
  unfold cF cd nV
  by_cases h : gdF g p c = 0
  · simp only [if_pos h]
  · simp only [if_neg h, yT_0]; rfl
theorem bxE_l (g : Nat → Nat → Int32) (P C a n : Nat) : bxL (cE g) P C a n = xT (bxD g P C a n 0) (bxD g P C a n 1) (g 100 2) + bxD g P C a n 2 := by
  unfold bxL bxD
  simp only [cE_l, sL_x]
theorem bxF_l (g : Nat → Nat → Int32) (P C a n : Nat) : bxL (cF g) P C a n = yT (bxD g P C a n 0) (bxD g P C a n 1) (g 100 2) + bxD g P C a n 3 := by
  unfold bxL bxD
  simp only [cF_l, sL_y]
/-- how many: one number in both widths -/
theorem sI_n (F : Nat → Int32) (G : Nat → Int64) (b : Nat) (h : ∀ k, ∃ m, m ≤ b ∧ F k = nI m ∧ G k = lN m) (n : Nat) : ∃ m, m ≤ n * b ∧ sI F n = nI m ∧ sL G n = lN m := by
  induction n with
  | zero => exact ⟨0, by omega, rfl, rfl⟩
  | succ n ih =>
    obtain ⟨m, h1, h2, h3⟩ := ih
    obtain ⟨m2, k1, k2, k3⟩ := h n
    refine ⟨m + m2, ?_, ?_, ?_⟩
    · rw [Nat.succ_mul]; omega
    · show sI F n + F n = _
      rw [h2, k2, nI_add]
    · show sL G n + G n = _
      rw [h3, k3, lN_add]
theorem bxN_n (g : Nat → Nat → Int32) (P C a n : Nat) : ∃ m, m ≤ a * n ∧ bxN g P C a n = nI m ∧ bxL (c1_ g) P C a n = lN m := by
  refine sI_n _ _ n (fun x => ?_) a
  have := sI_n (fun y => cnt g (nI (P + x)) (nI (C + y))) (fun y => c1_ g (nI (P + x)) (nI (C + y))) 1 (fun y => ?_) n
  · rw [Nat.mul_one] at this; exact this
  · unfold cnt c1_ bI
    by_cases h : gdF g (nI (P + x)) (nI (C + y)) = 0
    · exact ⟨1, Nat.le_refl _, by rw [if_pos h]; rfl, by rw [if_pos h]; rfl⟩
    · exact ⟨0, Nat.zero_le _, by rw [if_neg h]; rfl, by rw [if_neg h]; rfl⟩
theorem bxN_l {g : Nat → Nat → Int32} {P C a n : Nat} (h : a * n < 2 ^ 31) : bxL (c1_ g) P C a n = (bxN g P C a n).toInt64 := by
  obtain ⟨m, h1, h2, h3⟩ := bxN_n g P C a n
  rw [h2, h3, nI_l (by omega)]
def gsP (g : Nat → Nat → Int32) (P C a n : Nat) (u : Nat → Int64) : Prop := u 6 = (bxN g P C a n).toInt64 ∧ u 7 = xT (bxD g P C a n 0) (bxD g P C a n 1) (g 100 2) + bxD g P C a n 2 ∧ u 8 = yT (bxD g P C a n 0) (bxD g P C a n 1) (g 100 2) + bxD g P C a n 3
theorem gs_ok {g : Nat → Nat → Int32} {P C a n : Nat} {u : Nat → Int64} (h : gaP g P C n a u) (ha : a ≤ 40) (hn : n ≤ 16) : gsP g P C a n u := by
  obtain ⟨h1, h2, h3⟩ := h
  have z := Nat.mul_le_mul ha hn
  exact ⟨by rw [h1, bxN_l (by omega)], by rw [h2, bxE_l], by rw [h3, bxF_l]⟩
/-- means -/
theorem xneg (x y : Int64) : (x ^^^ y) < 0 ↔ ¬ (x < 0 ↔ y < 0) := by
  have k : ∀ z : Int64, z < 0 ↔ z.toBitVec.msb = true := by
    intro z
    rw [Int64.lt_iff_toInt_lt]
    show z.toBitVec.toInt < 0 ↔ _
    rw [BitVec.msb_eq_toInt]
    simp
  rw [k, k, k, Int64.toBitVec_xor, BitVec.msb_xor]
  cases x.toBitVec.msb <;> cases y.toBitVec.msb <;> simp
theorem tdn {a b : Int} (ha : a ≤ 0) (hb : 0 ≤ b) : a.tdiv b ≤ 0 := by
  have q := Int.tdiv_nonneg (a := -a) (b := b) (by omega) hb
  rw [Int.neg_tdiv] at q
  omega
theorem mean_eq {x m : Int64} (h0 : 0 < m) (h1 : m.toInt < 1000000) : (if x < x / m * m then x / m - 1 else x / m) = fdv x m := by
  have hm := Int64.lt_iff_toInt_lt.mp h0
  have z0 : (0 : Int64).toInt = 0 := rfl
  rw [z0] at hm
  have hx1 := x.toInt_lt
  have hx2 := x.le_toInt
  have hd : (x / m).toInt = x.toInt.tdiv m.toInt := by
    rw [Int64.toInt_div]
    have hl := Int.natAbs_tdiv_le_natAbs x.toInt m.toInt
    by_cases hz : x.toInt = -2 ^ 63 ∧ m.toInt = -1
    · omega
    · have e1 : x.toInt.tdiv m.toInt < 2 ^ 63 := by
        by_cases hs : 0 ≤ x.toInt
        · have := Int.tdiv_le_self (a := x.toInt) m.toInt hs
          omega
        · have := tdn (a := x.toInt) (b := m.toInt) (by omega) (by omega)
          omega
      apply Int.bmod_eq_of_le <;> omega
  have hr := Int.mul_tdiv_add_tmod x.toInt m.toInt
  have hp : (x / m * m).toInt = m.toInt * (x.toInt.tdiv m.toInt) := by
    rw [Int64.toInt_mul, hd, Int.mul_comm]
    by_cases hs : 0 ≤ x.toInt
    · have a1 := Int.tmod_nonneg (a := x.toInt) m.toInt hs
      have a2 : 0 ≤ m.toInt * x.toInt.tdiv m.toInt := Int.mul_nonneg (by omega) (Int.tdiv_nonneg hs (by omega))
      apply Int.bmod_eq_of_le <;> omega
    · have a1 : x.toInt.tmod m.toInt ≤ 0 := by
        have := Int.tmod_nonneg (a := -x.toInt) m.toInt (by omega)
        rw [Int.neg_tmod] at this
        omega
      have a2 : m.toInt * x.toInt.tdiv m.toInt ≤ 0 := Int.mul_nonpos_of_nonneg_of_nonpos (by omega) (tdn (by omega) (by omega))
      apply Int.bmod_eq_of_le <;> omega
  have hmn : ¬ m < 0 := by
    rw [Int64.lt_iff_toInt_lt, z0]; omega
  have hc : (x < x / m * m) ↔ ((x ^^^ m) < 0 ∧ ¬ (x / m) * m = x) := by
    rw [xneg, Int64.lt_iff_toInt_lt, hp, ← Int64.toInt_inj, hp, Int64.lt_iff_toInt_lt (x := x), z0]
    by_cases hs : x.toInt < 0
    · have a1 : x.toInt.tmod m.toInt ≤ 0 := by
        have := Int.tmod_nonneg (a := -x.toInt) m.toInt (by omega)
        rw [Int.neg_tmod] at this
        omega
      constructor
      · intro q; exact ⟨fun w => hmn (w.mp hs), by omega⟩
      · intro q; omega
    · have a1 := Int.tmod_nonneg (a := x.toInt) m.toInt (by omega)
      constructor
      · intro q; omega
      · intro q; exact absurd ⟨fun w => absurd w hs, fun w => absurd w hmn⟩ q.1
  unfold fdv
  by_cases h : x < x / m * m
  · rw [if_pos h, if_pos (hc.mp h)]
  · rw [if_neg h, if_neg (fun w => h (hc.mpr w))]
theorem bN_pos {g : Nat → Nat → Int32} {P C a n : Nat} (ha : a ≤ 40) (hn : n ≤ 16) (h : ¬ (bxN g P C a n).toInt64 = 0) : 0 < (bxN g P C a n).toInt64 ∧ (bxN g P C a n).toInt64.toInt < 1000000 := by
  obtain ⟨m, h1, h2, -⟩ := bxN_n g P C a n
  have z := Nat.mul_le_mul ha hn
  rw [h2, nI_l (by omega)] at h ⊢
  rw [lN_toInt (by omega)]
  refine ⟨?_, by omega⟩
  have : m ≠ 0 := fun e => h (by rw [e]; rfl)
  exact (pk_lLT (a := 0) (by omega) (by omega)).mpr (by omega)
theorem i64_0 (a : Int32) : a.toInt64 = 0 ↔ a = 0 := ⟨fun h => Decidable.byContradiction fun q => i64_ne q h, fun h => by rw [h]; rfl⟩
