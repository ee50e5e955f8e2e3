/-! bounds: no long is passed -/
def bd (x : Int64) (B : Nat) : Prop := -(B : Int) ≤ x.toInt ∧ x.toInt ≤ B
theorem bd_m {x : Int64} {a b : Nat} (h : bd x a) (hb : a ≤ b) : bd x b := ⟨by have := h.1; omega, by have := h.2; omega⟩
theorem bd_0 (B : Nat) : bd 0 B := by
  have z : (0 : Int64).toInt = 0 := rfl
  exact ⟨by rw [z]; omega, by rw [z]; omega⟩
theorem bd_add {x y : Int64} {a b : Nat} (hx : bd x a) (hy : bd y b) (h : a + b < 2 ^ 63) : bd (x + y) (a + b) := by
  obtain ⟨x1, x2⟩ := hx
  obtain ⟨y1, y2⟩ := hy
  unfold bd
  have e : (x + y).toInt = x.toInt + y.toInt := by
    rw [Int64.toInt_add]
    apply Int.bmod_eq_of_le <;> omega
  rw [e]; omega
theorem bd_sub {x y : Int64} {a b : Nat} (hx : bd x a) (hy : bd y b) (h : a + b < 2 ^ 63) : bd (x - y) (a + b) := by
  obtain ⟨x1, x2⟩ := hx
  obtain ⟨y1, y2⟩ := hy
  unfold bd
  have e : (x - y).toInt = x.toInt - y.toInt := by
    rw [Int64.toInt_sub]
    apply Int.bmod_eq_of_le <;> omega
  rw [e]; omega
theorem bd_mul {x y : Int64} {a b : Nat} (hx : bd x a) (hy : bd y b) (h : a * b < 2 ^ 63) : bd (x * y) (a * b) := by
  obtain ⟨x1, x2⟩ := hx
  obtain ⟨y1, y2⟩ := hy
  have hn : (x.toInt * y.toInt).natAbs ≤ a * b := by
    rw [Int.natAbs_mul]
    exact Nat.mul_le_mul (by omega) (by omega)
  have hl : -((a * b : Nat) : Int) ≤ x.toInt * y.toInt ∧ x.toInt * y.toInt ≤ ((a * b : Nat) : Int) := by omega
  unfold bd
  have e : (x * y).toInt = x.toInt * y.toInt := by
    rw [Int64.toInt_mul]
    apply Int.bmod_eq_of_le <;> omega
  rw [e]; exact hl
theorem bd_sL (f : Nat → Int64) (B : Nat) (n : Nat) (h : ∀ k, bd (f k) B) (hn : n * B < 2 ^ 63) : bd (sL f n) (n * B) := by
  induction n with
  | zero => rw [Nat.zero_mul]; exact bd_0 0
  | succ n ih =>
    rw [Nat.succ_mul] at hn ⊢
    exact bd_add (ih (by omega)) (h n) hn
theorem bd_C (t : Int32) : bd (tuC t) 65 ∧ bd (tuS t) 65 := by
  by_cases h : 0 ≤ t ∧ t < 36
  · obtain ⟨j, hj, rfl⟩ := n36 h.1 h.2
    have key : ∀ j, j < 36 → (-((65 : Nat) : Int) ≤ (tuC (nI j)).toInt ∧ (tuC (nI j)).toInt ≤ (65 : Nat)) ∧ (-((65 : Nat) : Int) ≤ (tuS (nI j)).toInt ∧ (tuS (nI j)).toInt ≤ (65 : Nat)) := by decide +kernel
    exact key j hj
  · unfold tuC tuS
    rw [if_neg h, if_neg h]
    exact ⟨bd_0 _, bd_0 _⟩
theorem bd_x {x y : Int64} {B : Nat} (hx : bd x B) (hy : bd y B) (h : 130 * B < 2 ^ 63) (t : Int32) : bd (xT x y t) (130 * B) ∧ bd (yT x y t) (130 * B) := by
  obtain ⟨c, s⟩ := bd_C t
  have e : 65 * B + 65 * B = 130 * B := by omega
  constructor
  · rw [← e]; exact bd_sub (bd_mul c hx (by omega)) (bd_mul s hy (by omega)) (by omega)
  · rw [← e]; exact bd_add (bd_mul s hx (by omega)) (bd_mul c hy (by omega)) (by omega)
theorem bd_i {x : Int32} {B : Nat} (h1 : -(B : Int) ≤ x.toInt) (h2 : x.toInt ≤ B) : bd x.toInt64 B := by
  unfold bd
  rw [Int32.toInt_toInt64]
  exact ⟨h1, h2⟩
theorem nn_b {v : Int32} (h : ¬ nn v) : -128 ≤ v.toInt ∧ v.toInt ≤ 20000 := by
  have h1 : ¬ v ≤ -128 := fun q => h (Or.inl q)
  have h2 : ¬ 20000 < v := fun q => h (Or.inr q)
  rw [Int32.le_iff_toInt_le] at h1
  rw [Int32.lt_iff_toInt_lt] at h2
  have z1 : (-128 : Int32).toInt = -128 := rfl
  have z2 : (20000 : Int32).toInt = 20000 := rfl
  rw [z1] at h1
  rw [z2] at h2
  omega
theorem i3 {a b c : Int32} (ha : -128 ≤ a.toInt ∧ a.toInt ≤ 20000) (hb : -128 ≤ b.toInt ∧ b.toInt ≤ 20000) (hc : -128 ≤ c.toInt ∧ c.toInt ≤ 20000) : -50000 ≤ (a + b - c).toInt ∧ (a + b - c).toInt ≤ 50000 := by
  have e1 : (a + b).toInt = a.toInt + b.toInt := by
    rw [Int32.toInt_add]
    apply Int.bmod_eq_of_le <;> omega
  have e2 : (a + b - c).toInt = a.toInt + b.toInt - c.toInt := by
    rw [Int32.toInt_sub, e1]
    apply Int.bmod_eq_of_le <;> omega
  rw [e2]; omega
theorem f_b {a b c d : Int32} (h : lo a b c d ≤ 1) : (-50000 ≤ (f1 a b c d).toInt ∧ (f1 a b c d).toInt ≤ 50000) ∧ (-50000 ≤ (f2 a b c d).toInt ∧ (f2 a b c d).toInt ≤ 50000) ∧ (-50000 ≤ (f3 a b c d).toInt ∧ (f3 a b c d).toInt ≤ 50000) ∧ (-50000 ≤ (f4 a b c d).toInt ∧ (f4 a b c d).toInt ≤ 50000) := by
  obtain ⟨h1, h2, h3, h4⟩ := lo_2 h
  unfold f1 f2 f3 f4
  refine ⟨?_, ?_, ?_, ?_⟩
  · by_cases q : nn a
    · obtain ⟨x, y, z⟩ := h1 q
      rw [if_pos q]; exact i3 (nn_b y) (nn_b z) (nn_b x)
    · rw [if_neg q]; have := nn_b q; omega
  · by_cases q : nn b
    · obtain ⟨x, y, z⟩ := h2 q
      rw [if_pos q]; exact i3 (nn_b y) (nn_b z) (nn_b x)
    · rw [if_neg q]; have := nn_b q; omega
  · by_cases q : nn c
    · obtain ⟨x, y, z⟩ := h3 q
      rw [if_pos q]; exact i3 (nn_b x) (nn_b y) (nn_b z)
    · rw [if_neg q]; have := nn_b q; omega
  · by_cases q : nn d
    · obtain ⟨x, y, z⟩ := h4 q
      rw [if_pos q]; exact i3 (nn_b x) (nn_b y) (nn_b z)
    · rw [if_neg q]; have := nn_b q; omega
theorem i2s {a b : Int32} (ha : -50000 ≤ a.toInt ∧ a.toInt ≤ 50000) (hb : -50000 ≤ b.toInt ∧ b.toInt ≤ 50000) : bd (a - b).toInt64 100000 := by
  have e2 : (a - b).toInt = a.toInt - b.toInt := by
    rw [Int32.toInt_sub]
    apply Int.bmod_eq_of_le <;> omega
  exact bd_i (by rw [e2]; omega) (by rw [e2]; omega)
theorem bd_al {g : Nat → Nat → Int32} {r : Nat} {i : Int32} (h : rLo g r i ≤ 1) : bd (rAl g r i).toInt64 100000 ∧ bd (rAc g r i).toInt64 100000 := by
  obtain ⟨h1, h2, h3, h4⟩ := f_b h
  exact ⟨i2s h1 h2, i2s h3 h4⟩
theorem bd_rw {g : Nat → Nat → Int32} (hI : WI g) (p q : Int32) : bd (rw_ g 1 p - rw_ g 1 q).toInt64 2000000 ∧ bd (rw_ g 2 p - rw_ g 2 q).toInt64 2000000 := by
  have z1 : (1000000 : Int32).toInt = 1000000 := rfl
  have z2 : (-1000000 : Int32).toInt = -1000000 := rfl
  have z0 : (0 : Int32).toInt = 0 := rfl
  have k : ∀ p : Int32, (-1000000 ≤ (rw_ g 1 p).toInt ∧ (rw_ g 1 p).toInt ≤ 1000000) ∧ (-1000000 ≤ (rw_ g 2 p).toInt ∧ (rw_ g 2 p).toInt ≤ 1000000) := by
    intro p
    by_cases h : isP g p
    · rw [rwp h, rwp h]
      obtain ⟨⟨a, b⟩, ⟨c, d⟩, -⟩ := pl1 hI h
      have a := Int32.le_iff_toInt_le.mp a
      have b := Int32.le_iff_toInt_le.mp b
      have c := Int32.le_iff_toInt_le.mp c
      have d := Int32.le_iff_toInt_le.mp d
      rw [z1] at b d
      rw [z2] at a c
      omega
    · unfold rw_
      rw [if_neg h, if_neg h, z0]; omega
  obtain ⟨⟨a1, a2⟩, b1, b2⟩ := k p
  obtain ⟨⟨c1, c2⟩, d1, d2⟩ := k q
  constructor
  · have e : (rw_ g 1 p - rw_ g 1 q).toInt = (rw_ g 1 p).toInt - (rw_ g 1 q).toInt := by
      rw [Int32.toInt_sub]
      apply Int.bmod_eq_of_le <;> omega
    exact bd_i (by rw [e]; omega) (by rw [e]; omega)
  · have e : (rw_ g 2 p - rw_ g 2 q).toInt = (rw_ g 2 p).toInt - (rw_ g 2 q).toInt := by
      rw [Int32.toInt_sub]
      apply Int.bmod_eq_of_le <;> omega
    exact bd_i (by rw [e]; omega) (by rw [e]; omega)
theorem bd_o {g : Nat → Nat → Int32} (hI : WI g) {p : Int32} (h : oOk g p) (k : Nat) : bd (oD g p k) 10000000000 := by
  unfold oD
  by_cases h1 : g 100 1 = 1
  · obtain ⟨a, b⟩ := bd_al (h.1 h1)
    obtain ⟨c, d⟩ := bd_x a b (by decide) (rw_ g 0 p)
    rw [if_pos h1]
    by_cases k0 : k = 0
    · rw [if_pos k0]; exact bd_m c (by decide)
    · rw [if_neg k0]
      by_cases k1 : k = 1
      · rw [if_pos k1]; exact bd_m d (by decide)
      · rw [if_neg k1]; exact bd_0 _
  · rw [if_neg h1]
    by_cases h2 : g 100 1 = 2
    · rw [if_pos h2]
      obtain ⟨a, b⟩ := bd_rw hI (p + 1) p
      have c : bd 4225 4225 := by unfold bd; decide
      by_cases k0 : k = 2
      · rw [if_pos k0]; exact bd_m (bd_mul c a (by decide)) (by decide)
      · rw [if_neg k0]
        by_cases k1 : k = 3
        · rw [if_pos k1]; exact bd_m (bd_mul c b (by decide)) (by decide)
        · rw [if_neg k1]; exact bd_0 _
    · rw [if_neg h2]; exact bd_0 _
theorem bd_cd {g : Nat → Nat → Int32} (hI : WI g) (p c : Int32) (k : Nat) : bd (cd g p c k) 20000000000 := by
  unfold cd
  by_cases h : gdF g p c = 0
  · rw [if_pos h]
    obtain ⟨h1, h2⟩ := gd0 h
    obtain ⟨a, b⟩ := bd_al h2
    obtain ⟨x, y⟩ := bd_x a b (by decide) (rw_ g 0 p)
    unfold pD
    by_cases k0 : k = 0
    · rw [if_pos k0]; exact bd_m (bd_sub x (bd_o hI h1 0) (by decide)) (by decide)
    · rw [if_neg k0]
      by_cases k1 : k = 1
      · rw [if_pos k1]; exact bd_m (bd_sub y (bd_o hI h1 1) (by decide)) (by decide)
      · rw [if_neg k1]
        by_cases k2 : k = 2
        · rw [if_pos k2]; exact bd_m (bd_sub (bd_0 0) (bd_o hI h1 2) (by decide)) (by decide)
        · rw [if_neg k2]; exact bd_m (bd_sub (bd_0 0) (bd_o hI h1 3) (by decide)) (by decide)
  · rw [if_neg h]; exact bd_0 _
theorem bd_bx {g : Nat → Nat → Int32} (hI : WI g) {P C a n : Nat} (ha : a ≤ 40) (hn : n ≤ 16) (k : Nat) : bd (bxD g P C a n k) 12800000000000 := by
  unfold bxD
  have q : ∀ x, bd (sL (fun y => cd g (nI (P + x)) (nI (C + y)) k) n) 320000000000 := fun x => bd_m (bd_sL _ 20000000000 n (fun y => bd_cd hI _ _ k) (by omega)) (by omega)
  exact bd_m (bd_sL _ 320000000000 a q (by omega)) (by omega)
theorem bd_bN {g : Nat → Nat → Int32} {P C a n : Nat} (ha : a ≤ 40) (hn : n ≤ 16) : bd (bxN g P C a n).toInt64 640 := by
  obtain ⟨m, h1, h2, -⟩ := bxN_n g P C a n
  have z := Nat.mul_le_mul ha hn
  rw [h2]
  exact bd_i (by rw [nI_toInt (by omega)]; omega) (by rw [nI_toInt (by omega)]; omega)
/-- the least miss, told by amounts -/
def msv (a0 a1 a2 a3 : Int64) (t : Int32) : Int64 := if amt (xT a0 a1 t + a2) ≤ amt (yT a0 a1 t + a3) then amt (yT a0 a1 t + a3) else amt (xT a0 a1 t + a2)
def mkS (a0 a1 a2 a3 : Int64) : Nat → Int32 × Int64
  | 0 => (-1, 0)
  | n + 1 => if (mkS a0 a1 a2 a3 n).1 = -1 ∨ msv a0 a1 a2 a3 (nI n) < (mkS a0 a1 a2 a3 n).2 then (nI n, msv a0 a1 a2 a3 (nI n)) else mkS a0 a1 a2 a3 n
theorem amt_n {x : Int64} {B : Nat} (h : bd x B) (hB : B < 2 ^ 63) : (amt x).toInt = x.toInt.natAbs ∧ (bz x).toInt = -(x.toInt.natAbs : Int) := by
  obtain ⟨h1, h2⟩ := h
  have z : (0 : Int64).toInt = 0 := rfl
  have en : (-x).toInt = -x.toInt := by
    rw [Int64.toInt_neg]
    apply Int.bmod_eq_of_le <;> omega
  unfold amt bz
  by_cases q : x < 0
  · have q1 := Int64.lt_iff_toInt_lt.mp q
    rw [z] at q1
    have q2 : ¬ 0 < x := by rw [Int64.lt_iff_toInt_lt, z]; omega
    rw [if_pos q, if_neg q2, en]; omega
  · rw [if_neg q]
    have q1 : ¬ x.toInt < 0 := fun w => q (Int64.lt_iff_toInt_lt.mpr (by rw [z]; exact w))
    by_cases q2 : 0 < x
    · rw [if_pos q2, en]; omega
    · rw [if_neg q2]
      have q3 : ¬ 0 < x.toInt := fun w => q2 (Int64.lt_iff_toInt_lt.mpr (by rw [z]; exact w))
      omega
theorem ms_n {a0 a1 a2 a3 : Int64} {B : Nat} (hB : B < 2 ^ 63) (hx : ∀ t, bd (xT a0 a1 t + a2) B ∧ bd (yT a0 a1 t + a3) B) (t : Int32) : (msv a0 a1 a2 a3 t).toInt = -(mbz a0 a1 a2 a3 t).toInt := by
  obtain ⟨e1, e2⟩ := amt_n (hx t).1 hB
  obtain ⟨e3, e4⟩ := amt_n (hx t).2 hB
  unfold msv mbz
  by_cases h : amt (xT a0 a1 t + a2) ≤ amt (yT a0 a1 t + a3)
  · have h' := Int64.le_iff_toInt_le.mp h
    rw [if_pos h]
    by_cases q : bz (yT a0 a1 t + a3) < bz (xT a0 a1 t + a2)
    · rw [if_pos q, e3, e4]; omega
    · have q' : ¬ (bz (yT a0 a1 t + a3)).toInt < (bz (xT a0 a1 t + a2)).toInt := fun w => q (Int64.lt_iff_toInt_lt.mpr w)
      rw [if_neg q, e3, e2]; omega
  · have h' : ¬ (amt (xT a0 a1 t + a2)).toInt ≤ (amt (yT a0 a1 t + a3)).toInt := fun w => h (Int64.le_iff_toInt_le.mpr w)
    have q : ¬ bz (yT a0 a1 t + a3) < bz (xT a0 a1 t + a2) := by
      intro w
      have w := Int64.lt_iff_toInt_lt.mp w
      omega
    rw [if_neg h, if_neg q, e1, e2]; omega
theorem tl_i (a0 a1 a2 a3 : Int64) (n : Nat) (hn : n ≤ 35) : ∃ k, k ≤ n ∧ (tlS a0 a1 a2 a3 n).1 = nI k := by
  induction n with
  | zero => exact ⟨0, Nat.le_refl _, rfl⟩
  | succ n ih =>
    obtain ⟨k, h1, h2⟩ := ih (by omega)
    by_cases h : (tlS a0 a1 a2 a3 n).2 < mbz a0 a1 a2 a3 (nI (n + 1))
    · exact ⟨n + 1, Nat.le_refl _, by simp only [tlS, if_pos h]⟩
    · exact ⟨k, by omega, by simp only [tlS, if_neg h]; exact h2⟩
theorem mk_tl {a0 a1 a2 a3 : Int64} {B : Nat} (hB : B < 2 ^ 63) (hx : ∀ t, bd (xT a0 a1 t + a2) B ∧ bd (yT a0 a1 t + a3) B) : ∀ n, n ≤ 35 → (mkS a0 a1 a2 a3 (n + 1)).1 = (tlS a0 a1 a2 a3 n).1 ∧ (mkS a0 a1 a2 a3 (n + 1)).2.toInt = -(tlS a0 a1 a2 a3 n).2.toInt := by
  intro n
  induction n with
  | zero =>
    intro _
    have e : mkS a0 a1 a2 a3 1 = (nI 0, msv a0 a1 a2 a3 (nI 0)) := by
      exact if_pos (Or.inl rfl)
    rw [e]
    exact ⟨rfl, ms_n hB hx (nI 0)⟩
  | succ n ih =>
    intro hn
    obtain ⟨h1, h2⟩ := ih (by omega)
    obtain ⟨k, k1, k2⟩ := tl_i a0 a1 a2 a3 n (by omega)
    have hne : ¬ (mkS a0 a1 a2 a3 (n + 1)).1 = -1 := by rw [h1, k2]; exact nI_m1 (by omega)
    have hm := ms_n hB hx (nI (n + 1))
    have hiff : msv a0 a1 a2 a3 (nI (n + 1)) < (mkS a0 a1 a2 a3 (n + 1)).2 ↔ (tlS a0 a1 a2 a3 n).2 < mbz a0 a1 a2 a3 (nI (n + 1)) := by
      rw [Int64.lt_iff_toInt_lt, Int64.lt_iff_toInt_lt]; omega
    have e1 : mkS a0 a1 a2 a3 (n + 1 + 1) = if (mkS a0 a1 a2 a3 (n + 1)).1 = -1 ∨ msv a0 a1 a2 a3 (nI (n + 1)) < (mkS a0 a1 a2 a3 (n + 1)).2 then (nI (n + 1), msv a0 a1 a2 a3 (nI (n + 1))) else mkS a0 a1 a2 a3 (n + 1) := rfl
    have e2 : tlS a0 a1 a2 a3 (n + 1) = if (tlS a0 a1 a2 a3 n).2 < mbz a0 a1 a2 a3 (nI (n + 1)) then (nI (n + 1), mbz a0 a1 a2 a3 (nI (n + 1))) else tlS a0 a1 a2 a3 n := rfl
    rw [e1, e2]
    by_cases h : (tlS a0 a1 a2 a3 n).2 < mbz a0 a1 a2 a3 (nI (n + 1))
    · rw [if_pos (Or.inr (hiff.mpr h)), if_pos h]; exact ⟨rfl, hm⟩
    · rw [if_neg (fun q => q.elim hne (fun w => h (hiff.mp w))), if_neg h]; exact ⟨h1, h2⟩
