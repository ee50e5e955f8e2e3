/-! the reference's words -/
theorem i64le (a b : Int32) : a.toInt64 ≤ b.toInt64 ↔ a ≤ b := by
  rw [Int64.le_iff_toInt_le, Int32.le_iff_toInt_le, Int32.toInt_toInt64, Int32.toInt_toInt64]
theorem i64lt (a b : Int32) : a.toInt64 < b.toInt64 ↔ a < b := by
  rw [Int64.lt_iff_toInt_lt, Int32.lt_iff_toInt_lt, Int32.toInt_toInt64, Int32.toInt_toInt64]
theorem r78 (r : Int32) : (0 ≤ r ∧ r ≤ 7) ↔ (0 ≤ r ∧ r < 8) := by
  rw [Int32.le_iff_toInt_le, Int32.le_iff_toInt_le, Int32.lt_iff_toInt_lt]
  have z7 : (7 : Int32).toInt = 7 := rfl
  have z8 : (8 : Int32).toInt = 8 := rfl
  rw [z7, z8]
  omega
theorem s35 (r : Int32) : (0 ≤ r ∧ r ≤ 35) ↔ (0 ≤ r ∧ r < 36) := by
  rw [Int32.le_iff_toInt_le, Int32.le_iff_toInt_le, Int32.lt_iff_toInt_lt]
  have z7 : (35 : Int32).toInt = 35 := rfl
  have z8 : (36 : Int32).toInt = 36 := rfl
  rw [z7, z8]
  omega
theorem pm1 {n : Int32} (h0 : 0 ≤ n) (h1 : n ≤ 200) (p : Int32) : (0 ≤ p ∧ p ≤ n - 1) ↔ (0 ≤ p ∧ p < n) := by
  obtain ⟨a, ha, rfl⟩ := nI_of (Int32.not_lt.mpr h0)
  have h2 : a ≤ 200 := (nI_leI ha (by decide)).mp h1
  have z0 : (0 : Int32).toInt = 0 := rfl
  have z1 : (1 : Int32).toInt = 1 := rfl
  rw [Int32.le_iff_toInt_le, Int32.le_iff_toInt_le, Int32.lt_iff_toInt_lt, Int32.toInt_sub, nI_toInt ha, z0, z1]
  have e : ((a : Int) - 1).bmod (2 ^ 32) = (a : Int) - 1 := by
    apply Int.bmod_eq_of_le <;> omega
  rw [e]
  omega
theorem pn1 {g : Nat → Nat → Int32} (hI : WI g) (p : Int32) : (0 ≤ p ∧ p ≤ g 100 7 - 1) ↔ isP g p := pm1 hI.2.1.1 (Int32.le_trans hI.2.1.2 (by decide)) p
def amt (x : Int64) : Int64 := if x < 0 then -x else x
def tl (v : Int32) : Int32 := if nn v then -128 else v
def zy (y : Nat → Int32) (r n : Nat) : Nat → Int32 := fun k => if 200 * r ≤ k ∧ k < 200 * r + n then 0 else y k
theorem zy_0 (y : Nat → Int32) (r : Nat) : zy y r 0 = y := by
  funext k
  unfold zy
  rw [if_neg (by omega)]
theorem ix {r i : Nat} (hr : r < 8) (hi : i < 200) : 200 * nI r + nI i = nI (200 * r + i) ∧ (nI (200 * r + i)).toNatClampNeg = 200 * r + i ∧ vp_in (nI (200 * r + i)) 1600 := by
  refine ⟨?_, nI_clamp (by omega), vp_in_nI (by omega) (by decide)⟩
  rw [← nI_add, ← pk_mul]; rfl
theorem zy_s (y : Nat → Int32) {r i : Nat} : upd (zy y r i) (200 * r + i) 0 = zy y r (i + 1) := by
  funext k
  unfold zy upd
  by_cases h : k = 200 * r + i
  · rw [if_pos h, if_pos (by omega)]
  · rw [if_neg h]
    show (if 200 * r ≤ k ∧ k < 200 * r + i then 0 else y k) = _
    by_cases h2 : 200 * r ≤ k ∧ k < 200 * r + i
    · rw [if_pos h2, if_pos (by omega)]
    · rw [if_neg h2, if_neg (by omega)]
/-- what answers leaves, of four numbers told -/
def mlo (a b c d : Int32) : Int32 := bI (a = -128) + bI (b = -128) + bI (c = -128) + bI (d = -128)
def m1 (a b c d : Int32) : Int32 := if a = -128 then c + d - b else a
def m2_ (a b c d : Int32) : Int32 := if b = -128 then c + d - a else b
def m3 (a b c d : Int32) : Int32 := if c = -128 then a + b - d else c
def m4 (a b c d : Int32) : Int32 := if d = -128 then a + b - c else d
def anP (a b c d r : Int32) (u : Nat → Int32) : Prop := r = bI (mlo a b c d ≤ 1) ∧ u 3 = mlo a b c d ∧ (mlo a b c d ≤ 1 → u 0 = m1 a b c d - m2_ a b c d ∧ u 1 = m3 a b c d - m4 a b c d ∧ u 2 = m1 a b c d + m2_ a b c d - m3 a b c d - m4 a b c d)
theorem an_no {a b c d v1 v2 v3 v4 : Int32} {u0 : Nat → Int32} (h1 : v1 = bI (a = -128)) (h2 : v2 = bI (b = -128)) (h3 : v3 = bI (c = -128)) (h4 : v4 = bI (d = -128)) (hc : ¬ v1 + v2 + v3 + v4 ≤ 1) : anP a b c d 0 (va_up u0 3 (v1 + v2 + v3 + v4)) := by
  have e : v1 + v2 + v3 + v4 = mlo a b c d := by rw [h1, h2, h3, h4]; rfl
  rw [e] at hc ⊢
  exact ⟨(bI_f hc).symm, rfl, fun q => absurd q hc⟩
theorem an_yes {a b c d v1 v2 v3 v4 w1 w2 w3 w4 : Int32} {u0 : Nat → Int32} (h1 : v1 = bI (a = -128)) (h2 : v2 = bI (b = -128)) (h3 : v3 = bI (c = -128)) (h4 : v4 = bI (d = -128)) (e1 : w1 = if a = -128 then c + d - b else a) (e2 : w2 = if b = -128 then c + d - a else b) (e3 : w3 = if c = -128 then a + b - d else c) (e4 : w4 = if d = -128 then a + b - c else d) (hc : v1 + v2 + v3 + v4 ≤ 1) : anP a b c d 1 (va_up (va_up (va_up (va_up u0 3 (v1 + v2 + v3 + v4)) 0 (w1 - w2)) 1 (w3 - w4)) 2 (w1 + w2 - w3 - w4)) := by
  have e : v1 + v2 + v3 + v4 = mlo a b c d := by rw [h1, h2, h3, h4]; rfl
  rw [e] at hc ⊢
  refine ⟨(bI_t hc).symm, rfl, fun _ => ⟨?_, ?_, ?_⟩⟩
  · simp only [va_up, e1, e2]; rfl
  · simp only [va_up, e3, e4]; rfl
  · simp only [va_up, e1, e2, e3, e4]; rfl
theorem tl_n (v : Int32) : (tl v = -128) = nn v := by
  unfold tl
  by_cases h : nn v
  · rw [if_pos h]; simp [h]
  · rw [if_neg h]
    refine propext ⟨fun q => absurd (Or.inl ?_) h, fun q => absurd q h⟩
    rw [q]; exact Int32.le_refl _
theorem tl_v {v : Int32} (h : ¬ nn v) : tl v = v := if_neg h
theorem mlo_tl (a b c d : Int32) : mlo (tl a) (tl b) (tl c) (tl d) = lo a b c d := by
  unfold mlo lo
  simp only [tl_n]
theorem lo_2 {a b c d : Int32} (h : lo a b c d ≤ 1) : (nn a → ¬ nn b ∧ ¬ nn c ∧ ¬ nn d) ∧ (nn b → ¬ nn a ∧ ¬ nn c ∧ ¬ nn d) ∧ (nn c → ¬ nn a ∧ ¬ nn b ∧ ¬ nn d) ∧ (nn d → ¬ nn a ∧ ¬ nn b ∧ ¬ nn c) := by
  unfold lo at h
  by_cases ha : nn a <;> by_cases hb : nn b <;> by_cases hc : nn c <;> by_cases hd : nn d <;> simp only [ha, hb, hc, hd, bI, if_true, if_false] at h <;> first | exact absurd h (by decide) | grind
theorem m_tl {a b c d : Int32} (h : lo a b c d ≤ 1) : m1 (tl a) (tl b) (tl c) (tl d) = f1 a b c d ∧ m2_ (tl a) (tl b) (tl c) (tl d) = f2 a b c d ∧ m3 (tl a) (tl b) (tl c) (tl d) = f3 a b c d ∧ m4 (tl a) (tl b) (tl c) (tl d) = f4 a b c d := by
  obtain ⟨h1, h2, h3, h4⟩ := lo_2 h
  unfold m1 m2_ m3 m4 f1 f2 f3 f4
  simp only [tl_n]
  refine ⟨?_, ?_, ?_, ?_⟩
  · by_cases q : nn a
    · obtain ⟨x, y, z⟩ := h1 q
      simp only [if_pos q, tl_v x, tl_v y, tl_v z]
    · simp only [if_neg q, tl_v q]
  · by_cases q : nn b
    · obtain ⟨x, y, z⟩ := h2 q
      simp only [if_pos q, tl_v x, tl_v y, tl_v z]
    · simp only [if_neg q, tl_v q]
  · by_cases q : nn c
    · obtain ⟨x, y, z⟩ := h3 q
      simp only [if_pos q, tl_v x, tl_v y, tl_v z]
    · simp only [if_neg q, tl_v q]
  · by_cases q : nn d
    · obtain ⟨x, y, z⟩ := h4 q
      simp only [if_pos q, tl_v x, tl_v y, tl_v z]
    · simp only [if_neg q, tl_v q]
/-- behind answers, of raw numbers -/
theorem an_tl {a b c d r : Int32} {u : Nat → Int32} (h : anP (tl a) (tl b) (tl c) (tl d) r u) : r = bI (lo a b c d ≤ 1) ∧ u 3 = lo a b c d ∧ (lo a b c d ≤ 1 → u 0 = al a b c d ∧ u 1 = ac a b c d ∧ u 2 = od a b c d) := by
  obtain ⟨h1, h2, h3⟩ := h
  rw [mlo_tl] at h2 h3
  refine ⟨?_, h2, fun q => ?_⟩
  · rw [h1]; exact bI_iff (by rw [mlo_tl])
  · obtain ⟨z1, z2, z3⟩ := h3 q
    obtain ⟨e1, e2, e3, e4⟩ := m_tl q
    rw [e1, e2] at z1
    rw [e3, e4] at z2
    rw [e1, e2, e3, e4] at z3
    exact ⟨z1, z2, z3⟩
theorem lo01 {a b c d : Int32} (h : lo a b c d ≤ 1) : lo a b c d = bI (lo a b c d = 1) := by
  unfold lo at h ⊢
  by_cases ha : nn a <;> by_cases hb : nn b <;> by_cases hc : nn c <;> by_cases hd : nn d <;> simp only [ha, hb, hc, hd, bI, if_true, if_false] at h ⊢ <;> first | rfl | exact absurd h (by decide)
theorem lo0 {a b c d : Int32} (h : lo a b c d ≤ 1) : (0 < lo a b c d) = (lo a b c d = 1) := by
  unfold lo at h ⊢
  by_cases ha : nn a <;> by_cases hb : nn b <;> by_cases hc : nn c <;> by_cases hd : nn d <;> simp only [ha, hb, hc, hd, bI, if_true, if_false] at h ⊢ <;> first | (apply propext; decide) | exact absurd h (by decide)
/-- quarter turns -/
def rt (B : Nat) : Nat → Int64 × Int64
  | 0 => ((c9 (B % 9)).toInt64, (s9 (B % 9)).toInt64)
  | n + 1 => (-(rt B n).2, (rt B n).1)
theorem rt_ok : ∀ B, B < 36 → rt B (B / 9) = (tuC (nI B), tuS (nI B)) := by decide +kernel
theorem b9 {B : Nat} (h : B < 36) : nI B - nI B / 9 * 9 = nI (B % 9) ∧ nI B / 9 = nI (B / 9) := ⟨pk_rem (d := 9) (by omega) (by decide) (by decide), pk_div (d := 9) (by omega) (by decide) (by decide)⟩
theorem comX (a b : Int64) (s t : Int32) : xT (xT a b s) (yT a b s) t = xT (xT a b t) (yT a b t) s := by
  unfold xT yT
  grind
theorem comY (a b : Int64) (s t : Int32) : yT (xT a b s) (yT a b s) t = yT (xT a b t) (yT a b t) s := by
  unfold xT yT
  grind
/-- turned numbers: two of the longs; the others as they were -/
def jP (j : Nat → Int64) (x y : Int64) (u : Nat → Int64) : Prop := u 0 = x ∧ u 1 = y ∧ ∀ q, 2 ≤ q → u q = j q
theorem jP_2 (j : Nat → Int64) (x y : Int64) : jP j x y (va_up (va_up j 0 x) 1 y) := by
  refine ⟨rfl, rfl, fun q hq => ?_⟩
  rw [va_up_ne _ _ (by omega), va_up_ne _ _ (by omega)]
theorem hd36 {g : Nat → Nat → Int32} (hI : WI g) {p : Int32} (h : isP g p) : 0 ≤ g 0 (rn p) ∧ g 0 (rn p) < 36 := by
  obtain ⟨h1, h2, -⟩ := p40 hI h
  exact (hI.2.2.2.2.2.2.2.2.1 (rn p) (by rw [← h2]; exact h.2) h1).1
theorem rwp {g : Nat → Nat → Int32} {p : Int32} {k : Nat} (h : isP g p) : rw_ g k p = g k (rn p) := if_pos h
/-- what findOwn leaves there -/
def moP (g : Nat → Nat → Int32) (p : Int32) (j : Nat → Int64) (r : Int32) (u : Nat → Int64) : Prop := r = bI (oOk g p) ∧ (oOk g p → u 2 = ownV g p 0 ∧ u 3 = ownV g p 1) ∧ ∀ q, 4 ≤ q → u q = j q
theorem mo_A {g : Nat → Nat → Int32} {p : Int32} {j : Nat → Int64} (h1 : ¬ g 100 1 = 1) (h2 : ¬ g 100 1 = 2) : moP g p j 1 (va_up (va_up j 2 0) 3 0) := by
  refine ⟨(bI_t ⟨fun h => absurd h h1, fun h => absurd h h2⟩).symm, fun _ => ?_, fun q hq => by rw [va_up_ne _ _ (by omega), va_up_ne _ _ (by omega)]⟩
  simp [ownV, oD, h1, h2, xT, yT, va_up]
theorem mo_B {g : Nat → Nat → Int32} {p : Int32} {j : Nat → Int64} {r : Int32} (h1 : g 100 1 = 1) (hr : r = bI (rLo g 4 p ≤ 1)) (hc : r = 0) : moP g p j 0 (va_up (va_up j 2 0) 3 0) := by
  have n : ¬ oOk g p := fun h => by rw [hc] at hr; exact (bI_0.mp hr.symm) (h.1 h1)
  exact ⟨(bI_f n).symm, fun h => absurd h n, fun q hq => by rw [va_up_ne _ _ (by omega), va_up_ne _ _ (by omega)]⟩
theorem mo_C {g : Nat → Nat → Int32} {p : Int32} {j u : Nat → Int64} {f : Nat → Int32} (hP : isP g p) (h1 : g 100 1 = 1) (hl : rLo g 4 p ≤ 1) (hf : f 0 = rAl g 4 p ∧ f 1 = rAc g 4 p) (hu : jP (va_up (va_up j 2 0) 3 0) (xT (xT (f 0).toInt64 (f 1).toInt64 (g 100 2)) (yT (f 0).toInt64 (f 1).toInt64 (g 100 2)) (g 0 (rn p))) (yT (xT (f 0).toInt64 (f 1).toInt64 (g 100 2)) (yT (f 0).toInt64 (f 1).toInt64 (g 100 2)) (g 0 (rn p))) u) : moP g p j 1 (va_up (va_up u 2 (u 0)) 3 (u 1)) := by
  obtain ⟨e0, e1, e2⟩ := hu
  have h2 : ¬ g 100 1 = 2 := by rw [h1]; decide
  refine ⟨(bI_t ⟨fun _ => hl, fun h => absurd h h2⟩).symm, fun _ => ⟨?_, ?_⟩, fun q hq => ?_⟩
  · show u 0 = _
    rw [e0, hf.1, hf.2, comX]
    simp [ownV, oD, h1, rwp hP]
  · show u 1 = _
    rw [e1, hf.1, hf.2, comY]
    simp [ownV, oD, h1, rwp hP]
  · rw [va_up_ne _ _ (by omega), va_up_ne _ _ (by omega), e2 q (by omega), va_up_ne _ _ (by omega), va_up_ne _ _ (by omega)]
theorem np1 {g : Nat → Nat → Int32} (hI : WI g) {p : Int32} (h : isP g p) : (p = g 100 7 - 1 ↔ ¬ (0 ≤ p + 1 ∧ p + 1 < g 100 7)) ∧ rn (p + 1) = rn p + 1 := by
  obtain ⟨a, b, c⟩ := p40 hI h
  obtain ⟨n, hn, e⟩ := nI_of (Int32.not_lt.mpr hI.2.1.1)
  rw [e] at c ⊢
  have h4 : n ≤ 40 := (nI_leI hn (by decide)).mp (e ▸ hI.2.1.2)
  have c : rn p < n := by
    have z : rn (nI n) = n := nI_clamp hn
    rw [z] at c; exact c
  generalize rn p = k at a b c
  subst b
  obtain ⟨z, rfl⟩ : ∃ z, n = z + 1 := ⟨n - 1, by omega⟩
  rw [nI_pred, nI_1, nI_eq (by omega) (by omega), nI_ltI (by omega) hn]
  refine ⟨⟨fun q => by omega, fun q => ?_⟩, ?_⟩
  · have : ¬ k + 1 < z + 1 := fun w => q ⟨nI_pos' (by omega), w⟩
    omega
  · have e1 : rn (nI (k + 1)) = k + 1 := nI_clamp (by omega)
    rw [e1]
theorem mo_D {g : Nat → Nat → Int32} (hI : WI g) {p : Int32} {j : Nat → Int64} (hP : isP g p) (h2 : g 100 1 = 2) (hc : p = g 100 7 - 1) : moP g p j 0 (va_up (va_up j 2 0) 3 0) := by
  have n : ¬ oOk g p := fun h => ((np1 hI hP).1.mp hc) (h.2 h2)
  exact ⟨(bI_f n).symm, fun h => absurd h n, fun q hq => by rw [va_up_ne _ _ (by omega), va_up_ne _ _ (by omega)]⟩
theorem mo_E {g : Nat → Nat → Int32} (hI : WI g) {p : Int32} {j : Nat → Int64} (hP : isP g p) (h2 : g 100 1 = 2) (hc : ¬ p = g 100 7 - 1) : moP g p j 1 (va_up (va_up (va_up (va_up j 2 0) 3 0) 2 (4225 * (g 1 (rn (p + 1)) - g 1 (rn p)).toInt64)) 3 (4225 * (g 2 (rn (p + 1)) - g 2 (rn p)).toInt64)) := by
  have h1 : ¬ g 100 1 = 1 := by rw [h2]; decide
  have q : isP g (p + 1) := Decidable.byContradiction fun z => hc ((np1 hI hP).1.mpr z)
  refine ⟨(bI_t ⟨fun h => absurd h h1, fun _ => q⟩).symm, fun _ => ⟨?_, ?_⟩, fun q hq => by rw [va_up_ne _ _ (by omega), va_up_ne _ _ (by omega), va_up_ne _ _ (by omega), va_up_ne _ _ (by omega)]⟩
  · show 4225 * (g 1 (rn (p + 1)) - g 1 (rn p)).toInt64 = _
    simp [ownV, oD, h1, h2, xT, yT, rwp hP, rwp q]
  · show 4225 * (g 2 (rn (p + 1)) - g 2 (rn p)).toInt64 = _
    simp [ownV, oD, h1, h2, xT, yT, rwp hP, rwp q]
/-- behind cellAnswers -/
def caP (g : Nat → Nat → Int32) (p c r : Int32) (u : Nat → Int32) : Prop := r = bI (rLo g 0 (itC g p c) ≤ 1) ∧ u 3 = rLo g 0 (itC g p c) ∧ (rLo g 0 (itC g p c) ≤ 1 → u 0 = rAl g 0 (itC g p c) ∧ u 1 = rAc g 0 (itC g p c) ∧ u 2 = rOd g 0 (itC g p c))
theorem it0 {g : Nat → Nat → Int32} (hI : WI g) {p c : Int32} (hp : isP g p) (hc : isC g c) : 0 ≤ itC g p c := by
  obtain ⟨a, b, -⟩ := p40 hI hp
  obtain ⟨a2, b2, -⟩ := c16 hI hc
  have e := rnI (la0 hI)
  have z : rn (g 100 0) ≤ 16 := rnle (la0 hI) hI.2.2.1.2 (by decide)
  unfold itC
  rw [b, b2, e]
  generalize rn p = x at *
  generalize rn c = y at *
  generalize rn (g 100 0) = w at *
  rw [pk_mul, nI_add]
  apply nI_pos'
  have := Nat.mul_le_mul z (Nat.le_of_lt a)
  omega
theorem amtb {x w : Int32} (hw : 0 ≤ w) : amt x.toInt64 ≤ w.toInt64 ↔ (-w ≤ x ∧ x ≤ w) := by
  unfold amt
  have h0 := Int32.le_iff_toInt_le.mp hw
  have z0 : (0 : Int32).toInt = 0 := rfl
  have z1 : (0 : Int64).toInt = 0 := rfl
  rw [z0] at h0
  have hx := x.toInt_lt
  have hx2 := x.le_toInt
  have hw2 := w.toInt_lt
  have e1 : (-w).toInt = -w.toInt := by
    rw [Int32.toInt_neg]
    apply Int.bmod_eq_of_le <;> omega
  have e2 : (-x.toInt64).toInt = -x.toInt := by
    rw [Int64.toInt_neg, Int32.toInt_toInt64]
    apply Int.bmod_eq_of_le <;> omega
  by_cases h : x.toInt64 < 0
  · rw [if_pos h, Int64.le_iff_toInt_le, Int32.le_iff_toInt_le, Int32.le_iff_toInt_le, e1, e2, Int32.toInt_toInt64]
    have h := Int64.lt_iff_toInt_lt.mp h
    rw [Int32.toInt_toInt64, z1] at h
    omega
  · rw [if_neg h, Int64.le_iff_toInt_le, Int32.le_iff_toInt_le, Int32.le_iff_toInt_le, e1, Int32.toInt_toInt64, Int32.toInt_toInt64]
    have h : ¬ x.toInt64.toInt < (0 : Int64).toInt := fun q => h (Int64.lt_iff_toInt_lt.mpr q)
    rw [Int32.toInt_toInt64, z1] at h
    omega
