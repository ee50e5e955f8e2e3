def mdC (g : Nat → Nat → Int32) : Nat → Int64
  | 0 => 17
  | n + 1 => if nI n = 5 then mdC g n else 31 * mdC g n + (fCount g (nI n)).toInt64
theorem mdC_8 (g : Nat → Nat → Int32) : mdC g 8 = dgB g := by
  have h0 : ¬ nI 0 = 5 := by decide
  have h1 : ¬ nI 1 = 5 := by decide
  have h2 : ¬ nI 2 = 5 := by decide
  have h3 : ¬ nI 3 = 5 := by decide
  have h4 : ¬ nI 4 = 5 := by decide
  have h5 : nI 5 = 5 := by decide
  have h6 : ¬ nI 6 = 5 := by decide
  have h7 : ¬ nI 7 = 5 := by decide
  simp only [mdC, dgB, dgC, if_neg h0, if_neg h1, if_neg h2, if_neg h3, if_neg h4, if_pos h5, if_neg h6, if_neg h7]
  rfl
theorem sub1 {w : Int32} (h : w - 1 = 0) : w = 1 := by
  have e : w - 1 + 1 = 0 + 1 := by rw [h]
  rw [Int32.sub_add_cancel] at e
  exact e
theorem mnb {g : Nat → Nat → Int32} (hI : WI g) {p q c e : Int32} (h : bxOk g p q c e) : rn q + 1 - rn p ≤ 40 ∧ rn e + 1 - rn c ≤ 16 := by
  have a := (p40 hI h.1.2.1).1
  have b := (c16 hI h.2.2.1).1
  omega
theorem mn_ok {g : Nat → Nat → Int32} {P C a n : Nat} {m x X r : Int64} (hm : m = (bxN g P C a n).toInt64) (hx : X = x) (hb : a ≤ 40 ∧ n ≤ 16) (h0 : ¬ m = 0) (hr : (x < x / m * m ∧ r = x / m - 1) ∨ (x / m * m ≤ x ∧ r = x / m)) : r = fdv X (bxN g P C a n).toInt64 := by
  subst hm
  subst hx
  obtain ⟨z1, z2⟩ := bN_pos hb.1 hb.2 h0
  rw [← mean_eq z1 z2]
  rcases hr with ⟨q, e⟩ | ⟨q, e⟩
  · rw [if_pos q, e]
  · rw [if_neg (Int64.not_lt.mpr q), e]
