theorem RM_u {g : Nat → Nat → Int32} {y zz : Nat → Int32} {a b : Nat} {v : Int32} (ha : a < 4 ∨ 18 ≤ a) (h : RM g y zz) : RM (up2 g a b v) y zz := by
  intro r hr
  rw [up2_r (x := 10 + r) g v (by omega), up2_r (x := 4) g v (by omega), up2_r (x := 5) g v (by omega)]
  exact h r hr
theorem nu40 {g : Nat → Nat → Int32} (hI : WI g) : (g 100 7 = 40 ↔ 40 ≤ g 100 7) ∧ (¬ g 100 7 = 40 → g 100 7 < 40) := by
  have h := hI.2.1.2
  constructor
  · constructor
    · intro q; rw [q]; exact Int32.le_refl _
    · exact fun q => Int32.le_antisymm h q
  · intro q
    exact Int32.lt_of_le_of_ne h q
theorem amt_ab {a b y : Int32} (ha : -1000000 ≤ a ∧ a ≤ 1000000) (hb : -1000000 ≤ b ∧ b ≤ 1000000) (hy : 0 ≤ y) : amt (a - b).toInt64 ≤ y.toInt64 ↔ ab (a - b) ≤ y := by
  rw [amtb hy]
  have e1 := Int32.le_iff_toInt_le.mp ha.1
  have e2 := Int32.le_iff_toInt_le.mp ha.2
  have e3 := Int32.le_iff_toInt_le.mp hb.1
  have e4 := Int32.le_iff_toInt_le.mp hb.2
  have z1 : (1000000 : Int32).toInt = 1000000 := rfl
  have z2 : (-1000000 : Int32).toInt = -1000000 := rfl
  have z0 : (0 : Int32).toInt = 0 := rfl
  rw [z2] at e1 e3
  rw [z1] at e2 e4
  have ed : (a - b).toInt = a.toInt - b.toInt := by
    rw [Int32.toInt_sub]
    apply Int.bmod_eq_of_le <;> omega
  generalize a - b = x at ed ⊢
  have hw2 := y.toInt_lt
  have hw := Int32.le_iff_toInt_le.mp hy
  rw [z0] at hw
  have n1 : (-y).toInt = -y.toInt := by
    rw [Int32.toInt_neg]
    apply Int.bmod_eq_of_le <;> omega
  have n2 : (0 - x).toInt = -x.toInt := by
    rw [Int32.toInt_sub, z0]
    rw [show (0 : Int) - x.toInt = -x.toInt by omega]
    apply Int.bmod_eq_of_le <;> omega
  unfold ab
  by_cases h : 0 ≤ x
  · rw [if_pos h, Int32.le_iff_toInt_le, Int32.le_iff_toInt_le, n1]
    have h := Int32.le_iff_toInt_le.mp h
    rw [z0] at h
    omega
  · rw [if_neg h, Int32.le_iff_toInt_le, Int32.le_iff_toInt_le, Int32.le_iff_toInt_le, n1, n2]
    have h : ¬ (0 : Int32).toInt ≤ x.toInt := fun q => h (Int32.le_iff_toInt_le.mpr q)
    rw [z0] at h
    omega
theorem pl1 {g : Nat → Nat → Int32} (hI : WI g) {p : Int32} (h : isP g p) : (-1000000 ≤ g 1 (rn p) ∧ g 1 (rn p) ≤ 1000000) ∧ (-1000000 ≤ g 2 (rn p) ∧ g 2 (rn p) ≤ 1000000) ∧ 0 ≤ g 3 (rn p) ∧ g 3 (rn p) ≤ 16 := by
  obtain ⟨h1, h2, -⟩ := p40 hI h
  exact (hI.2.2.2.2.2.2.2.2.1 (rn p) (by rw [← h2]; exact h.2) h1).2
theorem near_i {g : Nat → Nat → Int32} (hI : WI g) {p q y : Int32} (hp : isP g p) (hq : isP g q) (hy : 0 ≤ y) : (amt (g 1 (rn q) - g 1 (rn p)).toInt64 ≤ y.toInt64 ∧ amt (g 2 (rn q) - g 2 (rn p)).toInt64 ≤ y.toInt64) ↔ near g p q y := by
  rw [amt_ab (pl1 hI hq).1 (pl1 hI hp).1 hy, amt_ab (pl1 hI hq).2.1 (pl1 hI hp).2.1 hy]
  unfold near
  rw [rwp hp, rwp hq, rwp hp, rwp hq]
theorem isP_n {g : Nat → Nat → Int32} (hI : WI g) {i : Nat} (h : i < rn (g 100 7)) : isP g (nI i) := by
  have z : rn (g 100 7) ≤ 40 := rnle hI.2.1.1 hI.2.1.2 (by decide)
  refine ⟨nI_pos' (by omega), ?_⟩
  rw [rnI hI.2.1.1]
  exact (nI_ltI (by omega) (by omega)).mpr h
theorem isC_n {g : Nat → Nat → Int32} (hI : WI g) {i : Nat} (h : i < rn (g 100 0)) : isC g (nI i) := by
  have z : rn (g 100 0) ≤ 16 := rnle (la0 hI) hI.2.2.1.2 (by decide)
  refine ⟨nI_pos' (by omega), ?_⟩
  have e := rnI (la0 hI)
  rw [e]
  obtain ⟨k, hk⟩ : ∃ k, rn (g 100 0) = k + 1 := ⟨rn (g 100 0) - 1, by omega⟩
  rw [hk, nI_pred]
  exact (nI_leI (by omega) (by omega)).mpr (by omega)
