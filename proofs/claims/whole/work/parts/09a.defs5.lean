/-! copies; the reference's world -/
theorem rnsub {s n i : Int32} (hs0 : 0 ≤ s) (hs : s ≤ 200) (hi : 0 ≤ i) (hn : 0 ≤ n) (h : i ≤ s - n) : rn i + rn n ≤ rn s ∧ rn s ≤ 200 := by
  obtain ⟨a, ha, rfl⟩ := nI_of (Int32.not_lt.mpr hs0)
  obtain ⟨b, hb, rfl⟩ := nI_of (Int32.not_lt.mpr hi)
  obtain ⟨c, hc, rfl⟩ := nI_of (Int32.not_lt.mpr hn)
  unfold rn
  rw [nI_clamp ha, nI_clamp hb, nI_clamp hc]
  have h2 : a ≤ 200 := (nI_leI ha (by decide)).mp hs
  have h3 := Int32.le_iff_toInt_le.mp h
  rw [Int32.toInt_sub, nI_toInt ha, nI_toInt hb, nI_toInt hc] at h3
  have e : ((a : Int) - c).bmod (2 ^ 32) = (a : Int) - c := by
    apply Int.bmod_eq_of_le <;> omega
  rw [e] at h3
  omega
theorem rnadd {s n i : Int32} (hs0 : 0 ≤ s) (hs : s ≤ 200) (hi : 0 ≤ i) (hn : 0 ≤ n) : (i ≤ s - n) ↔ i.toInt64 + n.toInt64 ≤ s.toInt64 := by
  obtain ⟨a, ha, rfl⟩ := nI_of (Int32.not_lt.mpr hs0)
  obtain ⟨b, hb, rfl⟩ := nI_of (Int32.not_lt.mpr hi)
  obtain ⟨c, hc, rfl⟩ := nI_of (Int32.not_lt.mpr hn)
  have h2 : a ≤ 200 := (nI_leI ha (by decide)).mp hs
  rw [nI_l ha, nI_l hb, nI_l hc, lN_add, pk_lLE (by omega) (by omega), Int32.le_iff_toInt_le, Int32.toInt_sub, nI_toInt ha, nI_toInt hb, nI_toInt hc]
  have e : ((a : Int) - c).bmod (2 ^ 32) = (a : Int) - c := by
    apply Int.bmod_eq_of_le <;> omega
  rw [e]
  omega
theorem cp_in {g : Nat → Nat → Int32} (hI : WI g) {r : Nat} (hr : r < 8) {i n : Int32} (h : hRun g r i n) : rn i + rn n ≤ 200 := by
  have z := rnsub (hI.1 r hr).1 (hI.1 r hr).2 h.1 h.2.1 h.2.2
  omega
def c9 (k : Nat) : Int32 := ([65, 63, 60, 56, 52, 39, 33, 25, 16] : List Int32).getD k 0
def s9 (k : Nat) : Int32 := ([0, 16, 25, 33, 39, 52, 56, 60, 63] : List Int32).getD k 0
/-- the reference's world: the object and its ten rows; y the items, zz the sizes, v what is moved -/
def MW (am : Nat → Nat) (cI : ClassId) (g : Nat → Nat → Int32) (y : Nat → Int32) (zz : Nat → Int32) (j : Nat → Int64) (f : Nat → Int32) (v : Nat → Int32) (X : va_W) : va_W :=
  (am 0, .inr (5, [.ref (am 1), .ref (am 2), .ref (am 3), .ref (am 4), .ref (am 5), .ref (am 6), .int (g 100 6), .int (g 100 0), .int (g 100 7), .ref (am 7), .ref (am 8), .ref (am 9), .ref (am 10), .long (j 0), .long (j 1), .int (f 0), .int (f 1), .int (f 2), .int (f 3), .int (g 100 1), .int (g 100 2), .int (g 100 3), .int (g 100 4), .int (g 100 5), .long (j 2), .long (j 3), .long (j 4), .long (j 5), .long (j 6), .long (j 7), .long (j 8)])) ::
  (am 1, .inl (cI, 9, .inl c9)) :: (am 2, .inl (cI, 9, .inl s9)) :: (am 3, .inl (cI, 8, .inl (g 4))) :: (am 4, .inl (cI, 8, .inl zz)) :: (am 5, .inl (cI, 1600, .inl y)) :: (am 6, .inl (cI, 200, .inl v)) ::
  (am 7, .inl (cI, 40, .inl (g 0))) :: (am 8, .inl (cI, 40, .inl (g 1))) :: (am 9, .inl (cI, 40, .inl (g 2))) :: (am 10, .inl (cI, 40, .inl (g 3))) :: X
/-- the reference's items and sizes beside the state -/
def RM (g : Nat → Nat → Int32) (y zz : Nat → Int32) : Prop := ∀ r, r < 8 → (∀ i, i < 200 → y (200 * r + i) = g (10 + r) i) ∧ (¬ g 4 r < 0 → zz r = g 5 r) ∧ 0 ≤ zz r ∧ zz r ≤ 200
/-- only the first five rows and the numbers stand in the reference's world -/
theorem MW_cg {am : Nat → Nat} {cI : ClassId} {g g' : Nat → Nat → Int32} {y zz : Nat → Int32} {j : Nat → Int64} {f v : Nat → Int32} {X : va_W} (h0 : g 0 = g' 0) (h1 : g 1 = g' 1) (h2 : g 2 = g' 2) (h3 : g 3 = g' 3) (h4 : g 4 = g' 4) (h5 : g 100 = g' 100) : MW am cI g y zz j f v X = MW am cI g' y zz j f v X := by
  unfold MW
  rw [h0, h1, h2, h3, h4, h5]
