/-! the pure words -/
theorem vin {p n : Int32} {N : Nat} (h0 : 0 ≤ p) (h1 : p < n) (h2 : n ≤ Int32.ofNat N) (hN : N < 2 ^ 31) : vp_in p N := by
  rw [vp_in_iff]
  have e : (Int32.ofNat N).toInt = (N : Int) := nI_toInt hN
  have a := Int32.le_iff_toInt_le.mp h0
  have b := Int32.lt_iff_toInt_lt.mp h1
  have c := Int32.le_iff_toInt_le.mp h2
  have z : (0 : Int32).toInt = 0 := rfl
  rw [z] at a
  rw [e] at c
  omega
theorem n36 {t : Int32} (h0 : 0 ≤ t) (h1 : t < 36) : ∃ j : Nat, j < 36 ∧ t = nI j := by
  have q : vp_in t 36 := vin h0 h1 (by decide) (by decide)
  exact vp_in_of q (by decide)
theorem vin_s {t : Int32} (h0 : 0 ≤ t) (h1 : t < 36) : vp_in ((t + 27) - (t + 27) / 36 * 36) 36 := by
  obtain ⟨j, hj, rfl⟩ := n36 h0 h1
  have key : ∀ j : Nat, j < 36 → vp_in ((nI j + 27) - (nI j + 27) / 36 * 36) 36 := by
    unfold vp_in
    decide +kernel
  exact key j hj
def tuC (t : Int32) : Int64 := if 0 ≤ t ∧ t < 36 then (ct t.toNatClampNeg).toInt64 else 0
def tuS (t : Int32) : Int64 := if 0 ≤ t ∧ t < 36 then (ct ((t + 27) - (t + 27) / 36 * 36).toNatClampNeg).toInt64 else 0
def xT (x y : Int64) (t : Int32) : Int64 := tuC t * x - tuS t * y
def yT (x y : Int64) (t : Int32) : Int64 := tuS t * x + tuC t * y
abbrev nn (v : Int32) : Prop := v ≤ -128 ∨ 20000 < v
def bz (v : Int64) : Int64 := if 0 < v then -v else v
def rdC (g : Nat → Nat → Int32) (r : Nat) (i : Int32) : Int32 := if 0 ≤ i ∧ i < g 5 r then g (10 + r) i.toNatClampNeg else -128
def fnd (g : Nat → Nat → Int32) (r : Nat) (f i : Int32) : Int32 := if g 4 r = -1 then 1 else if ¬ g 4 r = f then 3 else if 0 ≤ i ∧ i < g 5 r then 0 else 2
def nrw (f v : Int32) : Int32 := if f = 0 then v.toInt8.toInt32 else if f = 1 then v.toInt16.toInt32 else v
/-- a row of the track at a ping -/
def rw_ (g : Nat → Nat → Int32) (j : Nat) (p : Int32) : Int32 := if 0 ≤ p ∧ p < g 100 7 then g j p.toNatClampNeg else 0
def ab (x : Int32) : Int32 := if 0 ≤ x then x else 0 - x
def mn (x y : Int32) : Int32 := if y < x then y else x
/-- what always holds of the state -/
def WI (g : Nat → Nat → Int32) : Prop := (∀ r, r < 8 → 0 ≤ g 5 r ∧ g 5 r ≤ 200) ∧ (0 ≤ g 100 7 ∧ g 100 7 ≤ 40) ∧ (1 ≤ g 100 0 ∧ g 100 0 ≤ 16) ∧ (0 ≤ g 100 1 ∧ g 100 1 ≤ 2) ∧ (0 ≤ g 100 2 ∧ g 100 2 < 36) ∧ (0 ≤ g 100 3 ∧ g 100 3 ≤ 16) ∧ (g 100 4 = 0 ∨ g 100 4 = 1) ∧ (0 ≤ g 100 5 ∧ g 100 5 ≤ 100000) ∧ (∀ p : Nat, nI p < g 100 7 → p < 40 → (0 ≤ g 0 p ∧ g 0 p < 36) ∧ (-1000000 ≤ g 1 p ∧ g 1 p ≤ 1000000) ∧ (-1000000 ≤ g 2 p ∧ g 2 p ≤ 1000000) ∧ 0 ≤ g 3 p ∧ g 3 p ≤ 16) ∧ ∀ r, r < 8 → (-1 ≤ g 4 r ∧ g 4 r ≤ 2) ∧ (g 4 r < 0 → g 5 r = 0)
/-! beams -/
def lo (a b c d : Int32) : Int32 := bI (nn a) + bI (nn b) + bI (nn c) + bI (nn d)
def f1 (a b c d : Int32) : Int32 := if nn a then c + d - b else a
def f2 (a b c d : Int32) : Int32 := if nn b then c + d - a else b
def f3 (a b c d : Int32) : Int32 := if nn c then a + b - d else c
def f4 (a b c d : Int32) : Int32 := if nn d then a + b - c else d
def al (a b c d : Int32) : Int32 := f1 a b c d - f2 a b c d
def ac (a b c d : Int32) : Int32 := f3 a b c d - f4 a b c d
def od (a b c d : Int32) : Int32 := f1 a b c d + f2 a b c d - f3 a b c d - f4 a b c d
/-- what take leaves -/
def tkP (a b c d : Int32) (u : Nat → Int32) : Prop := u 0 = bI (lo a b c d ≤ 1) ∧ u 1 = bI (lo a b c d = 1) ∧ (lo a b c d ≤ 1 → u 2 = al a b c d ∧ u 3 = ac a b c d ∧ u 4 = od a b c d)
/-- the four readings of beams from a reel on -/
def rdP (g : Nat → Nat → Int32) (r : Nat) (i : Int32) (u : Nat → Int32) : Prop := tkP (rdC g r i) (rdC g (r + 1) i) (rdC g (r + 2) i) (rdC g (r + 3) i) u
def rLo (g : Nat → Nat → Int32) (r : Nat) (i : Int32) : Int32 := lo (rdC g r i) (rdC g (r + 1) i) (rdC g (r + 2) i) (rdC g (r + 3) i)
def rAl (g : Nat → Nat → Int32) (r : Nat) (i : Int32) : Int32 := al (rdC g r i) (rdC g (r + 1) i) (rdC g (r + 2) i) (rdC g (r + 3) i)
def rAc (g : Nat → Nat → Int32) (r : Nat) (i : Int32) : Int32 := ac (rdC g r i) (rdC g (r + 1) i) (rdC g (r + 2) i) (rdC g (r + 3) i)
def rOd (g : Nat → Nat → Int32) (r : Nat) (i : Int32) : Int32 := od (rdC g r i) (rdC g (r + 1) i) (rdC g (r + 2) i) (rdC g (r + 3) i)
/-- OWN: whether there is one, and its four numbers -/
abbrev oOk (g : Nat → Nat → Int32) (p : Int32) : Prop := (g 100 1 = 1 → rLo g 4 p ≤ 1) ∧ (g 100 1 = 2 → 0 ≤ p + 1 ∧ p + 1 < g 100 7)
def oD (g : Nat → Nat → Int32) (p : Int32) (k : Nat) : Int64 := if g 100 1 = 1 then (if k = 0 then xT (rAl g 4 p).toInt64 (rAc g 4 p).toInt64 (rw_ g 0 p) else if k = 1 then yT (rAl g 4 p).toInt64 (rAc g 4 p).toInt64 (rw_ g 0 p) else 0) else if g 100 1 = 2 then (if k = 2 then 4225 * (rw_ g 1 (p + 1) - rw_ g 1 p).toInt64 else if k = 3 then 4225 * (rw_ g 2 (p + 1) - rw_ g 2 p).toInt64 else 0) else 0
/-- a drift's four numbers, the other drifts as they were -/
def dP (d : Nat → Nat → Int64) (k : Nat) (a0 a1 a2 a3 : Int64) (u : Nat → Nat → Int64) : Prop := u k 0 = a0 ∧ u k 1 = a1 ∧ u k 2 = a2 ∧ u k 3 = a3 ∧ ∀ q, q ≠ k → u q = d q
theorem up2_s {α : Type} (f : Nat → Nat → α) (a b : Nat) (v : α) : up2 f a b v a b = v := by simp [up2]
theorem up2_n {α : Type} (f : Nat → Nat → α) {a b x y : Nat} (v : α) (h : x ≠ a ∨ y ≠ b) : up2 f a b v x y = f x y := by
  unfold up2
  by_cases h1 : x = a
  · rw [if_pos h1]
    rcases h with h | h
    · exact absurd h1 h
    · rw [if_neg h]
  · rw [if_neg h1]
theorem up2_r {α : Type} (f : Nat → Nat → α) {a b x : Nat} (v : α) (h : x ≠ a) : up2 f a b v x = f x := by
  funext y
  exact up2_n f v (Or.inl h)
theorem dP_4 (d : Nat → Nat → Int64) (k : Nat) (a0 a1 a2 a3 : Int64) : dP d k a0 a1 a2 a3 (up2 (up2 (up2 (up2 d k 0 a0) k 1 a1) k 2 a2) k 3 a3) := by
  refine ⟨by simp [up2], by simp [up2], by simp [up2], by simp [up2], fun q hq => ?_⟩
  rw [up2_r _ _ hq, up2_r _ _ hq, up2_r _ _ hq, up2_r _ _ hq]
theorem dP_a (d : Nat → Nat → Int64) (k : Nat) (a0 a1 : Int64) : dP d k a0 a1 (d k 2) (d k 3) (up2 (up2 d k 0 a0) k 1 a1) := by
  refine ⟨by simp [up2], by simp [up2], by simp [up2], by simp [up2], fun q hq => ?_⟩
  rw [up2_r _ _ hq, up2_r _ _ hq]
theorem dP_b (d : Nat → Nat → Int64) (k : Nat) (a0 a1 : Int64) : dP d k (d k 0) (d k 1) a0 a1 (up2 (up2 d k 2 a0) k 3 a1) := by
  refine ⟨by simp [up2], by simp [up2], by simp [up2], by simp [up2], fun q hq => ?_⟩
  rw [up2_r _ _ hq, up2_r _ _ hq]
theorem tk_no {a b c d x v1 v2 : Int32} {u0 : Nat → Int32} (ex : x = bI (nn a) + bI (nn b) + bI (nn c) + bI (nn d)) (h1 : v1 = bI (x ≤ 1)) (h2 : v2 = bI (x = 1)) (hc : v1 = 0) : tkP a b c d (va_up (va_up u0 0 v1) 1 v2) := by
  have ex : x = lo a b c d := ex
  subst ex
  refine ⟨by simp [va_up, h1], by simp [va_up, h2], fun h => ?_⟩
  rw [h1] at hc
  exact absurd h (bI_0.mp hc)
theorem tk_yes {a b c d x v1 v2 w1 w2 w3 w4 : Int32} {u0 : Nat → Int32} (ex : x = bI (nn a) + bI (nn b) + bI (nn c) + bI (nn d)) (h1 : v1 = bI (x ≤ 1)) (h2 : v2 = bI (x = 1)) (e1 : w1 = if nn a then c + d - b else a) (e2 : w2 = if nn b then c + d - a else b) (e3 : w3 = if nn c then a + b - d else c) (e4 : w4 = if nn d then a + b - c else d) : tkP a b c d (va_up (va_up (va_up (va_up (va_up u0 0 v1) 1 v2) 2 (w1 - w2)) 3 (w3 - w4)) 4 (w1 + w2 - w3 - w4)) := by
  have ex : x = lo a b c d := ex
  subst ex
  refine ⟨by simp [va_up, h1], by simp [va_up, h2], fun _ => ⟨?_, ?_, ?_⟩⟩
  · simp only [va_up, e1, e2]; rfl
  · simp only [va_up, e3, e4]; rfl
  · simp only [va_up, e1, e2, e3, e4]; rfl
/-- what findOwn leaves -/
def foP (g : Nat → Nat → Int32) (p : Int32) (d : Nat → Nat → Int64) (r : Int32) (u : Nat → Nat → Int64) : Prop := r = bI (oOk g p) ∧ (oOk g p → u 0 0 = oD g p 0 ∧ u 0 1 = oD g p 1 ∧ u 0 2 = oD g p 2 ∧ u 0 3 = oD g p 3) ∧ ∀ q, q ≠ 0 → u q = d q
theorem fo_A {g : Nat → Nat → Int32} {p : Int32} {d u : Nat → Nat → Int64} (h1 : ¬ g 100 1 = 1) (h2 : ¬ g 100 1 = 2) (hu : dP d 0 0 0 0 0 u) : foP g p d 1 u := by
  obtain ⟨e0, e1, e2, e3, e4⟩ := hu
  refine ⟨(bI_t ⟨fun h => absurd h h1, fun h => absurd h h2⟩).symm, fun _ => ?_, e4⟩
  simp only [oD, if_neg h1, if_neg h2]
  exact ⟨e0, e1, e2, e3⟩
theorem fo_B {g : Nat → Nat → Int32} {p : Int32} {d u : Nat → Nat → Int64} {b : Nat → Int32} (h1 : g 100 1 = 1) (hb : rdP g 4 p b) (hc : b 0 = 0) (hu : dP d 0 0 0 0 0 u) : foP g p d 0 u := by
  obtain ⟨e0, e1, e2, e3, e4⟩ := hu
  have q : ¬ rLo g 4 p ≤ 1 := by
    have := hb.1
    rw [hc] at this
    exact bI_0.mp this.symm
  have n : ¬ oOk g p := fun h => q (h.1 h1)
  exact ⟨(bI_f n).symm, fun h => absurd h n, e4⟩
theorem fo_C {g : Nat → Nat → Int32} {p : Int32} {d u u2 : Nat → Nat → Int64} {b : Nat → Int32} (h1 : g 100 1 = 1) (hb : rdP g 4 p b) (hc : ¬ b 0 = 0) (hu : dP d 0 0 0 0 0 u) (hu2 : dP u 0 (xT (b 2).toInt64 (b 3).toInt64 (rw_ g 0 p)) (yT (b 2).toInt64 (b 3).toInt64 (rw_ g 0 p)) (u 0 2) (u 0 3) u2) : foP g p d 1 u2 := by
  obtain ⟨e0, e1, e2, e3, e4⟩ := hu
  obtain ⟨k0, k1, k2, k3, k4⟩ := hu2
  have q : rLo g 4 p ≤ 1 := by
    have := hb.1
    rw [this] at hc
    exact bI_n0.mp hc
  obtain ⟨z1, z2, -⟩ := hb.2.2 q
  have h2 : ¬ g 100 1 = 2 := by rw [h1]; decide
  refine ⟨(bI_t ⟨fun _ => q, fun h => absurd h h2⟩).symm, fun _ => ?_, fun q hq => (k4 q hq).trans (e4 q hq)⟩
  simp only [oD, if_pos h1]
  refine ⟨?_, ?_, ?_, ?_⟩
  · rw [k0, z1, z2]; rfl
  · rw [k1, z1, z2]; rfl
  · rw [k2, e2]; rfl
  · rw [k3, e3]; rfl
theorem fo_D {g : Nat → Nat → Int32} {p : Int32} {d u : Nat → Nat → Int64} (h2 : g 100 1 = 2) (hc : ¬ (0 ≤ p + 1 ∧ p + 1 < g 100 7)) (hu : dP d 0 0 0 0 0 u) : foP g p d 0 u := by
  have n : ¬ oOk g p := fun h => hc (h.2 h2)
  exact ⟨(bI_f n).symm, fun h => absurd h n, hu.2.2.2.2⟩
theorem fo_E {g : Nat → Nat → Int32} {p : Int32} {d u u2 : Nat → Nat → Int64} (h2 : g 100 1 = 2) (hc : 0 ≤ p + 1 ∧ p + 1 < g 100 7) (hu : dP d 0 0 0 0 0 u) (hu2 : dP u 0 (u 0 0) (u 0 1) (4225 * (rw_ g 1 (p + 1) - rw_ g 1 p).toInt64) (4225 * (rw_ g 2 (p + 1) - rw_ g 2 p).toInt64) u2) : foP g p d 1 u2 := by
  obtain ⟨e0, e1, e2, e3, e4⟩ := hu
  obtain ⟨k0, k1, k2, k3, k4⟩ := hu2
  have h1 : ¬ g 100 1 = 1 := by rw [h2]; decide
  refine ⟨(bI_t ⟨fun h => absurd h h1, fun _ => hc⟩).symm, fun _ => ?_, fun q hq => (k4 q hq).trans (e4 q hq)⟩
  simp only [oD, if_neg h1, if_pos h2]
  refine ⟨?_, ?_, ?_, ?_⟩
  · rw [k0, e0]; rfl
  · rw [k1, e1]; rfl
  · rw [k2]; rfl
  · rw [k3]; rfl
theorem fp_ok {d u1 u2 u3 : Nat → Nat → Int64} {x y : Int64} (h1 : dP d 1 0 0 0 0 u1) (h2 : dP u1 1 x y (u1 1 2) (u1 1 3) u2) (h3 : dP u2 1 (u2 1 0 - u2 0 0) (u2 1 1 - u2 0 1) (u2 1 2 - u2 0 2) (u2 1 3 - u2 0 3) u3) : dP d 1 (x - d 0 0) (y - d 0 1) (0 - d 0 2) (0 - d 0 3) u3 := by
  obtain ⟨a0, a1, a2, a3, a4⟩ := h1
  obtain ⟨b0, b1, b2, b3, b4⟩ := h2
  obtain ⟨c0, c1, c2, c3, c4⟩ := h3
  have z : u2 0 = d 0 := (b4 0 (by decide)).trans (a4 0 (by decide))
  refine ⟨?_, ?_, ?_, ?_, fun q hq => ((c4 q hq).trans (b4 q hq)).trans (a4 q hq)⟩
  · rw [c0, b0, z]
  · rw [c1, b1, z]
  · rw [c2, b2, a2, z]
  · rw [c3, b3, a3, z]
/-- the fate of a cell; the item of its readings -/
abbrev itC (g : Nat → Nat → Int32) (p c : Int32) : Int32 := g 100 0 * p + c
def fateV (g : Nat → Nat → Int32) (p c h : Int32) : Int32 := if h = 0 then 1 else if ¬ rLo g 0 (itC g p c) ≤ 1 then 2 else if rw_ g 3 p ≤ c + g 100 3 then 3 else if rLo g 0 (itC g p c) = 1 ∧ g 100 4 = 0 then 4 else if ¬ (-g 100 5 ≤ rOd g 0 (itC g p c) ∧ rOd g 0 (itC g p c) ≤ g 100 5) then 5 else if (-20000 ≤ rAl g 0 (itC g p c) ∧ rAl g 0 (itC g p c) ≤ 20000) ∧ -20000 ≤ rAc g 0 (itC g p c) ∧ rAc g 0 (itC g p c) ≤ 20000 then 0 else 6
def jdP (g : Nat → Nat → Int32) (p c h r : Int32) (u : Nat → Int32) : Prop := r = fateV g p c h ∧ (¬ h = 0 → rLo g 0 (itC g p c) ≤ 1 → u 2 = rAl g 0 (itC g p c) ∧ u 3 = rAc g 0 (itC g p c))
theorem jd_1 {g : Nat → Nat → Int32} {p c h : Int32} {u : Nat → Int32} (h0 : h = 0) : jdP g p c h 1 u := ⟨by simp only [fateV, if_pos h0], fun q => absurd h0 q⟩
theorem jd_a {g : Nat → Nat → Int32} {p c : Int32} {u : Nat → Int32} (hu : rdP g 0 (itC g p c) u) (hc : ¬ u 0 = 0) : rLo g 0 (itC g p c) ≤ 1 := by
  have := hu.1
  rw [this] at hc
  exact bI_n0.mp hc
theorem jd_2 {g : Nat → Nat → Int32} {p c h : Int32} {u : Nat → Int32} (h0 : ¬ h = 0) (hu : rdP g 0 (itC g p c) u) (hc : u 0 = 0) : jdP g p c h 2 u := by
  have q : ¬ rLo g 0 (itC g p c) ≤ 1 := by
    have := hu.1
    rw [hc] at this
    exact bI_0.mp this.symm
  exact ⟨by simp only [fateV, if_neg h0, if_pos q], fun _ z => absurd z q⟩
theorem jd_x {g : Nat → Nat → Int32} {p c h r : Int32} {u : Nat → Int32} (h0 : ¬ h = 0) (hu : rdP g 0 (itC g p c) u) (hc : ¬ u 0 = 0) (hr : r = if rw_ g 3 p ≤ c + g 100 3 then 3 else if ¬ u 1 = 0 ∧ g 100 4 = 0 then 4 else if ¬ (-g 100 5 ≤ u 4 ∧ u 4 ≤ g 100 5) then 5 else if (-20000 ≤ u 2 ∧ u 2 ≤ 20000) ∧ -20000 ≤ u 3 ∧ u 3 ≤ 20000 then 0 else 6) : jdP g p c h r u := by
  have q := jd_a hu hc
  obtain ⟨z1, z2, z3⟩ := hu.2.2 q
  have z4 : (¬ u 1 = 0) = (rLo g 0 (itC g p c) = 1) := by rw [hu.2.1]; exact propext bI_n0
  refine ⟨?_, fun _ _ => ⟨z1, z2⟩⟩
  rw [hr]
  simp only [fateV, if_neg h0, if_neg (not_not_intro q), z1, z2, z3, z4]
  rfl
theorem rl_in {r : Nat} {r0 : Int32} (hr : r < 8) (he : r0 = nI r) : 0 ≤ r0 ∧ r0 < 8 := by
  subst he
  exact ⟨nI_pos' (by omega), (nI_ltI (by omega) (by decide)).mpr hr⟩
theorem rl_vin {r : Nat} {r0 : Int32} (hr : r < 8) (he : r0 = nI r) : vp_in r0 8 := by
  subst he
  exact vp_in_nI hr (by decide)
theorem rl_ad {ad : Nat → Nat} {r : Nat} {r0 : Int32} (hr : r < 8) (he : r0 = nI r) : some (ad (12 + r0.toNatClampNeg)) = some (ad (12 + r)) := by
  subst he
  rw [nI_clamp (by omega)]
