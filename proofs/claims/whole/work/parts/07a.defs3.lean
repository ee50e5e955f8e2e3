/-! the calls' answers, and what they leave: the class and the reference are both held against these -/
def zr (g : Nat → Nat → Int32) (r n : Nat) : Nat → Nat → Int32 := va_up g (10 + r) (fun i => if i < n then 0 else g (10 + r) i)
theorem zr_0 (g : Nat → Nat → Int32) (r : Nat) : zr g r 0 = g := by
  funext a
  unfold zr va_up
  by_cases h : a = 10 + r
  · rw [if_pos h, h]
    funext i
    rw [if_neg (Nat.not_lt_zero i)]
  · rw [if_neg h]
theorem zr_s (g : Nat → Nat → Int32) (r : Nat) {i : Nat} (hi : i < 200) : up2 (zr g r i) (10 + r) (nI i).toNatClampNeg 0 = zr g r (i + 1) := by
  rw [nI_clamp (by omega)]
  funext a k
  unfold zr va_up up2
  by_cases h : a = 10 + r
  · simp only [if_pos h]
    by_cases hk : k = i
    · rw [if_pos hk, if_pos (by omega)]
    · rw [if_neg hk]
      by_cases h3 : k < i
      · rw [if_pos h3, if_pos (by omega)]
      · rw [if_neg h3, if_neg (by omega)]
  · simp only [if_neg h]
theorem zr_n (g : Nat → Nat → Int32) (r n : Nat) {a : Nat} (h : a < 10) : zr g r n a = g a := by
  unfold zr va_up
  rw [if_neg (by omega)]
theorem rc {r : Int32} (h : 0 ≤ r ∧ r < 8) : r.toNatClampNeg < 8 := Nat.not_le.mp fun q => (vin (N := 8) h.1 h.2 (by decide) (by decide)) (Or.inr q)
theorem rv {r : Int32} (h : 0 ≤ r ∧ r < 8) : vp_in r 8 := vin h.1 h.2 (by decide) (by decide)
abbrev isR (r : Int32) : Prop := 0 ≤ r ∧ r < 8
abbrev isF (f : Int32) : Prop := 0 ≤ f ∧ f ≤ 2
abbrev isP (g : Nat → Nat → Int32) (p : Int32) : Prop := 0 ≤ p ∧ p < g 100 7
abbrev isC (g : Nat → Nat → Int32) (c : Int32) : Prop := 0 ≤ c ∧ c ≤ g 100 0 - 1
abbrev rn (r : Int32) : Nat := r.toNatClampNeg
theorem nlast {n : Int32} {i : Nat} (h0 : 0 ≤ n) (hi : i ≤ rn n) (hc : n ≤ nI i) : rn n = i := by
  obtain ⟨k, hk, rfl⟩ := nI_of (Int32.not_lt.mpr h0)
  have hi : i ≤ (nI k).toNatClampNeg := hi
  unfold rn
  rw [nI_clamp hk] at hi ⊢
  have := (nI_leI hk (by omega)).mp hc
  omega
theorem nless {n : Int32} {i : Nat} (h0 : 0 ≤ n) (h1 : n ≤ 200) (hi : i ≤ rn n) (hc : ¬ n ≤ nI i) : i < rn n ∧ i < 200 := by
  obtain ⟨k, hk, rfl⟩ := nI_of (Int32.not_lt.mpr h0)
  have hi : i ≤ (nI k).toNatClampNeg := hi
  unfold rn
  rw [nI_clamp hk] at hi ⊢
  have h2 : k ≤ 200 := (nI_leI hk (by decide)).mp h1
  have : ¬ k ≤ i := fun q => hc ((nI_leI hk (by omega)).mpr q)
  omega
def fReel (r f n : Int32) : Int32 := if isR r ∧ isF f ∧ n ≤ 200 then (if n < 0 then -15 else n) else -2
def gReel (g : Nat → Nat → Int32) (r f n : Int32) : Nat → Nat → Int32 := if isR r ∧ isF f ∧ n ≤ 200 then (if n < 0 then up2 g 100 6 5 else zr (up2 (up2 g 4 (rn r) f) 5 (rn r) n) (rn r) (rn n)) else g
def fLose (g : Nat → Nat → Int32) (r : Int32) : Int32 := if isR r then (if g 4 (rn r) = -1 then -11 else g 5 (rn r)) else -2
def gLose (g : Nat → Nat → Int32) (r : Int32) : Nat → Nat → Int32 := if isR r then (if g 4 (rn r) = -1 then up2 g 100 6 1 else up2 (up2 g 4 (rn r) (-1)) 5 (rn r) 0) else g
def fPut (g : Nat → Nat → Int32) (r f i : Int32) : Int32 := if isR r ∧ isF f then (if fnd g (rn r) f i = 0 then 1 else -10 - fnd g (rn r) f i) else -2
def gPut (g : Nat → Nat → Int32) (r f i v : Int32) : Nat → Nat → Int32 := if isR r ∧ isF f then (if fnd g (rn r) f i = 0 then up2 g (10 + rn r) (rn i) (nrw (g 4 (rn r)) v) else up2 g 100 6 (fnd g (rn r) f i)) else g
def fGet (g : Nat → Nat → Int32) (r f i : Int32) : Int32 := if isR r ∧ isF f ∧ fnd g (rn r) f i = 0 then g (10 + rn r) (rn i) else -2147483648
def gGet (g : Nat → Nat → Int32) (r f i : Int32) : Nat → Nat → Int32 := if isR r ∧ isF f ∧ ¬ fnd g (rn r) f i = 0 then up2 g 100 6 (fnd g (rn r) f i) else g
abbrev hRun (g : Nat → Nat → Int32) (r : Nat) (i n : Int32) : Prop := 0 ≤ i ∧ 0 ≤ n ∧ i ≤ g 5 r - n
def kCopy (g : Nat → Nat → Int32) (r i q j n : Int32) : Int32 := if g 4 (rn r) = -1 ∨ g 4 (rn q) = -1 then 1 else if ¬ g 4 (rn r) = g 4 (rn q) then 4 else if hRun g (rn r) i n ∧ hRun g (rn q) j n then 0 else 2
def fCopy (g : Nat → Nat → Int32) (r i q j n : Int32) : Int32 := if isR r ∧ isR q then (if kCopy g r i q j n = 0 then 1 else -10 - kCopy g r i q j n) else -2
def gCopy (g : Nat → Nat → Int32) (r i q j n : Int32) : Nat → Nat → Int32 := if isR r ∧ isR q then (if kCopy g r i q j n = 0 then va_up g (10 + rn q) (va_cpy (g (10 + rn r)) (g (10 + rn q)) (rn i) (rn j) (rn n)) else up2 g 100 6 (kCopy g r i q j n)) else g
def fCells (g : Nat → Nat → Int32) (n : Int32) : Int32 := if 1 ≤ n ∧ n ≤ 16 then (if 0 < g 100 7 then -3 else g 100 0) else -2
def gCells (g : Nat → Nat → Int32) (n : Int32) : Nat → Nat → Int32 := if (1 ≤ n ∧ n ≤ 16) ∧ ¬ 0 < g 100 7 then up2 g 100 0 n else g
abbrev pgOk (h x y w : Int32) : Prop := (0 ≤ h ∧ h ≤ 35) ∧ (-1000000 ≤ x ∧ x ≤ 1000000) ∧ (-1000000 ≤ y ∧ y ≤ 1000000) ∧ 0 ≤ w ∧ w ≤ 16
def fPing (g : Nat → Nat → Int32) (h x y w : Int32) : Int32 := if pgOk h x y w then (if 40 ≤ g 100 7 then -4 else g 100 7) else -2
def gPing (g : Nat → Nat → Int32) (h x y w : Int32) : Nat → Nat → Int32 := if pgOk h x y w ∧ ¬ 40 ≤ g 100 7 then up2 (up2 (up2 (up2 (up2 g 0 (rn (g 100 7)) h) 1 (rn (g 100 7)) x) 2 (rn (g 100 7)) y) 3 (rn (g 100 7)) w) 100 7 (g 100 7 + 1) else g
def fMend (g : Nat → Nat → Int32) (p h : Int32) : Int32 := if (0 ≤ h ∧ h ≤ 35) ∧ isP g p then g 0 (rn p) else -2
def gMend (g : Nat → Nat → Int32) (p h : Int32) : Nat → Nat → Int32 := if (0 ≤ h ∧ h ≤ 35) ∧ isP g p then up2 g 0 (rn p) h else g
def fMotion (g : Nat → Nat → Int32) (h : Int32) : Int32 := if 0 ≤ h ∧ h ≤ 2 then g 100 1 else -2
def gMotion (g : Nat → Nat → Int32) (h : Int32) : Nat → Nat → Int32 := if 0 ≤ h ∧ h ≤ 2 then up2 g 100 1 h else g
def fSkew (g : Nat → Nat → Int32) (h : Int32) : Int32 := if 0 ≤ h ∧ h ≤ 35 then g 100 2 else -2
def gSkew (g : Nat → Nat → Int32) (h : Int32) : Nat → Nat → Int32 := if 0 ≤ h ∧ h ≤ 35 then up2 g 100 2 h else g
def fLaws (e w : Int32) : Int32 := if (0 ≤ e ∧ e ≤ 16) ∧ 0 ≤ w ∧ w ≤ 100000 then 1 else -2
def gLaws (g : Nat → Nat → Int32) (e t w : Int32) : Nat → Nat → Int32 := if (0 ≤ e ∧ e ≤ 16) ∧ 0 ≤ w ∧ w ≤ 100000 then up2 (up2 (up2 g 100 3 e) 100 4 t) 100 5 w else g
def fAbout (g : Nat → Nat → Int32) (p w : Int32) : Int32 := if isP g p then (if w = 0 then g 0 (rn p) else if w = 1 then g 1 (rn p) else if w = 2 then g 2 (rn p) else if w = 3 then g 3 (rn p) else if w = 4 then bI (oOk g p) else -2147483648) else -2147483648
abbrev lN2 : Int64 := (-9223372036854775808) - (-2 : Int32).toInt64
abbrev lN3 : Int64 := (-9223372036854775808) - (-3 : Int32).toInt64
def ownV (g : Nat → Nat → Int32) (p w : Int32) : Int64 := if w = 0 then xT (oD g p 0) (oD g p 1) (g 100 2) + oD g p 2 else yT (oD g p 0) (oD g p 1) (g 100 2) + oD g p 3
def fOwn (g : Nat → Nat → Int32) (p w : Int32) : Int64 := if isP g p ∧ 0 ≤ w ∧ w ≤ 1 then (if oOk g p then ownV g p w else lN3) else lN2
def fAnswer (a b c d w : Int32) : Int32 := if lo a b c d ≤ 1 then (if w = 0 then al a b c d else if w = 1 then ac a b c d else if w = 2 then od a b c d else if w = 3 then bI (lo a b c d = 1) else -2147483648) else -2147483648
abbrev isQ (v : Int32) : Prop := -20000 ≤ v ∧ v ≤ 20000
abbrev isPl (v : Int32) : Prop := -1000000 ≤ v ∧ v ≤ 1000000
def fBeam (a c o s b : Int32) : Int32 := if isQ a ∧ isQ c ∧ isQ o ∧ isPl s then (if b = 0 then s + o + 2 * a else if b = 1 then s + o - 2 * a else if b = 2 then s - o + 2 * c else if b = 3 then s - o - 2 * c else -2147483648) else -2147483648
def fTurned (x y t w : Int32) : Int32 := if isPl x ∧ isPl y ∧ (0 ≤ t ∧ t ≤ 35) ∧ 0 ≤ w ∧ w ≤ 1 then (if w = 0 then (xT x.toInt64 y.toInt64 t).toInt32 else (yT x.toInt64 y.toInt64 t).toInt32) else -2147483648
def fFate (g : Nat → Nat → Int32) (p c : Int32) : Int32 := if isP g p ∧ isC g c then fateV g p c (bI (oOk g p)) else -2
/-- the four numbers of a cell's pace -/
def pD (g : Nat → Nat → Int32) (p c : Int32) (k : Nat) : Int64 := if k = 0 then xT (rAl g 0 (itC g p c)).toInt64 (rAc g 0 (itC g p c)).toInt64 (rw_ g 0 p) - oD g p 0 else if k = 1 then yT (rAl g 0 (itC g p c)).toInt64 (rAc g 0 (itC g p c)).toInt64 (rw_ g 0 p) - oD g p 1 else if k = 2 then 0 - oD g p 2 else 0 - oD g p 3
def eV (g : Nat → Nat → Int32) (p c : Int32) : Int64 := xT (pD g p c 0) (pD g p c 1) (g 100 2) + pD g p c 2
def nV (g : Nat → Nat → Int32) (p c : Int32) : Int64 := yT (pD g p c 0) (pD g p c 1) (g 100 2) + pD g p c 3
def fPace (g : Nat → Nat → Int32) (p c w : Int32) : Int64 := if isP g p ∧ isC g c ∧ 0 ≤ w ∧ w ≤ 1 then (if oOk g p ∧ rLo g 0 (itC g p c) ≤ 1 then (if w = 0 then eV g p c else nV g p c) else lN3) else lN2
def fCount (g : Nat → Nat → Int32) (w : Int32) : Int32 := if w = 0 then g 100 7 else if w = 1 then g 100 0 else if w = 2 then g 100 1 else if w = 3 then g 100 2 else if w = 4 then g 100 3 else if w = 5 then g 100 6 else if w = 6 then g 100 5 else if w = 7 then bI (¬ g 100 4 = 0) else -2
/-- behind findOwn, readBeams and findPace: the pace's numbers -/
theorem pD_ok {g : Nat → Nat → Int32} {p c : Int32} {d d1 d2 : Nat → Nat → Int64} {b : Nat → Int32} {r : Int32} (h1 : foP g p d r d1) (ho : oOk g p) (hb : b 2 = rAl g 0 (itC g p c) ∧ b 3 = rAc g 0 (itC g p c)) (h2 : dP d1 1 (xT (b 2).toInt64 (b 3).toInt64 (rw_ g 0 p) - d1 0 0) (yT (b 2).toInt64 (b 3).toInt64 (rw_ g 0 p) - d1 0 1) (0 - d1 0 2) (0 - d1 0 3) d2) : (d2 1 0 = pD g p c 0 ∧ d2 1 1 = pD g p c 1 ∧ d2 1 2 = pD g p c 2 ∧ d2 1 3 = pD g p c 3) ∧ ∀ q, q ≠ 0 → q ≠ 1 → d2 q = d q := by
  obtain ⟨e0, e1, e2, e3⟩ := h1.2.1 ho
  obtain ⟨k0, k1, k2, k3, k4⟩ := h2
  refine ⟨⟨?_, ?_, ?_, ?_⟩, fun q hq hq1 => (k4 q hq1).trans (h1.2.2 q hq)⟩
  · rw [k0, hb.1, hb.2, e0]; rfl
  · rw [k1, hb.1, hb.2, e1]; rfl
  · rw [k2, e2]; rfl
  · rw [k3, e3]; rfl
theorem fnd_in {g : Nat → Nat → Int32} {r : Nat} {f i : Int32} (h : fnd g r f i = 0) : 0 ≤ i ∧ i < g 5 r := by
  unfold fnd at h
  grind
theorem bn01 {t : Int32} (h : t = 0 ∨ t = 1) : narrow .boolean (.int t) = .int t := by rcases h with rfl | rfl <;> rfl
theorem bf01 {t : Int32} (h : t = 0 ∨ t = 1) : fits .boolean (.int t) = true := by rcases h with rfl | rfl <;> rfl
