/-! sums, flows, turns, digests -/
def sI (f : Nat → Int32) : Nat → Int32
  | 0 => 0
  | n + 1 => sI f n + f n
def sL (f : Nat → Int64) : Nat → Int64
  | 0 => 0
  | n + 1 => sL f n + f n
abbrev gdF (g : Nat → Nat → Int32) (p c : Int32) : Int32 := fateV g p c (bI (oOk g p))
def fts (g : Nat → Nat → Int32) (p w : Int32) (n : Nat) : Int32 := sI (fun c => bI (gdF g p (nI c) = w)) n
def fFates (g : Nat → Nat → Int32) (w : Int32) : Int32 := if 0 ≤ w ∧ w ≤ 6 then sI (fun q => fts g (nI q) w (rn (g 100 0))) (rn (g 100 7)) else -2
theorem nlessN {n : Int32} {i N : Nat} (h0 : 0 ≤ n) (h1 : n ≤ Int32.ofNat N) (hN : N < 2 ^ 31) (hi : i ≤ rn n) (hc : ¬ n ≤ nI i) : i < rn n ∧ i < N := by
  obtain ⟨k, hk, rfl⟩ := nI_of (Int32.not_lt.mpr h0)
  have hi : i ≤ (nI k).toNatClampNeg := hi
  unfold rn
  rw [nI_clamp hk] at hi ⊢
  have h2 : k ≤ N := (nI_leI hk hN).mp h1
  have : ¬ k ≤ i := fun q => hc ((nI_leI hk (by omega)).mpr q)
  omega
theorem rnle {n : Int32} {N : Nat} (h0 : 0 ≤ n) (h1 : n ≤ Int32.ofNat N) (hN : N < 2 ^ 31) : rn n ≤ N := by
  obtain ⟨k, hk, rfl⟩ := nI_of (Int32.not_lt.mpr h0)
  unfold rn
  rw [nI_clamp hk]
  exact (nI_leI hk hN).mp h1
theorem rnI {n : Int32} (h0 : 0 ≤ n) : n = nI (rn n) := by
  obtain ⟨k, hk, rfl⟩ := nI_of (Int32.not_lt.mpr h0)
  unfold rn
  rw [nI_clamp hk]
theorem la0 {g : Nat → Nat → Int32} (hI : WI g) : 0 ≤ g 100 0 := Int32.le_trans (by decide) hI.2.2.1.1
theorem laN {g : Nat → Nat → Int32} (hI : WI g) {i : Nat} (hi : i ≤ rn (g 100 0)) (hc : ¬ g 100 0 ≤ nI i) : i < rn (g 100 0) ∧ i < 16 := nlessN (la0 hI) hI.2.2.1.2 (by decide) hi hc
theorem nuN {g : Nat → Nat → Int32} (hI : WI g) {i : Nat} (hi : i ≤ rn (g 100 7)) (hc : ¬ g 100 7 ≤ nI i) : i < rn (g 100 7) ∧ i < 40 := nlessN hI.2.1.1 hI.2.1.2 (by decide) hi hc
theorem gd0 {g : Nat → Nat → Int32} {p c : Int32} (h : gdF g p c = 0) : oOk g p ∧ rLo g 0 (itC g p c) ≤ 1 := by
  unfold gdF fateV at h
  by_cases h1 : bI (oOk g p) = 0
  · rw [if_pos h1] at h; exact absurd h (by decide)
  · rw [if_neg h1] at h
    refine ⟨bI_n0.mp h1, ?_⟩
    by_cases h2 : rLo g 0 (itC g p c) ≤ 1
    · exact h2
    · rw [if_pos h2] at h; exact absurd h (by decide)
/-- own's numbers stand in the first drift -/
def owP (g : Nat → Nat → Int32) (p : Int32) (d : Nat → Nat → Int64) : Prop := oOk g p → d 0 0 = oD g p 0 ∧ d 0 1 = oD g p 1 ∧ d 0 2 = oD g p 2 ∧ d 0 3 = oD g p 3
theorem pD_ok2 {g : Nat → Nat → Int32} {p c : Int32} {d d2 : Nat → Nat → Int64} {b : Nat → Int32} (ho : owP g p d) (h0 : gdF g p c = 0) (hj : jdP g p c (bI (oOk g p)) (gdF g p c) b) (h2 : dP d 1 (xT (b 2).toInt64 (b 3).toInt64 (rw_ g 0 p) - d 0 0) (yT (b 2).toInt64 (b 3).toInt64 (rw_ g 0 p) - d 0 1) (0 - d 0 2) (0 - d 0 3) d2) : (d2 1 0 = pD g p c 0 ∧ d2 1 1 = pD g p c 1 ∧ d2 1 2 = pD g p c 2 ∧ d2 1 3 = pD g p c 3) ∧ (owP g p d2) ∧ ∀ q, q ≠ 1 → d2 q = d q := by
  obtain ⟨hok, hlo⟩ := gd0 h0
  obtain ⟨e0, e1, e2, e3⟩ := ho hok
  obtain ⟨z1, z2⟩ := hj.2 (by rw [bI_0]; exact fun q => q hok) hlo
  obtain ⟨k0, k1, k2, k3, k4⟩ := h2
  refine ⟨⟨?_, ?_, ?_, ?_⟩, fun _ => ?_, k4⟩
  · rw [k0, z1, z2, e0]; rfl
  · rw [k1, z1, z2, e1]; rfl
  · rw [k2, e2]; rfl
  · rw [k3, e3]; rfl
  · rw [k4 0 (by decide)]; exact ⟨e0, e1, e2, e3⟩
def cd (g : Nat → Nat → Int32) (p c : Int32) (k : Nat) : Int64 := if gdF g p c = 0 then pD g p c k else 0
def cnt (g : Nat → Nat → Int32) (p c : Int32) : Int32 := bI (gdF g p c = 0)
def bxN (g : Nat → Nat → Int32) (P C a n : Nat) : Int32 := sI (fun x => sI (fun y => cnt g (nI (P + x)) (nI (C + y))) n) a
def bxD (g : Nat → Nat → Int32) (P C a n k : Nat) : Int64 := sL (fun x => sL (fun y => cd g (nI (P + x)) (nI (C + y)) k) n) a
/-- behind some whole rows of a box -/
def sgP (g : Nat → Nat → Int32) (d0 : Nat → Nat → Int64) (k P C n i : Nat) (mm : Int32) (d : Nat → Nat → Int64) : Prop := mm = bxN g P C i n ∧ (d k 0 = bxD g P C i n 0 ∧ d k 1 = bxD g P C i n 1 ∧ d k 2 = bxD g P C i n 2 ∧ d k 3 = bxD g P C i n 3) ∧ ∀ q, q ≠ 0 → q ≠ 1 → q ≠ k → d q = d0 q
/-- within a row -/
def siP (g : Nat → Nat → Int32) (d0 : Nat → Nat → Int64) (k P C n i y : Nat) (mm : Int32) (d : Nat → Nat → Int64) : Prop := owP g (nI (P + i)) d ∧ mm = bxN g P C i n + sI (fun y => cnt g (nI (P + i)) (nI (C + y))) y ∧ (d k 0 = bxD g P C i n 0 + sL (fun y => cd g (nI (P + i)) (nI (C + y)) 0) y ∧ d k 1 = bxD g P C i n 1 + sL (fun y => cd g (nI (P + i)) (nI (C + y)) 1) y ∧ d k 2 = bxD g P C i n 2 + sL (fun y => cd g (nI (P + i)) (nI (C + y)) 2) y ∧ d k 3 = bxD g P C i n 3 + sL (fun y => cd g (nI (P + i)) (nI (C + y)) 3) y) ∧ ∀ q, q ≠ 0 → q ≠ 1 → q ≠ k → d q = d0 q
theorem sg_0 {g : Nat → Nat → Int32} {d0 d : Nat → Nat → Int64} {k P C n : Nat} (h : dP d0 k 0 0 0 0 d) : sgP g d0 k P C n 0 0 d := ⟨rfl, ⟨h.1, h.2.1, h.2.2.1, h.2.2.2.1⟩, fun q _ _ hq => h.2.2.2.2 q hq⟩
theorem si_0 {g : Nat → Nat → Int32} {d0 d d1 : Nat → Nat → Int64} {k P C n i : Nat} {mm r : Int32} (hk : 2 ≤ k) (h : sgP g d0 k P C n i mm d) (hf : foP g (nI (P + i)) d r d1) : siP g d0 k P C n i 0 mm d1 := by
  obtain ⟨h1, ⟨a0, a1, a2, a3⟩, h2⟩ := h
  have e := hf.2.2 k (by omega)
  refine ⟨hf.2.1, ?_, ⟨?_, ?_, ?_, ?_⟩, fun q q0 q1 qk => (hf.2.2 q q0).trans (h2 q q0 q1 qk)⟩
  · rw [h1]; simp [sI]
  · rw [e, a0]; simp [sL]
  · rw [e, a1]; simp [sL]
  · rw [e, a2]; simp [sL]
  · rw [e, a3]; simp [sL]
theorem si_no {g : Nat → Nat → Int32} {d0 d : Nat → Nat → Int64} {k P C n i y : Nat} {mm : Int32} (h : siP g d0 k P C n i y mm d) (hc : ¬ gdF g (nI (P + i)) (nI (C + y)) = 0) : siP g d0 k P C n i (y + 1) mm d := by
  obtain ⟨h0, h1, ⟨a0, a1, a2, a3⟩, h2⟩ := h
  refine ⟨h0, ?_, ⟨?_, ?_, ?_, ?_⟩, h2⟩
  · rw [h1]; simp [sI, cnt, bI, hc]
  · rw [a0]; simp [sL, cd, hc]
  · rw [a1]; simp [sL, cd, hc]
  · rw [a2]; simp [sL, cd, hc]
  · rw [a3]; simp [sL, cd, hc]
theorem si_yes {g : Nat → Nat → Int32} {d0 d d2 d3 : Nat → Nat → Int64} {k P C n i y : Nat} {mm m2 : Int32} {b : Nat → Int32} (hk : 2 ≤ k) (h : siP g d0 k P C n i y mm d) (hc : gdF g (nI (P + i)) (nI (C + y)) = 0) (hj : jdP g (nI (P + i)) (nI (C + y)) (bI (oOk g (nI (P + i)))) (gdF g (nI (P + i)) (nI (C + y))) b) (h2 : dP d 1 (xT (b 2).toInt64 (b 3).toInt64 (rw_ g 0 (nI (P + i))) - d 0 0) (yT (b 2).toInt64 (b 3).toInt64 (rw_ g 0 (nI (P + i))) - d 0 1) (0 - d 0 2) (0 - d 0 3) d2) (h3 : dP d2 k (d2 k 0 + d2 1 0) (d2 k 1 + d2 1 1) (d2 k 2 + d2 1 2) (d2 k 3 + d2 1 3) d3) (hm : m2 = mm + 1) : siP g d0 k P C n i (y + 1) m2 d3 := by
  obtain ⟨h0, h1, ⟨a0, a1, a2, a3⟩, h4⟩ := h
  obtain ⟨⟨e0, e1, e2, e3⟩, ho, hq⟩ := pD_ok2 h0 hc hj h2
  obtain ⟨k0, k1, k2, k3, k4⟩ := h3
  have ek := hq k (by omega)
  refine ⟨fun z => ?_, ?_, ⟨?_, ?_, ?_, ?_⟩, fun q q0 q1 qk => (k4 q qk).trans ((hq q q1).trans (h4 q q0 q1 qk))⟩
  · rw [k4 0 (by omega)]; exact ho z
  · rw [hm, h1]; simp only [sI, cnt, bI, if_pos hc]; rw [Int32.add_assoc]
  · rw [k0, ek, a0, e0]; simp only [sL, cd, if_pos hc]; rw [Int64.add_assoc]
  · rw [k1, ek, a1, e1]; simp only [sL, cd, if_pos hc]; rw [Int64.add_assoc]
  · rw [k2, ek, a2, e2]; simp only [sL, cd, if_pos hc]; rw [Int64.add_assoc]
  · rw [k3, ek, a3, e3]; simp only [sL, cd, if_pos hc]; rw [Int64.add_assoc]
theorem sg_s {g : Nat → Nat → Int32} {d0 d : Nat → Nat → Int64} {k P C n i : Nat} {mm : Int32} (h : siP g d0 k P C n i n mm d) : sgP g d0 k P C n (i + 1) mm d := ⟨h.2.1, h.2.2.1, h.2.2.2⟩
theorem sg_s2 {g : Nat → Nat → Int32} {d0 d : Nat → Nat → Int64} {k P C n i y : Nat} {mm : Int32} (hy : y = n) (h : siP g d0 k P C n i y mm d) : sgP g d0 k P C n (i + 1) mm d := by
  subst hy
  exact sg_s h
theorem ngt {a b : Nat} (ha : a < 100) (hb : b < 100) : nI a < nI b ↔ a < b := nI_ltI (by omega) (by omega)
/-- the least miss -/
def mbz (a0 a1 a2 a3 : Int64) (t : Int32) : Int64 := if bz (yT a0 a1 t + a3) < bz (xT a0 a1 t + a2) then bz (yT a0 a1 t + a3) else bz (xT a0 a1 t + a2)
def tlS (a0 a1 a2 a3 : Int64) : Nat → Int32 × Int64
  | 0 => (0, mbz a0 a1 a2 a3 0)
  | n + 1 => if (tlS a0 a1 a2 a3 n).2 < mbz a0 a1 a2 a3 (nI (n + 1)) then (nI (n + 1), mbz a0 a1 a2 a3 (nI (n + 1))) else tlS a0 a1 a2 a3 n
theorem tl_no {a0 a1 a2 a3 le : Int64} {i : Nat} {bs : Int32} (h : (bs, le) = tlS a0 a1 a2 a3 i) (hc : mbz a0 a1 a2 a3 (nI (i + 1)) ≤ le) : (bs, le) = tlS a0 a1 a2 a3 (i + 1) := by
  show _ = if (tlS a0 a1 a2 a3 i).2 < _ then _ else tlS a0 a1 a2 a3 i
  rw [← h, if_neg (Int64.not_lt.mpr hc)]
theorem tl_yes {a0 a1 a2 a3 le : Int64} {i : Nat} {bs : Int32} (h : (bs, le) = tlS a0 a1 a2 a3 i) (hc : ¬ mbz a0 a1 a2 a3 (nI (i + 1)) ≤ le) : (nI (i + 1), mbz a0 a1 a2 a3 (nI (i + 1))) = tlS a0 a1 a2 a3 (i + 1) := by
  show _ = if (tlS a0 a1 a2 a3 i).2 < _ then _ else tlS a0 a1 a2 a3 i
  rw [← h, if_pos (Int64.not_le.mp hc)]
abbrev near (g : Nat → Nat → Int32) (p q y : Int32) : Prop := ab (rw_ g 1 q - rw_ g 1 p) ≤ y ∧ ab (rw_ g 2 q - rw_ g 2 p) ≤ y
def clo (g : Nat → Nat → Int32) (p y : Int32) : Nat → Nat → Int32
  | 0, _ => -1
  | n + 1, i => if near g p (nI i) y then nI i else clo g p y n (i + 1)
def fCloses (g : Nat → Nat → Int32) (p y : Int32) : Int32 := if isP g p ∧ 0 ≤ y ∧ y ≤ 1000000 then clo g p y (rn (g 100 7) - (rn p + 2)) (rn p + 2) else -2
/-- flows -/
def fvv (g : Nat → Nat → Int32) (p c : Int32) : Int64 := eV g p c * (rw_ g 2 (p + 1) - rw_ g 2 p).toInt64 - nV g p c * (rw_ g 1 (p + 1) - rw_ g 1 p).toInt64
def flS (g : Nat → Nat → Int32) (p e : Int32) : Nat → Int64 × Int64 × Int32
  | 0 => (0, 0, -1)
  | n + 1 => if gdF g p (nI n) = 0 then ((if ¬ e = 0 ∧ (flS g p e n).2.2 < 0 then (flS g p e n).1 + fvv g p (nI n) * (nI n).toInt64 else (flS g p e n).1) + fvv g p (nI n), fvv g p (nI n), nI n) else flS g p e n
def flV (g : Nat → Nat → Int32) (p e : Int32) : Int64 := if e = 0 then (flS g p e (rn (g 100 0))).1 else (flS g p e (rn (g 100 0))).1 + (flS g p e (rn (g 100 0))).2.1 * (mn (g 100 0) (rw_ g 3 p) - 1 - (flS g p e (rn (g 100 0))).2.2).toInt64
def fFlow (g : Nat → Nat → Int32) (p q e : Int32) : Int64 := if (isP g p ∧ isP g q ∧ p ≤ q) ∧ ¬ p = q ∧ 0 ≤ e ∧ e ≤ 1 then sL (fun i => flV g (nI (rn p + i)) e) (rn q - rn p) else lN2
def flP (g : Nat → Nat → Int32) (p e : Int32) (i : Nat) (sv lv : Int64) (wv : Int32) (d : Nat → Nat → Int64) : Prop := owP g p d ∧ sv = (flS g p e i).1 ∧ lv = (flS g p e i).2.1 ∧ wv = (flS g p e i).2.2
theorem fl_no {g : Nat → Nat → Int32} {p e : Int32} {i : Nat} {sv lv : Int64} {wv : Int32} {d : Nat → Nat → Int64} (h : flP g p e i sv lv wv d) (hc : ¬ gdF g p (nI i) = 0) : flP g p e (i + 1) sv lv wv d := by
  unfold flP at h ⊢
  simp only [flS, if_neg hc]
  exact h
theorem fl_yes {g : Nat → Nat → Int32} {p e : Int32} {i : Nat} {sv s2 lv l2 : Int64} {wv : Int32} {d d2 : Nat → Nat → Int64} (h : flP g p e i sv lv wv d) (hc : gdF g p (nI i) = 0) (ho : owP g p d2) (hl : l2 = fvv g p (nI i)) (hs : s2 = (if ¬ e = 0 ∧ wv < 0 then sv + l2 * (nI i).toInt64 else sv) + l2) : flP g p e (i + 1) s2 l2 (nI i) d2 := by
  obtain ⟨h0, h1, h2, h3⟩ := h
  unfold flP
  simp only [flS, if_pos hc]
  refine ⟨ho, ?_, hl, trivial⟩
  rw [hs, hl, h1, h3]
theorem fl_v {g : Nat → Nat → Int32} {p c : Int32} {d2 : Nat → Nat → Int64} (h : d2 1 0 = pD g p c 0 ∧ d2 1 1 = pD g p c 1 ∧ d2 1 2 = pD g p c 2 ∧ d2 1 3 = pD g p c 3) : (xT (d2 1 0) (d2 1 1) (g 100 2) + d2 1 2) * (rw_ g 2 (p + 1) - rw_ g 2 p).toInt64 - (yT (d2 1 0) (d2 1 1) (g 100 2) + d2 1 3) * (rw_ g 1 (p + 1) - rw_ g 1 p).toInt64 = fvv g p c := by
  rw [h.1, h.2.1, h.2.2.1, h.2.2.2]; rfl
/-- digests -/
def dgC (g : Nat → Nat → Int32) : Nat → Int64
  | 0 => 17
  | n + 1 => 31 * dgC g n + (fCount g (nI n)).toInt64
def dgB (g : Nat → Nat → Int32) : Int64 := 31 * (31 * dgC g 5 + (fCount g 6).toInt64) + (fCount g 7).toInt64
def dgA (g : Nat → Nat → Int32) (p : Int32) (h : Int64) : Nat → Int64
  | 0 => h
  | n + 1 => 31 * dgA g p h n + (fAbout g p (nI n)).toInt64
def dgE (g : Nat → Nat → Int32) (p : Int32) (h : Int64) : Nat → Int64
  | 0 => dgA g p h 5
  | n + 1 => if gdF g p (nI n) = 0 then 31 * (31 * (31 * dgE g p h n + (gdF g p (nI n)).toInt64) + eV g p (nI n)) + nV g p (nI n) else 31 * dgE g p h n + (gdF g p (nI n)).toInt64
def dgT (g : Nat → Nat → Int32) : Nat → Int64
  | 0 => dgB g
  | n + 1 => dgE g (nI n) (dgT g n) (rn (g 100 0))
/-- boxes -/
abbrev bxOk (g : Nat → Nat → Int32) (p q c e : Int32) : Prop := (isP g p ∧ isP g q ∧ p ≤ q) ∧ isC g c ∧ isC g e ∧ c ≤ e
abbrev bN (g : Nat → Nat → Int32) (p q c e : Int32) : Int32 := bxN g (rn p) (rn c) (rn q + 1 - rn p) (rn e + 1 - rn c)
abbrev bD (g : Nat → Nat → Int32) (p q c e : Int32) (k : Nat) : Int64 := bxD g (rn p) (rn c) (rn q + 1 - rn p) (rn e + 1 - rn c) k
def bE (g : Nat → Nat → Int32) (p q c e : Int32) (w : Int32) : Int64 := if w - 1 = 0 then xT (bD g p q c e 0) (bD g p q c e 1) (g 100 2) + bD g p q c e 2 else yT (bD g p q c e 0) (bD g p q c e 1) (g 100 2) + bD g p q c e 3
def fBox (g : Nat → Nat → Int32) (p q c e w : Int32) : Int64 := if bxOk g p q c e ∧ 0 ≤ w ∧ w ≤ 2 then (if w = 0 then (bN g p q c e).toInt64 else bE g p q c e w) else lN2
def fdv (x y : Int64) : Int64 := if (x ^^^ y) < 0 ∧ ¬ (x / y) * y = x then x / y - 1 else x / y
def fMean (g : Nat → Nat → Int32) (p q c e w : Int32) : Int64 := if bxOk g p q c e ∧ 1 ≤ w ∧ w ≤ 2 then (if bN g p q c e = 0 then lN3 else fdv (bE g p q c e w) (bN g p q c e).toInt64) else lN2
def fAskew (g : Nat → Nat → Int32) (p q r s : Int32) : Int32 := if (isP g p ∧ isP g q ∧ p ≤ q) ∧ isP g r ∧ isP g s ∧ r ≤ s then (if bN g p q 0 (g 100 0 - 1) = 0 ∨ bN g r s 0 (g 100 0 - 1) = 0 then -3 else (tlS (bD g p q 0 (g 100 0 - 1) 0 * (bN g r s 0 (g 100 0 - 1)).toInt64 - bD g r s 0 (g 100 0 - 1) 0 * (bN g p q 0 (g 100 0 - 1)).toInt64) (bD g p q 0 (g 100 0 - 1) 1 * (bN g r s 0 (g 100 0 - 1)).toInt64 - bD g r s 0 (g 100 0 - 1) 1 * (bN g p q 0 (g 100 0 - 1)).toInt64) (bD g p q 0 (g 100 0 - 1) 2 * (bN g r s 0 (g 100 0 - 1)).toInt64 - bD g r s 0 (g 100 0 - 1) 2 * (bN g p q 0 (g 100 0 - 1)).toInt64) (bD g p q 0 (g 100 0 - 1) 3 * (bN g r s 0 (g 100 0 - 1)).toInt64 - bD g r s 0 (g 100 0 - 1) 3 * (bN g p q 0 (g 100 0 - 1)).toInt64) 35).1) else -2
theorem p40 {g : Nat → Nat → Int32} (hI : WI g) {p : Int32} (h : isP g p) : rn p < 40 ∧ p = nI (rn p) ∧ rn p < rn (g 100 7) := by
  obtain ⟨k, hk, rfl⟩ := nI_of (Int32.not_lt.mpr h.1)
  obtain ⟨n, hn, e⟩ := nI_of (Int32.not_lt.mpr hI.2.1.1)
  have h1 := h.2
  have h2 := hI.2.1.2
  rw [e] at h1 h2 ⊢
  have a := (nI_ltI hk hn).mp h1
  have b : n ≤ 40 := (nI_leI hn (by decide)).mp h2
  unfold rn
  rw [nI_clamp hk, nI_clamp hn]
  exact ⟨by omega, rfl, a⟩
theorem c16 {g : Nat → Nat → Int32} (hI : WI g) {c : Int32} (h : isC g c) : rn c < 16 ∧ c = nI (rn c) ∧ rn c < rn (g 100 0) := by
  obtain ⟨k, hk, rfl⟩ := nI_of (Int32.not_lt.mpr h.1)
  obtain ⟨n, hn, e⟩ := nI_of (Int32.not_lt.mpr (la0 hI))
  have h1 := h.2
  have h2 := hI.2.2.1.2
  have h3 := hI.2.2.1.1
  rw [e] at h1 h2 h3 ⊢
  have b : n ≤ 16 := (nI_leI hn (by decide)).mp h2
  have b1 : 1 ≤ n := (nI_leI (by decide) hn).mp h3
  have e1 : nI n - 1 = nI (n - 1) := by
    obtain ⟨z, rfl⟩ : ∃ z, n = z + 1 := ⟨n - 1, by omega⟩
    rw [nI_pred]; rfl
  rw [e1] at h1
  have a := (nI_leI hk (by omega)).mp h1
  unfold rn
  rw [nI_clamp hk, nI_clamp hn]
  exact ⟨by omega, rfl, by omega⟩
theorem rn_le {a b : Int32} (h0 : 0 ≤ a) (h : a ≤ b) : rn a ≤ rn b := by
  obtain ⟨k, hk, rfl⟩ := nI_of (Int32.not_lt.mpr h0)
  obtain ⟨n, hn, rfl⟩ := nI_of (Int32.not_lt.mpr (Int32.le_trans h0 h))
  unfold rn
  rw [nI_clamp hk, nI_clamp hn]
  exact (nI_leI hk hn).mp h
theorem i64_ne {a : Int32} (h : ¬ a = 0) : ¬ a.toInt64 = 0 := by
  intro q
  apply h
  have e : a.toInt64.toInt = (0 : Int64).toInt := by rw [q]
  rw [Int32.toInt_toInt64] at e
  exact Int32.toInt_inj.mp e
theorem lac {g : Nat → Nat → Int32} (hI : WI g) : isC g (g 100 0 - 1) := by
  obtain ⟨n, hn, e⟩ := nI_of (Int32.not_lt.mpr (la0 hI))
  have h3 := hI.2.2.1.1
  unfold isC
  rw [e] at h3 ⊢
  have b1 : 1 ≤ n := (nI_leI (by decide) hn).mp h3
  obtain ⟨z, rfl⟩ : ∃ z, n = z + 1 := ⟨n - 1, by omega⟩
  rw [nI_pred]
  exact ⟨nI_pos' (by omega), Int32.le_refl _⟩
theorem ak_ok {g : Nat → Nat → Int32} {d d1 d2 d3 d4 d5 : Nat → Nat → Int64} {P1 P2 C n a1 a2 : Nat} {m1 m2 : Int32} (h1 : sgP g d 2 P1 C n a1 m1 d1) (h2 : sgP g d1 3 P2 C n a2 m2 d2) (h3 : dP d2 2 (d2 2 0 * (bxN g P2 C a2 n).toInt64) (d2 2 1 * (bxN g P2 C a2 n).toInt64) (d2 2 2 * (bxN g P2 C a2 n).toInt64) (d2 2 3 * (bxN g P2 C a2 n).toInt64) d3) (h4 : dP d3 3 (d3 3 0 * (bxN g P1 C a1 n).toInt64) (d3 3 1 * (bxN g P1 C a1 n).toInt64) (d3 3 2 * (bxN g P1 C a1 n).toInt64) (d3 3 3 * (bxN g P1 C a1 n).toInt64) d4) (h5 : dP d4 2 (d4 2 0 - d4 3 0) (d4 2 1 - d4 3 1) (d4 2 2 - d4 3 2) (d4 2 3 - d4 3 3) d5) : (tlS (d5 2 0) (d5 2 1) (d5 2 2) (d5 2 3) 35).1 = (tlS (bxD g P1 C a1 n 0 * (bxN g P2 C a2 n).toInt64 - bxD g P2 C a2 n 0 * (bxN g P1 C a1 n).toInt64) (bxD g P1 C a1 n 1 * (bxN g P2 C a2 n).toInt64 - bxD g P2 C a2 n 1 * (bxN g P1 C a1 n).toInt64) (bxD g P1 C a1 n 2 * (bxN g P2 C a2 n).toInt64 - bxD g P2 C a2 n 2 * (bxN g P1 C a1 n).toInt64) (bxD g P1 C a1 n 3 * (bxN g P2 C a2 n).toInt64 - bxD g P2 C a2 n 3 * (bxN g P1 C a1 n).toInt64) 35).1 := by
  obtain ⟨-, ⟨a0, a1', a2', a3⟩, -⟩ := h1
  obtain ⟨-, ⟨b0, b1, b2, b3⟩, b4⟩ := h2
  have e2 := b4 2 (by decide) (by decide) (by decide)
  obtain ⟨c0, c1, c2, c3, c4⟩ := h3
  obtain ⟨k0, k1, k2, k3, k4⟩ := h4
  obtain ⟨m0, m1, m2, m3, m4⟩ := h5
  have e3 := c4 3 (by decide)
  have e4 := k4 2 (by decide)
  rw [m0, m1, m2, m3, e4, c0, c1, c2, c3, k0, k1, k2, k3, e3, b0, b1, b2, b3, e2, a0, a1', a2', a3]
theorem clo_s {g : Nat → Nat → Int32} {p y : Int32} {N i q : Nat} (h : i + 1 ≤ N ∨ i + 1 ≤ q) (hc : ¬ near g p (nI i) y) (hl : i < N) : clo g p y (N - i) i = clo g p y (N - (i + 1)) (i + 1) := by
  obtain ⟨z, hz⟩ : ∃ z, N - i = z + 1 := ⟨N - i - 1, by omega⟩
  rw [hz, show N - (i + 1) = z by omega, clo, if_neg hc]
theorem clo_h {g : Nat → Nat → Int32} {p y : Int32} {N i : Nat} (hl : i < N) (hc : near g p (nI i) y) : clo g p y (N - i) i = nI i := by
  obtain ⟨z, hz⟩ : ∃ z, N - i = z + 1 := ⟨N - i - 1, by omega⟩
  rw [hz, clo, if_pos hc]
theorem clo_e {g : Nat → Nat → Int32} {p y : Int32} {N i : Nat} (hl : N ≤ i) : clo g p y (N - i) i = -1 := by
  rw [show N - i = 0 by omega, clo]
theorem nuI {g : Nat → Nat → Int32} (hI : WI g) {i : Nat} (hi : i < 100) (hc : g 100 7 ≤ nI i) : rn (g 100 7) ≤ i := by
  obtain ⟨k, hk, e⟩ := nI_of (Int32.not_lt.mpr hI.2.1.1)
  rw [e] at hc ⊢
  unfold rn
  rw [nI_clamp hk]
  exact (nI_leI hk (by omega)).mp hc
theorem nuI2 {g : Nat → Nat → Int32} (hI : WI g) {i : Nat} (hi : i < 100) (hc : ¬ g 100 7 ≤ nI i) : i < rn (g 100 7) := by
  obtain ⟨k, hk, e⟩ := nI_of (Int32.not_lt.mpr hI.2.1.1)
  rw [e] at hc ⊢
  unfold rn
  rw [nI_clamp hk]
  exact Nat.not_le.mp fun q => hc ((nI_leI hk (by omega)).mpr q)
theorem pl2 {p : Int32} (h : p = nI (rn p)) : p + 2 = nI (rn p + 2) := by
  conv => lhs; rw [h]
  rw [← nI_add]; rfl
theorem fw_e {p q : Int32} {i : Nat} (hq : rn q < 40) (hpq : rn p ≤ rn q) (hi : i ≤ rn q - rn p) (eq_ : q = nI (rn q)) (hc : q ≤ nI (rn p + i)) : rn q - rn p = i := by
  rw [eq_] at hc
  have := (nI_leI (by omega) (by omega)).mp hc
  omega
theorem fw_l {p q : Int32} {i : Nat} (hp : rn p < 40) (hq : rn q < 40) (eq_ : q = nI (rn q)) (hi : i ≤ rn q - rn p) (hc : ¬ q ≤ nI (rn p + i)) : i < rn q - rn p := by
  rw [eq_] at hc
  have : ¬ rn q ≤ rn p + i := fun z => hc ((nI_leI (by omega) (by omega)).mpr z)
  omega
theorem e01 {e : Int32} (h : 0 ≤ e ∧ e ≤ 1) (hn : ¬ e = 1) : e = 0 := by
  have a := Int32.le_iff_toInt_le.mp h.1
  have b := Int32.le_iff_toInt_le.mp h.2
  have z0 : (0 : Int32).toInt = 0 := rfl
  have z1 : (1 : Int32).toInt = 1 := rfl
  rw [z0] at a
  rw [z1] at b
  by_cases q : e.toInt = 0
  · exact Int32.toInt_inj.mp (q.trans z0.symm)
  · exact absurd (Int32.toInt_inj.mp ((by omega : e.toInt = 1).trans z1.symm)) hn
theorem Met_ofWF {l : Launch} {y : MethodName} {ws ws' : List Cond} {rm : Room} {Pc : Array Value → State → Prop} {Qc : Array Value → State → Outcome → State → Prop} {mc ms : Nat} {free : Addr → Prop} {cc : ByteArray} {maxL : Nat} {ret : Option FieldType}
    (hy : plainFor y = true) (hw : ws = Cond.code y cc maxL ret :: ws')
    (body : ∀ p e s m args below meth c s₁, BodyLoose p l y (headSpec ws rm) cc maxL ret e s m args below meth c s₁ → c.maxLocals = maxL → Pc args s →
      W p l e (headSpec ws rm).room s m args below meth c s.heap [] 0 0 (MQ below Qc args s mc ms free) (entryFrame m args maxL)) : Met l y ws rm Pc Qc mc ms free := by
  refine MetFree.of_bodySF (code := cc) (maxLocals := maxL) (ret := ret) hy ?_ ?_
  · intro args s m h hn
    obtain ⟨meth, c, h1, h2, h3, h4, h5, h6, -, -⟩ := Cond.code_spec hn (atoms_spec (ws := ws) h _ (by rw [hw]; exact List.mem_cons_self))
    exact ⟨meth, c, h1, h2, h3, h4, h5, h6⟩
  · intro p e s m args below meth c s₁ B hml hP _
    have hh0 : s₁.heap = s.heap := by rw [B.state]; rfl
    obtain ⟨t, a1, o, b1, b2, b3⟩ := body p e s m args below meth c s₁ B hml hP s₁ hh0 (Stand.of_body B)
    exact ⟨t, o, a1, b1, b2, ⟨b3.1, b3.2⟩⟩
