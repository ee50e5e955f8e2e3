theorem up2_id {α : Type} (f : Nat → Nat → α) (a b : Nat) : up2 f a b (f a b) = f := by
  funext x y
  unfold up2
  by_cases h : x = a
  · rw [if_pos h]
    by_cases h2 : y = b
    · rw [if_pos h2, h, h2]
    · rw [if_neg h2]
  · rw [if_neg h]
theorem up2_up {α : Type} (f : Nat → Nat → α) (a b : Nat) (v w : α) : up2 (up2 f a b v) a b w = up2 f a b w := by
  funext x y
  unfold up2
  by_cases h : x = a
  · by_cases h2 : y = b
    · simp only [if_pos h, if_pos h2]
    · simp only [if_pos h, if_neg h2]
  · simp only [if_neg h]
theorem WI_sk {g : Nat → Nat → Int32} (hI : WI g) {t : Int32} (h : 0 ≤ t ∧ t < 36) : WI (up2 g 100 2 t) := by
  obtain ⟨h1, h2, h3, h4, h5, h6, h7, h8, h9, h10⟩ := hI
  exact ⟨h1, h2, h3, h4, h, h6, h7, h8, h9, h10⟩
/-- neither fates nor the paces' numbers know of the skew -/
theorem sk_N (g : Nat → Nat → Int32) (t : Int32) (P C a n : Nat) : bxN (up2 g 100 2 t) P C a n = bxN g P C a n := rfl
theorem sk_D (g : Nat → Nat → Int32) (t : Int32) (P C a n k : Nat) : bxD (up2 g 100 2 t) P C a n k = bxD g P C a n k := rfl
theorem lin_x (a0 a1 a2 b0 b1 b2 m n : Int64) (t : Int32) : (xT a0 a1 t + a2) * m - (xT b0 b1 t + b2) * n = xT (a0 * m - b0 * n) (a1 * m - b1 * n) t + (a2 * m - b2 * n) := by
  unfold xT
  grind
theorem lin_y (a0 a1 a2 b0 b1 b2 m n : Int64) (t : Int32) : (yT a0 a1 t + a2) * m - (yT b0 b1 t + b2) * n = yT (a0 * m - b0 * n) (a1 * m - b1 * n) t + (a2 * m - b2 * n) := by
  unfold yT
  grind
/-- the differences of the two sums -/
abbrev gD (g : Nat → Nat → Int32) (P1 a1 P2 a2 C n k : Nat) : Int64 := bxD g P1 C a1 n k * (bxN g P2 C a2 n).toInt64 - bxD g P2 C a2 n k * (bxN g P1 C a1 n).toInt64
theorem bd_gD {g : Nat → Nat → Int32} (hI : WI g) {P1 a1 P2 a2 C n : Nat} (h1 : a1 ≤ 40) (h2 : a2 ≤ 40) (hn : n ≤ 16) (k : Nat) : bd (gD g P1 a1 P2 a2 C n k) 16384000000000000 := bd_m (bd_sub (bd_mul (bd_bx hI h1 hn k) (bd_bN h2 hn) (by decide)) (bd_mul (bd_bx hI h2 hn k) (bd_bN h1 hn) (by decide)) (by decide)) (by decide)
theorem ak_end {g : Nat → Nat → Int32} (hI : WI g) {P1 a1 P2 a2 C n : Nat} (h1 : a1 ≤ 40) (h2 : a2 ≤ 40) (hn : n ≤ 16) : (mkS (gD g P1 a1 P2 a2 C n 0) (gD g P1 a1 P2 a2 C n 1) (gD g P1 a1 P2 a2 C n 2) (gD g P1 a1 P2 a2 C n 3) 36).1 = (tlS (gD g P1 a1 P2 a2 C n 0) (gD g P1 a1 P2 a2 C n 1) (gD g P1 a1 P2 a2 C n 2) (gD g P1 a1 P2 a2 C n 3) 35).1 := by
  refine (mk_tl (B := 2146304000000000000) (by decide) (fun t => ?_) 35 (Nat.le_refl _)).1
  obtain ⟨x, y⟩ := bd_x (bd_gD hI h1 h2 hn 0) (bd_gD (P1 := P1) (P2 := P2) (C := C) hI h1 h2 hn 1) (by decide) t
  exact ⟨bd_m (bd_add x (bd_gD hI h1 h2 hn 2) (by decide)) (by decide), bd_m (bd_add y (bd_gD hI h1 h2 hn 3) (by decide)) (by decide)⟩
theorem ak_x {g : Nat → Nat → Int32} {P1 a1 P2 a2 C n : Nat} {t : Int32} {u1 u2 : Nat → Int64} {o : Int64} (h1 : gsP (up2 g 100 2 t) P1 C a1 n u1) (h2 : gsP (up2 g 100 2 t) P2 C a2 n u2) (ho : o = (bxN g P1 C a1 n).toInt64) : u1 7 * u2 6 - u2 7 * o = xT (gD g P1 a1 P2 a2 C n 0) (gD g P1 a1 P2 a2 C n 1) t + gD g P1 a1 P2 a2 C n 2 ∧ u1 8 * u2 6 - u2 8 * o = yT (gD g P1 a1 P2 a2 C n 0) (gD g P1 a1 P2 a2 C n 1) t + gD g P1 a1 P2 a2 C n 3 := by
  obtain ⟨x6, x7, x8⟩ := h1
  obtain ⟨y6, y7, y8⟩ := h2
  have e : up2 g 100 2 t 100 2 = t := rfl
  rw [e] at x7 x8 y7 y8
  rw [x7, x8, y6, y7, y8, ho]
  simp only [sk_N, sk_D]
  exact ⟨lin_x _ _ _ _ _ _ _ _ _, lin_y _ _ _ _ _ _ _ _ _⟩
theorem mk_yes {a0 a1 a2 a3 le m : Int64} {i : Nat} {bs : Int32} (h : (bs, le) = mkS a0 a1 a2 a3 i) (hm : m = msv a0 a1 a2 a3 (nI i)) (hc : bs = -1 ∨ m < le) : (nI i, m) = mkS a0 a1 a2 a3 (i + 1) := by
  rw [hm] at hc ⊢
  show _ = if (mkS a0 a1 a2 a3 i).1 = -1 ∨ _ < (mkS a0 a1 a2 a3 i).2 then _ else mkS a0 a1 a2 a3 i
  rw [← h, if_pos hc]
theorem mk_no {a0 a1 a2 a3 le m : Int64} {i : Nat} {bs : Int32} (h : (bs, le) = mkS a0 a1 a2 a3 i) (hm : m = msv a0 a1 a2 a3 (nI i)) (h1 : ¬ bs = -1) (h2 : le ≤ m) : (bs, le) = mkS a0 a1 a2 a3 (i + 1) := by
  rw [hm] at h2
  show _ = if (mkS a0 a1 a2 a3 i).1 = -1 ∨ _ < (mkS a0 a1 a2 a3 i).2 then _ else mkS a0 a1 a2 a3 i
  rw [← h, if_neg (fun q => q.elim h1 (Int64.not_lt.mpr h2))]
theorem ms_e {a0 a1 a2 a3 x y : Int64} {t : Int32} (hx : x = xT a0 a1 t + a2) (hy : y = yT a0 a1 t + a3) : (if amt x ≤ amt y then amt y else amt x) = msv a0 a1 a2 a3 t := by rw [hx, hy]; rfl
theorem isP_1 {g : Nat → Nat → Int32} (hI : WI g) {x : Nat} (h : x + 1 < rn (g 100 7)) : isP g (nI x) ∧ isP g (nI x + 1) := by
  refine ⟨isP_n hI (by omega), ?_⟩
  rw [nI_1]
  exact isP_n hI h
theorem akb {g : Nat → Nat → Int32} (hI : WI g) {p q : Int32} (h : isP g p ∧ isP g q ∧ p ≤ q) : rn q + 1 - rn p ≤ 40 ∧ rn (g 100 0 - 1) + 1 - rn 0 ≤ 16 := by
  have a := (p40 hI h.2.1).1
  have b := (c16 hI (lac hI)).1
  omega
theorem ac_end {g : Nat → Nat → Int32} {p : Int32} {sm U V x1 y1 x2 y2 : Int64} {fi ls dp : Int32} {aa bb k n : Nat} (hA : fi = nI aa) (hB : ls = nI bb) (h1 : x1 = eV g p fi ∧ y1 = nV g p fi) (h2 : x2 = eV g p ls ∧ y2 = nV g p ls) (e1 : eV g p fi * V - nV g p fi * U = fvv g p fi) (e2 : eV g p ls * V - nV g p ls * U = fvv g p ls) (hk : bb < 2 ^ 31 ∧ k = n - (bb + 1)) : sm + (x1 * V - y1 * U) * fi.toInt64 + tailS (x2 * V - y2 * U) dp bb k = sm + fvv g p fi * fi.toInt64 + tailS (fvv g p ls) dp (rn ls) (n - (rn ls + 1)) := by
  have eb : rn ls = bb := by rw [hB]; exact nI_clamp hk.1
  rw [h1.1, h1.2, h2.1, h2.2, e1, e2, eb, hk.2]
