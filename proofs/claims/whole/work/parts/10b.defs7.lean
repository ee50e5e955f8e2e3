theorem rd_1 {g : Nat → Nat → Int32} (hI : WI g) {r : Nat} (hr : r < 8) {i : Int32} (hi : 0 ≤ i) (h : g 4 r < 0) : -128 = tl (rdC g r i) := by
  have e := (hI.2.2.2.2.2.2.2.2.2 r hr).2 h
  rw [rdC, e, if_neg (fun q => absurd q.2 (Int32.not_lt.mpr hi))]
  decide
theorem rd_2 {g : Nat → Nat → Int32} {y zz : Nat → Int32} (hM : RM g y zz) {r : Nat} (hr : r < 8) {i : Int32} (h : ¬ g 4 r < 0) (hc : ¬ i < zz r) : -128 = tl (rdC g r i) := by
  rw [(hM r hr).2.1 h] at hc
  rw [rdC, if_neg (fun q => hc q.2)]
  decide
theorem rd_3 {g : Nat → Nat → Int32} {y zz : Nat → Int32} (hM : RM g y zz) {r : Nat} (hr : r < 8) {i : Int32} (hi : 0 ≤ i) (h : ¬ g 4 r < 0) (hc : i < zz r) : tl (g (10 + r) (rn i)) = tl (rdC g r i) := by
  rw [(hM r hr).2.1 h] at hc
  rw [rdC, if_pos ⟨hi, hc⟩]
theorem rd_i {zz : Nat → Int32} {g : Nat → Nat → Int32} {y : Nat → Int32} (hM : RM g y zz) {r : Nat} (hr : r < 8) {r0 i : Int32} (he : r0 = nI r) (hi : 0 ≤ i) (hc : i < zz r) : vp_in (200 * r0 + i) 1600 ∧ y (200 * r0 + i).toNatClampNeg = g (10 + r) (rn i) ∧ (200 * r0 + i).toNatClampNeg = 200 * r + rn i ∧ rn i < 200 := by
  have h2 : vp_in i 200 := vin hi hc (hM r hr).2.2.2 (by decide)
  obtain ⟨k, hk, rfl⟩ := vp_in_of h2 (by decide)
  obtain ⟨e1, e2, e3⟩ := ix hr hk
  have e4 : rn (nI k) = k := nI_clamp (by omega)
  rw [he, e1, e2, e4]
  exact ⟨e3, (hM r hr).1 k hk, rfl, hk⟩
theorem tn_ok {B i : Nat} {t : Int32} {cv sv x y : Int64} {j : Nat → Int64} (hB : B < 36) (eB : t = nI B) (h : (cv, sv) = rt B i) (hi : i = B / 9) : jP j (xT x y t) (yT x y t) (va_up (va_up j 0 (cv * x - sv * y)) 1 (sv * x + cv * y)) := by
  rw [hi, rt_ok B hB, ← eB] at h
  have h1 : cv = tuC t := congrArg Prod.fst h
  have h2 : sv = tuS t := congrArg Prod.snd h
  rw [h1, h2]
  exact jP_2 j _ _
theorem br_ok {j u1 u2 : Nat → Int64} {a b : Int64} {t : Int32} (h1 : jP j a b u1) (h2 : jP u1 (xT (u1 0) (u1 1) t) (yT (u1 0) (u1 1) t) u2) : jP j (xT a b t) (yT a b t) u2 := by
  obtain ⟨e0, e1, e2⟩ := h1
  obtain ⟨k0, k1, k2⟩ := h2
  rw [e0, e1] at k0 k1
  exact ⟨k0, k1, fun q hq => (k2 q hq).trans (e2 q hq)⟩
theorem b03 {b : Int32} (h : 0 ≤ b ∧ b ≤ 3) : b = 0 ∨ b = 1 ∨ b = 2 ∨ b = 3 := by
  obtain ⟨k, hk, rfl⟩ := nI_of (Int32.not_lt.mpr h.1)
  have : k ≤ 3 := (nI_leI hk (by decide)).mp h.2
  have h4 : k = 0 ∨ k = 1 ∨ k = 2 ∨ k = 3 := by omega
  rcases h4 with rfl | rfl | rfl | rfl <;> decide
theorem gd_1 {g : Nat → Nat → Int32} {p c : Int32} (h : ¬ oOk g p) : 1 = gdF g p c := by
  rw [gdF, fateV, if_pos (bI_f h)]
theorem gd_2 {g : Nat → Nat → Int32} {p c : Int32} (h : oOk g p) (hl : ¬ rLo g 0 (itC g p c) ≤ 1) : 2 = gdF g p c := by
  rw [gdF, fateV, if_neg (by rw [bI_0]; exact fun q => q h), if_pos hl]
theorem gd_x {g : Nat → Nat → Int32} (hI : WI g) {p c r : Int32} {u : Nat → Int32} (hp : isP g p) (h : oOk g p) (hl : rLo g 0 (itC g p c) ≤ 1) (hu : u 3 = rLo g 0 (itC g p c) ∧ (rLo g 0 (itC g p c) ≤ 1 → u 0 = rAl g 0 (itC g p c) ∧ u 1 = rAc g 0 (itC g p c) ∧ u 2 = rOd g 0 (itC g p c))) (hr : r = if g 3 (rn p) ≤ c + g 100 3 then 3 else if 0 < u 3 ∧ g 100 4 = 0 then 4 else if ¬ amt (u 2).toInt64 ≤ (g 100 5).toInt64 then 5 else if amt (u 0).toInt64 ≤ 20000 ∧ amt (u 1).toInt64 ≤ 20000 then 0 else 6) : r = gdF g p c := by
  obtain ⟨z1, z2, z3⟩ := hu.2 hl
  have e1 : (20000 : Int64) = (20000 : Int32).toInt64 := by decide
  have e3 : (0 < u 3) = (rLo g 0 (itC g p c) = 1) := by rw [hu.1]; exact lo0 hl
  rw [hr, gdF, fateV, if_neg (show ¬ bI (oOk g p) = 0 by rw [bI_0]; exact fun q => q h), if_neg (not_not_intro hl), rwp hp]
  simp only [e3, z1, z2, z3, e1, amtb (x := rOd g 0 (itC g p c)) hI.2.2.2.2.2.2.2.1.1, amtb (x := rAl g 0 (itC g p c)) (show (0 : Int32) ≤ 20000 by decide), amtb (x := rAc g 0 (itC g p c)) (show (0 : Int32) ≤ 20000 by decide)]
/-- what findPace leaves there -/
def fpP (g : Nat → Nat → Int32) (p c : Int32) (j : Nat → Int64) (r : Int32) (u : Nat → Int64) : Prop := r = bI (oOk g p ∧ rLo g 0 (itC g p c) ≤ 1) ∧ (oOk g p ∧ rLo g 0 (itC g p c) ≤ 1 → u 4 = eV g p c ∧ u 5 = nV g p c) ∧ ∀ q, 6 ≤ q → u q = j q
theorem pcX (a b o0 o1 o2 : Int64) (s h : Int32) : xT (xT a b s) (yT a b s) h - (xT o0 o1 s + o2) = xT (xT a b h - o0) (yT a b h - o1) s + (0 - o2) := by
  unfold xT yT
  grind
theorem pcY (a b o0 o1 o2 : Int64) (s h : Int32) : yT (xT a b s) (yT a b s) h - (yT o0 o1 s + o2) = yT (xT a b h - o0) (yT a b h - o1) s + (0 - o2) := by
  unfold xT yT
  grind
theorem fp_y {g : Nat → Nat → Int32} {p c r : Int32} {j j1 j2 : Nat → Int64} {f : Nat → Int32} (hp : isP g p) (h : oOk g p) (hl : rLo g 0 (itC g p c) ≤ 1) (h1 : moP g p j r j1) (hf : f 0 = rAl g 0 (itC g p c) ∧ f 1 = rAc g 0 (itC g p c)) (h2 : jP j1 (xT (xT (f 0).toInt64 (f 1).toInt64 (g 100 2)) (yT (f 0).toInt64 (f 1).toInt64 (g 100 2)) (g 0 (rn p))) (yT (xT (f 0).toInt64 (f 1).toInt64 (g 100 2)) (yT (f 0).toInt64 (f 1).toInt64 (g 100 2)) (g 0 (rn p))) j2) : fpP g p c j 1 (va_up (va_up j2 4 (j2 0 - j2 2)) 5 (j2 1 - j2 3)) := by
  obtain ⟨e0, e1, e2⟩ := h2
  obtain ⟨z2, z3⟩ := h1.2.1 h
  refine ⟨(bI_t ⟨h, hl⟩).symm, fun _ => ⟨?_, ?_⟩, fun q hq => ?_⟩
  · show j2 0 - j2 2 = _
    rw [e0, e2 2 (by decide), z2, hf.1, hf.2]
    simp only [ownV, if_true, pcX, eV, pD, rwp hp]
    rfl
  · show j2 1 - j2 3 = _
    rw [e1, e2 3 (by decide), z3, hf.1, hf.2]
    simp only [ownV, show ¬ (1 : Int32) = 0 by decide, if_false, pcY, nV, pD, rwp hp]
    rfl
  · rw [va_up_ne _ _ (by omega), va_up_ne _ _ (by omega), e2 q (by omega), h1.2.2 q (by omega)]
