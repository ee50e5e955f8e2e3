theorem lost_i {g : Nat → Nat → Int32} (hI : WI g) {r : Nat} (hr : r < 8) : g 4 r < 0 ↔ g 4 r = -1 := by
  have h := (hI.2.2.2.2.2.2.2.2.2 r hr).1.1
  constructor
  · intro q
    have a := Int32.le_iff_toInt_le.mp h
    have b := Int32.lt_iff_toInt_lt.mp q
    have z1 : (-1 : Int32).toInt = -1 := rfl
    have z0 : (0 : Int32).toInt = 0 := rfl
    rw [z1] at a
    rw [z0] at b
    exact Int32.toInt_inj.mp (by rw [z1]; omega)
  · intro q; rw [q]; decide
theorem RM_lose {g : Nat → Nat → Int32} {y zz : Nat → Int32} (hM : RM g y zz) {R : Nat} (hR : R < 8) : RM (up2 (up2 g 4 R (-1)) 5 R 0) y zz := by
  intro r hr
  obtain ⟨h1, h2, h3⟩ := hM r hr
  rw [up2_r (x := 10 + r) _ _ (by omega), up2_r (x := 10 + r) _ _ (by omega)]
  refine ⟨h1, fun q => ?_, h3⟩
  by_cases e : r = R
  · subst e
    rw [up2_r (x := 4) _ _ (by decide), up2_s] at q
    exact absurd (by decide) q
  · rw [up2_r (x := 4) _ _ (by decide), up2_n _ _ (Or.inr e)] at q
    rw [up2_n _ _ (Or.inr e), up2_r (x := 5) _ _ (by decide)]
    exact h2 q
theorem MW_lose {am : Nat → Nat} {cI : ClassId} {g : Nat → Nat → Int32} {y zz : Nat → Int32} {j : Nat → Int64} {f v : Nat → Int32} {X : va_W} (R : Nat) (x : Int32) : MW am cI g y zz j f v X = MW am cI (up2 g 5 R x) y zz j f v X := MW_cg (up2_r _ _ (by decide)).symm (up2_r _ _ (by decide)).symm (up2_r _ _ (by decide)).symm (up2_r _ _ (by decide)).symm (up2_r _ _ (by decide)).symm (up2_r _ _ (by decide)).symm
theorem MW_row {am : Nat → Nat} {cI : ClassId} {g : Nat → Nat → Int32} {y zz : Nat → Int32} {j : Nat → Int64} {f v : Nat → Int32} {X : va_W} {R : Nat} (hR : R < 8) (k : Nat) (x : Int32) : MW am cI g y zz j f v X = MW am cI (up2 g (10 + R) k x) y zz j f v X := MW_cg (up2_r _ _ (by omega)).symm (up2_r _ _ (by omega)).symm (up2_r _ _ (by omega)).symm (up2_r _ _ (by omega)).symm (up2_r _ _ (by omega)).symm (up2_r _ _ (by omega)).symm
theorem MW_vup {am : Nat → Nat} {cI : ClassId} {g : Nat → Nat → Int32} {y zz : Nat → Int32} {j : Nat → Int64} {f v : Nat → Int32} {X : va_W} {R : Nat} (hR : R < 8) (x : Nat → Int32) : MW am cI g y zz j f v X = MW am cI (va_up g (10 + R) x) y zz j f v X := MW_cg (va_up_ne _ _ (by omega)).symm (va_up_ne _ _ (by omega)).symm (va_up_ne _ _ (by omega)).symm (va_up_ne _ _ (by omega)).symm (va_up_ne _ _ (by omega)).symm (va_up_ne _ _ (by omega)).symm
theorem rix {r : Int32} (h : isR r) {i : Nat} (hi : i < 200) : vp_in (200 * r + nI i) 1600 ∧ (200 * r + nI i).toNatClampNeg = 200 * rn r + i := by
  obtain ⟨k, hk, rfl⟩ := vp_in_of (rv h) (by decide)
  have e : rn (nI k) = k := nI_clamp (by omega)
  rw [e]
  obtain ⟨e1, e2, e3⟩ := ix hk hi
  rw [e1, e2]
  exact ⟨e3, rfl⟩
theorem rix2 {r i : Int32} (h : isR r) (hi : 0 ≤ i) (hi2 : i < 200) : vp_in (200 * r + i) 1600 ∧ (200 * r + i).toNatClampNeg = 200 * rn r + rn i ∧ rn i < 200 := by
  obtain ⟨k, hk, rfl⟩ := vp_in_of (vin hi hi2 (by decide) (by decide) : vp_in i 200) (by decide)
  obtain ⟨a, b⟩ := rix h hk
  have e : rn (nI k) = k := nI_clamp (by omega)
  rw [e]
  exact ⟨a, b, hk⟩
theorem rix3 {r i : Int32} (h : isR r) (hi : 0 ≤ i) {a : Nat} (ha : rn i + a < 200) : vp_in (200 * r + i + nI a) 1600 ∧ (200 * r + i + nI a).toNatClampNeg = 200 * rn r + rn i + a := by
  have e : 200 * r + i + nI a = 200 * r + nI (rn i + a) := by
    conv => lhs; rw [rnI hi]
    rw [Int32.add_assoc, nI_add]
  rw [e]
  obtain ⟨z1, z2⟩ := rix h ha
  exact ⟨z1, by rw [z2]; omega⟩
theorem RM_reel {g : Nat → Nat → Int32} {y zz : Nat → Int32} (hM : RM g y zz) {R : Nat} (hR : R < 8) {f n : Int32} (h0 : 0 ≤ n) (h1 : n ≤ 200) : RM (zr (up2 (up2 g 4 R f) 5 R n) R (rn n)) (zy y R (rn n)) (upd zz R n) := by
  intro r hr
  obtain ⟨a1, a2, a3, a4⟩ := hM r hr
  rw [zr_n _ _ _ (show 4 < 10 by decide), zr_n _ _ _ (show 5 < 10 by decide)]
  by_cases e : r = R
  · subst e
    rw [pk_us, up2_s]
    refine ⟨fun i hi => ?_, fun _ => rfl, h0, h1⟩
    unfold zy zr va_up
    rw [if_pos rfl]
    by_cases hi2 : i < rn n
    · rw [if_pos (by omega), if_pos hi2]
    · rw [if_neg (by omega), if_neg hi2, up2_r (x := 10 + r) _ _ (by omega), up2_r (x := 10 + r) _ _ (by omega)]
      exact a1 i hi
  · rw [pk_un e]
    refine ⟨fun i hi => ?_, fun q => ?_, a3, a4⟩
    · have hz : rn n ≤ 200 := rnle h0 h1 (by decide)
      unfold zy zr va_up
      rw [if_neg (by omega), if_neg (by omega), up2_r (x := 10 + r) _ _ (by omega), up2_r (x := 10 + r) _ _ (by omega)]
      exact a1 i hi
    · rw [up2_r (x := 4) _ _ (by decide), up2_n _ _ (Or.inr e)] at q
      rw [up2_n _ _ (Or.inr e), up2_r (x := 5) _ _ (by decide)]
      exact a2 q
theorem MW_zr {am : Nat → Nat} {cI : ClassId} {g : Nat → Nat → Int32} {y zz : Nat → Int32} {j : Nat → Int64} {f v : Nat → Int32} {X : va_W} {R : Nat} (hR : R < 8) (x : Int32) (n : Nat) : MW am cI g y zz j f v X = MW am cI (zr (up2 g 5 R x) R n) y zz j f v X := by
  unfold zr
  rw [← MW_vup hR, ← MW_lose]
theorem RM_put {g : Nat → Nat → Int32} {y zz : Nat → Int32} (hM : RM g y zz) {R i : Nat} (hR : R < 8) (hi : i < 200) (v : Int32) : RM (up2 g (10 + R) i v) (upd y (200 * R + i) v) zz := by
  intro r hr
  obtain ⟨a1, a2, a3⟩ := hM r hr
  rw [up2_r (x := 4) _ _ (by omega), up2_r (x := 5) _ _ (by omega)]
  refine ⟨fun k hk => ?_, a2, a3⟩
  by_cases e : r = R
  · subst e
    by_cases e2 : k = i
    · subst e2; rw [pk_us, up2_s]
    · rw [pk_un (by omega), up2_n _ _ (Or.inr e2)]; exact a1 k hk
  · rw [pk_un (by omega), up2_n _ _ (Or.inl (by omega))]; exact a1 k hk
abbrev lk (k : Int32) : Int32 := if k = 0 then 0 else -10 - k
theorem fnd_4 (g : Nat → Nat → Int32) (r : Nat) (f i : Int32) : fnd g r f i = 0 ∨ fnd g r f i = 1 ∨ fnd g r f i = 2 ∨ fnd g r f i = 3 := by
  unfold fnd
  grind
theorem lk_0 {g : Nat → Nat → Int32} {r : Nat} {f i : Int32} : lk (fnd g r f i) = 0 ↔ fnd g r f i = 0 := by
  rcases fnd_4 g r f i with e | e | e | e <;> rw [e] <;> decide
theorem fnd_f {g : Nat → Nat → Int32} {r : Nat} {f i : Int32} (h : fnd g r f i = 0) : g 4 r = f := by
  unfold fnd at h
  grind
/-- moved items -/
def mvS (y v : Nat → Int32) (s a : Nat) : Nat → Int32 := fun k => if k < a then y (s + k) else v k
theorem mv_0 (y v : Nat → Int32) (s : Nat) : mvS y v s 0 = v := by funext k; unfold mvS; rw [if_neg (Nat.not_lt_zero k)]
theorem mv_s (y v : Nat → Int32) (s a : Nat) : upd (mvS y v s a) a (y (s + a)) = mvS y v s (a + 1) := by
  funext k
  unfold upd
  by_cases h : k = a
  · subst h; rw [if_pos rfl]; unfold mvS; rw [if_pos (by omega)]
  · rw [if_neg h]
    unfold mvS
    by_cases h2 : k < a
    · rw [if_pos h2, if_pos (by omega)]
    · rw [if_neg h2, if_neg (by omega)]
theorem cp_0 (y v : Nat → Int32) (d : Nat) : va_cpy v y 0 d 0 = y := by funext k; unfold va_cpy; rw [if_neg (by omega)]
theorem cp_s (y v : Nat → Int32) (d a : Nat) : upd (va_cpy v y 0 d a) (d + a) (v a) = va_cpy v y 0 d (a + 1) := by
  funext k
  unfold upd
  by_cases h : k = d + a
  · subst h; rw [if_pos rfl]; unfold va_cpy; rw [if_pos (by omega)]; congr 1; omega
  · rw [if_neg h]
    unfold va_cpy
    by_cases h2 : d ≤ k ∧ k < d + a
    · rw [if_pos h2, if_pos (by omega)]
    · rw [if_neg h2, if_neg (by omega)]
theorem RM_copy {g : Nat → Nat → Int32} {y zz v : Nat → Int32} (hM : RM g y zz) {R Q i j n : Nat} (hR : R < 8) (hQ : Q < 8) (h1 : i + n ≤ 200) (h2 : j + n ≤ 200) : RM (va_up g (10 + Q) (va_cpy (g (10 + R)) (g (10 + Q)) i j n)) (va_cpy (mvS y v (200 * R + i) n) y 0 (200 * Q + j) n) zz := by
  intro r hr
  obtain ⟨a1, a2, a3⟩ := hM r hr
  rw [va_up_ne _ _ (show 4 ≠ 10 + Q by omega), va_up_ne _ _ (show 5 ≠ 10 + Q by omega)]
  refine ⟨fun k hk => ?_, a2, a3⟩
  by_cases e : r = Q
  · subst e
    rw [va_up_self]
    unfold va_cpy mvS
    by_cases h : j ≤ k ∧ k < j + n
    · rw [if_pos (by omega), if_pos h, if_pos (by omega)]
      have z := (hM R hR).1 (i + (k - j)) (by omega)
      rw [← z]
      congr 1
      omega
    · rw [if_neg (by omega), if_neg h]; exact a1 k hk
  · rw [va_up_ne _ _ (show 10 + r ≠ 10 + Q by omega)]
    unfold va_cpy
    rw [if_neg (by omega)]; exact a1 k hk
theorem n200 {n : Int32} (h0 : 0 ≤ n) (h : rn n ≤ 200) : n ≤ 200 := by
  rw [rnI h0]
  have z : rn n ≤ 200 := h
  exact (nI_leI (b := 200) (by omega) (by decide)).mpr z
