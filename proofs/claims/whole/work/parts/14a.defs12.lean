/-! flows: the reference's way and the class's -/
def acS (g : Nat → Nat → Int32) (p : Int32) : Nat → Int64 × Int32 × Int32
  | 0 => (0, -1, -1)
  | n + 1 => if gdF g p (nI n) = 0 then ((acS g p n).1 + fvv g p (nI n), (if (acS g p n).2.1 = -1 then nI n else (acS g p n).2.1), nI n) else acS g p n
def tailS (V : Int64) (dp : Int32) (b n : Nat) : Int64 := sL (fun x => if nI (b + 1 + x) < dp then V else 0) n
def acV (g : Nat → Nat → Int32) (p e : Int32) : Int64 := if (acS g p (rn (g 100 0))).2.1 = -1 ∨ e = 0 then (acS g p (rn (g 100 0))).1 else (acS g p (rn (g 100 0))).1 + fvv g p (acS g p (rn (g 100 0))).2.1 * ((acS g p (rn (g 100 0))).2.1).toInt64 + tailS (fvv g p (acS g p (rn (g 100 0))).2.2) (g 3 (rn p)) (rn (acS g p (rn (g 100 0))).2.2) (rn (g 100 0) - (rn (acS g p (rn (g 100 0))).2.2 + 1))
theorem nI_m1 {a : Nat} (h : a < 100) : ¬ nI a = -1 := by
  intro q
  have e : (nI a).toInt = (-1 : Int32).toInt := by rw [q]
  rw [nI_toInt (by omega)] at e
  have z : (-1 : Int32).toInt = -1 := rfl
  omega
theorem ac_fl (g : Nat → Nat → Int32) (p e : Int32) : ∀ n, n ≤ 16 → (acS g p n = (0, -1, -1) ∧ flS g p e n = (0, 0, -1)) ∨ ∃ a b, a < n ∧ b < n ∧ (acS g p n).2 = (nI a, nI b) ∧ gdF g p (nI a) = 0 ∧ gdF g p (nI b) = 0 ∧ flS g p e n = ((acS g p n).1 + (if e = 0 then 0 else fvv g p (nI a) * (nI a).toInt64), fvv g p (nI b), nI b) := by
  intro n
  induction n with
  | zero => exact fun _ => Or.inl ⟨rfl, rfl⟩
  | succ n ih =>
    intro hn
    by_cases hc : gdF g p (nI n) = 0
    · right
      rcases ih (by omega) with ⟨h1, h2⟩ | ⟨a, b, ha, hb, h1, h2, h3, h4⟩
      · refine ⟨n, n, Nat.lt_succ_self n, Nat.lt_succ_self n, ?_, hc, hc, ?_⟩
        · simp only [acS, if_pos hc, h1, if_true]
        · simp only [acS, flS, if_pos hc, h1, h2]
          by_cases he : e = 0
          · simp only [he, not_true, false_and, if_false, if_true]
            rw [Prod.mk.injEq]
            exact ⟨by grind, rfl⟩
          · have z : (-1 : Int32) < 0 := by decide
            simp only [he, not_false_iff, z, and_self, if_true, if_false]
            rw [Prod.mk.injEq]
            exact ⟨by grind, rfl⟩
      · have e1 : (acS g p n).2.1 = nI a := by rw [h1]
        refine ⟨a, n, by omega, Nat.lt_succ_self n, ?_, h2, hc, ?_⟩
        · simp only [acS, if_pos hc, e1, if_neg (nI_m1 (a := a) (by omega))]
        · have z : ¬ nI b < 0 := nI_pos (by omega)
          simp only [acS, flS, if_pos hc, h4, z, and_false, if_false]
          rw [Prod.mk.injEq]
          exact ⟨by grind, rfl⟩
    · simp only [acS, flS, if_neg hc]
      rcases ih (by omega) with h | ⟨a, b, ha, hb, h⟩
      · exact Or.inl h
      · exact Or.inr ⟨a, b, by omega, by omega, h⟩
theorem ac_g {g : Nat → Nat → Int32} {p : Int32} {n : Nat} {sm : Int64} {fi ls : Int32} (hn : n ≤ 16) (h : (sm, fi, ls) = acS g p n) (hf : ¬ fi = -1) : ∃ a b, a < n ∧ b < n ∧ fi = nI a ∧ ls = nI b ∧ gdF g p (nI a) = 0 ∧ gdF g p (nI b) = 0 := by
  rcases ac_fl g p 0 n hn with ⟨h1, -⟩ | ⟨a, b, ha, hb, h1, h2, h3, -⟩
  · rw [h1] at h
    exact absurd (congrArg (fun q => q.2.1) h) hf
  · rw [← h] at h1
    exact ⟨a, b, ha, hb, congrArg Prod.fst h1, congrArg Prod.snd h1, h2, h3⟩
theorem tail_n (V : Int64) (d b n : Nat) (hd : d ≤ 16) (hb : b < 16) (hn : n ≤ 16) : tailS V (nI d) b n = V * lN (min n (d - (b + 1))) := by
  induction n with
  | zero => simp only [tailS, sL, Nat.zero_min]; show (0 : Int64) = V * 0; grind
  | succ n ih =>
    have ih := ih (by omega)
    unfold tailS at ih ⊢
    rw [sL, ih]
    by_cases h : b + 1 + n < d
    · rw [if_pos ((nI_ltI (by omega) (by omega)).mpr h), show min (n + 1) (d - (b + 1)) = min n (d - (b + 1)) + 1 by omega, ← lN_1]
      grind
    · rw [if_neg (fun q => h ((nI_ltI (by omega) (by omega)).mp q)), show min (n + 1) (d - (b + 1)) = min n (d - (b + 1)) by omega]
      grind
theorem gd_dp {g : Nat → Nat → Int32} (hI : WI g) {p : Int32} (hp : isP g p) {b : Nat} (hb : b < 16) (h : gdF g p (nI b) = 0) : b < rn (g 3 (rn p)) ∧ rn (g 3 (rn p)) ≤ 16 ∧ g 3 (rn p) = nI (rn (g 3 (rn p))) := by
  have hd := (pl1 hI hp).2.2
  have e := rnI hd.1
  have hz : rn (g 3 (rn p)) ≤ 16 := rnle hd.1 hd.2 (by decide)
  refine ⟨?_, hz, e⟩
  obtain ⟨h1, h2⟩ := gd0 h
  unfold gdF fateV at h
  rw [if_neg (by rw [bI_0]; exact fun q => q h1), if_neg (not_not_intro h2), rwp hp] at h
  by_cases h3 : g 3 (rn p) ≤ nI b + g 100 3
  · rw [if_pos h3] at h; exact absurd h (by decide)
  · have he := hI.2.2.2.2.2.1
    have ee := rnI he.1
    have hz2 : rn (g 100 3) ≤ 16 := rnle he.1 he.2 (by decide)
    rw [ee, e, nI_add] at h3
    have : ¬ rn (g 3 (rn p)) ≤ b + rn (g 100 3) := fun q => h3 ((nI_leI (by omega) (by omega)).mpr q)
    omega
theorem acV_flV {g : Nat → Nat → Int32} (hI : WI g) {p e : Int32} (hp : isP g p) : acV g p e = flV g p e := by
  have hla : rn (g 100 0) ≤ 16 := rnle (la0 hI) hI.2.2.1.2 (by decide)
  have el := rnI (la0 hI)
  unfold acV flV
  rcases ac_fl g p e (rn (g 100 0)) hla with ⟨h1, h2⟩ | ⟨a, b, ha, hb, h1, h2, h3, h4⟩
  · rw [h1, h2, if_pos (Or.inl rfl)]
    by_cases he : e = 0
    · rw [if_pos he]
    · rw [if_neg he]; grind
  · have e1 : (acS g p (rn (g 100 0))).2.1 = nI a := by rw [h1]
    have e2 : (acS g p (rn (g 100 0))).2.2 = nI b := by rw [h1]
    by_cases he : e = 0
    · rw [if_pos (Or.inr he), if_pos he, h4, if_pos he]; grind
    · have hn : ¬ ((acS g p (rn (g 100 0))).2.1 = -1 ∨ e = 0) := by
        rw [e1]
        exact fun q => q.elim (nI_m1 (by omega)) he
      rw [if_neg hn, if_neg he, h4, if_neg he, e1, e2]
      obtain ⟨d1, d2, d3⟩ := gd_dp hI hp (by omega) h3
      have eb : rn (nI b) = b := nI_clamp (by omega)
      rw [eb, rwp hp]
      generalize hdd : rn (g 3 (rn p)) = d at d1 d2 d3
      rw [d3, tail_n _ d b _ d2 (by omega) (by omega)]
      have em : mn (g 100 0) (nI d) - 1 - nI b = nI (min (rn (g 100 0) - (b + 1)) (d - (b + 1))) := by
        have e5 : mn (g 100 0) (nI d) = nI (min (rn (g 100 0)) d) := by
          unfold mn
          rw [el]
          have er : rn (nI (rn (g 100 0))) = rn (g 100 0) := nI_clamp (by omega)
          rw [er]
          by_cases q : d < rn (g 100 0)
          · rw [if_pos ((nI_ltI (by omega) (by omega)).mpr q), Nat.min_eq_right (by omega)]
          · rw [if_neg (fun w => q ((nI_ltI (by omega) (by omega)).mp w)), Nat.min_eq_left (by omega)]
        rw [e5]
        obtain ⟨z, hz⟩ : ∃ z, min (rn (g 100 0)) d = z + 1 := ⟨min (rn (g 100 0)) d - 1, by omega⟩
        rw [hz, nI_pred, pk_sub (by omega)]
        congr 1
        omega
      have en : (nI (min (rn (g 100 0) - (b + 1)) (d - (b + 1)))).toInt64 = lN (min (rn (g 100 0) - (b + 1)) (d - (b + 1))) := nI_l (by omega)
      show _ = ((acS g p (rn (g 100 0))).1 + fvv g p (nI a) * (nI a).toInt64) + fvv g p (nI b) * (mn (g 100 0) (nI d) - 1 - nI b).toInt64
      rw [em, en]
theorem fv_e {g : Nat → Nat → Int32} {p c : Int32} (h0 : isP g p) (h1 : isP g (p + 1)) : eV g p c * (g 2 (rn (p + 1)) - g 2 (rn p)).toInt64 - nV g p c * (g 1 (rn (p + 1)) - g 1 (rn p)).toInt64 = fvv g p c := by
  unfold fvv
  rw [rwp h0, rwp h0, rwp h1, rwp h1]
theorem ac_no {g : Nat → Nat → Int32} {p : Int32} {i : Nat} {sm : Int64} {fi ls : Int32} (h : (sm, fi, ls) = acS g p i) (hc : ¬ gdF g p (nI i) = 0) : (sm, fi, ls) = acS g p (i + 1) := by
  rw [acS, if_neg hc]; exact h
theorem ac_yes {g : Nat → Nat → Int32} {p : Int32} {i : Nat} {sm U V x y : Int64} {fi ls : Int32} (h : (sm, fi, ls) = acS g p i) (hc : gdF g p (nI i) = 0) (hx : x = eV g p (nI i)) (hy : y = nV g p (nI i)) (hv : eV g p (nI i) * V - nV g p (nI i) * U = fvv g p (nI i)) : (sm + (x * V - y * U), (if fi = -1 then nI i else fi), nI i) = acS g p (i + 1) := by
  rw [acS, if_pos hc, ← h, hx, hy, hv]
