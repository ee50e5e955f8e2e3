abbrev vwCl : List vw_C := [(RX0, TX0, 5), (RX1, TX1, 4), (RX2, TX2, 3), (RX3, TX3, 5), (RX4, TX4, 14), (RX5, TX5, 31)]
/-! the words of the state, and the rows that every walk uses -/
def bI (P : Prop) [Decidable P] : Int32 := if P then 1 else 0
theorem bI_t {P : Prop} [Decidable P] (h : P) : bI P = 1 := if_pos h
theorem bI_f {P : Prop} [Decidable P] (h : ¬ P) : bI P = 0 := if_neg h
theorem bI_0 {P : Prop} [Decidable P] : bI P = 0 ↔ ¬ P := by
  unfold bI
  by_cases h : P
  · rw [if_pos h]; exact ⟨fun q => absurd q (by decide), fun q => absurd h q⟩
  · rw [if_neg h]; exact ⟨fun _ => h, fun _ => rfl⟩
theorem bI_n0 {P : Prop} [Decidable P] : ¬ bI P = 0 ↔ P := by
  rw [bI_0]; exact Decidable.not_not
theorem bI_bI {P : Prop} [Decidable P] : bI (¬ bI P = 0) = bI P := by
  by_cases h : P
  · rw [bI_t h]; rfl
  · rw [bI_f h]; rfl
theorem bI_iff {P Q : Prop} [Decidable P] [Decidable Q] (h : P ↔ Q) : bI P = bI Q := by
  unfold bI
  by_cases q : P
  · rw [if_pos q, if_pos (h.mp q)]
  · rw [if_neg q, if_neg (fun z => q (h.mpr z))]
theorem bI_nar {P : Prop} [Decidable P] : narrow .boolean (.int (bI P)) = .int (bI P) := by
  unfold bI
  by_cases h : P
  · rw [if_pos h]; rfl
  · rw [if_neg h]; rfl
theorem bI_fit {P : Prop} [Decidable P] : fits .boolean (.int (bI P)) = true := by
  unfold bI
  by_cases h : P
  · rw [if_pos h]; rfl
  · rw [if_neg h]; rfl
def up2 {α : Type} (f : Nat → Nat → α) (a b : Nat) (v : α) : Nat → Nat → α := fun x y => if x = a then (if y = b then v else f x y) else f x y
def ct (j : Nat) : Int32 := ([65, 63, 60, 56, 52, 39, 33, 25, 16, 0, -16, -25, -33, -39, -52, -56, -60, -63, -65, -63, -60, -56, -52, -39, -33, -25, -16, 0, 16, 25, 33, 39, 52, 56, 60, 63] : List Int32).getD j 0
abbrev tL (cI cO : ClassId) : List (ClassId × FieldType) := [(cI, FieldType.int), (cO, FieldType.object RX2)]
/-- the class's world: LayerSounder, its reels, track, beams, four drifts, the track's rows, the reels, their items -/
def LW (ad : Nat → Nat) (cI cO : ClassId) (g : Nat → Nat → Int32) (b : Nat → Int32) (d : Nat → Nat → Int64) (X : va_W) : va_W :=
  (ad 0, .inr (4, [.ref (ad 1), .ref (ad 2), .ref (ad 3), .ref (ad 4), .ref (ad 5), .ref (ad 6), .ref (ad 7), .int (g 100 0), .int (g 100 1), .int (g 100 2), .int (g 100 3), .int (g 100 4), .int (g 100 5), .int (g 100 6)])) ::
  (ad 1, .inl (cO, 8, .inr (.inr (.inr (.inr (fun i => some (ad (12 + i)))))))) ::
  (ad 2, .inr (3, [.ref (ad 8), .ref (ad 9), .ref (ad 10), .ref (ad 11), .int (g 100 7)])) ::
  (ad 3, .inr (0, [.int (b 0), .int (b 1), .int (b 2), .int (b 3), .int (b 4)])) ::
  (ad 4, .inr (1, [.long (d 0 0), .long (d 0 1), .long (d 0 2), .long (d 0 3)])) ::
  (ad 5, .inr (1, [.long (d 1 0), .long (d 1 1), .long (d 1 2), .long (d 1 3)])) ::
  (ad 6, .inr (1, [.long (d 2 0), .long (d 2 1), .long (d 2 2), .long (d 2 3)])) ::
  (ad 7, .inr (1, [.long (d 3 0), .long (d 3 1), .long (d 3 2), .long (d 3 3)])) ::
  (ad 8, .inl (cI, 40, .inl (g 0))) :: (ad 9, .inl (cI, 40, .inl (g 1))) :: (ad 10, .inl (cI, 40, .inl (g 2))) :: (ad 11, .inl (cI, 40, .inl (g 3))) ::
  (ad 12, .inr (2, [.ref (ad 20), .int (g 4 0), .int (g 5 0)])) :: (ad 13, .inr (2, [.ref (ad 21), .int (g 4 1), .int (g 5 1)])) ::
  (ad 14, .inr (2, [.ref (ad 22), .int (g 4 2), .int (g 5 2)])) :: (ad 15, .inr (2, [.ref (ad 23), .int (g 4 3), .int (g 5 3)])) ::
  (ad 16, .inr (2, [.ref (ad 24), .int (g 4 4), .int (g 5 4)])) :: (ad 17, .inr (2, [.ref (ad 25), .int (g 4 5), .int (g 5 5)])) ::
  (ad 18, .inr (2, [.ref (ad 26), .int (g 4 6), .int (g 5 6)])) :: (ad 19, .inr (2, [.ref (ad 27), .int (g 4 7), .int (g 5 7)])) ::
  (ad 20, .inl (cI, 200, .inl (g 10))) :: (ad 21, .inl (cI, 200, .inl (g 11))) :: (ad 22, .inl (cI, 200, .inl (g 12))) :: (ad 23, .inl (cI, 200, .inl (g 13))) ::
  (ad 24, .inl (cI, 200, .inl (g 14))) :: (ad 25, .inl (cI, 200, .inl (g 15))) :: (ad 26, .inl (cI, 200, .inl (g 16))) :: (ad 27, .inl (cI, 200, .inl (g 17))) :: X
theorem lt4 {k : Nat} (h : k < 4) : k = 0 ∨ k = 1 ∨ k = 2 ∨ k = 3 := by omega
theorem lt8 {k : Nat} (h : k < 8) : k = 0 ∨ k = 1 ∨ k = 2 ∨ k = 3 ∨ k = 4 ∨ k = 5 ∨ k = 6 ∨ k = 7 := by omega
section LWROWS
variable {ad : Nat → Nat} {cI cO : ClassId} {g : Nat → Nat → Int32} {b : Nat → Int32} {d : Nat → Nat → Int64} {X : va_W}
theorem LW_d {k : Nat} (h : k < 4) : (LW ad cI cO g b d X)[4 + k]? = some (ad (4 + k), .inr (1, [.long (d k 0), .long (d k 1), .long (d k 2), .long (d k 3)])) := by
  rcases lt4 h with rfl | rfl | rfl | rfl <;> rfl
theorem LW_r {r : Nat} (h : r < 8) : (LW ad cI cO g b d X)[12 + r]? = some (ad (12 + r), .inr (2, [.ref (ad (20 + r)), .int (g 4 r), .int (g 5 r)])) := by
  rcases lt8 h with rfl | rfl | rfl | rfl | rfl | rfl | rfl | rfl <;> rfl
theorem LW_i {r : Nat} (h : r < 8) : (LW ad cI cO g b d X)[20 + r]? = some (ad (20 + r), .inl (cI, 200, .inl (g (10 + r)))) := by
  rcases lt8 h with rfl | rfl | rfl | rfl | rfl | rfl | rfl | rfl <;> rfl
theorem LW_d0 {k : Nat} (h : k < 4) (v : Int64) : (LW ad cI cO g b d X).set (4 + k) (ad (4 + k), .inr (1, [.long v, .long (d k 1), .long (d k 2), .long (d k 3)])) = LW ad cI cO g b (up2 d k 0 v) X := by
  rcases lt4 h with rfl | rfl | rfl | rfl <;> rfl
theorem LW_d1 {k : Nat} (h : k < 4) (v : Int64) : (LW ad cI cO g b d X).set (4 + k) (ad (4 + k), .inr (1, [.long (d k 0), .long v, .long (d k 2), .long (d k 3)])) = LW ad cI cO g b (up2 d k 1 v) X := by
  rcases lt4 h with rfl | rfl | rfl | rfl <;> rfl
theorem LW_d2 {k : Nat} (h : k < 4) (v : Int64) : (LW ad cI cO g b d X).set (4 + k) (ad (4 + k), .inr (1, [.long (d k 0), .long (d k 1), .long v, .long (d k 3)])) = LW ad cI cO g b (up2 d k 2 v) X := by
  rcases lt4 h with rfl | rfl | rfl | rfl <;> rfl
theorem LW_d3 {k : Nat} (h : k < 4) (v : Int64) : (LW ad cI cO g b d X).set (4 + k) (ad (4 + k), .inr (1, [.long (d k 0), .long (d k 1), .long (d k 2), .long v])) = LW ad cI cO g b (up2 d k 3 v) X := by
  rcases lt4 h with rfl | rfl | rfl | rfl <;> rfl
theorem LW_r1 {r : Nat} (h : r < 8) (v : Int32) : (LW ad cI cO g b d X).set (12 + r) (ad (12 + r), .inr (2, [.ref (ad (20 + r)), .int v, .int (g 5 r)])) = LW ad cI cO (up2 g 4 r v) b d X := by
  rcases lt8 h with rfl | rfl | rfl | rfl | rfl | rfl | rfl | rfl <;> rfl
theorem LW_r2 {r : Nat} (h : r < 8) (v : Int32) : (LW ad cI cO g b d X).set (12 + r) (ad (12 + r), .inr (2, [.ref (ad (20 + r)), .int (g 4 r), .int v])) = LW ad cI cO (up2 g 5 r v) b d X := by
  rcases lt8 h with rfl | rfl | rfl | rfl | rfl | rfl | rfl | rfl <;> rfl
theorem LW_is {r : Nat} (h : r < 8) (i : Nat) (v : Int32) : (LW ad cI cO g b d X).set (20 + r) (ad (20 + r), .inl (cI, 200, .inl (upd (g (10 + r)) i v))) = LW ad cI cO (up2 g (10 + r) i v) b d X := by
  rcases lt8 h with rfl | rfl | rfl | rfl | rfl | rfl | rfl | rfl <;> rfl
theorem LW_ic {r : Nat} (h : r < 8) (f : Nat → Int32) : (LW ad cI cO g b d X).set (20 + r) (ad (20 + r), .inl (cI, 200, .inl f)) = LW ad cI cO (va_up g (10 + r) f) b d X := by
  rcases lt8 h with rfl | rfl | rfl | rfl | rfl | rfl | rfl | rfl <;> rfl
end LWROWS
/-- the statics, the nest mates' links -/
def zS (tt : Nat) (A : Nat → Prop) (U : State) (H : Heap) : Prop := va_Z RX4 "C_OF_TURNS" "[I" (.ref tt) A U H ∧ va_T .int tt 36 (fun j => .int (ct j)) A U H
def nsF : List (Nat × String × String × String) := [(103, RX2, "form", "I"), (110, RX2, "items", "[I"), (124, RX3, "number", "I"), (175, RX0, "answered", "Z"), (178, RX0, "along", "I"), (181, RX0, "across", "I"), (184, RX0, "odd", "I"), (187, RX0, "three", "Z")]
def nsM : List (String × Nat × MethodName) := [(RX4, 17, yX3_init), (RX4, 24, yX0_init), (RX4, 31, yX1_init), (RX4, 68, yX2_init), (RX0, 32, yX4_asNumber), (RX1, 22, yX4_xTurned), (RX1, 28, yX4_yTurned)]
def nS (U : State) : Prop := (∀ q ∈ nsF, va_Nw (.fieldLinkNest RX4 q.1 q.2.1 q.2.2.1 q.2.2.2 RX4) U) ∧ ∀ q ∈ nsM, va_Nw (.methodLinkNest q.1 q.2.1 q.2.2 RX4) U
theorem nS.warm {s U : State} (hW : s.WarmedH U.vm) (h : nS s) : nS U := ⟨fun q hq => va_Nw.warmF hW (h.1 q hq), fun q hq => va_Nw.warmM hW (h.2 q hq)⟩
theorem nS.same {u U : State} (hv : u.vm = U.vm) (h : nS u) : nS U := ⟨fun q hq => va_Nw.same rfl hv (h.1 q hq), fun q hq => va_Nw.same rfl hv (h.2 q hq)⟩
theorem zS.moved {tt : Nat} {A : Nat → Prop} {u U : State} {H : Heap} (hvm : u.vm.Alike U.vm) (h : zS tt A u H) : zS tt A U H := ⟨va_Z.moved hvm h.1, va_T.moved hvm h.2⟩
theorem zS.kept {tt : Nat} {A : Nat → Prop} {U : State} {H H1 : Heap} (h : zS tt A U H) (hq : ∀ a : Nat, a < H.size → ¬ A a → H1[a]? = H[a]?) : zS tt A U H1 := ⟨va_Z.kept h.1 hq, va_T.kept h.2 hq⟩
theorem zS.narrow {tt : Nat} {A B : Nat → Prop} {U : State} {H : Heap} (h : zS tt A U H) (hAB : ∀ q, B q → A q) : zS tt B U H := ⟨va_Z.narrow h.1 hAB, va_T.narrow h.2 hAB⟩
/-- a method that writes nothing: its start -/
def pw (D : va_G) (cI cO : ClassId) (tt : Nat) (w : va_W) (H0 : Heap) (U : State) : Prop := U.heap = H0 ∧ va_P D vwCl w H0 ∧ va_K D vwCl (tL cI cO) U ∧ zS tt (fun _ => False) U H0 ∧ nS U
/-- a method that writes: its start, and the world behind it -/
def mw (D : va_G) (cI cO : ClassId) (tt : Nat) (w : va_W) (sz : Nat) (U : State) : Prop := U.heap.size = sz ∧ va_P D vwCl w U.heap ∧ va_K D vwCl (tL cI cO) U ∧ va_D (fun _ => True) w ∧ zS tt (va_A w sz) U U.heap ∧ nS U
def mb (D : va_G) (w : va_W) (A : Nat → Prop) (t : State) : Prop := va_P D vwCl w t.heap ∧ va_D A w
abbrev MpI (l : Launch) (y : MethodName) (ws : List Cond) (rm : Room) (D : va_G) (cI cO : ClassId) (tt : Nat) (w : va_W) (H0 : Heap) (av : List Value) (v : Int32) : Prop := Met l y ws rm (va_Pc av (pw D cI cO tt w H0)) (va_Qi (fun r (_ : Unit) => r = v) (fun _ t => t.heap = H0) (fun _ => False)) 0 0 (fun _ => False)
abbrev MpL (l : Launch) (y : MethodName) (ws : List Cond) (rm : Room) (D : va_G) (cI cO : ClassId) (tt : Nat) (w : va_W) (H0 : Heap) (av : List Value) (v : Int64) : Prop := Met l y ws rm (va_Pc av (pw D cI cO tt w H0)) (va_Ql (fun r (_ : Unit) => r = v) (fun _ t => t.heap = H0) (fun _ => False)) 0 0 (fun _ => False)
abbrev MmI (l : Launch) (y : MethodName) (ws : List Cond) (rm : Room) (D : va_G) (cI cO : ClassId) (tt : Nat) (w : va_W) (sz : Nat) (av : List Value) {S : Type} (wf : S → va_W) (post : Int32 → S → Prop) : Prop := Met l y ws rm (va_Pc av (mw D cI cO tt w sz)) (va_Qi post (fun u t => mb D (wf u) (va_A w sz) t) (va_A w sz)) 0 0 (va_A w sz)
abbrev MmL (l : Launch) (y : MethodName) (ws : List Cond) (rm : Room) (D : va_G) (cI cO : ClassId) (tt : Nat) (w : va_W) (sz : Nat) (av : List Value) {S : Type} (wf : S → va_W) (post : Int64 → S → Prop) : Prop := Met l y ws rm (va_Pc av (mw D cI cO tt w sz)) (va_Ql post (fun u t => mb D (wf u) (va_A w sz) t) (va_A w sz)) 0 0 (va_A w sz)
abbrev MmV (l : Launch) (y : MethodName) (ws : List Cond) (rm : Room) (D : va_G) (cI cO : ClassId) (tt : Nat) (w : va_W) (sz : Nat) (av : List Value) {S : Type} (wf : S → va_W) (post : S → Prop) : Prop := Met l y ws rm (va_Pc av (mw D cI cO tt w sz)) (va_Qv post (fun u t => mb D (wf u) (va_A w sz) t) (va_A w sz)) 0 0 (va_A w sz)
theorem pw.blind {av : List Value} {D : va_G} {cI cO : ClassId} {tt : Nat} {w : va_W} {H0 : Heap} : FrameBlind (va_Pc av (pw D cI cO tt w H0)) := fun a U g mk q => ⟨q.1, q.2.1, q.2.2.1, va_K.moved (u := U) (U := U.calling g mk a) (Vm.Alike.refl U.vm) q.2.2.2.1, zS.moved (u := U) (U := U.calling g mk a) (Vm.Alike.refl U.vm) q.2.2.2.2.1, nS.same (u := U) (U := U.calling g mk a) rfl q.2.2.2.2.2⟩
theorem mw.blind {av : List Value} {D : va_G} {cI cO : ClassId} {tt : Nat} {w : va_W} {sz : Nat} : FrameBlind (va_Pc av (mw D cI cO tt w sz)) := fun a U g mk q => ⟨q.1, q.2.1, q.2.2.1, va_K.moved (u := U) (U := U.calling g mk a) (Vm.Alike.refl U.vm) q.2.2.2.1, q.2.2.2.2.1, zS.moved (u := U) (U := U.calling g mk a) (Vm.Alike.refl U.vm) q.2.2.2.2.2.1, nS.same (u := U) (U := U.calling g mk a) rfl q.2.2.2.2.2.2⟩
theorem pwS {D : va_G} {cI cO : ClassId} {tt : Nat} {A : Nat → Prop} {s : State} {H : Heap} {locs : List Loc} {w : va_W} {As : List Value} (hK : va_K D vwCl (tL cI cO) s) (hZ : zS tt A s s.heap) (hN : nS s) (hP : va_P D vwCl w H) (hS : va_S A s.heap H locs) : PreS s H (va_Pc As (pw D cI cO tt w H)) As :=
  ⟨pw.blind, fun U hU hW => ⟨rfl, hU, hP, va_K.moved hW.alike hK, (zS.narrow (zS.kept (zS.moved hW.alike hZ) hS.2.1) (fun _ h => h.elim)), hN.warm hW⟩⟩
theorem pwV {D : va_G} {cI cO : ClassId} {tt : Nat} {A : Nat → Prop} {s : State} {H : Heap} {locs : List Loc} {w : va_W} {As : List Value} {C : String} {a : Nat} (hK : va_K D vwCl (tL cI cO) s) (hZ : zS tt A s s.heap) (hN : nS s) (hP : va_P D vwCl w H) (hS : va_S A s.heap H locs) (hr : ∃ cell : Cell, H[a]? = some cell ∧ cell.vm.isStatics = false ∧ s.vm.findClass C = some cell.cls) : PreV s H C a (va_Pc (.ref a :: As) (pw D cI cO tt w H)) As :=
  ⟨pw.blind, hr, (pwS hK hZ hN hP hS).2⟩
theorem frA {A : Nat → Prop} {w : va_W} {s : State} {H : Heap} {locs : List Loc} (hD : va_D A w) (hS : va_S A s.heap H locs) (hA : ∀ q : Nat, s.heap.size ≤ q → A q) : ∀ q, va_A w H.size q → A q := by
  intro q h
  rcases h with ⟨k, e, h⟩ | h
  · exact hD.2 k (q, e) h
  · exact hA q (Nat.le_trans hS.1 h)
theorem mwS {D : va_G} {cI cO : ClassId} {tt : Nat} {A : Nat → Prop} {s : State} {H : Heap} {locs : List Loc} {w : va_W} {As : List Value} (hK : va_K D vwCl (tL cI cO) s) (hZ : zS tt A s s.heap) (hN : nS s) (hP : va_P D vwCl w H) (hD : va_D A w) (hS : va_S A s.heap H locs) (hA : ∀ q : Nat, s.heap.size ≤ q → A q) : PreS s H (va_Pc As (mw D cI cO tt w H.size)) As :=
  ⟨mw.blind, fun U hU hW => ⟨rfl, by rw [hU], by rw [hU]; exact hP, va_K.moved hW.alike hK, hD.weaken (fun _ _ _ _ => trivial), by rw [hU]; exact zS.narrow (zS.kept (zS.moved hW.alike hZ) hS.2.1) (frA hD hS hA), hN.warm hW⟩⟩
theorem mwV {D : va_G} {cI cO : ClassId} {tt : Nat} {A : Nat → Prop} {s : State} {H : Heap} {locs : List Loc} {w : va_W} {As : List Value} {C : String} {a : Nat} (hK : va_K D vwCl (tL cI cO) s) (hZ : zS tt A s s.heap) (hN : nS s) (hP : va_P D vwCl w H) (hD : va_D A w) (hS : va_S A s.heap H locs) (hA : ∀ q : Nat, s.heap.size ≤ q → A q) (hr : ∃ cell : Cell, H[a]? = some cell ∧ cell.vm.isStatics = false ∧ s.vm.findClass C = some cell.cls) : PreV s H C a (va_Pc (.ref a :: As) (mw D cI cO tt w H.size)) As :=
  ⟨mw.blind, hr, (mwS hK hZ hN hP hD hS hA).2⟩
section CALLS
variable {p : Program} {l : Launch} {e : Env} {R : Room} {s : State} {m : MethodId} {args : Array Value} {below : List Frame} {meth : Method} {c : Code} {H : Heap} {locs : List Loc} {cells slots : Nat} {Q : State → Prop}
variable {pc : Nat} {ls : Array Slot} {rest st0 : List Value} {a : Array Value} {A : Nat → Prop} {H0 : Heap} {D : va_G} {w : va_W}
theorem pcI {v : Int32} (hr : va_Run p l e R s m args below meth c H locs cells slots 0 0 (F0 m pc ls st0) rest (va_Qi (fun r (_ : Unit) => r = v) (fun _ t => t.heap = H) (fun _ => False) a) (fun _ => False)) (hS : va_S A H0 H locs)
    (kk : ∀ locs1 : List Loc, va_S A H0 H locs1 → W p l e R s m args below meth c H locs1 cells slots Q (F0 m (pc + 3) ls (.int v :: rest))) : W p l e R s m args below meth c H locs cells slots Q (F0 m pc ls st0) := by
  refine va_calli hr hS (fun q _ h => h.elim) (fun q h => h.elim) (fun r u t H1 locs1 ht hvm hp hB hz hk hS1 => ?_)
  subst hp
  have e1 : H1 = H := ht.symm.trans hB
  subst e1
  exact kk locs1 hS1
theorem pcL {v : Int64} (hr : va_Run p l e R s m args below meth c H locs cells slots 0 0 (F0 m pc ls st0) rest (va_Ql (fun r (_ : Unit) => r = v) (fun _ t => t.heap = H) (fun _ => False) a) (fun _ => False)) (hS : va_S A H0 H locs)
    (kk : ∀ locs1 : List Loc, va_S A H0 H locs1 → W p l e R s m args below meth c H locs1 cells slots Q (F0 m (pc + 3) ls (.long v :: rest))) : W p l e R s m args below meth c H locs cells slots Q (F0 m pc ls st0) := by
  refine va_calll hr hS (fun q _ h => h.elim) (fun q h => h.elim) (fun r u t H1 locs1 ht hvm hp hB hz hk hS1 => ?_)
  subst hp
  have e1 : H1 = H := ht.symm.trans hB
  subst e1
  exact kk locs1 hS1
theorem mcI {S : Type} {wf : S → va_W} {post : Int32 → S → Prop} (hr : va_Run p l e R s m args below meth c H locs cells slots 0 0 (F0 m pc ls st0) rest (va_Qi post (fun u t => mb D (wf u) (va_A w H.size) t) (va_A w H.size) a) (va_A w H.size)) (hD : va_D A w) (hS : va_S A s.heap H locs) (hA : ∀ q : Nat, s.heap.size ≤ q → A q)
    (kk : ∀ (r : Int32) (u : S) (H1 : Heap) (locs1 : List Loc), post r u → va_P D vwCl (wf u) H1 → va_D A (wf u) → va_S A s.heap H1 locs1 → W p l e R s m args below meth c H1 locs1 cells slots Q (F0 m (pc + 3) ls (.int r :: rest))) : W p l e R s m args below meth c H locs cells slots Q (F0 m pc ls st0) := by
  refine va_calli hr hS (fun q _ h => frA hD hS hA q h) (frA hD hS hA) (fun r u t H1 locs1 ht hvm hp hB hz hk hS1 => ?_)
  exact kk r u H1 locs1 hp (by rw [← ht]; exact hB.1) (hB.2.weaken (fun _ q _ h => frA hD hS hA q.1 h)) hS1
theorem mcL {S : Type} {wf : S → va_W} {post : Int64 → S → Prop} (hr : va_Run p l e R s m args below meth c H locs cells slots 0 0 (F0 m pc ls st0) rest (va_Ql post (fun u t => mb D (wf u) (va_A w H.size) t) (va_A w H.size) a) (va_A w H.size)) (hD : va_D A w) (hS : va_S A s.heap H locs) (hA : ∀ q : Nat, s.heap.size ≤ q → A q)
    (kk : ∀ (r : Int64) (u : S) (H1 : Heap) (locs1 : List Loc), post r u → va_P D vwCl (wf u) H1 → va_D A (wf u) → va_S A s.heap H1 locs1 → W p l e R s m args below meth c H1 locs1 cells slots Q (F0 m (pc + 3) ls (.long r :: rest))) : W p l e R s m args below meth c H locs cells slots Q (F0 m pc ls st0) := by
  refine va_calll hr hS (fun q _ h => frA hD hS hA q h) (frA hD hS hA) (fun r u t H1 locs1 ht hvm hp hB hz hk hS1 => ?_)
  exact kk r u H1 locs1 hp (by rw [← ht]; exact hB.1) (hB.2.weaken (fun _ q _ h => frA hD hS hA q.1 h)) hS1
theorem mcV {S : Type} {wf : S → va_W} {post : S → Prop} (hr : va_Run p l e R s m args below meth c H locs cells slots 0 0 (F0 m pc ls st0) rest (va_Qv post (fun u t => mb D (wf u) (va_A w H.size) t) (va_A w H.size) a) (va_A w H.size)) (hD : va_D A w) (hS : va_S A s.heap H locs) (hA : ∀ q : Nat, s.heap.size ≤ q → A q)
    (kk : ∀ (u : S) (H1 : Heap) (locs1 : List Loc), post u → va_P D vwCl (wf u) H1 → va_D A (wf u) → va_S A s.heap H1 locs1 → W p l e R s m args below meth c H1 locs1 cells slots Q (F0 m (pc + 3) ls rest)) : W p l e R s m args below meth c H locs cells slots Q (F0 m pc ls st0) := by
  refine va_callv hr hS (fun q _ h => frA hD hS hA q h) (frA hD hS hA) (fun u t H1 locs1 ht hvm hp hB hz hk hS1 => ?_)
  exact kk u H1 locs1 hp (by rw [← ht]; exact hB.1) (hB.2.weaken (fun _ q _ h => frA hD hS hA q.1 h)) hS1
/-- two ways come together: the value on the top is one of two -/
theorem jnI {j : Nat} (P : Int32 → Prop) (kj : ∀ v : Int32, P v → W p l e R s m args below meth c H locs cells slots Q (F0 m j ls (.int v :: rest)))
    (k : (∀ v : Int32, P v → W p l e R s m args below meth c H locs cells slots Q (F0 m j ls (.int v :: rest))) → W p l e R s m args below meth c H locs cells slots Q (F0 m pc ls st0)) : W p l e R s m args below meth c H locs cells slots Q (F0 m pc ls st0) := k kj
theorem jnL {j : Nat} (P : Int64 → Prop) (kj : ∀ v : Int64, P v → W p l e R s m args below meth c H locs cells slots Q (F0 m j ls (.long v :: rest)))
    (k : (∀ v : Int64, P v → W p l e R s m args below meth c H locs cells slots Q (F0 m j ls (.long v :: rest))) → W p l e R s m args below meth c H locs cells slots Q (F0 m pc ls st0)) : W p l e R s m args below meth c H locs cells slots Q (F0 m pc ls st0) := k kj
theorem tpI {x y : Int32} (h : x = y) (k : W p l e R s m args below meth c H locs cells slots Q (F0 m pc ls (.int y :: rest))) : W p l e R s m args below meth c H locs cells slots Q (F0 m pc ls (.int x :: rest)) := by rw [h]; exact k
theorem rfr {o : Option Nat} {w : Nat} (h : o = some w) (k : W p l e R s m args below meth c H locs cells slots Q (F0 m pc ls (.ref w :: rest))) : W p l e R s m args below meth c H locs cells slots Q (F0 m pc ls (va_rf o :: rest)) := by subst h; exact k
theorem tpL {x y : Int64} (h : x = y) (k : W p l e R s m args below meth c H locs cells slots Q (F0 m pc ls (.long y :: rest))) : W p l e R s m args below meth c H locs cells slots Q (F0 m pc ls (.long x :: rest)) := by rw [h]; exact k
/-- a loop: a state x, its locals, its world, what holds at its head, a measure -/
theorem wloop {σ : Type} {pc nL : Nat} (lv : σ → List (Nat × Value)) (wf : σ → va_W) (I : σ → Prop) (μ : σ → Nat)
    (step : ∀ x : σ, I x → (∀ y : σ, I y → μ y < μ x → ∀ (H : Heap) (locs : List Loc) (ls : Array Slot), va_P D vwCl (wf y) H → va_D A (wf y) → va_S A H0 H locs → lv_has ls nL (lv y) → W p l e R s m args below meth c H locs cells slots Q (F0 m pc ls [])) →
      ∀ (H : Heap) (locs : List Loc) (ls : Array Slot), va_P D vwCl (wf x) H → va_D A (wf x) → va_S A H0 H locs → lv_has ls nL (lv x) → W p l e R s m args below meth c H locs cells slots Q (F0 m pc ls [])) :
    ∀ x : σ, I x → ∀ (H : Heap) (locs : List Loc) (ls : Array Slot), va_P D vwCl (wf x) H → va_D A (wf x) → va_S A H0 H locs → lv_has ls nL (lv x) → W p l e R s m args below meth c H locs cells slots Q (F0 m pc ls []) := by
  have key : ∀ (n : Nat) (x : σ), μ x < n → I x → ∀ (H : Heap) (locs : List Loc) (ls : Array Slot), va_P D vwCl (wf x) H → va_D A (wf x) → va_S A H0 H locs → lv_has ls nL (lv x) → W p l e R s m args below meth c H locs cells slots Q (F0 m pc ls []) := by
    intro n
    induction n with
    | zero => intro x hx; exact absurd hx (Nat.not_lt_zero _)
    | succ n ih => exact fun x hx hI => step x hI (fun y hy hm => ih y (by omega) hy)
  exact fun x hI => key (μ x + 1) x (Nat.lt_succ_self _) hI
/-- the same where nothing is written -/
theorem ploop {σ : Type} {pc nL : Nat} (lv : σ → List (Nat × Value)) (I : σ → Prop) (μ : σ → Nat)
    (step : ∀ x : σ, I x → (∀ y : σ, I y → μ y < μ x → ∀ (locs : List Loc) (ls : Array Slot), va_S A H0 H locs → lv_has ls nL (lv y) → W p l e R s m args below meth c H locs cells slots Q (F0 m pc ls [])) →
      ∀ (locs : List Loc) (ls : Array Slot), va_S A H0 H locs → lv_has ls nL (lv x) → W p l e R s m args below meth c H locs cells slots Q (F0 m pc ls [])) :
    ∀ x : σ, I x → ∀ (locs : List Loc) (ls : Array Slot), va_S A H0 H locs → lv_has ls nL (lv x) → W p l e R s m args below meth c H locs cells slots Q (F0 m pc ls []) := by
  have key : ∀ (n : Nat) (x : σ), μ x < n → I x → ∀ (locs : List Loc) (ls : Array Slot), va_S A H0 H locs → lv_has ls nL (lv x) → W p l e R s m args below meth c H locs cells slots Q (F0 m pc ls []) := by
    intro n
    induction n with
    | zero => intro x hx; exact absurd hx (Nat.not_lt_zero _)
    | succ n ih => exact fun x hx hI => step x hI (fun y hy hm => ih y (by omega) hy)
  exact fun x hI => key (μ x + 1) x (Nat.lt_succ_self _) hI
end CALLS
theorem sw_3 (x : Int32) : ((x.toInt < 0 ∨ 3 < x.toInt) ∧ ¬ x = 0 ∧ ¬ x = 1 ∧ ¬ x = 2 ∧ ¬ x = 3) ∨ x = 0 ∨ x = 1 ∨ x = 2 ∨ x = 3 := by
  by_cases h : x.toInt < 0 ∨ 3 < x.toInt
  · refine Or.inl ⟨h, ?_, ?_, ?_, ?_⟩ <;> (intro e; rw [e] at h; revert h; decide)
  · refine Or.inr ?_
    have q : vp_in x 4 := by rw [vp_in_iff]; omega
    obtain ⟨j, hj, e⟩ := vp_in_of q (by decide)
    have hj2 : j = 0 ∨ j = 1 ∨ j = 2 ∨ j = 3 := by omega
    rcases hj2 with rfl | rfl | rfl | rfl <;> (rw [e]; decide)
theorem sw_4 (x : Int32) : ((x.toInt < 0 ∨ 4 < x.toInt) ∧ ¬ x = 0 ∧ ¬ x = 1 ∧ ¬ x = 2 ∧ ¬ x = 3 ∧ ¬ x = 4) ∨ x = 0 ∨ x = 1 ∨ x = 2 ∨ x = 3 ∨ x = 4 := by
  by_cases h : x.toInt < 0 ∨ 4 < x.toInt
  · refine Or.inl ⟨h, ?_, ?_, ?_, ?_, ?_⟩ <;> (intro e; rw [e] at h; revert h; decide)
  · refine Or.inr ?_
    have q : vp_in x 5 := by rw [vp_in_iff]; omega
    obtain ⟨j, hj, e⟩ := vp_in_of q (by decide)
    have hj2 : j = 0 ∨ j = 1 ∨ j = 2 ∨ j = 3 ∨ j = 4 := by omega
    rcases hj2 with rfl | rfl | rfl | rfl | rfl <;> (rw [e]; decide)
theorem sw_7 (x : Int32) : ((x.toInt < 0 ∨ 7 < x.toInt) ∧ ¬ x = 0 ∧ ¬ x = 1 ∧ ¬ x = 2 ∧ ¬ x = 3 ∧ ¬ x = 4 ∧ ¬ x = 5 ∧ ¬ x = 6 ∧ ¬ x = 7) ∨ x = 0 ∨ x = 1 ∨ x = 2 ∨ x = 3 ∨ x = 4 ∨ x = 5 ∨ x = 6 ∨ x = 7 := by
  by_cases h : x.toInt < 0 ∨ 7 < x.toInt
  · refine Or.inl ⟨h, ?_, ?_, ?_, ?_, ?_, ?_, ?_, ?_⟩ <;> (intro e; rw [e] at h; revert h; decide)
  · refine Or.inr ?_
    have q : vp_in x 8 := by rw [vp_in_iff]; omega
    obtain ⟨j, hj, e⟩ := vp_in_of q (by decide)
    have hj2 : j = 0 ∨ j = 1 ∨ j = 2 ∨ j = 3 ∨ j = 4 ∨ j = 5 ∨ j = 6 ∨ j = 7 := by omega
    rcases hj2 with rfl | rfl | rfl | rfl | rfl | rfl | rfl | rfl <;> (rw [e]; decide)
