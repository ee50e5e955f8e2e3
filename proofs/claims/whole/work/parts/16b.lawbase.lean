/-! THE CLAIM OUT OF ONE WALK OF THE LAW'S BODY. Your part is whole_start (and what it stands on); all else here is the same for every law, but numbers. -/
def R_law : String := "LayerSounderLaw"
def lw_P (b : Addr) (xs : List Int32) (args : Array Value) (s : State) : Prop := args = #[.ref b] ∧ s.IntsAt b xs ∧ xs.length ≤ 3072 ∧ (Jvm.Cond.and given_1 narrow_1).before args s = true
def lw_Q (_ : Array Value) (s : State) (o : Outcome) (t : State) : Prop := o = .returned (some (.int 1)) ∧ Framed s o t [] 600000 7302250
def lw_Z (below : List Frame) (a : Array Value) (s : State) : State → Prop := fun t => ∃ o, t.status = .running ∧ Ended t below o ∧ lw_Q a s o t
/-- the law's own end, with 1 on the stack, nothing written that was there before, its room as the claim has it -/
theorem lw_ret {p : Program} {l : Launch} {e : Env} {s : State} {m : MethodId} {below : List Frame} {meth : Method} {c : Code} {b : Nat} (hx : p.tables.exec = Jvm.exec) (hb : c.code = code) (hr : meth.sig.returnType = ret) (hlocks : meth.locks = false) {pc : Nat} {H : Heap} {ls : Array Slot} (hdg : decode code pc = .ok (.ireturn, 1)) : W p l e room_1 s m #[Value.ref b] below meth c H [] 600000 7302250 (lw_Z below #[Value.ref b] s) (F0 m pc ls [.int 1]) := by
  intro T hT X
  obtain ⟨fs, hret, hrun, hended, hW, hframe⟩ := X.leave (v := some (.int 1)) (hlocks := hlocks) (fun h => by rw [hr] at h; cases h)
  have hmeth' : T.vm.method? m = some meth := X.method'
  refine ⟨T.setFrames fs, ?_, .returned (some (.int 1)), hrun, hended, rfl, ⟨_, rfl⟩, hW, hframe⟩
  jvm_step X.here [X.here.top, hx, hb, hdg, hmeth', hr, ret, narrow_b1]
  (try refine ⟨rfl, ?_⟩); (try refine ⟨rfl, ?_⟩)
  first | (intro acts; rw [hret _ acts rfl rfl rfl]) | rw [hret _ _ rfl rfl rfl]
  exact Steps.refl _
/-- what holds at the law's entry: the machine, the code, the tables' words (any of lw_tbl by 'hts w (by decide +kernel)'), the script of L ints xs at the cell b, what the Statement gives of the start (any of its parts by flat_of_before) -/
def lw_At (p : Program) (s : State) (m : MethodId) (meth : Method) (c : Code) (b L : Nat) (xs : Nat → Int32) : Prop :=
  p.tables.exec = Jvm.exec ∧ c.code = code ∧ meth.sig.returnType = ret ∧ c.maxLocals = 4 ∧ s.vm.findClass R_law = some m.cls ∧ (∀ w ∈ lw_tbl, w.before #[Value.ref b] s = true) ∧ va_X b L xs s s.heap ∧ b < s.heap.size ∧ meth.locks = false ∧ (Jvm.Cond.and given_1 narrow_1).before #[Value.ref b] s = true
def sx (xs : Nat → Int32) (i k : Nat) : Int32 := xs (nI (i + k)).toNatClampNeg
section SWAP
variable {D : va_G} {ad am : Nat → Nat} {cI cO : ClassId} {g g1 : Nat → Nat → Int32} {b : Nat → Int32} {d : Nat → Nat → Int64} {y zz : Nat → Int32} {j : Nat → Int64} {f v : Nat → Int32} {H : Heap} {A : Nat → Prop}
theorem swP (hP : va_P D vwCl (LW ad cI cO g b d (MW am cI g1 y zz j f v [])) H) : va_P D vwCl (MW am cI g1 y zz j f v (LW ad cI cO g b d [])) H := hP.sub [28, 29, 30, 31, 32, 33, 34, 35, 36, 37, 38, 0, 1, 2, 3, 4, 5, 6, 7, 8, 9, 10, 11, 12, 13, 14, 15, 16, 17, 18, 19, 20, 21, 22, 23, 24, 25, 26, 27] rfl
theorem swD (hD : va_D A (LW ad cI cO g b d (MW am cI g1 y zz j f v []))) : va_D A (MW am cI g1 y zz j f v (LW ad cI cO g b d [])) := hD.sub [28, 29, 30, 31, 32, 33, 34, 35, 36, 37, 38, 0, 1, 2, 3, 4, 5, 6, 7, 8, 9, 10, 11, 12, 13, 14, 15, 16, 17, 18, 19, 20, 21, 22, 23, 24, 25, 26, 27] (by decide) rfl
theorem bkP (hP : va_P D vwCl (MW am cI g1 y zz j f v (LW ad cI cO g b d [])) H) : va_P D vwCl (LW ad cI cO g b d (MW am cI g1 y zz j f v [])) H := hP.sub [11, 12, 13, 14, 15, 16, 17, 18, 19, 20, 21, 22, 23, 24, 25, 26, 27, 28, 29, 30, 31, 32, 33, 34, 35, 36, 37, 38, 0, 1, 2, 3, 4, 5, 6, 7, 8, 9, 10] rfl
theorem bkD (hD : va_D A (MW am cI g1 y zz j f v (LW ad cI cO g b d []))) : va_D A (LW ad cI cO g b d (MW am cI g1 y zz j f v [])) := hD.sub [11, 12, 13, 14, 15, 16, 17, 18, 19, 20, 21, 22, 23, 24, 25, 26, 27, 28, 29, 30, 31, 32, 33, 34, 35, 36, 37, 38, 0, 1, 2, 3, 4, 5, 6, 7, 8, 9, 10] (by decide) rfl
end SWAP
/-- what stays in the law's loop, at i ints read with six more there -/
def LX (p : Program) (s : State) (m : MethodId) (meth : Method) (c : Code) (bb L : Nat) (xs : Nat → Int32) (D : va_G) (cI cO : ClassId) (tt i : Nat) : Prop := lw_At p s m meth c bb L xs ∧ va_K D vwCl (tL cI cO) s ∧ zS tt (fun q : Nat => s.heap.size ≤ q) s s.heap ∧ nS s ∧ i + 6 ≤ L ∧ L ≤ 3072
/-- from a place of the law's loop it comes to its end, whatever the two objects hold, as long as they hold the same -/
def LG (p : Program) (l : Launch) (e : Env) (s : State) (m : MethodId) (bb : Nat) (below : List Frame) (meth : Method) (c : Code) (D : va_G) (ad am : Nat → Nat) (cI cO : ClassId) (i pc : Nat) : Prop :=
  ∀ (g : Nat → Nat → Int32) (b : Nat → Int32) (d : Nat → Nat → Int64) (y zz : Nat → Int32) (j : Nat → Int64) (f v : Nat → Int32), WI g → RM g y zz → ∀ (H : Heap) (locs : List Loc) (ls : Array Slot), va_P D vwCl (LW ad cI cO g b d (MW am cI g y zz j f v [])) H → va_D (fun q : Nat => s.heap.size ≤ q) (LW ad cI cO g b d (MW am cI g y zz j f v [])) → va_S (fun q : Nat => s.heap.size ≤ q) s.heap H locs → lv_has ls 4 [(3, .int (nI i)), (0, .ref bb), (1, .ref (ad 0)), (2, .ref (am 0))] → W p l e room_1 s m #[Value.ref bb] below meth c H locs 39 3857 (lw_Z below #[Value.ref bb] s) (F0 m pc ls [])
