section
-- ===== PART A: goes FIRST, ahead of the names: the tables' words, and 'selects' of the private methods out of them =====
/-- a private method of a class that the tables say can be made, by its rows of tables_1 -/
def lw_okq (q : MethodName × Nat) : Prop := (q.1.cls ≠ "java/lang/invoke/MethodHandle" ∧ q.1.cls ≠ "java/lang/invoke/VarHandle") ∧ Cond.instantiable q.1.cls q.2 ∈ tables_1 ∧ Cond.privateMethod q.1 ∈ tables_1 ∧ Cond.instanceMethod q.1 ∈ tables_1
theorem lw_p0 : lw_okq (⟨"LayerSounder", "isReel", "(I)Z"⟩, 14) := ⟨⟨by decide +kernel, by decide +kernel⟩, List.mem_of_getElem? (i := 10) (by decide +kernel), List.mem_of_getElem? (i := 154) (by decide +kernel), List.mem_of_getElem? (i := 155) (by decide +kernel)⟩
theorem lw_p1 : lw_okq (⟨"LayerSounder", "found", "(I)I"⟩, 14) := ⟨⟨by decide +kernel, by decide +kernel⟩, List.mem_of_getElem? (i := 10) (by decide +kernel), List.mem_of_getElem? (i := 164) (by decide +kernel), List.mem_of_getElem? (i := 165) (by decide +kernel)⟩
theorem lw_p2 : lw_okq (⟨"LayerSounder$Reel", "narrowed", "(I)I"⟩, 3) := ⟨⟨by decide +kernel, by decide +kernel⟩, List.mem_of_getElem? (i := 89) (by decide +kernel), List.mem_of_getElem? (i := 204) (by decide +kernel), List.mem_of_getElem? (i := 205) (by decide +kernel)⟩
theorem lw_p3 : lw_okq (⟨"LayerSounder", "findOwn", "(I)Z"⟩, 14) := ⟨⟨by decide +kernel, by decide +kernel⟩, List.mem_of_getElem? (i := 10) (by decide +kernel), List.mem_of_getElem? (i := 285) (by decide +kernel), List.mem_of_getElem? (i := 286) (by decide +kernel)⟩
theorem lw_p4 : lw_okq (⟨"LayerSounder", "readBeams", "(II)V"⟩, 14) := ⟨⟨by decide +kernel, by decide +kernel⟩, List.mem_of_getElem? (i := 10) (by decide +kernel), List.mem_of_getElem? (i := 293) (by decide +kernel), List.mem_of_getElem? (i := 294) (by decide +kernel)⟩
theorem lw_p5 : lw_okq (⟨"LayerSounder", "readingOf", "(II)I"⟩, 14) := ⟨⟨by decide +kernel, by decide +kernel⟩, List.mem_of_getElem? (i := 10) (by decide +kernel), List.mem_of_getElem? (i := 297) (by decide +kernel), List.mem_of_getElem? (i := 298) (by decide +kernel)⟩
theorem lw_p6 : lw_okq (⟨"LayerSounder", "isCell", "(I)Z"⟩, 14) := ⟨⟨by decide +kernel, by decide +kernel⟩, List.mem_of_getElem? (i := 10) (by decide +kernel), List.mem_of_getElem? (i := 403) (by decide +kernel), List.mem_of_getElem? (i := 404) (by decide +kernel)⟩
theorem lw_p7 : lw_okq (⟨"LayerSounder", "judge", "(IIZ)I"⟩, 14) := ⟨⟨by decide +kernel, by decide +kernel⟩, List.mem_of_getElem? (i := 10) (by decide +kernel), List.mem_of_getElem? (i := 407) (by decide +kernel), List.mem_of_getElem? (i := 408) (by decide +kernel)⟩
theorem lw_p8 : lw_okq (⟨"LayerSounder", "itemOfCell", "(II)I"⟩, 14) := ⟨⟨by decide +kernel, by decide +kernel⟩, List.mem_of_getElem? (i := 10) (by decide +kernel), List.mem_of_getElem? (i := 411) (by decide +kernel), List.mem_of_getElem? (i := 412) (by decide +kernel)⟩
theorem lw_p9 : lw_okq (⟨"LayerSounder", "findPace", "(I)V"⟩, 14) := ⟨⟨by decide +kernel, by decide +kernel⟩, List.mem_of_getElem? (i := 10) (by decide +kernel), List.mem_of_getElem? (i := 419) (by decide +kernel), List.mem_of_getElem? (i := 420) (by decide +kernel)⟩
theorem lw_p10 : lw_okq (⟨"LayerSounder", "fatesOfPing", "(II)I"⟩, 14) := ⟨⟨by decide +kernel, by decide +kernel⟩, List.mem_of_getElem? (i := 10) (by decide +kernel), List.mem_of_getElem? (i := 431) (by decide +kernel), List.mem_of_getElem? (i := 432) (by decide +kernel)⟩
theorem lw_p11 : lw_okq (⟨"LayerSounder", "isBox", "(IIII)Z"⟩, 14) := ⟨⟨by decide +kernel, by decide +kernel⟩, List.mem_of_getElem? (i := 10) (by decide +kernel), List.mem_of_getElem? (i := 439) (by decide +kernel), List.mem_of_getElem? (i := 440) (by decide +kernel)⟩
theorem lw_p12 : lw_okq (⟨"LayerSounder", "sumGood", "(LLayerSounder$Drift;IIII)I"⟩, 14) := ⟨⟨by decide +kernel, by decide +kernel⟩, List.mem_of_getElem? (i := 10) (by decide +kernel), List.mem_of_getElem? (i := 447) (by decide +kernel), List.mem_of_getElem? (i := 448) (by decide +kernel)⟩
theorem lw_p13 : lw_okq (⟨"LayerSounder", "flowOfPing", "(IZ)J"⟩, 14) := ⟨⟨by decide +kernel, by decide +kernel⟩, List.mem_of_getElem? (i := 10) (by decide +kernel), List.mem_of_getElem? (i := 466) (by decide +kernel), List.mem_of_getElem? (i := 467) (by decide +kernel)⟩
theorem lw_p14 : lw_okq (⟨"LayerSounder", "flowOfPace", "(I)J"⟩, 14) := ⟨⟨by decide +kernel, by decide +kernel⟩, List.mem_of_getElem? (i := 10) (by decide +kernel), List.mem_of_getElem? (i := 470) (by decide +kernel), List.mem_of_getElem? (i := 471) (by decide +kernel)⟩
theorem lw_p15 : lw_okq (⟨"LayerSounder", "cellsUnder", "(II)I"⟩, 14) := ⟨⟨by decide +kernel, by decide +kernel⟩, List.mem_of_getElem? (i := 10) (by decide +kernel), List.mem_of_getElem? (i := 476) (by decide +kernel), List.mem_of_getElem? (i := 477) (by decide +kernel)⟩
def lw_privs_1 : List (MethodName × Nat) := [(⟨"LayerSounder", "isReel", "(I)Z"⟩, 14), (⟨"LayerSounder", "found", "(I)I"⟩, 14), (⟨"LayerSounder$Reel", "narrowed", "(I)I"⟩, 3), (⟨"LayerSounder", "findOwn", "(I)Z"⟩, 14), (⟨"LayerSounder", "readBeams", "(II)V"⟩, 14), (⟨"LayerSounder", "readingOf", "(II)I"⟩, 14), (⟨"LayerSounder", "isCell", "(I)Z"⟩, 14), (⟨"LayerSounder", "judge", "(IIZ)I"⟩, 14), (⟨"LayerSounder", "itemOfCell", "(II)I"⟩, 14), (⟨"LayerSounder", "findPace", "(I)V"⟩, 14), (⟨"LayerSounder", "fatesOfPing", "(II)I"⟩, 14), (⟨"LayerSounder", "isBox", "(IIII)Z"⟩, 14), (⟨"LayerSounder", "sumGood", "(LLayerSounder$Drift;IIII)I"⟩, 14), (⟨"LayerSounder", "flowOfPing", "(IZ)J"⟩, 14), (⟨"LayerSounder", "flowOfPace", "(I)J"⟩, 14), (⟨"LayerSounder", "cellsUnder", "(II)I"⟩, 14)]
theorem lw_r1 : ∀ q ∈ lw_privs_1, lw_okq q := List.forall_mem_cons.mpr ⟨lw_p0, List.forall_mem_cons.mpr ⟨lw_p1, List.forall_mem_cons.mpr ⟨lw_p2, List.forall_mem_cons.mpr ⟨lw_p3, List.forall_mem_cons.mpr ⟨lw_p4, List.forall_mem_cons.mpr ⟨lw_p5, List.forall_mem_cons.mpr ⟨lw_p6, List.forall_mem_cons.mpr ⟨lw_p7, List.forall_mem_cons.mpr ⟨lw_p8, List.forall_mem_cons.mpr ⟨lw_p9, List.forall_mem_cons.mpr ⟨lw_p10, List.forall_mem_cons.mpr ⟨lw_p11, List.forall_mem_cons.mpr ⟨lw_p12, List.forall_mem_cons.mpr ⟨lw_p13, List.forall_mem_cons.mpr ⟨lw_p14, List.forall_mem_cons.mpr ⟨lw_p15, fun _ h => absurd h List.not_mem_nil⟩⟩⟩⟩⟩⟩⟩⟩⟩⟩⟩⟩⟩⟩⟩⟩
theorem lw_p16 : lw_okq (⟨"LayerSounder", "digestOfPing", "(JI)J"⟩, 14) := ⟨⟨by decide +kernel, by decide +kernel⟩, List.mem_of_getElem? (i := 10) (by decide +kernel), List.mem_of_getElem? (i := 523) (by decide +kernel), List.mem_of_getElem? (i := 524) (by decide +kernel)⟩
theorem lw_p17 : lw_okq (⟨"LayerSounderModel", "met", "(I)I"⟩, 31) := ⟨⟨by decide +kernel, by decide +kernel⟩, List.mem_of_getElem? (i := 528) (by decide +kernel), List.mem_of_getElem? (i := 640) (by decide +kernel), List.mem_of_getElem? (i := 641) (by decide +kernel)⟩
theorem lw_p18 : lw_okq (⟨"LayerSounderModel", "lacks", "(III)I"⟩, 31) := ⟨⟨by decide +kernel, by decide +kernel⟩, List.mem_of_getElem? (i := 528) (by decide +kernel), List.mem_of_getElem? (i := 652) (by decide +kernel), List.mem_of_getElem? (i := 653) (by decide +kernel)⟩
theorem lw_p19 : lw_okq (⟨"LayerSounderModel", "isPing", "(I)Z"⟩, 31) := ⟨⟨by decide +kernel, by decide +kernel⟩, List.mem_of_getElem? (i := 528) (by decide +kernel), List.mem_of_getElem? (i := 681) (by decide +kernel), List.mem_of_getElem? (i := 682) (by decide +kernel)⟩
theorem lw_p20 : lw_okq (⟨"LayerSounderModel", "findOwn", "(I)Z"⟩, 31) := ⟨⟨by decide +kernel, by decide +kernel⟩, List.mem_of_getElem? (i := 528) (by decide +kernel), List.mem_of_getElem? (i := 693) (by decide +kernel), List.mem_of_getElem? (i := 694) (by decide +kernel)⟩
theorem lw_p21 : lw_okq (⟨"LayerSounderModel", "reading", "(II)I"⟩, 31) := ⟨⟨by decide +kernel, by decide +kernel⟩, List.mem_of_getElem? (i := 528) (by decide +kernel), List.mem_of_getElem? (i := 697) (by decide +kernel), List.mem_of_getElem? (i := 698) (by decide +kernel)⟩
theorem lw_p22 : lw_okq (⟨"LayerSounderModel", "answers", "(IIII)Z"⟩, 31) := ⟨⟨by decide +kernel, by decide +kernel⟩, List.mem_of_getElem? (i := 528) (by decide +kernel), List.mem_of_getElem? (i := 704) (by decide +kernel), List.mem_of_getElem? (i := 705) (by decide +kernel)⟩
theorem lw_p23 : lw_okq (⟨"LayerSounderModel", "bring", "(I)V"⟩, 31) := ⟨⟨by decide +kernel, by decide +kernel⟩, List.mem_of_getElem? (i := 528) (by decide +kernel), List.mem_of_getElem? (i := 708) (by decide +kernel), List.mem_of_getElem? (i := 709) (by decide +kernel)⟩
theorem lw_p24 : lw_okq (⟨"LayerSounderModel", "turn", "(JJI)V"⟩, 31) := ⟨⟨by decide +kernel, by decide +kernel⟩, List.mem_of_getElem? (i := 528) (by decide +kernel), List.mem_of_getElem? (i := 712) (by decide +kernel), List.mem_of_getElem? (i := 713) (by decide +kernel)⟩
theorem lw_p25 : lw_okq (⟨"LayerSounderModel", "isCell", "(II)Z"⟩, 31) := ⟨⟨by decide +kernel, by decide +kernel⟩, List.mem_of_getElem? (i := 528) (by decide +kernel), List.mem_of_getElem? (i := 757) (by decide +kernel), List.mem_of_getElem? (i := 758) (by decide +kernel)⟩
theorem lw_p26 : lw_okq (⟨"LayerSounderModel", "fateOf", "(II)I"⟩, 31) := ⟨⟨by decide +kernel, by decide +kernel⟩, List.mem_of_getElem? (i := 528) (by decide +kernel), List.mem_of_getElem? (i := 761) (by decide +kernel), List.mem_of_getElem? (i := 762) (by decide +kernel)⟩
theorem lw_p27 : lw_okq (⟨"LayerSounderModel", "cellAnswers", "(II)Z"⟩, 31) := ⟨⟨by decide +kernel, by decide +kernel⟩, List.mem_of_getElem? (i := 528) (by decide +kernel), List.mem_of_getElem? (i := 765) (by decide +kernel), List.mem_of_getElem? (i := 766) (by decide +kernel)⟩
theorem lw_p28 : lw_okq (⟨"LayerSounderModel", "findPace", "(II)Z"⟩, 31) := ⟨⟨by decide +kernel, by decide +kernel⟩, List.mem_of_getElem? (i := 528) (by decide +kernel), List.mem_of_getElem? (i := 776) (by decide +kernel), List.mem_of_getElem? (i := 777) (by decide +kernel)⟩
theorem lw_p29 : lw_okq (⟨"LayerSounderModel", "isBox", "(IIII)Z"⟩, 31) := ⟨⟨by decide +kernel, by decide +kernel⟩, List.mem_of_getElem? (i := 528) (by decide +kernel), List.mem_of_getElem? (i := 789) (by decide +kernel), List.mem_of_getElem? (i := 790) (by decide +kernel)⟩
theorem lw_p30 : lw_okq (⟨"LayerSounderModel", "isRow", "(II)Z"⟩, 31) := ⟨⟨by decide +kernel, by decide +kernel⟩, List.mem_of_getElem? (i := 528) (by decide +kernel), List.mem_of_getElem? (i := 793) (by decide +kernel), List.mem_of_getElem? (i := 794) (by decide +kernel)⟩
theorem lw_p31 : lw_okq (⟨"LayerSounderModel", "gather", "(IIII)V"⟩, 31) := ⟨⟨by decide +kernel, by decide +kernel⟩, List.mem_of_getElem? (i := 528) (by decide +kernel), List.mem_of_getElem? (i := 797) (by decide +kernel), List.mem_of_getElem? (i := 798) (by decide +kernel)⟩
def lw_privs_2 : List (MethodName × Nat) := [(⟨"LayerSounder", "digestOfPing", "(JI)J"⟩, 14), (⟨"LayerSounderModel", "met", "(I)I"⟩, 31), (⟨"LayerSounderModel", "lacks", "(III)I"⟩, 31), (⟨"LayerSounderModel", "isPing", "(I)Z"⟩, 31), (⟨"LayerSounderModel", "findOwn", "(I)Z"⟩, 31), (⟨"LayerSounderModel", "reading", "(II)I"⟩, 31), (⟨"LayerSounderModel", "answers", "(IIII)Z"⟩, 31), (⟨"LayerSounderModel", "bring", "(I)V"⟩, 31), (⟨"LayerSounderModel", "turn", "(JJI)V"⟩, 31), (⟨"LayerSounderModel", "isCell", "(II)Z"⟩, 31), (⟨"LayerSounderModel", "fateOf", "(II)I"⟩, 31), (⟨"LayerSounderModel", "cellAnswers", "(II)Z"⟩, 31), (⟨"LayerSounderModel", "findPace", "(II)Z"⟩, 31), (⟨"LayerSounderModel", "isBox", "(IIII)Z"⟩, 31), (⟨"LayerSounderModel", "isRow", "(II)Z"⟩, 31), (⟨"LayerSounderModel", "gather", "(IIII)V"⟩, 31)]
theorem lw_r2 : ∀ q ∈ lw_privs_2, lw_okq q := List.forall_mem_cons.mpr ⟨lw_p16, List.forall_mem_cons.mpr ⟨lw_p17, List.forall_mem_cons.mpr ⟨lw_p18, List.forall_mem_cons.mpr ⟨lw_p19, List.forall_mem_cons.mpr ⟨lw_p20, List.forall_mem_cons.mpr ⟨lw_p21, List.forall_mem_cons.mpr ⟨lw_p22, List.forall_mem_cons.mpr ⟨lw_p23, List.forall_mem_cons.mpr ⟨lw_p24, List.forall_mem_cons.mpr ⟨lw_p25, List.forall_mem_cons.mpr ⟨lw_p26, List.forall_mem_cons.mpr ⟨lw_p27, List.forall_mem_cons.mpr ⟨lw_p28, List.forall_mem_cons.mpr ⟨lw_p29, List.forall_mem_cons.mpr ⟨lw_p30, List.forall_mem_cons.mpr ⟨lw_p31, fun _ h => absurd h List.not_mem_nil⟩⟩⟩⟩⟩⟩⟩⟩⟩⟩⟩⟩⟩⟩⟩⟩
theorem lw_p32 : lw_okq (⟨"LayerSounderModel", "across", "(II)J"⟩, 31) := ⟨⟨by decide +kernel, by decide +kernel⟩, List.mem_of_getElem? (i := 528) (by decide +kernel), List.mem_of_getElem? (i := 809) (by decide +kernel), List.mem_of_getElem? (i := 810) (by decide +kernel)⟩
def lw_privs_3 : List (MethodName × Nat) := [(⟨"LayerSounderModel", "across", "(II)J"⟩, 31)]
theorem lw_r3 : ∀ q ∈ lw_privs_3, lw_okq q := List.forall_mem_cons.mpr ⟨lw_p32, fun _ h => absurd h List.not_mem_nil⟩
def lw_privs : List (MethodName × Nat) := lw_privs_1 ++ (lw_privs_2 ++ (lw_privs_3))
def lw_tbl : List Cond := k2_sels lw_privs ++ tables_1
theorem lw_privs_ok : ∀ q ∈ lw_privs, lw_okq q := by
  show ∀ q ∈ lw_privs_1 ++ (lw_privs_2 ++ (lw_privs_3)), lw_okq q
  exact List.forall_mem_append.mpr ⟨lw_r1, List.forall_mem_append.mpr ⟨lw_r2, lw_r3⟩⟩
/-! ===== BEGIN words of one list among another's, by their places ===== -/
theorem goodIn_r {big : List Cond} (ws : List Cond) (ps : List Nat) (hp : ws = ps.filterMap (fun i => big[i]?)) (h : ws.all goodWord = true) : GoodIn big ws := by
  intro w hw
  have h1 := List.all_eq_true.mp h w hw
  rw [hp] at hw
  obtain ⟨i, -, hi⟩ := List.mem_filterMap.mp hw
  have hm : w ∈ big := by first | exact List.mem_of_getElem? hi | exact List.getElem?_mem hi
  exact ⟨hm, good_of_word h1⟩
theorem goodIn_app {big a b : List Cond} (ha : GoodIn big a) (hb : GoodIn big b) : GoodIn big (a ++ b) := fun w h => (List.mem_append.mp h).elim (ha w) (hb w)
theorem goodIn_ca {big a b : List Cond} {c : Cond} (ha : GoodIn big (c :: a)) (hb : GoodIn big b) : GoodIn big (c :: (a ++ b)) := fun w h => (List.mem_cons.mp h).elim (fun e => ha w (List.mem_cons.mpr (Or.inl e))) (fun h => (List.mem_append.mp h).elim (fun h => ha w (List.mem_cons.mpr (Or.inr h))) (hb w))
theorem goodIn_sub {big ws : List Cond} (hm : ∀ w ∈ ws, w ∈ big) (h : ws.all goodWord = true) : GoodIn big ws := fun w hw => ⟨hm w hw, good_of_word (List.all_eq_true.mp h w hw)⟩
/-! ===== END ===== -/

/-! ===== BEGIN printed: names, fields, word lists, decode rows ===== -/
def RX0 : String := "LayerSounder$Beams"
def TX0 : u_T := fun k => match k with
  | 0 => ("LayerSounder$Beams", "answered", "Z", false)
  | 1 => ("LayerSounder$Beams", "three", "Z", false)
  | 2 => ("LayerSounder$Beams", "along", "I", false)
  | 3 => ("LayerSounder$Beams", "across", "I", false)
  | _ => ("LayerSounder$Beams", "odd", "I", false)
def tyX0 : Nat → FieldType := fun k => match k with
  | 0 => .boolean
  | 1 => .boolean
  | 2 => .int
  | 3 => .int
  | _ => .int
abbrev wsX00 : List Cond := u_ws RX0 TX0 5
theorem nmX0 : ∀ a, a < 5 → ∀ b, b < 5 → a ≠ b → (TX0 a).2.1 ≠ (TX0 b).2.1 := by decide +kernel
theorem tyX0_ok : ∀ k, k < 5 → parseFieldDescriptor (TX0 k).2.2.1 = some (tyX0 k) := by decide +kernel
abbrev cX0_init : ByteArray := prog_2_method_1_code
def yX0_init : MethodName := ⟨RX0, "<init>", "()V"⟩
abbrev cX0_take : ByteArray := prog_2_method_2_code
def yX0_take : MethodName := ⟨RX0, "take", "(IIII)V"⟩
abbrev cX0_isNone : ByteArray := prog_2_method_3_code
def yX0_isNone : MethodName := ⟨RX0, "isNone", "(I)Z"⟩
def RX1 : String := "LayerSounder$Drift"
def TX1 : u_T := fun k => match k with
  | 0 => ("LayerSounder$Drift", "swungX", "J", false)
  | 1 => ("LayerSounder$Drift", "swungY", "J", false)
  | 2 => ("LayerSounder$Drift", "heldX", "J", false)
  | _ => ("LayerSounder$Drift", "heldY", "J", false)
def tyX1 : Nat → FieldType := fun k => match k with
  | 0 => .long
  | 1 => .long
  | 2 => .long
  | _ => .long
abbrev wsX10 : List Cond := u_ws RX1 TX1 4
theorem nmX1 : ∀ a, a < 4 → ∀ b, b < 4 → a ≠ b → (TX1 a).2.1 ≠ (TX1 b).2.1 := by decide +kernel
theorem tyX1_ok : ∀ k, k < 4 → parseFieldDescriptor (TX1 k).2.2.1 = some (tyX1 k) := by decide +kernel
abbrev cX1_init : ByteArray := prog_3_method_1_code
def yX1_init : MethodName := ⟨RX1, "<init>", "()V"⟩
abbrev cX1_rest : ByteArray := prog_3_method_2_code
def yX1_rest : MethodName := ⟨RX1, "rest", "()V"⟩
abbrev cX1_swing : ByteArray := prog_3_method_3_code
def yX1_swing : MethodName := ⟨RX1, "swing", "(III)V"⟩
abbrev cX1_hold : ByteArray := prog_3_method_4_code
def yX1_hold : MethodName := ⟨RX1, "hold", "(JJ)V"⟩
abbrev cX1_add : ByteArray := prog_3_method_5_code
def yX1_add : MethodName := ⟨RX1, "add", "(LLayerSounder$Drift;)V"⟩
abbrev cX1_subtract : ByteArray := prog_3_method_6_code
def yX1_subtract : MethodName := ⟨RX1, "subtract", "(LLayerSounder$Drift;)V"⟩
abbrev cX1_multiply : ByteArray := prog_3_method_7_code
def yX1_multiply : MethodName := ⟨RX1, "multiply", "(J)V"⟩
abbrev cX1_east : ByteArray := prog_3_method_8_code
def yX1_east : MethodName := ⟨RX1, "east", "(I)J"⟩
abbrev cX1_north : ByteArray := prog_3_method_9_code
def yX1_north : MethodName := ⟨RX1, "north", "(I)J"⟩
abbrev cX1_part : ByteArray := prog_3_method_10_code
def yX1_part : MethodName := ⟨RX1, "part", "(II)J"⟩
def RX2 : String := "LayerSounder$Reel"
def TX2 : u_T := fun k => match k with
  | 0 => ("LayerSounder$Reel", "items", "[I", true)
  | 1 => ("LayerSounder$Reel", "form", "I", false)
  | _ => ("LayerSounder$Reel", "size", "I", false)
def tyX2 : Nat → FieldType := fun k => match k with
  | 0 => .array .int
  | 1 => .int
  | _ => .int
abbrev wsX20 : List Cond := u_ws RX2 TX2 3
theorem nmX2 : ∀ a, a < 3 → ∀ b, b < 3 → a ≠ b → (TX2 a).2.1 ≠ (TX2 b).2.1 := by decide +kernel
theorem tyX2_ok : ∀ k, k < 3 → parseFieldDescriptor (TX2 k).2.2.1 = some (tyX2 k) := by decide +kernel
abbrev cX2_init : ByteArray := prog_4_method_1_code
def yX2_init : MethodName := ⟨RX2, "<init>", "()V"⟩
abbrev cX2_isLost : ByteArray := prog_4_method_2_code
def yX2_isLost : MethodName := ⟨RX2, "isLost", "()Z"⟩
abbrev cX2_renew : ByteArray := prog_4_method_3_code
def yX2_renew : MethodName := ⟨RX2, "renew", "(II)V"⟩
abbrev cX2_drop : ByteArray := prog_4_method_4_code
def yX2_drop : MethodName := ⟨RX2, "drop", "()I"⟩
abbrev cX2_holds : ByteArray := prog_4_method_5_code
def yX2_holds : MethodName := ⟨RX2, "holds", "(I)Z"⟩
abbrev cX2_holdsRun : ByteArray := prog_4_method_6_code
def yX2_holdsRun : MethodName := ⟨RX2, "holdsRun", "(II)Z"⟩
abbrev cX2_findingAt : ByteArray := prog_4_method_7_code
def yX2_findingAt : MethodName := ⟨RX2, "findingAt", "(II)I"⟩
abbrev cX2_store : ByteArray := prog_4_method_8_code
def yX2_store : MethodName := ⟨RX2, "store", "(II)V"⟩
abbrev cX2_item : ByteArray := prog_4_method_9_code
def yX2_item : MethodName := ⟨RX2, "item", "(I)I"⟩
abbrev cX2_reading : ByteArray := prog_4_method_10_code
def yX2_reading : MethodName := ⟨RX2, "reading", "(I)I"⟩
abbrev cX2_narrowed : ByteArray := prog_4_method_11_code
def yX2_narrowed : MethodName := ⟨RX2, "narrowed", "(I)I"⟩
def RX3 : String := "LayerSounder$Track"
def TX3 : u_T := fun k => match k with
  | 0 => ("LayerSounder$Track", "headings", "[I", true)
  | 1 => ("LayerSounder$Track", "xs", "[I", true)
  | 2 => ("LayerSounder$Track", "ys", "[I", true)
  | 3 => ("LayerSounder$Track", "depths", "[I", true)
  | _ => ("LayerSounder$Track", "number", "I", false)
def tyX3 : Nat → FieldType := fun k => match k with
  | 0 => .array .int
  | 1 => .array .int
  | 2 => .array .int
  | 3 => .array .int
  | _ => .int
abbrev wsX30 : List Cond := u_ws RX3 TX3 5
theorem nmX3 : ∀ a, a < 5 → ∀ b, b < 5 → a ≠ b → (TX3 a).2.1 ≠ (TX3 b).2.1 := by decide +kernel
theorem tyX3_ok : ∀ k, k < 5 → parseFieldDescriptor (TX3 k).2.2.1 = some (tyX3 k) := by decide +kernel
abbrev cX3_init : ByteArray := prog_5_method_1_code
def yX3_init : MethodName := ⟨RX3, "<init>", "()V"⟩
abbrev cX3_isPing : ByteArray := prog_5_method_2_code
def yX3_isPing : MethodName := ⟨RX3, "isPing", "(I)Z"⟩
abbrev cX3_isSpan : ByteArray := prog_5_method_3_code
def yX3_isSpan : MethodName := ⟨RX3, "isSpan", "(II)Z"⟩
abbrev cX3_append : ByteArray := prog_5_method_4_code
def yX3_append : MethodName := ⟨RX3, "append", "(IIII)I"⟩
abbrev cX3_changeHeading : ByteArray := prog_5_method_5_code
def yX3_changeHeading : MethodName := ⟨RX3, "changeHeading", "(II)I"⟩
abbrev cX3_headingOf : ByteArray := prog_5_method_6_code
def yX3_headingOf : MethodName := ⟨RX3, "headingOf", "(I)I"⟩
abbrev cX3_xOf : ByteArray := prog_5_method_7_code
def yX3_xOf : MethodName := ⟨RX3, "xOf", "(I)I"⟩
abbrev cX3_yOf : ByteArray := prog_5_method_8_code
def yX3_yOf : MethodName := ⟨RX3, "yOf", "(I)I"⟩
abbrev cX3_depthOf : ByteArray := prog_5_method_9_code
def yX3_depthOf : MethodName := ⟨RX3, "depthOf", "(I)I"⟩
abbrev cX3_stepX : ByteArray := prog_5_method_10_code
def yX3_stepX : MethodName := ⟨RX3, "stepX", "(I)J"⟩
abbrev cX3_stepY : ByteArray := prog_5_method_11_code
def yX3_stepY : MethodName := ⟨RX3, "stepY", "(I)J"⟩
abbrev cX3_areNear : ByteArray := prog_5_method_12_code
def yX3_areNear : MethodName := ⟨RX3, "areNear", "(III)Z"⟩
def RX4 : String := "LayerSounder"
def TX4 : u_T := fun k => match k with
  | 0 => ("LayerSounder", "reels", "[LLayerSounder$Reel;", true)
  | 1 => ("LayerSounder", "track", "LLayerSounder$Track;", true)
  | 2 => ("LayerSounder", "beams", "LLayerSounder$Beams;", true)
  | 3 => ("LayerSounder", "ownDrift", "LLayerSounder$Drift;", true)
  | 4 => ("LayerSounder", "paceDrift", "LLayerSounder$Drift;", true)
  | 5 => ("LayerSounder", "firstSum", "LLayerSounder$Drift;", true)
  | 6 => ("LayerSounder", "secondSum", "LLayerSounder$Drift;", true)
  | 7 => ("LayerSounder", "layers", "I", false)
  | 8 => ("LayerSounder", "howOwn", "I", false)
  | 9 => ("LayerSounder", "skewTurn", "I", false)
  | 10 => ("LayerSounder", "edgeCells", "I", false)
  | 11 => ("LayerSounder", "threesTaken", "Z", false)
  | 12 => ("LayerSounder", "oddBound", "I", false)
  | _ => ("LayerSounder", "latestFinding", "I", false)
def tyX4 : Nat → FieldType := fun k => match k with
  | 0 => .array (.object "LayerSounder$Reel")
  | 1 => .object "LayerSounder$Track"
  | 2 => .object "LayerSounder$Beams"
  | 3 => .object "LayerSounder$Drift"
  | 4 => .object "LayerSounder$Drift"
  | 5 => .object "LayerSounder$Drift"
  | 6 => .object "LayerSounder$Drift"
  | 7 => .int
  | 8 => .int
  | 9 => .int
  | 10 => .int
  | 11 => .boolean
  | 12 => .int
  | _ => .int
abbrev wsX40 : List Cond := u_ws RX4 TX4 14
theorem nmX4 : ∀ a, a < 14 → ∀ b, b < 14 → a ≠ b → (TX4 a).2.1 ≠ (TX4 b).2.1 := by decide +kernel
theorem tyX4_ok : ∀ k, k < 14 → parseFieldDescriptor (TX4 k).2.2.1 = some (tyX4 k) := by decide +kernel
abbrev cX4_init : ByteArray := prog_1_method_1_code
def yX4_init : MethodName := ⟨RX4, "<init>", "()V"⟩
abbrev cX4_reel : ByteArray := prog_1_method_2_code
def yX4_reel : MethodName := ⟨RX4, "reel", "(III)I"⟩
abbrev cX4_lose : ByteArray := prog_1_method_3_code
def yX4_lose : MethodName := ⟨RX4, "lose", "(I)I"⟩
abbrev cX4_put : ByteArray := prog_1_method_4_code
def yX4_put : MethodName := ⟨RX4, "put", "(IIII)I"⟩
abbrev cX4_get : ByteArray := prog_1_method_5_code
def yX4_get : MethodName := ⟨RX4, "get", "(III)I"⟩
abbrev cX4_copy : ByteArray := prog_1_method_6_code
def yX4_copy : MethodName := ⟨RX4, "copy", "(IIIII)I"⟩
abbrev cX4_cells : ByteArray := prog_1_method_7_code
def yX4_cells : MethodName := ⟨RX4, "cells", "(I)I"⟩
abbrev cX4_ping : ByteArray := prog_1_method_8_code
def yX4_ping : MethodName := ⟨RX4, "ping", "(IIII)I"⟩
abbrev cX4_mend : ByteArray := prog_1_method_9_code
def yX4_mend : MethodName := ⟨RX4, "mend", "(II)I"⟩
abbrev cX4_clear : ByteArray := prog_1_method_10_code
def yX4_clear : MethodName := ⟨RX4, "clear", "()I"⟩
abbrev cX4_about : ByteArray := prog_1_method_11_code
def yX4_about : MethodName := ⟨RX4, "about", "(II)I"⟩
abbrev cX4_own : ByteArray := prog_1_method_12_code
def yX4_own : MethodName := ⟨RX4, "own", "(II)J"⟩
abbrev cX4_motion : ByteArray := prog_1_method_13_code
def yX4_motion : MethodName := ⟨RX4, "motion", "(I)I"⟩
abbrev cX4_skew : ByteArray := prog_1_method_14_code
def yX4_skew : MethodName := ⟨RX4, "skew", "(I)I"⟩
abbrev cX4_laws : ByteArray := prog_1_method_15_code
def yX4_laws : MethodName := ⟨RX4, "laws", "(IZI)I"⟩
abbrev cX4_answer : ByteArray := prog_1_method_16_code
def yX4_answer : MethodName := ⟨RX4, "answer", "(IIIII)I"⟩
abbrev cX4_beam : ByteArray := prog_1_method_17_code
def yX4_beam : MethodName := ⟨RX4, "beam", "(IIIII)I"⟩
abbrev cX4_turned : ByteArray := prog_1_method_18_code
def yX4_turned : MethodName := ⟨RX4, "turned", "(IIII)I"⟩
abbrev cX4_fate : ByteArray := prog_1_method_19_code
def yX4_fate : MethodName := ⟨RX4, "fate", "(II)I"⟩
abbrev cX4_pace : ByteArray := prog_1_method_20_code
def yX4_pace : MethodName := ⟨RX4, "pace", "(III)J"⟩
abbrev cX4_fates : ByteArray := prog_1_method_21_code
def yX4_fates : MethodName := ⟨RX4, "fates", "(I)I"⟩
abbrev cX4_box : ByteArray := prog_1_method_22_code
def yX4_box : MethodName := ⟨RX4, "box", "(IIIII)J"⟩
abbrev cX4_mean : ByteArray := prog_1_method_23_code
def yX4_mean : MethodName := ⟨RX4, "mean", "(IIIII)J"⟩
abbrev cX4_flow : ByteArray := prog_1_method_24_code
def yX4_flow : MethodName := ⟨RX4, "flow", "(III)J"⟩
abbrev cX4_askew : ByteArray := prog_1_method_25_code
def yX4_askew : MethodName := ⟨RX4, "askew", "(IIII)I"⟩
abbrev cX4_closes : ByteArray := prog_1_method_26_code
def yX4_closes : MethodName := ⟨RX4, "closes", "(II)I"⟩
abbrev cX4_count : ByteArray := prog_1_method_27_code
def yX4_count : MethodName := ⟨RX4, "count", "(I)I"⟩
abbrev cX4_digest : ByteArray := prog_1_method_28_code
def yX4_digest : MethodName := ⟨RX4, "digest", "()J"⟩
abbrev cX4_isWithin : ByteArray := prog_1_method_29_code
def yX4_isWithin : MethodName := ⟨RX4, "isWithin", "(III)Z"⟩
abbrev cX4_isReel : ByteArray := prog_1_method_30_code
def yX4_isReel : MethodName := ⟨RX4, "isReel", "(I)Z"⟩
abbrev cX4_isForm : ByteArray := prog_1_method_31_code
def yX4_isForm : MethodName := ⟨RX4, "isForm", "(I)Z"⟩
abbrev cX4_isTurn : ByteArray := prog_1_method_32_code
def yX4_isTurn : MethodName := ⟨RX4, "isTurn", "(I)Z"⟩
abbrev cX4_isPlace : ByteArray := prog_1_method_33_code
def yX4_isPlace : MethodName := ⟨RX4, "isPlace", "(I)Z"⟩
abbrev cX4_isPart : ByteArray := prog_1_method_34_code
def yX4_isPart : MethodName := ⟨RX4, "isPart", "(I)Z"⟩
abbrev cX4_isCell : ByteArray := prog_1_method_35_code
def yX4_isCell : MethodName := ⟨RX4, "isCell", "(I)Z"⟩
abbrev cX4_isBox : ByteArray := prog_1_method_36_code
def yX4_isBox : MethodName := ⟨RX4, "isBox", "(IIII)Z"⟩
abbrev cX4_found : ByteArray := prog_1_method_37_code
def yX4_found : MethodName := ⟨RX4, "found", "(I)I"⟩
abbrev cX4_asLong : ByteArray := prog_1_method_38_code
def yX4_asLong : MethodName := ⟨RX4, "asLong", "(I)J"⟩
abbrev cX4_asNumber : ByteArray := prog_1_method_39_code
def yX4_asNumber : MethodName := ⟨RX4, "asNumber", "(Z)I"⟩
abbrev cX4_cOf : ByteArray := prog_1_method_40_code
def yX4_cOf : MethodName := ⟨RX4, "cOf", "(I)J"⟩
abbrev cX4_sOf : ByteArray := prog_1_method_41_code
def yX4_sOf : MethodName := ⟨RX4, "sOf", "(I)J"⟩
abbrev cX4_xTurned : ByteArray := prog_1_method_42_code
def yX4_xTurned : MethodName := ⟨RX4, "xTurned", "(JJI)J"⟩
abbrev cX4_yTurned : ByteArray := prog_1_method_43_code
def yX4_yTurned : MethodName := ⟨RX4, "yTurned", "(JJI)J"⟩
abbrev cX4_readingOf : ByteArray := prog_1_method_44_code
def yX4_readingOf : MethodName := ⟨RX4, "readingOf", "(II)I"⟩
abbrev cX4_readBeams : ByteArray := prog_1_method_45_code
def yX4_readBeams : MethodName := ⟨RX4, "readBeams", "(II)V"⟩
abbrev cX4_itemOfCell : ByteArray := prog_1_method_46_code
def yX4_itemOfCell : MethodName := ⟨RX4, "itemOfCell", "(II)I"⟩
abbrev cX4_findOwn : ByteArray := prog_1_method_47_code
def yX4_findOwn : MethodName := ⟨RX4, "findOwn", "(I)Z"⟩
abbrev cX4_findPace : ByteArray := prog_1_method_48_code
def yX4_findPace : MethodName := ⟨RX4, "findPace", "(I)V"⟩
abbrev cX4_judge : ByteArray := prog_1_method_49_code
def yX4_judge : MethodName := ⟨RX4, "judge", "(IIZ)I"⟩
abbrev cX4_fatesOfPing : ByteArray := prog_1_method_50_code
def yX4_fatesOfPing : MethodName := ⟨RX4, "fatesOfPing", "(II)I"⟩
abbrev cX4_digestOfPing : ByteArray := prog_1_method_51_code
def yX4_digestOfPing : MethodName := ⟨RX4, "digestOfPing", "(JI)J"⟩
abbrev cX4_sumGood : ByteArray := prog_1_method_52_code
def yX4_sumGood : MethodName := ⟨RX4, "sumGood", "(LLayerSounder$Drift;IIII)I"⟩
abbrev cX4_flowOfPing : ByteArray := prog_1_method_53_code
def yX4_flowOfPing : MethodName := ⟨RX4, "flowOfPing", "(IZ)J"⟩
abbrev cX4_flowOfPace : ByteArray := prog_1_method_54_code
def yX4_flowOfPace : MethodName := ⟨RX4, "flowOfPace", "(I)J"⟩
abbrev cX4_cellsUnder : ByteArray := prog_1_method_55_code
def yX4_cellsUnder : MethodName := ⟨RX4, "cellsUnder", "(II)I"⟩
abbrev cX4_turnOfLeastMiss : ByteArray := prog_1_method_56_code
def yX4_turnOfLeastMiss : MethodName := ⟨RX4, "turnOfLeastMiss", "(LLayerSounder$Drift;)I"⟩
abbrev cX4_missBelowZero : ByteArray := prog_1_method_57_code
def yX4_missBelowZero : MethodName := ⟨RX4, "missBelowZero", "(LLayerSounder$Drift;I)J"⟩
abbrev cX4_belowZero : ByteArray := prog_1_method_58_code
def yX4_belowZero : MethodName := ⟨RX4, "belowZero", "(J)J"⟩
def RX5 : String := "LayerSounderModel"
def TX5 : u_T := fun k => match k with
  | 0 => ("LayerSounderModel", "cs", "[I", true)
  | 1 => ("LayerSounderModel", "ss", "[I", true)
  | 2 => ("LayerSounderModel", "forms", "[I", true)
  | 3 => ("LayerSounderModel", "sizes", "[I", true)
  | 4 => ("LayerSounderModel", "items", "[I", true)
  | 5 => ("LayerSounderModel", "moved", "[I", true)
  | 6 => ("LayerSounderModel", "latest", "I", false)
  | 7 => ("LayerSounderModel", "l", "I", false)
  | 8 => ("LayerSounderModel", "pings", "I", false)
  | 9 => ("LayerSounderModel", "headings", "[I", true)
  | 10 => ("LayerSounderModel", "xs", "[I", true)
  | 11 => ("LayerSounderModel", "ys", "[I", true)
  | 12 => ("LayerSounderModel", "depths", "[I", true)
  | 13 => ("LayerSounderModel", "turnedX", "J", false)
  | 14 => ("LayerSounderModel", "turnedY", "J", false)
  | 15 => ("LayerSounderModel", "along", "I", false)
  | 16 => ("LayerSounderModel", "across", "I", false)
  | 17 => ("LayerSounderModel", "odd", "I", false)
  | 18 => ("LayerSounderModel", "lost", "I", false)
  | 19 => ("LayerSounderModel", "motion", "I", false)
  | 20 => ("LayerSounderModel", "skew", "I", false)
  | 21 => ("LayerSounderModel", "edge", "I", false)
  | 22 => ("LayerSounderModel", "takes", "Z", false)
  | 23 => ("LayerSounderModel", "bound", "I", false)
  | 24 => ("LayerSounderModel", "ownX", "J", false)
  | 25 => ("LayerSounderModel", "ownY", "J", false)
  | 26 => ("LayerSounderModel", "paceX", "J", false)
  | 27 => ("LayerSounderModel", "paceY", "J", false)
  | 28 => ("LayerSounderModel", "many", "J", false)
  | 29 => ("LayerSounderModel", "sumX", "J", false)
  | _ => ("LayerSounderModel", "sumY", "J", false)
def tyX5 : Nat → FieldType := fun k => match k with
  | 0 => .array .int
  | 1 => .array .int
  | 2 => .array .int
  | 3 => .array .int
  | 4 => .array .int
  | 5 => .array .int
  | 6 => .int
  | 7 => .int
  | 8 => .int
  | 9 => .array .int
  | 10 => .array .int
  | 11 => .array .int
  | 12 => .array .int
  | 13 => .long
  | 14 => .long
  | 15 => .int
  | 16 => .int
  | 17 => .int
  | 18 => .int
  | 19 => .int
  | 20 => .int
  | 21 => .int
  | 22 => .boolean
  | 23 => .int
  | 24 => .long
  | 25 => .long
  | 26 => .long
  | 27 => .long
  | 28 => .long
  | 29 => .long
  | _ => .long
abbrev wsX50 : List Cond := u_ws RX5 TX5 31
theorem nmX5 : ∀ a, a < 31 → ∀ b, b < 31 → a ≠ b → (TX5 a).2.1 ≠ (TX5 b).2.1 := by decide +kernel
theorem tyX5_ok : ∀ k, k < 31 → parseFieldDescriptor (TX5 k).2.2.1 = some (tyX5 k) := by decide +kernel
abbrev cX5_init : ByteArray := prog_7_method_1_code
def yX5_init : MethodName := ⟨RX5, "<init>", "()V"⟩
abbrev cX5_in : ByteArray := prog_7_method_3_code
def yX5_in : MethodName := ⟨RX5, "in", "(JJJ)Z"⟩
abbrev cX5_no : ByteArray := prog_7_method_4_code
def yX5_no : MethodName := ⟨RX5, "no", "(I)J"⟩
abbrev cX5_amount : ByteArray := prog_7_method_5_code
def yX5_amount : MethodName := ⟨RX5, "amount", "(J)J"⟩
abbrev cX5_met : ByteArray := prog_7_method_6_code
def yX5_met : MethodName := ⟨RX5, "met", "(I)I"⟩
abbrev cX5_isReel : ByteArray := prog_7_method_7_code
def yX5_isReel : MethodName := ⟨RX5, "isReel", "(I)Z"⟩
abbrev cX5_reel : ByteArray := prog_7_method_8_code
def yX5_reel : MethodName := ⟨RX5, "reel", "(III)I"⟩
abbrev cX5_lose : ByteArray := prog_7_method_9_code
def yX5_lose : MethodName := ⟨RX5, "lose", "(I)I"⟩
abbrev cX5_lacks : ByteArray := prog_7_method_10_code
def yX5_lacks : MethodName := ⟨RX5, "lacks", "(III)I"⟩
abbrev cX5_put : ByteArray := prog_7_method_11_code
def yX5_put : MethodName := ⟨RX5, "put", "(IIII)I"⟩
abbrev cX5_get : ByteArray := prog_7_method_12_code
def yX5_get : MethodName := ⟨RX5, "get", "(III)I"⟩
abbrev cX5_copy : ByteArray := prog_7_method_13_code
def yX5_copy : MethodName := ⟨RX5, "copy", "(IIIII)I"⟩
abbrev cX5_told : ByteArray := prog_7_method_14_code
def yX5_told : MethodName := ⟨RX5, "told", "(I)I"⟩
abbrev cX5_reading : ByteArray := prog_7_method_15_code
def yX5_reading : MethodName := ⟨RX5, "reading", "(II)I"⟩
abbrev cX5_cells : ByteArray := prog_7_method_16_code
def yX5_cells : MethodName := ⟨RX5, "cells", "(I)I"⟩
abbrev cX5_ping : ByteArray := prog_7_method_17_code
def yX5_ping : MethodName := ⟨RX5, "ping", "(IIII)I"⟩
abbrev cX5_isPing : ByteArray := prog_7_method_18_code
def yX5_isPing : MethodName := ⟨RX5, "isPing", "(I)Z"⟩
abbrev cX5_mend : ByteArray := prog_7_method_19_code
def yX5_mend : MethodName := ⟨RX5, "mend", "(II)I"⟩
abbrev cX5_clear : ByteArray := prog_7_method_20_code
def yX5_clear : MethodName := ⟨RX5, "clear", "()I"⟩
abbrev cX5_about : ByteArray := prog_7_method_21_code
def yX5_about : MethodName := ⟨RX5, "about", "(II)I"⟩
abbrev cX5_turn : ByteArray := prog_7_method_22_code
def yX5_turn : MethodName := ⟨RX5, "turn", "(JJI)V"⟩
abbrev cX5_turned : ByteArray := prog_7_method_23_code
def yX5_turned : MethodName := ⟨RX5, "turned", "(IIII)I"⟩
abbrev cX5_answers : ByteArray := prog_7_method_24_code
def yX5_answers : MethodName := ⟨RX5, "answers", "(IIII)Z"⟩
abbrev cX5_answer : ByteArray := prog_7_method_25_code
def yX5_answer : MethodName := ⟨RX5, "answer", "(IIIII)I"⟩
abbrev cX5_beam : ByteArray := prog_7_method_26_code
def yX5_beam : MethodName := ⟨RX5, "beam", "(IIIII)I"⟩
abbrev cX5_motion : ByteArray := prog_7_method_27_code
def yX5_motion : MethodName := ⟨RX5, "motion", "(I)I"⟩
abbrev cX5_skew : ByteArray := prog_7_method_28_code
def yX5_skew : MethodName := ⟨RX5, "skew", "(I)I"⟩
abbrev cX5_laws : ByteArray := prog_7_method_29_code
def yX5_laws : MethodName := ⟨RX5, "laws", "(IZI)I"⟩
abbrev cX5_bring : ByteArray := prog_7_method_30_code
def yX5_bring : MethodName := ⟨RX5, "bring", "(I)V"⟩
abbrev cX5_findOwn : ByteArray := prog_7_method_31_code
def yX5_findOwn : MethodName := ⟨RX5, "findOwn", "(I)Z"⟩
abbrev cX5_own : ByteArray := prog_7_method_32_code
def yX5_own : MethodName := ⟨RX5, "own", "(II)J"⟩
abbrev cX5_cellAnswers : ByteArray := prog_7_method_33_code
def yX5_cellAnswers : MethodName := ⟨RX5, "cellAnswers", "(II)Z"⟩
abbrev cX5_isCell : ByteArray := prog_7_method_34_code
def yX5_isCell : MethodName := ⟨RX5, "isCell", "(II)Z"⟩
abbrev cX5_fateOf : ByteArray := prog_7_method_35_code
def yX5_fateOf : MethodName := ⟨RX5, "fateOf", "(II)I"⟩
abbrev cX5_fate : ByteArray := prog_7_method_36_code
def yX5_fate : MethodName := ⟨RX5, "fate", "(II)I"⟩
abbrev cX5_findPace : ByteArray := prog_7_method_37_code
def yX5_findPace : MethodName := ⟨RX5, "findPace", "(II)Z"⟩
abbrev cX5_pace : ByteArray := prog_7_method_38_code
def yX5_pace : MethodName := ⟨RX5, "pace", "(III)J"⟩
abbrev cX5_fates : ByteArray := prog_7_method_39_code
def yX5_fates : MethodName := ⟨RX5, "fates", "(I)I"⟩
abbrev cX5_gather : ByteArray := prog_7_method_40_code
def yX5_gather : MethodName := ⟨RX5, "gather", "(IIII)V"⟩
abbrev cX5_isRow : ByteArray := prog_7_method_41_code
def yX5_isRow : MethodName := ⟨RX5, "isRow", "(II)Z"⟩
abbrev cX5_isBox : ByteArray := prog_7_method_42_code
def yX5_isBox : MethodName := ⟨RX5, "isBox", "(IIII)Z"⟩
abbrev cX5_box : ByteArray := prog_7_method_43_code
def yX5_box : MethodName := ⟨RX5, "box", "(IIIII)J"⟩
abbrev cX5_mean : ByteArray := prog_7_method_44_code
def yX5_mean : MethodName := ⟨RX5, "mean", "(IIIII)J"⟩
abbrev cX5_across : ByteArray := prog_7_method_45_code
def yX5_across : MethodName := ⟨RX5, "across", "(II)J"⟩
abbrev cX5_flow : ByteArray := prog_7_method_46_code
def yX5_flow : MethodName := ⟨RX5, "flow", "(III)J"⟩
abbrev cX5_askew : ByteArray := prog_7_method_47_code
def yX5_askew : MethodName := ⟨RX5, "askew", "(IIII)I"⟩
abbrev cX5_closes : ByteArray := prog_7_method_48_code
def yX5_closes : MethodName := ⟨RX5, "closes", "(II)I"⟩
abbrev cX5_count : ByteArray := prog_7_method_49_code
def yX5_count : MethodName := ⟨RX5, "count", "(I)I"⟩
abbrev cX5_digest : ByteArray := prog_7_method_50_code
def yX5_digest : MethodName := ⟨RX5, "digest", "()J"⟩
def RJ9 : String := "java/lang/Math"
def TJ9 : u_T := fun k => match k with
  | _ => ("", "", "", false)
def tyJ9 : Nat → FieldType := fun k => match k with
  | _ => .int
abbrev wsJ90 : List Cond := u_ws RJ9 TJ9 0
theorem nmJ9 : ∀ a, a < 0 → ∀ b, b < 0 → a ≠ b → (TJ9 a).2.1 ≠ (TJ9 b).2.1 := by decide +kernel
theorem tyJ9_ok : ∀ k, k < 0 → parseFieldDescriptor (TJ9 k).2.2.1 = some (tyJ9 k) := by decide +kernel
abbrev cJ9_floorDiv_f86c9 : ByteArray := prog_8_method_49_code
def yJ9_floorDiv_f86c9 : MethodName := ⟨RJ9, "floorDiv", "(JJ)J"⟩
abbrev cJ9_abs_0f7a4 : ByteArray := prog_8_method_59_code
def yJ9_abs_0f7a4 : MethodName := ⟨RJ9, "abs", "(I)I"⟩
abbrev cJ9_min_7cf53 : ByteArray := prog_8_method_69_code
def yJ9_min_7cf53 : MethodName := ⟨RJ9, "min", "(II)I"⟩
abbrev cJ9_min_f86c9 : ByteArray := prog_8_method_70_code
def yJ9_min_f86c9 : MethodName := ⟨RJ9, "min", "(JJ)J"⟩
def RJ10 : String := "java/lang/System"
def TJ10 : u_T := fun k => match k with
  | _ => ("", "", "", false)
def tyJ10 : Nat → FieldType := fun k => match k with
  | _ => .int
abbrev wsJ100 : List Cond := u_ws RJ10 TJ10 0
theorem nmJ10 : ∀ a, a < 0 → ∀ b, b < 0 → a ≠ b → (TJ10 a).2.1 ≠ (TJ10 b).2.1 := by decide +kernel
theorem tyJ10_ok : ∀ k, k < 0 → parseFieldDescriptor (TJ10 k).2.2.1 = some (tyJ10 k) := by decide +kernel
def RL : String := "LayerSounderLaw"
abbrev cL_law : ByteArray := code
def yL_law : MethodName := ⟨RL, "law", "([I)Z"⟩
def wsX0_init : List Cond := .code yX0_init cX0_init 1 none :: ([.methodLink RX0 3 objectInit, .instanceMethod objectInit, .code objectInit ⟨#[0xb1]⟩ 1 none, .fieldLink RX0 9 "LayerSounder$Beams" "answered" "Z", .fieldLink RX0 15 "LayerSounder$Beams" "three" "Z", .fieldLink RX0 18 "LayerSounder$Beams" "along" "I", .fieldLink RX0 22 "LayerSounder$Beams" "across" "I", .fieldLink RX0 25 "LayerSounder$Beams" "odd" "I"] ++ wsX00)
def wsX0_isNone : List Cond := .code yX0_isNone cX0_isNone 1 (some .boolean) :: ([])
def wsX4_asNumber : List Cond := .code yX4_asNumber cX4_asNumber 1 (some .int) :: ([])
def wsX0_take : List Cond := .code yX0_take cX0_take 10 none :: ([.fieldLink RX0 9 "LayerSounder$Beams" "answered" "Z", .fieldLink RX0 15 "LayerSounder$Beams" "three" "Z", .fieldLink RX0 18 "LayerSounder$Beams" "along" "I", .fieldLink RX0 22 "LayerSounder$Beams" "across" "I", .fieldLink RX0 25 "LayerSounder$Beams" "odd" "I", .methodLink RX0 28 yX0_isNone, .static yX0_isNone, .initialized RX0, .code yX0_isNone cX0_isNone 1 (some .boolean), .static yX4_asNumber, .initialized RX4, .code yX4_asNumber cX4_asNumber 1 (some .int)] ++ wsX00)
def wsX1_init : List Cond := .code yX1_init cX1_init 1 none :: ([.methodLink RX1 1 objectInit, .instanceMethod objectInit, .code objectInit ⟨#[0xb1]⟩ 1 none, .fieldLink RX1 7 "LayerSounder$Drift" "swungX" "J", .fieldLink RX1 13 "LayerSounder$Drift" "swungY" "J", .fieldLink RX1 16 "LayerSounder$Drift" "heldX" "J", .fieldLink RX1 19 "LayerSounder$Drift" "heldY" "J"] ++ wsX10)
def wsX1_rest : List Cond := .code yX1_rest cX1_rest 1 none :: ([.fieldLink RX1 7 "LayerSounder$Drift" "swungX" "J", .fieldLink RX1 13 "LayerSounder$Drift" "swungY" "J", .fieldLink RX1 16 "LayerSounder$Drift" "heldX" "J", .fieldLink RX1 19 "LayerSounder$Drift" "heldY" "J"] ++ wsX10)
def wsX4_cOf : List Cond := .code yX4_cOf cX4_cOf 1 (some .long) :: ([.fieldLink RX4 271 "LayerSounder" "C_OF_TURNS" "[I"])
def wsX4_sOf : List Cond := .code yX4_sOf cX4_sOf 1 (some .long) :: ([.fieldLink RX4 271 "LayerSounder" "C_OF_TURNS" "[I"])
def wsX4_xTurned : List Cond := .code yX4_xTurned cX4_xTurned 5 (some .long) :: ([.methodLink RX4 274 yX4_cOf, .static yX4_cOf, .initialized RX4, .code yX4_cOf cX4_cOf 1 (some .long), .fieldLink RX4 271 "LayerSounder" "C_OF_TURNS" "[I", .methodLink RX4 277 yX4_sOf, .static yX4_sOf, .code yX4_sOf cX4_sOf 1 (some .long)])
def wsX4_yTurned : List Cond := .code yX4_yTurned cX4_yTurned 5 (some .long) :: ([.methodLink RX4 277 yX4_sOf, .static yX4_sOf, .initialized RX4, .code yX4_sOf cX4_sOf 1 (some .long), .fieldLink RX4 271 "LayerSounder" "C_OF_TURNS" "[I", .methodLink RX4 274 yX4_cOf, .static yX4_cOf, .code yX4_cOf cX4_cOf 1 (some .long)])
def wsX1_swing : List Cond := .code yX1_swing cX1_swing 4 none :: ([.fieldLink RX1 7 "LayerSounder$Drift" "swungX" "J", .fieldLink RX1 13 "LayerSounder$Drift" "swungY" "J", .static yX4_xTurned, .initialized RX4, .code yX4_xTurned cX4_xTurned 5 (some .long), .methodLink RX4 274 yX4_cOf, .static yX4_cOf, .code yX4_cOf cX4_cOf 1 (some .long), .fieldLink RX4 271 "LayerSounder" "C_OF_TURNS" "[I", .methodLink RX4 277 yX4_sOf, .static yX4_sOf, .code yX4_sOf cX4_sOf 1 (some .long), .static yX4_yTurned, .code yX4_yTurned cX4_yTurned 5 (some .long)] ++ wsX10)
def wsX1_hold : List Cond := .code yX1_hold cX1_hold 5 none :: ([.fieldLink RX1 16 "LayerSounder$Drift" "heldX" "J", .fieldLink RX1 19 "LayerSounder$Drift" "heldY" "J"] ++ wsX10)
def wsX1_add : List Cond := .code yX1_add cX1_add 2 none :: ([.fieldLink RX1 7 "LayerSounder$Drift" "swungX" "J", .fieldLink RX1 13 "LayerSounder$Drift" "swungY" "J", .fieldLink RX1 16 "LayerSounder$Drift" "heldX" "J", .fieldLink RX1 19 "LayerSounder$Drift" "heldY" "J"] ++ wsX10)
def wsX1_subtract : List Cond := .code yX1_subtract cX1_subtract 2 none :: ([.fieldLink RX1 7 "LayerSounder$Drift" "swungX" "J", .fieldLink RX1 13 "LayerSounder$Drift" "swungY" "J", .fieldLink RX1 16 "LayerSounder$Drift" "heldX" "J", .fieldLink RX1 19 "LayerSounder$Drift" "heldY" "J"] ++ wsX10)
def wsX1_multiply : List Cond := .code yX1_multiply cX1_multiply 3 none :: ([.fieldLink RX1 7 "LayerSounder$Drift" "swungX" "J", .fieldLink RX1 13 "LayerSounder$Drift" "swungY" "J", .fieldLink RX1 16 "LayerSounder$Drift" "heldX" "J", .fieldLink RX1 19 "LayerSounder$Drift" "heldY" "J"] ++ wsX10)
def wsX1_east : List Cond := .code yX1_east cX1_east 2 (some .long) :: ([.fieldLink RX1 7 "LayerSounder$Drift" "swungX" "J", .fieldLink RX1 13 "LayerSounder$Drift" "swungY" "J", .fieldLink RX1 16 "LayerSounder$Drift" "heldX" "J", .static yX4_xTurned, .initialized RX4, .code yX4_xTurned cX4_xTurned 5 (some .long), .methodLink RX4 274 yX4_cOf, .static yX4_cOf, .code yX4_cOf cX4_cOf 1 (some .long), .fieldLink RX4 271 "LayerSounder" "C_OF_TURNS" "[I", .methodLink RX4 277 yX4_sOf, .static yX4_sOf, .code yX4_sOf cX4_sOf 1 (some .long)] ++ wsX10)
def wsX1_north : List Cond := .code yX1_north cX1_north 2 (some .long) :: ([.fieldLink RX1 7 "LayerSounder$Drift" "swungX" "J", .fieldLink RX1 13 "LayerSounder$Drift" "swungY" "J", .fieldLink RX1 19 "LayerSounder$Drift" "heldY" "J", .static yX4_yTurned, .initialized RX4, .code yX4_yTurned cX4_yTurned 5 (some .long), .methodLink RX4 277 yX4_sOf, .static yX4_sOf, .code yX4_sOf cX4_sOf 1 (some .long), .fieldLink RX4 271 "LayerSounder" "C_OF_TURNS" "[I", .methodLink RX4 274 yX4_cOf, .static yX4_cOf, .code yX4_cOf cX4_cOf 1 (some .long)] ++ wsX10)
def wsX1_part_r1 : List Cond := [Cond.methodLink RX1 31 yX1_east, Cond.instanceMethod yX1_east, Cond.selects RX1 yX1_east yX1_east, Cond.initialized RX1, Cond.code yX1_east cX1_east 2 (some .long), Cond.fieldLink RX1 7 "LayerSounder$Drift" "swungX" "J", Cond.fieldLink RX1 13 "LayerSounder$Drift" "swungY" "J", Cond.fieldLink RX1 16 "LayerSounder$Drift" "heldX" "J", Cond.static yX4_xTurned, Cond.initialized RX4, Cond.code yX4_xTurned cX4_xTurned 5 (some .long), Cond.methodLink RX4 274 yX4_cOf, Cond.static yX4_cOf, Cond.code yX4_cOf cX4_cOf 1 (some .long), Cond.fieldLink RX4 271 "LayerSounder" "C_OF_TURNS" "[I", Cond.methodLink RX4 277 yX4_sOf, Cond.static yX4_sOf, Cond.code yX4_sOf cX4_sOf 1 (some .long), Cond.methodLink RX1 35 yX1_north, Cond.instanceMethod yX1_north, Cond.selects RX1 yX1_north yX1_north, Cond.code yX1_north cX1_north 2 (some .long), Cond.fieldLink RX1 19 "LayerSounder$Drift" "heldY" "J", Cond.static yX4_yTurned]
def wsX1_part_r2 : List Cond := [Cond.code yX4_yTurned cX4_yTurned 5 (some .long)]
def wsX1_part : List Cond := .code yX1_part cX1_part 3 (some .long) :: ((wsX1_part_r1 ++ wsX1_part_r2) ++ wsX10)
def wsX2_init : List Cond := .code yX2_init cX2_init 1 none :: ([.methodLink RX2 3 objectInit, .instanceMethod objectInit, .code objectInit ⟨#[0xb1]⟩ 1 none, .arrayClass .int, .fieldLink RX2 9 "LayerSounder$Reel" "items" "[I", .fieldLink RX2 15 "LayerSounder$Reel" "form" "I", .fieldLink RX2 19 "LayerSounder$Reel" "size" "I"] ++ wsX20)
def wsX2_isLost : List Cond := .code yX2_isLost cX2_isLost 1 (some .boolean) :: ([.fieldLink RX2 15 "LayerSounder$Reel" "form" "I"] ++ wsX20)
def wsX2_renew : List Cond := .code yX2_renew cX2_renew 4 none :: ([.fieldLink RX2 15 "LayerSounder$Reel" "form" "I", .fieldLink RX2 9 "LayerSounder$Reel" "items" "[I", .methodLink RX2 22 Lib.Math.min.name, .static Lib.Math.min.name, .initialized "java/lang/Math", .code Lib.Math.min.name Lib.Math.min.code 2 (some .int), .fieldLink RX2 19 "LayerSounder$Reel" "size" "I"] ++ wsX20)
def wsX2_drop : List Cond := .code yX2_drop cX2_drop 2 (some .int) :: ([.fieldLink RX2 19 "LayerSounder$Reel" "size" "I", .fieldLink RX2 15 "LayerSounder$Reel" "form" "I"] ++ wsX20)
def wsX2_holds : List Cond := .code yX2_holds cX2_holds 2 (some .boolean) :: ([.fieldLink RX2 19 "LayerSounder$Reel" "size" "I"] ++ wsX20)
def wsX2_holdsRun : List Cond := .code yX2_holdsRun cX2_holdsRun 3 (some .boolean) :: ([.fieldLink RX2 19 "LayerSounder$Reel" "size" "I"] ++ wsX20)
def wsX2_findingAt : List Cond := .code yX2_findingAt cX2_findingAt 3 (some .int) :: ([.fieldLink RX2 15 "LayerSounder$Reel" "form" "I", .methodLink RX2 28 yX2_isLost, .instanceMethod yX2_isLost, .selects RX2 yX2_isLost yX2_isLost, .initialized RX2, .code yX2_isLost cX2_isLost 1 (some .boolean), .methodLink RX2 32 yX2_holds, .instanceMethod yX2_holds, .selects RX2 yX2_holds yX2_holds, .code yX2_holds cX2_holds 2 (some .boolean), .fieldLink RX2 19 "LayerSounder$Reel" "size" "I"] ++ wsX20)
def wsX2_narrowed : List Cond := .code yX2_narrowed cX2_narrowed 2 (some .int) :: ([.fieldLink RX2 15 "LayerSounder$Reel" "form" "I"] ++ wsX20)
def wsX2_store : List Cond := .code yX2_store cX2_store 3 none :: ([.fieldLink RX2 9 "LayerSounder$Reel" "items" "[I", .methodLink RX2 32 yX2_holds, .instanceMethod yX2_holds, .selects RX2 yX2_holds yX2_holds, .initialized RX2, .code yX2_holds cX2_holds 2 (some .boolean), .fieldLink RX2 19 "LayerSounder$Reel" "size" "I", .methodLink RX2 36 yX2_narrowed, .instanceMethod yX2_narrowed, .selects RX2 yX2_narrowed yX2_narrowed, .code yX2_narrowed cX2_narrowed 2 (some .int), .fieldLink RX2 15 "LayerSounder$Reel" "form" "I"] ++ wsX20)
def wsX2_item : List Cond := .code yX2_item cX2_item 2 (some .int) :: ([.fieldLink RX2 9 "LayerSounder$Reel" "items" "[I", .methodLink RX2 32 yX2_holds, .instanceMethod yX2_holds, .selects RX2 yX2_holds yX2_holds, .initialized RX2, .code yX2_holds cX2_holds 2 (some .boolean), .fieldLink RX2 19 "LayerSounder$Reel" "size" "I"] ++ wsX20)
def wsX2_reading : List Cond := .code yX2_reading cX2_reading 2 (some .int) :: ([.fieldLink RX2 19 "LayerSounder$Reel" "size" "I", .fieldLink RX2 9 "LayerSounder$Reel" "items" "[I"] ++ wsX20)
def wsX3_init : List Cond := .code yX3_init cX3_init 1 none :: ([.methodLink RX3 3 objectInit, .instanceMethod objectInit, .code objectInit ⟨#[0xb1]⟩ 1 none, .arrayClass .int, .fieldLink RX3 9 "LayerSounder$Track" "headings" "[I", .fieldLink RX3 15 "LayerSounder$Track" "xs" "[I", .fieldLink RX3 18 "LayerSounder$Track" "ys" "[I", .fieldLink RX3 21 "LayerSounder$Track" "depths" "[I", .fieldLink RX3 24 "LayerSounder$Track" "number" "I"] ++ wsX30)
def wsX3_isPing : List Cond := .code yX3_isPing cX3_isPing 2 (some .boolean) :: ([.fieldLink RX3 24 "LayerSounder$Track" "number" "I"] ++ wsX30)
def wsX3_isSpan : List Cond := .code yX3_isSpan cX3_isSpan 3 (some .boolean) :: ([.methodLink RX3 28 yX3_isPing, .instanceMethod yX3_isPing, .selects RX3 yX3_isPing yX3_isPing, .initialized RX3, .code yX3_isPing cX3_isPing 2 (some .boolean), .fieldLink RX3 24 "LayerSounder$Track" "number" "I"] ++ wsX30)
def wsX3_append : List Cond := .code yX3_append cX3_append 6 (some .int) :: ([.fieldLink RX3 24 "LayerSounder$Track" "number" "I", .fieldLink RX3 9 "LayerSounder$Track" "headings" "[I", .fieldLink RX3 15 "LayerSounder$Track" "xs" "[I", .fieldLink RX3 18 "LayerSounder$Track" "ys" "[I", .fieldLink RX3 21 "LayerSounder$Track" "depths" "[I"] ++ wsX30)
def wsX3_changeHeading : List Cond := .code yX3_changeHeading cX3_changeHeading 4 (some .int) :: ([.fieldLink RX3 9 "LayerSounder$Track" "headings" "[I", .methodLink RX3 28 yX3_isPing, .instanceMethod yX3_isPing, .selects RX3 yX3_isPing yX3_isPing, .initialized RX3, .code yX3_isPing cX3_isPing 2 (some .boolean), .fieldLink RX3 24 "LayerSounder$Track" "number" "I"] ++ wsX30)
def wsX3_headingOf : List Cond := .code yX3_headingOf cX3_headingOf 2 (some .int) :: ([.fieldLink RX3 9 "LayerSounder$Track" "headings" "[I", .methodLink RX3 28 yX3_isPing, .instanceMethod yX3_isPing, .selects RX3 yX3_isPing yX3_isPing, .initialized RX3, .code yX3_isPing cX3_isPing 2 (some .boolean), .fieldLink RX3 24 "LayerSounder$Track" "number" "I"] ++ wsX30)
def wsX3_xOf : List Cond := .code yX3_xOf cX3_xOf 2 (some .int) :: ([.fieldLink RX3 15 "LayerSounder$Track" "xs" "[I", .methodLink RX3 28 yX3_isPing, .instanceMethod yX3_isPing, .selects RX3 yX3_isPing yX3_isPing, .initialized RX3, .code yX3_isPing cX3_isPing 2 (some .boolean), .fieldLink RX3 24 "LayerSounder$Track" "number" "I"] ++ wsX30)
def wsX3_yOf : List Cond := .code yX3_yOf cX3_yOf 2 (some .int) :: ([.fieldLink RX3 18 "LayerSounder$Track" "ys" "[I", .methodLink RX3 28 yX3_isPing, .instanceMethod yX3_isPing, .selects RX3 yX3_isPing yX3_isPing, .initialized RX3, .code yX3_isPing cX3_isPing 2 (some .boolean), .fieldLink RX3 24 "LayerSounder$Track" "number" "I"] ++ wsX30)
def wsX3_depthOf : List Cond := .code yX3_depthOf cX3_depthOf 2 (some .int) :: ([.fieldLink RX3 21 "LayerSounder$Track" "depths" "[I", .methodLink RX3 28 yX3_isPing, .instanceMethod yX3_isPing, .selects RX3 yX3_isPing yX3_isPing, .initialized RX3, .code yX3_isPing cX3_isPing 2 (some .boolean), .fieldLink RX3 24 "LayerSounder$Track" "number" "I"] ++ wsX30)
def wsX3_stepX : List Cond := .code yX3_stepX cX3_stepX 2 (some .long) :: ([.methodLink RX3 32 yX3_xOf, .instanceMethod yX3_xOf, .selects RX3 yX3_xOf yX3_xOf, .initialized RX3, .code yX3_xOf cX3_xOf 2 (some .int), .fieldLink RX3 15 "LayerSounder$Track" "xs" "[I", .methodLink RX3 28 yX3_isPing, .instanceMethod yX3_isPing, .selects RX3 yX3_isPing yX3_isPing, .code yX3_isPing cX3_isPing 2 (some .boolean), .fieldLink RX3 24 "LayerSounder$Track" "number" "I"] ++ wsX30)
def wsX3_stepY : List Cond := .code yX3_stepY cX3_stepY 2 (some .long) :: ([.methodLink RX3 36 yX3_yOf, .instanceMethod yX3_yOf, .selects RX3 yX3_yOf yX3_yOf, .initialized RX3, .code yX3_yOf cX3_yOf 2 (some .int), .fieldLink RX3 18 "LayerSounder$Track" "ys" "[I", .methodLink RX3 28 yX3_isPing, .instanceMethod yX3_isPing, .selects RX3 yX3_isPing yX3_isPing, .code yX3_isPing cX3_isPing 2 (some .boolean), .fieldLink RX3 24 "LayerSounder$Track" "number" "I"] ++ wsX30)
def wsX3_areNear : List Cond := .code yX3_areNear cX3_areNear 4 (some .boolean) :: ([.methodLink RX3 39 Lib.Math.abs.name, .static Lib.Math.abs.name, .initialized "java/lang/Math", .code Lib.Math.abs.name Lib.Math.abs.code 1 (some .int), .methodLink RX3 32 yX3_xOf, .instanceMethod yX3_xOf, .selects RX3 yX3_xOf yX3_xOf, .initialized RX3, .code yX3_xOf cX3_xOf 2 (some .int), .fieldLink RX3 15 "LayerSounder$Track" "xs" "[I", .methodLink RX3 28 yX3_isPing, .instanceMethod yX3_isPing, .selects RX3 yX3_isPing yX3_isPing, .code yX3_isPing cX3_isPing 2 (some .boolean), .fieldLink RX3 24 "LayerSounder$Track" "number" "I", .methodLink RX3 36 yX3_yOf, .instanceMethod yX3_yOf, .selects RX3 yX3_yOf yX3_yOf, .code yX3_yOf cX3_yOf 2 (some .int), .fieldLink RX3 18 "LayerSounder$Track" "ys" "[I"] ++ wsX30)
def wsX4_init_r1 : List Cond := [Cond.methodLink RX4 1 objectInit, Cond.instanceMethod objectInit, Cond.code objectInit ⟨#[0xb1]⟩ 1 none, Cond.classLink RX4 9 RX2, Cond.fieldLink RX4 11 "LayerSounder" "reels" "[LLayerSounder$Reel;", Cond.classLink RX4 15 RX3, Cond.instantiable RX3 5, Cond.initialized RX3, Cond.fieldLink RX4 18 "LayerSounder" "track" "LLayerSounder$Track;", Cond.classLink RX4 22 RX0, Cond.instantiable RX0 5, Cond.initialized RX0, Cond.fieldLink RX4 25 "LayerSounder" "beams" "LLayerSounder$Beams;", Cond.classLink RX4 29 RX1, Cond.instantiable RX1 4, Cond.initialized RX1, Cond.fieldLink RX4 32 "LayerSounder" "ownDrift" "LLayerSounder$Drift;", Cond.fieldLink RX4 36 "LayerSounder" "paceDrift" "LLayerSounder$Drift;", Cond.fieldLink RX4 39 "LayerSounder" "firstSum" "LLayerSounder$Drift;", Cond.fieldLink RX4 42 "LayerSounder" "secondSum" "LLayerSounder$Drift;", Cond.fieldLink RX4 45 "LayerSounder" "layers" "I", Cond.fieldLink RX4 49 "LayerSounder" "howOwn" "I", Cond.fieldLink RX4 52 "LayerSounder" "skewTurn" "I", Cond.fieldLink RX4 55 "LayerSounder" "edgeCells" "I"]
def wsX4_init_r2 : List Cond := [Cond.fieldLink RX4 58 "LayerSounder" "threesTaken" "Z", Cond.fieldLink RX4 62 "LayerSounder" "oddBound" "I", Cond.fieldLink RX4 65 "LayerSounder" "latestFinding" "I", Cond.instantiable RX2 3, Cond.initialized RX2, Cond.instanceMethod yX3_init, Cond.code yX3_init cX3_init 1 none, Cond.methodLink RX3 3 objectInit, Cond.arrayClass .int, Cond.fieldLink RX3 9 "LayerSounder$Track" "headings" "[I", Cond.fieldLink RX3 15 "LayerSounder$Track" "xs" "[I", Cond.fieldLink RX3 18 "LayerSounder$Track" "ys" "[I", Cond.fieldLink RX3 21 "LayerSounder$Track" "depths" "[I", Cond.fieldLink RX3 24 "LayerSounder$Track" "number" "I", Cond.instanceMethod yX0_init, Cond.code yX0_init cX0_init 1 none, Cond.methodLink RX0 3 objectInit, Cond.fieldLink RX0 9 "LayerSounder$Beams" "answered" "Z", Cond.fieldLink RX0 15 "LayerSounder$Beams" "three" "Z", Cond.fieldLink RX0 18 "LayerSounder$Beams" "along" "I", Cond.fieldLink RX0 22 "LayerSounder$Beams" "across" "I", Cond.fieldLink RX0 25 "LayerSounder$Beams" "odd" "I", Cond.instanceMethod yX1_init, Cond.code yX1_init cX1_init 1 none]
def wsX4_init_r3 : List Cond := [Cond.methodLink RX1 1 objectInit, Cond.fieldLink RX1 7 "LayerSounder$Drift" "swungX" "J", Cond.fieldLink RX1 13 "LayerSounder$Drift" "swungY" "J", Cond.fieldLink RX1 16 "LayerSounder$Drift" "heldX" "J", Cond.fieldLink RX1 19 "LayerSounder$Drift" "heldY" "J", Cond.instanceMethod yX2_init, Cond.code yX2_init cX2_init 1 none, Cond.methodLink RX2 3 objectInit, Cond.fieldLink RX2 9 "LayerSounder$Reel" "items" "[I", Cond.fieldLink RX2 15 "LayerSounder$Reel" "form" "I", Cond.fieldLink RX2 19 "LayerSounder$Reel" "size" "I"]
def wsX4_init : List Cond := .code yX4_init cX4_init 2 none :: ((wsX4_init_r1 ++ (wsX4_init_r2 ++ wsX4_init_r3)) ++ wsX40 ++ wsX30 ++ wsX00 ++ wsX10 ++ wsX20)
def wsX4_isReel : List Cond := .code yX4_isReel cX4_isReel 2 (some .boolean) :: ([.fieldLink RX4 11 "LayerSounder" "reels" "[LLayerSounder$Reel;"] ++ wsX40)
def wsX4_isWithin : List Cond := .code yX4_isWithin cX4_isWithin 3 (some .boolean) :: ([])
def wsX4_isForm : List Cond := .code yX4_isForm cX4_isForm 1 (some .boolean) :: ([.methodLink RX4 120 yX4_isWithin, .static yX4_isWithin, .initialized RX4, .code yX4_isWithin cX4_isWithin 3 (some .boolean)])
def wsX4_found : List Cond := .code yX4_found cX4_found 2 (some .int) :: ([.fieldLink RX4 65 "LayerSounder" "latestFinding" "I"] ++ wsX40)
def wsX4_reel_r1 : List Cond := [Cond.fieldLink RX4 11 "LayerSounder" "reels" "[LLayerSounder$Reel;", Cond.methodLink RX4 69 yX4_isReel, Cond.instanceMethod yX4_isReel, Cond.selects RX4 yX4_isReel yX4_isReel, Cond.initialized RX4, Cond.code yX4_isReel cX4_isReel 2 (some .boolean), Cond.methodLink RX4 73 yX4_isForm, Cond.static yX4_isForm, Cond.code yX4_isForm cX4_isForm 1 (some .boolean), Cond.methodLink RX4 120 yX4_isWithin, Cond.static yX4_isWithin, Cond.code yX4_isWithin cX4_isWithin 3 (some .boolean), Cond.methodLink RX4 76 yX4_found, Cond.instanceMethod yX4_found, Cond.selects RX4 yX4_found yX4_found, Cond.code yX4_found cX4_found 2 (some .int), Cond.fieldLink RX4 65 "LayerSounder" "latestFinding" "I", Cond.methodLink RX4 80 yX2_renew, Cond.instanceMethod yX2_renew, Cond.selects RX2 yX2_renew yX2_renew, Cond.initialized RX2, Cond.code yX2_renew cX2_renew 4 none, Cond.fieldLink RX2 15 "LayerSounder$Reel" "form" "I", Cond.fieldLink RX2 9 "LayerSounder$Reel" "items" "[I"]
def wsX4_reel_r2 : List Cond := [Cond.methodLink RX2 22 Lib.Math.min.name, Cond.static Lib.Math.min.name, Cond.initialized "java/lang/Math", Cond.code Lib.Math.min.name Lib.Math.min.code 2 (some .int), Cond.fieldLink RX2 19 "LayerSounder$Reel" "size" "I"]
def wsX4_reel : List Cond := .code yX4_reel cX4_reel 4 (some .int) :: ((wsX4_reel_r1 ++ wsX4_reel_r2) ++ wsX40 ++ wsX20)
def wsX4_lose : List Cond := .code yX4_lose cX4_lose 2 (some .int) :: ([.fieldLink RX4 11 "LayerSounder" "reels" "[LLayerSounder$Reel;", .methodLink RX4 69 yX4_isReel, .instanceMethod yX4_isReel, .selects RX4 yX4_isReel yX4_isReel, .initialized RX4, .code yX4_isReel cX4_isReel 2 (some .boolean), .methodLink RX4 84 yX2_isLost, .instanceMethod yX2_isLost, .selects RX2 yX2_isLost yX2_isLost, .initialized RX2, .code yX2_isLost cX2_isLost 1 (some .boolean), .fieldLink RX2 15 "LayerSounder$Reel" "form" "I", .methodLink RX4 76 yX4_found, .instanceMethod yX4_found, .selects RX4 yX4_found yX4_found, .code yX4_found cX4_found 2 (some .int), .fieldLink RX4 65 "LayerSounder" "latestFinding" "I", .methodLink RX4 88 yX2_drop, .instanceMethod yX2_drop, .selects RX2 yX2_drop yX2_drop, .code yX2_drop cX2_drop 2 (some .int), .fieldLink RX2 19 "LayerSounder$Reel" "size" "I"] ++ wsX40 ++ wsX20)
def wsX4_put_r1 : List Cond := [Cond.fieldLink RX4 11 "LayerSounder" "reels" "[LLayerSounder$Reel;", Cond.methodLink RX4 69 yX4_isReel, Cond.instanceMethod yX4_isReel, Cond.selects RX4 yX4_isReel yX4_isReel, Cond.initialized RX4, Cond.code yX4_isReel cX4_isReel 2 (some .boolean), Cond.methodLink RX4 73 yX4_isForm, Cond.static yX4_isForm, Cond.code yX4_isForm cX4_isForm 1 (some .boolean), Cond.methodLink RX4 120 yX4_isWithin, Cond.static yX4_isWithin, Cond.code yX4_isWithin cX4_isWithin 3 (some .boolean), Cond.methodLink RX4 92 yX2_findingAt, Cond.instanceMethod yX2_findingAt, Cond.selects RX2 yX2_findingAt yX2_findingAt, Cond.initialized RX2, Cond.code yX2_findingAt cX2_findingAt 3 (some .int), Cond.fieldLink RX2 15 "LayerSounder$Reel" "form" "I", Cond.methodLink RX2 28 yX2_isLost, Cond.instanceMethod yX2_isLost, Cond.selects RX2 yX2_isLost yX2_isLost, Cond.code yX2_isLost cX2_isLost 1 (some .boolean), Cond.methodLink RX2 32 yX2_holds, Cond.instanceMethod yX2_holds]
def wsX4_put_r2 : List Cond := [Cond.selects RX2 yX2_holds yX2_holds, Cond.code yX2_holds cX2_holds 2 (some .boolean), Cond.fieldLink RX2 19 "LayerSounder$Reel" "size" "I", Cond.methodLink RX4 76 yX4_found, Cond.instanceMethod yX4_found, Cond.selects RX4 yX4_found yX4_found, Cond.code yX4_found cX4_found 2 (some .int), Cond.fieldLink RX4 65 "LayerSounder" "latestFinding" "I", Cond.methodLink RX4 96 yX2_store, Cond.instanceMethod yX2_store, Cond.selects RX2 yX2_store yX2_store, Cond.code yX2_store cX2_store 3 none, Cond.fieldLink RX2 9 "LayerSounder$Reel" "items" "[I", Cond.methodLink RX2 36 yX2_narrowed, Cond.instanceMethod yX2_narrowed, Cond.selects RX2 yX2_narrowed yX2_narrowed, Cond.code yX2_narrowed cX2_narrowed 2 (some .int)]
def wsX4_put : List Cond := .code yX4_put cX4_put 6 (some .int) :: ((wsX4_put_r1 ++ wsX4_put_r2) ++ wsX40 ++ wsX20)
def wsX4_get_r1 : List Cond := [Cond.constant RX4 99 (-2147483648), Cond.fieldLink RX4 11 "LayerSounder" "reels" "[LLayerSounder$Reel;", Cond.methodLink RX4 69 yX4_isReel, Cond.instanceMethod yX4_isReel, Cond.selects RX4 yX4_isReel yX4_isReel, Cond.initialized RX4, Cond.code yX4_isReel cX4_isReel 2 (some .boolean), Cond.methodLink RX4 73 yX4_isForm, Cond.static yX4_isForm, Cond.code yX4_isForm cX4_isForm 1 (some .boolean), Cond.methodLink RX4 120 yX4_isWithin, Cond.static yX4_isWithin, Cond.code yX4_isWithin cX4_isWithin 3 (some .boolean), Cond.methodLink RX4 92 yX2_findingAt, Cond.instanceMethod yX2_findingAt, Cond.selects RX2 yX2_findingAt yX2_findingAt, Cond.initialized RX2, Cond.code yX2_findingAt cX2_findingAt 3 (some .int), Cond.fieldLink RX2 15 "LayerSounder$Reel" "form" "I", Cond.methodLink RX2 28 yX2_isLost, Cond.instanceMethod yX2_isLost, Cond.selects RX2 yX2_isLost yX2_isLost, Cond.code yX2_isLost cX2_isLost 1 (some .boolean), Cond.methodLink RX2 32 yX2_holds]
def wsX4_get_r2 : List Cond := [Cond.instanceMethod yX2_holds, Cond.selects RX2 yX2_holds yX2_holds, Cond.code yX2_holds cX2_holds 2 (some .boolean), Cond.fieldLink RX2 19 "LayerSounder$Reel" "size" "I", Cond.methodLink RX4 76 yX4_found, Cond.instanceMethod yX4_found, Cond.selects RX4 yX4_found yX4_found, Cond.code yX4_found cX4_found 2 (some .int), Cond.fieldLink RX4 65 "LayerSounder" "latestFinding" "I", Cond.methodLink RX4 100 yX2_item, Cond.instanceMethod yX2_item, Cond.selects RX2 yX2_item yX2_item, Cond.code yX2_item cX2_item 2 (some .int), Cond.fieldLink RX2 9 "LayerSounder$Reel" "items" "[I"]
def wsX4_get : List Cond := .code yX4_get cX4_get 5 (some .int) :: ((wsX4_get_r1 ++ wsX4_get_r2) ++ wsX40 ++ wsX20)
def wsX4_copy_r1 : List Cond := [Cond.fieldLink RX4 11 "LayerSounder" "reels" "[LLayerSounder$Reel;", Cond.methodLink RX4 114 arraycopyName, Cond.native arraycopyName, Cond.static arraycopyName, Cond.initialized "java/lang/System", Cond.methodLink RX4 69 yX4_isReel, Cond.instanceMethod yX4_isReel, Cond.selects RX4 yX4_isReel yX4_isReel, Cond.initialized RX4, Cond.code yX4_isReel cX4_isReel 2 (some .boolean), Cond.methodLink RX4 84 yX2_isLost, Cond.instanceMethod yX2_isLost, Cond.selects RX2 yX2_isLost yX2_isLost, Cond.initialized RX2, Cond.code yX2_isLost cX2_isLost 1 (some .boolean), Cond.fieldLink RX2 15 "LayerSounder$Reel" "form" "I", Cond.methodLink RX4 76 yX4_found, Cond.instanceMethod yX4_found, Cond.selects RX4 yX4_found yX4_found, Cond.code yX4_found cX4_found 2 (some .int), Cond.fieldLink RX4 65 "LayerSounder" "latestFinding" "I", Cond.methodLink RX4 106 yX2_holdsRun, Cond.instanceMethod yX2_holdsRun, Cond.selects RX2 yX2_holdsRun yX2_holdsRun]
def wsX4_copy_r2 : List Cond := [Cond.code yX2_holdsRun cX2_holdsRun 3 (some .boolean), Cond.fieldLink RX2 19 "LayerSounder$Reel" "size" "I"]
def wsX4_copy : List Cond := .code yX4_copy cX4_copy 8 (some .int) :: ((wsX4_copy_r1 ++ wsX4_copy_r2) ++ wsX40 ++ wsX20)
def wsX4_cells : List Cond := .code yX4_cells cX4_cells 3 (some .int) :: ([.fieldLink RX4 18 "LayerSounder" "track" "LLayerSounder$Track;", .fieldLink RX4 45 "LayerSounder" "layers" "I", .methodLink RX4 120 yX4_isWithin, .static yX4_isWithin, .initialized RX4, .code yX4_isWithin cX4_isWithin 3 (some .boolean)] ++ wsX40 ++ wsX30)
def wsX4_isTurn : List Cond := .code yX4_isTurn cX4_isTurn 1 (some .boolean) :: ([.methodLink RX4 120 yX4_isWithin, .static yX4_isWithin, .initialized RX4, .code yX4_isWithin cX4_isWithin 3 (some .boolean)])
def wsX4_isPlace : List Cond := .code yX4_isPlace cX4_isPlace 1 (some .boolean) :: ([.constant RX4 193 (-1000000), .constant RX4 194 (1000000), .methodLink RX4 120 yX4_isWithin, .static yX4_isWithin, .initialized RX4, .code yX4_isWithin cX4_isWithin 3 (some .boolean)])
def wsX4_ping : List Cond := .code yX4_ping cX4_ping 5 (some .int) :: ([.fieldLink RX4 18 "LayerSounder" "track" "LLayerSounder$Track;", .methodLink RX4 127 yX4_isTurn, .static yX4_isTurn, .initialized RX4, .code yX4_isTurn cX4_isTurn 1 (some .boolean), .methodLink RX4 120 yX4_isWithin, .static yX4_isWithin, .code yX4_isWithin cX4_isWithin 3 (some .boolean), .methodLink RX4 130 yX4_isPlace, .static yX4_isPlace, .code yX4_isPlace cX4_isPlace 1 (some .boolean), .constant RX4 193 (-1000000), .constant RX4 194 (1000000), .methodLink RX4 133 yX3_append, .instanceMethod yX3_append, .selects RX3 yX3_append yX3_append, .initialized RX3, .code yX3_append cX3_append 6 (some .int), .fieldLink RX3 24 "LayerSounder$Track" "number" "I", .fieldLink RX3 9 "LayerSounder$Track" "headings" "[I", .fieldLink RX3 15 "LayerSounder$Track" "xs" "[I", .fieldLink RX3 18 "LayerSounder$Track" "ys" "[I", .fieldLink RX3 21 "LayerSounder$Track" "depths" "[I"] ++ wsX40 ++ wsX30)
def wsX4_mend : List Cond := .code yX4_mend cX4_mend 3 (some .int) :: ([.fieldLink RX4 18 "LayerSounder" "track" "LLayerSounder$Track;", .methodLink RX4 127 yX4_isTurn, .static yX4_isTurn, .initialized RX4, .code yX4_isTurn cX4_isTurn 1 (some .boolean), .methodLink RX4 120 yX4_isWithin, .static yX4_isWithin, .code yX4_isWithin cX4_isWithin 3 (some .boolean), .methodLink RX4 137 yX3_changeHeading, .instanceMethod yX3_changeHeading, .selects RX3 yX3_changeHeading yX3_changeHeading, .initialized RX3, .code yX3_changeHeading cX3_changeHeading 4 (some .int), .fieldLink RX3 9 "LayerSounder$Track" "headings" "[I", .methodLink RX3 28 yX3_isPing, .instanceMethod yX3_isPing, .selects RX3 yX3_isPing yX3_isPing, .code yX3_isPing cX3_isPing 2 (some .boolean), .fieldLink RX3 24 "LayerSounder$Track" "number" "I"] ++ wsX40 ++ wsX30)
def wsX4_clear : List Cond := .code yX4_clear cX4_clear 2 (some .int) :: ([.fieldLink RX4 18 "LayerSounder" "track" "LLayerSounder$Track;"] ++ wsX40 ++ wsX30)
def wsX4_readingOf : List Cond := .code yX4_readingOf cX4_readingOf 3 (some .int) :: ([.fieldLink RX4 11 "LayerSounder" "reels" "[LLayerSounder$Reel;", .methodLink RX4 69 yX4_isReel, .instanceMethod yX4_isReel, .selects RX4 yX4_isReel yX4_isReel, .initialized RX4, .code yX4_isReel cX4_isReel 2 (some .boolean), .methodLink RX4 280 yX2_reading, .instanceMethod yX2_reading, .selects RX2 yX2_reading yX2_reading, .initialized RX2, .code yX2_reading cX2_reading 2 (some .int), .fieldLink RX2 19 "LayerSounder$Reel" "size" "I", .fieldLink RX2 9 "LayerSounder$Reel" "items" "[I"] ++ wsX40 ++ wsX20)
def wsX4_readBeams_r1 : List Cond := [Cond.fieldLink RX4 25 "LayerSounder" "beams" "LLayerSounder$Beams;", Cond.methodLink RX4 283 yX4_readingOf, Cond.instanceMethod yX4_readingOf, Cond.selects RX4 yX4_readingOf yX4_readingOf, Cond.initialized RX4, Cond.code yX4_readingOf cX4_readingOf 3 (some .int), Cond.fieldLink RX4 11 "LayerSounder" "reels" "[LLayerSounder$Reel;", Cond.methodLink RX4 69 yX4_isReel, Cond.instanceMethod yX4_isReel, Cond.selects RX4 yX4_isReel yX4_isReel, Cond.code yX4_isReel cX4_isReel 2 (some .boolean), Cond.methodLink RX4 280 yX2_reading, Cond.instanceMethod yX2_reading, Cond.selects RX2 yX2_reading yX2_reading, Cond.initialized RX2, Cond.code yX2_reading cX2_reading 2 (some .int), Cond.fieldLink RX2 19 "LayerSounder$Reel" "size" "I", Cond.fieldLink RX2 9 "LayerSounder$Reel" "items" "[I", Cond.methodLink RX4 171 yX0_take, Cond.instanceMethod yX0_take, Cond.selects RX0 yX0_take yX0_take, Cond.initialized RX0, Cond.code yX0_take cX0_take 10 none, Cond.fieldLink RX0 9 "LayerSounder$Beams" "answered" "Z"]
def wsX4_readBeams_r2 : List Cond := [Cond.fieldLink RX0 15 "LayerSounder$Beams" "three" "Z", Cond.fieldLink RX0 18 "LayerSounder$Beams" "along" "I", Cond.fieldLink RX0 22 "LayerSounder$Beams" "across" "I", Cond.fieldLink RX0 25 "LayerSounder$Beams" "odd" "I", Cond.methodLink RX0 28 yX0_isNone, Cond.static yX0_isNone, Cond.code yX0_isNone cX0_isNone 1 (some .boolean), Cond.static yX4_asNumber, Cond.code yX4_asNumber cX4_asNumber 1 (some .int)]
def wsX4_readBeams : List Cond := .code yX4_readBeams cX4_readBeams 7 none :: ((wsX4_readBeams_r1 ++ wsX4_readBeams_r2) ++ wsX40 ++ wsX20 ++ wsX00)
def wsX4_findOwn_r1 : List Cond := [Cond.fieldLink RX4 32 "LayerSounder" "ownDrift" "LLayerSounder$Drift;", Cond.fieldLink RX4 49 "LayerSounder" "howOwn" "I", Cond.fieldLink RX4 25 "LayerSounder" "beams" "LLayerSounder$Beams;", Cond.fieldLink RX4 18 "LayerSounder" "track" "LLayerSounder$Track;", Cond.constantLong RX4 293 (4225), Cond.methodLink RX4 286 yX1_rest, Cond.instanceMethod yX1_rest, Cond.selects RX1 yX1_rest yX1_rest, Cond.initialized RX1, Cond.code yX1_rest cX1_rest 1 none, Cond.fieldLink RX1 7 "LayerSounder$Drift" "swungX" "J", Cond.fieldLink RX1 13 "LayerSounder$Drift" "swungY" "J", Cond.fieldLink RX1 16 "LayerSounder$Drift" "heldX" "J", Cond.fieldLink RX1 19 "LayerSounder$Drift" "heldY" "J", Cond.methodLink RX4 212 yX4_readBeams, Cond.instanceMethod yX4_readBeams, Cond.selects RX4 yX4_readBeams yX4_readBeams, Cond.initialized RX4, Cond.code yX4_readBeams cX4_readBeams 7 none, Cond.methodLink RX4 283 yX4_readingOf, Cond.instanceMethod yX4_readingOf, Cond.selects RX4 yX4_readingOf yX4_readingOf, Cond.code yX4_readingOf cX4_readingOf 3 (some .int), Cond.fieldLink RX4 11 "LayerSounder" "reels" "[LLayerSounder$Reel;"]
def wsX4_findOwn_r2 : List Cond := [Cond.methodLink RX4 69 yX4_isReel, Cond.instanceMethod yX4_isReel, Cond.selects RX4 yX4_isReel yX4_isReel, Cond.code yX4_isReel cX4_isReel 2 (some .boolean), Cond.methodLink RX4 280 yX2_reading, Cond.instanceMethod yX2_reading, Cond.selects RX2 yX2_reading yX2_reading, Cond.initialized RX2, Cond.code yX2_reading cX2_reading 2 (some .int), Cond.fieldLink RX2 19 "LayerSounder$Reel" "size" "I", Cond.fieldLink RX2 9 "LayerSounder$Reel" "items" "[I", Cond.methodLink RX4 171 yX0_take, Cond.instanceMethod yX0_take, Cond.selects RX0 yX0_take yX0_take, Cond.initialized RX0, Cond.code yX0_take cX0_take 10 none, Cond.fieldLink RX0 9 "LayerSounder$Beams" "answered" "Z", Cond.fieldLink RX0 15 "LayerSounder$Beams" "three" "Z", Cond.fieldLink RX0 18 "LayerSounder$Beams" "along" "I", Cond.fieldLink RX0 22 "LayerSounder$Beams" "across" "I", Cond.fieldLink RX0 25 "LayerSounder$Beams" "odd" "I", Cond.methodLink RX0 28 yX0_isNone, Cond.static yX0_isNone, Cond.code yX0_isNone cX0_isNone 1 (some .boolean)]
def wsX4_findOwn_r3 : List Cond := [Cond.static yX4_asNumber, Cond.code yX4_asNumber cX4_asNumber 1 (some .int), Cond.methodLink RX4 143 yX3_headingOf, Cond.instanceMethod yX3_headingOf, Cond.selects RX3 yX3_headingOf yX3_headingOf, Cond.initialized RX3, Cond.code yX3_headingOf cX3_headingOf 2 (some .int), Cond.fieldLink RX3 9 "LayerSounder$Track" "headings" "[I", Cond.methodLink RX3 28 yX3_isPing, Cond.instanceMethod yX3_isPing, Cond.selects RX3 yX3_isPing yX3_isPing, Cond.code yX3_isPing cX3_isPing 2 (some .boolean), Cond.fieldLink RX3 24 "LayerSounder$Track" "number" "I", Cond.methodLink RX4 289 yX1_swing, Cond.instanceMethod yX1_swing, Cond.selects RX1 yX1_swing yX1_swing, Cond.code yX1_swing cX1_swing 4 none, Cond.static yX4_xTurned, Cond.code yX4_xTurned cX4_xTurned 5 (some .long), Cond.methodLink RX4 274 yX4_cOf, Cond.static yX4_cOf, Cond.code yX4_cOf cX4_cOf 1 (some .long), Cond.fieldLink RX4 271 "LayerSounder" "C_OF_TURNS" "[I", Cond.methodLink RX4 277 yX4_sOf]
def wsX4_findOwn_r4 : List Cond := [Cond.static yX4_sOf, Cond.code yX4_sOf cX4_sOf 1 (some .long), Cond.static yX4_yTurned, Cond.code yX4_yTurned cX4_yTurned 5 (some .long), Cond.methodLink RX4 140 yX3_isPing, Cond.methodLink RX4 295 yX3_stepX, Cond.instanceMethod yX3_stepX, Cond.selects RX3 yX3_stepX yX3_stepX, Cond.code yX3_stepX cX3_stepX 2 (some .long), Cond.methodLink RX3 32 yX3_xOf, Cond.instanceMethod yX3_xOf, Cond.selects RX3 yX3_xOf yX3_xOf, Cond.code yX3_xOf cX3_xOf 2 (some .int), Cond.fieldLink RX3 15 "LayerSounder$Track" "xs" "[I", Cond.methodLink RX4 298 yX3_stepY, Cond.instanceMethod yX3_stepY, Cond.selects RX3 yX3_stepY yX3_stepY, Cond.code yX3_stepY cX3_stepY 2 (some .long), Cond.methodLink RX3 36 yX3_yOf, Cond.instanceMethod yX3_yOf, Cond.selects RX3 yX3_yOf yX3_yOf, Cond.code yX3_yOf cX3_yOf 2 (some .int), Cond.fieldLink RX3 18 "LayerSounder$Track" "ys" "[I", Cond.methodLink RX4 301 yX1_hold]
def wsX4_findOwn_r5 : List Cond := [Cond.instanceMethod yX1_hold, Cond.selects RX1 yX1_hold yX1_hold, Cond.code yX1_hold cX1_hold 5 none]
def wsX4_findOwn : List Cond := .code yX4_findOwn cX4_findOwn 2 (some .boolean) :: ((wsX4_findOwn_r1 ++ (wsX4_findOwn_r2 ++ (wsX4_findOwn_r3 ++ (wsX4_findOwn_r4 ++ wsX4_findOwn_r5)))) ++ wsX40 ++ wsX00 ++ wsX10 ++ wsX20 ++ wsX30)
def wsX4_about_r1 : List Cond := [Cond.fieldLink RX4 18 "LayerSounder" "track" "LLayerSounder$Track;", Cond.constant RX4 99 (-2147483648), Cond.methodLink RX4 140 yX3_isPing, Cond.instanceMethod yX3_isPing, Cond.selects RX3 yX3_isPing yX3_isPing, Cond.initialized RX3, Cond.code yX3_isPing cX3_isPing 2 (some .boolean), Cond.fieldLink RX3 24 "LayerSounder$Track" "number" "I", Cond.methodLink RX4 143 yX3_headingOf, Cond.instanceMethod yX3_headingOf, Cond.selects RX3 yX3_headingOf yX3_headingOf, Cond.code yX3_headingOf cX3_headingOf 2 (some .int), Cond.fieldLink RX3 9 "LayerSounder$Track" "headings" "[I", Cond.methodLink RX3 28 yX3_isPing, Cond.methodLink RX4 146 yX3_xOf, Cond.instanceMethod yX3_xOf, Cond.selects RX3 yX3_xOf yX3_xOf, Cond.code yX3_xOf cX3_xOf 2 (some .int), Cond.fieldLink RX3 15 "LayerSounder$Track" "xs" "[I", Cond.methodLink RX4 149 yX3_yOf, Cond.instanceMethod yX3_yOf, Cond.selects RX3 yX3_yOf yX3_yOf, Cond.code yX3_yOf cX3_yOf 2 (some .int), Cond.fieldLink RX3 18 "LayerSounder$Track" "ys" "[I"]
def wsX4_about_r2 : List Cond := [Cond.methodLink RX4 152 yX3_depthOf, Cond.instanceMethod yX3_depthOf, Cond.selects RX3 yX3_depthOf yX3_depthOf, Cond.code yX3_depthOf cX3_depthOf 2 (some .int), Cond.fieldLink RX3 21 "LayerSounder$Track" "depths" "[I", Cond.methodLink RX4 155 yX4_findOwn, Cond.instanceMethod yX4_findOwn, Cond.selects RX4 yX4_findOwn yX4_findOwn, Cond.initialized RX4, Cond.code yX4_findOwn cX4_findOwn 2 (some .boolean), Cond.fieldLink RX4 32 "LayerSounder" "ownDrift" "LLayerSounder$Drift;", Cond.fieldLink RX4 49 "LayerSounder" "howOwn" "I", Cond.fieldLink RX4 25 "LayerSounder" "beams" "LLayerSounder$Beams;", Cond.constantLong RX4 293 (4225), Cond.methodLink RX4 286 yX1_rest, Cond.instanceMethod yX1_rest, Cond.selects RX1 yX1_rest yX1_rest, Cond.initialized RX1, Cond.code yX1_rest cX1_rest 1 none, Cond.fieldLink RX1 7 "LayerSounder$Drift" "swungX" "J", Cond.fieldLink RX1 13 "LayerSounder$Drift" "swungY" "J", Cond.fieldLink RX1 16 "LayerSounder$Drift" "heldX" "J", Cond.fieldLink RX1 19 "LayerSounder$Drift" "heldY" "J", Cond.methodLink RX4 212 yX4_readBeams]
def wsX4_about_r3 : List Cond := [Cond.instanceMethod yX4_readBeams, Cond.selects RX4 yX4_readBeams yX4_readBeams, Cond.code yX4_readBeams cX4_readBeams 7 none, Cond.methodLink RX4 283 yX4_readingOf, Cond.instanceMethod yX4_readingOf, Cond.selects RX4 yX4_readingOf yX4_readingOf, Cond.code yX4_readingOf cX4_readingOf 3 (some .int), Cond.fieldLink RX4 11 "LayerSounder" "reels" "[LLayerSounder$Reel;", Cond.methodLink RX4 69 yX4_isReel, Cond.instanceMethod yX4_isReel, Cond.selects RX4 yX4_isReel yX4_isReel, Cond.code yX4_isReel cX4_isReel 2 (some .boolean), Cond.methodLink RX4 280 yX2_reading, Cond.instanceMethod yX2_reading, Cond.selects RX2 yX2_reading yX2_reading, Cond.initialized RX2, Cond.code yX2_reading cX2_reading 2 (some .int), Cond.fieldLink RX2 19 "LayerSounder$Reel" "size" "I", Cond.fieldLink RX2 9 "LayerSounder$Reel" "items" "[I", Cond.methodLink RX4 171 yX0_take, Cond.instanceMethod yX0_take, Cond.selects RX0 yX0_take yX0_take, Cond.initialized RX0, Cond.code yX0_take cX0_take 10 none]
def wsX4_about_r4 : List Cond := [Cond.fieldLink RX0 9 "LayerSounder$Beams" "answered" "Z", Cond.fieldLink RX0 15 "LayerSounder$Beams" "three" "Z", Cond.fieldLink RX0 18 "LayerSounder$Beams" "along" "I", Cond.fieldLink RX0 22 "LayerSounder$Beams" "across" "I", Cond.fieldLink RX0 25 "LayerSounder$Beams" "odd" "I", Cond.methodLink RX0 28 yX0_isNone, Cond.static yX0_isNone, Cond.code yX0_isNone cX0_isNone 1 (some .boolean), Cond.static yX4_asNumber, Cond.code yX4_asNumber cX4_asNumber 1 (some .int), Cond.methodLink RX4 289 yX1_swing, Cond.instanceMethod yX1_swing, Cond.selects RX1 yX1_swing yX1_swing, Cond.code yX1_swing cX1_swing 4 none, Cond.static yX4_xTurned, Cond.code yX4_xTurned cX4_xTurned 5 (some .long), Cond.methodLink RX4 274 yX4_cOf, Cond.static yX4_cOf, Cond.code yX4_cOf cX4_cOf 1 (some .long), Cond.fieldLink RX4 271 "LayerSounder" "C_OF_TURNS" "[I", Cond.methodLink RX4 277 yX4_sOf, Cond.static yX4_sOf, Cond.code yX4_sOf cX4_sOf 1 (some .long), Cond.static yX4_yTurned]
def wsX4_about_r5 : List Cond := [Cond.code yX4_yTurned cX4_yTurned 5 (some .long), Cond.methodLink RX4 295 yX3_stepX, Cond.instanceMethod yX3_stepX, Cond.selects RX3 yX3_stepX yX3_stepX, Cond.code yX3_stepX cX3_stepX 2 (some .long), Cond.methodLink RX3 32 yX3_xOf, Cond.methodLink RX4 298 yX3_stepY, Cond.instanceMethod yX3_stepY, Cond.selects RX3 yX3_stepY yX3_stepY, Cond.code yX3_stepY cX3_stepY 2 (some .long), Cond.methodLink RX3 36 yX3_yOf, Cond.methodLink RX4 301 yX1_hold, Cond.instanceMethod yX1_hold, Cond.selects RX1 yX1_hold yX1_hold, Cond.code yX1_hold cX1_hold 5 none, Cond.methodLink RX4 158 yX4_asNumber]
def wsX4_about : List Cond := .code yX4_about cX4_about 3 (some .int) :: ((wsX4_about_r1 ++ (wsX4_about_r2 ++ (wsX4_about_r3 ++ (wsX4_about_r4 ++ wsX4_about_r5)))) ++ wsX40 ++ wsX30 ++ wsX00 ++ wsX10 ++ wsX20)
def wsX4_asLong : List Cond := .code yX4_asLong cX4_asLong 1 (some .long) :: ([.constantLong RX4 269 (-9223372036854775808)])
def wsX4_own_r1 : List Cond := [Cond.fieldLink RX4 18 "LayerSounder" "track" "LLayerSounder$Track;", Cond.fieldLink RX4 32 "LayerSounder" "ownDrift" "LLayerSounder$Drift;", Cond.fieldLink RX4 52 "LayerSounder" "skewTurn" "I", Cond.methodLink RX4 140 yX3_isPing, Cond.instanceMethod yX3_isPing, Cond.selects RX3 yX3_isPing yX3_isPing, Cond.initialized RX3, Cond.code yX3_isPing cX3_isPing 2 (some .boolean), Cond.fieldLink RX3 24 "LayerSounder$Track" "number" "I", Cond.methodLink RX4 120 yX4_isWithin, Cond.static yX4_isWithin, Cond.initialized RX4, Cond.code yX4_isWithin cX4_isWithin 3 (some .boolean), Cond.methodLink RX4 162 yX4_asLong, Cond.static yX4_asLong, Cond.code yX4_asLong cX4_asLong 1 (some .long), Cond.constantLong RX4 269 (-9223372036854775808), Cond.methodLink RX4 155 yX4_findOwn, Cond.instanceMethod yX4_findOwn, Cond.selects RX4 yX4_findOwn yX4_findOwn, Cond.code yX4_findOwn cX4_findOwn 2 (some .boolean), Cond.fieldLink RX4 49 "LayerSounder" "howOwn" "I", Cond.fieldLink RX4 25 "LayerSounder" "beams" "LLayerSounder$Beams;", Cond.constantLong RX4 293 (4225)]
def wsX4_own_r2 : List Cond := [Cond.methodLink RX4 286 yX1_rest, Cond.instanceMethod yX1_rest, Cond.selects RX1 yX1_rest yX1_rest, Cond.initialized RX1, Cond.code yX1_rest cX1_rest 1 none, Cond.fieldLink RX1 7 "LayerSounder$Drift" "swungX" "J", Cond.fieldLink RX1 13 "LayerSounder$Drift" "swungY" "J", Cond.fieldLink RX1 16 "LayerSounder$Drift" "heldX" "J", Cond.fieldLink RX1 19 "LayerSounder$Drift" "heldY" "J", Cond.methodLink RX4 212 yX4_readBeams, Cond.instanceMethod yX4_readBeams, Cond.selects RX4 yX4_readBeams yX4_readBeams, Cond.code yX4_readBeams cX4_readBeams 7 none, Cond.methodLink RX4 283 yX4_readingOf, Cond.instanceMethod yX4_readingOf, Cond.selects RX4 yX4_readingOf yX4_readingOf, Cond.code yX4_readingOf cX4_readingOf 3 (some .int), Cond.fieldLink RX4 11 "LayerSounder" "reels" "[LLayerSounder$Reel;", Cond.methodLink RX4 69 yX4_isReel, Cond.instanceMethod yX4_isReel, Cond.selects RX4 yX4_isReel yX4_isReel, Cond.code yX4_isReel cX4_isReel 2 (some .boolean), Cond.methodLink RX4 280 yX2_reading, Cond.instanceMethod yX2_reading]
def wsX4_own_r3 : List Cond := [Cond.selects RX2 yX2_reading yX2_reading, Cond.initialized RX2, Cond.code yX2_reading cX2_reading 2 (some .int), Cond.fieldLink RX2 19 "LayerSounder$Reel" "size" "I", Cond.fieldLink RX2 9 "LayerSounder$Reel" "items" "[I", Cond.methodLink RX4 171 yX0_take, Cond.instanceMethod yX0_take, Cond.selects RX0 yX0_take yX0_take, Cond.initialized RX0, Cond.code yX0_take cX0_take 10 none, Cond.fieldLink RX0 9 "LayerSounder$Beams" "answered" "Z", Cond.fieldLink RX0 15 "LayerSounder$Beams" "three" "Z", Cond.fieldLink RX0 18 "LayerSounder$Beams" "along" "I", Cond.fieldLink RX0 22 "LayerSounder$Beams" "across" "I", Cond.fieldLink RX0 25 "LayerSounder$Beams" "odd" "I", Cond.methodLink RX0 28 yX0_isNone, Cond.static yX0_isNone, Cond.code yX0_isNone cX0_isNone 1 (some .boolean), Cond.static yX4_asNumber, Cond.code yX4_asNumber cX4_asNumber 1 (some .int), Cond.methodLink RX4 143 yX3_headingOf, Cond.instanceMethod yX3_headingOf, Cond.selects RX3 yX3_headingOf yX3_headingOf, Cond.code yX3_headingOf cX3_headingOf 2 (some .int)]
def wsX4_own_r4 : List Cond := [Cond.fieldLink RX3 9 "LayerSounder$Track" "headings" "[I", Cond.methodLink RX3 28 yX3_isPing, Cond.methodLink RX4 289 yX1_swing, Cond.instanceMethod yX1_swing, Cond.selects RX1 yX1_swing yX1_swing, Cond.code yX1_swing cX1_swing 4 none, Cond.static yX4_xTurned, Cond.code yX4_xTurned cX4_xTurned 5 (some .long), Cond.methodLink RX4 274 yX4_cOf, Cond.static yX4_cOf, Cond.code yX4_cOf cX4_cOf 1 (some .long), Cond.fieldLink RX4 271 "LayerSounder" "C_OF_TURNS" "[I", Cond.methodLink RX4 277 yX4_sOf, Cond.static yX4_sOf, Cond.code yX4_sOf cX4_sOf 1 (some .long), Cond.static yX4_yTurned, Cond.code yX4_yTurned cX4_yTurned 5 (some .long), Cond.methodLink RX4 295 yX3_stepX, Cond.instanceMethod yX3_stepX, Cond.selects RX3 yX3_stepX yX3_stepX, Cond.code yX3_stepX cX3_stepX 2 (some .long), Cond.methodLink RX3 32 yX3_xOf, Cond.instanceMethod yX3_xOf, Cond.selects RX3 yX3_xOf yX3_xOf]
def wsX4_own_r5 : List Cond := [Cond.code yX3_xOf cX3_xOf 2 (some .int), Cond.fieldLink RX3 15 "LayerSounder$Track" "xs" "[I", Cond.methodLink RX4 298 yX3_stepY, Cond.instanceMethod yX3_stepY, Cond.selects RX3 yX3_stepY yX3_stepY, Cond.code yX3_stepY cX3_stepY 2 (some .long), Cond.methodLink RX3 36 yX3_yOf, Cond.instanceMethod yX3_yOf, Cond.selects RX3 yX3_yOf yX3_yOf, Cond.code yX3_yOf cX3_yOf 2 (some .int), Cond.fieldLink RX3 18 "LayerSounder$Track" "ys" "[I", Cond.methodLink RX4 301 yX1_hold, Cond.instanceMethod yX1_hold, Cond.selects RX1 yX1_hold yX1_hold, Cond.code yX1_hold cX1_hold 5 none, Cond.methodLink RX4 166 yX1_part, Cond.instanceMethod yX1_part, Cond.selects RX1 yX1_part yX1_part, Cond.code yX1_part cX1_part 3 (some .long), Cond.methodLink RX1 31 yX1_east, Cond.instanceMethod yX1_east, Cond.selects RX1 yX1_east yX1_east, Cond.code yX1_east cX1_east 2 (some .long), Cond.methodLink RX1 35 yX1_north]
def wsX4_own_r6 : List Cond := [Cond.instanceMethod yX1_north, Cond.selects RX1 yX1_north yX1_north, Cond.code yX1_north cX1_north 2 (some .long)]
def wsX4_own : List Cond := .code yX4_own cX4_own 3 (some .long) :: ((wsX4_own_r1 ++ (wsX4_own_r2 ++ (wsX4_own_r3 ++ (wsX4_own_r4 ++ (wsX4_own_r5 ++ wsX4_own_r6))))) ++ wsX40 ++ wsX30 ++ wsX00 ++ wsX10 ++ wsX20)
def wsX4_motion : List Cond := .code yX4_motion cX4_motion 3 (some .int) :: ([.fieldLink RX4 49 "LayerSounder" "howOwn" "I", .methodLink RX4 120 yX4_isWithin, .static yX4_isWithin, .initialized RX4, .code yX4_isWithin cX4_isWithin 3 (some .boolean)] ++ wsX40)
def wsX4_skew : List Cond := .code yX4_skew cX4_skew 3 (some .int) :: ([.fieldLink RX4 52 "LayerSounder" "skewTurn" "I", .methodLink RX4 127 yX4_isTurn, .static yX4_isTurn, .initialized RX4, .code yX4_isTurn cX4_isTurn 1 (some .boolean), .methodLink RX4 120 yX4_isWithin, .static yX4_isWithin, .code yX4_isWithin cX4_isWithin 3 (some .boolean)] ++ wsX40)
def wsX4_laws : List Cond := .code yX4_laws cX4_laws 4 (some .int) :: ([.constant RX4 170 (100000), .fieldLink RX4 55 "LayerSounder" "edgeCells" "I", .fieldLink RX4 58 "LayerSounder" "threesTaken" "Z", .fieldLink RX4 62 "LayerSounder" "oddBound" "I", .methodLink RX4 120 yX4_isWithin, .static yX4_isWithin, .initialized RX4, .code yX4_isWithin cX4_isWithin 3 (some .boolean)] ++ wsX40)
def wsX4_answer : List Cond := .code yX4_answer cX4_answer 6 (some .int) :: ([.fieldLink RX4 25 "LayerSounder" "beams" "LLayerSounder$Beams;", .constant RX4 99 (-2147483648), .methodLink RX4 171 yX0_take, .instanceMethod yX0_take, .selects RX0 yX0_take yX0_take, .initialized RX0, .code yX0_take cX0_take 10 none, .fieldLink RX0 9 "LayerSounder$Beams" "answered" "Z", .fieldLink RX0 15 "LayerSounder$Beams" "three" "Z", .fieldLink RX0 18 "LayerSounder$Beams" "along" "I", .fieldLink RX0 22 "LayerSounder$Beams" "across" "I", .fieldLink RX0 25 "LayerSounder$Beams" "odd" "I", .methodLink RX0 28 yX0_isNone, .static yX0_isNone, .code yX0_isNone cX0_isNone 1 (some .boolean), .static yX4_asNumber, .initialized RX4, .code yX4_asNumber cX4_asNumber 1 (some .int), .methodLink RX4 158 yX4_asNumber] ++ wsX40 ++ wsX00)
def wsX4_isPart : List Cond := .code yX4_isPart cX4_isPart 1 (some .boolean) :: ([.methodLink RX4 120 yX4_isWithin, .static yX4_isWithin, .initialized RX4, .code yX4_isWithin cX4_isWithin 3 (some .boolean)])
def wsX4_beam : List Cond := .code yX4_beam cX4_beam 6 (some .int) :: ([.constant RX4 193 (-1000000), .constant RX4 194 (1000000), .constant RX4 99 (-2147483648), .methodLink RX4 190 yX4_isPart, .static yX4_isPart, .initialized RX4, .code yX4_isPart cX4_isPart 1 (some .boolean), .methodLink RX4 120 yX4_isWithin, .static yX4_isWithin, .code yX4_isWithin cX4_isWithin 3 (some .boolean)])
def wsX4_turned_r1 : List Cond := [Cond.constant RX4 99 (-2147483648), Cond.methodLink RX4 130 yX4_isPlace, Cond.static yX4_isPlace, Cond.initialized RX4, Cond.code yX4_isPlace cX4_isPlace 1 (some .boolean), Cond.constant RX4 193 (-1000000), Cond.constant RX4 194 (1000000), Cond.methodLink RX4 120 yX4_isWithin, Cond.static yX4_isWithin, Cond.code yX4_isWithin cX4_isWithin 3 (some .boolean), Cond.methodLink RX4 127 yX4_isTurn, Cond.static yX4_isTurn, Cond.code yX4_isTurn cX4_isTurn 1 (some .boolean), Cond.methodLink RX4 195 yX4_xTurned, Cond.static yX4_xTurned, Cond.code yX4_xTurned cX4_xTurned 5 (some .long), Cond.methodLink RX4 274 yX4_cOf, Cond.static yX4_cOf, Cond.code yX4_cOf cX4_cOf 1 (some .long), Cond.fieldLink RX4 271 "LayerSounder" "C_OF_TURNS" "[I", Cond.methodLink RX4 277 yX4_sOf, Cond.static yX4_sOf, Cond.code yX4_sOf cX4_sOf 1 (some .long), Cond.methodLink RX4 199 yX4_yTurned]
def wsX4_turned_r2 : List Cond := [Cond.static yX4_yTurned, Cond.code yX4_yTurned cX4_yTurned 5 (some .long)]
def wsX4_turned : List Cond := .code yX4_turned cX4_turned 5 (some .int) :: ((wsX4_turned_r1 ++ wsX4_turned_r2))
def wsX4_isCell : List Cond := .code yX4_isCell cX4_isCell 2 (some .boolean) :: ([.fieldLink RX4 45 "LayerSounder" "layers" "I", .methodLink RX4 120 yX4_isWithin, .static yX4_isWithin, .initialized RX4, .code yX4_isWithin cX4_isWithin 3 (some .boolean)] ++ wsX40)
def wsX4_itemOfCell : List Cond := .code yX4_itemOfCell cX4_itemOfCell 3 (some .int) :: ([.fieldLink RX4 45 "LayerSounder" "layers" "I"] ++ wsX40)
def wsX4_judge_r1 : List Cond := [Cond.fieldLink RX4 25 "LayerSounder" "beams" "LLayerSounder$Beams;", Cond.fieldLink RX4 55 "LayerSounder" "edgeCells" "I", Cond.fieldLink RX4 18 "LayerSounder" "track" "LLayerSounder$Track;", Cond.fieldLink RX4 58 "LayerSounder" "threesTaken" "Z", Cond.fieldLink RX4 62 "LayerSounder" "oddBound" "I", Cond.methodLink RX4 209 yX4_itemOfCell, Cond.instanceMethod yX4_itemOfCell, Cond.selects RX4 yX4_itemOfCell yX4_itemOfCell, Cond.initialized RX4, Cond.code yX4_itemOfCell cX4_itemOfCell 3 (some .int), Cond.fieldLink RX4 45 "LayerSounder" "layers" "I", Cond.methodLink RX4 212 yX4_readBeams, Cond.instanceMethod yX4_readBeams, Cond.selects RX4 yX4_readBeams yX4_readBeams, Cond.code yX4_readBeams cX4_readBeams 7 none, Cond.methodLink RX4 283 yX4_readingOf, Cond.instanceMethod yX4_readingOf, Cond.selects RX4 yX4_readingOf yX4_readingOf, Cond.code yX4_readingOf cX4_readingOf 3 (some .int), Cond.fieldLink RX4 11 "LayerSounder" "reels" "[LLayerSounder$Reel;", Cond.methodLink RX4 69 yX4_isReel, Cond.instanceMethod yX4_isReel, Cond.selects RX4 yX4_isReel yX4_isReel, Cond.code yX4_isReel cX4_isReel 2 (some .boolean)]
def wsX4_judge_r2 : List Cond := [Cond.methodLink RX4 280 yX2_reading, Cond.instanceMethod yX2_reading, Cond.selects RX2 yX2_reading yX2_reading, Cond.initialized RX2, Cond.code yX2_reading cX2_reading 2 (some .int), Cond.fieldLink RX2 19 "LayerSounder$Reel" "size" "I", Cond.fieldLink RX2 9 "LayerSounder$Reel" "items" "[I", Cond.methodLink RX4 171 yX0_take, Cond.instanceMethod yX0_take, Cond.selects RX0 yX0_take yX0_take, Cond.initialized RX0, Cond.code yX0_take cX0_take 10 none, Cond.fieldLink RX0 9 "LayerSounder$Beams" "answered" "Z", Cond.fieldLink RX0 15 "LayerSounder$Beams" "three" "Z", Cond.fieldLink RX0 18 "LayerSounder$Beams" "along" "I", Cond.fieldLink RX0 22 "LayerSounder$Beams" "across" "I", Cond.fieldLink RX0 25 "LayerSounder$Beams" "odd" "I", Cond.methodLink RX0 28 yX0_isNone, Cond.static yX0_isNone, Cond.code yX0_isNone cX0_isNone 1 (some .boolean), Cond.static yX4_asNumber, Cond.code yX4_asNumber cX4_asNumber 1 (some .int), Cond.methodLink RX4 152 yX3_depthOf, Cond.instanceMethod yX3_depthOf]
def wsX4_judge_r3 : List Cond := [Cond.selects RX3 yX3_depthOf yX3_depthOf, Cond.initialized RX3, Cond.code yX3_depthOf cX3_depthOf 2 (some .int), Cond.fieldLink RX3 21 "LayerSounder$Track" "depths" "[I", Cond.methodLink RX3 28 yX3_isPing, Cond.instanceMethod yX3_isPing, Cond.selects RX3 yX3_isPing yX3_isPing, Cond.code yX3_isPing cX3_isPing 2 (some .boolean), Cond.fieldLink RX3 24 "LayerSounder$Track" "number" "I", Cond.methodLink RX4 120 yX4_isWithin, Cond.static yX4_isWithin, Cond.code yX4_isWithin cX4_isWithin 3 (some .boolean), Cond.methodLink RX4 190 yX4_isPart, Cond.static yX4_isPart, Cond.code yX4_isPart cX4_isPart 1 (some .boolean)]
def wsX4_judge : List Cond := .code yX4_judge cX4_judge 4 (some .int) :: ((wsX4_judge_r1 ++ (wsX4_judge_r2 ++ wsX4_judge_r3)) ++ wsX40 ++ wsX00 ++ wsX20 ++ wsX30)
def wsX4_fate_r1 : List Cond := [Cond.fieldLink RX4 18 "LayerSounder" "track" "LLayerSounder$Track;", Cond.methodLink RX4 140 yX3_isPing, Cond.instanceMethod yX3_isPing, Cond.selects RX3 yX3_isPing yX3_isPing, Cond.initialized RX3, Cond.code yX3_isPing cX3_isPing 2 (some .boolean), Cond.fieldLink RX3 24 "LayerSounder$Track" "number" "I", Cond.methodLink RX4 202 yX4_isCell, Cond.instanceMethod yX4_isCell, Cond.selects RX4 yX4_isCell yX4_isCell, Cond.initialized RX4, Cond.code yX4_isCell cX4_isCell 2 (some .boolean), Cond.fieldLink RX4 45 "LayerSounder" "layers" "I", Cond.methodLink RX4 120 yX4_isWithin, Cond.static yX4_isWithin, Cond.code yX4_isWithin cX4_isWithin 3 (some .boolean), Cond.methodLink RX4 155 yX4_findOwn, Cond.instanceMethod yX4_findOwn, Cond.selects RX4 yX4_findOwn yX4_findOwn, Cond.code yX4_findOwn cX4_findOwn 2 (some .boolean), Cond.fieldLink RX4 32 "LayerSounder" "ownDrift" "LLayerSounder$Drift;", Cond.fieldLink RX4 49 "LayerSounder" "howOwn" "I", Cond.fieldLink RX4 25 "LayerSounder" "beams" "LLayerSounder$Beams;", Cond.constantLong RX4 293 (4225)]
def wsX4_fate_r2 : List Cond := [Cond.methodLink RX4 286 yX1_rest, Cond.instanceMethod yX1_rest, Cond.selects RX1 yX1_rest yX1_rest, Cond.initialized RX1, Cond.code yX1_rest cX1_rest 1 none, Cond.fieldLink RX1 7 "LayerSounder$Drift" "swungX" "J", Cond.fieldLink RX1 13 "LayerSounder$Drift" "swungY" "J", Cond.fieldLink RX1 16 "LayerSounder$Drift" "heldX" "J", Cond.fieldLink RX1 19 "LayerSounder$Drift" "heldY" "J", Cond.methodLink RX4 212 yX4_readBeams, Cond.instanceMethod yX4_readBeams, Cond.selects RX4 yX4_readBeams yX4_readBeams, Cond.code yX4_readBeams cX4_readBeams 7 none, Cond.methodLink RX4 283 yX4_readingOf, Cond.instanceMethod yX4_readingOf, Cond.selects RX4 yX4_readingOf yX4_readingOf, Cond.code yX4_readingOf cX4_readingOf 3 (some .int), Cond.fieldLink RX4 11 "LayerSounder" "reels" "[LLayerSounder$Reel;", Cond.methodLink RX4 69 yX4_isReel, Cond.instanceMethod yX4_isReel, Cond.selects RX4 yX4_isReel yX4_isReel, Cond.code yX4_isReel cX4_isReel 2 (some .boolean), Cond.methodLink RX4 280 yX2_reading, Cond.instanceMethod yX2_reading]
def wsX4_fate_r3 : List Cond := [Cond.selects RX2 yX2_reading yX2_reading, Cond.initialized RX2, Cond.code yX2_reading cX2_reading 2 (some .int), Cond.fieldLink RX2 19 "LayerSounder$Reel" "size" "I", Cond.fieldLink RX2 9 "LayerSounder$Reel" "items" "[I", Cond.methodLink RX4 171 yX0_take, Cond.instanceMethod yX0_take, Cond.selects RX0 yX0_take yX0_take, Cond.initialized RX0, Cond.code yX0_take cX0_take 10 none, Cond.fieldLink RX0 9 "LayerSounder$Beams" "answered" "Z", Cond.fieldLink RX0 15 "LayerSounder$Beams" "three" "Z", Cond.fieldLink RX0 18 "LayerSounder$Beams" "along" "I", Cond.fieldLink RX0 22 "LayerSounder$Beams" "across" "I", Cond.fieldLink RX0 25 "LayerSounder$Beams" "odd" "I", Cond.methodLink RX0 28 yX0_isNone, Cond.static yX0_isNone, Cond.code yX0_isNone cX0_isNone 1 (some .boolean), Cond.static yX4_asNumber, Cond.code yX4_asNumber cX4_asNumber 1 (some .int), Cond.methodLink RX4 143 yX3_headingOf, Cond.instanceMethod yX3_headingOf, Cond.selects RX3 yX3_headingOf yX3_headingOf, Cond.code yX3_headingOf cX3_headingOf 2 (some .int)]
def wsX4_fate_r4 : List Cond := [Cond.fieldLink RX3 9 "LayerSounder$Track" "headings" "[I", Cond.methodLink RX3 28 yX3_isPing, Cond.methodLink RX4 289 yX1_swing, Cond.instanceMethod yX1_swing, Cond.selects RX1 yX1_swing yX1_swing, Cond.code yX1_swing cX1_swing 4 none, Cond.static yX4_xTurned, Cond.code yX4_xTurned cX4_xTurned 5 (some .long), Cond.methodLink RX4 274 yX4_cOf, Cond.static yX4_cOf, Cond.code yX4_cOf cX4_cOf 1 (some .long), Cond.fieldLink RX4 271 "LayerSounder" "C_OF_TURNS" "[I", Cond.methodLink RX4 277 yX4_sOf, Cond.static yX4_sOf, Cond.code yX4_sOf cX4_sOf 1 (some .long), Cond.static yX4_yTurned, Cond.code yX4_yTurned cX4_yTurned 5 (some .long), Cond.methodLink RX4 295 yX3_stepX, Cond.instanceMethod yX3_stepX, Cond.selects RX3 yX3_stepX yX3_stepX, Cond.code yX3_stepX cX3_stepX 2 (some .long), Cond.methodLink RX3 32 yX3_xOf, Cond.instanceMethod yX3_xOf, Cond.selects RX3 yX3_xOf yX3_xOf]
def wsX4_fate_r5 : List Cond := [Cond.code yX3_xOf cX3_xOf 2 (some .int), Cond.fieldLink RX3 15 "LayerSounder$Track" "xs" "[I", Cond.methodLink RX4 298 yX3_stepY, Cond.instanceMethod yX3_stepY, Cond.selects RX3 yX3_stepY yX3_stepY, Cond.code yX3_stepY cX3_stepY 2 (some .long), Cond.methodLink RX3 36 yX3_yOf, Cond.instanceMethod yX3_yOf, Cond.selects RX3 yX3_yOf yX3_yOf, Cond.code yX3_yOf cX3_yOf 2 (some .int), Cond.fieldLink RX3 18 "LayerSounder$Track" "ys" "[I", Cond.methodLink RX4 301 yX1_hold, Cond.instanceMethod yX1_hold, Cond.selects RX1 yX1_hold yX1_hold, Cond.code yX1_hold cX1_hold 5 none, Cond.methodLink RX4 205 yX4_judge, Cond.instanceMethod yX4_judge, Cond.selects RX4 yX4_judge yX4_judge, Cond.code yX4_judge cX4_judge 4 (some .int), Cond.fieldLink RX4 55 "LayerSounder" "edgeCells" "I", Cond.fieldLink RX4 58 "LayerSounder" "threesTaken" "Z", Cond.fieldLink RX4 62 "LayerSounder" "oddBound" "I", Cond.methodLink RX4 209 yX4_itemOfCell, Cond.instanceMethod yX4_itemOfCell]
def wsX4_fate_r6 : List Cond := [Cond.selects RX4 yX4_itemOfCell yX4_itemOfCell, Cond.code yX4_itemOfCell cX4_itemOfCell 3 (some .int), Cond.methodLink RX4 152 yX3_depthOf, Cond.instanceMethod yX3_depthOf, Cond.selects RX3 yX3_depthOf yX3_depthOf, Cond.code yX3_depthOf cX3_depthOf 2 (some .int), Cond.fieldLink RX3 21 "LayerSounder$Track" "depths" "[I", Cond.methodLink RX4 190 yX4_isPart, Cond.static yX4_isPart, Cond.code yX4_isPart cX4_isPart 1 (some .boolean)]
def wsX4_fate : List Cond := .code yX4_fate cX4_fate 3 (some .int) :: ((wsX4_fate_r1 ++ (wsX4_fate_r2 ++ (wsX4_fate_r3 ++ (wsX4_fate_r4 ++ (wsX4_fate_r5 ++ wsX4_fate_r6))))) ++ wsX40 ++ wsX30 ++ wsX00 ++ wsX10 ++ wsX20)
def wsX4_findPace_r1 : List Cond := [Cond.fieldLink RX4 36 "LayerSounder" "paceDrift" "LLayerSounder$Drift;", Cond.fieldLink RX4 25 "LayerSounder" "beams" "LLayerSounder$Beams;", Cond.fieldLink RX4 18 "LayerSounder" "track" "LLayerSounder$Track;", Cond.fieldLink RX4 32 "LayerSounder" "ownDrift" "LLayerSounder$Drift;", Cond.methodLink RX4 286 yX1_rest, Cond.instanceMethod yX1_rest, Cond.selects RX1 yX1_rest yX1_rest, Cond.initialized RX1, Cond.code yX1_rest cX1_rest 1 none, Cond.fieldLink RX1 7 "LayerSounder$Drift" "swungX" "J", Cond.fieldLink RX1 13 "LayerSounder$Drift" "swungY" "J", Cond.fieldLink RX1 16 "LayerSounder$Drift" "heldX" "J", Cond.fieldLink RX1 19 "LayerSounder$Drift" "heldY" "J", Cond.methodLink RX4 143 yX3_headingOf, Cond.instanceMethod yX3_headingOf, Cond.selects RX3 yX3_headingOf yX3_headingOf, Cond.initialized RX3, Cond.code yX3_headingOf cX3_headingOf 2 (some .int), Cond.fieldLink RX3 9 "LayerSounder$Track" "headings" "[I", Cond.methodLink RX3 28 yX3_isPing, Cond.instanceMethod yX3_isPing, Cond.selects RX3 yX3_isPing yX3_isPing, Cond.code yX3_isPing cX3_isPing 2 (some .boolean), Cond.fieldLink RX3 24 "LayerSounder$Track" "number" "I"]
def wsX4_findPace_r2 : List Cond := [Cond.methodLink RX4 289 yX1_swing, Cond.instanceMethod yX1_swing, Cond.selects RX1 yX1_swing yX1_swing, Cond.code yX1_swing cX1_swing 4 none, Cond.static yX4_xTurned, Cond.initialized RX4, Cond.code yX4_xTurned cX4_xTurned 5 (some .long), Cond.methodLink RX4 274 yX4_cOf, Cond.static yX4_cOf, Cond.code yX4_cOf cX4_cOf 1 (some .long), Cond.fieldLink RX4 271 "LayerSounder" "C_OF_TURNS" "[I", Cond.methodLink RX4 277 yX4_sOf, Cond.static yX4_sOf, Cond.code yX4_sOf cX4_sOf 1 (some .long), Cond.static yX4_yTurned, Cond.code yX4_yTurned cX4_yTurned 5 (some .long), Cond.methodLink RX4 247 yX1_subtract, Cond.instanceMethod yX1_subtract, Cond.selects RX1 yX1_subtract yX1_subtract, Cond.code yX1_subtract cX1_subtract 2 none]
def wsX4_findPace : List Cond := .code yX4_findPace cX4_findPace 2 none :: ((wsX4_findPace_r1 ++ wsX4_findPace_r2) ++ wsX40 ++ wsX00 ++ wsX10 ++ wsX30)
def wsX4_pace_r1 : List Cond := [Cond.fieldLink RX4 18 "LayerSounder" "track" "LLayerSounder$Track;", Cond.fieldLink RX4 25 "LayerSounder" "beams" "LLayerSounder$Beams;", Cond.fieldLink RX4 36 "LayerSounder" "paceDrift" "LLayerSounder$Drift;", Cond.fieldLink RX4 52 "LayerSounder" "skewTurn" "I", Cond.methodLink RX4 140 yX3_isPing, Cond.instanceMethod yX3_isPing, Cond.selects RX3 yX3_isPing yX3_isPing, Cond.initialized RX3, Cond.code yX3_isPing cX3_isPing 2 (some .boolean), Cond.fieldLink RX3 24 "LayerSounder$Track" "number" "I", Cond.methodLink RX4 202 yX4_isCell, Cond.instanceMethod yX4_isCell, Cond.selects RX4 yX4_isCell yX4_isCell, Cond.initialized RX4, Cond.code yX4_isCell cX4_isCell 2 (some .boolean), Cond.fieldLink RX4 45 "LayerSounder" "layers" "I", Cond.methodLink RX4 120 yX4_isWithin, Cond.static yX4_isWithin, Cond.code yX4_isWithin cX4_isWithin 3 (some .boolean), Cond.methodLink RX4 162 yX4_asLong, Cond.static yX4_asLong, Cond.code yX4_asLong cX4_asLong 1 (some .long), Cond.constantLong RX4 269 (-9223372036854775808), Cond.methodLink RX4 155 yX4_findOwn]
def wsX4_pace_r2 : List Cond := [Cond.instanceMethod yX4_findOwn, Cond.selects RX4 yX4_findOwn yX4_findOwn, Cond.code yX4_findOwn cX4_findOwn 2 (some .boolean), Cond.fieldLink RX4 32 "LayerSounder" "ownDrift" "LLayerSounder$Drift;", Cond.fieldLink RX4 49 "LayerSounder" "howOwn" "I", Cond.constantLong RX4 293 (4225), Cond.methodLink RX4 286 yX1_rest, Cond.instanceMethod yX1_rest, Cond.selects RX1 yX1_rest yX1_rest, Cond.initialized RX1, Cond.code yX1_rest cX1_rest 1 none, Cond.fieldLink RX1 7 "LayerSounder$Drift" "swungX" "J", Cond.fieldLink RX1 13 "LayerSounder$Drift" "swungY" "J", Cond.fieldLink RX1 16 "LayerSounder$Drift" "heldX" "J", Cond.fieldLink RX1 19 "LayerSounder$Drift" "heldY" "J", Cond.methodLink RX4 212 yX4_readBeams, Cond.instanceMethod yX4_readBeams, Cond.selects RX4 yX4_readBeams yX4_readBeams, Cond.code yX4_readBeams cX4_readBeams 7 none, Cond.methodLink RX4 283 yX4_readingOf, Cond.instanceMethod yX4_readingOf, Cond.selects RX4 yX4_readingOf yX4_readingOf, Cond.code yX4_readingOf cX4_readingOf 3 (some .int), Cond.fieldLink RX4 11 "LayerSounder" "reels" "[LLayerSounder$Reel;"]
def wsX4_pace_r3 : List Cond := [Cond.methodLink RX4 69 yX4_isReel, Cond.instanceMethod yX4_isReel, Cond.selects RX4 yX4_isReel yX4_isReel, Cond.code yX4_isReel cX4_isReel 2 (some .boolean), Cond.methodLink RX4 280 yX2_reading, Cond.instanceMethod yX2_reading, Cond.selects RX2 yX2_reading yX2_reading, Cond.initialized RX2, Cond.code yX2_reading cX2_reading 2 (some .int), Cond.fieldLink RX2 19 "LayerSounder$Reel" "size" "I", Cond.fieldLink RX2 9 "LayerSounder$Reel" "items" "[I", Cond.methodLink RX4 171 yX0_take, Cond.instanceMethod yX0_take, Cond.selects RX0 yX0_take yX0_take, Cond.initialized RX0, Cond.code yX0_take cX0_take 10 none, Cond.fieldLink RX0 9 "LayerSounder$Beams" "answered" "Z", Cond.fieldLink RX0 15 "LayerSounder$Beams" "three" "Z", Cond.fieldLink RX0 18 "LayerSounder$Beams" "along" "I", Cond.fieldLink RX0 22 "LayerSounder$Beams" "across" "I", Cond.fieldLink RX0 25 "LayerSounder$Beams" "odd" "I", Cond.methodLink RX0 28 yX0_isNone, Cond.static yX0_isNone, Cond.code yX0_isNone cX0_isNone 1 (some .boolean)]
def wsX4_pace_r4 : List Cond := [Cond.static yX4_asNumber, Cond.code yX4_asNumber cX4_asNumber 1 (some .int), Cond.methodLink RX4 143 yX3_headingOf, Cond.instanceMethod yX3_headingOf, Cond.selects RX3 yX3_headingOf yX3_headingOf, Cond.code yX3_headingOf cX3_headingOf 2 (some .int), Cond.fieldLink RX3 9 "LayerSounder$Track" "headings" "[I", Cond.methodLink RX3 28 yX3_isPing, Cond.methodLink RX4 289 yX1_swing, Cond.instanceMethod yX1_swing, Cond.selects RX1 yX1_swing yX1_swing, Cond.code yX1_swing cX1_swing 4 none, Cond.static yX4_xTurned, Cond.code yX4_xTurned cX4_xTurned 5 (some .long), Cond.methodLink RX4 274 yX4_cOf, Cond.static yX4_cOf, Cond.code yX4_cOf cX4_cOf 1 (some .long), Cond.fieldLink RX4 271 "LayerSounder" "C_OF_TURNS" "[I", Cond.methodLink RX4 277 yX4_sOf, Cond.static yX4_sOf, Cond.code yX4_sOf cX4_sOf 1 (some .long), Cond.static yX4_yTurned, Cond.code yX4_yTurned cX4_yTurned 5 (some .long), Cond.methodLink RX4 295 yX3_stepX]
def wsX4_pace_r5 : List Cond := [Cond.instanceMethod yX3_stepX, Cond.selects RX3 yX3_stepX yX3_stepX, Cond.code yX3_stepX cX3_stepX 2 (some .long), Cond.methodLink RX3 32 yX3_xOf, Cond.instanceMethod yX3_xOf, Cond.selects RX3 yX3_xOf yX3_xOf, Cond.code yX3_xOf cX3_xOf 2 (some .int), Cond.fieldLink RX3 15 "LayerSounder$Track" "xs" "[I", Cond.methodLink RX4 298 yX3_stepY, Cond.instanceMethod yX3_stepY, Cond.selects RX3 yX3_stepY yX3_stepY, Cond.code yX3_stepY cX3_stepY 2 (some .long), Cond.methodLink RX3 36 yX3_yOf, Cond.instanceMethod yX3_yOf, Cond.selects RX3 yX3_yOf yX3_yOf, Cond.code yX3_yOf cX3_yOf 2 (some .int), Cond.fieldLink RX3 18 "LayerSounder$Track" "ys" "[I", Cond.methodLink RX4 301 yX1_hold, Cond.instanceMethod yX1_hold, Cond.selects RX1 yX1_hold yX1_hold, Cond.code yX1_hold cX1_hold 5 none, Cond.methodLink RX4 209 yX4_itemOfCell, Cond.instanceMethod yX4_itemOfCell, Cond.selects RX4 yX4_itemOfCell yX4_itemOfCell]
def wsX4_pace_r6 : List Cond := [Cond.code yX4_itemOfCell cX4_itemOfCell 3 (some .int), Cond.methodLink RX4 215 yX4_findPace, Cond.instanceMethod yX4_findPace, Cond.selects RX4 yX4_findPace yX4_findPace, Cond.code yX4_findPace cX4_findPace 2 none, Cond.methodLink RX4 247 yX1_subtract, Cond.instanceMethod yX1_subtract, Cond.selects RX1 yX1_subtract yX1_subtract, Cond.code yX1_subtract cX1_subtract 2 none, Cond.methodLink RX4 166 yX1_part, Cond.instanceMethod yX1_part, Cond.selects RX1 yX1_part yX1_part, Cond.code yX1_part cX1_part 3 (some .long), Cond.methodLink RX1 31 yX1_east, Cond.instanceMethod yX1_east, Cond.selects RX1 yX1_east yX1_east, Cond.code yX1_east cX1_east 2 (some .long), Cond.methodLink RX1 35 yX1_north, Cond.instanceMethod yX1_north, Cond.selects RX1 yX1_north yX1_north, Cond.code yX1_north cX1_north 2 (some .long)]
def wsX4_pace : List Cond := .code yX4_pace cX4_pace 4 (some .long) :: ((wsX4_pace_r1 ++ (wsX4_pace_r2 ++ (wsX4_pace_r3 ++ (wsX4_pace_r4 ++ (wsX4_pace_r5 ++ wsX4_pace_r6))))) ++ wsX40 ++ wsX00 ++ wsX30 ++ wsX10 ++ wsX20)
def wsX4_fatesOfPing_r1 : List Cond := [Cond.fieldLink RX4 45 "LayerSounder" "layers" "I", Cond.methodLink RX4 155 yX4_findOwn, Cond.instanceMethod yX4_findOwn, Cond.selects RX4 yX4_findOwn yX4_findOwn, Cond.initialized RX4, Cond.code yX4_findOwn cX4_findOwn 2 (some .boolean), Cond.fieldLink RX4 32 "LayerSounder" "ownDrift" "LLayerSounder$Drift;", Cond.fieldLink RX4 49 "LayerSounder" "howOwn" "I", Cond.fieldLink RX4 25 "LayerSounder" "beams" "LLayerSounder$Beams;", Cond.fieldLink RX4 18 "LayerSounder" "track" "LLayerSounder$Track;", Cond.constantLong RX4 293 (4225), Cond.methodLink RX4 286 yX1_rest, Cond.instanceMethod yX1_rest, Cond.selects RX1 yX1_rest yX1_rest, Cond.initialized RX1, Cond.code yX1_rest cX1_rest 1 none, Cond.fieldLink RX1 7 "LayerSounder$Drift" "swungX" "J", Cond.fieldLink RX1 13 "LayerSounder$Drift" "swungY" "J", Cond.fieldLink RX1 16 "LayerSounder$Drift" "heldX" "J", Cond.fieldLink RX1 19 "LayerSounder$Drift" "heldY" "J", Cond.methodLink RX4 212 yX4_readBeams, Cond.instanceMethod yX4_readBeams, Cond.selects RX4 yX4_readBeams yX4_readBeams, Cond.code yX4_readBeams cX4_readBeams 7 none]
def wsX4_fatesOfPing_r2 : List Cond := [Cond.methodLink RX4 283 yX4_readingOf, Cond.instanceMethod yX4_readingOf, Cond.selects RX4 yX4_readingOf yX4_readingOf, Cond.code yX4_readingOf cX4_readingOf 3 (some .int), Cond.fieldLink RX4 11 "LayerSounder" "reels" "[LLayerSounder$Reel;", Cond.methodLink RX4 69 yX4_isReel, Cond.instanceMethod yX4_isReel, Cond.selects RX4 yX4_isReel yX4_isReel, Cond.code yX4_isReel cX4_isReel 2 (some .boolean), Cond.methodLink RX4 280 yX2_reading, Cond.instanceMethod yX2_reading, Cond.selects RX2 yX2_reading yX2_reading, Cond.initialized RX2, Cond.code yX2_reading cX2_reading 2 (some .int), Cond.fieldLink RX2 19 "LayerSounder$Reel" "size" "I", Cond.fieldLink RX2 9 "LayerSounder$Reel" "items" "[I", Cond.methodLink RX4 171 yX0_take, Cond.instanceMethod yX0_take, Cond.selects RX0 yX0_take yX0_take, Cond.initialized RX0, Cond.code yX0_take cX0_take 10 none, Cond.fieldLink RX0 9 "LayerSounder$Beams" "answered" "Z", Cond.fieldLink RX0 15 "LayerSounder$Beams" "three" "Z", Cond.fieldLink RX0 18 "LayerSounder$Beams" "along" "I"]
def wsX4_fatesOfPing_r3 : List Cond := [Cond.fieldLink RX0 22 "LayerSounder$Beams" "across" "I", Cond.fieldLink RX0 25 "LayerSounder$Beams" "odd" "I", Cond.methodLink RX0 28 yX0_isNone, Cond.static yX0_isNone, Cond.code yX0_isNone cX0_isNone 1 (some .boolean), Cond.static yX4_asNumber, Cond.code yX4_asNumber cX4_asNumber 1 (some .int), Cond.methodLink RX4 143 yX3_headingOf, Cond.instanceMethod yX3_headingOf, Cond.selects RX3 yX3_headingOf yX3_headingOf, Cond.initialized RX3, Cond.code yX3_headingOf cX3_headingOf 2 (some .int), Cond.fieldLink RX3 9 "LayerSounder$Track" "headings" "[I", Cond.methodLink RX3 28 yX3_isPing, Cond.instanceMethod yX3_isPing, Cond.selects RX3 yX3_isPing yX3_isPing, Cond.code yX3_isPing cX3_isPing 2 (some .boolean), Cond.fieldLink RX3 24 "LayerSounder$Track" "number" "I", Cond.methodLink RX4 289 yX1_swing, Cond.instanceMethod yX1_swing, Cond.selects RX1 yX1_swing yX1_swing, Cond.code yX1_swing cX1_swing 4 none, Cond.static yX4_xTurned, Cond.code yX4_xTurned cX4_xTurned 5 (some .long)]
def wsX4_fatesOfPing_r4 : List Cond := [Cond.methodLink RX4 274 yX4_cOf, Cond.static yX4_cOf, Cond.code yX4_cOf cX4_cOf 1 (some .long), Cond.fieldLink RX4 271 "LayerSounder" "C_OF_TURNS" "[I", Cond.methodLink RX4 277 yX4_sOf, Cond.static yX4_sOf, Cond.code yX4_sOf cX4_sOf 1 (some .long), Cond.static yX4_yTurned, Cond.code yX4_yTurned cX4_yTurned 5 (some .long), Cond.methodLink RX4 140 yX3_isPing, Cond.methodLink RX4 295 yX3_stepX, Cond.instanceMethod yX3_stepX, Cond.selects RX3 yX3_stepX yX3_stepX, Cond.code yX3_stepX cX3_stepX 2 (some .long), Cond.methodLink RX3 32 yX3_xOf, Cond.instanceMethod yX3_xOf, Cond.selects RX3 yX3_xOf yX3_xOf, Cond.code yX3_xOf cX3_xOf 2 (some .int), Cond.fieldLink RX3 15 "LayerSounder$Track" "xs" "[I", Cond.methodLink RX4 298 yX3_stepY, Cond.instanceMethod yX3_stepY, Cond.selects RX3 yX3_stepY yX3_stepY, Cond.code yX3_stepY cX3_stepY 2 (some .long), Cond.methodLink RX3 36 yX3_yOf]
def wsX4_fatesOfPing_r5 : List Cond := [Cond.instanceMethod yX3_yOf, Cond.selects RX3 yX3_yOf yX3_yOf, Cond.code yX3_yOf cX3_yOf 2 (some .int), Cond.fieldLink RX3 18 "LayerSounder$Track" "ys" "[I", Cond.methodLink RX4 301 yX1_hold, Cond.instanceMethod yX1_hold, Cond.selects RX1 yX1_hold yX1_hold, Cond.code yX1_hold cX1_hold 5 none, Cond.methodLink RX4 205 yX4_judge, Cond.instanceMethod yX4_judge, Cond.selects RX4 yX4_judge yX4_judge, Cond.code yX4_judge cX4_judge 4 (some .int), Cond.fieldLink RX4 55 "LayerSounder" "edgeCells" "I", Cond.fieldLink RX4 58 "LayerSounder" "threesTaken" "Z", Cond.fieldLink RX4 62 "LayerSounder" "oddBound" "I", Cond.methodLink RX4 209 yX4_itemOfCell, Cond.instanceMethod yX4_itemOfCell, Cond.selects RX4 yX4_itemOfCell yX4_itemOfCell, Cond.code yX4_itemOfCell cX4_itemOfCell 3 (some .int), Cond.methodLink RX4 152 yX3_depthOf, Cond.instanceMethod yX3_depthOf, Cond.selects RX3 yX3_depthOf yX3_depthOf, Cond.code yX3_depthOf cX3_depthOf 2 (some .int), Cond.fieldLink RX3 21 "LayerSounder$Track" "depths" "[I"]
def wsX4_fatesOfPing_r6 : List Cond := [Cond.methodLink RX4 120 yX4_isWithin, Cond.static yX4_isWithin, Cond.code yX4_isWithin cX4_isWithin 3 (some .boolean), Cond.methodLink RX4 190 yX4_isPart, Cond.static yX4_isPart, Cond.code yX4_isPart cX4_isPart 1 (some .boolean), Cond.methodLink RX4 158 yX4_asNumber]
def wsX4_fatesOfPing : List Cond := .code yX4_fatesOfPing cX4_fatesOfPing 6 (some .int) :: ((wsX4_fatesOfPing_r1 ++ (wsX4_fatesOfPing_r2 ++ (wsX4_fatesOfPing_r3 ++ (wsX4_fatesOfPing_r4 ++ (wsX4_fatesOfPing_r5 ++ wsX4_fatesOfPing_r6))))) ++ wsX40 ++ wsX00 ++ wsX10 ++ wsX20 ++ wsX30)
def wsX4_fates_r1 : List Cond := [Cond.fieldLink RX4 18 "LayerSounder" "track" "LLayerSounder$Track;", Cond.methodLink RX4 120 yX4_isWithin, Cond.static yX4_isWithin, Cond.initialized RX4, Cond.code yX4_isWithin cX4_isWithin 3 (some .boolean), Cond.methodLink RX4 219 yX4_fatesOfPing, Cond.instanceMethod yX4_fatesOfPing, Cond.selects RX4 yX4_fatesOfPing yX4_fatesOfPing, Cond.code yX4_fatesOfPing cX4_fatesOfPing 6 (some .int), Cond.fieldLink RX4 45 "LayerSounder" "layers" "I", Cond.methodLink RX4 155 yX4_findOwn, Cond.instanceMethod yX4_findOwn, Cond.selects RX4 yX4_findOwn yX4_findOwn, Cond.code yX4_findOwn cX4_findOwn 2 (some .boolean), Cond.fieldLink RX4 32 "LayerSounder" "ownDrift" "LLayerSounder$Drift;", Cond.fieldLink RX4 49 "LayerSounder" "howOwn" "I", Cond.fieldLink RX4 25 "LayerSounder" "beams" "LLayerSounder$Beams;", Cond.constantLong RX4 293 (4225), Cond.methodLink RX4 286 yX1_rest, Cond.instanceMethod yX1_rest, Cond.selects RX1 yX1_rest yX1_rest, Cond.initialized RX1, Cond.code yX1_rest cX1_rest 1 none, Cond.fieldLink RX1 7 "LayerSounder$Drift" "swungX" "J"]
def wsX4_fates_r2 : List Cond := [Cond.fieldLink RX1 13 "LayerSounder$Drift" "swungY" "J", Cond.fieldLink RX1 16 "LayerSounder$Drift" "heldX" "J", Cond.fieldLink RX1 19 "LayerSounder$Drift" "heldY" "J", Cond.methodLink RX4 212 yX4_readBeams, Cond.instanceMethod yX4_readBeams, Cond.selects RX4 yX4_readBeams yX4_readBeams, Cond.code yX4_readBeams cX4_readBeams 7 none, Cond.methodLink RX4 283 yX4_readingOf, Cond.instanceMethod yX4_readingOf, Cond.selects RX4 yX4_readingOf yX4_readingOf, Cond.code yX4_readingOf cX4_readingOf 3 (some .int), Cond.fieldLink RX4 11 "LayerSounder" "reels" "[LLayerSounder$Reel;", Cond.methodLink RX4 69 yX4_isReel, Cond.instanceMethod yX4_isReel, Cond.selects RX4 yX4_isReel yX4_isReel, Cond.code yX4_isReel cX4_isReel 2 (some .boolean), Cond.methodLink RX4 280 yX2_reading, Cond.instanceMethod yX2_reading, Cond.selects RX2 yX2_reading yX2_reading, Cond.initialized RX2, Cond.code yX2_reading cX2_reading 2 (some .int), Cond.fieldLink RX2 19 "LayerSounder$Reel" "size" "I", Cond.fieldLink RX2 9 "LayerSounder$Reel" "items" "[I", Cond.methodLink RX4 171 yX0_take]
def wsX4_fates_r3 : List Cond := [Cond.instanceMethod yX0_take, Cond.selects RX0 yX0_take yX0_take, Cond.initialized RX0, Cond.code yX0_take cX0_take 10 none, Cond.fieldLink RX0 9 "LayerSounder$Beams" "answered" "Z", Cond.fieldLink RX0 15 "LayerSounder$Beams" "three" "Z", Cond.fieldLink RX0 18 "LayerSounder$Beams" "along" "I", Cond.fieldLink RX0 22 "LayerSounder$Beams" "across" "I", Cond.fieldLink RX0 25 "LayerSounder$Beams" "odd" "I", Cond.methodLink RX0 28 yX0_isNone, Cond.static yX0_isNone, Cond.code yX0_isNone cX0_isNone 1 (some .boolean), Cond.static yX4_asNumber, Cond.code yX4_asNumber cX4_asNumber 1 (some .int), Cond.methodLink RX4 143 yX3_headingOf, Cond.instanceMethod yX3_headingOf, Cond.selects RX3 yX3_headingOf yX3_headingOf, Cond.initialized RX3, Cond.code yX3_headingOf cX3_headingOf 2 (some .int), Cond.fieldLink RX3 9 "LayerSounder$Track" "headings" "[I", Cond.methodLink RX3 28 yX3_isPing, Cond.instanceMethod yX3_isPing, Cond.selects RX3 yX3_isPing yX3_isPing, Cond.code yX3_isPing cX3_isPing 2 (some .boolean)]
def wsX4_fates_r4 : List Cond := [Cond.fieldLink RX3 24 "LayerSounder$Track" "number" "I", Cond.methodLink RX4 289 yX1_swing, Cond.instanceMethod yX1_swing, Cond.selects RX1 yX1_swing yX1_swing, Cond.code yX1_swing cX1_swing 4 none, Cond.static yX4_xTurned, Cond.code yX4_xTurned cX4_xTurned 5 (some .long), Cond.methodLink RX4 274 yX4_cOf, Cond.static yX4_cOf, Cond.code yX4_cOf cX4_cOf 1 (some .long), Cond.fieldLink RX4 271 "LayerSounder" "C_OF_TURNS" "[I", Cond.methodLink RX4 277 yX4_sOf, Cond.static yX4_sOf, Cond.code yX4_sOf cX4_sOf 1 (some .long), Cond.static yX4_yTurned, Cond.code yX4_yTurned cX4_yTurned 5 (some .long), Cond.methodLink RX4 140 yX3_isPing, Cond.methodLink RX4 295 yX3_stepX, Cond.instanceMethod yX3_stepX, Cond.selects RX3 yX3_stepX yX3_stepX, Cond.code yX3_stepX cX3_stepX 2 (some .long), Cond.methodLink RX3 32 yX3_xOf, Cond.instanceMethod yX3_xOf, Cond.selects RX3 yX3_xOf yX3_xOf]
def wsX4_fates_r5 : List Cond := [Cond.code yX3_xOf cX3_xOf 2 (some .int), Cond.fieldLink RX3 15 "LayerSounder$Track" "xs" "[I", Cond.methodLink RX4 298 yX3_stepY, Cond.instanceMethod yX3_stepY, Cond.selects RX3 yX3_stepY yX3_stepY, Cond.code yX3_stepY cX3_stepY 2 (some .long), Cond.methodLink RX3 36 yX3_yOf, Cond.instanceMethod yX3_yOf, Cond.selects RX3 yX3_yOf yX3_yOf, Cond.code yX3_yOf cX3_yOf 2 (some .int), Cond.fieldLink RX3 18 "LayerSounder$Track" "ys" "[I", Cond.methodLink RX4 301 yX1_hold, Cond.instanceMethod yX1_hold, Cond.selects RX1 yX1_hold yX1_hold, Cond.code yX1_hold cX1_hold 5 none, Cond.methodLink RX4 205 yX4_judge, Cond.instanceMethod yX4_judge, Cond.selects RX4 yX4_judge yX4_judge, Cond.code yX4_judge cX4_judge 4 (some .int), Cond.fieldLink RX4 55 "LayerSounder" "edgeCells" "I", Cond.fieldLink RX4 58 "LayerSounder" "threesTaken" "Z", Cond.fieldLink RX4 62 "LayerSounder" "oddBound" "I", Cond.methodLink RX4 209 yX4_itemOfCell, Cond.instanceMethod yX4_itemOfCell]
def wsX4_fates_r6 : List Cond := [Cond.selects RX4 yX4_itemOfCell yX4_itemOfCell, Cond.code yX4_itemOfCell cX4_itemOfCell 3 (some .int), Cond.methodLink RX4 152 yX3_depthOf, Cond.instanceMethod yX3_depthOf, Cond.selects RX3 yX3_depthOf yX3_depthOf, Cond.code yX3_depthOf cX3_depthOf 2 (some .int), Cond.fieldLink RX3 21 "LayerSounder$Track" "depths" "[I", Cond.methodLink RX4 190 yX4_isPart, Cond.static yX4_isPart, Cond.code yX4_isPart cX4_isPart 1 (some .boolean), Cond.methodLink RX4 158 yX4_asNumber]
def wsX4_fates : List Cond := .code yX4_fates cX4_fates 4 (some .int) :: ((wsX4_fates_r1 ++ (wsX4_fates_r2 ++ (wsX4_fates_r3 ++ (wsX4_fates_r4 ++ (wsX4_fates_r5 ++ wsX4_fates_r6))))) ++ wsX40 ++ wsX30 ++ wsX00 ++ wsX10 ++ wsX20)
def wsX4_isBox : List Cond := .code yX4_isBox cX4_isBox 5 (some .boolean) :: ([.fieldLink RX4 18 "LayerSounder" "track" "LLayerSounder$Track;", .methodLink RX4 236 yX3_isSpan, .instanceMethod yX3_isSpan, .selects RX3 yX3_isSpan yX3_isSpan, .initialized RX3, .code yX3_isSpan cX3_isSpan 3 (some .boolean), .methodLink RX3 28 yX3_isPing, .instanceMethod yX3_isPing, .selects RX3 yX3_isPing yX3_isPing, .code yX3_isPing cX3_isPing 2 (some .boolean), .fieldLink RX3 24 "LayerSounder$Track" "number" "I", .methodLink RX4 202 yX4_isCell, .instanceMethod yX4_isCell, .selects RX4 yX4_isCell yX4_isCell, .initialized RX4, .code yX4_isCell cX4_isCell 2 (some .boolean), .fieldLink RX4 45 "LayerSounder" "layers" "I", .methodLink RX4 120 yX4_isWithin, .static yX4_isWithin, .code yX4_isWithin cX4_isWithin 3 (some .boolean)] ++ wsX40 ++ wsX30)
def wsX4_sumGood_r1 : List Cond := [Cond.fieldLink RX4 36 "LayerSounder" "paceDrift" "LLayerSounder$Drift;", Cond.methodLink RX4 286 yX1_rest, Cond.instanceMethod yX1_rest, Cond.selects RX1 yX1_rest yX1_rest, Cond.initialized RX1, Cond.code yX1_rest cX1_rest 1 none, Cond.fieldLink RX1 7 "LayerSounder$Drift" "swungX" "J", Cond.fieldLink RX1 13 "LayerSounder$Drift" "swungY" "J", Cond.fieldLink RX1 16 "LayerSounder$Drift" "heldX" "J", Cond.fieldLink RX1 19 "LayerSounder$Drift" "heldY" "J", Cond.methodLink RX4 155 yX4_findOwn, Cond.instanceMethod yX4_findOwn, Cond.selects RX4 yX4_findOwn yX4_findOwn, Cond.initialized RX4, Cond.code yX4_findOwn cX4_findOwn 2 (some .boolean), Cond.fieldLink RX4 32 "LayerSounder" "ownDrift" "LLayerSounder$Drift;", Cond.fieldLink RX4 49 "LayerSounder" "howOwn" "I", Cond.fieldLink RX4 25 "LayerSounder" "beams" "LLayerSounder$Beams;", Cond.fieldLink RX4 18 "LayerSounder" "track" "LLayerSounder$Track;", Cond.constantLong RX4 293 (4225), Cond.methodLink RX4 212 yX4_readBeams, Cond.instanceMethod yX4_readBeams, Cond.selects RX4 yX4_readBeams yX4_readBeams, Cond.code yX4_readBeams cX4_readBeams 7 none]
def wsX4_sumGood_r2 : List Cond := [Cond.methodLink RX4 283 yX4_readingOf, Cond.instanceMethod yX4_readingOf, Cond.selects RX4 yX4_readingOf yX4_readingOf, Cond.code yX4_readingOf cX4_readingOf 3 (some .int), Cond.fieldLink RX4 11 "LayerSounder" "reels" "[LLayerSounder$Reel;", Cond.methodLink RX4 69 yX4_isReel, Cond.instanceMethod yX4_isReel, Cond.selects RX4 yX4_isReel yX4_isReel, Cond.code yX4_isReel cX4_isReel 2 (some .boolean), Cond.methodLink RX4 280 yX2_reading, Cond.instanceMethod yX2_reading, Cond.selects RX2 yX2_reading yX2_reading, Cond.initialized RX2, Cond.code yX2_reading cX2_reading 2 (some .int), Cond.fieldLink RX2 19 "LayerSounder$Reel" "size" "I", Cond.fieldLink RX2 9 "LayerSounder$Reel" "items" "[I", Cond.methodLink RX4 171 yX0_take, Cond.instanceMethod yX0_take, Cond.selects RX0 yX0_take yX0_take, Cond.initialized RX0, Cond.code yX0_take cX0_take 10 none, Cond.fieldLink RX0 9 "LayerSounder$Beams" "answered" "Z", Cond.fieldLink RX0 15 "LayerSounder$Beams" "three" "Z", Cond.fieldLink RX0 18 "LayerSounder$Beams" "along" "I"]
def wsX4_sumGood_r3 : List Cond := [Cond.fieldLink RX0 22 "LayerSounder$Beams" "across" "I", Cond.fieldLink RX0 25 "LayerSounder$Beams" "odd" "I", Cond.methodLink RX0 28 yX0_isNone, Cond.static yX0_isNone, Cond.code yX0_isNone cX0_isNone 1 (some .boolean), Cond.static yX4_asNumber, Cond.code yX4_asNumber cX4_asNumber 1 (some .int), Cond.methodLink RX4 143 yX3_headingOf, Cond.instanceMethod yX3_headingOf, Cond.selects RX3 yX3_headingOf yX3_headingOf, Cond.initialized RX3, Cond.code yX3_headingOf cX3_headingOf 2 (some .int), Cond.fieldLink RX3 9 "LayerSounder$Track" "headings" "[I", Cond.methodLink RX3 28 yX3_isPing, Cond.instanceMethod yX3_isPing, Cond.selects RX3 yX3_isPing yX3_isPing, Cond.code yX3_isPing cX3_isPing 2 (some .boolean), Cond.fieldLink RX3 24 "LayerSounder$Track" "number" "I", Cond.methodLink RX4 289 yX1_swing, Cond.instanceMethod yX1_swing, Cond.selects RX1 yX1_swing yX1_swing, Cond.code yX1_swing cX1_swing 4 none, Cond.static yX4_xTurned, Cond.code yX4_xTurned cX4_xTurned 5 (some .long)]
def wsX4_sumGood_r4 : List Cond := [Cond.methodLink RX4 274 yX4_cOf, Cond.static yX4_cOf, Cond.code yX4_cOf cX4_cOf 1 (some .long), Cond.fieldLink RX4 271 "LayerSounder" "C_OF_TURNS" "[I", Cond.methodLink RX4 277 yX4_sOf, Cond.static yX4_sOf, Cond.code yX4_sOf cX4_sOf 1 (some .long), Cond.static yX4_yTurned, Cond.code yX4_yTurned cX4_yTurned 5 (some .long), Cond.methodLink RX4 140 yX3_isPing, Cond.methodLink RX4 295 yX3_stepX, Cond.instanceMethod yX3_stepX, Cond.selects RX3 yX3_stepX yX3_stepX, Cond.code yX3_stepX cX3_stepX 2 (some .long), Cond.methodLink RX3 32 yX3_xOf, Cond.instanceMethod yX3_xOf, Cond.selects RX3 yX3_xOf yX3_xOf, Cond.code yX3_xOf cX3_xOf 2 (some .int), Cond.fieldLink RX3 15 "LayerSounder$Track" "xs" "[I", Cond.methodLink RX4 298 yX3_stepY, Cond.instanceMethod yX3_stepY, Cond.selects RX3 yX3_stepY yX3_stepY, Cond.code yX3_stepY cX3_stepY 2 (some .long), Cond.methodLink RX3 36 yX3_yOf]
def wsX4_sumGood_r5 : List Cond := [Cond.instanceMethod yX3_yOf, Cond.selects RX3 yX3_yOf yX3_yOf, Cond.code yX3_yOf cX3_yOf 2 (some .int), Cond.fieldLink RX3 18 "LayerSounder$Track" "ys" "[I", Cond.methodLink RX4 301 yX1_hold, Cond.instanceMethod yX1_hold, Cond.selects RX1 yX1_hold yX1_hold, Cond.code yX1_hold cX1_hold 5 none, Cond.methodLink RX4 205 yX4_judge, Cond.instanceMethod yX4_judge, Cond.selects RX4 yX4_judge yX4_judge, Cond.code yX4_judge cX4_judge 4 (some .int), Cond.fieldLink RX4 55 "LayerSounder" "edgeCells" "I", Cond.fieldLink RX4 58 "LayerSounder" "threesTaken" "Z", Cond.fieldLink RX4 62 "LayerSounder" "oddBound" "I", Cond.methodLink RX4 209 yX4_itemOfCell, Cond.instanceMethod yX4_itemOfCell, Cond.selects RX4 yX4_itemOfCell yX4_itemOfCell, Cond.code yX4_itemOfCell cX4_itemOfCell 3 (some .int), Cond.fieldLink RX4 45 "LayerSounder" "layers" "I", Cond.methodLink RX4 152 yX3_depthOf, Cond.instanceMethod yX3_depthOf, Cond.selects RX3 yX3_depthOf yX3_depthOf, Cond.code yX3_depthOf cX3_depthOf 2 (some .int)]
def wsX4_sumGood_r6 : List Cond := [Cond.fieldLink RX3 21 "LayerSounder$Track" "depths" "[I", Cond.methodLink RX4 120 yX4_isWithin, Cond.static yX4_isWithin, Cond.code yX4_isWithin cX4_isWithin 3 (some .boolean), Cond.methodLink RX4 190 yX4_isPart, Cond.static yX4_isPart, Cond.code yX4_isPart cX4_isPart 1 (some .boolean), Cond.methodLink RX4 215 yX4_findPace, Cond.instanceMethod yX4_findPace, Cond.selects RX4 yX4_findPace yX4_findPace, Cond.code yX4_findPace cX4_findPace 2 none, Cond.methodLink RX4 247 yX1_subtract, Cond.instanceMethod yX1_subtract, Cond.selects RX1 yX1_subtract yX1_subtract, Cond.code yX1_subtract cX1_subtract 2 none, Cond.methodLink RX4 314 yX1_add, Cond.instanceMethod yX1_add, Cond.selects RX1 yX1_add yX1_add, Cond.code yX1_add cX1_add 2 none]
def wsX4_sumGood : List Cond := .code yX4_sumGood cX4_sumGood 10 (some .int) :: ((wsX4_sumGood_r1 ++ (wsX4_sumGood_r2 ++ (wsX4_sumGood_r3 ++ (wsX4_sumGood_r4 ++ (wsX4_sumGood_r5 ++ wsX4_sumGood_r6))))) ++ wsX40 ++ wsX10 ++ wsX00 ++ wsX20 ++ wsX30)
def wsX4_box_r1 : List Cond := [Cond.fieldLink RX4 39 "LayerSounder" "firstSum" "LLayerSounder$Drift;", Cond.fieldLink RX4 52 "LayerSounder" "skewTurn" "I", Cond.methodLink RX4 222 yX4_isBox, Cond.instanceMethod yX4_isBox, Cond.selects RX4 yX4_isBox yX4_isBox, Cond.initialized RX4, Cond.code yX4_isBox cX4_isBox 5 (some .boolean), Cond.fieldLink RX4 18 "LayerSounder" "track" "LLayerSounder$Track;", Cond.methodLink RX4 236 yX3_isSpan, Cond.instanceMethod yX3_isSpan, Cond.selects RX3 yX3_isSpan yX3_isSpan, Cond.initialized RX3, Cond.code yX3_isSpan cX3_isSpan 3 (some .boolean), Cond.methodLink RX3 28 yX3_isPing, Cond.instanceMethod yX3_isPing, Cond.selects RX3 yX3_isPing yX3_isPing, Cond.code yX3_isPing cX3_isPing 2 (some .boolean), Cond.fieldLink RX3 24 "LayerSounder$Track" "number" "I", Cond.methodLink RX4 202 yX4_isCell, Cond.instanceMethod yX4_isCell, Cond.selects RX4 yX4_isCell yX4_isCell, Cond.code yX4_isCell cX4_isCell 2 (some .boolean), Cond.fieldLink RX4 45 "LayerSounder" "layers" "I", Cond.methodLink RX4 120 yX4_isWithin]
def wsX4_box_r2 : List Cond := [Cond.static yX4_isWithin, Cond.code yX4_isWithin cX4_isWithin 3 (some .boolean), Cond.methodLink RX4 162 yX4_asLong, Cond.static yX4_asLong, Cond.code yX4_asLong cX4_asLong 1 (some .long), Cond.constantLong RX4 269 (-9223372036854775808), Cond.methodLink RX4 226 yX4_sumGood, Cond.instanceMethod yX4_sumGood, Cond.selects RX4 yX4_sumGood yX4_sumGood, Cond.code yX4_sumGood cX4_sumGood 10 (some .int), Cond.fieldLink RX4 36 "LayerSounder" "paceDrift" "LLayerSounder$Drift;", Cond.methodLink RX4 286 yX1_rest, Cond.instanceMethod yX1_rest, Cond.selects RX1 yX1_rest yX1_rest, Cond.initialized RX1, Cond.code yX1_rest cX1_rest 1 none, Cond.fieldLink RX1 7 "LayerSounder$Drift" "swungX" "J", Cond.fieldLink RX1 13 "LayerSounder$Drift" "swungY" "J", Cond.fieldLink RX1 16 "LayerSounder$Drift" "heldX" "J", Cond.fieldLink RX1 19 "LayerSounder$Drift" "heldY" "J", Cond.methodLink RX4 155 yX4_findOwn, Cond.instanceMethod yX4_findOwn, Cond.selects RX4 yX4_findOwn yX4_findOwn, Cond.code yX4_findOwn cX4_findOwn 2 (some .boolean)]
def wsX4_box_r3 : List Cond := [Cond.fieldLink RX4 32 "LayerSounder" "ownDrift" "LLayerSounder$Drift;", Cond.fieldLink RX4 49 "LayerSounder" "howOwn" "I", Cond.fieldLink RX4 25 "LayerSounder" "beams" "LLayerSounder$Beams;", Cond.constantLong RX4 293 (4225), Cond.methodLink RX4 212 yX4_readBeams, Cond.instanceMethod yX4_readBeams, Cond.selects RX4 yX4_readBeams yX4_readBeams, Cond.code yX4_readBeams cX4_readBeams 7 none, Cond.methodLink RX4 283 yX4_readingOf, Cond.instanceMethod yX4_readingOf, Cond.selects RX4 yX4_readingOf yX4_readingOf, Cond.code yX4_readingOf cX4_readingOf 3 (some .int), Cond.fieldLink RX4 11 "LayerSounder" "reels" "[LLayerSounder$Reel;", Cond.methodLink RX4 69 yX4_isReel, Cond.instanceMethod yX4_isReel, Cond.selects RX4 yX4_isReel yX4_isReel, Cond.code yX4_isReel cX4_isReel 2 (some .boolean), Cond.methodLink RX4 280 yX2_reading, Cond.instanceMethod yX2_reading, Cond.selects RX2 yX2_reading yX2_reading, Cond.initialized RX2, Cond.code yX2_reading cX2_reading 2 (some .int), Cond.fieldLink RX2 19 "LayerSounder$Reel" "size" "I", Cond.fieldLink RX2 9 "LayerSounder$Reel" "items" "[I"]
def wsX4_box_r4 : List Cond := [Cond.methodLink RX4 171 yX0_take, Cond.instanceMethod yX0_take, Cond.selects RX0 yX0_take yX0_take, Cond.initialized RX0, Cond.code yX0_take cX0_take 10 none, Cond.fieldLink RX0 9 "LayerSounder$Beams" "answered" "Z", Cond.fieldLink RX0 15 "LayerSounder$Beams" "three" "Z", Cond.fieldLink RX0 18 "LayerSounder$Beams" "along" "I", Cond.fieldLink RX0 22 "LayerSounder$Beams" "across" "I", Cond.fieldLink RX0 25 "LayerSounder$Beams" "odd" "I", Cond.methodLink RX0 28 yX0_isNone, Cond.static yX0_isNone, Cond.code yX0_isNone cX0_isNone 1 (some .boolean), Cond.static yX4_asNumber, Cond.code yX4_asNumber cX4_asNumber 1 (some .int), Cond.methodLink RX4 143 yX3_headingOf, Cond.instanceMethod yX3_headingOf, Cond.selects RX3 yX3_headingOf yX3_headingOf, Cond.code yX3_headingOf cX3_headingOf 2 (some .int), Cond.fieldLink RX3 9 "LayerSounder$Track" "headings" "[I", Cond.methodLink RX4 289 yX1_swing, Cond.instanceMethod yX1_swing, Cond.selects RX1 yX1_swing yX1_swing, Cond.code yX1_swing cX1_swing 4 none]
def wsX4_box_r5 : List Cond := [Cond.static yX4_xTurned, Cond.code yX4_xTurned cX4_xTurned 5 (some .long), Cond.methodLink RX4 274 yX4_cOf, Cond.static yX4_cOf, Cond.code yX4_cOf cX4_cOf 1 (some .long), Cond.fieldLink RX4 271 "LayerSounder" "C_OF_TURNS" "[I", Cond.methodLink RX4 277 yX4_sOf, Cond.static yX4_sOf, Cond.code yX4_sOf cX4_sOf 1 (some .long), Cond.static yX4_yTurned, Cond.code yX4_yTurned cX4_yTurned 5 (some .long), Cond.methodLink RX4 140 yX3_isPing, Cond.methodLink RX4 295 yX3_stepX, Cond.instanceMethod yX3_stepX, Cond.selects RX3 yX3_stepX yX3_stepX, Cond.code yX3_stepX cX3_stepX 2 (some .long), Cond.methodLink RX3 32 yX3_xOf, Cond.instanceMethod yX3_xOf, Cond.selects RX3 yX3_xOf yX3_xOf, Cond.code yX3_xOf cX3_xOf 2 (some .int), Cond.fieldLink RX3 15 "LayerSounder$Track" "xs" "[I", Cond.methodLink RX4 298 yX3_stepY, Cond.instanceMethod yX3_stepY, Cond.selects RX3 yX3_stepY yX3_stepY]
def wsX4_box_r6 : List Cond := [Cond.code yX3_stepY cX3_stepY 2 (some .long), Cond.methodLink RX3 36 yX3_yOf, Cond.instanceMethod yX3_yOf, Cond.selects RX3 yX3_yOf yX3_yOf, Cond.code yX3_yOf cX3_yOf 2 (some .int), Cond.fieldLink RX3 18 "LayerSounder$Track" "ys" "[I", Cond.methodLink RX4 301 yX1_hold, Cond.instanceMethod yX1_hold, Cond.selects RX1 yX1_hold yX1_hold, Cond.code yX1_hold cX1_hold 5 none, Cond.methodLink RX4 205 yX4_judge, Cond.instanceMethod yX4_judge, Cond.selects RX4 yX4_judge yX4_judge, Cond.code yX4_judge cX4_judge 4 (some .int), Cond.fieldLink RX4 55 "LayerSounder" "edgeCells" "I", Cond.fieldLink RX4 58 "LayerSounder" "threesTaken" "Z", Cond.fieldLink RX4 62 "LayerSounder" "oddBound" "I", Cond.methodLink RX4 209 yX4_itemOfCell, Cond.instanceMethod yX4_itemOfCell, Cond.selects RX4 yX4_itemOfCell yX4_itemOfCell, Cond.code yX4_itemOfCell cX4_itemOfCell 3 (some .int), Cond.methodLink RX4 152 yX3_depthOf, Cond.instanceMethod yX3_depthOf, Cond.selects RX3 yX3_depthOf yX3_depthOf]
def wsX4_box_r7 : List Cond := [Cond.code yX3_depthOf cX3_depthOf 2 (some .int), Cond.fieldLink RX3 21 "LayerSounder$Track" "depths" "[I", Cond.methodLink RX4 190 yX4_isPart, Cond.static yX4_isPart, Cond.code yX4_isPart cX4_isPart 1 (some .boolean), Cond.methodLink RX4 215 yX4_findPace, Cond.instanceMethod yX4_findPace, Cond.selects RX4 yX4_findPace yX4_findPace, Cond.code yX4_findPace cX4_findPace 2 none, Cond.methodLink RX4 247 yX1_subtract, Cond.instanceMethod yX1_subtract, Cond.selects RX1 yX1_subtract yX1_subtract, Cond.code yX1_subtract cX1_subtract 2 none, Cond.methodLink RX4 314 yX1_add, Cond.instanceMethod yX1_add, Cond.selects RX1 yX1_add yX1_add, Cond.code yX1_add cX1_add 2 none, Cond.methodLink RX4 166 yX1_part, Cond.instanceMethod yX1_part, Cond.selects RX1 yX1_part yX1_part, Cond.code yX1_part cX1_part 3 (some .long), Cond.methodLink RX1 31 yX1_east, Cond.instanceMethod yX1_east, Cond.selects RX1 yX1_east yX1_east]
def wsX4_box_r8 : List Cond := [Cond.code yX1_east cX1_east 2 (some .long), Cond.methodLink RX1 35 yX1_north, Cond.instanceMethod yX1_north, Cond.selects RX1 yX1_north yX1_north, Cond.code yX1_north cX1_north 2 (some .long)]
def wsX4_box : List Cond := .code yX4_box cX4_box 7 (some .long) :: ((wsX4_box_r1 ++ (wsX4_box_r2 ++ (wsX4_box_r3 ++ (wsX4_box_r4 ++ (wsX4_box_r5 ++ (wsX4_box_r6 ++ (wsX4_box_r7 ++ wsX4_box_r8))))))) ++ wsX40 ++ wsX30 ++ wsX10 ++ wsX00 ++ wsX20)
def wsJ9_floorDiv_f86c9 : List Cond := .code yJ9_floorDiv_f86c9 cJ9_floorDiv_f86c9 6 (some .long) :: ([])
def wsX4_mean_r1 : List Cond := [Cond.fieldLink RX4 39 "LayerSounder" "firstSum" "LLayerSounder$Drift;", Cond.fieldLink RX4 52 "LayerSounder" "skewTurn" "I", Cond.methodLink RX4 222 yX4_isBox, Cond.instanceMethod yX4_isBox, Cond.selects RX4 yX4_isBox yX4_isBox, Cond.initialized RX4, Cond.code yX4_isBox cX4_isBox 5 (some .boolean), Cond.fieldLink RX4 18 "LayerSounder" "track" "LLayerSounder$Track;", Cond.methodLink RX4 236 yX3_isSpan, Cond.instanceMethod yX3_isSpan, Cond.selects RX3 yX3_isSpan yX3_isSpan, Cond.initialized RX3, Cond.code yX3_isSpan cX3_isSpan 3 (some .boolean), Cond.methodLink RX3 28 yX3_isPing, Cond.instanceMethod yX3_isPing, Cond.selects RX3 yX3_isPing yX3_isPing, Cond.code yX3_isPing cX3_isPing 2 (some .boolean), Cond.fieldLink RX3 24 "LayerSounder$Track" "number" "I", Cond.methodLink RX4 202 yX4_isCell, Cond.instanceMethod yX4_isCell, Cond.selects RX4 yX4_isCell yX4_isCell, Cond.code yX4_isCell cX4_isCell 2 (some .boolean), Cond.fieldLink RX4 45 "LayerSounder" "layers" "I", Cond.methodLink RX4 120 yX4_isWithin]
def wsX4_mean_r2 : List Cond := [Cond.static yX4_isWithin, Cond.code yX4_isWithin cX4_isWithin 3 (some .boolean), Cond.methodLink RX4 162 yX4_asLong, Cond.static yX4_asLong, Cond.code yX4_asLong cX4_asLong 1 (some .long), Cond.constantLong RX4 269 (-9223372036854775808), Cond.methodLink RX4 226 yX4_sumGood, Cond.instanceMethod yX4_sumGood, Cond.selects RX4 yX4_sumGood yX4_sumGood, Cond.code yX4_sumGood cX4_sumGood 10 (some .int), Cond.fieldLink RX4 36 "LayerSounder" "paceDrift" "LLayerSounder$Drift;", Cond.methodLink RX4 286 yX1_rest, Cond.instanceMethod yX1_rest, Cond.selects RX1 yX1_rest yX1_rest, Cond.initialized RX1, Cond.code yX1_rest cX1_rest 1 none, Cond.fieldLink RX1 7 "LayerSounder$Drift" "swungX" "J", Cond.fieldLink RX1 13 "LayerSounder$Drift" "swungY" "J", Cond.fieldLink RX1 16 "LayerSounder$Drift" "heldX" "J", Cond.fieldLink RX1 19 "LayerSounder$Drift" "heldY" "J", Cond.methodLink RX4 155 yX4_findOwn, Cond.instanceMethod yX4_findOwn, Cond.selects RX4 yX4_findOwn yX4_findOwn, Cond.code yX4_findOwn cX4_findOwn 2 (some .boolean)]
def wsX4_mean_r3 : List Cond := [Cond.fieldLink RX4 32 "LayerSounder" "ownDrift" "LLayerSounder$Drift;", Cond.fieldLink RX4 49 "LayerSounder" "howOwn" "I", Cond.fieldLink RX4 25 "LayerSounder" "beams" "LLayerSounder$Beams;", Cond.constantLong RX4 293 (4225), Cond.methodLink RX4 212 yX4_readBeams, Cond.instanceMethod yX4_readBeams, Cond.selects RX4 yX4_readBeams yX4_readBeams, Cond.code yX4_readBeams cX4_readBeams 7 none, Cond.methodLink RX4 283 yX4_readingOf, Cond.instanceMethod yX4_readingOf, Cond.selects RX4 yX4_readingOf yX4_readingOf, Cond.code yX4_readingOf cX4_readingOf 3 (some .int), Cond.fieldLink RX4 11 "LayerSounder" "reels" "[LLayerSounder$Reel;", Cond.methodLink RX4 69 yX4_isReel, Cond.instanceMethod yX4_isReel, Cond.selects RX4 yX4_isReel yX4_isReel, Cond.code yX4_isReel cX4_isReel 2 (some .boolean), Cond.methodLink RX4 280 yX2_reading, Cond.instanceMethod yX2_reading, Cond.selects RX2 yX2_reading yX2_reading, Cond.initialized RX2, Cond.code yX2_reading cX2_reading 2 (some .int), Cond.fieldLink RX2 19 "LayerSounder$Reel" "size" "I", Cond.fieldLink RX2 9 "LayerSounder$Reel" "items" "[I"]
def wsX4_mean_r4 : List Cond := [Cond.methodLink RX4 171 yX0_take, Cond.instanceMethod yX0_take, Cond.selects RX0 yX0_take yX0_take, Cond.initialized RX0, Cond.code yX0_take cX0_take 10 none, Cond.fieldLink RX0 9 "LayerSounder$Beams" "answered" "Z", Cond.fieldLink RX0 15 "LayerSounder$Beams" "three" "Z", Cond.fieldLink RX0 18 "LayerSounder$Beams" "along" "I", Cond.fieldLink RX0 22 "LayerSounder$Beams" "across" "I", Cond.fieldLink RX0 25 "LayerSounder$Beams" "odd" "I", Cond.methodLink RX0 28 yX0_isNone, Cond.static yX0_isNone, Cond.code yX0_isNone cX0_isNone 1 (some .boolean), Cond.static yX4_asNumber, Cond.code yX4_asNumber cX4_asNumber 1 (some .int), Cond.methodLink RX4 143 yX3_headingOf, Cond.instanceMethod yX3_headingOf, Cond.selects RX3 yX3_headingOf yX3_headingOf, Cond.code yX3_headingOf cX3_headingOf 2 (some .int), Cond.fieldLink RX3 9 "LayerSounder$Track" "headings" "[I", Cond.methodLink RX4 289 yX1_swing, Cond.instanceMethod yX1_swing, Cond.selects RX1 yX1_swing yX1_swing, Cond.code yX1_swing cX1_swing 4 none]
def wsX4_mean_r5 : List Cond := [Cond.static yX4_xTurned, Cond.code yX4_xTurned cX4_xTurned 5 (some .long), Cond.methodLink RX4 274 yX4_cOf, Cond.static yX4_cOf, Cond.code yX4_cOf cX4_cOf 1 (some .long), Cond.fieldLink RX4 271 "LayerSounder" "C_OF_TURNS" "[I", Cond.methodLink RX4 277 yX4_sOf, Cond.static yX4_sOf, Cond.code yX4_sOf cX4_sOf 1 (some .long), Cond.static yX4_yTurned, Cond.code yX4_yTurned cX4_yTurned 5 (some .long), Cond.methodLink RX4 140 yX3_isPing, Cond.methodLink RX4 295 yX3_stepX, Cond.instanceMethod yX3_stepX, Cond.selects RX3 yX3_stepX yX3_stepX, Cond.code yX3_stepX cX3_stepX 2 (some .long), Cond.methodLink RX3 32 yX3_xOf, Cond.instanceMethod yX3_xOf, Cond.selects RX3 yX3_xOf yX3_xOf, Cond.code yX3_xOf cX3_xOf 2 (some .int), Cond.fieldLink RX3 15 "LayerSounder$Track" "xs" "[I", Cond.methodLink RX4 298 yX3_stepY, Cond.instanceMethod yX3_stepY, Cond.selects RX3 yX3_stepY yX3_stepY]
def wsX4_mean_r6 : List Cond := [Cond.code yX3_stepY cX3_stepY 2 (some .long), Cond.methodLink RX3 36 yX3_yOf, Cond.instanceMethod yX3_yOf, Cond.selects RX3 yX3_yOf yX3_yOf, Cond.code yX3_yOf cX3_yOf 2 (some .int), Cond.fieldLink RX3 18 "LayerSounder$Track" "ys" "[I", Cond.methodLink RX4 301 yX1_hold, Cond.instanceMethod yX1_hold, Cond.selects RX1 yX1_hold yX1_hold, Cond.code yX1_hold cX1_hold 5 none, Cond.methodLink RX4 205 yX4_judge, Cond.instanceMethod yX4_judge, Cond.selects RX4 yX4_judge yX4_judge, Cond.code yX4_judge cX4_judge 4 (some .int), Cond.fieldLink RX4 55 "LayerSounder" "edgeCells" "I", Cond.fieldLink RX4 58 "LayerSounder" "threesTaken" "Z", Cond.fieldLink RX4 62 "LayerSounder" "oddBound" "I", Cond.methodLink RX4 209 yX4_itemOfCell, Cond.instanceMethod yX4_itemOfCell, Cond.selects RX4 yX4_itemOfCell yX4_itemOfCell, Cond.code yX4_itemOfCell cX4_itemOfCell 3 (some .int), Cond.methodLink RX4 152 yX3_depthOf, Cond.instanceMethod yX3_depthOf, Cond.selects RX3 yX3_depthOf yX3_depthOf]
def wsX4_mean_r7 : List Cond := [Cond.code yX3_depthOf cX3_depthOf 2 (some .int), Cond.fieldLink RX3 21 "LayerSounder$Track" "depths" "[I", Cond.methodLink RX4 190 yX4_isPart, Cond.static yX4_isPart, Cond.code yX4_isPart cX4_isPart 1 (some .boolean), Cond.methodLink RX4 215 yX4_findPace, Cond.instanceMethod yX4_findPace, Cond.selects RX4 yX4_findPace yX4_findPace, Cond.code yX4_findPace cX4_findPace 2 none, Cond.methodLink RX4 247 yX1_subtract, Cond.instanceMethod yX1_subtract, Cond.selects RX1 yX1_subtract yX1_subtract, Cond.code yX1_subtract cX1_subtract 2 none, Cond.methodLink RX4 314 yX1_add, Cond.instanceMethod yX1_add, Cond.selects RX1 yX1_add yX1_add, Cond.code yX1_add cX1_add 2 none, Cond.methodLink RX4 166 yX1_part, Cond.instanceMethod yX1_part, Cond.selects RX1 yX1_part yX1_part, Cond.code yX1_part cX1_part 3 (some .long), Cond.methodLink RX1 31 yX1_east, Cond.instanceMethod yX1_east, Cond.selects RX1 yX1_east yX1_east]
def wsX4_mean_r8 : List Cond := [Cond.code yX1_east cX1_east 2 (some .long), Cond.methodLink RX1 35 yX1_north, Cond.instanceMethod yX1_north, Cond.selects RX1 yX1_north yX1_north, Cond.code yX1_north cX1_north 2 (some .long), Cond.methodLink RX4 230 yJ9_floorDiv_f86c9, Cond.static yJ9_floorDiv_f86c9, Cond.initialized RJ9, Cond.code yJ9_floorDiv_f86c9 cJ9_floorDiv_f86c9 6 (some .long)]
def wsX4_mean : List Cond := .code yX4_mean cX4_mean 7 (some .long) :: ((wsX4_mean_r1 ++ (wsX4_mean_r2 ++ (wsX4_mean_r3 ++ (wsX4_mean_r4 ++ (wsX4_mean_r5 ++ (wsX4_mean_r6 ++ (wsX4_mean_r7 ++ wsX4_mean_r8))))))) ++ wsX40 ++ wsX30 ++ wsX10 ++ wsX00 ++ wsX20)
def wsX4_flowOfPace_r1 : List Cond := [Cond.fieldLink RX4 36 "LayerSounder" "paceDrift" "LLayerSounder$Drift;", Cond.fieldLink RX4 52 "LayerSounder" "skewTurn" "I", Cond.fieldLink RX4 18 "LayerSounder" "track" "LLayerSounder$Track;", Cond.methodLink RX4 308 yX1_east, Cond.instanceMethod yX1_east, Cond.selects RX1 yX1_east yX1_east, Cond.initialized RX1, Cond.code yX1_east cX1_east 2 (some .long), Cond.fieldLink RX1 7 "LayerSounder$Drift" "swungX" "J", Cond.fieldLink RX1 13 "LayerSounder$Drift" "swungY" "J", Cond.fieldLink RX1 16 "LayerSounder$Drift" "heldX" "J", Cond.static yX4_xTurned, Cond.initialized RX4, Cond.code yX4_xTurned cX4_xTurned 5 (some .long), Cond.methodLink RX4 274 yX4_cOf, Cond.static yX4_cOf, Cond.code yX4_cOf cX4_cOf 1 (some .long), Cond.fieldLink RX4 271 "LayerSounder" "C_OF_TURNS" "[I", Cond.methodLink RX4 277 yX4_sOf, Cond.static yX4_sOf, Cond.code yX4_sOf cX4_sOf 1 (some .long), Cond.methodLink RX4 298 yX3_stepY, Cond.instanceMethod yX3_stepY, Cond.selects RX3 yX3_stepY yX3_stepY]
def wsX4_flowOfPace_r2 : List Cond := [Cond.initialized RX3, Cond.code yX3_stepY cX3_stepY 2 (some .long), Cond.methodLink RX3 36 yX3_yOf, Cond.instanceMethod yX3_yOf, Cond.selects RX3 yX3_yOf yX3_yOf, Cond.code yX3_yOf cX3_yOf 2 (some .int), Cond.fieldLink RX3 18 "LayerSounder$Track" "ys" "[I", Cond.methodLink RX3 28 yX3_isPing, Cond.instanceMethod yX3_isPing, Cond.selects RX3 yX3_isPing yX3_isPing, Cond.code yX3_isPing cX3_isPing 2 (some .boolean), Cond.fieldLink RX3 24 "LayerSounder$Track" "number" "I", Cond.methodLink RX4 311 yX1_north, Cond.instanceMethod yX1_north, Cond.selects RX1 yX1_north yX1_north, Cond.code yX1_north cX1_north 2 (some .long), Cond.fieldLink RX1 19 "LayerSounder$Drift" "heldY" "J", Cond.static yX4_yTurned, Cond.code yX4_yTurned cX4_yTurned 5 (some .long), Cond.methodLink RX4 295 yX3_stepX, Cond.instanceMethod yX3_stepX, Cond.selects RX3 yX3_stepX yX3_stepX, Cond.code yX3_stepX cX3_stepX 2 (some .long), Cond.methodLink RX3 32 yX3_xOf]
def wsX4_flowOfPace_r3 : List Cond := [Cond.instanceMethod yX3_xOf, Cond.selects RX3 yX3_xOf yX3_xOf, Cond.code yX3_xOf cX3_xOf 2 (some .int), Cond.fieldLink RX3 15 "LayerSounder$Track" "xs" "[I"]
def wsX4_flowOfPace : List Cond := .code yX4_flowOfPace cX4_flowOfPace 2 (some .long) :: ((wsX4_flowOfPace_r1 ++ (wsX4_flowOfPace_r2 ++ wsX4_flowOfPace_r3)) ++ wsX40 ++ wsX10 ++ wsX30)
def wsX4_cellsUnder : List Cond := .code yX4_cellsUnder cX4_cellsUnder 3 (some .int) :: ([.fieldLink RX4 45 "LayerSounder" "layers" "I", .fieldLink RX4 18 "LayerSounder" "track" "LLayerSounder$Track;", .methodLink RX4 323 Lib.Math.min.name, .static Lib.Math.min.name, .initialized "java/lang/Math", .code Lib.Math.min.name Lib.Math.min.code 2 (some .int), .methodLink RX4 152 yX3_depthOf, .instanceMethod yX3_depthOf, .selects RX3 yX3_depthOf yX3_depthOf, .initialized RX3, .code yX3_depthOf cX3_depthOf 2 (some .int), .fieldLink RX3 21 "LayerSounder$Track" "depths" "[I", .methodLink RX3 28 yX3_isPing, .instanceMethod yX3_isPing, .selects RX3 yX3_isPing yX3_isPing, .code yX3_isPing cX3_isPing 2 (some .boolean), .fieldLink RX3 24 "LayerSounder$Track" "number" "I"] ++ wsX40 ++ wsX30)
def wsX4_flowOfPing_r1 : List Cond := [Cond.fieldLink RX4 45 "LayerSounder" "layers" "I", Cond.methodLink RX4 155 yX4_findOwn, Cond.instanceMethod yX4_findOwn, Cond.selects RX4 yX4_findOwn yX4_findOwn, Cond.initialized RX4, Cond.code yX4_findOwn cX4_findOwn 2 (some .boolean), Cond.fieldLink RX4 32 "LayerSounder" "ownDrift" "LLayerSounder$Drift;", Cond.fieldLink RX4 49 "LayerSounder" "howOwn" "I", Cond.fieldLink RX4 25 "LayerSounder" "beams" "LLayerSounder$Beams;", Cond.fieldLink RX4 18 "LayerSounder" "track" "LLayerSounder$Track;", Cond.constantLong RX4 293 (4225), Cond.methodLink RX4 286 yX1_rest, Cond.instanceMethod yX1_rest, Cond.selects RX1 yX1_rest yX1_rest, Cond.initialized RX1, Cond.code yX1_rest cX1_rest 1 none, Cond.fieldLink RX1 7 "LayerSounder$Drift" "swungX" "J", Cond.fieldLink RX1 13 "LayerSounder$Drift" "swungY" "J", Cond.fieldLink RX1 16 "LayerSounder$Drift" "heldX" "J", Cond.fieldLink RX1 19 "LayerSounder$Drift" "heldY" "J", Cond.methodLink RX4 212 yX4_readBeams, Cond.instanceMethod yX4_readBeams, Cond.selects RX4 yX4_readBeams yX4_readBeams, Cond.code yX4_readBeams cX4_readBeams 7 none]
def wsX4_flowOfPing_r2 : List Cond := [Cond.methodLink RX4 283 yX4_readingOf, Cond.instanceMethod yX4_readingOf, Cond.selects RX4 yX4_readingOf yX4_readingOf, Cond.code yX4_readingOf cX4_readingOf 3 (some .int), Cond.fieldLink RX4 11 "LayerSounder" "reels" "[LLayerSounder$Reel;", Cond.methodLink RX4 69 yX4_isReel, Cond.instanceMethod yX4_isReel, Cond.selects RX4 yX4_isReel yX4_isReel, Cond.code yX4_isReel cX4_isReel 2 (some .boolean), Cond.methodLink RX4 280 yX2_reading, Cond.instanceMethod yX2_reading, Cond.selects RX2 yX2_reading yX2_reading, Cond.initialized RX2, Cond.code yX2_reading cX2_reading 2 (some .int), Cond.fieldLink RX2 19 "LayerSounder$Reel" "size" "I", Cond.fieldLink RX2 9 "LayerSounder$Reel" "items" "[I", Cond.methodLink RX4 171 yX0_take, Cond.instanceMethod yX0_take, Cond.selects RX0 yX0_take yX0_take, Cond.initialized RX0, Cond.code yX0_take cX0_take 10 none, Cond.fieldLink RX0 9 "LayerSounder$Beams" "answered" "Z", Cond.fieldLink RX0 15 "LayerSounder$Beams" "three" "Z", Cond.fieldLink RX0 18 "LayerSounder$Beams" "along" "I"]
def wsX4_flowOfPing_r3 : List Cond := [Cond.fieldLink RX0 22 "LayerSounder$Beams" "across" "I", Cond.fieldLink RX0 25 "LayerSounder$Beams" "odd" "I", Cond.methodLink RX0 28 yX0_isNone, Cond.static yX0_isNone, Cond.code yX0_isNone cX0_isNone 1 (some .boolean), Cond.static yX4_asNumber, Cond.code yX4_asNumber cX4_asNumber 1 (some .int), Cond.methodLink RX4 143 yX3_headingOf, Cond.instanceMethod yX3_headingOf, Cond.selects RX3 yX3_headingOf yX3_headingOf, Cond.initialized RX3, Cond.code yX3_headingOf cX3_headingOf 2 (some .int), Cond.fieldLink RX3 9 "LayerSounder$Track" "headings" "[I", Cond.methodLink RX3 28 yX3_isPing, Cond.instanceMethod yX3_isPing, Cond.selects RX3 yX3_isPing yX3_isPing, Cond.code yX3_isPing cX3_isPing 2 (some .boolean), Cond.fieldLink RX3 24 "LayerSounder$Track" "number" "I", Cond.methodLink RX4 289 yX1_swing, Cond.instanceMethod yX1_swing, Cond.selects RX1 yX1_swing yX1_swing, Cond.code yX1_swing cX1_swing 4 none, Cond.static yX4_xTurned, Cond.code yX4_xTurned cX4_xTurned 5 (some .long)]
def wsX4_flowOfPing_r4 : List Cond := [Cond.methodLink RX4 274 yX4_cOf, Cond.static yX4_cOf, Cond.code yX4_cOf cX4_cOf 1 (some .long), Cond.fieldLink RX4 271 "LayerSounder" "C_OF_TURNS" "[I", Cond.methodLink RX4 277 yX4_sOf, Cond.static yX4_sOf, Cond.code yX4_sOf cX4_sOf 1 (some .long), Cond.static yX4_yTurned, Cond.code yX4_yTurned cX4_yTurned 5 (some .long), Cond.methodLink RX4 140 yX3_isPing, Cond.methodLink RX4 295 yX3_stepX, Cond.instanceMethod yX3_stepX, Cond.selects RX3 yX3_stepX yX3_stepX, Cond.code yX3_stepX cX3_stepX 2 (some .long), Cond.methodLink RX3 32 yX3_xOf, Cond.instanceMethod yX3_xOf, Cond.selects RX3 yX3_xOf yX3_xOf, Cond.code yX3_xOf cX3_xOf 2 (some .int), Cond.fieldLink RX3 15 "LayerSounder$Track" "xs" "[I", Cond.methodLink RX4 298 yX3_stepY, Cond.instanceMethod yX3_stepY, Cond.selects RX3 yX3_stepY yX3_stepY, Cond.code yX3_stepY cX3_stepY 2 (some .long), Cond.methodLink RX3 36 yX3_yOf]
def wsX4_flowOfPing_r5 : List Cond := [Cond.instanceMethod yX3_yOf, Cond.selects RX3 yX3_yOf yX3_yOf, Cond.code yX3_yOf cX3_yOf 2 (some .int), Cond.fieldLink RX3 18 "LayerSounder$Track" "ys" "[I", Cond.methodLink RX4 301 yX1_hold, Cond.instanceMethod yX1_hold, Cond.selects RX1 yX1_hold yX1_hold, Cond.code yX1_hold cX1_hold 5 none, Cond.methodLink RX4 205 yX4_judge, Cond.instanceMethod yX4_judge, Cond.selects RX4 yX4_judge yX4_judge, Cond.code yX4_judge cX4_judge 4 (some .int), Cond.fieldLink RX4 55 "LayerSounder" "edgeCells" "I", Cond.fieldLink RX4 58 "LayerSounder" "threesTaken" "Z", Cond.fieldLink RX4 62 "LayerSounder" "oddBound" "I", Cond.methodLink RX4 209 yX4_itemOfCell, Cond.instanceMethod yX4_itemOfCell, Cond.selects RX4 yX4_itemOfCell yX4_itemOfCell, Cond.code yX4_itemOfCell cX4_itemOfCell 3 (some .int), Cond.methodLink RX4 152 yX3_depthOf, Cond.instanceMethod yX3_depthOf, Cond.selects RX3 yX3_depthOf yX3_depthOf, Cond.code yX3_depthOf cX3_depthOf 2 (some .int), Cond.fieldLink RX3 21 "LayerSounder$Track" "depths" "[I"]
def wsX4_flowOfPing_r6 : List Cond := [Cond.methodLink RX4 120 yX4_isWithin, Cond.static yX4_isWithin, Cond.code yX4_isWithin cX4_isWithin 3 (some .boolean), Cond.methodLink RX4 190 yX4_isPart, Cond.static yX4_isPart, Cond.code yX4_isPart cX4_isPart 1 (some .boolean), Cond.methodLink RX4 215 yX4_findPace, Cond.instanceMethod yX4_findPace, Cond.selects RX4 yX4_findPace yX4_findPace, Cond.code yX4_findPace cX4_findPace 2 none, Cond.fieldLink RX4 36 "LayerSounder" "paceDrift" "LLayerSounder$Drift;", Cond.methodLink RX4 247 yX1_subtract, Cond.instanceMethod yX1_subtract, Cond.selects RX1 yX1_subtract yX1_subtract, Cond.code yX1_subtract cX1_subtract 2 none, Cond.methodLink RX4 317 yX4_flowOfPace, Cond.instanceMethod yX4_flowOfPace, Cond.selects RX4 yX4_flowOfPace yX4_flowOfPace, Cond.code yX4_flowOfPace cX4_flowOfPace 2 (some .long), Cond.fieldLink RX4 52 "LayerSounder" "skewTurn" "I", Cond.methodLink RX4 308 yX1_east, Cond.instanceMethod yX1_east, Cond.selects RX1 yX1_east yX1_east, Cond.code yX1_east cX1_east 2 (some .long)]
def wsX4_flowOfPing_r7 : List Cond := [Cond.methodLink RX4 311 yX1_north, Cond.instanceMethod yX1_north, Cond.selects RX1 yX1_north yX1_north, Cond.code yX1_north cX1_north 2 (some .long), Cond.methodLink RX4 320 yX4_cellsUnder, Cond.instanceMethod yX4_cellsUnder, Cond.selects RX4 yX4_cellsUnder yX4_cellsUnder, Cond.code yX4_cellsUnder cX4_cellsUnder 3 (some .int), Cond.methodLink RX4 323 Lib.Math.min.name, Cond.static Lib.Math.min.name, Cond.initialized "java/lang/Math", Cond.code Lib.Math.min.name Lib.Math.min.code 2 (some .int)]
def wsX4_flowOfPing : List Cond := .code yX4_flowOfPing cX4_flowOfPing 10 (some .long) :: ((wsX4_flowOfPing_r1 ++ (wsX4_flowOfPing_r2 ++ (wsX4_flowOfPing_r3 ++ (wsX4_flowOfPing_r4 ++ (wsX4_flowOfPing_r5 ++ (wsX4_flowOfPing_r6 ++ wsX4_flowOfPing_r7)))))) ++ wsX40 ++ wsX00 ++ wsX10 ++ wsX20 ++ wsX30)
def wsX4_flow_r1 : List Cond := [Cond.fieldLink RX4 18 "LayerSounder" "track" "LLayerSounder$Track;", Cond.methodLink RX4 236 yX3_isSpan, Cond.instanceMethod yX3_isSpan, Cond.selects RX3 yX3_isSpan yX3_isSpan, Cond.initialized RX3, Cond.code yX3_isSpan cX3_isSpan 3 (some .boolean), Cond.methodLink RX3 28 yX3_isPing, Cond.instanceMethod yX3_isPing, Cond.selects RX3 yX3_isPing yX3_isPing, Cond.code yX3_isPing cX3_isPing 2 (some .boolean), Cond.fieldLink RX3 24 "LayerSounder$Track" "number" "I", Cond.methodLink RX4 120 yX4_isWithin, Cond.static yX4_isWithin, Cond.initialized RX4, Cond.code yX4_isWithin cX4_isWithin 3 (some .boolean), Cond.methodLink RX4 162 yX4_asLong, Cond.static yX4_asLong, Cond.code yX4_asLong cX4_asLong 1 (some .long), Cond.constantLong RX4 269 (-9223372036854775808), Cond.methodLink RX4 239 yX4_flowOfPing, Cond.instanceMethod yX4_flowOfPing, Cond.selects RX4 yX4_flowOfPing yX4_flowOfPing, Cond.code yX4_flowOfPing cX4_flowOfPing 10 (some .long), Cond.fieldLink RX4 45 "LayerSounder" "layers" "I"]
def wsX4_flow_r2 : List Cond := [Cond.methodLink RX4 155 yX4_findOwn, Cond.instanceMethod yX4_findOwn, Cond.selects RX4 yX4_findOwn yX4_findOwn, Cond.code yX4_findOwn cX4_findOwn 2 (some .boolean), Cond.fieldLink RX4 32 "LayerSounder" "ownDrift" "LLayerSounder$Drift;", Cond.fieldLink RX4 49 "LayerSounder" "howOwn" "I", Cond.fieldLink RX4 25 "LayerSounder" "beams" "LLayerSounder$Beams;", Cond.constantLong RX4 293 (4225), Cond.methodLink RX4 286 yX1_rest, Cond.instanceMethod yX1_rest, Cond.selects RX1 yX1_rest yX1_rest, Cond.initialized RX1, Cond.code yX1_rest cX1_rest 1 none, Cond.fieldLink RX1 7 "LayerSounder$Drift" "swungX" "J", Cond.fieldLink RX1 13 "LayerSounder$Drift" "swungY" "J", Cond.fieldLink RX1 16 "LayerSounder$Drift" "heldX" "J", Cond.fieldLink RX1 19 "LayerSounder$Drift" "heldY" "J", Cond.methodLink RX4 212 yX4_readBeams, Cond.instanceMethod yX4_readBeams, Cond.selects RX4 yX4_readBeams yX4_readBeams, Cond.code yX4_readBeams cX4_readBeams 7 none, Cond.methodLink RX4 283 yX4_readingOf, Cond.instanceMethod yX4_readingOf, Cond.selects RX4 yX4_readingOf yX4_readingOf]
def wsX4_flow_r3 : List Cond := [Cond.code yX4_readingOf cX4_readingOf 3 (some .int), Cond.fieldLink RX4 11 "LayerSounder" "reels" "[LLayerSounder$Reel;", Cond.methodLink RX4 69 yX4_isReel, Cond.instanceMethod yX4_isReel, Cond.selects RX4 yX4_isReel yX4_isReel, Cond.code yX4_isReel cX4_isReel 2 (some .boolean), Cond.methodLink RX4 280 yX2_reading, Cond.instanceMethod yX2_reading, Cond.selects RX2 yX2_reading yX2_reading, Cond.initialized RX2, Cond.code yX2_reading cX2_reading 2 (some .int), Cond.fieldLink RX2 19 "LayerSounder$Reel" "size" "I", Cond.fieldLink RX2 9 "LayerSounder$Reel" "items" "[I", Cond.methodLink RX4 171 yX0_take, Cond.instanceMethod yX0_take, Cond.selects RX0 yX0_take yX0_take, Cond.initialized RX0, Cond.code yX0_take cX0_take 10 none, Cond.fieldLink RX0 9 "LayerSounder$Beams" "answered" "Z", Cond.fieldLink RX0 15 "LayerSounder$Beams" "three" "Z", Cond.fieldLink RX0 18 "LayerSounder$Beams" "along" "I", Cond.fieldLink RX0 22 "LayerSounder$Beams" "across" "I", Cond.fieldLink RX0 25 "LayerSounder$Beams" "odd" "I", Cond.methodLink RX0 28 yX0_isNone]
def wsX4_flow_r4 : List Cond := [Cond.static yX0_isNone, Cond.code yX0_isNone cX0_isNone 1 (some .boolean), Cond.static yX4_asNumber, Cond.code yX4_asNumber cX4_asNumber 1 (some .int), Cond.methodLink RX4 143 yX3_headingOf, Cond.instanceMethod yX3_headingOf, Cond.selects RX3 yX3_headingOf yX3_headingOf, Cond.code yX3_headingOf cX3_headingOf 2 (some .int), Cond.fieldLink RX3 9 "LayerSounder$Track" "headings" "[I", Cond.methodLink RX4 289 yX1_swing, Cond.instanceMethod yX1_swing, Cond.selects RX1 yX1_swing yX1_swing, Cond.code yX1_swing cX1_swing 4 none, Cond.static yX4_xTurned, Cond.code yX4_xTurned cX4_xTurned 5 (some .long), Cond.methodLink RX4 274 yX4_cOf, Cond.static yX4_cOf, Cond.code yX4_cOf cX4_cOf 1 (some .long), Cond.fieldLink RX4 271 "LayerSounder" "C_OF_TURNS" "[I", Cond.methodLink RX4 277 yX4_sOf, Cond.static yX4_sOf, Cond.code yX4_sOf cX4_sOf 1 (some .long), Cond.static yX4_yTurned, Cond.code yX4_yTurned cX4_yTurned 5 (some .long)]
def wsX4_flow_r5 : List Cond := [Cond.methodLink RX4 140 yX3_isPing, Cond.methodLink RX4 295 yX3_stepX, Cond.instanceMethod yX3_stepX, Cond.selects RX3 yX3_stepX yX3_stepX, Cond.code yX3_stepX cX3_stepX 2 (some .long), Cond.methodLink RX3 32 yX3_xOf, Cond.instanceMethod yX3_xOf, Cond.selects RX3 yX3_xOf yX3_xOf, Cond.code yX3_xOf cX3_xOf 2 (some .int), Cond.fieldLink RX3 15 "LayerSounder$Track" "xs" "[I", Cond.methodLink RX4 298 yX3_stepY, Cond.instanceMethod yX3_stepY, Cond.selects RX3 yX3_stepY yX3_stepY, Cond.code yX3_stepY cX3_stepY 2 (some .long), Cond.methodLink RX3 36 yX3_yOf, Cond.instanceMethod yX3_yOf, Cond.selects RX3 yX3_yOf yX3_yOf, Cond.code yX3_yOf cX3_yOf 2 (some .int), Cond.fieldLink RX3 18 "LayerSounder$Track" "ys" "[I", Cond.methodLink RX4 301 yX1_hold, Cond.instanceMethod yX1_hold, Cond.selects RX1 yX1_hold yX1_hold, Cond.code yX1_hold cX1_hold 5 none, Cond.methodLink RX4 205 yX4_judge]
def wsX4_flow_r6 : List Cond := [Cond.instanceMethod yX4_judge, Cond.selects RX4 yX4_judge yX4_judge, Cond.code yX4_judge cX4_judge 4 (some .int), Cond.fieldLink RX4 55 "LayerSounder" "edgeCells" "I", Cond.fieldLink RX4 58 "LayerSounder" "threesTaken" "Z", Cond.fieldLink RX4 62 "LayerSounder" "oddBound" "I", Cond.methodLink RX4 209 yX4_itemOfCell, Cond.instanceMethod yX4_itemOfCell, Cond.selects RX4 yX4_itemOfCell yX4_itemOfCell, Cond.code yX4_itemOfCell cX4_itemOfCell 3 (some .int), Cond.methodLink RX4 152 yX3_depthOf, Cond.instanceMethod yX3_depthOf, Cond.selects RX3 yX3_depthOf yX3_depthOf, Cond.code yX3_depthOf cX3_depthOf 2 (some .int), Cond.fieldLink RX3 21 "LayerSounder$Track" "depths" "[I", Cond.methodLink RX4 190 yX4_isPart, Cond.static yX4_isPart, Cond.code yX4_isPart cX4_isPart 1 (some .boolean), Cond.methodLink RX4 215 yX4_findPace, Cond.instanceMethod yX4_findPace, Cond.selects RX4 yX4_findPace yX4_findPace, Cond.code yX4_findPace cX4_findPace 2 none, Cond.fieldLink RX4 36 "LayerSounder" "paceDrift" "LLayerSounder$Drift;", Cond.methodLink RX4 247 yX1_subtract]
def wsX4_flow_r7 : List Cond := [Cond.instanceMethod yX1_subtract, Cond.selects RX1 yX1_subtract yX1_subtract, Cond.code yX1_subtract cX1_subtract 2 none, Cond.methodLink RX4 317 yX4_flowOfPace, Cond.instanceMethod yX4_flowOfPace, Cond.selects RX4 yX4_flowOfPace yX4_flowOfPace, Cond.code yX4_flowOfPace cX4_flowOfPace 2 (some .long), Cond.fieldLink RX4 52 "LayerSounder" "skewTurn" "I", Cond.methodLink RX4 308 yX1_east, Cond.instanceMethod yX1_east, Cond.selects RX1 yX1_east yX1_east, Cond.code yX1_east cX1_east 2 (some .long), Cond.methodLink RX4 311 yX1_north, Cond.instanceMethod yX1_north, Cond.selects RX1 yX1_north yX1_north, Cond.code yX1_north cX1_north 2 (some .long), Cond.methodLink RX4 320 yX4_cellsUnder, Cond.instanceMethod yX4_cellsUnder, Cond.selects RX4 yX4_cellsUnder yX4_cellsUnder, Cond.code yX4_cellsUnder cX4_cellsUnder 3 (some .int), Cond.methodLink RX4 323 Lib.Math.min.name, Cond.static Lib.Math.min.name, Cond.initialized "java/lang/Math", Cond.code Lib.Math.min.name Lib.Math.min.code 2 (some .int)]
def wsX4_flow : List Cond := .code yX4_flow cX4_flow 7 (some .long) :: ((wsX4_flow_r1 ++ (wsX4_flow_r2 ++ (wsX4_flow_r3 ++ (wsX4_flow_r4 ++ (wsX4_flow_r5 ++ (wsX4_flow_r6 ++ wsX4_flow_r7)))))) ++ wsX40 ++ wsX30 ++ wsX00 ++ wsX10 ++ wsX20)
def wsX4_belowZero : List Cond := .code yX4_belowZero cX4_belowZero 2 (some .long) :: ([])
def wsX4_missBelowZero_r1 : List Cond := [Cond.methodLink RX4 334 Lib.MathLoose.min_long.x, Cond.static Lib.MathLoose.min_long.x, Cond.initialized "java/lang/Math", Cond.code Lib.MathLoose.min_long.x Lib.MathLoose.min_long.code 4 (some .long), Cond.methodLink RX4 308 yX1_east, Cond.instanceMethod yX1_east, Cond.selects RX1 yX1_east yX1_east, Cond.initialized RX1, Cond.code yX1_east cX1_east 2 (some .long), Cond.fieldLink RX1 7 "LayerSounder$Drift" "swungX" "J", Cond.fieldLink RX1 13 "LayerSounder$Drift" "swungY" "J", Cond.fieldLink RX1 16 "LayerSounder$Drift" "heldX" "J", Cond.static yX4_xTurned, Cond.initialized RX4, Cond.code yX4_xTurned cX4_xTurned 5 (some .long), Cond.methodLink RX4 274 yX4_cOf, Cond.static yX4_cOf, Cond.code yX4_cOf cX4_cOf 1 (some .long), Cond.fieldLink RX4 271 "LayerSounder" "C_OF_TURNS" "[I", Cond.methodLink RX4 277 yX4_sOf, Cond.static yX4_sOf, Cond.code yX4_sOf cX4_sOf 1 (some .long), Cond.methodLink RX4 330 yX4_belowZero, Cond.static yX4_belowZero]
def wsX4_missBelowZero_r2 : List Cond := [Cond.code yX4_belowZero cX4_belowZero 2 (some .long), Cond.methodLink RX4 311 yX1_north, Cond.instanceMethod yX1_north, Cond.selects RX1 yX1_north yX1_north, Cond.code yX1_north cX1_north 2 (some .long), Cond.fieldLink RX1 19 "LayerSounder$Drift" "heldY" "J", Cond.static yX4_yTurned, Cond.code yX4_yTurned cX4_yTurned 5 (some .long)]
def wsX4_missBelowZero : List Cond := .code yX4_missBelowZero cX4_missBelowZero 2 (some .long) :: ((wsX4_missBelowZero_r1 ++ wsX4_missBelowZero_r2) ++ wsX10)
def wsX4_turnOfLeastMiss_r1 : List Cond := [Cond.methodLink RX4 326 yX4_missBelowZero, Cond.static yX4_missBelowZero, Cond.initialized RX4, Cond.code yX4_missBelowZero cX4_missBelowZero 2 (some .long), Cond.methodLink RX4 334 Lib.MathLoose.min_long.x, Cond.static Lib.MathLoose.min_long.x, Cond.initialized "java/lang/Math", Cond.code Lib.MathLoose.min_long.x Lib.MathLoose.min_long.code 4 (some .long), Cond.methodLink RX4 308 yX1_east, Cond.instanceMethod yX1_east, Cond.selects RX1 yX1_east yX1_east, Cond.initialized RX1, Cond.code yX1_east cX1_east 2 (some .long), Cond.fieldLink RX1 7 "LayerSounder$Drift" "swungX" "J", Cond.fieldLink RX1 13 "LayerSounder$Drift" "swungY" "J", Cond.fieldLink RX1 16 "LayerSounder$Drift" "heldX" "J", Cond.static yX4_xTurned, Cond.code yX4_xTurned cX4_xTurned 5 (some .long), Cond.methodLink RX4 274 yX4_cOf, Cond.static yX4_cOf, Cond.code yX4_cOf cX4_cOf 1 (some .long), Cond.fieldLink RX4 271 "LayerSounder" "C_OF_TURNS" "[I", Cond.methodLink RX4 277 yX4_sOf, Cond.static yX4_sOf]
def wsX4_turnOfLeastMiss_r2 : List Cond := [Cond.code yX4_sOf cX4_sOf 1 (some .long), Cond.methodLink RX4 330 yX4_belowZero, Cond.static yX4_belowZero, Cond.code yX4_belowZero cX4_belowZero 2 (some .long), Cond.methodLink RX4 311 yX1_north, Cond.instanceMethod yX1_north, Cond.selects RX1 yX1_north yX1_north, Cond.code yX1_north cX1_north 2 (some .long), Cond.fieldLink RX1 19 "LayerSounder$Drift" "heldY" "J", Cond.static yX4_yTurned, Cond.code yX4_yTurned cX4_yTurned 5 (some .long)]
def wsX4_turnOfLeastMiss : List Cond := .code yX4_turnOfLeastMiss cX4_turnOfLeastMiss 7 (some .int) :: ((wsX4_turnOfLeastMiss_r1 ++ wsX4_turnOfLeastMiss_r2) ++ wsX10)
def wsX4_askew_r1 : List Cond := [Cond.fieldLink RX4 18 "LayerSounder" "track" "LLayerSounder$Track;", Cond.fieldLink RX4 39 "LayerSounder" "firstSum" "LLayerSounder$Drift;", Cond.fieldLink RX4 45 "LayerSounder" "layers" "I", Cond.fieldLink RX4 42 "LayerSounder" "secondSum" "LLayerSounder$Drift;", Cond.methodLink RX4 236 yX3_isSpan, Cond.instanceMethod yX3_isSpan, Cond.selects RX3 yX3_isSpan yX3_isSpan, Cond.initialized RX3, Cond.code yX3_isSpan cX3_isSpan 3 (some .boolean), Cond.methodLink RX3 28 yX3_isPing, Cond.instanceMethod yX3_isPing, Cond.selects RX3 yX3_isPing yX3_isPing, Cond.code yX3_isPing cX3_isPing 2 (some .boolean), Cond.fieldLink RX3 24 "LayerSounder$Track" "number" "I", Cond.methodLink RX4 226 yX4_sumGood, Cond.instanceMethod yX4_sumGood, Cond.selects RX4 yX4_sumGood yX4_sumGood, Cond.initialized RX4, Cond.code yX4_sumGood cX4_sumGood 10 (some .int), Cond.fieldLink RX4 36 "LayerSounder" "paceDrift" "LLayerSounder$Drift;", Cond.methodLink RX4 286 yX1_rest, Cond.instanceMethod yX1_rest, Cond.selects RX1 yX1_rest yX1_rest, Cond.initialized RX1]
def wsX4_askew_r2 : List Cond := [Cond.code yX1_rest cX1_rest 1 none, Cond.fieldLink RX1 7 "LayerSounder$Drift" "swungX" "J", Cond.fieldLink RX1 13 "LayerSounder$Drift" "swungY" "J", Cond.fieldLink RX1 16 "LayerSounder$Drift" "heldX" "J", Cond.fieldLink RX1 19 "LayerSounder$Drift" "heldY" "J", Cond.methodLink RX4 155 yX4_findOwn, Cond.instanceMethod yX4_findOwn, Cond.selects RX4 yX4_findOwn yX4_findOwn, Cond.code yX4_findOwn cX4_findOwn 2 (some .boolean), Cond.fieldLink RX4 32 "LayerSounder" "ownDrift" "LLayerSounder$Drift;", Cond.fieldLink RX4 49 "LayerSounder" "howOwn" "I", Cond.fieldLink RX4 25 "LayerSounder" "beams" "LLayerSounder$Beams;", Cond.constantLong RX4 293 (4225), Cond.methodLink RX4 212 yX4_readBeams, Cond.instanceMethod yX4_readBeams, Cond.selects RX4 yX4_readBeams yX4_readBeams, Cond.code yX4_readBeams cX4_readBeams 7 none, Cond.methodLink RX4 283 yX4_readingOf, Cond.instanceMethod yX4_readingOf, Cond.selects RX4 yX4_readingOf yX4_readingOf, Cond.code yX4_readingOf cX4_readingOf 3 (some .int), Cond.fieldLink RX4 11 "LayerSounder" "reels" "[LLayerSounder$Reel;", Cond.methodLink RX4 69 yX4_isReel, Cond.instanceMethod yX4_isReel]
def wsX4_askew_r3 : List Cond := [Cond.selects RX4 yX4_isReel yX4_isReel, Cond.code yX4_isReel cX4_isReel 2 (some .boolean), Cond.methodLink RX4 280 yX2_reading, Cond.instanceMethod yX2_reading, Cond.selects RX2 yX2_reading yX2_reading, Cond.initialized RX2, Cond.code yX2_reading cX2_reading 2 (some .int), Cond.fieldLink RX2 19 "LayerSounder$Reel" "size" "I", Cond.fieldLink RX2 9 "LayerSounder$Reel" "items" "[I", Cond.methodLink RX4 171 yX0_take, Cond.instanceMethod yX0_take, Cond.selects RX0 yX0_take yX0_take, Cond.initialized RX0, Cond.code yX0_take cX0_take 10 none, Cond.fieldLink RX0 9 "LayerSounder$Beams" "answered" "Z", Cond.fieldLink RX0 15 "LayerSounder$Beams" "three" "Z", Cond.fieldLink RX0 18 "LayerSounder$Beams" "along" "I", Cond.fieldLink RX0 22 "LayerSounder$Beams" "across" "I", Cond.fieldLink RX0 25 "LayerSounder$Beams" "odd" "I", Cond.methodLink RX0 28 yX0_isNone, Cond.static yX0_isNone, Cond.code yX0_isNone cX0_isNone 1 (some .boolean), Cond.static yX4_asNumber, Cond.code yX4_asNumber cX4_asNumber 1 (some .int)]
def wsX4_askew_r4 : List Cond := [Cond.methodLink RX4 143 yX3_headingOf, Cond.instanceMethod yX3_headingOf, Cond.selects RX3 yX3_headingOf yX3_headingOf, Cond.code yX3_headingOf cX3_headingOf 2 (some .int), Cond.fieldLink RX3 9 "LayerSounder$Track" "headings" "[I", Cond.methodLink RX4 289 yX1_swing, Cond.instanceMethod yX1_swing, Cond.selects RX1 yX1_swing yX1_swing, Cond.code yX1_swing cX1_swing 4 none, Cond.static yX4_xTurned, Cond.code yX4_xTurned cX4_xTurned 5 (some .long), Cond.methodLink RX4 274 yX4_cOf, Cond.static yX4_cOf, Cond.code yX4_cOf cX4_cOf 1 (some .long), Cond.fieldLink RX4 271 "LayerSounder" "C_OF_TURNS" "[I", Cond.methodLink RX4 277 yX4_sOf, Cond.static yX4_sOf, Cond.code yX4_sOf cX4_sOf 1 (some .long), Cond.static yX4_yTurned, Cond.code yX4_yTurned cX4_yTurned 5 (some .long), Cond.methodLink RX4 140 yX3_isPing, Cond.methodLink RX4 295 yX3_stepX, Cond.instanceMethod yX3_stepX, Cond.selects RX3 yX3_stepX yX3_stepX]
def wsX4_askew_r5 : List Cond := [Cond.code yX3_stepX cX3_stepX 2 (some .long), Cond.methodLink RX3 32 yX3_xOf, Cond.instanceMethod yX3_xOf, Cond.selects RX3 yX3_xOf yX3_xOf, Cond.code yX3_xOf cX3_xOf 2 (some .int), Cond.fieldLink RX3 15 "LayerSounder$Track" "xs" "[I", Cond.methodLink RX4 298 yX3_stepY, Cond.instanceMethod yX3_stepY, Cond.selects RX3 yX3_stepY yX3_stepY, Cond.code yX3_stepY cX3_stepY 2 (some .long), Cond.methodLink RX3 36 yX3_yOf, Cond.instanceMethod yX3_yOf, Cond.selects RX3 yX3_yOf yX3_yOf, Cond.code yX3_yOf cX3_yOf 2 (some .int), Cond.fieldLink RX3 18 "LayerSounder$Track" "ys" "[I", Cond.methodLink RX4 301 yX1_hold, Cond.instanceMethod yX1_hold, Cond.selects RX1 yX1_hold yX1_hold, Cond.code yX1_hold cX1_hold 5 none, Cond.methodLink RX4 205 yX4_judge, Cond.instanceMethod yX4_judge, Cond.selects RX4 yX4_judge yX4_judge, Cond.code yX4_judge cX4_judge 4 (some .int), Cond.fieldLink RX4 55 "LayerSounder" "edgeCells" "I"]
def wsX4_askew_r6 : List Cond := [Cond.fieldLink RX4 58 "LayerSounder" "threesTaken" "Z", Cond.fieldLink RX4 62 "LayerSounder" "oddBound" "I", Cond.methodLink RX4 209 yX4_itemOfCell, Cond.instanceMethod yX4_itemOfCell, Cond.selects RX4 yX4_itemOfCell yX4_itemOfCell, Cond.code yX4_itemOfCell cX4_itemOfCell 3 (some .int), Cond.methodLink RX4 152 yX3_depthOf, Cond.instanceMethod yX3_depthOf, Cond.selects RX3 yX3_depthOf yX3_depthOf, Cond.code yX3_depthOf cX3_depthOf 2 (some .int), Cond.fieldLink RX3 21 "LayerSounder$Track" "depths" "[I", Cond.methodLink RX4 120 yX4_isWithin, Cond.static yX4_isWithin, Cond.code yX4_isWithin cX4_isWithin 3 (some .boolean), Cond.methodLink RX4 190 yX4_isPart, Cond.static yX4_isPart, Cond.code yX4_isPart cX4_isPart 1 (some .boolean), Cond.methodLink RX4 215 yX4_findPace, Cond.instanceMethod yX4_findPace, Cond.selects RX4 yX4_findPace yX4_findPace, Cond.code yX4_findPace cX4_findPace 2 none, Cond.methodLink RX4 247 yX1_subtract, Cond.instanceMethod yX1_subtract, Cond.selects RX1 yX1_subtract yX1_subtract]
def wsX4_askew_r7 : List Cond := [Cond.code yX1_subtract cX1_subtract 2 none, Cond.methodLink RX4 314 yX1_add, Cond.instanceMethod yX1_add, Cond.selects RX1 yX1_add yX1_add, Cond.code yX1_add cX1_add 2 none, Cond.methodLink RX4 243 yX1_multiply, Cond.instanceMethod yX1_multiply, Cond.selects RX1 yX1_multiply yX1_multiply, Cond.code yX1_multiply cX1_multiply 3 none, Cond.methodLink RX4 251 yX4_turnOfLeastMiss, Cond.static yX4_turnOfLeastMiss, Cond.code yX4_turnOfLeastMiss cX4_turnOfLeastMiss 7 (some .int), Cond.methodLink RX4 326 yX4_missBelowZero, Cond.static yX4_missBelowZero, Cond.code yX4_missBelowZero cX4_missBelowZero 2 (some .long), Cond.methodLink RX4 334 Lib.MathLoose.min_long.x, Cond.static Lib.MathLoose.min_long.x, Cond.initialized "java/lang/Math", Cond.code Lib.MathLoose.min_long.x Lib.MathLoose.min_long.code 4 (some .long), Cond.methodLink RX4 308 yX1_east, Cond.instanceMethod yX1_east, Cond.selects RX1 yX1_east yX1_east, Cond.code yX1_east cX1_east 2 (some .long), Cond.methodLink RX4 330 yX4_belowZero]
def wsX4_askew_r8 : List Cond := [Cond.static yX4_belowZero, Cond.code yX4_belowZero cX4_belowZero 2 (some .long), Cond.methodLink RX4 311 yX1_north, Cond.instanceMethod yX1_north, Cond.selects RX1 yX1_north yX1_north, Cond.code yX1_north cX1_north 2 (some .long)]
def wsX4_askew : List Cond := .code yX4_askew cX4_askew 7 (some .int) :: ((wsX4_askew_r1 ++ (wsX4_askew_r2 ++ (wsX4_askew_r3 ++ (wsX4_askew_r4 ++ (wsX4_askew_r5 ++ (wsX4_askew_r6 ++ (wsX4_askew_r7 ++ wsX4_askew_r8))))))) ++ wsX40 ++ wsX30 ++ wsX10 ++ wsX00 ++ wsX20)
def wsX4_closes_r1 : List Cond := [Cond.fieldLink RX4 18 "LayerSounder" "track" "LLayerSounder$Track;", Cond.constant RX4 194 (1000000), Cond.methodLink RX4 140 yX3_isPing, Cond.instanceMethod yX3_isPing, Cond.selects RX3 yX3_isPing yX3_isPing, Cond.initialized RX3, Cond.code yX3_isPing cX3_isPing 2 (some .boolean), Cond.fieldLink RX3 24 "LayerSounder$Track" "number" "I", Cond.methodLink RX4 120 yX4_isWithin, Cond.static yX4_isWithin, Cond.initialized RX4, Cond.code yX4_isWithin cX4_isWithin 3 (some .boolean), Cond.methodLink RX4 255 yX3_areNear, Cond.instanceMethod yX3_areNear, Cond.selects RX3 yX3_areNear yX3_areNear, Cond.code yX3_areNear cX3_areNear 4 (some .boolean), Cond.methodLink RX3 39 Lib.Math.abs.name, Cond.static Lib.Math.abs.name, Cond.initialized "java/lang/Math", Cond.code Lib.Math.abs.name Lib.Math.abs.code 1 (some .int), Cond.methodLink RX3 32 yX3_xOf, Cond.instanceMethod yX3_xOf, Cond.selects RX3 yX3_xOf yX3_xOf, Cond.code yX3_xOf cX3_xOf 2 (some .int)]
def wsX4_closes_r2 : List Cond := [Cond.fieldLink RX3 15 "LayerSounder$Track" "xs" "[I", Cond.methodLink RX3 28 yX3_isPing, Cond.methodLink RX3 36 yX3_yOf, Cond.instanceMethod yX3_yOf, Cond.selects RX3 yX3_yOf yX3_yOf, Cond.code yX3_yOf cX3_yOf 2 (some .int), Cond.fieldLink RX3 18 "LayerSounder$Track" "ys" "[I"]
def wsX4_closes : List Cond := .code yX4_closes cX4_closes 4 (some .int) :: ((wsX4_closes_r1 ++ wsX4_closes_r2) ++ wsX40 ++ wsX30)
def wsX4_count : List Cond := .code yX4_count cX4_count 2 (some .int) :: ([.fieldLink RX4 18 "LayerSounder" "track" "LLayerSounder$Track;", .fieldLink RX4 45 "LayerSounder" "layers" "I", .fieldLink RX4 49 "LayerSounder" "howOwn" "I", .fieldLink RX4 52 "LayerSounder" "skewTurn" "I", .fieldLink RX4 55 "LayerSounder" "edgeCells" "I", .fieldLink RX4 65 "LayerSounder" "latestFinding" "I", .fieldLink RX4 62 "LayerSounder" "oddBound" "I", .fieldLink RX4 58 "LayerSounder" "threesTaken" "Z", .methodLink RX4 158 yX4_asNumber, .static yX4_asNumber, .initialized RX4, .code yX4_asNumber cX4_asNumber 1 (some .int)] ++ wsX40 ++ wsX30)
def wsX4_digestOfPing_r1 : List Cond := [Cond.constantLong RX4 260 (31), Cond.fieldLink RX4 45 "LayerSounder" "layers" "I", Cond.fieldLink RX4 36 "LayerSounder" "paceDrift" "LLayerSounder$Drift;", Cond.fieldLink RX4 52 "LayerSounder" "skewTurn" "I", Cond.methodLink RX4 305 yX4_about, Cond.instanceMethod yX4_about, Cond.selects RX4 yX4_about yX4_about, Cond.initialized RX4, Cond.code yX4_about cX4_about 3 (some .int), Cond.fieldLink RX4 18 "LayerSounder" "track" "LLayerSounder$Track;", Cond.constant RX4 99 (-2147483648), Cond.methodLink RX4 140 yX3_isPing, Cond.instanceMethod yX3_isPing, Cond.selects RX3 yX3_isPing yX3_isPing, Cond.initialized RX3, Cond.code yX3_isPing cX3_isPing 2 (some .boolean), Cond.fieldLink RX3 24 "LayerSounder$Track" "number" "I", Cond.methodLink RX4 143 yX3_headingOf, Cond.instanceMethod yX3_headingOf, Cond.selects RX3 yX3_headingOf yX3_headingOf, Cond.code yX3_headingOf cX3_headingOf 2 (some .int), Cond.fieldLink RX3 9 "LayerSounder$Track" "headings" "[I", Cond.methodLink RX3 28 yX3_isPing, Cond.methodLink RX4 146 yX3_xOf]
def wsX4_digestOfPing_r2 : List Cond := [Cond.instanceMethod yX3_xOf, Cond.selects RX3 yX3_xOf yX3_xOf, Cond.code yX3_xOf cX3_xOf 2 (some .int), Cond.fieldLink RX3 15 "LayerSounder$Track" "xs" "[I", Cond.methodLink RX4 149 yX3_yOf, Cond.instanceMethod yX3_yOf, Cond.selects RX3 yX3_yOf yX3_yOf, Cond.code yX3_yOf cX3_yOf 2 (some .int), Cond.fieldLink RX3 18 "LayerSounder$Track" "ys" "[I", Cond.methodLink RX4 152 yX3_depthOf, Cond.instanceMethod yX3_depthOf, Cond.selects RX3 yX3_depthOf yX3_depthOf, Cond.code yX3_depthOf cX3_depthOf 2 (some .int), Cond.fieldLink RX3 21 "LayerSounder$Track" "depths" "[I", Cond.methodLink RX4 155 yX4_findOwn, Cond.instanceMethod yX4_findOwn, Cond.selects RX4 yX4_findOwn yX4_findOwn, Cond.code yX4_findOwn cX4_findOwn 2 (some .boolean), Cond.fieldLink RX4 32 "LayerSounder" "ownDrift" "LLayerSounder$Drift;", Cond.fieldLink RX4 49 "LayerSounder" "howOwn" "I", Cond.fieldLink RX4 25 "LayerSounder" "beams" "LLayerSounder$Beams;", Cond.constantLong RX4 293 (4225), Cond.methodLink RX4 286 yX1_rest, Cond.instanceMethod yX1_rest]
def wsX4_digestOfPing_r3 : List Cond := [Cond.selects RX1 yX1_rest yX1_rest, Cond.initialized RX1, Cond.code yX1_rest cX1_rest 1 none, Cond.fieldLink RX1 7 "LayerSounder$Drift" "swungX" "J", Cond.fieldLink RX1 13 "LayerSounder$Drift" "swungY" "J", Cond.fieldLink RX1 16 "LayerSounder$Drift" "heldX" "J", Cond.fieldLink RX1 19 "LayerSounder$Drift" "heldY" "J", Cond.methodLink RX4 212 yX4_readBeams, Cond.instanceMethod yX4_readBeams, Cond.selects RX4 yX4_readBeams yX4_readBeams, Cond.code yX4_readBeams cX4_readBeams 7 none, Cond.methodLink RX4 283 yX4_readingOf, Cond.instanceMethod yX4_readingOf, Cond.selects RX4 yX4_readingOf yX4_readingOf, Cond.code yX4_readingOf cX4_readingOf 3 (some .int), Cond.fieldLink RX4 11 "LayerSounder" "reels" "[LLayerSounder$Reel;", Cond.methodLink RX4 69 yX4_isReel, Cond.instanceMethod yX4_isReel, Cond.selects RX4 yX4_isReel yX4_isReel, Cond.code yX4_isReel cX4_isReel 2 (some .boolean), Cond.methodLink RX4 280 yX2_reading, Cond.instanceMethod yX2_reading, Cond.selects RX2 yX2_reading yX2_reading, Cond.initialized RX2]
def wsX4_digestOfPing_r4 : List Cond := [Cond.code yX2_reading cX2_reading 2 (some .int), Cond.fieldLink RX2 19 "LayerSounder$Reel" "size" "I", Cond.fieldLink RX2 9 "LayerSounder$Reel" "items" "[I", Cond.methodLink RX4 171 yX0_take, Cond.instanceMethod yX0_take, Cond.selects RX0 yX0_take yX0_take, Cond.initialized RX0, Cond.code yX0_take cX0_take 10 none, Cond.fieldLink RX0 9 "LayerSounder$Beams" "answered" "Z", Cond.fieldLink RX0 15 "LayerSounder$Beams" "three" "Z", Cond.fieldLink RX0 18 "LayerSounder$Beams" "along" "I", Cond.fieldLink RX0 22 "LayerSounder$Beams" "across" "I", Cond.fieldLink RX0 25 "LayerSounder$Beams" "odd" "I", Cond.methodLink RX0 28 yX0_isNone, Cond.static yX0_isNone, Cond.code yX0_isNone cX0_isNone 1 (some .boolean), Cond.static yX4_asNumber, Cond.code yX4_asNumber cX4_asNumber 1 (some .int), Cond.methodLink RX4 289 yX1_swing, Cond.instanceMethod yX1_swing, Cond.selects RX1 yX1_swing yX1_swing, Cond.code yX1_swing cX1_swing 4 none, Cond.static yX4_xTurned, Cond.code yX4_xTurned cX4_xTurned 5 (some .long)]
def wsX4_digestOfPing_r5 : List Cond := [Cond.methodLink RX4 274 yX4_cOf, Cond.static yX4_cOf, Cond.code yX4_cOf cX4_cOf 1 (some .long), Cond.fieldLink RX4 271 "LayerSounder" "C_OF_TURNS" "[I", Cond.methodLink RX4 277 yX4_sOf, Cond.static yX4_sOf, Cond.code yX4_sOf cX4_sOf 1 (some .long), Cond.static yX4_yTurned, Cond.code yX4_yTurned cX4_yTurned 5 (some .long), Cond.methodLink RX4 295 yX3_stepX, Cond.instanceMethod yX3_stepX, Cond.selects RX3 yX3_stepX yX3_stepX, Cond.code yX3_stepX cX3_stepX 2 (some .long), Cond.methodLink RX3 32 yX3_xOf, Cond.methodLink RX4 298 yX3_stepY, Cond.instanceMethod yX3_stepY, Cond.selects RX3 yX3_stepY yX3_stepY, Cond.code yX3_stepY cX3_stepY 2 (some .long), Cond.methodLink RX3 36 yX3_yOf, Cond.methodLink RX4 301 yX1_hold, Cond.instanceMethod yX1_hold, Cond.selects RX1 yX1_hold yX1_hold, Cond.code yX1_hold cX1_hold 5 none, Cond.methodLink RX4 158 yX4_asNumber]
def wsX4_digestOfPing_r6 : List Cond := [Cond.methodLink RX4 205 yX4_judge, Cond.instanceMethod yX4_judge, Cond.selects RX4 yX4_judge yX4_judge, Cond.code yX4_judge cX4_judge 4 (some .int), Cond.fieldLink RX4 55 "LayerSounder" "edgeCells" "I", Cond.fieldLink RX4 58 "LayerSounder" "threesTaken" "Z", Cond.fieldLink RX4 62 "LayerSounder" "oddBound" "I", Cond.methodLink RX4 209 yX4_itemOfCell, Cond.instanceMethod yX4_itemOfCell, Cond.selects RX4 yX4_itemOfCell yX4_itemOfCell, Cond.code yX4_itemOfCell cX4_itemOfCell 3 (some .int), Cond.methodLink RX4 120 yX4_isWithin, Cond.static yX4_isWithin, Cond.code yX4_isWithin cX4_isWithin 3 (some .boolean), Cond.methodLink RX4 190 yX4_isPart, Cond.static yX4_isPart, Cond.code yX4_isPart cX4_isPart 1 (some .boolean), Cond.methodLink RX4 215 yX4_findPace, Cond.instanceMethod yX4_findPace, Cond.selects RX4 yX4_findPace yX4_findPace, Cond.code yX4_findPace cX4_findPace 2 none, Cond.methodLink RX4 247 yX1_subtract, Cond.instanceMethod yX1_subtract, Cond.selects RX1 yX1_subtract yX1_subtract]
def wsX4_digestOfPing_r7 : List Cond := [Cond.code yX1_subtract cX1_subtract 2 none, Cond.methodLink RX4 308 yX1_east, Cond.instanceMethod yX1_east, Cond.selects RX1 yX1_east yX1_east, Cond.code yX1_east cX1_east 2 (some .long), Cond.methodLink RX4 311 yX1_north, Cond.instanceMethod yX1_north, Cond.selects RX1 yX1_north yX1_north, Cond.code yX1_north cX1_north 2 (some .long)]
def wsX4_digestOfPing : List Cond := .code yX4_digestOfPing cX4_digestOfPing 9 (some .long) :: ((wsX4_digestOfPing_r1 ++ (wsX4_digestOfPing_r2 ++ (wsX4_digestOfPing_r3 ++ (wsX4_digestOfPing_r4 ++ (wsX4_digestOfPing_r5 ++ (wsX4_digestOfPing_r6 ++ wsX4_digestOfPing_r7)))))) ++ wsX40 ++ wsX30 ++ wsX00 ++ wsX10 ++ wsX20)
def wsX4_digest_r1 : List Cond := [Cond.constantLong RX4 258 (17), Cond.constantLong RX4 260 (31), Cond.fieldLink RX4 18 "LayerSounder" "track" "LLayerSounder$Track;", Cond.methodLink RX4 262 yX4_count, Cond.instanceMethod yX4_count, Cond.selects RX4 yX4_count yX4_count, Cond.initialized RX4, Cond.code yX4_count cX4_count 2 (some .int), Cond.fieldLink RX4 45 "LayerSounder" "layers" "I", Cond.fieldLink RX4 49 "LayerSounder" "howOwn" "I", Cond.fieldLink RX4 52 "LayerSounder" "skewTurn" "I", Cond.fieldLink RX4 55 "LayerSounder" "edgeCells" "I", Cond.fieldLink RX4 65 "LayerSounder" "latestFinding" "I", Cond.fieldLink RX4 62 "LayerSounder" "oddBound" "I", Cond.fieldLink RX4 58 "LayerSounder" "threesTaken" "Z", Cond.methodLink RX4 158 yX4_asNumber, Cond.static yX4_asNumber, Cond.code yX4_asNumber cX4_asNumber 1 (some .int), Cond.methodLink RX4 265 yX4_digestOfPing, Cond.instanceMethod yX4_digestOfPing, Cond.selects RX4 yX4_digestOfPing yX4_digestOfPing, Cond.code yX4_digestOfPing cX4_digestOfPing 9 (some .long), Cond.fieldLink RX4 36 "LayerSounder" "paceDrift" "LLayerSounder$Drift;", Cond.methodLink RX4 305 yX4_about]
def wsX4_digest_r2 : List Cond := [Cond.instanceMethod yX4_about, Cond.selects RX4 yX4_about yX4_about, Cond.code yX4_about cX4_about 3 (some .int), Cond.constant RX4 99 (-2147483648), Cond.methodLink RX4 140 yX3_isPing, Cond.instanceMethod yX3_isPing, Cond.selects RX3 yX3_isPing yX3_isPing, Cond.initialized RX3, Cond.code yX3_isPing cX3_isPing 2 (some .boolean), Cond.fieldLink RX3 24 "LayerSounder$Track" "number" "I", Cond.methodLink RX4 143 yX3_headingOf, Cond.instanceMethod yX3_headingOf, Cond.selects RX3 yX3_headingOf yX3_headingOf, Cond.code yX3_headingOf cX3_headingOf 2 (some .int), Cond.fieldLink RX3 9 "LayerSounder$Track" "headings" "[I", Cond.methodLink RX3 28 yX3_isPing, Cond.methodLink RX4 146 yX3_xOf, Cond.instanceMethod yX3_xOf, Cond.selects RX3 yX3_xOf yX3_xOf, Cond.code yX3_xOf cX3_xOf 2 (some .int), Cond.fieldLink RX3 15 "LayerSounder$Track" "xs" "[I", Cond.methodLink RX4 149 yX3_yOf, Cond.instanceMethod yX3_yOf, Cond.selects RX3 yX3_yOf yX3_yOf]
def wsX4_digest_r3 : List Cond := [Cond.code yX3_yOf cX3_yOf 2 (some .int), Cond.fieldLink RX3 18 "LayerSounder$Track" "ys" "[I", Cond.methodLink RX4 152 yX3_depthOf, Cond.instanceMethod yX3_depthOf, Cond.selects RX3 yX3_depthOf yX3_depthOf, Cond.code yX3_depthOf cX3_depthOf 2 (some .int), Cond.fieldLink RX3 21 "LayerSounder$Track" "depths" "[I", Cond.methodLink RX4 155 yX4_findOwn, Cond.instanceMethod yX4_findOwn, Cond.selects RX4 yX4_findOwn yX4_findOwn, Cond.code yX4_findOwn cX4_findOwn 2 (some .boolean), Cond.fieldLink RX4 32 "LayerSounder" "ownDrift" "LLayerSounder$Drift;", Cond.fieldLink RX4 25 "LayerSounder" "beams" "LLayerSounder$Beams;", Cond.constantLong RX4 293 (4225), Cond.methodLink RX4 286 yX1_rest, Cond.instanceMethod yX1_rest, Cond.selects RX1 yX1_rest yX1_rest, Cond.initialized RX1, Cond.code yX1_rest cX1_rest 1 none, Cond.fieldLink RX1 7 "LayerSounder$Drift" "swungX" "J", Cond.fieldLink RX1 13 "LayerSounder$Drift" "swungY" "J", Cond.fieldLink RX1 16 "LayerSounder$Drift" "heldX" "J", Cond.fieldLink RX1 19 "LayerSounder$Drift" "heldY" "J", Cond.methodLink RX4 212 yX4_readBeams]
def wsX4_digest_r4 : List Cond := [Cond.instanceMethod yX4_readBeams, Cond.selects RX4 yX4_readBeams yX4_readBeams, Cond.code yX4_readBeams cX4_readBeams 7 none, Cond.methodLink RX4 283 yX4_readingOf, Cond.instanceMethod yX4_readingOf, Cond.selects RX4 yX4_readingOf yX4_readingOf, Cond.code yX4_readingOf cX4_readingOf 3 (some .int), Cond.fieldLink RX4 11 "LayerSounder" "reels" "[LLayerSounder$Reel;", Cond.methodLink RX4 69 yX4_isReel, Cond.instanceMethod yX4_isReel, Cond.selects RX4 yX4_isReel yX4_isReel, Cond.code yX4_isReel cX4_isReel 2 (some .boolean), Cond.methodLink RX4 280 yX2_reading, Cond.instanceMethod yX2_reading, Cond.selects RX2 yX2_reading yX2_reading, Cond.initialized RX2, Cond.code yX2_reading cX2_reading 2 (some .int), Cond.fieldLink RX2 19 "LayerSounder$Reel" "size" "I", Cond.fieldLink RX2 9 "LayerSounder$Reel" "items" "[I", Cond.methodLink RX4 171 yX0_take, Cond.instanceMethod yX0_take, Cond.selects RX0 yX0_take yX0_take, Cond.initialized RX0, Cond.code yX0_take cX0_take 10 none]
def wsX4_digest_r5 : List Cond := [Cond.fieldLink RX0 9 "LayerSounder$Beams" "answered" "Z", Cond.fieldLink RX0 15 "LayerSounder$Beams" "three" "Z", Cond.fieldLink RX0 18 "LayerSounder$Beams" "along" "I", Cond.fieldLink RX0 22 "LayerSounder$Beams" "across" "I", Cond.fieldLink RX0 25 "LayerSounder$Beams" "odd" "I", Cond.methodLink RX0 28 yX0_isNone, Cond.static yX0_isNone, Cond.code yX0_isNone cX0_isNone 1 (some .boolean), Cond.methodLink RX4 289 yX1_swing, Cond.instanceMethod yX1_swing, Cond.selects RX1 yX1_swing yX1_swing, Cond.code yX1_swing cX1_swing 4 none, Cond.static yX4_xTurned, Cond.code yX4_xTurned cX4_xTurned 5 (some .long), Cond.methodLink RX4 274 yX4_cOf, Cond.static yX4_cOf, Cond.code yX4_cOf cX4_cOf 1 (some .long), Cond.fieldLink RX4 271 "LayerSounder" "C_OF_TURNS" "[I", Cond.methodLink RX4 277 yX4_sOf, Cond.static yX4_sOf, Cond.code yX4_sOf cX4_sOf 1 (some .long), Cond.static yX4_yTurned, Cond.code yX4_yTurned cX4_yTurned 5 (some .long), Cond.methodLink RX4 295 yX3_stepX]
def wsX4_digest_r6 : List Cond := [Cond.instanceMethod yX3_stepX, Cond.selects RX3 yX3_stepX yX3_stepX, Cond.code yX3_stepX cX3_stepX 2 (some .long), Cond.methodLink RX3 32 yX3_xOf, Cond.methodLink RX4 298 yX3_stepY, Cond.instanceMethod yX3_stepY, Cond.selects RX3 yX3_stepY yX3_stepY, Cond.code yX3_stepY cX3_stepY 2 (some .long), Cond.methodLink RX3 36 yX3_yOf, Cond.methodLink RX4 301 yX1_hold, Cond.instanceMethod yX1_hold, Cond.selects RX1 yX1_hold yX1_hold, Cond.code yX1_hold cX1_hold 5 none, Cond.methodLink RX4 205 yX4_judge, Cond.instanceMethod yX4_judge, Cond.selects RX4 yX4_judge yX4_judge, Cond.code yX4_judge cX4_judge 4 (some .int), Cond.methodLink RX4 209 yX4_itemOfCell, Cond.instanceMethod yX4_itemOfCell, Cond.selects RX4 yX4_itemOfCell yX4_itemOfCell, Cond.code yX4_itemOfCell cX4_itemOfCell 3 (some .int), Cond.methodLink RX4 120 yX4_isWithin, Cond.static yX4_isWithin, Cond.code yX4_isWithin cX4_isWithin 3 (some .boolean)]
def wsX4_digest_r7 : List Cond := [Cond.methodLink RX4 190 yX4_isPart, Cond.static yX4_isPart, Cond.code yX4_isPart cX4_isPart 1 (some .boolean), Cond.methodLink RX4 215 yX4_findPace, Cond.instanceMethod yX4_findPace, Cond.selects RX4 yX4_findPace yX4_findPace, Cond.code yX4_findPace cX4_findPace 2 none, Cond.methodLink RX4 247 yX1_subtract, Cond.instanceMethod yX1_subtract, Cond.selects RX1 yX1_subtract yX1_subtract, Cond.code yX1_subtract cX1_subtract 2 none, Cond.methodLink RX4 308 yX1_east, Cond.instanceMethod yX1_east, Cond.selects RX1 yX1_east yX1_east, Cond.code yX1_east cX1_east 2 (some .long), Cond.methodLink RX4 311 yX1_north, Cond.instanceMethod yX1_north, Cond.selects RX1 yX1_north yX1_north, Cond.code yX1_north cX1_north 2 (some .long)]
def wsX4_digest : List Cond := .code yX4_digest cX4_digest 4 (some .long) :: ((wsX4_digest_r1 ++ (wsX4_digest_r2 ++ (wsX4_digest_r3 ++ (wsX4_digest_r4 ++ (wsX4_digest_r5 ++ (wsX4_digest_r6 ++ wsX4_digest_r7)))))) ++ wsX40 ++ wsX30 ++ wsX00 ++ wsX10 ++ wsX20)
def wsX5_init : List Cond := .code yX5_init cX5_init 2 none :: ([.methodLink RX5 1 objectInit, .instanceMethod objectInit, .code objectInit ⟨#[0xb1]⟩ 1 none, .arrayClass .int, .fieldLink RX5 7 "LayerSounderModel" "cs" "[I", .fieldLink RX5 13 "LayerSounderModel" "ss" "[I", .fieldLink RX5 16 "LayerSounderModel" "forms" "[I", .fieldLink RX5 19 "LayerSounderModel" "sizes" "[I", .fieldLink RX5 22 "LayerSounderModel" "items" "[I", .fieldLink RX5 25 "LayerSounderModel" "moved" "[I", .fieldLink RX5 28 "LayerSounderModel" "l" "I", .fieldLink RX5 32 "LayerSounderModel" "headings" "[I", .fieldLink RX5 35 "LayerSounderModel" "xs" "[I", .fieldLink RX5 38 "LayerSounderModel" "ys" "[I", .fieldLink RX5 41 "LayerSounderModel" "depths" "[I", .fieldLink RX5 44 "LayerSounderModel" "takes" "Z", .fieldLink RX5 48 "LayerSounderModel" "bound" "I"] ++ wsX50)
def wsX5_in : List Cond := .code yX5_in cX5_in 6 (some .boolean) :: ([])
def wsX5_no : List Cond := .code yX5_no cX5_no 1 (some .long) :: ([.constantLong RX5 51 (-9223372036854775808)])
def wsX5_amount : List Cond := .code yX5_amount cX5_amount 2 (some .long) :: ([])
def wsX5_met : List Cond := .code yX5_met cX5_met 2 (some .int) :: ([.fieldLink RX5 53 "LayerSounderModel" "latest" "I"] ++ wsX50)
def wsX5_isReel : List Cond := .code yX5_isReel cX5_isReel 1 (some .boolean) :: ([.constantLong RX5 56 (7), .methodLink RX5 58 yX5_in, .static yX5_in, .initialized RX5, .code yX5_in cX5_in 6 (some .boolean)])
def wsX5_reel : List Cond := .code yX5_reel cX5_reel 5 (some .int) :: ([.constantLong RX5 66 (2), .fieldLink RX5 16 "LayerSounderModel" "forms" "[I", .fieldLink RX5 19 "LayerSounderModel" "sizes" "[I", .fieldLink RX5 22 "LayerSounderModel" "items" "[I", .methodLink RX5 62 yX5_isReel, .static yX5_isReel, .initialized RX5, .code yX5_isReel cX5_isReel 1 (some .boolean), .constantLong RX5 56 (7), .methodLink RX5 58 yX5_in, .static yX5_in, .code yX5_in cX5_in 6 (some .boolean), .methodLink RX5 68 yX5_met, .instanceMethod yX5_met, .selects RX5 yX5_met yX5_met, .code yX5_met cX5_met 2 (some .int), .fieldLink RX5 53 "LayerSounderModel" "latest" "I"] ++ wsX50)
def wsX5_lose : List Cond := .code yX5_lose cX5_lose 2 (some .int) :: ([.fieldLink RX5 16 "LayerSounderModel" "forms" "[I", .fieldLink RX5 19 "LayerSounderModel" "sizes" "[I", .methodLink RX5 62 yX5_isReel, .static yX5_isReel, .initialized RX5, .code yX5_isReel cX5_isReel 1 (some .boolean), .constantLong RX5 56 (7), .methodLink RX5 58 yX5_in, .static yX5_in, .code yX5_in cX5_in 6 (some .boolean), .methodLink RX5 68 yX5_met, .instanceMethod yX5_met, .selects RX5 yX5_met yX5_met, .code yX5_met cX5_met 2 (some .int), .fieldLink RX5 53 "LayerSounderModel" "latest" "I"] ++ wsX50)
def wsX5_lacks : List Cond := .code yX5_lacks cX5_lacks 4 (some .int) :: ([.fieldLink RX5 16 "LayerSounderModel" "forms" "[I", .fieldLink RX5 19 "LayerSounderModel" "sizes" "[I", .methodLink RX5 68 yX5_met, .instanceMethod yX5_met, .selects RX5 yX5_met yX5_met, .initialized RX5, .code yX5_met cX5_met 2 (some .int), .fieldLink RX5 53 "LayerSounderModel" "latest" "I", .methodLink RX5 58 yX5_in, .static yX5_in, .code yX5_in cX5_in 6 (some .boolean)] ++ wsX50)
def wsX5_put : List Cond := .code yX5_put cX5_put 6 (some .int) :: ([.constantLong RX5 66 (2), .fieldLink RX5 22 "LayerSounderModel" "items" "[I", .methodLink RX5 62 yX5_isReel, .static yX5_isReel, .initialized RX5, .code yX5_isReel cX5_isReel 1 (some .boolean), .constantLong RX5 56 (7), .methodLink RX5 58 yX5_in, .static yX5_in, .code yX5_in cX5_in 6 (some .boolean), .methodLink RX5 72 yX5_lacks, .instanceMethod yX5_lacks, .selects RX5 yX5_lacks yX5_lacks, .code yX5_lacks cX5_lacks 4 (some .int), .fieldLink RX5 16 "LayerSounderModel" "forms" "[I", .fieldLink RX5 19 "LayerSounderModel" "sizes" "[I", .methodLink RX5 68 yX5_met, .instanceMethod yX5_met, .selects RX5 yX5_met yX5_met, .code yX5_met cX5_met 2 (some .int), .fieldLink RX5 53 "LayerSounderModel" "latest" "I"] ++ wsX50)
def wsX5_get : List Cond := .code yX5_get cX5_get 4 (some .int) :: ([.constantLong RX5 66 (2), .constant RX5 76 (-2147483648), .fieldLink RX5 22 "LayerSounderModel" "items" "[I", .methodLink RX5 62 yX5_isReel, .static yX5_isReel, .initialized RX5, .code yX5_isReel cX5_isReel 1 (some .boolean), .constantLong RX5 56 (7), .methodLink RX5 58 yX5_in, .static yX5_in, .code yX5_in cX5_in 6 (some .boolean), .methodLink RX5 72 yX5_lacks, .instanceMethod yX5_lacks, .selects RX5 yX5_lacks yX5_lacks, .code yX5_lacks cX5_lacks 4 (some .int), .fieldLink RX5 16 "LayerSounderModel" "forms" "[I", .fieldLink RX5 19 "LayerSounderModel" "sizes" "[I", .methodLink RX5 68 yX5_met, .instanceMethod yX5_met, .selects RX5 yX5_met yX5_met, .code yX5_met cX5_met 2 (some .int), .fieldLink RX5 53 "LayerSounderModel" "latest" "I"] ++ wsX50)
def wsX5_copy : List Cond := .code yX5_copy cX5_copy 7 (some .int) :: ([.fieldLink RX5 16 "LayerSounderModel" "forms" "[I", .fieldLink RX5 19 "LayerSounderModel" "sizes" "[I", .fieldLink RX5 25 "LayerSounderModel" "moved" "[I", .fieldLink RX5 22 "LayerSounderModel" "items" "[I", .methodLink RX5 62 yX5_isReel, .static yX5_isReel, .initialized RX5, .code yX5_isReel cX5_isReel 1 (some .boolean), .constantLong RX5 56 (7), .methodLink RX5 58 yX5_in, .static yX5_in, .code yX5_in cX5_in 6 (some .boolean), .methodLink RX5 68 yX5_met, .instanceMethod yX5_met, .selects RX5 yX5_met yX5_met, .code yX5_met cX5_met 2 (some .int), .fieldLink RX5 53 "LayerSounderModel" "latest" "I"] ++ wsX50)
def wsX5_told : List Cond := .code yX5_told cX5_told 1 (some .int) :: ([])
def wsX5_reading : List Cond := .code yX5_reading cX5_reading 3 (some .int) :: ([.fieldLink RX5 16 "LayerSounderModel" "forms" "[I", .fieldLink RX5 19 "LayerSounderModel" "sizes" "[I", .fieldLink RX5 22 "LayerSounderModel" "items" "[I", .methodLink RX5 77 yX5_told, .static yX5_told, .initialized RX5, .code yX5_told cX5_told 1 (some .int)] ++ wsX50)
def wsX5_cells : List Cond := .code yX5_cells cX5_cells 3 (some .int) :: ([.constantLong RX5 80 (16), .fieldLink RX5 82 "LayerSounderModel" "pings" "I", .fieldLink RX5 28 "LayerSounderModel" "l" "I", .methodLink RX5 58 yX5_in, .static yX5_in, .initialized RX5, .code yX5_in cX5_in 6 (some .boolean)] ++ wsX50)
def wsX5_ping : List Cond := .code yX5_ping cX5_ping 5 (some .int) :: ([.constantLong RX5 85 (35), .constantLong RX5 87 (-1000000), .constantLong RX5 89 (1000000), .constantLong RX5 80 (16), .fieldLink RX5 82 "LayerSounderModel" "pings" "I", .fieldLink RX5 32 "LayerSounderModel" "headings" "[I", .fieldLink RX5 35 "LayerSounderModel" "xs" "[I", .fieldLink RX5 38 "LayerSounderModel" "ys" "[I", .fieldLink RX5 41 "LayerSounderModel" "depths" "[I", .methodLink RX5 58 yX5_in, .static yX5_in, .initialized RX5, .code yX5_in cX5_in 6 (some .boolean)] ++ wsX50)
def wsX5_isPing : List Cond := .code yX5_isPing cX5_isPing 2 (some .boolean) :: ([.fieldLink RX5 82 "LayerSounderModel" "pings" "I", .methodLink RX5 58 yX5_in, .static yX5_in, .initialized RX5, .code yX5_in cX5_in 6 (some .boolean)] ++ wsX50)
def wsX5_mend : List Cond := .code yX5_mend cX5_mend 4 (some .int) :: ([.constantLong RX5 85 (35), .fieldLink RX5 32 "LayerSounderModel" "headings" "[I", .methodLink RX5 91 yX5_isPing, .instanceMethod yX5_isPing, .selects RX5 yX5_isPing yX5_isPing, .initialized RX5, .code yX5_isPing cX5_isPing 2 (some .boolean), .fieldLink RX5 82 "LayerSounderModel" "pings" "I", .methodLink RX5 58 yX5_in, .static yX5_in, .code yX5_in cX5_in 6 (some .boolean)] ++ wsX50)
def wsX5_clear : List Cond := .code yX5_clear cX5_clear 2 (some .int) :: ([.fieldLink RX5 82 "LayerSounderModel" "pings" "I"] ++ wsX50)
def wsX5_answers : List Cond := .code yX5_answers cX5_answers 9 (some .boolean) :: ([.fieldLink RX5 108 "LayerSounderModel" "lost" "I", .fieldLink RX5 111 "LayerSounderModel" "along" "I", .fieldLink RX5 114 "LayerSounderModel" "across" "I", .fieldLink RX5 117 "LayerSounderModel" "odd" "I"] ++ wsX50)
def wsX5_turn : List Cond := .code yX5_turn cX5_turn 13 none :: ([.fieldLink RX5 7 "LayerSounderModel" "cs" "[I", .fieldLink RX5 13 "LayerSounderModel" "ss" "[I", .fieldLink RX5 97 "LayerSounderModel" "turnedX" "J", .fieldLink RX5 101 "LayerSounderModel" "turnedY" "J"] ++ wsX50)
def wsX5_bring : List Cond := .code yX5_bring cX5_bring 2 none :: ([.fieldLink RX5 111 "LayerSounderModel" "along" "I", .fieldLink RX5 114 "LayerSounderModel" "across" "I", .fieldLink RX5 133 "LayerSounderModel" "skew" "I", .fieldLink RX5 97 "LayerSounderModel" "turnedX" "J", .fieldLink RX5 101 "LayerSounderModel" "turnedY" "J", .fieldLink RX5 32 "LayerSounderModel" "headings" "[I", .methodLink RX5 104 yX5_turn, .instanceMethod yX5_turn, .selects RX5 yX5_turn yX5_turn, .initialized RX5, .code yX5_turn cX5_turn 13 none, .fieldLink RX5 7 "LayerSounderModel" "cs" "[I", .fieldLink RX5 13 "LayerSounderModel" "ss" "[I"] ++ wsX50)
def wsX5_findOwn_r1 : List Cond := [Cond.fieldLink RX5 141 "LayerSounderModel" "ownX" "J", Cond.fieldLink RX5 144 "LayerSounderModel" "ownY" "J", Cond.fieldLink RX5 130 "LayerSounderModel" "motion" "I", Cond.fieldLink RX5 97 "LayerSounderModel" "turnedX" "J", Cond.fieldLink RX5 101 "LayerSounderModel" "turnedY" "J", Cond.fieldLink RX5 82 "LayerSounderModel" "pings" "I", Cond.constantLong RX5 155 (4225), Cond.fieldLink RX5 35 "LayerSounderModel" "xs" "[I", Cond.fieldLink RX5 38 "LayerSounderModel" "ys" "[I", Cond.methodLink RX5 147 yX5_reading, Cond.instanceMethod yX5_reading, Cond.selects RX5 yX5_reading yX5_reading, Cond.initialized RX5, Cond.code yX5_reading cX5_reading 3 (some .int), Cond.fieldLink RX5 16 "LayerSounderModel" "forms" "[I", Cond.fieldLink RX5 19 "LayerSounderModel" "sizes" "[I", Cond.fieldLink RX5 22 "LayerSounderModel" "items" "[I", Cond.methodLink RX5 77 yX5_told, Cond.static yX5_told, Cond.code yX5_told cX5_told 1 (some .int), Cond.methodLink RX5 122 yX5_answers, Cond.instanceMethod yX5_answers, Cond.selects RX5 yX5_answers yX5_answers, Cond.code yX5_answers cX5_answers 9 (some .boolean)]
def wsX5_findOwn_r2 : List Cond := [Cond.fieldLink RX5 108 "LayerSounderModel" "lost" "I", Cond.fieldLink RX5 111 "LayerSounderModel" "along" "I", Cond.fieldLink RX5 114 "LayerSounderModel" "across" "I", Cond.fieldLink RX5 117 "LayerSounderModel" "odd" "I", Cond.methodLink RX5 151 yX5_bring, Cond.instanceMethod yX5_bring, Cond.selects RX5 yX5_bring yX5_bring, Cond.code yX5_bring cX5_bring 2 none, Cond.fieldLink RX5 133 "LayerSounderModel" "skew" "I", Cond.fieldLink RX5 32 "LayerSounderModel" "headings" "[I", Cond.methodLink RX5 104 yX5_turn, Cond.instanceMethod yX5_turn, Cond.selects RX5 yX5_turn yX5_turn, Cond.code yX5_turn cX5_turn 13 none, Cond.fieldLink RX5 7 "LayerSounderModel" "cs" "[I", Cond.fieldLink RX5 13 "LayerSounderModel" "ss" "[I"]
def wsX5_findOwn : List Cond := .code yX5_findOwn cX5_findOwn 2 (some .boolean) :: ((wsX5_findOwn_r1 ++ wsX5_findOwn_r2) ++ wsX50)
def wsX5_about_r1 : List Cond := [Cond.constant RX5 76 (-2147483648), Cond.fieldLink RX5 32 "LayerSounderModel" "headings" "[I", Cond.fieldLink RX5 35 "LayerSounderModel" "xs" "[I", Cond.fieldLink RX5 38 "LayerSounderModel" "ys" "[I", Cond.fieldLink RX5 41 "LayerSounderModel" "depths" "[I", Cond.methodLink RX5 91 yX5_isPing, Cond.instanceMethod yX5_isPing, Cond.selects RX5 yX5_isPing yX5_isPing, Cond.initialized RX5, Cond.code yX5_isPing cX5_isPing 2 (some .boolean), Cond.fieldLink RX5 82 "LayerSounderModel" "pings" "I", Cond.methodLink RX5 58 yX5_in, Cond.static yX5_in, Cond.code yX5_in cX5_in 6 (some .boolean), Cond.methodLink RX5 94 yX5_findOwn, Cond.instanceMethod yX5_findOwn, Cond.selects RX5 yX5_findOwn yX5_findOwn, Cond.code yX5_findOwn cX5_findOwn 2 (some .boolean), Cond.fieldLink RX5 141 "LayerSounderModel" "ownX" "J", Cond.fieldLink RX5 144 "LayerSounderModel" "ownY" "J", Cond.fieldLink RX5 130 "LayerSounderModel" "motion" "I", Cond.fieldLink RX5 97 "LayerSounderModel" "turnedX" "J", Cond.fieldLink RX5 101 "LayerSounderModel" "turnedY" "J", Cond.constantLong RX5 155 (4225)]
def wsX5_about_r2 : List Cond := [Cond.methodLink RX5 147 yX5_reading, Cond.instanceMethod yX5_reading, Cond.selects RX5 yX5_reading yX5_reading, Cond.code yX5_reading cX5_reading 3 (some .int), Cond.fieldLink RX5 16 "LayerSounderModel" "forms" "[I", Cond.fieldLink RX5 19 "LayerSounderModel" "sizes" "[I", Cond.fieldLink RX5 22 "LayerSounderModel" "items" "[I", Cond.methodLink RX5 77 yX5_told, Cond.static yX5_told, Cond.code yX5_told cX5_told 1 (some .int), Cond.methodLink RX5 122 yX5_answers, Cond.instanceMethod yX5_answers, Cond.selects RX5 yX5_answers yX5_answers, Cond.code yX5_answers cX5_answers 9 (some .boolean), Cond.fieldLink RX5 108 "LayerSounderModel" "lost" "I", Cond.fieldLink RX5 111 "LayerSounderModel" "along" "I", Cond.fieldLink RX5 114 "LayerSounderModel" "across" "I", Cond.fieldLink RX5 117 "LayerSounderModel" "odd" "I", Cond.methodLink RX5 151 yX5_bring, Cond.instanceMethod yX5_bring, Cond.selects RX5 yX5_bring yX5_bring, Cond.code yX5_bring cX5_bring 2 none, Cond.fieldLink RX5 133 "LayerSounderModel" "skew" "I", Cond.methodLink RX5 104 yX5_turn]
def wsX5_about_r3 : List Cond := [Cond.instanceMethod yX5_turn, Cond.selects RX5 yX5_turn yX5_turn, Cond.code yX5_turn cX5_turn 13 none, Cond.fieldLink RX5 7 "LayerSounderModel" "cs" "[I", Cond.fieldLink RX5 13 "LayerSounderModel" "ss" "[I"]
def wsX5_about : List Cond := .code yX5_about cX5_about 3 (some .int) :: ((wsX5_about_r1 ++ (wsX5_about_r2 ++ wsX5_about_r3)) ++ wsX50)
def wsX5_turned : List Cond := .code yX5_turned cX5_turned 5 (some .int) :: ([.constantLong RX5 87 (-1000000), .constantLong RX5 89 (1000000), .constantLong RX5 85 (35), .constant RX5 76 (-2147483648), .fieldLink RX5 97 "LayerSounderModel" "turnedX" "J", .fieldLink RX5 101 "LayerSounderModel" "turnedY" "J", .methodLink RX5 58 yX5_in, .static yX5_in, .initialized RX5, .code yX5_in cX5_in 6 (some .boolean), .methodLink RX5 104 yX5_turn, .instanceMethod yX5_turn, .selects RX5 yX5_turn yX5_turn, .code yX5_turn cX5_turn 13 none, .fieldLink RX5 7 "LayerSounderModel" "cs" "[I", .fieldLink RX5 13 "LayerSounderModel" "ss" "[I"] ++ wsX50)
def wsX5_answer : List Cond := .code yX5_answer cX5_answer 6 (some .int) :: ([.constantLong RX5 120 (3), .constant RX5 76 (-2147483648), .fieldLink RX5 111 "LayerSounderModel" "along" "I", .fieldLink RX5 114 "LayerSounderModel" "across" "I", .fieldLink RX5 117 "LayerSounderModel" "odd" "I", .fieldLink RX5 108 "LayerSounderModel" "lost" "I", .methodLink RX5 58 yX5_in, .static yX5_in, .initialized RX5, .code yX5_in cX5_in 6 (some .boolean), .methodLink RX5 77 yX5_told, .static yX5_told, .code yX5_told cX5_told 1 (some .int), .methodLink RX5 122 yX5_answers, .instanceMethod yX5_answers, .selects RX5 yX5_answers yX5_answers, .code yX5_answers cX5_answers 9 (some .boolean)] ++ wsX50)
def wsX5_beam : List Cond := .code yX5_beam cX5_beam 9 (some .int) :: ([.constantLong RX5 126 (-20000), .constantLong RX5 128 (20000), .constantLong RX5 87 (-1000000), .constantLong RX5 89 (1000000), .constantLong RX5 120 (3), .constant RX5 76 (-2147483648), .methodLink RX5 58 yX5_in, .static yX5_in, .initialized RX5, .code yX5_in cX5_in 6 (some .boolean)])
def wsX5_motion : List Cond := .code yX5_motion cX5_motion 3 (some .int) :: ([.constantLong RX5 66 (2), .fieldLink RX5 130 "LayerSounderModel" "motion" "I", .methodLink RX5 58 yX5_in, .static yX5_in, .initialized RX5, .code yX5_in cX5_in 6 (some .boolean)] ++ wsX50)
def wsX5_skew : List Cond := .code yX5_skew cX5_skew 3 (some .int) :: ([.constantLong RX5 85 (35), .fieldLink RX5 133 "LayerSounderModel" "skew" "I", .methodLink RX5 58 yX5_in, .static yX5_in, .initialized RX5, .code yX5_in cX5_in 6 (some .boolean)] ++ wsX50)
def wsX5_laws : List Cond := .code yX5_laws cX5_laws 4 (some .int) :: ([.constantLong RX5 80 (16), .constantLong RX5 136 (100000), .fieldLink RX5 138 "LayerSounderModel" "edge" "I", .fieldLink RX5 44 "LayerSounderModel" "takes" "Z", .fieldLink RX5 48 "LayerSounderModel" "bound" "I", .methodLink RX5 58 yX5_in, .static yX5_in, .initialized RX5, .code yX5_in cX5_in 6 (some .boolean)] ++ wsX50)
def wsX5_own_r1 : List Cond := [Cond.fieldLink RX5 141 "LayerSounderModel" "ownX" "J", Cond.fieldLink RX5 144 "LayerSounderModel" "ownY" "J", Cond.methodLink RX5 91 yX5_isPing, Cond.instanceMethod yX5_isPing, Cond.selects RX5 yX5_isPing yX5_isPing, Cond.initialized RX5, Cond.code yX5_isPing cX5_isPing 2 (some .boolean), Cond.fieldLink RX5 82 "LayerSounderModel" "pings" "I", Cond.methodLink RX5 58 yX5_in, Cond.static yX5_in, Cond.code yX5_in cX5_in 6 (some .boolean), Cond.methodLink RX5 157 yX5_no, Cond.static yX5_no, Cond.code yX5_no cX5_no 1 (some .long), Cond.constantLong RX5 51 (-9223372036854775808), Cond.methodLink RX5 94 yX5_findOwn, Cond.instanceMethod yX5_findOwn, Cond.selects RX5 yX5_findOwn yX5_findOwn, Cond.code yX5_findOwn cX5_findOwn 2 (some .boolean), Cond.fieldLink RX5 130 "LayerSounderModel" "motion" "I", Cond.fieldLink RX5 97 "LayerSounderModel" "turnedX" "J", Cond.fieldLink RX5 101 "LayerSounderModel" "turnedY" "J", Cond.constantLong RX5 155 (4225), Cond.fieldLink RX5 35 "LayerSounderModel" "xs" "[I"]
def wsX5_own_r2 : List Cond := [Cond.fieldLink RX5 38 "LayerSounderModel" "ys" "[I", Cond.methodLink RX5 147 yX5_reading, Cond.instanceMethod yX5_reading, Cond.selects RX5 yX5_reading yX5_reading, Cond.code yX5_reading cX5_reading 3 (some .int), Cond.fieldLink RX5 16 "LayerSounderModel" "forms" "[I", Cond.fieldLink RX5 19 "LayerSounderModel" "sizes" "[I", Cond.fieldLink RX5 22 "LayerSounderModel" "items" "[I", Cond.methodLink RX5 77 yX5_told, Cond.static yX5_told, Cond.code yX5_told cX5_told 1 (some .int), Cond.methodLink RX5 122 yX5_answers, Cond.instanceMethod yX5_answers, Cond.selects RX5 yX5_answers yX5_answers, Cond.code yX5_answers cX5_answers 9 (some .boolean), Cond.fieldLink RX5 108 "LayerSounderModel" "lost" "I", Cond.fieldLink RX5 111 "LayerSounderModel" "along" "I", Cond.fieldLink RX5 114 "LayerSounderModel" "across" "I", Cond.fieldLink RX5 117 "LayerSounderModel" "odd" "I", Cond.methodLink RX5 151 yX5_bring, Cond.instanceMethod yX5_bring, Cond.selects RX5 yX5_bring yX5_bring, Cond.code yX5_bring cX5_bring 2 none, Cond.fieldLink RX5 133 "LayerSounderModel" "skew" "I"]
def wsX5_own_r3 : List Cond := [Cond.fieldLink RX5 32 "LayerSounderModel" "headings" "[I", Cond.methodLink RX5 104 yX5_turn, Cond.instanceMethod yX5_turn, Cond.selects RX5 yX5_turn yX5_turn, Cond.code yX5_turn cX5_turn 13 none, Cond.fieldLink RX5 7 "LayerSounderModel" "cs" "[I", Cond.fieldLink RX5 13 "LayerSounderModel" "ss" "[I"]
def wsX5_own : List Cond := .code yX5_own cX5_own 3 (some .long) :: ((wsX5_own_r1 ++ (wsX5_own_r2 ++ wsX5_own_r3)) ++ wsX50)
def wsX5_cellAnswers : List Cond := .code yX5_cellAnswers cX5_cellAnswers 4 (some .boolean) :: ([.fieldLink RX5 28 "LayerSounderModel" "l" "I", .methodLink RX5 147 yX5_reading, .instanceMethod yX5_reading, .selects RX5 yX5_reading yX5_reading, .initialized RX5, .code yX5_reading cX5_reading 3 (some .int), .fieldLink RX5 16 "LayerSounderModel" "forms" "[I", .fieldLink RX5 19 "LayerSounderModel" "sizes" "[I", .fieldLink RX5 22 "LayerSounderModel" "items" "[I", .methodLink RX5 77 yX5_told, .static yX5_told, .code yX5_told cX5_told 1 (some .int), .methodLink RX5 122 yX5_answers, .instanceMethod yX5_answers, .selects RX5 yX5_answers yX5_answers, .code yX5_answers cX5_answers 9 (some .boolean), .fieldLink RX5 108 "LayerSounderModel" "lost" "I", .fieldLink RX5 111 "LayerSounderModel" "along" "I", .fieldLink RX5 114 "LayerSounderModel" "across" "I", .fieldLink RX5 117 "LayerSounderModel" "odd" "I"] ++ wsX50)
def wsX5_isCell : List Cond := .code yX5_isCell cX5_isCell 3 (some .boolean) :: ([.fieldLink RX5 28 "LayerSounderModel" "l" "I", .methodLink RX5 91 yX5_isPing, .instanceMethod yX5_isPing, .selects RX5 yX5_isPing yX5_isPing, .initialized RX5, .code yX5_isPing cX5_isPing 2 (some .boolean), .fieldLink RX5 82 "LayerSounderModel" "pings" "I", .methodLink RX5 58 yX5_in, .static yX5_in, .code yX5_in cX5_in 6 (some .boolean)] ++ wsX50)
def wsX5_fateOf_r1 : List Cond := [Cond.fieldLink RX5 138 "LayerSounderModel" "edge" "I", Cond.fieldLink RX5 41 "LayerSounderModel" "depths" "[I", Cond.fieldLink RX5 108 "LayerSounderModel" "lost" "I", Cond.fieldLink RX5 44 "LayerSounderModel" "takes" "Z", Cond.fieldLink RX5 117 "LayerSounderModel" "odd" "I", Cond.fieldLink RX5 48 "LayerSounderModel" "bound" "I", Cond.fieldLink RX5 111 "LayerSounderModel" "along" "I", Cond.constantLong RX5 128 (20000), Cond.fieldLink RX5 114 "LayerSounderModel" "across" "I", Cond.methodLink RX5 94 yX5_findOwn, Cond.instanceMethod yX5_findOwn, Cond.selects RX5 yX5_findOwn yX5_findOwn, Cond.initialized RX5, Cond.code yX5_findOwn cX5_findOwn 2 (some .boolean), Cond.fieldLink RX5 141 "LayerSounderModel" "ownX" "J", Cond.fieldLink RX5 144 "LayerSounderModel" "ownY" "J", Cond.fieldLink RX5 130 "LayerSounderModel" "motion" "I", Cond.fieldLink RX5 97 "LayerSounderModel" "turnedX" "J", Cond.fieldLink RX5 101 "LayerSounderModel" "turnedY" "J", Cond.fieldLink RX5 82 "LayerSounderModel" "pings" "I", Cond.constantLong RX5 155 (4225), Cond.fieldLink RX5 35 "LayerSounderModel" "xs" "[I", Cond.fieldLink RX5 38 "LayerSounderModel" "ys" "[I", Cond.methodLink RX5 147 yX5_reading]
def wsX5_fateOf_r2 : List Cond := [Cond.instanceMethod yX5_reading, Cond.selects RX5 yX5_reading yX5_reading, Cond.code yX5_reading cX5_reading 3 (some .int), Cond.fieldLink RX5 16 "LayerSounderModel" "forms" "[I", Cond.fieldLink RX5 19 "LayerSounderModel" "sizes" "[I", Cond.fieldLink RX5 22 "LayerSounderModel" "items" "[I", Cond.methodLink RX5 77 yX5_told, Cond.static yX5_told, Cond.code yX5_told cX5_told 1 (some .int), Cond.methodLink RX5 122 yX5_answers, Cond.instanceMethod yX5_answers, Cond.selects RX5 yX5_answers yX5_answers, Cond.code yX5_answers cX5_answers 9 (some .boolean), Cond.methodLink RX5 151 yX5_bring, Cond.instanceMethod yX5_bring, Cond.selects RX5 yX5_bring yX5_bring, Cond.code yX5_bring cX5_bring 2 none, Cond.fieldLink RX5 133 "LayerSounderModel" "skew" "I", Cond.fieldLink RX5 32 "LayerSounderModel" "headings" "[I", Cond.methodLink RX5 104 yX5_turn, Cond.instanceMethod yX5_turn, Cond.selects RX5 yX5_turn yX5_turn, Cond.code yX5_turn cX5_turn 13 none, Cond.fieldLink RX5 7 "LayerSounderModel" "cs" "[I"]
def wsX5_fateOf_r3 : List Cond := [Cond.fieldLink RX5 13 "LayerSounderModel" "ss" "[I", Cond.methodLink RX5 161 yX5_cellAnswers, Cond.instanceMethod yX5_cellAnswers, Cond.selects RX5 yX5_cellAnswers yX5_cellAnswers, Cond.code yX5_cellAnswers cX5_cellAnswers 4 (some .boolean), Cond.fieldLink RX5 28 "LayerSounderModel" "l" "I", Cond.methodLink RX5 165 yX5_amount, Cond.static yX5_amount, Cond.code yX5_amount cX5_amount 2 (some .long)]
def wsX5_fateOf : List Cond := .code yX5_fateOf cX5_fateOf 3 (some .int) :: ((wsX5_fateOf_r1 ++ (wsX5_fateOf_r2 ++ wsX5_fateOf_r3)) ++ wsX50)
def wsX5_fate_r1 : List Cond := [Cond.methodLink RX5 169 yX5_isCell, Cond.instanceMethod yX5_isCell, Cond.selects RX5 yX5_isCell yX5_isCell, Cond.initialized RX5, Cond.code yX5_isCell cX5_isCell 3 (some .boolean), Cond.fieldLink RX5 28 "LayerSounderModel" "l" "I", Cond.methodLink RX5 91 yX5_isPing, Cond.instanceMethod yX5_isPing, Cond.selects RX5 yX5_isPing yX5_isPing, Cond.code yX5_isPing cX5_isPing 2 (some .boolean), Cond.fieldLink RX5 82 "LayerSounderModel" "pings" "I", Cond.methodLink RX5 58 yX5_in, Cond.static yX5_in, Cond.code yX5_in cX5_in 6 (some .boolean), Cond.methodLink RX5 172 yX5_fateOf, Cond.instanceMethod yX5_fateOf, Cond.selects RX5 yX5_fateOf yX5_fateOf, Cond.code yX5_fateOf cX5_fateOf 3 (some .int), Cond.fieldLink RX5 138 "LayerSounderModel" "edge" "I", Cond.fieldLink RX5 41 "LayerSounderModel" "depths" "[I", Cond.fieldLink RX5 108 "LayerSounderModel" "lost" "I", Cond.fieldLink RX5 44 "LayerSounderModel" "takes" "Z", Cond.fieldLink RX5 117 "LayerSounderModel" "odd" "I", Cond.fieldLink RX5 48 "LayerSounderModel" "bound" "I"]
def wsX5_fate_r2 : List Cond := [Cond.fieldLink RX5 111 "LayerSounderModel" "along" "I", Cond.constantLong RX5 128 (20000), Cond.fieldLink RX5 114 "LayerSounderModel" "across" "I", Cond.methodLink RX5 94 yX5_findOwn, Cond.instanceMethod yX5_findOwn, Cond.selects RX5 yX5_findOwn yX5_findOwn, Cond.code yX5_findOwn cX5_findOwn 2 (some .boolean), Cond.fieldLink RX5 141 "LayerSounderModel" "ownX" "J", Cond.fieldLink RX5 144 "LayerSounderModel" "ownY" "J", Cond.fieldLink RX5 130 "LayerSounderModel" "motion" "I", Cond.fieldLink RX5 97 "LayerSounderModel" "turnedX" "J", Cond.fieldLink RX5 101 "LayerSounderModel" "turnedY" "J", Cond.constantLong RX5 155 (4225), Cond.fieldLink RX5 35 "LayerSounderModel" "xs" "[I", Cond.fieldLink RX5 38 "LayerSounderModel" "ys" "[I", Cond.methodLink RX5 147 yX5_reading, Cond.instanceMethod yX5_reading, Cond.selects RX5 yX5_reading yX5_reading, Cond.code yX5_reading cX5_reading 3 (some .int), Cond.fieldLink RX5 16 "LayerSounderModel" "forms" "[I", Cond.fieldLink RX5 19 "LayerSounderModel" "sizes" "[I", Cond.fieldLink RX5 22 "LayerSounderModel" "items" "[I", Cond.methodLink RX5 77 yX5_told, Cond.static yX5_told]
def wsX5_fate_r3 : List Cond := [Cond.code yX5_told cX5_told 1 (some .int), Cond.methodLink RX5 122 yX5_answers, Cond.instanceMethod yX5_answers, Cond.selects RX5 yX5_answers yX5_answers, Cond.code yX5_answers cX5_answers 9 (some .boolean), Cond.methodLink RX5 151 yX5_bring, Cond.instanceMethod yX5_bring, Cond.selects RX5 yX5_bring yX5_bring, Cond.code yX5_bring cX5_bring 2 none, Cond.fieldLink RX5 133 "LayerSounderModel" "skew" "I", Cond.fieldLink RX5 32 "LayerSounderModel" "headings" "[I", Cond.methodLink RX5 104 yX5_turn, Cond.instanceMethod yX5_turn, Cond.selects RX5 yX5_turn yX5_turn, Cond.code yX5_turn cX5_turn 13 none, Cond.fieldLink RX5 7 "LayerSounderModel" "cs" "[I", Cond.fieldLink RX5 13 "LayerSounderModel" "ss" "[I", Cond.methodLink RX5 161 yX5_cellAnswers, Cond.instanceMethod yX5_cellAnswers, Cond.selects RX5 yX5_cellAnswers yX5_cellAnswers, Cond.code yX5_cellAnswers cX5_cellAnswers 4 (some .boolean), Cond.methodLink RX5 165 yX5_amount, Cond.static yX5_amount, Cond.code yX5_amount cX5_amount 2 (some .long)]
def wsX5_fate : List Cond := .code yX5_fate cX5_fate 3 (some .int) :: ((wsX5_fate_r1 ++ (wsX5_fate_r2 ++ wsX5_fate_r3)) ++ wsX50)
def wsX5_findPace_r1 : List Cond := [Cond.fieldLink RX5 97 "LayerSounderModel" "turnedX" "J", Cond.fieldLink RX5 141 "LayerSounderModel" "ownX" "J", Cond.fieldLink RX5 175 "LayerSounderModel" "paceX" "J", Cond.fieldLink RX5 101 "LayerSounderModel" "turnedY" "J", Cond.fieldLink RX5 144 "LayerSounderModel" "ownY" "J", Cond.fieldLink RX5 178 "LayerSounderModel" "paceY" "J", Cond.methodLink RX5 94 yX5_findOwn, Cond.instanceMethod yX5_findOwn, Cond.selects RX5 yX5_findOwn yX5_findOwn, Cond.initialized RX5, Cond.code yX5_findOwn cX5_findOwn 2 (some .boolean), Cond.fieldLink RX5 130 "LayerSounderModel" "motion" "I", Cond.fieldLink RX5 82 "LayerSounderModel" "pings" "I", Cond.constantLong RX5 155 (4225), Cond.fieldLink RX5 35 "LayerSounderModel" "xs" "[I", Cond.fieldLink RX5 38 "LayerSounderModel" "ys" "[I", Cond.methodLink RX5 147 yX5_reading, Cond.instanceMethod yX5_reading, Cond.selects RX5 yX5_reading yX5_reading, Cond.code yX5_reading cX5_reading 3 (some .int), Cond.fieldLink RX5 16 "LayerSounderModel" "forms" "[I", Cond.fieldLink RX5 19 "LayerSounderModel" "sizes" "[I", Cond.fieldLink RX5 22 "LayerSounderModel" "items" "[I", Cond.methodLink RX5 77 yX5_told]
def wsX5_findPace_r2 : List Cond := [Cond.static yX5_told, Cond.code yX5_told cX5_told 1 (some .int), Cond.methodLink RX5 122 yX5_answers, Cond.instanceMethod yX5_answers, Cond.selects RX5 yX5_answers yX5_answers, Cond.code yX5_answers cX5_answers 9 (some .boolean), Cond.fieldLink RX5 108 "LayerSounderModel" "lost" "I", Cond.fieldLink RX5 111 "LayerSounderModel" "along" "I", Cond.fieldLink RX5 114 "LayerSounderModel" "across" "I", Cond.fieldLink RX5 117 "LayerSounderModel" "odd" "I", Cond.methodLink RX5 151 yX5_bring, Cond.instanceMethod yX5_bring, Cond.selects RX5 yX5_bring yX5_bring, Cond.code yX5_bring cX5_bring 2 none, Cond.fieldLink RX5 133 "LayerSounderModel" "skew" "I", Cond.fieldLink RX5 32 "LayerSounderModel" "headings" "[I", Cond.methodLink RX5 104 yX5_turn, Cond.instanceMethod yX5_turn, Cond.selects RX5 yX5_turn yX5_turn, Cond.code yX5_turn cX5_turn 13 none, Cond.fieldLink RX5 7 "LayerSounderModel" "cs" "[I", Cond.fieldLink RX5 13 "LayerSounderModel" "ss" "[I", Cond.methodLink RX5 161 yX5_cellAnswers, Cond.instanceMethod yX5_cellAnswers]
def wsX5_findPace_r3 : List Cond := [Cond.selects RX5 yX5_cellAnswers yX5_cellAnswers, Cond.code yX5_cellAnswers cX5_cellAnswers 4 (some .boolean), Cond.fieldLink RX5 28 "LayerSounderModel" "l" "I"]
def wsX5_findPace : List Cond := .code yX5_findPace cX5_findPace 3 (some .boolean) :: ((wsX5_findPace_r1 ++ (wsX5_findPace_r2 ++ wsX5_findPace_r3)) ++ wsX50)
def wsX5_pace_r1 : List Cond := [Cond.fieldLink RX5 175 "LayerSounderModel" "paceX" "J", Cond.fieldLink RX5 178 "LayerSounderModel" "paceY" "J", Cond.methodLink RX5 169 yX5_isCell, Cond.instanceMethod yX5_isCell, Cond.selects RX5 yX5_isCell yX5_isCell, Cond.initialized RX5, Cond.code yX5_isCell cX5_isCell 3 (some .boolean), Cond.fieldLink RX5 28 "LayerSounderModel" "l" "I", Cond.methodLink RX5 91 yX5_isPing, Cond.instanceMethod yX5_isPing, Cond.selects RX5 yX5_isPing yX5_isPing, Cond.code yX5_isPing cX5_isPing 2 (some .boolean), Cond.fieldLink RX5 82 "LayerSounderModel" "pings" "I", Cond.methodLink RX5 58 yX5_in, Cond.static yX5_in, Cond.code yX5_in cX5_in 6 (some .boolean), Cond.methodLink RX5 157 yX5_no, Cond.static yX5_no, Cond.code yX5_no cX5_no 1 (some .long), Cond.constantLong RX5 51 (-9223372036854775808), Cond.methodLink RX5 181 yX5_findPace, Cond.instanceMethod yX5_findPace, Cond.selects RX5 yX5_findPace yX5_findPace, Cond.code yX5_findPace cX5_findPace 3 (some .boolean)]
def wsX5_pace_r2 : List Cond := [Cond.fieldLink RX5 97 "LayerSounderModel" "turnedX" "J", Cond.fieldLink RX5 141 "LayerSounderModel" "ownX" "J", Cond.fieldLink RX5 101 "LayerSounderModel" "turnedY" "J", Cond.fieldLink RX5 144 "LayerSounderModel" "ownY" "J", Cond.methodLink RX5 94 yX5_findOwn, Cond.instanceMethod yX5_findOwn, Cond.selects RX5 yX5_findOwn yX5_findOwn, Cond.code yX5_findOwn cX5_findOwn 2 (some .boolean), Cond.fieldLink RX5 130 "LayerSounderModel" "motion" "I", Cond.constantLong RX5 155 (4225), Cond.fieldLink RX5 35 "LayerSounderModel" "xs" "[I", Cond.fieldLink RX5 38 "LayerSounderModel" "ys" "[I", Cond.methodLink RX5 147 yX5_reading, Cond.instanceMethod yX5_reading, Cond.selects RX5 yX5_reading yX5_reading, Cond.code yX5_reading cX5_reading 3 (some .int), Cond.fieldLink RX5 16 "LayerSounderModel" "forms" "[I", Cond.fieldLink RX5 19 "LayerSounderModel" "sizes" "[I", Cond.fieldLink RX5 22 "LayerSounderModel" "items" "[I", Cond.methodLink RX5 77 yX5_told, Cond.static yX5_told, Cond.code yX5_told cX5_told 1 (some .int), Cond.methodLink RX5 122 yX5_answers, Cond.instanceMethod yX5_answers]
def wsX5_pace_r3 : List Cond := [Cond.selects RX5 yX5_answers yX5_answers, Cond.code yX5_answers cX5_answers 9 (some .boolean), Cond.fieldLink RX5 108 "LayerSounderModel" "lost" "I", Cond.fieldLink RX5 111 "LayerSounderModel" "along" "I", Cond.fieldLink RX5 114 "LayerSounderModel" "across" "I", Cond.fieldLink RX5 117 "LayerSounderModel" "odd" "I", Cond.methodLink RX5 151 yX5_bring, Cond.instanceMethod yX5_bring, Cond.selects RX5 yX5_bring yX5_bring, Cond.code yX5_bring cX5_bring 2 none, Cond.fieldLink RX5 133 "LayerSounderModel" "skew" "I", Cond.fieldLink RX5 32 "LayerSounderModel" "headings" "[I", Cond.methodLink RX5 104 yX5_turn, Cond.instanceMethod yX5_turn, Cond.selects RX5 yX5_turn yX5_turn, Cond.code yX5_turn cX5_turn 13 none, Cond.fieldLink RX5 7 "LayerSounderModel" "cs" "[I", Cond.fieldLink RX5 13 "LayerSounderModel" "ss" "[I", Cond.methodLink RX5 161 yX5_cellAnswers, Cond.instanceMethod yX5_cellAnswers, Cond.selects RX5 yX5_cellAnswers yX5_cellAnswers, Cond.code yX5_cellAnswers cX5_cellAnswers 4 (some .boolean)]
def wsX5_pace : List Cond := .code yX5_pace cX5_pace 4 (some .long) :: ((wsX5_pace_r1 ++ (wsX5_pace_r2 ++ wsX5_pace_r3)) ++ wsX50)
def wsX5_fates_r1 : List Cond := [Cond.constantLong RX5 184 (6), Cond.fieldLink RX5 82 "LayerSounderModel" "pings" "I", Cond.fieldLink RX5 28 "LayerSounderModel" "l" "I", Cond.methodLink RX5 58 yX5_in, Cond.static yX5_in, Cond.initialized RX5, Cond.code yX5_in cX5_in 6 (some .boolean), Cond.methodLink RX5 172 yX5_fateOf, Cond.instanceMethod yX5_fateOf, Cond.selects RX5 yX5_fateOf yX5_fateOf, Cond.code yX5_fateOf cX5_fateOf 3 (some .int), Cond.fieldLink RX5 138 "LayerSounderModel" "edge" "I", Cond.fieldLink RX5 41 "LayerSounderModel" "depths" "[I", Cond.fieldLink RX5 108 "LayerSounderModel" "lost" "I", Cond.fieldLink RX5 44 "LayerSounderModel" "takes" "Z", Cond.fieldLink RX5 117 "LayerSounderModel" "odd" "I", Cond.fieldLink RX5 48 "LayerSounderModel" "bound" "I", Cond.fieldLink RX5 111 "LayerSounderModel" "along" "I", Cond.constantLong RX5 128 (20000), Cond.fieldLink RX5 114 "LayerSounderModel" "across" "I", Cond.methodLink RX5 94 yX5_findOwn, Cond.instanceMethod yX5_findOwn, Cond.selects RX5 yX5_findOwn yX5_findOwn, Cond.code yX5_findOwn cX5_findOwn 2 (some .boolean)]
def wsX5_fates_r2 : List Cond := [Cond.fieldLink RX5 141 "LayerSounderModel" "ownX" "J", Cond.fieldLink RX5 144 "LayerSounderModel" "ownY" "J", Cond.fieldLink RX5 130 "LayerSounderModel" "motion" "I", Cond.fieldLink RX5 97 "LayerSounderModel" "turnedX" "J", Cond.fieldLink RX5 101 "LayerSounderModel" "turnedY" "J", Cond.constantLong RX5 155 (4225), Cond.fieldLink RX5 35 "LayerSounderModel" "xs" "[I", Cond.fieldLink RX5 38 "LayerSounderModel" "ys" "[I", Cond.methodLink RX5 147 yX5_reading, Cond.instanceMethod yX5_reading, Cond.selects RX5 yX5_reading yX5_reading, Cond.code yX5_reading cX5_reading 3 (some .int), Cond.fieldLink RX5 16 "LayerSounderModel" "forms" "[I", Cond.fieldLink RX5 19 "LayerSounderModel" "sizes" "[I", Cond.fieldLink RX5 22 "LayerSounderModel" "items" "[I", Cond.methodLink RX5 77 yX5_told, Cond.static yX5_told, Cond.code yX5_told cX5_told 1 (some .int), Cond.methodLink RX5 122 yX5_answers, Cond.instanceMethod yX5_answers, Cond.selects RX5 yX5_answers yX5_answers, Cond.code yX5_answers cX5_answers 9 (some .boolean), Cond.methodLink RX5 151 yX5_bring, Cond.instanceMethod yX5_bring]
def wsX5_fates_r3 : List Cond := [Cond.selects RX5 yX5_bring yX5_bring, Cond.code yX5_bring cX5_bring 2 none, Cond.fieldLink RX5 133 "LayerSounderModel" "skew" "I", Cond.fieldLink RX5 32 "LayerSounderModel" "headings" "[I", Cond.methodLink RX5 104 yX5_turn, Cond.instanceMethod yX5_turn, Cond.selects RX5 yX5_turn yX5_turn, Cond.code yX5_turn cX5_turn 13 none, Cond.fieldLink RX5 7 "LayerSounderModel" "cs" "[I", Cond.fieldLink RX5 13 "LayerSounderModel" "ss" "[I", Cond.methodLink RX5 161 yX5_cellAnswers, Cond.instanceMethod yX5_cellAnswers, Cond.selects RX5 yX5_cellAnswers yX5_cellAnswers, Cond.code yX5_cellAnswers cX5_cellAnswers 4 (some .boolean), Cond.methodLink RX5 165 yX5_amount, Cond.static yX5_amount, Cond.code yX5_amount cX5_amount 2 (some .long)]
def wsX5_fates : List Cond := .code yX5_fates cX5_fates 5 (some .int) :: ((wsX5_fates_r1 ++ (wsX5_fates_r2 ++ wsX5_fates_r3)) ++ wsX50)
def wsX5_gather_r1 : List Cond := [Cond.fieldLink RX5 186 "LayerSounderModel" "many" "J", Cond.fieldLink RX5 189 "LayerSounderModel" "sumX" "J", Cond.fieldLink RX5 192 "LayerSounderModel" "sumY" "J", Cond.fieldLink RX5 175 "LayerSounderModel" "paceX" "J", Cond.fieldLink RX5 178 "LayerSounderModel" "paceY" "J", Cond.methodLink RX5 172 yX5_fateOf, Cond.instanceMethod yX5_fateOf, Cond.selects RX5 yX5_fateOf yX5_fateOf, Cond.initialized RX5, Cond.code yX5_fateOf cX5_fateOf 3 (some .int), Cond.fieldLink RX5 138 "LayerSounderModel" "edge" "I", Cond.fieldLink RX5 41 "LayerSounderModel" "depths" "[I", Cond.fieldLink RX5 108 "LayerSounderModel" "lost" "I", Cond.fieldLink RX5 44 "LayerSounderModel" "takes" "Z", Cond.fieldLink RX5 117 "LayerSounderModel" "odd" "I", Cond.fieldLink RX5 48 "LayerSounderModel" "bound" "I", Cond.fieldLink RX5 111 "LayerSounderModel" "along" "I", Cond.constantLong RX5 128 (20000), Cond.fieldLink RX5 114 "LayerSounderModel" "across" "I", Cond.methodLink RX5 94 yX5_findOwn, Cond.instanceMethod yX5_findOwn, Cond.selects RX5 yX5_findOwn yX5_findOwn, Cond.code yX5_findOwn cX5_findOwn 2 (some .boolean), Cond.fieldLink RX5 141 "LayerSounderModel" "ownX" "J"]
def wsX5_gather_r2 : List Cond := [Cond.fieldLink RX5 144 "LayerSounderModel" "ownY" "J", Cond.fieldLink RX5 130 "LayerSounderModel" "motion" "I", Cond.fieldLink RX5 97 "LayerSounderModel" "turnedX" "J", Cond.fieldLink RX5 101 "LayerSounderModel" "turnedY" "J", Cond.fieldLink RX5 82 "LayerSounderModel" "pings" "I", Cond.constantLong RX5 155 (4225), Cond.fieldLink RX5 35 "LayerSounderModel" "xs" "[I", Cond.fieldLink RX5 38 "LayerSounderModel" "ys" "[I", Cond.methodLink RX5 147 yX5_reading, Cond.instanceMethod yX5_reading, Cond.selects RX5 yX5_reading yX5_reading, Cond.code yX5_reading cX5_reading 3 (some .int), Cond.fieldLink RX5 16 "LayerSounderModel" "forms" "[I", Cond.fieldLink RX5 19 "LayerSounderModel" "sizes" "[I", Cond.fieldLink RX5 22 "LayerSounderModel" "items" "[I", Cond.methodLink RX5 77 yX5_told, Cond.static yX5_told, Cond.code yX5_told cX5_told 1 (some .int), Cond.methodLink RX5 122 yX5_answers, Cond.instanceMethod yX5_answers, Cond.selects RX5 yX5_answers yX5_answers, Cond.code yX5_answers cX5_answers 9 (some .boolean), Cond.methodLink RX5 151 yX5_bring, Cond.instanceMethod yX5_bring]
def wsX5_gather_r3 : List Cond := [Cond.selects RX5 yX5_bring yX5_bring, Cond.code yX5_bring cX5_bring 2 none, Cond.fieldLink RX5 133 "LayerSounderModel" "skew" "I", Cond.fieldLink RX5 32 "LayerSounderModel" "headings" "[I", Cond.methodLink RX5 104 yX5_turn, Cond.instanceMethod yX5_turn, Cond.selects RX5 yX5_turn yX5_turn, Cond.code yX5_turn cX5_turn 13 none, Cond.fieldLink RX5 7 "LayerSounderModel" "cs" "[I", Cond.fieldLink RX5 13 "LayerSounderModel" "ss" "[I", Cond.methodLink RX5 161 yX5_cellAnswers, Cond.instanceMethod yX5_cellAnswers, Cond.selects RX5 yX5_cellAnswers yX5_cellAnswers, Cond.code yX5_cellAnswers cX5_cellAnswers 4 (some .boolean), Cond.fieldLink RX5 28 "LayerSounderModel" "l" "I", Cond.methodLink RX5 165 yX5_amount, Cond.static yX5_amount, Cond.code yX5_amount cX5_amount 2 (some .long), Cond.methodLink RX5 181 yX5_findPace, Cond.instanceMethod yX5_findPace, Cond.selects RX5 yX5_findPace yX5_findPace, Cond.code yX5_findPace cX5_findPace 3 (some .boolean)]
def wsX5_gather : List Cond := .code yX5_gather cX5_gather 7 none :: ((wsX5_gather_r1 ++ (wsX5_gather_r2 ++ wsX5_gather_r3)) ++ wsX50)
def wsX5_isRow : List Cond := .code yX5_isRow cX5_isRow 3 (some .boolean) :: ([.methodLink RX5 91 yX5_isPing, .instanceMethod yX5_isPing, .selects RX5 yX5_isPing yX5_isPing, .initialized RX5, .code yX5_isPing cX5_isPing 2 (some .boolean), .fieldLink RX5 82 "LayerSounderModel" "pings" "I", .methodLink RX5 58 yX5_in, .static yX5_in, .code yX5_in cX5_in 6 (some .boolean)] ++ wsX50)
def wsX5_isBox : List Cond := .code yX5_isBox cX5_isBox 5 (some .boolean) :: ([.fieldLink RX5 28 "LayerSounderModel" "l" "I", .methodLink RX5 195 yX5_isRow, .instanceMethod yX5_isRow, .selects RX5 yX5_isRow yX5_isRow, .initialized RX5, .code yX5_isRow cX5_isRow 3 (some .boolean), .methodLink RX5 91 yX5_isPing, .instanceMethod yX5_isPing, .selects RX5 yX5_isPing yX5_isPing, .code yX5_isPing cX5_isPing 2 (some .boolean), .fieldLink RX5 82 "LayerSounderModel" "pings" "I", .methodLink RX5 58 yX5_in, .static yX5_in, .code yX5_in cX5_in 6 (some .boolean)] ++ wsX50)
def wsX5_box_r1 : List Cond := [Cond.constantLong RX5 66 (2), Cond.fieldLink RX5 186 "LayerSounderModel" "many" "J", Cond.fieldLink RX5 189 "LayerSounderModel" "sumX" "J", Cond.fieldLink RX5 192 "LayerSounderModel" "sumY" "J", Cond.methodLink RX5 198 yX5_isBox, Cond.instanceMethod yX5_isBox, Cond.selects RX5 yX5_isBox yX5_isBox, Cond.initialized RX5, Cond.code yX5_isBox cX5_isBox 5 (some .boolean), Cond.fieldLink RX5 28 "LayerSounderModel" "l" "I", Cond.methodLink RX5 195 yX5_isRow, Cond.instanceMethod yX5_isRow, Cond.selects RX5 yX5_isRow yX5_isRow, Cond.code yX5_isRow cX5_isRow 3 (some .boolean), Cond.methodLink RX5 91 yX5_isPing, Cond.instanceMethod yX5_isPing, Cond.selects RX5 yX5_isPing yX5_isPing, Cond.code yX5_isPing cX5_isPing 2 (some .boolean), Cond.fieldLink RX5 82 "LayerSounderModel" "pings" "I", Cond.methodLink RX5 58 yX5_in, Cond.static yX5_in, Cond.code yX5_in cX5_in 6 (some .boolean), Cond.methodLink RX5 157 yX5_no, Cond.static yX5_no]
def wsX5_box_r2 : List Cond := [Cond.code yX5_no cX5_no 1 (some .long), Cond.constantLong RX5 51 (-9223372036854775808), Cond.methodLink RX5 201 yX5_gather, Cond.instanceMethod yX5_gather, Cond.selects RX5 yX5_gather yX5_gather, Cond.code yX5_gather cX5_gather 7 none, Cond.fieldLink RX5 175 "LayerSounderModel" "paceX" "J", Cond.fieldLink RX5 178 "LayerSounderModel" "paceY" "J", Cond.methodLink RX5 172 yX5_fateOf, Cond.instanceMethod yX5_fateOf, Cond.selects RX5 yX5_fateOf yX5_fateOf, Cond.code yX5_fateOf cX5_fateOf 3 (some .int), Cond.fieldLink RX5 138 "LayerSounderModel" "edge" "I", Cond.fieldLink RX5 41 "LayerSounderModel" "depths" "[I", Cond.fieldLink RX5 108 "LayerSounderModel" "lost" "I", Cond.fieldLink RX5 44 "LayerSounderModel" "takes" "Z", Cond.fieldLink RX5 117 "LayerSounderModel" "odd" "I", Cond.fieldLink RX5 48 "LayerSounderModel" "bound" "I", Cond.fieldLink RX5 111 "LayerSounderModel" "along" "I", Cond.constantLong RX5 128 (20000), Cond.fieldLink RX5 114 "LayerSounderModel" "across" "I", Cond.methodLink RX5 94 yX5_findOwn, Cond.instanceMethod yX5_findOwn, Cond.selects RX5 yX5_findOwn yX5_findOwn]
def wsX5_box_r3 : List Cond := [Cond.code yX5_findOwn cX5_findOwn 2 (some .boolean), Cond.fieldLink RX5 141 "LayerSounderModel" "ownX" "J", Cond.fieldLink RX5 144 "LayerSounderModel" "ownY" "J", Cond.fieldLink RX5 130 "LayerSounderModel" "motion" "I", Cond.fieldLink RX5 97 "LayerSounderModel" "turnedX" "J", Cond.fieldLink RX5 101 "LayerSounderModel" "turnedY" "J", Cond.constantLong RX5 155 (4225), Cond.fieldLink RX5 35 "LayerSounderModel" "xs" "[I", Cond.fieldLink RX5 38 "LayerSounderModel" "ys" "[I", Cond.methodLink RX5 147 yX5_reading, Cond.instanceMethod yX5_reading, Cond.selects RX5 yX5_reading yX5_reading, Cond.code yX5_reading cX5_reading 3 (some .int), Cond.fieldLink RX5 16 "LayerSounderModel" "forms" "[I", Cond.fieldLink RX5 19 "LayerSounderModel" "sizes" "[I", Cond.fieldLink RX5 22 "LayerSounderModel" "items" "[I", Cond.methodLink RX5 77 yX5_told, Cond.static yX5_told, Cond.code yX5_told cX5_told 1 (some .int), Cond.methodLink RX5 122 yX5_answers, Cond.instanceMethod yX5_answers, Cond.selects RX5 yX5_answers yX5_answers, Cond.code yX5_answers cX5_answers 9 (some .boolean), Cond.methodLink RX5 151 yX5_bring]
def wsX5_box_r4 : List Cond := [Cond.instanceMethod yX5_bring, Cond.selects RX5 yX5_bring yX5_bring, Cond.code yX5_bring cX5_bring 2 none, Cond.fieldLink RX5 133 "LayerSounderModel" "skew" "I", Cond.fieldLink RX5 32 "LayerSounderModel" "headings" "[I", Cond.methodLink RX5 104 yX5_turn, Cond.instanceMethod yX5_turn, Cond.selects RX5 yX5_turn yX5_turn, Cond.code yX5_turn cX5_turn 13 none, Cond.fieldLink RX5 7 "LayerSounderModel" "cs" "[I", Cond.fieldLink RX5 13 "LayerSounderModel" "ss" "[I", Cond.methodLink RX5 161 yX5_cellAnswers, Cond.instanceMethod yX5_cellAnswers, Cond.selects RX5 yX5_cellAnswers yX5_cellAnswers, Cond.code yX5_cellAnswers cX5_cellAnswers 4 (some .boolean), Cond.methodLink RX5 165 yX5_amount, Cond.static yX5_amount, Cond.code yX5_amount cX5_amount 2 (some .long), Cond.methodLink RX5 181 yX5_findPace, Cond.instanceMethod yX5_findPace, Cond.selects RX5 yX5_findPace yX5_findPace, Cond.code yX5_findPace cX5_findPace 3 (some .boolean)]
def wsX5_box : List Cond := .code yX5_box cX5_box 6 (some .long) :: ((wsX5_box_r1 ++ (wsX5_box_r2 ++ (wsX5_box_r3 ++ wsX5_box_r4))) ++ wsX50)
def wsX5_mean_r1 : List Cond := [Cond.constantLong RX5 66 (2), Cond.fieldLink RX5 186 "LayerSounderModel" "many" "J", Cond.fieldLink RX5 189 "LayerSounderModel" "sumX" "J", Cond.fieldLink RX5 192 "LayerSounderModel" "sumY" "J", Cond.methodLink RX5 198 yX5_isBox, Cond.instanceMethod yX5_isBox, Cond.selects RX5 yX5_isBox yX5_isBox, Cond.initialized RX5, Cond.code yX5_isBox cX5_isBox 5 (some .boolean), Cond.fieldLink RX5 28 "LayerSounderModel" "l" "I", Cond.methodLink RX5 195 yX5_isRow, Cond.instanceMethod yX5_isRow, Cond.selects RX5 yX5_isRow yX5_isRow, Cond.code yX5_isRow cX5_isRow 3 (some .boolean), Cond.methodLink RX5 91 yX5_isPing, Cond.instanceMethod yX5_isPing, Cond.selects RX5 yX5_isPing yX5_isPing, Cond.code yX5_isPing cX5_isPing 2 (some .boolean), Cond.fieldLink RX5 82 "LayerSounderModel" "pings" "I", Cond.methodLink RX5 58 yX5_in, Cond.static yX5_in, Cond.code yX5_in cX5_in 6 (some .boolean), Cond.methodLink RX5 157 yX5_no, Cond.static yX5_no]
def wsX5_mean_r2 : List Cond := [Cond.code yX5_no cX5_no 1 (some .long), Cond.constantLong RX5 51 (-9223372036854775808), Cond.methodLink RX5 201 yX5_gather, Cond.instanceMethod yX5_gather, Cond.selects RX5 yX5_gather yX5_gather, Cond.code yX5_gather cX5_gather 7 none, Cond.fieldLink RX5 175 "LayerSounderModel" "paceX" "J", Cond.fieldLink RX5 178 "LayerSounderModel" "paceY" "J", Cond.methodLink RX5 172 yX5_fateOf, Cond.instanceMethod yX5_fateOf, Cond.selects RX5 yX5_fateOf yX5_fateOf, Cond.code yX5_fateOf cX5_fateOf 3 (some .int), Cond.fieldLink RX5 138 "LayerSounderModel" "edge" "I", Cond.fieldLink RX5 41 "LayerSounderModel" "depths" "[I", Cond.fieldLink RX5 108 "LayerSounderModel" "lost" "I", Cond.fieldLink RX5 44 "LayerSounderModel" "takes" "Z", Cond.fieldLink RX5 117 "LayerSounderModel" "odd" "I", Cond.fieldLink RX5 48 "LayerSounderModel" "bound" "I", Cond.fieldLink RX5 111 "LayerSounderModel" "along" "I", Cond.constantLong RX5 128 (20000), Cond.fieldLink RX5 114 "LayerSounderModel" "across" "I", Cond.methodLink RX5 94 yX5_findOwn, Cond.instanceMethod yX5_findOwn, Cond.selects RX5 yX5_findOwn yX5_findOwn]
def wsX5_mean_r3 : List Cond := [Cond.code yX5_findOwn cX5_findOwn 2 (some .boolean), Cond.fieldLink RX5 141 "LayerSounderModel" "ownX" "J", Cond.fieldLink RX5 144 "LayerSounderModel" "ownY" "J", Cond.fieldLink RX5 130 "LayerSounderModel" "motion" "I", Cond.fieldLink RX5 97 "LayerSounderModel" "turnedX" "J", Cond.fieldLink RX5 101 "LayerSounderModel" "turnedY" "J", Cond.constantLong RX5 155 (4225), Cond.fieldLink RX5 35 "LayerSounderModel" "xs" "[I", Cond.fieldLink RX5 38 "LayerSounderModel" "ys" "[I", Cond.methodLink RX5 147 yX5_reading, Cond.instanceMethod yX5_reading, Cond.selects RX5 yX5_reading yX5_reading, Cond.code yX5_reading cX5_reading 3 (some .int), Cond.fieldLink RX5 16 "LayerSounderModel" "forms" "[I", Cond.fieldLink RX5 19 "LayerSounderModel" "sizes" "[I", Cond.fieldLink RX5 22 "LayerSounderModel" "items" "[I", Cond.methodLink RX5 77 yX5_told, Cond.static yX5_told, Cond.code yX5_told cX5_told 1 (some .int), Cond.methodLink RX5 122 yX5_answers, Cond.instanceMethod yX5_answers, Cond.selects RX5 yX5_answers yX5_answers, Cond.code yX5_answers cX5_answers 9 (some .boolean), Cond.methodLink RX5 151 yX5_bring]
def wsX5_mean_r4 : List Cond := [Cond.instanceMethod yX5_bring, Cond.selects RX5 yX5_bring yX5_bring, Cond.code yX5_bring cX5_bring 2 none, Cond.fieldLink RX5 133 "LayerSounderModel" "skew" "I", Cond.fieldLink RX5 32 "LayerSounderModel" "headings" "[I", Cond.methodLink RX5 104 yX5_turn, Cond.instanceMethod yX5_turn, Cond.selects RX5 yX5_turn yX5_turn, Cond.code yX5_turn cX5_turn 13 none, Cond.fieldLink RX5 7 "LayerSounderModel" "cs" "[I", Cond.fieldLink RX5 13 "LayerSounderModel" "ss" "[I", Cond.methodLink RX5 161 yX5_cellAnswers, Cond.instanceMethod yX5_cellAnswers, Cond.selects RX5 yX5_cellAnswers yX5_cellAnswers, Cond.code yX5_cellAnswers cX5_cellAnswers 4 (some .boolean), Cond.methodLink RX5 165 yX5_amount, Cond.static yX5_amount, Cond.code yX5_amount cX5_amount 2 (some .long), Cond.methodLink RX5 181 yX5_findPace, Cond.instanceMethod yX5_findPace, Cond.selects RX5 yX5_findPace yX5_findPace, Cond.code yX5_findPace cX5_findPace 3 (some .boolean)]
def wsX5_mean : List Cond := .code yX5_mean cX5_mean 10 (some .long) :: ((wsX5_mean_r1 ++ (wsX5_mean_r2 ++ (wsX5_mean_r3 ++ wsX5_mean_r4))) ++ wsX50)
def wsX5_across_r1 : List Cond := [Cond.fieldLink RX5 35 "LayerSounderModel" "xs" "[I", Cond.fieldLink RX5 38 "LayerSounderModel" "ys" "[I", Cond.fieldLink RX5 28 "LayerSounderModel" "l" "I", Cond.fieldLink RX5 175 "LayerSounderModel" "paceX" "J", Cond.fieldLink RX5 178 "LayerSounderModel" "paceY" "J", Cond.fieldLink RX5 41 "LayerSounderModel" "depths" "[I", Cond.methodLink RX5 172 yX5_fateOf, Cond.instanceMethod yX5_fateOf, Cond.selects RX5 yX5_fateOf yX5_fateOf, Cond.initialized RX5, Cond.code yX5_fateOf cX5_fateOf 3 (some .int), Cond.fieldLink RX5 138 "LayerSounderModel" "edge" "I", Cond.fieldLink RX5 108 "LayerSounderModel" "lost" "I", Cond.fieldLink RX5 44 "LayerSounderModel" "takes" "Z", Cond.fieldLink RX5 117 "LayerSounderModel" "odd" "I", Cond.fieldLink RX5 48 "LayerSounderModel" "bound" "I", Cond.fieldLink RX5 111 "LayerSounderModel" "along" "I", Cond.constantLong RX5 128 (20000), Cond.fieldLink RX5 114 "LayerSounderModel" "across" "I", Cond.methodLink RX5 94 yX5_findOwn, Cond.instanceMethod yX5_findOwn, Cond.selects RX5 yX5_findOwn yX5_findOwn, Cond.code yX5_findOwn cX5_findOwn 2 (some .boolean), Cond.fieldLink RX5 141 "LayerSounderModel" "ownX" "J"]
def wsX5_across_r2 : List Cond := [Cond.fieldLink RX5 144 "LayerSounderModel" "ownY" "J", Cond.fieldLink RX5 130 "LayerSounderModel" "motion" "I", Cond.fieldLink RX5 97 "LayerSounderModel" "turnedX" "J", Cond.fieldLink RX5 101 "LayerSounderModel" "turnedY" "J", Cond.fieldLink RX5 82 "LayerSounderModel" "pings" "I", Cond.constantLong RX5 155 (4225), Cond.methodLink RX5 147 yX5_reading, Cond.instanceMethod yX5_reading, Cond.selects RX5 yX5_reading yX5_reading, Cond.code yX5_reading cX5_reading 3 (some .int), Cond.fieldLink RX5 16 "LayerSounderModel" "forms" "[I", Cond.fieldLink RX5 19 "LayerSounderModel" "sizes" "[I", Cond.fieldLink RX5 22 "LayerSounderModel" "items" "[I", Cond.methodLink RX5 77 yX5_told, Cond.static yX5_told, Cond.code yX5_told cX5_told 1 (some .int), Cond.methodLink RX5 122 yX5_answers, Cond.instanceMethod yX5_answers, Cond.selects RX5 yX5_answers yX5_answers, Cond.code yX5_answers cX5_answers 9 (some .boolean), Cond.methodLink RX5 151 yX5_bring, Cond.instanceMethod yX5_bring, Cond.selects RX5 yX5_bring yX5_bring, Cond.code yX5_bring cX5_bring 2 none]
def wsX5_across_r3 : List Cond := [Cond.fieldLink RX5 133 "LayerSounderModel" "skew" "I", Cond.fieldLink RX5 32 "LayerSounderModel" "headings" "[I", Cond.methodLink RX5 104 yX5_turn, Cond.instanceMethod yX5_turn, Cond.selects RX5 yX5_turn yX5_turn, Cond.code yX5_turn cX5_turn 13 none, Cond.fieldLink RX5 7 "LayerSounderModel" "cs" "[I", Cond.fieldLink RX5 13 "LayerSounderModel" "ss" "[I", Cond.methodLink RX5 161 yX5_cellAnswers, Cond.instanceMethod yX5_cellAnswers, Cond.selects RX5 yX5_cellAnswers yX5_cellAnswers, Cond.code yX5_cellAnswers cX5_cellAnswers 4 (some .boolean), Cond.methodLink RX5 165 yX5_amount, Cond.static yX5_amount, Cond.code yX5_amount cX5_amount 2 (some .long), Cond.methodLink RX5 181 yX5_findPace, Cond.instanceMethod yX5_findPace, Cond.selects RX5 yX5_findPace yX5_findPace, Cond.code yX5_findPace cX5_findPace 3 (some .boolean)]
def wsX5_across : List Cond := .code yX5_across cX5_across 13 (some .long) :: ((wsX5_across_r1 ++ (wsX5_across_r2 ++ wsX5_across_r3)) ++ wsX50)
def wsX5_flow_r1 : List Cond := [Cond.methodLink RX5 195 yX5_isRow, Cond.instanceMethod yX5_isRow, Cond.selects RX5 yX5_isRow yX5_isRow, Cond.initialized RX5, Cond.code yX5_isRow cX5_isRow 3 (some .boolean), Cond.methodLink RX5 91 yX5_isPing, Cond.instanceMethod yX5_isPing, Cond.selects RX5 yX5_isPing yX5_isPing, Cond.code yX5_isPing cX5_isPing 2 (some .boolean), Cond.fieldLink RX5 82 "LayerSounderModel" "pings" "I", Cond.methodLink RX5 58 yX5_in, Cond.static yX5_in, Cond.code yX5_in cX5_in 6 (some .boolean), Cond.methodLink RX5 157 yX5_no, Cond.static yX5_no, Cond.code yX5_no cX5_no 1 (some .long), Cond.constantLong RX5 51 (-9223372036854775808), Cond.methodLink RX5 205 yX5_across, Cond.instanceMethod yX5_across, Cond.selects RX5 yX5_across yX5_across, Cond.code yX5_across cX5_across 13 (some .long), Cond.fieldLink RX5 35 "LayerSounderModel" "xs" "[I", Cond.fieldLink RX5 38 "LayerSounderModel" "ys" "[I", Cond.fieldLink RX5 28 "LayerSounderModel" "l" "I"]
def wsX5_flow_r2 : List Cond := [Cond.fieldLink RX5 175 "LayerSounderModel" "paceX" "J", Cond.fieldLink RX5 178 "LayerSounderModel" "paceY" "J", Cond.fieldLink RX5 41 "LayerSounderModel" "depths" "[I", Cond.methodLink RX5 172 yX5_fateOf, Cond.instanceMethod yX5_fateOf, Cond.selects RX5 yX5_fateOf yX5_fateOf, Cond.code yX5_fateOf cX5_fateOf 3 (some .int), Cond.fieldLink RX5 138 "LayerSounderModel" "edge" "I", Cond.fieldLink RX5 108 "LayerSounderModel" "lost" "I", Cond.fieldLink RX5 44 "LayerSounderModel" "takes" "Z", Cond.fieldLink RX5 117 "LayerSounderModel" "odd" "I", Cond.fieldLink RX5 48 "LayerSounderModel" "bound" "I", Cond.fieldLink RX5 111 "LayerSounderModel" "along" "I", Cond.constantLong RX5 128 (20000), Cond.fieldLink RX5 114 "LayerSounderModel" "across" "I", Cond.methodLink RX5 94 yX5_findOwn, Cond.instanceMethod yX5_findOwn, Cond.selects RX5 yX5_findOwn yX5_findOwn, Cond.code yX5_findOwn cX5_findOwn 2 (some .boolean), Cond.fieldLink RX5 141 "LayerSounderModel" "ownX" "J", Cond.fieldLink RX5 144 "LayerSounderModel" "ownY" "J", Cond.fieldLink RX5 130 "LayerSounderModel" "motion" "I", Cond.fieldLink RX5 97 "LayerSounderModel" "turnedX" "J", Cond.fieldLink RX5 101 "LayerSounderModel" "turnedY" "J"]
def wsX5_flow_r3 : List Cond := [Cond.constantLong RX5 155 (4225), Cond.methodLink RX5 147 yX5_reading, Cond.instanceMethod yX5_reading, Cond.selects RX5 yX5_reading yX5_reading, Cond.code yX5_reading cX5_reading 3 (some .int), Cond.fieldLink RX5 16 "LayerSounderModel" "forms" "[I", Cond.fieldLink RX5 19 "LayerSounderModel" "sizes" "[I", Cond.fieldLink RX5 22 "LayerSounderModel" "items" "[I", Cond.methodLink RX5 77 yX5_told, Cond.static yX5_told, Cond.code yX5_told cX5_told 1 (some .int), Cond.methodLink RX5 122 yX5_answers, Cond.instanceMethod yX5_answers, Cond.selects RX5 yX5_answers yX5_answers, Cond.code yX5_answers cX5_answers 9 (some .boolean), Cond.methodLink RX5 151 yX5_bring, Cond.instanceMethod yX5_bring, Cond.selects RX5 yX5_bring yX5_bring, Cond.code yX5_bring cX5_bring 2 none, Cond.fieldLink RX5 133 "LayerSounderModel" "skew" "I", Cond.fieldLink RX5 32 "LayerSounderModel" "headings" "[I", Cond.methodLink RX5 104 yX5_turn, Cond.instanceMethod yX5_turn, Cond.selects RX5 yX5_turn yX5_turn]
def wsX5_flow_r4 : List Cond := [Cond.code yX5_turn cX5_turn 13 none, Cond.fieldLink RX5 7 "LayerSounderModel" "cs" "[I", Cond.fieldLink RX5 13 "LayerSounderModel" "ss" "[I", Cond.methodLink RX5 161 yX5_cellAnswers, Cond.instanceMethod yX5_cellAnswers, Cond.selects RX5 yX5_cellAnswers yX5_cellAnswers, Cond.code yX5_cellAnswers cX5_cellAnswers 4 (some .boolean), Cond.methodLink RX5 165 yX5_amount, Cond.static yX5_amount, Cond.code yX5_amount cX5_amount 2 (some .long), Cond.methodLink RX5 181 yX5_findPace, Cond.instanceMethod yX5_findPace, Cond.selects RX5 yX5_findPace yX5_findPace, Cond.code yX5_findPace cX5_findPace 3 (some .boolean)]
def wsX5_flow : List Cond := .code yX5_flow cX5_flow 7 (some .long) :: ((wsX5_flow_r1 ++ (wsX5_flow_r2 ++ (wsX5_flow_r3 ++ wsX5_flow_r4))) ++ wsX50)
def wsX5_askew_r1 : List Cond := [Cond.fieldLink RX5 28 "LayerSounderModel" "l" "I", Cond.fieldLink RX5 186 "LayerSounderModel" "many" "J", Cond.fieldLink RX5 133 "LayerSounderModel" "skew" "I", Cond.fieldLink RX5 189 "LayerSounderModel" "sumX" "J", Cond.fieldLink RX5 192 "LayerSounderModel" "sumY" "J", Cond.methodLink RX5 195 yX5_isRow, Cond.instanceMethod yX5_isRow, Cond.selects RX5 yX5_isRow yX5_isRow, Cond.initialized RX5, Cond.code yX5_isRow cX5_isRow 3 (some .boolean), Cond.methodLink RX5 91 yX5_isPing, Cond.instanceMethod yX5_isPing, Cond.selects RX5 yX5_isPing yX5_isPing, Cond.code yX5_isPing cX5_isPing 2 (some .boolean), Cond.fieldLink RX5 82 "LayerSounderModel" "pings" "I", Cond.methodLink RX5 58 yX5_in, Cond.static yX5_in, Cond.code yX5_in cX5_in 6 (some .boolean), Cond.methodLink RX5 201 yX5_gather, Cond.instanceMethod yX5_gather, Cond.selects RX5 yX5_gather yX5_gather, Cond.code yX5_gather cX5_gather 7 none, Cond.fieldLink RX5 175 "LayerSounderModel" "paceX" "J", Cond.fieldLink RX5 178 "LayerSounderModel" "paceY" "J"]
def wsX5_askew_r2 : List Cond := [Cond.methodLink RX5 172 yX5_fateOf, Cond.instanceMethod yX5_fateOf, Cond.selects RX5 yX5_fateOf yX5_fateOf, Cond.code yX5_fateOf cX5_fateOf 3 (some .int), Cond.fieldLink RX5 138 "LayerSounderModel" "edge" "I", Cond.fieldLink RX5 41 "LayerSounderModel" "depths" "[I", Cond.fieldLink RX5 108 "LayerSounderModel" "lost" "I", Cond.fieldLink RX5 44 "LayerSounderModel" "takes" "Z", Cond.fieldLink RX5 117 "LayerSounderModel" "odd" "I", Cond.fieldLink RX5 48 "LayerSounderModel" "bound" "I", Cond.fieldLink RX5 111 "LayerSounderModel" "along" "I", Cond.constantLong RX5 128 (20000), Cond.fieldLink RX5 114 "LayerSounderModel" "across" "I", Cond.methodLink RX5 94 yX5_findOwn, Cond.instanceMethod yX5_findOwn, Cond.selects RX5 yX5_findOwn yX5_findOwn, Cond.code yX5_findOwn cX5_findOwn 2 (some .boolean), Cond.fieldLink RX5 141 "LayerSounderModel" "ownX" "J", Cond.fieldLink RX5 144 "LayerSounderModel" "ownY" "J", Cond.fieldLink RX5 130 "LayerSounderModel" "motion" "I", Cond.fieldLink RX5 97 "LayerSounderModel" "turnedX" "J", Cond.fieldLink RX5 101 "LayerSounderModel" "turnedY" "J", Cond.constantLong RX5 155 (4225), Cond.fieldLink RX5 35 "LayerSounderModel" "xs" "[I"]
def wsX5_askew_r3 : List Cond := [Cond.fieldLink RX5 38 "LayerSounderModel" "ys" "[I", Cond.methodLink RX5 147 yX5_reading, Cond.instanceMethod yX5_reading, Cond.selects RX5 yX5_reading yX5_reading, Cond.code yX5_reading cX5_reading 3 (some .int), Cond.fieldLink RX5 16 "LayerSounderModel" "forms" "[I", Cond.fieldLink RX5 19 "LayerSounderModel" "sizes" "[I", Cond.fieldLink RX5 22 "LayerSounderModel" "items" "[I", Cond.methodLink RX5 77 yX5_told, Cond.static yX5_told, Cond.code yX5_told cX5_told 1 (some .int), Cond.methodLink RX5 122 yX5_answers, Cond.instanceMethod yX5_answers, Cond.selects RX5 yX5_answers yX5_answers, Cond.code yX5_answers cX5_answers 9 (some .boolean), Cond.methodLink RX5 151 yX5_bring, Cond.instanceMethod yX5_bring, Cond.selects RX5 yX5_bring yX5_bring, Cond.code yX5_bring cX5_bring 2 none, Cond.fieldLink RX5 32 "LayerSounderModel" "headings" "[I", Cond.methodLink RX5 104 yX5_turn, Cond.instanceMethod yX5_turn, Cond.selects RX5 yX5_turn yX5_turn, Cond.code yX5_turn cX5_turn 13 none]
def wsX5_askew_r4 : List Cond := [Cond.fieldLink RX5 7 "LayerSounderModel" "cs" "[I", Cond.fieldLink RX5 13 "LayerSounderModel" "ss" "[I", Cond.methodLink RX5 161 yX5_cellAnswers, Cond.instanceMethod yX5_cellAnswers, Cond.selects RX5 yX5_cellAnswers yX5_cellAnswers, Cond.code yX5_cellAnswers cX5_cellAnswers 4 (some .boolean), Cond.methodLink RX5 165 yX5_amount, Cond.static yX5_amount, Cond.code yX5_amount cX5_amount 2 (some .long), Cond.methodLink RX5 181 yX5_findPace, Cond.instanceMethod yX5_findPace, Cond.selects RX5 yX5_findPace yX5_findPace, Cond.code yX5_findPace cX5_findPace 3 (some .boolean)]
def wsX5_askew : List Cond := .code yX5_askew cX5_askew 22 (some .int) :: ((wsX5_askew_r1 ++ (wsX5_askew_r2 ++ (wsX5_askew_r3 ++ wsX5_askew_r4))) ++ wsX50)
def wsX5_closes : List Cond := .code yX5_closes cX5_closes 4 (some .int) :: ([.constantLong RX5 89 (1000000), .fieldLink RX5 82 "LayerSounderModel" "pings" "I", .fieldLink RX5 35 "LayerSounderModel" "xs" "[I", .fieldLink RX5 38 "LayerSounderModel" "ys" "[I", .methodLink RX5 91 yX5_isPing, .instanceMethod yX5_isPing, .selects RX5 yX5_isPing yX5_isPing, .initialized RX5, .code yX5_isPing cX5_isPing 2 (some .boolean), .methodLink RX5 58 yX5_in, .static yX5_in, .code yX5_in cX5_in 6 (some .boolean), .methodLink RX5 165 yX5_amount, .static yX5_amount, .code yX5_amount cX5_amount 2 (some .long)] ++ wsX50)
def wsX5_count : List Cond := .code yX5_count cX5_count 2 (some .int) :: ([.fieldLink RX5 82 "LayerSounderModel" "pings" "I", .fieldLink RX5 28 "LayerSounderModel" "l" "I", .fieldLink RX5 130 "LayerSounderModel" "motion" "I", .fieldLink RX5 133 "LayerSounderModel" "skew" "I", .fieldLink RX5 138 "LayerSounderModel" "edge" "I", .fieldLink RX5 53 "LayerSounderModel" "latest" "I", .fieldLink RX5 48 "LayerSounderModel" "bound" "I", .fieldLink RX5 44 "LayerSounderModel" "takes" "Z"] ++ wsX50)
def wsX5_digest_r1 : List Cond := [Cond.constantLong RX5 208 (17), Cond.constantLong RX5 210 (31), Cond.fieldLink RX5 82 "LayerSounderModel" "pings" "I", Cond.fieldLink RX5 28 "LayerSounderModel" "l" "I", Cond.fieldLink RX5 175 "LayerSounderModel" "paceX" "J", Cond.fieldLink RX5 178 "LayerSounderModel" "paceY" "J", Cond.methodLink RX5 212 yX5_count, Cond.instanceMethod yX5_count, Cond.selects RX5 yX5_count yX5_count, Cond.initialized RX5, Cond.code yX5_count cX5_count 2 (some .int), Cond.fieldLink RX5 130 "LayerSounderModel" "motion" "I", Cond.fieldLink RX5 133 "LayerSounderModel" "skew" "I", Cond.fieldLink RX5 138 "LayerSounderModel" "edge" "I", Cond.fieldLink RX5 53 "LayerSounderModel" "latest" "I", Cond.fieldLink RX5 48 "LayerSounderModel" "bound" "I", Cond.fieldLink RX5 44 "LayerSounderModel" "takes" "Z", Cond.methodLink RX5 215 yX5_about, Cond.instanceMethod yX5_about, Cond.selects RX5 yX5_about yX5_about, Cond.code yX5_about cX5_about 3 (some .int), Cond.constant RX5 76 (-2147483648), Cond.fieldLink RX5 32 "LayerSounderModel" "headings" "[I", Cond.fieldLink RX5 35 "LayerSounderModel" "xs" "[I"]
def wsX5_digest_r2 : List Cond := [Cond.fieldLink RX5 38 "LayerSounderModel" "ys" "[I", Cond.fieldLink RX5 41 "LayerSounderModel" "depths" "[I", Cond.methodLink RX5 91 yX5_isPing, Cond.instanceMethod yX5_isPing, Cond.selects RX5 yX5_isPing yX5_isPing, Cond.code yX5_isPing cX5_isPing 2 (some .boolean), Cond.methodLink RX5 58 yX5_in, Cond.static yX5_in, Cond.code yX5_in cX5_in 6 (some .boolean), Cond.methodLink RX5 94 yX5_findOwn, Cond.instanceMethod yX5_findOwn, Cond.selects RX5 yX5_findOwn yX5_findOwn, Cond.code yX5_findOwn cX5_findOwn 2 (some .boolean), Cond.fieldLink RX5 141 "LayerSounderModel" "ownX" "J", Cond.fieldLink RX5 144 "LayerSounderModel" "ownY" "J", Cond.fieldLink RX5 97 "LayerSounderModel" "turnedX" "J", Cond.fieldLink RX5 101 "LayerSounderModel" "turnedY" "J", Cond.constantLong RX5 155 (4225), Cond.methodLink RX5 147 yX5_reading, Cond.instanceMethod yX5_reading, Cond.selects RX5 yX5_reading yX5_reading, Cond.code yX5_reading cX5_reading 3 (some .int), Cond.fieldLink RX5 16 "LayerSounderModel" "forms" "[I", Cond.fieldLink RX5 19 "LayerSounderModel" "sizes" "[I"]
def wsX5_digest_r3 : List Cond := [Cond.fieldLink RX5 22 "LayerSounderModel" "items" "[I", Cond.methodLink RX5 77 yX5_told, Cond.static yX5_told, Cond.code yX5_told cX5_told 1 (some .int), Cond.methodLink RX5 122 yX5_answers, Cond.instanceMethod yX5_answers, Cond.selects RX5 yX5_answers yX5_answers, Cond.code yX5_answers cX5_answers 9 (some .boolean), Cond.fieldLink RX5 108 "LayerSounderModel" "lost" "I", Cond.fieldLink RX5 111 "LayerSounderModel" "along" "I", Cond.fieldLink RX5 114 "LayerSounderModel" "across" "I", Cond.fieldLink RX5 117 "LayerSounderModel" "odd" "I", Cond.methodLink RX5 151 yX5_bring, Cond.instanceMethod yX5_bring, Cond.selects RX5 yX5_bring yX5_bring, Cond.code yX5_bring cX5_bring 2 none, Cond.methodLink RX5 104 yX5_turn, Cond.instanceMethod yX5_turn, Cond.selects RX5 yX5_turn yX5_turn, Cond.code yX5_turn cX5_turn 13 none, Cond.fieldLink RX5 7 "LayerSounderModel" "cs" "[I", Cond.fieldLink RX5 13 "LayerSounderModel" "ss" "[I", Cond.methodLink RX5 172 yX5_fateOf, Cond.instanceMethod yX5_fateOf]
def wsX5_digest_r4 : List Cond := [Cond.selects RX5 yX5_fateOf yX5_fateOf, Cond.code yX5_fateOf cX5_fateOf 3 (some .int), Cond.constantLong RX5 128 (20000), Cond.methodLink RX5 161 yX5_cellAnswers, Cond.instanceMethod yX5_cellAnswers, Cond.selects RX5 yX5_cellAnswers yX5_cellAnswers, Cond.code yX5_cellAnswers cX5_cellAnswers 4 (some .boolean), Cond.methodLink RX5 165 yX5_amount, Cond.static yX5_amount, Cond.code yX5_amount cX5_amount 2 (some .long), Cond.methodLink RX5 181 yX5_findPace, Cond.instanceMethod yX5_findPace, Cond.selects RX5 yX5_findPace yX5_findPace, Cond.code yX5_findPace cX5_findPace 3 (some .boolean)]
def wsX5_digest : List Cond := .code yX5_digest cX5_digest 6 (some .long) :: ((wsX5_digest_r1 ++ (wsX5_digest_r2 ++ (wsX5_digest_r3 ++ wsX5_digest_r4))) ++ wsX50)
def wsJ9_abs_0f7a4 : List Cond := .code yJ9_abs_0f7a4 cJ9_abs_0f7a4 1 (some .int) :: ([])
def wsJ9_min_7cf53 : List Cond := .code yJ9_min_7cf53 cJ9_min_7cf53 2 (some .int) :: ([])
def wsJ9_min_f86c9 : List Cond := .code yJ9_min_f86c9 cJ9_min_f86c9 4 (some .long) :: ([])
def wsL_law_r1 : List Cond := [Cond.classLink RL 7 RX4, Cond.instantiable RX4 14, Cond.initialized RX4, Cond.classLink RL 10 RX5, Cond.instantiable RX5 31, Cond.initialized RX5, Cond.methodLink RL 9 yX4_init, Cond.instanceMethod yX4_init, Cond.code yX4_init cX4_init 2 none, Cond.methodLink RX4 1 objectInit, Cond.instanceMethod objectInit, Cond.code objectInit ⟨#[0xb1]⟩ 1 none, Cond.classLink RX4 9 RX2, Cond.fieldLink RX4 11 "LayerSounder" "reels" "[LLayerSounder$Reel;", Cond.classLink RX4 15 RX3, Cond.instantiable RX3 5, Cond.initialized RX3, Cond.fieldLink RX4 18 "LayerSounder" "track" "LLayerSounder$Track;", Cond.classLink RX4 22 RX0, Cond.instantiable RX0 5, Cond.initialized RX0, Cond.fieldLink RX4 25 "LayerSounder" "beams" "LLayerSounder$Beams;", Cond.classLink RX4 29 RX1, Cond.instantiable RX1 4]
def wsL_law_r2 : List Cond := [Cond.initialized RX1, Cond.fieldLink RX4 32 "LayerSounder" "ownDrift" "LLayerSounder$Drift;", Cond.fieldLink RX4 36 "LayerSounder" "paceDrift" "LLayerSounder$Drift;", Cond.fieldLink RX4 39 "LayerSounder" "firstSum" "LLayerSounder$Drift;", Cond.fieldLink RX4 42 "LayerSounder" "secondSum" "LLayerSounder$Drift;", Cond.fieldLink RX4 45 "LayerSounder" "layers" "I", Cond.fieldLink RX4 49 "LayerSounder" "howOwn" "I", Cond.fieldLink RX4 52 "LayerSounder" "skewTurn" "I", Cond.fieldLink RX4 55 "LayerSounder" "edgeCells" "I", Cond.fieldLink RX4 58 "LayerSounder" "threesTaken" "Z", Cond.fieldLink RX4 62 "LayerSounder" "oddBound" "I", Cond.fieldLink RX4 65 "LayerSounder" "latestFinding" "I", Cond.instantiable RX2 3, Cond.initialized RX2, Cond.instanceMethod yX3_init, Cond.code yX3_init cX3_init 1 none, Cond.methodLink RX3 3 objectInit, Cond.arrayClass .int, Cond.fieldLink RX3 9 "LayerSounder$Track" "headings" "[I", Cond.fieldLink RX3 15 "LayerSounder$Track" "xs" "[I", Cond.fieldLink RX3 18 "LayerSounder$Track" "ys" "[I", Cond.fieldLink RX3 21 "LayerSounder$Track" "depths" "[I", Cond.fieldLink RX3 24 "LayerSounder$Track" "number" "I", Cond.instanceMethod yX0_init]
def wsL_law_r3 : List Cond := [Cond.code yX0_init cX0_init 1 none, Cond.methodLink RX0 3 objectInit, Cond.fieldLink RX0 9 "LayerSounder$Beams" "answered" "Z", Cond.fieldLink RX0 15 "LayerSounder$Beams" "three" "Z", Cond.fieldLink RX0 18 "LayerSounder$Beams" "along" "I", Cond.fieldLink RX0 22 "LayerSounder$Beams" "across" "I", Cond.fieldLink RX0 25 "LayerSounder$Beams" "odd" "I", Cond.instanceMethod yX1_init, Cond.code yX1_init cX1_init 1 none, Cond.methodLink RX1 1 objectInit, Cond.fieldLink RX1 7 "LayerSounder$Drift" "swungX" "J", Cond.fieldLink RX1 13 "LayerSounder$Drift" "swungY" "J", Cond.fieldLink RX1 16 "LayerSounder$Drift" "heldX" "J", Cond.fieldLink RX1 19 "LayerSounder$Drift" "heldY" "J", Cond.instanceMethod yX2_init, Cond.code yX2_init cX2_init 1 none, Cond.methodLink RX2 3 objectInit, Cond.fieldLink RX2 9 "LayerSounder$Reel" "items" "[I", Cond.fieldLink RX2 15 "LayerSounder$Reel" "form" "I", Cond.fieldLink RX2 19 "LayerSounder$Reel" "size" "I", Cond.methodLink RL 12 yX5_init, Cond.instanceMethod yX5_init, Cond.code yX5_init cX5_init 2 none, Cond.methodLink RX5 1 objectInit]
def wsL_law_r4 : List Cond := [Cond.fieldLink RX5 7 "LayerSounderModel" "cs" "[I", Cond.fieldLink RX5 13 "LayerSounderModel" "ss" "[I", Cond.fieldLink RX5 16 "LayerSounderModel" "forms" "[I", Cond.fieldLink RX5 19 "LayerSounderModel" "sizes" "[I", Cond.fieldLink RX5 22 "LayerSounderModel" "items" "[I", Cond.fieldLink RX5 25 "LayerSounderModel" "moved" "[I", Cond.fieldLink RX5 28 "LayerSounderModel" "l" "I", Cond.fieldLink RX5 32 "LayerSounderModel" "headings" "[I", Cond.fieldLink RX5 35 "LayerSounderModel" "xs" "[I", Cond.fieldLink RX5 38 "LayerSounderModel" "ys" "[I", Cond.fieldLink RX5 41 "LayerSounderModel" "depths" "[I", Cond.fieldLink RX5 44 "LayerSounderModel" "takes" "Z", Cond.fieldLink RX5 48 "LayerSounderModel" "bound" "I", Cond.methodLink RL 13 yX4_reel, Cond.instanceMethod yX4_reel, Cond.selects RX4 yX4_reel yX4_reel, Cond.code yX4_reel cX4_reel 4 (some .int), Cond.methodLink RX4 69 yX4_isReel, Cond.instanceMethod yX4_isReel, Cond.selects RX4 yX4_isReel yX4_isReel, Cond.code yX4_isReel cX4_isReel 2 (some .boolean), Cond.methodLink RX4 73 yX4_isForm, Cond.static yX4_isForm, Cond.code yX4_isForm cX4_isForm 1 (some .boolean)]
def wsL_law_r5 : List Cond := [Cond.methodLink RX4 120 yX4_isWithin, Cond.static yX4_isWithin, Cond.code yX4_isWithin cX4_isWithin 3 (some .boolean), Cond.methodLink RX4 76 yX4_found, Cond.instanceMethod yX4_found, Cond.selects RX4 yX4_found yX4_found, Cond.code yX4_found cX4_found 2 (some .int), Cond.methodLink RX4 80 yX2_renew, Cond.instanceMethod yX2_renew, Cond.selects RX2 yX2_renew yX2_renew, Cond.code yX2_renew cX2_renew 4 none, Cond.methodLink RX2 22 Lib.Math.min.name, Cond.static Lib.Math.min.name, Cond.initialized "java/lang/Math", Cond.code Lib.Math.min.name Lib.Math.min.code 2 (some .int), Cond.methodLink RL 17 yX5_reel, Cond.instanceMethod yX5_reel, Cond.selects RX5 yX5_reel yX5_reel, Cond.code yX5_reel cX5_reel 5 (some .int), Cond.constantLong RX5 66 (2), Cond.methodLink RX5 62 yX5_isReel, Cond.static yX5_isReel, Cond.code yX5_isReel cX5_isReel 1 (some .boolean), Cond.constantLong RX5 56 (7)]
def wsL_law_r6 : List Cond := [Cond.methodLink RX5 58 yX5_in, Cond.static yX5_in, Cond.code yX5_in cX5_in 6 (some .boolean), Cond.methodLink RX5 68 yX5_met, Cond.instanceMethod yX5_met, Cond.selects RX5 yX5_met yX5_met, Cond.code yX5_met cX5_met 2 (some .int), Cond.fieldLink RX5 53 "LayerSounderModel" "latest" "I", Cond.methodLink RL 18 yX4_lose, Cond.instanceMethod yX4_lose, Cond.selects RX4 yX4_lose yX4_lose, Cond.code yX4_lose cX4_lose 2 (some .int), Cond.methodLink RX4 84 yX2_isLost, Cond.instanceMethod yX2_isLost, Cond.selects RX2 yX2_isLost yX2_isLost, Cond.code yX2_isLost cX2_isLost 1 (some .boolean), Cond.methodLink RX4 88 yX2_drop, Cond.instanceMethod yX2_drop, Cond.selects RX2 yX2_drop yX2_drop, Cond.code yX2_drop cX2_drop 2 (some .int), Cond.methodLink RL 22 yX5_lose, Cond.instanceMethod yX5_lose, Cond.selects RX5 yX5_lose yX5_lose, Cond.code yX5_lose cX5_lose 2 (some .int)]
def wsL_law_r7 : List Cond := [Cond.methodLink RL 23 yX4_put, Cond.instanceMethod yX4_put, Cond.selects RX4 yX4_put yX4_put, Cond.code yX4_put cX4_put 6 (some .int), Cond.methodLink RX4 92 yX2_findingAt, Cond.instanceMethod yX2_findingAt, Cond.selects RX2 yX2_findingAt yX2_findingAt, Cond.code yX2_findingAt cX2_findingAt 3 (some .int), Cond.methodLink RX2 28 yX2_isLost, Cond.methodLink RX2 32 yX2_holds, Cond.instanceMethod yX2_holds, Cond.selects RX2 yX2_holds yX2_holds, Cond.code yX2_holds cX2_holds 2 (some .boolean), Cond.methodLink RX4 96 yX2_store, Cond.instanceMethod yX2_store, Cond.selects RX2 yX2_store yX2_store, Cond.code yX2_store cX2_store 3 none, Cond.methodLink RX2 36 yX2_narrowed, Cond.instanceMethod yX2_narrowed, Cond.selects RX2 yX2_narrowed yX2_narrowed, Cond.code yX2_narrowed cX2_narrowed 2 (some .int), Cond.methodLink RL 27 yX5_put, Cond.instanceMethod yX5_put, Cond.selects RX5 yX5_put yX5_put]
def wsL_law_r8 : List Cond := [Cond.code yX5_put cX5_put 6 (some .int), Cond.methodLink RX5 72 yX5_lacks, Cond.instanceMethod yX5_lacks, Cond.selects RX5 yX5_lacks yX5_lacks, Cond.code yX5_lacks cX5_lacks 4 (some .int), Cond.methodLink RL 28 yX4_get, Cond.instanceMethod yX4_get, Cond.selects RX4 yX4_get yX4_get, Cond.code yX4_get cX4_get 5 (some .int), Cond.constant RX4 99 (-2147483648), Cond.methodLink RX4 100 yX2_item, Cond.instanceMethod yX2_item, Cond.selects RX2 yX2_item yX2_item, Cond.code yX2_item cX2_item 2 (some .int), Cond.methodLink RL 31 yX5_get, Cond.instanceMethod yX5_get, Cond.selects RX5 yX5_get yX5_get, Cond.code yX5_get cX5_get 4 (some .int), Cond.constant RX5 76 (-2147483648), Cond.methodLink RL 32 yX4_copy, Cond.instanceMethod yX4_copy, Cond.selects RX4 yX4_copy yX4_copy, Cond.code yX4_copy cX4_copy 8 (some .int), Cond.methodLink RX4 114 arraycopyName]
def wsL_law_r9 : List Cond := [Cond.native arraycopyName, Cond.static arraycopyName, Cond.initialized "java/lang/System", Cond.methodLink RX4 106 yX2_holdsRun, Cond.instanceMethod yX2_holdsRun, Cond.selects RX2 yX2_holdsRun yX2_holdsRun, Cond.code yX2_holdsRun cX2_holdsRun 3 (some .boolean), Cond.methodLink RL 36 yX5_copy, Cond.instanceMethod yX5_copy, Cond.selects RX5 yX5_copy yX5_copy, Cond.code yX5_copy cX5_copy 7 (some .int), Cond.methodLink RL 37 yX4_cells, Cond.instanceMethod yX4_cells, Cond.selects RX4 yX4_cells yX4_cells, Cond.code yX4_cells cX4_cells 3 (some .int), Cond.methodLink RL 40 yX5_cells, Cond.instanceMethod yX5_cells, Cond.selects RX5 yX5_cells yX5_cells, Cond.code yX5_cells cX5_cells 3 (some .int), Cond.constantLong RX5 80 (16), Cond.fieldLink RX5 82 "LayerSounderModel" "pings" "I", Cond.methodLink RL 41 yX4_ping, Cond.instanceMethod yX4_ping, Cond.selects RX4 yX4_ping yX4_ping]
def wsL_law_r10 : List Cond := [Cond.code yX4_ping cX4_ping 5 (some .int), Cond.methodLink RX4 127 yX4_isTurn, Cond.static yX4_isTurn, Cond.code yX4_isTurn cX4_isTurn 1 (some .boolean), Cond.methodLink RX4 130 yX4_isPlace, Cond.static yX4_isPlace, Cond.code yX4_isPlace cX4_isPlace 1 (some .boolean), Cond.constant RX4 193 (-1000000), Cond.constant RX4 194 (1000000), Cond.methodLink RX4 133 yX3_append, Cond.instanceMethod yX3_append, Cond.selects RX3 yX3_append yX3_append, Cond.code yX3_append cX3_append 6 (some .int), Cond.methodLink RL 44 yX5_ping, Cond.instanceMethod yX5_ping, Cond.selects RX5 yX5_ping yX5_ping, Cond.code yX5_ping cX5_ping 5 (some .int), Cond.constantLong RX5 85 (35), Cond.constantLong RX5 87 (-1000000), Cond.constantLong RX5 89 (1000000), Cond.methodLink RL 45 yX4_mend, Cond.instanceMethod yX4_mend, Cond.selects RX4 yX4_mend yX4_mend, Cond.code yX4_mend cX4_mend 3 (some .int)]
def wsL_law_r11 : List Cond := [Cond.methodLink RX4 137 yX3_changeHeading, Cond.instanceMethod yX3_changeHeading, Cond.selects RX3 yX3_changeHeading yX3_changeHeading, Cond.code yX3_changeHeading cX3_changeHeading 4 (some .int), Cond.methodLink RX3 28 yX3_isPing, Cond.instanceMethod yX3_isPing, Cond.selects RX3 yX3_isPing yX3_isPing, Cond.code yX3_isPing cX3_isPing 2 (some .boolean), Cond.methodLink RL 49 yX5_mend, Cond.instanceMethod yX5_mend, Cond.selects RX5 yX5_mend yX5_mend, Cond.code yX5_mend cX5_mend 4 (some .int), Cond.methodLink RX5 91 yX5_isPing, Cond.instanceMethod yX5_isPing, Cond.selects RX5 yX5_isPing yX5_isPing, Cond.code yX5_isPing cX5_isPing 2 (some .boolean), Cond.methodLink RL 50 yX4_clear, Cond.instanceMethod yX4_clear, Cond.selects RX4 yX4_clear yX4_clear, Cond.code yX4_clear cX4_clear 2 (some .int), Cond.methodLink RL 54 yX5_clear, Cond.instanceMethod yX5_clear, Cond.selects RX5 yX5_clear yX5_clear, Cond.code yX5_clear cX5_clear 2 (some .int)]
def wsL_law_r12 : List Cond := [Cond.methodLink RL 55 yX4_about, Cond.instanceMethod yX4_about, Cond.selects RX4 yX4_about yX4_about, Cond.code yX4_about cX4_about 3 (some .int), Cond.methodLink RX4 140 yX3_isPing, Cond.methodLink RX4 143 yX3_headingOf, Cond.instanceMethod yX3_headingOf, Cond.selects RX3 yX3_headingOf yX3_headingOf, Cond.code yX3_headingOf cX3_headingOf 2 (some .int), Cond.methodLink RX4 146 yX3_xOf, Cond.instanceMethod yX3_xOf, Cond.selects RX3 yX3_xOf yX3_xOf, Cond.code yX3_xOf cX3_xOf 2 (some .int), Cond.methodLink RX4 149 yX3_yOf, Cond.instanceMethod yX3_yOf, Cond.selects RX3 yX3_yOf yX3_yOf, Cond.code yX3_yOf cX3_yOf 2 (some .int), Cond.methodLink RX4 152 yX3_depthOf, Cond.instanceMethod yX3_depthOf, Cond.selects RX3 yX3_depthOf yX3_depthOf, Cond.code yX3_depthOf cX3_depthOf 2 (some .int), Cond.methodLink RX4 155 yX4_findOwn, Cond.instanceMethod yX4_findOwn, Cond.selects RX4 yX4_findOwn yX4_findOwn]
def wsL_law_r13 : List Cond := [Cond.code yX4_findOwn cX4_findOwn 2 (some .boolean), Cond.constantLong RX4 293 (4225), Cond.methodLink RX4 286 yX1_rest, Cond.instanceMethod yX1_rest, Cond.selects RX1 yX1_rest yX1_rest, Cond.code yX1_rest cX1_rest 1 none, Cond.methodLink RX4 212 yX4_readBeams, Cond.instanceMethod yX4_readBeams, Cond.selects RX4 yX4_readBeams yX4_readBeams, Cond.code yX4_readBeams cX4_readBeams 7 none, Cond.methodLink RX4 283 yX4_readingOf, Cond.instanceMethod yX4_readingOf, Cond.selects RX4 yX4_readingOf yX4_readingOf, Cond.code yX4_readingOf cX4_readingOf 3 (some .int), Cond.methodLink RX4 280 yX2_reading, Cond.instanceMethod yX2_reading, Cond.selects RX2 yX2_reading yX2_reading, Cond.code yX2_reading cX2_reading 2 (some .int), Cond.methodLink RX4 171 yX0_take, Cond.instanceMethod yX0_take, Cond.selects RX0 yX0_take yX0_take, Cond.code yX0_take cX0_take 10 none, Cond.methodLink RX0 28 yX0_isNone, Cond.static yX0_isNone]
def wsL_law_r14 : List Cond := [Cond.code yX0_isNone cX0_isNone 1 (some .boolean), Cond.static yX4_asNumber, Cond.code yX4_asNumber cX4_asNumber 1 (some .int), Cond.methodLink RX4 289 yX1_swing, Cond.instanceMethod yX1_swing, Cond.selects RX1 yX1_swing yX1_swing, Cond.code yX1_swing cX1_swing 4 none, Cond.static yX4_xTurned, Cond.code yX4_xTurned cX4_xTurned 5 (some .long), Cond.methodLink RX4 274 yX4_cOf, Cond.static yX4_cOf, Cond.code yX4_cOf cX4_cOf 1 (some .long), Cond.fieldLink RX4 271 "LayerSounder" "C_OF_TURNS" "[I", Cond.methodLink RX4 277 yX4_sOf, Cond.static yX4_sOf, Cond.code yX4_sOf cX4_sOf 1 (some .long), Cond.static yX4_yTurned, Cond.code yX4_yTurned cX4_yTurned 5 (some .long), Cond.methodLink RX4 295 yX3_stepX, Cond.instanceMethod yX3_stepX, Cond.selects RX3 yX3_stepX yX3_stepX, Cond.code yX3_stepX cX3_stepX 2 (some .long), Cond.methodLink RX3 32 yX3_xOf, Cond.methodLink RX4 298 yX3_stepY]
def wsL_law_r15 : List Cond := [Cond.instanceMethod yX3_stepY, Cond.selects RX3 yX3_stepY yX3_stepY, Cond.code yX3_stepY cX3_stepY 2 (some .long), Cond.methodLink RX3 36 yX3_yOf, Cond.methodLink RX4 301 yX1_hold, Cond.instanceMethod yX1_hold, Cond.selects RX1 yX1_hold yX1_hold, Cond.code yX1_hold cX1_hold 5 none, Cond.methodLink RX4 158 yX4_asNumber, Cond.methodLink RL 58 yX5_about, Cond.instanceMethod yX5_about, Cond.selects RX5 yX5_about yX5_about, Cond.code yX5_about cX5_about 3 (some .int), Cond.methodLink RX5 94 yX5_findOwn, Cond.instanceMethod yX5_findOwn, Cond.selects RX5 yX5_findOwn yX5_findOwn, Cond.code yX5_findOwn cX5_findOwn 2 (some .boolean), Cond.fieldLink RX5 141 "LayerSounderModel" "ownX" "J", Cond.fieldLink RX5 144 "LayerSounderModel" "ownY" "J", Cond.fieldLink RX5 130 "LayerSounderModel" "motion" "I", Cond.fieldLink RX5 97 "LayerSounderModel" "turnedX" "J", Cond.fieldLink RX5 101 "LayerSounderModel" "turnedY" "J", Cond.constantLong RX5 155 (4225), Cond.methodLink RX5 147 yX5_reading]
def wsL_law_r16 : List Cond := [Cond.instanceMethod yX5_reading, Cond.selects RX5 yX5_reading yX5_reading, Cond.code yX5_reading cX5_reading 3 (some .int), Cond.methodLink RX5 77 yX5_told, Cond.static yX5_told, Cond.code yX5_told cX5_told 1 (some .int), Cond.methodLink RX5 122 yX5_answers, Cond.instanceMethod yX5_answers, Cond.selects RX5 yX5_answers yX5_answers, Cond.code yX5_answers cX5_answers 9 (some .boolean), Cond.fieldLink RX5 108 "LayerSounderModel" "lost" "I", Cond.fieldLink RX5 111 "LayerSounderModel" "along" "I", Cond.fieldLink RX5 114 "LayerSounderModel" "across" "I", Cond.fieldLink RX5 117 "LayerSounderModel" "odd" "I", Cond.methodLink RX5 151 yX5_bring, Cond.instanceMethod yX5_bring, Cond.selects RX5 yX5_bring yX5_bring, Cond.code yX5_bring cX5_bring 2 none, Cond.fieldLink RX5 133 "LayerSounderModel" "skew" "I", Cond.methodLink RX5 104 yX5_turn, Cond.instanceMethod yX5_turn, Cond.selects RX5 yX5_turn yX5_turn, Cond.code yX5_turn cX5_turn 13 none, Cond.methodLink RL 59 yX4_own]
def wsL_law_r17 : List Cond := [Cond.instanceMethod yX4_own, Cond.selects RX4 yX4_own yX4_own, Cond.code yX4_own cX4_own 3 (some .long), Cond.methodLink RX4 162 yX4_asLong, Cond.static yX4_asLong, Cond.code yX4_asLong cX4_asLong 1 (some .long), Cond.constantLong RX4 269 (-9223372036854775808), Cond.methodLink RX4 166 yX1_part, Cond.instanceMethod yX1_part, Cond.selects RX1 yX1_part yX1_part, Cond.code yX1_part cX1_part 3 (some .long), Cond.methodLink RX1 31 yX1_east, Cond.instanceMethod yX1_east, Cond.selects RX1 yX1_east yX1_east, Cond.code yX1_east cX1_east 2 (some .long), Cond.methodLink RX1 35 yX1_north, Cond.instanceMethod yX1_north, Cond.selects RX1 yX1_north yX1_north, Cond.code yX1_north cX1_north 2 (some .long), Cond.methodLink RL 63 yX5_own, Cond.instanceMethod yX5_own, Cond.selects RX5 yX5_own yX5_own, Cond.code yX5_own cX5_own 3 (some .long), Cond.methodLink RX5 157 yX5_no]
def wsL_law_r18 : List Cond := [Cond.static yX5_no, Cond.code yX5_no cX5_no 1 (some .long), Cond.constantLong RX5 51 (-9223372036854775808), Cond.methodLink RL 64 yX4_motion, Cond.instanceMethod yX4_motion, Cond.selects RX4 yX4_motion yX4_motion, Cond.code yX4_motion cX4_motion 3 (some .int), Cond.methodLink RL 67 yX5_motion, Cond.instanceMethod yX5_motion, Cond.selects RX5 yX5_motion yX5_motion, Cond.code yX5_motion cX5_motion 3 (some .int), Cond.methodLink RL 68 yX4_skew, Cond.instanceMethod yX4_skew, Cond.selects RX4 yX4_skew yX4_skew, Cond.code yX4_skew cX4_skew 3 (some .int), Cond.methodLink RL 71 yX5_skew, Cond.instanceMethod yX5_skew, Cond.selects RX5 yX5_skew yX5_skew, Cond.code yX5_skew cX5_skew 3 (some .int), Cond.methodLink RL 72 yX4_laws, Cond.instanceMethod yX4_laws, Cond.selects RX4 yX4_laws yX4_laws, Cond.code yX4_laws cX4_laws 4 (some .int), Cond.constant RX4 170 (100000)]
def wsL_law_r19 : List Cond := [Cond.methodLink RL 76 yX5_laws, Cond.instanceMethod yX5_laws, Cond.selects RX5 yX5_laws yX5_laws, Cond.code yX5_laws cX5_laws 4 (some .int), Cond.constantLong RX5 136 (100000), Cond.fieldLink RX5 138 "LayerSounderModel" "edge" "I", Cond.methodLink RL 77 yX4_answer, Cond.instanceMethod yX4_answer, Cond.selects RX4 yX4_answer yX4_answer, Cond.code yX4_answer cX4_answer 6 (some .int), Cond.methodLink RL 80 yX5_answer, Cond.instanceMethod yX5_answer, Cond.selects RX5 yX5_answer yX5_answer, Cond.code yX5_answer cX5_answer 6 (some .int), Cond.constantLong RX5 120 (3), Cond.methodLink RL 81 yX4_beam, Cond.instanceMethod yX4_beam, Cond.selects RX4 yX4_beam yX4_beam, Cond.code yX4_beam cX4_beam 6 (some .int), Cond.methodLink RX4 190 yX4_isPart, Cond.static yX4_isPart, Cond.code yX4_isPart cX4_isPart 1 (some .boolean), Cond.methodLink RL 84 yX5_beam, Cond.instanceMethod yX5_beam]
def wsL_law_r20 : List Cond := [Cond.selects RX5 yX5_beam yX5_beam, Cond.code yX5_beam cX5_beam 9 (some .int), Cond.constantLong RX5 126 (-20000), Cond.constantLong RX5 128 (20000), Cond.methodLink RL 85 yX4_turned, Cond.instanceMethod yX4_turned, Cond.selects RX4 yX4_turned yX4_turned, Cond.code yX4_turned cX4_turned 5 (some .int), Cond.methodLink RX4 195 yX4_xTurned, Cond.methodLink RX4 199 yX4_yTurned, Cond.methodLink RL 88 yX5_turned, Cond.instanceMethod yX5_turned, Cond.selects RX5 yX5_turned yX5_turned, Cond.code yX5_turned cX5_turned 5 (some .int), Cond.methodLink RL 89 yX4_fate, Cond.instanceMethod yX4_fate, Cond.selects RX4 yX4_fate yX4_fate, Cond.code yX4_fate cX4_fate 3 (some .int), Cond.methodLink RX4 202 yX4_isCell, Cond.instanceMethod yX4_isCell, Cond.selects RX4 yX4_isCell yX4_isCell, Cond.code yX4_isCell cX4_isCell 2 (some .boolean), Cond.methodLink RX4 205 yX4_judge, Cond.instanceMethod yX4_judge]
def wsL_law_r21 : List Cond := [Cond.selects RX4 yX4_judge yX4_judge, Cond.code yX4_judge cX4_judge 4 (some .int), Cond.methodLink RX4 209 yX4_itemOfCell, Cond.instanceMethod yX4_itemOfCell, Cond.selects RX4 yX4_itemOfCell yX4_itemOfCell, Cond.code yX4_itemOfCell cX4_itemOfCell 3 (some .int), Cond.methodLink RL 92 yX5_fate, Cond.instanceMethod yX5_fate, Cond.selects RX5 yX5_fate yX5_fate, Cond.code yX5_fate cX5_fate 3 (some .int), Cond.methodLink RX5 169 yX5_isCell, Cond.instanceMethod yX5_isCell, Cond.selects RX5 yX5_isCell yX5_isCell, Cond.code yX5_isCell cX5_isCell 3 (some .boolean), Cond.methodLink RX5 172 yX5_fateOf, Cond.instanceMethod yX5_fateOf, Cond.selects RX5 yX5_fateOf yX5_fateOf, Cond.code yX5_fateOf cX5_fateOf 3 (some .int), Cond.methodLink RX5 161 yX5_cellAnswers, Cond.instanceMethod yX5_cellAnswers, Cond.selects RX5 yX5_cellAnswers yX5_cellAnswers, Cond.code yX5_cellAnswers cX5_cellAnswers 4 (some .boolean), Cond.methodLink RX5 165 yX5_amount, Cond.static yX5_amount]
def wsL_law_r22 : List Cond := [Cond.code yX5_amount cX5_amount 2 (some .long), Cond.methodLink RL 93 yX4_pace, Cond.instanceMethod yX4_pace, Cond.selects RX4 yX4_pace yX4_pace, Cond.code yX4_pace cX4_pace 4 (some .long), Cond.methodLink RX4 215 yX4_findPace, Cond.instanceMethod yX4_findPace, Cond.selects RX4 yX4_findPace yX4_findPace, Cond.code yX4_findPace cX4_findPace 2 none, Cond.methodLink RX4 247 yX1_subtract, Cond.instanceMethod yX1_subtract, Cond.selects RX1 yX1_subtract yX1_subtract, Cond.code yX1_subtract cX1_subtract 2 none, Cond.methodLink RL 97 yX5_pace, Cond.instanceMethod yX5_pace, Cond.selects RX5 yX5_pace yX5_pace, Cond.code yX5_pace cX5_pace 4 (some .long), Cond.fieldLink RX5 175 "LayerSounderModel" "paceX" "J", Cond.fieldLink RX5 178 "LayerSounderModel" "paceY" "J", Cond.methodLink RX5 181 yX5_findPace, Cond.instanceMethod yX5_findPace, Cond.selects RX5 yX5_findPace yX5_findPace, Cond.code yX5_findPace cX5_findPace 3 (some .boolean), Cond.methodLink RL 98 yX4_fates]
def wsL_law_r23 : List Cond := [Cond.instanceMethod yX4_fates, Cond.selects RX4 yX4_fates yX4_fates, Cond.code yX4_fates cX4_fates 4 (some .int), Cond.methodLink RX4 219 yX4_fatesOfPing, Cond.instanceMethod yX4_fatesOfPing, Cond.selects RX4 yX4_fatesOfPing yX4_fatesOfPing, Cond.code yX4_fatesOfPing cX4_fatesOfPing 6 (some .int), Cond.methodLink RL 101 yX5_fates, Cond.instanceMethod yX5_fates, Cond.selects RX5 yX5_fates yX5_fates, Cond.code yX5_fates cX5_fates 5 (some .int), Cond.constantLong RX5 184 (6), Cond.methodLink RL 102 yX4_box, Cond.instanceMethod yX4_box, Cond.selects RX4 yX4_box yX4_box, Cond.code yX4_box cX4_box 7 (some .long), Cond.methodLink RX4 222 yX4_isBox, Cond.instanceMethod yX4_isBox, Cond.selects RX4 yX4_isBox yX4_isBox, Cond.code yX4_isBox cX4_isBox 5 (some .boolean), Cond.methodLink RX4 236 yX3_isSpan, Cond.instanceMethod yX3_isSpan, Cond.selects RX3 yX3_isSpan yX3_isSpan, Cond.code yX3_isSpan cX3_isSpan 3 (some .boolean)]
def wsL_law_r24 : List Cond := [Cond.methodLink RX4 226 yX4_sumGood, Cond.instanceMethod yX4_sumGood, Cond.selects RX4 yX4_sumGood yX4_sumGood, Cond.code yX4_sumGood cX4_sumGood 10 (some .int), Cond.methodLink RX4 314 yX1_add, Cond.instanceMethod yX1_add, Cond.selects RX1 yX1_add yX1_add, Cond.code yX1_add cX1_add 2 none, Cond.methodLink RL 106 yX5_box, Cond.instanceMethod yX5_box, Cond.selects RX5 yX5_box yX5_box, Cond.code yX5_box cX5_box 6 (some .long), Cond.fieldLink RX5 186 "LayerSounderModel" "many" "J", Cond.fieldLink RX5 189 "LayerSounderModel" "sumX" "J", Cond.fieldLink RX5 192 "LayerSounderModel" "sumY" "J", Cond.methodLink RX5 198 yX5_isBox, Cond.instanceMethod yX5_isBox, Cond.selects RX5 yX5_isBox yX5_isBox, Cond.code yX5_isBox cX5_isBox 5 (some .boolean), Cond.methodLink RX5 195 yX5_isRow, Cond.instanceMethod yX5_isRow, Cond.selects RX5 yX5_isRow yX5_isRow, Cond.code yX5_isRow cX5_isRow 3 (some .boolean), Cond.methodLink RX5 201 yX5_gather]
def wsL_law_r25 : List Cond := [Cond.instanceMethod yX5_gather, Cond.selects RX5 yX5_gather yX5_gather, Cond.code yX5_gather cX5_gather 7 none, Cond.methodLink RL 107 yX4_mean, Cond.instanceMethod yX4_mean, Cond.selects RX4 yX4_mean yX4_mean, Cond.code yX4_mean cX4_mean 7 (some .long), Cond.methodLink RX4 230 yJ9_floorDiv_f86c9, Cond.static yJ9_floorDiv_f86c9, Cond.initialized RJ9, Cond.code yJ9_floorDiv_f86c9 cJ9_floorDiv_f86c9 6 (some .long), Cond.methodLink RL 110 yX5_mean, Cond.instanceMethod yX5_mean, Cond.selects RX5 yX5_mean yX5_mean, Cond.code yX5_mean cX5_mean 10 (some .long), Cond.methodLink RL 111 yX4_flow, Cond.instanceMethod yX4_flow, Cond.selects RX4 yX4_flow yX4_flow, Cond.code yX4_flow cX4_flow 7 (some .long), Cond.methodLink RX4 239 yX4_flowOfPing, Cond.instanceMethod yX4_flowOfPing, Cond.selects RX4 yX4_flowOfPing yX4_flowOfPing, Cond.code yX4_flowOfPing cX4_flowOfPing 10 (some .long), Cond.methodLink RX4 317 yX4_flowOfPace]
def wsL_law_r26 : List Cond := [Cond.instanceMethod yX4_flowOfPace, Cond.selects RX4 yX4_flowOfPace yX4_flowOfPace, Cond.code yX4_flowOfPace cX4_flowOfPace 2 (some .long), Cond.methodLink RX4 308 yX1_east, Cond.methodLink RX4 311 yX1_north, Cond.methodLink RX4 320 yX4_cellsUnder, Cond.instanceMethod yX4_cellsUnder, Cond.selects RX4 yX4_cellsUnder yX4_cellsUnder, Cond.code yX4_cellsUnder cX4_cellsUnder 3 (some .int), Cond.methodLink RX4 323 Lib.Math.min.name, Cond.methodLink RL 114 yX5_flow, Cond.instanceMethod yX5_flow, Cond.selects RX5 yX5_flow yX5_flow, Cond.code yX5_flow cX5_flow 7 (some .long), Cond.methodLink RX5 205 yX5_across, Cond.instanceMethod yX5_across, Cond.selects RX5 yX5_across yX5_across, Cond.code yX5_across cX5_across 13 (some .long), Cond.methodLink RL 115 yX4_askew, Cond.instanceMethod yX4_askew, Cond.selects RX4 yX4_askew yX4_askew, Cond.code yX4_askew cX4_askew 7 (some .int), Cond.methodLink RX4 243 yX1_multiply, Cond.instanceMethod yX1_multiply]
def wsL_law_r27 : List Cond := [Cond.selects RX1 yX1_multiply yX1_multiply, Cond.code yX1_multiply cX1_multiply 3 none, Cond.methodLink RX4 251 yX4_turnOfLeastMiss, Cond.static yX4_turnOfLeastMiss, Cond.code yX4_turnOfLeastMiss cX4_turnOfLeastMiss 7 (some .int), Cond.methodLink RX4 326 yX4_missBelowZero, Cond.static yX4_missBelowZero, Cond.code yX4_missBelowZero cX4_missBelowZero 2 (some .long), Cond.methodLink RX4 334 Lib.MathLoose.min_long.x, Cond.static Lib.MathLoose.min_long.x, Cond.code Lib.MathLoose.min_long.x Lib.MathLoose.min_long.code 4 (some .long), Cond.methodLink RX4 330 yX4_belowZero, Cond.static yX4_belowZero, Cond.code yX4_belowZero cX4_belowZero 2 (some .long), Cond.methodLink RL 118 yX5_askew, Cond.instanceMethod yX5_askew, Cond.selects RX5 yX5_askew yX5_askew, Cond.code yX5_askew cX5_askew 22 (some .int), Cond.methodLink RL 119 yX4_closes, Cond.instanceMethod yX4_closes, Cond.selects RX4 yX4_closes yX4_closes, Cond.code yX4_closes cX4_closes 4 (some .int), Cond.methodLink RX4 255 yX3_areNear, Cond.instanceMethod yX3_areNear]
def wsL_law_r28 : List Cond := [Cond.selects RX3 yX3_areNear yX3_areNear, Cond.code yX3_areNear cX3_areNear 4 (some .boolean), Cond.methodLink RX3 39 Lib.Math.abs.name, Cond.static Lib.Math.abs.name, Cond.code Lib.Math.abs.name Lib.Math.abs.code 1 (some .int), Cond.methodLink RL 122 yX5_closes, Cond.instanceMethod yX5_closes, Cond.selects RX5 yX5_closes yX5_closes, Cond.code yX5_closes cX5_closes 4 (some .int), Cond.methodLink RL 123 yX4_count, Cond.instanceMethod yX4_count, Cond.selects RX4 yX4_count yX4_count, Cond.code yX4_count cX4_count 2 (some .int), Cond.methodLink RL 126 yX5_count, Cond.instanceMethod yX5_count, Cond.selects RX5 yX5_count yX5_count, Cond.code yX5_count cX5_count 2 (some .int), Cond.methodLink RL 127 yX4_digest, Cond.instanceMethod yX4_digest, Cond.selects RX4 yX4_digest yX4_digest, Cond.code yX4_digest cX4_digest 4 (some .long), Cond.constantLong RX4 258 (17), Cond.constantLong RX4 260 (31), Cond.methodLink RX4 262 yX4_count]
def wsL_law_r29 : List Cond := [Cond.methodLink RX4 265 yX4_digestOfPing, Cond.instanceMethod yX4_digestOfPing, Cond.selects RX4 yX4_digestOfPing yX4_digestOfPing, Cond.code yX4_digestOfPing cX4_digestOfPing 9 (some .long), Cond.methodLink RX4 305 yX4_about, Cond.methodLink RL 131 yX5_digest, Cond.instanceMethod yX5_digest, Cond.selects RX5 yX5_digest yX5_digest, Cond.code yX5_digest cX5_digest 6 (some .long), Cond.constantLong RX5 208 (17), Cond.constantLong RX5 210 (31), Cond.methodLink RX5 212 yX5_count, Cond.methodLink RX5 215 yX5_about]
def wsL_law : List Cond := (wsL_law_r1 ++ (wsL_law_r2 ++ (wsL_law_r3 ++ (wsL_law_r4 ++ (wsL_law_r5 ++ (wsL_law_r6 ++ (wsL_law_r7 ++ (wsL_law_r8 ++ (wsL_law_r9 ++ (wsL_law_r10 ++ (wsL_law_r11 ++ (wsL_law_r12 ++ (wsL_law_r13 ++ (wsL_law_r14 ++ (wsL_law_r15 ++ (wsL_law_r16 ++ (wsL_law_r17 ++ (wsL_law_r18 ++ (wsL_law_r19 ++ (wsL_law_r20 ++ (wsL_law_r21 ++ (wsL_law_r22 ++ (wsL_law_r23 ++ (wsL_law_r24 ++ (wsL_law_r25 ++ (wsL_law_r26 ++ (wsL_law_r27 ++ (wsL_law_r28 ++ wsL_law_r29)))))))))))))))))))))))))))) ++ wsX40 ++ wsX50 ++ wsX30 ++ wsX00 ++ wsX10 ++ wsX20 ++ ([] : List Cond)
theorem inlX0 : ∀ w ∈ wsX00, w ∈ wsL_law := fun _ h => List.mem_append_left _ (List.mem_append_left _ (List.mem_append_left _ (List.mem_append_right _ h)))
theorem inlX1 : ∀ w ∈ wsX10, w ∈ wsL_law := fun _ h => List.mem_append_left _ (List.mem_append_left _ (List.mem_append_right _ h))
theorem inlX2 : ∀ w ∈ wsX20, w ∈ wsL_law := fun _ h => List.mem_append_left _ (List.mem_append_right _ h)
theorem inlX3 : ∀ w ∈ wsX30, w ∈ wsL_law := fun _ h => List.mem_append_left _ (List.mem_append_left _ (List.mem_append_left _ (List.mem_append_left _ (List.mem_append_right _ h))))
theorem inlX4 : ∀ w ∈ wsX40, w ∈ wsL_law := fun _ h => List.mem_append_left _ (List.mem_append_left _ (List.mem_append_left _ (List.mem_append_left _ (List.mem_append_left _ (List.mem_append_left _ (List.mem_append_right _ h))))))
theorem inlX5 : ∀ w ∈ wsX50, w ∈ wsL_law := fun _ h => List.mem_append_left _ (List.mem_append_left _ (List.mem_append_left _ (List.mem_append_left _ (List.mem_append_left _ (List.mem_append_right _ h)))))
end
section
set_option maxRecDepth 20000 in
theorem wlI_0 : ∀ w ∈ wsL_law_r1, w ∈ lw_tbl := fun w h => (goodIn_p wsL_law_r1 [46, 49] (by decide +kernel) (by decide +kernel) w h).1
set_option maxRecDepth 20000 in
theorem wlI_1 : ∀ w ∈ wsL_law_r2, w ∈ lw_tbl := fun w h => (goodIn_p wsL_law_r2 [56] (by decide +kernel) (by decide +kernel) w h).1
set_option maxRecDepth 20000 in
theorem wlI_2 : ∀ w ∈ wsL_law_r3, w ∈ lw_tbl := fun w h => (goodIn_p wsL_law_r3 [80, 107, 125, 564] (by decide +kernel) (by decide +kernel) w h).1
set_option maxRecDepth 20000 in
theorem wlI_3 : ∀ w ∈ wsL_law_r4, w ∈ lw_tbl := fun w h => (goodIn_p wsL_law_r4 [185, 189, 192] (by decide +kernel) (by decide +kernel) w h).1
set_option maxRecDepth 20000 in
theorem wlI_4 : ∀ w ∈ wsL_law_r5, w ∈ lw_tbl := fun w h => (goodIn_p wsL_law_r5 [195, 199, 203, 206, 663, 666] (by decide +kernel) (by decide +kernel) w h).1
set_option maxRecDepth 20000 in
theorem wlI_5 : ∀ w ∈ wsL_law_r6, w ∈ lw_tbl := fun w h => (goodIn_p wsL_law_r6 [670, 675, 210, 214, 218, 679] (by decide +kernel) (by decide +kernel) w h).1
set_option maxRecDepth 20000 in
theorem wlI_6 : ∀ w ∈ wsL_law_r7, w ∈ lw_tbl := fun w h => (goodIn_p wsL_law_r7 [222, 226, 231, 235, 239] (by decide +kernel) (by decide +kernel) w h).1
set_option maxRecDepth 20000 in
theorem wlI_7 : ∀ w ∈ wsL_law_r8, w ∈ lw_tbl := fun w h => (goodIn_p wsL_law_r8 [683, 687, 243, 248, 691, 252] (by decide +kernel) (by decide +kernel) w h).1
set_option maxRecDepth 20000 in
theorem wlI_8 : ∀ w ∈ wsL_law_r9, w ∈ lw_tbl := fun w h => (goodIn_p wsL_law_r9 [256, 696, 263, 700] (by decide +kernel) (by decide +kernel) w h).1
end
section
set_option maxRecDepth 20000 in
theorem wlI_9 : ∀ w ∈ wsL_law_r10, w ∈ lw_tbl := fun w h => (goodIn_p wsL_law_r10 [267, 270, 273, 279, 705, 283] (by decide +kernel) (by decide +kernel) w h).1
set_option maxRecDepth 20000 in
theorem wlI_10 : ∀ w ∈ wsL_law_r11, w ∈ lw_tbl := fun w h => (goodIn_p wsL_law_r11 [287, 291, 712, 716, 295, 720] (by decide +kernel) (by decide +kernel) w h).1
set_option maxRecDepth 20000 in
theorem wlI_11 : ∀ w ∈ wsL_law_r12, w ∈ lw_tbl := fun w h => (goodIn_p wsL_law_r12 [299, 304, 308, 312, 316] (by decide +kernel) (by decide +kernel) w h).1
set_option maxRecDepth 20000 in
theorem wlI_12 : ∀ w ∈ wsL_law_r13, w ∈ lw_tbl := fun w h => (goodIn_p wsL_law_r13 [320, 324, 328, 332, 336, 340] (by decide +kernel) (by decide +kernel) w h).1
set_option maxRecDepth 20000 in
theorem wlI_13 : ∀ w ∈ wsL_law_r14, w ∈ lw_tbl := fun w h => (goodIn_p wsL_law_r14 [343, 346, 350, 353, 356, 361, 364, 369] (by decide +kernel) (by decide +kernel) w h).1
set_option maxRecDepth 20000 in
theorem wlI_14 : ∀ w ∈ wsL_law_r15, w ∈ lw_tbl := fun w h => (goodIn_p wsL_law_r15 [374, 379, 724, 728] (by decide +kernel) (by decide +kernel) w h).1
set_option maxRecDepth 20000 in
theorem wlI_15 : ∀ w ∈ wsL_law_r16, w ∈ lw_tbl := fun w h => (goodIn_p wsL_law_r16 [732, 735, 739, 743, 747] (by decide +kernel) (by decide +kernel) w h).1
set_option maxRecDepth 20000 in
theorem wlI_16 : ∀ w ∈ wsL_law_r17, w ∈ lw_tbl := fun w h => (goodIn_p wsL_law_r17 [384, 387, 392, 396, 400, 780] (by decide +kernel) (by decide +kernel) w h).1
set_option maxRecDepth 20000 in
theorem wlI_17 : ∀ w ∈ wsL_law_r18, w ∈ lw_tbl := fun w h => (goodIn_p wsL_law_r18 [783, 404, 767, 408, 771, 412] (by decide +kernel) (by decide +kernel) w h).1
end
section
set_option maxRecDepth 20000 in
theorem wlI_18 : ∀ w ∈ wsL_law_r19, w ∈ lw_tbl := fun w h => (goodIn_p wsL_law_r19 [775, 417, 756, 421, 424] (by decide +kernel) (by decide +kernel) w h).1
set_option maxRecDepth 20000 in
theorem wlI_19 : ∀ w ∈ wsL_law_r20, w ∈ lw_tbl := fun w h => (goodIn_p wsL_law_r20 [761, 428, 752, 434, 438] (by decide +kernel) (by decide +kernel) w h).1
set_option maxRecDepth 20000 in
theorem wlI_20 : ∀ w ∈ wsL_law_r21, w ∈ lw_tbl := fun w h => (goodIn_p wsL_law_r21 [442, 446, 788, 792, 796, 800] (by decide +kernel) (by decide +kernel) w h).1
set_option maxRecDepth 20000 in
theorem wlI_21 : ∀ w ∈ wsL_law_r22, w ∈ lw_tbl := fun w h => (goodIn_p wsL_law_r22 [803, 450, 454, 458, 807, 811] (by decide +kernel) (by decide +kernel) w h).1
set_option maxRecDepth 20000 in
theorem wlI_22 : ∀ w ∈ wsL_law_r23, w ∈ lw_tbl := fun w h => (goodIn_p wsL_law_r23 [462, 466, 815, 470, 474, 478] (by decide +kernel) (by decide +kernel) w h).1
set_option maxRecDepth 20000 in
theorem wlI_23 : ∀ w ∈ wsL_law_r24, w ∈ lw_tbl := fun w h => (goodIn_p wsL_law_r24 [482, 486, 820, 824, 828] (by decide +kernel) (by decide +kernel) w h).1
set_option maxRecDepth 20000 in
theorem wlI_24 : ∀ w ∈ wsL_law_r25, w ∈ lw_tbl := fun w h => (goodIn_p wsL_law_r25 [832, 490, 493, 836, 497, 501] (by decide +kernel) (by decide +kernel) w h).1
set_option maxRecDepth 20000 in
theorem wlI_25 : ∀ w ∈ wsL_law_r26, w ∈ lw_tbl := fun w h => (goodIn_p wsL_law_r26 [505, 511, 840, 844, 516] (by decide +kernel) (by decide +kernel) w h).1
set_option maxRecDepth 20000 in
theorem wlI_26 : ∀ w ∈ wsL_law_r27, w ∈ lw_tbl := fun w h => (goodIn_p wsL_law_r27 [520, 523, 526, 532, 529, 848, 536] (by decide +kernel) (by decide +kernel) w h).1
end
section
set_option maxRecDepth 20000 in
theorem wlI_27 : ∀ w ∈ wsL_law_r28, w ∈ lw_tbl := fun w h => (goodIn_p wsL_law_r28 [540, 543, 852, 547, 856, 551] (by decide +kernel) (by decide +kernel) w h).1
set_option maxRecDepth 20000 in
theorem wlI_28 : ∀ w ∈ wsL_law_r29, w ∈ lw_tbl := fun w h => (goodIn_p wsL_law_r29 [558, 860] (by decide +kernel) (by decide +kernel) w h).1
set_option maxRecDepth 20000 in
theorem wlI_29 : ∀ w ∈ wsX40, w ∈ lw_tbl := fun w h => (goodIn_p wsX40 [] (by decide +kernel) (by decide +kernel) w h).1
set_option maxRecDepth 20000 in
theorem wlI_30 : ∀ w ∈ wsX50, w ∈ lw_tbl := fun w h => (goodIn_p wsX50 [] (by decide +kernel) (by decide +kernel) w h).1
set_option maxRecDepth 20000 in
theorem wlI_31 : ∀ w ∈ wsX30, w ∈ lw_tbl := fun w h => (goodIn_p wsX30 [] (by decide +kernel) (by decide +kernel) w h).1
set_option maxRecDepth 20000 in
theorem wlI_32 : ∀ w ∈ wsX00, w ∈ lw_tbl := fun w h => (goodIn_p wsX00 [] (by decide +kernel) (by decide +kernel) w h).1
set_option maxRecDepth 20000 in
theorem wlI_33 : ∀ w ∈ wsX10, w ∈ lw_tbl := fun w h => (goodIn_p wsX10 [] (by decide +kernel) (by decide +kernel) w h).1
set_option maxRecDepth 20000 in
theorem wlI_34 : ∀ w ∈ wsX20, w ∈ lw_tbl := fun w h => (goodIn_p wsX20 [] (by decide +kernel) (by decide +kernel) w h).1
theorem wsL_law_in : ∀ w ∈ wsL_law, w ∈ lw_tbl := by
  intro w h
  unfold wsL_law at h
  simp only [List.mem_append, List.not_mem_nil, or_false] at h
  rcases h with ((((((h | h | h | h | h | h | h | h | h | h | h | h | h | h | h | h | h | h | h | h | h | h | h | h | h | h | h | h | h) | h) | h) | h) | h) | h) | h
  · exact wlI_0 w h
  · exact wlI_1 w h
  · exact wlI_2 w h
  · exact wlI_3 w h
  · exact wlI_4 w h
  · exact wlI_5 w h
  · exact wlI_6 w h
  · exact wlI_7 w h
  · exact wlI_8 w h
  · exact wlI_9 w h
  · exact wlI_10 w h
  · exact wlI_11 w h
  · exact wlI_12 w h
  · exact wlI_13 w h
  · exact wlI_14 w h
  · exact wlI_15 w h
  · exact wlI_16 w h
  · exact wlI_17 w h
  · exact wlI_18 w h
  · exact wlI_19 w h
  · exact wlI_20 w h
  · exact wlI_21 w h
  · exact wlI_22 w h
  · exact wlI_23 w h
  · exact wlI_24 w h
  · exact wlI_25 w h
  · exact wlI_26 w h
  · exact wlI_27 w h
  · exact wlI_28 w h
  · exact wlI_29 w h
  · exact wlI_30 w h
  · exact wlI_31 w h
  · exact wlI_32 w h
  · exact wlI_33 w h
  · exact wlI_34 w h

theorem inX0 : ∀ w ∈ wsX00, w ∈ lw_tbl := fun w h => wsL_law_in w (inlX0 w h)
theorem inX1 : ∀ w ∈ wsX10, w ∈ lw_tbl := fun w h => wsL_law_in w (inlX1 w h)
theorem inX2 : ∀ w ∈ wsX20, w ∈ lw_tbl := fun w h => wsL_law_in w (inlX2 w h)
theorem inX3 : ∀ w ∈ wsX30, w ∈ lw_tbl := fun w h => wsL_law_in w (inlX3 w h)
theorem inX4 : ∀ w ∈ wsX40, w ∈ lw_tbl := fun w h => wsL_law_in w (inlX4 w h)
theorem inX5 : ∀ w ∈ wsX50, w ∈ lw_tbl := fun w h => wsL_law_in w (inlX5 w h)
theorem inJ9 : ∀ w ∈ wsJ90, w ∈ lw_tbl := by decide +kernel
theorem inJ10 : ∀ w ∈ wsJ100, w ∈ lw_tbl := by decide +kernel
end
section
theorem dX0_init_0 : decode cX0_init 0 = .ok (.aload_n 0, 1) := by decide +kernel
theorem dX0_init_1 : decode cX0_init 1 = .ok (.invokespecial 3, 3) := by decide +kernel
theorem dX0_init_4 : decode cX0_init 4 = .ok (.aload_n 0, 1) := by decide +kernel
theorem dX0_init_5 : decode cX0_init 5 = .ok (.iconst 0, 1) := by decide +kernel
theorem dX0_init_6 : decode cX0_init 6 = .ok (.putfield 9, 3) := by decide +kernel
theorem dX0_init_9 : decode cX0_init 9 = .ok (.aload_n 0, 1) := by decide +kernel
theorem dX0_init_10 : decode cX0_init 10 = .ok (.iconst 0, 1) := by decide +kernel
theorem dX0_init_11 : decode cX0_init 11 = .ok (.putfield 15, 3) := by decide +kernel
theorem dX0_init_14 : decode cX0_init 14 = .ok (.aload_n 0, 1) := by decide +kernel
theorem dX0_init_15 : decode cX0_init 15 = .ok (.iconst 0, 1) := by decide +kernel
theorem dX0_init_16 : decode cX0_init 16 = .ok (.putfield 18, 3) := by decide +kernel
theorem dX0_init_19 : decode cX0_init 19 = .ok (.aload_n 0, 1) := by decide +kernel
theorem dX0_init_20 : decode cX0_init 20 = .ok (.iconst 0, 1) := by decide +kernel
theorem dX0_init_21 : decode cX0_init 21 = .ok (.putfield 22, 3) := by decide +kernel
theorem dX0_init_24 : decode cX0_init 24 = .ok (.aload_n 0, 1) := by decide +kernel
theorem dX0_init_25 : decode cX0_init 25 = .ok (.iconst 0, 1) := by decide +kernel
theorem dX0_init_26 : decode cX0_init 26 = .ok (.putfield 25, 3) := by decide +kernel
theorem dX0_init_29 : decode cX0_init 29 = .ok (.return_, 1) := by decide +kernel
set_option maxRecDepth 20000 in
theorem ggX0_take_X0_isNone : GoodIn wsX0_take wsX0_isNone := goodIn_r _ [9] (by decide +kernel) (by decide +kernel)
set_option maxRecDepth 20000 in
theorem gX0_take_X0_isNone : GoodIn wsX0_take (va_wsS RX0 28 yX0_isNone wsX0_isNone) := goodIn_app (goodIn_of _ (by decide +kernel)) ggX0_take_X0_isNone
set_option maxRecDepth 20000 in
theorem ggX0_take_X4_asNumber : GoodIn wsX0_take wsX4_asNumber := goodIn_r _ [12] (by decide +kernel) (by decide +kernel)
set_option maxRecDepth 20000 in
theorem gX0_take_X4_asNumber_n32 : GoodIn wsX0_take (wsX4_asNumber) := ggX0_take_X4_asNumber
theorem dX0_take_0 : decode cX0_take 0 = .ok (.iload_n 1, 1) := by decide +kernel
theorem dX0_take_1 : decode cX0_take 1 = .ok (.invokestatic 28, 3) := by decide +kernel
theorem dX0_take_4 : decode cX0_take 4 = .ok (.invokestatic 32, 3) := by decide +kernel
theorem dX0_take_7 : decode cX0_take 7 = .ok (.iload_n 2, 1) := by decide +kernel
theorem dX0_take_8 : decode cX0_take 8 = .ok (.invokestatic 28, 3) := by decide +kernel
theorem dX0_take_11 : decode cX0_take 11 = .ok (.invokestatic 32, 3) := by decide +kernel
theorem dX0_take_14 : decode cX0_take 14 = .ok (.iadd, 1) := by decide +kernel
theorem dX0_take_15 : decode cX0_take 15 = .ok (.iload_n 3, 1) := by decide +kernel
theorem dX0_take_16 : decode cX0_take 16 = .ok (.invokestatic 28, 3) := by decide +kernel
theorem dX0_take_19 : decode cX0_take 19 = .ok (.invokestatic 32, 3) := by decide +kernel
theorem dX0_take_22 : decode cX0_take 22 = .ok (.iadd, 1) := by decide +kernel
theorem dX0_take_23 : decode cX0_take 23 = .ok (.iload 4, 2) := by decide +kernel
theorem dX0_take_25 : decode cX0_take 25 = .ok (.invokestatic 28, 3) := by decide +kernel
theorem dX0_take_28 : decode cX0_take 28 = .ok (.invokestatic 32, 3) := by decide +kernel
theorem dX0_take_31 : decode cX0_take 31 = .ok (.iadd, 1) := by decide +kernel
theorem dX0_take_32 : decode cX0_take 32 = .ok (.istore 5, 2) := by decide +kernel
theorem dX0_take_34 : decode cX0_take 34 = .ok (.aload_n 0, 1) := by decide +kernel
theorem dX0_take_35 : decode cX0_take 35 = .ok (.iload 5, 2) := by decide +kernel
theorem dX0_take_37 : decode cX0_take 37 = .ok (.iconst 1, 1) := by decide +kernel
theorem dX0_take_38 : decode cX0_take 38 = .ok (.if_icmp .gt 7, 3) := by decide +kernel
theorem dX0_take_41 : decode cX0_take 41 = .ok (.iconst 1, 1) := by decide +kernel
theorem dX0_take_42 : decode cX0_take 42 = .ok (.goto 4, 3) := by decide +kernel
theorem dX0_take_45 : decode cX0_take 45 = .ok (.iconst 0, 1) := by decide +kernel
theorem dX0_take_46 : decode cX0_take 46 = .ok (.putfield 9, 3) := by decide +kernel
theorem dX0_take_49 : decode cX0_take 49 = .ok (.aload_n 0, 1) := by decide +kernel
theorem dX0_take_50 : decode cX0_take 50 = .ok (.iload 5, 2) := by decide +kernel
theorem dX0_take_52 : decode cX0_take 52 = .ok (.iconst 1, 1) := by decide +kernel
theorem dX0_take_53 : decode cX0_take 53 = .ok (.if_icmp .ne 7, 3) := by decide +kernel
theorem dX0_take_56 : decode cX0_take 56 = .ok (.iconst 1, 1) := by decide +kernel
theorem dX0_take_57 : decode cX0_take 57 = .ok (.goto 4, 3) := by decide +kernel
theorem dX0_take_60 : decode cX0_take 60 = .ok (.iconst 0, 1) := by decide +kernel
theorem dX0_take_61 : decode cX0_take 61 = .ok (.putfield 15, 3) := by decide +kernel
theorem dX0_take_64 : decode cX0_take 64 = .ok (.aload_n 0, 1) := by decide +kernel
theorem dX0_take_65 : decode cX0_take 65 = .ok (.getfield 9, 3) := by decide +kernel
theorem dX0_take_68 : decode cX0_take 68 = .ok (.ifCond .ne 4, 3) := by decide +kernel
theorem dX0_take_71 : decode cX0_take 71 = .ok (.return_, 1) := by decide +kernel
theorem dX0_take_72 : decode cX0_take 72 = .ok (.iload_n 1, 1) := by decide +kernel
theorem dX0_take_73 : decode cX0_take 73 = .ok (.invokestatic 28, 3) := by decide +kernel
theorem dX0_take_76 : decode cX0_take 76 = .ok (.ifCond .eq 12, 3) := by decide +kernel
theorem dX0_take_79 : decode cX0_take 79 = .ok (.iload_n 3, 1) := by decide +kernel
theorem dX0_take_80 : decode cX0_take 80 = .ok (.iload 4, 2) := by decide +kernel
theorem dX0_take_82 : decode cX0_take 82 = .ok (.iadd, 1) := by decide +kernel
theorem dX0_take_83 : decode cX0_take 83 = .ok (.iload_n 2, 1) := by decide +kernel
theorem dX0_take_84 : decode cX0_take 84 = .ok (.isub, 1) := by decide +kernel
theorem dX0_take_85 : decode cX0_take 85 = .ok (.goto 4, 3) := by decide +kernel
theorem dX0_take_88 : decode cX0_take 88 = .ok (.iload_n 1, 1) := by decide +kernel
theorem dX0_take_89 : decode cX0_take 89 = .ok (.istore 6, 2) := by decide +kernel
theorem dX0_take_91 : decode cX0_take 91 = .ok (.iload_n 2, 1) := by decide +kernel
theorem dX0_take_92 : decode cX0_take 92 = .ok (.invokestatic 28, 3) := by decide +kernel
theorem dX0_take_95 : decode cX0_take 95 = .ok (.ifCond .eq 12, 3) := by decide +kernel
theorem dX0_take_98 : decode cX0_take 98 = .ok (.iload_n 3, 1) := by decide +kernel
theorem dX0_take_99 : decode cX0_take 99 = .ok (.iload 4, 2) := by decide +kernel
theorem dX0_take_101 : decode cX0_take 101 = .ok (.iadd, 1) := by decide +kernel
theorem dX0_take_102 : decode cX0_take 102 = .ok (.iload_n 1, 1) := by decide +kernel
theorem dX0_take_103 : decode cX0_take 103 = .ok (.isub, 1) := by decide +kernel
theorem dX0_take_104 : decode cX0_take 104 = .ok (.goto 4, 3) := by decide +kernel
theorem dX0_take_107 : decode cX0_take 107 = .ok (.iload_n 2, 1) := by decide +kernel
theorem dX0_take_108 : decode cX0_take 108 = .ok (.istore 7, 2) := by decide +kernel
theorem dX0_take_110 : decode cX0_take 110 = .ok (.iload_n 3, 1) := by decide +kernel
theorem dX0_take_111 : decode cX0_take 111 = .ok (.invokestatic 28, 3) := by decide +kernel
theorem dX0_take_114 : decode cX0_take 114 = .ok (.ifCond .eq 12, 3) := by decide +kernel
theorem dX0_take_117 : decode cX0_take 117 = .ok (.iload_n 1, 1) := by decide +kernel
theorem dX0_take_118 : decode cX0_take 118 = .ok (.iload_n 2, 1) := by decide +kernel
theorem dX0_take_119 : decode cX0_take 119 = .ok (.iadd, 1) := by decide +kernel
theorem dX0_take_120 : decode cX0_take 120 = .ok (.iload 4, 2) := by decide +kernel
theorem dX0_take_122 : decode cX0_take 122 = .ok (.isub, 1) := by decide +kernel
theorem dX0_take_123 : decode cX0_take 123 = .ok (.goto 4, 3) := by decide +kernel
theorem dX0_take_126 : decode cX0_take 126 = .ok (.iload_n 3, 1) := by decide +kernel
theorem dX0_take_127 : decode cX0_take 127 = .ok (.istore 8, 2) := by decide +kernel
theorem dX0_take_129 : decode cX0_take 129 = .ok (.iload 4, 2) := by decide +kernel
theorem dX0_take_131 : decode cX0_take 131 = .ok (.invokestatic 28, 3) := by decide +kernel
theorem dX0_take_134 : decode cX0_take 134 = .ok (.ifCond .eq 11, 3) := by decide +kernel
theorem dX0_take_137 : decode cX0_take 137 = .ok (.iload_n 1, 1) := by decide +kernel
theorem dX0_take_138 : decode cX0_take 138 = .ok (.iload_n 2, 1) := by decide +kernel
theorem dX0_take_139 : decode cX0_take 139 = .ok (.iadd, 1) := by decide +kernel
theorem dX0_take_140 : decode cX0_take 140 = .ok (.iload_n 3, 1) := by decide +kernel
theorem dX0_take_141 : decode cX0_take 141 = .ok (.isub, 1) := by decide +kernel
theorem dX0_take_142 : decode cX0_take 142 = .ok (.goto 5, 3) := by decide +kernel
theorem dX0_take_145 : decode cX0_take 145 = .ok (.iload 4, 2) := by decide +kernel
theorem dX0_take_147 : decode cX0_take 147 = .ok (.istore 9, 2) := by decide +kernel
theorem dX0_take_149 : decode cX0_take 149 = .ok (.aload_n 0, 1) := by decide +kernel
theorem dX0_take_150 : decode cX0_take 150 = .ok (.iload 6, 2) := by decide +kernel
theorem dX0_take_152 : decode cX0_take 152 = .ok (.iload 7, 2) := by decide +kernel
theorem dX0_take_154 : decode cX0_take 154 = .ok (.isub, 1) := by decide +kernel
theorem dX0_take_155 : decode cX0_take 155 = .ok (.putfield 18, 3) := by decide +kernel
theorem dX0_take_158 : decode cX0_take 158 = .ok (.aload_n 0, 1) := by decide +kernel
theorem dX0_take_159 : decode cX0_take 159 = .ok (.iload 8, 2) := by decide +kernel
theorem dX0_take_161 : decode cX0_take 161 = .ok (.iload 9, 2) := by decide +kernel
theorem dX0_take_163 : decode cX0_take 163 = .ok (.isub, 1) := by decide +kernel
theorem dX0_take_164 : decode cX0_take 164 = .ok (.putfield 22, 3) := by decide +kernel
theorem dX0_take_167 : decode cX0_take 167 = .ok (.aload_n 0, 1) := by decide +kernel
theorem dX0_take_168 : decode cX0_take 168 = .ok (.iload 6, 2) := by decide +kernel
theorem dX0_take_170 : decode cX0_take 170 = .ok (.iload 7, 2) := by decide +kernel
theorem dX0_take_172 : decode cX0_take 172 = .ok (.iadd, 1) := by decide +kernel
theorem dX0_take_173 : decode cX0_take 173 = .ok (.iload 8, 2) := by decide +kernel
theorem dX0_take_175 : decode cX0_take 175 = .ok (.isub, 1) := by decide +kernel
theorem dX0_take_176 : decode cX0_take 176 = .ok (.iload 9, 2) := by decide +kernel
theorem dX0_take_178 : decode cX0_take 178 = .ok (.isub, 1) := by decide +kernel
theorem dX0_take_179 : decode cX0_take 179 = .ok (.putfield 25, 3) := by decide +kernel
theorem dX0_take_182 : decode cX0_take 182 = .ok (.return_, 1) := by decide +kernel
theorem dX0_isNone_0 : decode cX0_isNone 0 = .ok (.iload_n 0, 1) := by decide +kernel
theorem dX0_isNone_1 : decode cX0_isNone 1 = .ok (.bipush (-128), 2) := by decide +kernel
theorem dX0_isNone_3 : decode cX0_isNone 3 = .ok (.if_icmp .le 10, 3) := by decide +kernel
theorem dX0_isNone_6 : decode cX0_isNone 6 = .ok (.iload_n 0, 1) := by decide +kernel
theorem dX0_isNone_7 : decode cX0_isNone 7 = .ok (.sipush 20000, 3) := by decide +kernel
theorem dX0_isNone_10 : decode cX0_isNone 10 = .ok (.if_icmp .le 7, 3) := by decide +kernel
theorem dX0_isNone_13 : decode cX0_isNone 13 = .ok (.iconst 1, 1) := by decide +kernel
theorem dX0_isNone_14 : decode cX0_isNone 14 = .ok (.goto 4, 3) := by decide +kernel
theorem dX0_isNone_17 : decode cX0_isNone 17 = .ok (.iconst 0, 1) := by decide +kernel
theorem dX0_isNone_18 : decode cX0_isNone 18 = .ok (.ireturn, 1) := by decide +kernel
theorem dX1_init_0 : decode cX1_init 0 = .ok (.aload_n 0, 1) := by decide +kernel
theorem dX1_init_1 : decode cX1_init 1 = .ok (.invokespecial 1, 3) := by decide +kernel
theorem dX1_init_4 : decode cX1_init 4 = .ok (.aload_n 0, 1) := by decide +kernel
theorem dX1_init_5 : decode cX1_init 5 = .ok (.lconst 0, 1) := by decide +kernel
theorem dX1_init_6 : decode cX1_init 6 = .ok (.putfield 7, 3) := by decide +kernel
theorem dX1_init_9 : decode cX1_init 9 = .ok (.aload_n 0, 1) := by decide +kernel
theorem dX1_init_10 : decode cX1_init 10 = .ok (.lconst 0, 1) := by decide +kernel
theorem dX1_init_11 : decode cX1_init 11 = .ok (.putfield 13, 3) := by decide +kernel
theorem dX1_init_14 : decode cX1_init 14 = .ok (.aload_n 0, 1) := by decide +kernel
theorem dX1_init_15 : decode cX1_init 15 = .ok (.lconst 0, 1) := by decide +kernel
theorem dX1_init_16 : decode cX1_init 16 = .ok (.putfield 16, 3) := by decide +kernel
theorem dX1_init_19 : decode cX1_init 19 = .ok (.aload_n 0, 1) := by decide +kernel
theorem dX1_init_20 : decode cX1_init 20 = .ok (.lconst 0, 1) := by decide +kernel
theorem dX1_init_21 : decode cX1_init 21 = .ok (.putfield 19, 3) := by decide +kernel
theorem dX1_init_24 : decode cX1_init 24 = .ok (.return_, 1) := by decide +kernel
theorem dX1_rest_0 : decode cX1_rest 0 = .ok (.aload_n 0, 1) := by decide +kernel
theorem dX1_rest_1 : decode cX1_rest 1 = .ok (.lconst 0, 1) := by decide +kernel
theorem dX1_rest_2 : decode cX1_rest 2 = .ok (.putfield 7, 3) := by decide +kernel
theorem dX1_rest_5 : decode cX1_rest 5 = .ok (.aload_n 0, 1) := by decide +kernel
theorem dX1_rest_6 : decode cX1_rest 6 = .ok (.lconst 0, 1) := by decide +kernel
theorem dX1_rest_7 : decode cX1_rest 7 = .ok (.putfield 13, 3) := by decide +kernel
theorem dX1_rest_10 : decode cX1_rest 10 = .ok (.aload_n 0, 1) := by decide +kernel
theorem dX1_rest_11 : decode cX1_rest 11 = .ok (.lconst 0, 1) := by decide +kernel
theorem dX1_rest_12 : decode cX1_rest 12 = .ok (.putfield 16, 3) := by decide +kernel
theorem dX1_rest_15 : decode cX1_rest 15 = .ok (.aload_n 0, 1) := by decide +kernel
theorem dX1_rest_16 : decode cX1_rest 16 = .ok (.lconst 0, 1) := by decide +kernel
theorem dX1_rest_17 : decode cX1_rest 17 = .ok (.putfield 19, 3) := by decide +kernel
theorem dX1_rest_20 : decode cX1_rest 20 = .ok (.return_, 1) := by decide +kernel
set_option maxRecDepth 20000 in
theorem ggX1_swing_X4_xTurned : GoodIn wsX1_swing wsX4_xTurned := goodIn_r _ [5, 6, 7, 4, 8, 9, 10, 11, 12] (by decide +kernel) (by decide +kernel)
set_option maxRecDepth 20000 in
theorem gX1_swing_X4_xTurned_n22 : GoodIn wsX1_swing (wsX4_xTurned) := ggX1_swing_X4_xTurned
set_option maxRecDepth 20000 in
theorem ggX1_swing_X4_yTurned : GoodIn wsX1_swing wsX4_yTurned := goodIn_r _ [14, 10, 11, 4, 12, 9, 6, 7, 8] (by decide +kernel) (by decide +kernel)
set_option maxRecDepth 20000 in
theorem gX1_swing_X4_yTurned_n28 : GoodIn wsX1_swing (wsX4_yTurned) := ggX1_swing_X4_yTurned
theorem dX1_swing_0 : decode cX1_swing 0 = .ok (.aload_n 0, 1) := by decide +kernel
theorem dX1_swing_1 : decode cX1_swing 1 = .ok (.iload_n 1, 1) := by decide +kernel
theorem dX1_swing_2 : decode cX1_swing 2 = .ok (.i2l, 1) := by decide +kernel
theorem dX1_swing_3 : decode cX1_swing 3 = .ok (.iload_n 2, 1) := by decide +kernel
theorem dX1_swing_4 : decode cX1_swing 4 = .ok (.i2l, 1) := by decide +kernel
theorem dX1_swing_5 : decode cX1_swing 5 = .ok (.iload_n 3, 1) := by decide +kernel
theorem dX1_swing_6 : decode cX1_swing 6 = .ok (.invokestatic 22, 3) := by decide +kernel
theorem dX1_swing_9 : decode cX1_swing 9 = .ok (.putfield 7, 3) := by decide +kernel
theorem dX1_swing_12 : decode cX1_swing 12 = .ok (.aload_n 0, 1) := by decide +kernel
theorem dX1_swing_13 : decode cX1_swing 13 = .ok (.iload_n 1, 1) := by decide +kernel
theorem dX1_swing_14 : decode cX1_swing 14 = .ok (.i2l, 1) := by decide +kernel
theorem dX1_swing_15 : decode cX1_swing 15 = .ok (.iload_n 2, 1) := by decide +kernel
theorem dX1_swing_16 : decode cX1_swing 16 = .ok (.i2l, 1) := by decide +kernel
theorem dX1_swing_17 : decode cX1_swing 17 = .ok (.iload_n 3, 1) := by decide +kernel
theorem dX1_swing_18 : decode cX1_swing 18 = .ok (.invokestatic 28, 3) := by decide +kernel
theorem dX1_swing_21 : decode cX1_swing 21 = .ok (.putfield 13, 3) := by decide +kernel
theorem dX1_swing_24 : decode cX1_swing 24 = .ok (.return_, 1) := by decide +kernel
theorem dX1_hold_0 : decode cX1_hold 0 = .ok (.aload_n 0, 1) := by decide +kernel
theorem dX1_hold_1 : decode cX1_hold 1 = .ok (.lload_n 1, 1) := by decide +kernel
theorem dX1_hold_2 : decode cX1_hold 2 = .ok (.putfield 16, 3) := by decide +kernel
theorem dX1_hold_5 : decode cX1_hold 5 = .ok (.aload_n 0, 1) := by decide +kernel
theorem dX1_hold_6 : decode cX1_hold 6 = .ok (.lload_n 3, 1) := by decide +kernel
theorem dX1_hold_7 : decode cX1_hold 7 = .ok (.putfield 19, 3) := by decide +kernel
theorem dX1_hold_10 : decode cX1_hold 10 = .ok (.return_, 1) := by decide +kernel
theorem dX1_add_0 : decode cX1_add 0 = .ok (.aload_n 0, 1) := by decide +kernel
theorem dX1_add_1 : decode cX1_add 1 = .ok (.dup, 1) := by decide +kernel
theorem dX1_add_2 : decode cX1_add 2 = .ok (.getfield 7, 3) := by decide +kernel
theorem dX1_add_5 : decode cX1_add 5 = .ok (.aload_n 1, 1) := by decide +kernel
theorem dX1_add_6 : decode cX1_add 6 = .ok (.getfield 7, 3) := by decide +kernel
theorem dX1_add_9 : decode cX1_add 9 = .ok (.ladd, 1) := by decide +kernel
theorem dX1_add_10 : decode cX1_add 10 = .ok (.putfield 7, 3) := by decide +kernel
theorem dX1_add_13 : decode cX1_add 13 = .ok (.aload_n 0, 1) := by decide +kernel
theorem dX1_add_14 : decode cX1_add 14 = .ok (.dup, 1) := by decide +kernel
theorem dX1_add_15 : decode cX1_add 15 = .ok (.getfield 13, 3) := by decide +kernel
theorem dX1_add_18 : decode cX1_add 18 = .ok (.aload_n 1, 1) := by decide +kernel
theorem dX1_add_19 : decode cX1_add 19 = .ok (.getfield 13, 3) := by decide +kernel
theorem dX1_add_22 : decode cX1_add 22 = .ok (.ladd, 1) := by decide +kernel
theorem dX1_add_23 : decode cX1_add 23 = .ok (.putfield 13, 3) := by decide +kernel
theorem dX1_add_26 : decode cX1_add 26 = .ok (.aload_n 0, 1) := by decide +kernel
theorem dX1_add_27 : decode cX1_add 27 = .ok (.dup, 1) := by decide +kernel
theorem dX1_add_28 : decode cX1_add 28 = .ok (.getfield 16, 3) := by decide +kernel
theorem dX1_add_31 : decode cX1_add 31 = .ok (.aload_n 1, 1) := by decide +kernel
theorem dX1_add_32 : decode cX1_add 32 = .ok (.getfield 16, 3) := by decide +kernel
theorem dX1_add_35 : decode cX1_add 35 = .ok (.ladd, 1) := by decide +kernel
theorem dX1_add_36 : decode cX1_add 36 = .ok (.putfield 16, 3) := by decide +kernel
theorem dX1_add_39 : decode cX1_add 39 = .ok (.aload_n 0, 1) := by decide +kernel
theorem dX1_add_40 : decode cX1_add 40 = .ok (.dup, 1) := by decide +kernel
theorem dX1_add_41 : decode cX1_add 41 = .ok (.getfield 19, 3) := by decide +kernel
theorem dX1_add_44 : decode cX1_add 44 = .ok (.aload_n 1, 1) := by decide +kernel
theorem dX1_add_45 : decode cX1_add 45 = .ok (.getfield 19, 3) := by decide +kernel
theorem dX1_add_48 : decode cX1_add 48 = .ok (.ladd, 1) := by decide +kernel
theorem dX1_add_49 : decode cX1_add 49 = .ok (.putfield 19, 3) := by decide +kernel
theorem dX1_add_52 : decode cX1_add 52 = .ok (.return_, 1) := by decide +kernel
theorem dX1_subtract_0 : decode cX1_subtract 0 = .ok (.aload_n 0, 1) := by decide +kernel
theorem dX1_subtract_1 : decode cX1_subtract 1 = .ok (.dup, 1) := by decide +kernel
theorem dX1_subtract_2 : decode cX1_subtract 2 = .ok (.getfield 7, 3) := by decide +kernel
theorem dX1_subtract_5 : decode cX1_subtract 5 = .ok (.aload_n 1, 1) := by decide +kernel
theorem dX1_subtract_6 : decode cX1_subtract 6 = .ok (.getfield 7, 3) := by decide +kernel
theorem dX1_subtract_9 : decode cX1_subtract 9 = .ok (.lsub, 1) := by decide +kernel
theorem dX1_subtract_10 : decode cX1_subtract 10 = .ok (.putfield 7, 3) := by decide +kernel
theorem dX1_subtract_13 : decode cX1_subtract 13 = .ok (.aload_n 0, 1) := by decide +kernel
theorem dX1_subtract_14 : decode cX1_subtract 14 = .ok (.dup, 1) := by decide +kernel
theorem dX1_subtract_15 : decode cX1_subtract 15 = .ok (.getfield 13, 3) := by decide +kernel
theorem dX1_subtract_18 : decode cX1_subtract 18 = .ok (.aload_n 1, 1) := by decide +kernel
theorem dX1_subtract_19 : decode cX1_subtract 19 = .ok (.getfield 13, 3) := by decide +kernel
theorem dX1_subtract_22 : decode cX1_subtract 22 = .ok (.lsub, 1) := by decide +kernel
theorem dX1_subtract_23 : decode cX1_subtract 23 = .ok (.putfield 13, 3) := by decide +kernel
theorem dX1_subtract_26 : decode cX1_subtract 26 = .ok (.aload_n 0, 1) := by decide +kernel
theorem dX1_subtract_27 : decode cX1_subtract 27 = .ok (.dup, 1) := by decide +kernel
theorem dX1_subtract_28 : decode cX1_subtract 28 = .ok (.getfield 16, 3) := by decide +kernel
theorem dX1_subtract_31 : decode cX1_subtract 31 = .ok (.aload_n 1, 1) := by decide +kernel
theorem dX1_subtract_32 : decode cX1_subtract 32 = .ok (.getfield 16, 3) := by decide +kernel
theorem dX1_subtract_35 : decode cX1_subtract 35 = .ok (.lsub, 1) := by decide +kernel
theorem dX1_subtract_36 : decode cX1_subtract 36 = .ok (.putfield 16, 3) := by decide +kernel
theorem dX1_subtract_39 : decode cX1_subtract 39 = .ok (.aload_n 0, 1) := by decide +kernel
theorem dX1_subtract_40 : decode cX1_subtract 40 = .ok (.dup, 1) := by decide +kernel
theorem dX1_subtract_41 : decode cX1_subtract 41 = .ok (.getfield 19, 3) := by decide +kernel
theorem dX1_subtract_44 : decode cX1_subtract 44 = .ok (.aload_n 1, 1) := by decide +kernel
theorem dX1_subtract_45 : decode cX1_subtract 45 = .ok (.getfield 19, 3) := by decide +kernel
theorem dX1_subtract_48 : decode cX1_subtract 48 = .ok (.lsub, 1) := by decide +kernel
theorem dX1_subtract_49 : decode cX1_subtract 49 = .ok (.putfield 19, 3) := by decide +kernel
theorem dX1_subtract_52 : decode cX1_subtract 52 = .ok (.return_, 1) := by decide +kernel
theorem dX1_multiply_0 : decode cX1_multiply 0 = .ok (.aload_n 0, 1) := by decide +kernel
theorem dX1_multiply_1 : decode cX1_multiply 1 = .ok (.dup, 1) := by decide +kernel
theorem dX1_multiply_2 : decode cX1_multiply 2 = .ok (.getfield 7, 3) := by decide +kernel
theorem dX1_multiply_5 : decode cX1_multiply 5 = .ok (.lload_n 1, 1) := by decide +kernel
theorem dX1_multiply_6 : decode cX1_multiply 6 = .ok (.lmul, 1) := by decide +kernel
theorem dX1_multiply_7 : decode cX1_multiply 7 = .ok (.putfield 7, 3) := by decide +kernel
theorem dX1_multiply_10 : decode cX1_multiply 10 = .ok (.aload_n 0, 1) := by decide +kernel
theorem dX1_multiply_11 : decode cX1_multiply 11 = .ok (.dup, 1) := by decide +kernel
theorem dX1_multiply_12 : decode cX1_multiply 12 = .ok (.getfield 13, 3) := by decide +kernel
theorem dX1_multiply_15 : decode cX1_multiply 15 = .ok (.lload_n 1, 1) := by decide +kernel
theorem dX1_multiply_16 : decode cX1_multiply 16 = .ok (.lmul, 1) := by decide +kernel
theorem dX1_multiply_17 : decode cX1_multiply 17 = .ok (.putfield 13, 3) := by decide +kernel
theorem dX1_multiply_20 : decode cX1_multiply 20 = .ok (.aload_n 0, 1) := by decide +kernel
theorem dX1_multiply_21 : decode cX1_multiply 21 = .ok (.dup, 1) := by decide +kernel
theorem dX1_multiply_22 : decode cX1_multiply 22 = .ok (.getfield 16, 3) := by decide +kernel
theorem dX1_multiply_25 : decode cX1_multiply 25 = .ok (.lload_n 1, 1) := by decide +kernel
theorem dX1_multiply_26 : decode cX1_multiply 26 = .ok (.lmul, 1) := by decide +kernel
theorem dX1_multiply_27 : decode cX1_multiply 27 = .ok (.putfield 16, 3) := by decide +kernel
theorem dX1_multiply_30 : decode cX1_multiply 30 = .ok (.aload_n 0, 1) := by decide +kernel
theorem dX1_multiply_31 : decode cX1_multiply 31 = .ok (.dup, 1) := by decide +kernel
theorem dX1_multiply_32 : decode cX1_multiply 32 = .ok (.getfield 19, 3) := by decide +kernel
theorem dX1_multiply_35 : decode cX1_multiply 35 = .ok (.lload_n 1, 1) := by decide +kernel
theorem dX1_multiply_36 : decode cX1_multiply 36 = .ok (.lmul, 1) := by decide +kernel
theorem dX1_multiply_37 : decode cX1_multiply 37 = .ok (.putfield 19, 3) := by decide +kernel
theorem dX1_multiply_40 : decode cX1_multiply 40 = .ok (.return_, 1) := by decide +kernel
set_option maxRecDepth 20000 in
theorem ggX1_east_X4_xTurned : GoodIn wsX1_east wsX4_xTurned := goodIn_r _ [6, 7, 8, 5, 9, 10, 11, 12, 13] (by decide +kernel) (by decide +kernel)
set_option maxRecDepth 20000 in
theorem gX1_east_X4_xTurned_n22 : GoodIn wsX1_east (wsX4_xTurned) := ggX1_east_X4_xTurned
theorem dX1_east_0 : decode cX1_east 0 = .ok (.aload_n 0, 1) := by decide +kernel
theorem dX1_east_1 : decode cX1_east 1 = .ok (.getfield 7, 3) := by decide +kernel
theorem dX1_east_4 : decode cX1_east 4 = .ok (.aload_n 0, 1) := by decide +kernel
theorem dX1_east_5 : decode cX1_east 5 = .ok (.getfield 13, 3) := by decide +kernel
theorem dX1_east_8 : decode cX1_east 8 = .ok (.iload_n 1, 1) := by decide +kernel
theorem dX1_east_9 : decode cX1_east 9 = .ok (.invokestatic 22, 3) := by decide +kernel
theorem dX1_east_12 : decode cX1_east 12 = .ok (.aload_n 0, 1) := by decide +kernel
theorem dX1_east_13 : decode cX1_east 13 = .ok (.getfield 16, 3) := by decide +kernel
theorem dX1_east_16 : decode cX1_east 16 = .ok (.ladd, 1) := by decide +kernel
theorem dX1_east_17 : decode cX1_east 17 = .ok (.lreturn, 1) := by decide +kernel
set_option maxRecDepth 20000 in
theorem ggX1_north_X4_yTurned : GoodIn wsX1_north wsX4_yTurned := goodIn_r _ [6, 7, 8, 5, 9, 10, 11, 12, 13] (by decide +kernel) (by decide +kernel)
set_option maxRecDepth 20000 in
theorem gX1_north_X4_yTurned_n28 : GoodIn wsX1_north (wsX4_yTurned) := ggX1_north_X4_yTurned
theorem dX1_north_0 : decode cX1_north 0 = .ok (.aload_n 0, 1) := by decide +kernel
theorem dX1_north_1 : decode cX1_north 1 = .ok (.getfield 7, 3) := by decide +kernel
theorem dX1_north_4 : decode cX1_north 4 = .ok (.aload_n 0, 1) := by decide +kernel
theorem dX1_north_5 : decode cX1_north 5 = .ok (.getfield 13, 3) := by decide +kernel
theorem dX1_north_8 : decode cX1_north 8 = .ok (.iload_n 1, 1) := by decide +kernel
theorem dX1_north_9 : decode cX1_north 9 = .ok (.invokestatic 28, 3) := by decide +kernel
theorem dX1_north_12 : decode cX1_north 12 = .ok (.aload_n 0, 1) := by decide +kernel
theorem dX1_north_13 : decode cX1_north 13 = .ok (.getfield 19, 3) := by decide +kernel
theorem dX1_north_16 : decode cX1_north 16 = .ok (.ladd, 1) := by decide +kernel
theorem dX1_north_17 : decode cX1_north 17 = .ok (.lreturn, 1) := by decide +kernel
set_option maxRecDepth 20000 in
theorem ggX1_part_X1_east : GoodIn wsX1_part wsX1_east := goodIn_r _ [5, 6, 7, 8, 9, 10, 11, 12, 13, 14, 15, 16, 17, 18, 26, 27, 28, 29] (by decide +kernel) (by decide +kernel)
set_option maxRecDepth 20000 in
theorem gX1_part_X1_east : GoodIn wsX1_part (wsV RX1 31 RX1 yX1_east wsX1_east) := goodIn_app (goodIn_of _ (by decide +kernel)) ggX1_part_X1_east
set_option maxRecDepth 20000 in
theorem ggX1_part_X1_north : GoodIn wsX1_part wsX1_north := goodIn_r _ [22, 6, 7, 23, 24, 10, 25, 16, 17, 18, 15, 12, 13, 14, 26, 27, 28, 29] (by decide +kernel) (by decide +kernel)
set_option maxRecDepth 20000 in
theorem gX1_part_X1_north : GoodIn wsX1_part (wsV RX1 35 RX1 yX1_north wsX1_north) := goodIn_app (goodIn_of _ (by decide +kernel)) ggX1_part_X1_north
theorem dX1_part_0 : decode cX1_part 0 = .ok (.iload_n 2, 1) := by decide +kernel
theorem dX1_part_1 : decode cX1_part 1 = .ok (.ifCond .ne 11, 3) := by decide +kernel
theorem dX1_part_4 : decode cX1_part 4 = .ok (.aload_n 0, 1) := by decide +kernel
theorem dX1_part_5 : decode cX1_part 5 = .ok (.iload_n 1, 1) := by decide +kernel
theorem dX1_part_6 : decode cX1_part 6 = .ok (.invokevirtual 31, 3) := by decide +kernel
theorem dX1_part_9 : decode cX1_part 9 = .ok (.goto 8, 3) := by decide +kernel
theorem dX1_part_12 : decode cX1_part 12 = .ok (.aload_n 0, 1) := by decide +kernel
theorem dX1_part_13 : decode cX1_part 13 = .ok (.iload_n 1, 1) := by decide +kernel
theorem dX1_part_14 : decode cX1_part 14 = .ok (.invokevirtual 35, 3) := by decide +kernel
theorem dX1_part_17 : decode cX1_part 17 = .ok (.lreturn, 1) := by decide +kernel
theorem dX2_init_0 : decode cX2_init 0 = .ok (.aload_n 0, 1) := by decide +kernel
theorem dX2_init_1 : decode cX2_init 1 = .ok (.invokespecial 3, 3) := by decide +kernel
theorem dX2_init_4 : decode cX2_init 4 = .ok (.aload_n 0, 1) := by decide +kernel
theorem dX2_init_5 : decode cX2_init 5 = .ok (.sipush 200, 3) := by decide +kernel
theorem dX2_init_8 : decode cX2_init 8 = .ok (.newarray .int, 2) := by decide +kernel
theorem dX2_init_10 : decode cX2_init 10 = .ok (.putfield 9, 3) := by decide +kernel
theorem dX2_init_13 : decode cX2_init 13 = .ok (.aload_n 0, 1) := by decide +kernel
theorem dX2_init_14 : decode cX2_init 14 = .ok (.iconst (-1), 1) := by decide +kernel
theorem dX2_init_15 : decode cX2_init 15 = .ok (.putfield 15, 3) := by decide +kernel
theorem dX2_init_18 : decode cX2_init 18 = .ok (.aload_n 0, 1) := by decide +kernel
theorem dX2_init_19 : decode cX2_init 19 = .ok (.iconst 0, 1) := by decide +kernel
theorem dX2_init_20 : decode cX2_init 20 = .ok (.putfield 19, 3) := by decide +kernel
theorem dX2_init_23 : decode cX2_init 23 = .ok (.return_, 1) := by decide +kernel
theorem dX2_isLost_0 : decode cX2_isLost 0 = .ok (.aload_n 0, 1) := by decide +kernel
theorem dX2_isLost_1 : decode cX2_isLost 1 = .ok (.getfield 15, 3) := by decide +kernel
theorem dX2_isLost_4 : decode cX2_isLost 4 = .ok (.iconst (-1), 1) := by decide +kernel
theorem dX2_isLost_5 : decode cX2_isLost 5 = .ok (.if_icmp .ne 7, 3) := by decide +kernel
theorem dX2_isLost_8 : decode cX2_isLost 8 = .ok (.iconst 1, 1) := by decide +kernel
theorem dX2_isLost_9 : decode cX2_isLost 9 = .ok (.goto 4, 3) := by decide +kernel
theorem dX2_isLost_12 : decode cX2_isLost 12 = .ok (.iconst 0, 1) := by decide +kernel
theorem dX2_isLost_13 : decode cX2_isLost 13 = .ok (.ireturn, 1) := by decide +kernel
theorem dX2_renew_0 : decode cX2_renew 0 = .ok (.aload_n 0, 1) := by decide +kernel
theorem dX2_renew_1 : decode cX2_renew 1 = .ok (.iload_n 1, 1) := by decide +kernel
theorem dX2_renew_2 : decode cX2_renew 2 = .ok (.putfield 15, 3) := by decide +kernel
theorem dX2_renew_5 : decode cX2_renew 5 = .ok (.aload_n 0, 1) := by decide +kernel
theorem dX2_renew_6 : decode cX2_renew 6 = .ok (.iload_n 2, 1) := by decide +kernel
theorem dX2_renew_7 : decode cX2_renew 7 = .ok (.aload_n 0, 1) := by decide +kernel
theorem dX2_renew_8 : decode cX2_renew 8 = .ok (.getfield 9, 3) := by decide +kernel
theorem dX2_renew_11 : decode cX2_renew 11 = .ok (.arraylength, 1) := by decide +kernel
theorem dX2_renew_12 : decode cX2_renew 12 = .ok (.invokestatic 22, 3) := by decide +kernel
theorem dX2_renew_15 : decode cX2_renew 15 = .ok (.putfield 19, 3) := by decide +kernel
theorem dX2_renew_18 : decode cX2_renew 18 = .ok (.iconst 0, 1) := by decide +kernel
theorem dX2_renew_19 : decode cX2_renew 19 = .ok (.istore_n 3, 1) := by decide +kernel
theorem dX2_renew_20 : decode cX2_renew 20 = .ok (.iload_n 3, 1) := by decide +kernel
theorem dX2_renew_21 : decode cX2_renew 21 = .ok (.aload_n 0, 1) := by decide +kernel
theorem dX2_renew_22 : decode cX2_renew 22 = .ok (.getfield 19, 3) := by decide +kernel
theorem dX2_renew_25 : decode cX2_renew 25 = .ok (.if_icmp .ge 16, 3) := by decide +kernel
theorem dX2_renew_28 : decode cX2_renew 28 = .ok (.aload_n 0, 1) := by decide +kernel
theorem dX2_renew_29 : decode cX2_renew 29 = .ok (.getfield 9, 3) := by decide +kernel
theorem dX2_renew_32 : decode cX2_renew 32 = .ok (.iload_n 3, 1) := by decide +kernel
theorem dX2_renew_33 : decode cX2_renew 33 = .ok (.iconst 0, 1) := by decide +kernel
theorem dX2_renew_34 : decode cX2_renew 34 = .ok (.iastore, 1) := by decide +kernel
theorem dX2_renew_35 : decode cX2_renew 35 = .ok (.iinc 3 1, 3) := by decide +kernel
theorem dX2_renew_38 : decode cX2_renew 38 = .ok (.goto (-18), 3) := by decide +kernel
theorem dX2_renew_41 : decode cX2_renew 41 = .ok (.return_, 1) := by decide +kernel
theorem dX2_drop_0 : decode cX2_drop 0 = .ok (.aload_n 0, 1) := by decide +kernel
theorem dX2_drop_1 : decode cX2_drop 1 = .ok (.getfield 19, 3) := by decide +kernel
theorem dX2_drop_4 : decode cX2_drop 4 = .ok (.istore_n 1, 1) := by decide +kernel
theorem dX2_drop_5 : decode cX2_drop 5 = .ok (.aload_n 0, 1) := by decide +kernel
theorem dX2_drop_6 : decode cX2_drop 6 = .ok (.iconst (-1), 1) := by decide +kernel
theorem dX2_drop_7 : decode cX2_drop 7 = .ok (.putfield 15, 3) := by decide +kernel
theorem dX2_drop_10 : decode cX2_drop 10 = .ok (.aload_n 0, 1) := by decide +kernel
theorem dX2_drop_11 : decode cX2_drop 11 = .ok (.iconst 0, 1) := by decide +kernel
theorem dX2_drop_12 : decode cX2_drop 12 = .ok (.putfield 19, 3) := by decide +kernel
theorem dX2_drop_15 : decode cX2_drop 15 = .ok (.iload_n 1, 1) := by decide +kernel
theorem dX2_drop_16 : decode cX2_drop 16 = .ok (.ireturn, 1) := by decide +kernel
theorem dX2_holds_0 : decode cX2_holds 0 = .ok (.iload_n 1, 1) := by decide +kernel
theorem dX2_holds_1 : decode cX2_holds 1 = .ok (.ifCond .lt 15, 3) := by decide +kernel
theorem dX2_holds_4 : decode cX2_holds 4 = .ok (.iload_n 1, 1) := by decide +kernel
theorem dX2_holds_5 : decode cX2_holds 5 = .ok (.aload_n 0, 1) := by decide +kernel
theorem dX2_holds_6 : decode cX2_holds 6 = .ok (.getfield 19, 3) := by decide +kernel
theorem dX2_holds_9 : decode cX2_holds 9 = .ok (.if_icmp .ge 7, 3) := by decide +kernel
theorem dX2_holds_12 : decode cX2_holds 12 = .ok (.iconst 1, 1) := by decide +kernel
theorem dX2_holds_13 : decode cX2_holds 13 = .ok (.goto 4, 3) := by decide +kernel
theorem dX2_holds_16 : decode cX2_holds 16 = .ok (.iconst 0, 1) := by decide +kernel
theorem dX2_holds_17 : decode cX2_holds 17 = .ok (.ireturn, 1) := by decide +kernel
theorem dX2_holdsRun_0 : decode cX2_holdsRun 0 = .ok (.iload_n 1, 1) := by decide +kernel
theorem dX2_holdsRun_1 : decode cX2_holdsRun 1 = .ok (.ifCond .lt 21, 3) := by decide +kernel
theorem dX2_holdsRun_4 : decode cX2_holdsRun 4 = .ok (.iload_n 2, 1) := by decide +kernel
theorem dX2_holdsRun_5 : decode cX2_holdsRun 5 = .ok (.ifCond .lt 17, 3) := by decide +kernel
theorem dX2_holdsRun_8 : decode cX2_holdsRun 8 = .ok (.iload_n 1, 1) := by decide +kernel
theorem dX2_holdsRun_9 : decode cX2_holdsRun 9 = .ok (.aload_n 0, 1) := by decide +kernel
theorem dX2_holdsRun_10 : decode cX2_holdsRun 10 = .ok (.getfield 19, 3) := by decide +kernel
theorem dX2_holdsRun_13 : decode cX2_holdsRun 13 = .ok (.iload_n 2, 1) := by decide +kernel
theorem dX2_holdsRun_14 : decode cX2_holdsRun 14 = .ok (.isub, 1) := by decide +kernel
theorem dX2_holdsRun_15 : decode cX2_holdsRun 15 = .ok (.if_icmp .gt 7, 3) := by decide +kernel
theorem dX2_holdsRun_18 : decode cX2_holdsRun 18 = .ok (.iconst 1, 1) := by decide +kernel
theorem dX2_holdsRun_19 : decode cX2_holdsRun 19 = .ok (.goto 4, 3) := by decide +kernel
theorem dX2_holdsRun_22 : decode cX2_holdsRun 22 = .ok (.iconst 0, 1) := by decide +kernel
theorem dX2_holdsRun_23 : decode cX2_holdsRun 23 = .ok (.ireturn, 1) := by decide +kernel
set_option maxRecDepth 20000 in
theorem ggX2_findingAt_X2_isLost : GoodIn wsX2_findingAt wsX2_isLost := goodIn_r _ [6, 1, 12, 13, 14] (by decide +kernel) (by decide +kernel)
set_option maxRecDepth 20000 in
theorem gX2_findingAt_X2_isLost : GoodIn wsX2_findingAt (wsV RX2 28 RX2 yX2_isLost wsX2_isLost) := goodIn_app (goodIn_of _ (by decide +kernel)) ggX2_findingAt_X2_isLost
set_option maxRecDepth 20000 in
theorem ggX2_findingAt_X2_holds : GoodIn wsX2_findingAt wsX2_holds := goodIn_r _ [10, 11, 12, 13, 14] (by decide +kernel) (by decide +kernel)
set_option maxRecDepth 20000 in
theorem gX2_findingAt_X2_holds : GoodIn wsX2_findingAt (wsV RX2 32 RX2 yX2_holds wsX2_holds) := goodIn_app (goodIn_of _ (by decide +kernel)) ggX2_findingAt_X2_holds
theorem dX2_findingAt_0 : decode cX2_findingAt 0 = .ok (.aload_n 0, 1) := by decide +kernel
theorem dX2_findingAt_1 : decode cX2_findingAt 1 = .ok (.invokevirtual 28, 3) := by decide +kernel
theorem dX2_findingAt_4 : decode cX2_findingAt 4 = .ok (.ifCond .eq 5, 3) := by decide +kernel
theorem dX2_findingAt_7 : decode cX2_findingAt 7 = .ok (.iconst 1, 1) := by decide +kernel
theorem dX2_findingAt_8 : decode cX2_findingAt 8 = .ok (.ireturn, 1) := by decide +kernel
theorem dX2_findingAt_9 : decode cX2_findingAt 9 = .ok (.aload_n 0, 1) := by decide +kernel
theorem dX2_findingAt_10 : decode cX2_findingAt 10 = .ok (.getfield 15, 3) := by decide +kernel
theorem dX2_findingAt_13 : decode cX2_findingAt 13 = .ok (.iload_n 1, 1) := by decide +kernel
theorem dX2_findingAt_14 : decode cX2_findingAt 14 = .ok (.if_icmp .eq 5, 3) := by decide +kernel
theorem dX2_findingAt_17 : decode cX2_findingAt 17 = .ok (.iconst 3, 1) := by decide +kernel
theorem dX2_findingAt_18 : decode cX2_findingAt 18 = .ok (.ireturn, 1) := by decide +kernel
theorem dX2_findingAt_19 : decode cX2_findingAt 19 = .ok (.aload_n 0, 1) := by decide +kernel
theorem dX2_findingAt_20 : decode cX2_findingAt 20 = .ok (.iload_n 2, 1) := by decide +kernel
theorem dX2_findingAt_21 : decode cX2_findingAt 21 = .ok (.invokevirtual 32, 3) := by decide +kernel
theorem dX2_findingAt_24 : decode cX2_findingAt 24 = .ok (.ifCond .eq 7, 3) := by decide +kernel
theorem dX2_findingAt_27 : decode cX2_findingAt 27 = .ok (.iconst 0, 1) := by decide +kernel
theorem dX2_findingAt_28 : decode cX2_findingAt 28 = .ok (.goto 4, 3) := by decide +kernel
theorem dX2_findingAt_31 : decode cX2_findingAt 31 = .ok (.iconst 2, 1) := by decide +kernel
theorem dX2_findingAt_32 : decode cX2_findingAt 32 = .ok (.ireturn, 1) := by decide +kernel
set_option maxRecDepth 20000 in
theorem ggX2_store_X2_holds : GoodIn wsX2_store wsX2_holds := goodIn_r _ [6, 7, 13, 14, 15] (by decide +kernel) (by decide +kernel)
set_option maxRecDepth 20000 in
theorem gX2_store_X2_holds : GoodIn wsX2_store (wsV RX2 32 RX2 yX2_holds wsX2_holds) := goodIn_app (goodIn_of _ (by decide +kernel)) ggX2_store_X2_holds
set_option maxRecDepth 20000 in
theorem ggX2_store_X2_narrowed : GoodIn wsX2_store wsX2_narrowed := goodIn_r _ [11, 12, 13, 14, 15] (by decide +kernel) (by decide +kernel)
set_option maxRecDepth 20000 in
theorem gX2_store_X2_narrowed : GoodIn wsX2_store (wsV RX2 36 RX2 yX2_narrowed wsX2_narrowed) := goodIn_app (goodIn_of _ (by decide +kernel)) ggX2_store_X2_narrowed
theorem dX2_store_0 : decode cX2_store 0 = .ok (.aload_n 0, 1) := by decide +kernel
theorem dX2_store_1 : decode cX2_store 1 = .ok (.iload_n 1, 1) := by decide +kernel
theorem dX2_store_2 : decode cX2_store 2 = .ok (.invokevirtual 32, 3) := by decide +kernel
theorem dX2_store_5 : decode cX2_store 5 = .ok (.ifCond .eq 14, 3) := by decide +kernel
theorem dX2_store_8 : decode cX2_store 8 = .ok (.aload_n 0, 1) := by decide +kernel
theorem dX2_store_9 : decode cX2_store 9 = .ok (.getfield 9, 3) := by decide +kernel
theorem dX2_store_12 : decode cX2_store 12 = .ok (.iload_n 1, 1) := by decide +kernel
theorem dX2_store_13 : decode cX2_store 13 = .ok (.aload_n 0, 1) := by decide +kernel
theorem dX2_store_14 : decode cX2_store 14 = .ok (.iload_n 2, 1) := by decide +kernel
theorem dX2_store_15 : decode cX2_store 15 = .ok (.invokevirtual 36, 3) := by decide +kernel
theorem dX2_store_18 : decode cX2_store 18 = .ok (.iastore, 1) := by decide +kernel
theorem dX2_store_19 : decode cX2_store 19 = .ok (.return_, 1) := by decide +kernel
set_option maxRecDepth 20000 in
theorem ggX2_item_X2_holds : GoodIn wsX2_item wsX2_holds := goodIn_r _ [6, 7, 8, 9, 10] (by decide +kernel) (by decide +kernel)
set_option maxRecDepth 20000 in
theorem gX2_item_X2_holds : GoodIn wsX2_item (wsV RX2 32 RX2 yX2_holds wsX2_holds) := goodIn_app (goodIn_of _ (by decide +kernel)) ggX2_item_X2_holds
theorem dX2_item_0 : decode cX2_item 0 = .ok (.aload_n 0, 1) := by decide +kernel
theorem dX2_item_1 : decode cX2_item 1 = .ok (.iload_n 1, 1) := by decide +kernel
theorem dX2_item_2 : decode cX2_item 2 = .ok (.invokevirtual 32, 3) := by decide +kernel
theorem dX2_item_5 : decode cX2_item 5 = .ok (.ifCond .eq 12, 3) := by decide +kernel
theorem dX2_item_8 : decode cX2_item 8 = .ok (.aload_n 0, 1) := by decide +kernel
theorem dX2_item_9 : decode cX2_item 9 = .ok (.getfield 9, 3) := by decide +kernel
theorem dX2_item_12 : decode cX2_item 12 = .ok (.iload_n 1, 1) := by decide +kernel
theorem dX2_item_13 : decode cX2_item 13 = .ok (.iaload, 1) := by decide +kernel
theorem dX2_item_14 : decode cX2_item 14 = .ok (.goto 4, 3) := by decide +kernel
theorem dX2_item_17 : decode cX2_item 17 = .ok (.iconst 0, 1) := by decide +kernel
theorem dX2_item_18 : decode cX2_item 18 = .ok (.ireturn, 1) := by decide +kernel
theorem dX2_reading_0 : decode cX2_reading 0 = .ok (.iload_n 1, 1) := by decide +kernel
theorem dX2_reading_1 : decode cX2_reading 1 = .ok (.ifCond .lt 20, 3) := by decide +kernel
theorem dX2_reading_4 : decode cX2_reading 4 = .ok (.iload_n 1, 1) := by decide +kernel
theorem dX2_reading_5 : decode cX2_reading 5 = .ok (.aload_n 0, 1) := by decide +kernel
theorem dX2_reading_6 : decode cX2_reading 6 = .ok (.getfield 19, 3) := by decide +kernel
theorem dX2_reading_9 : decode cX2_reading 9 = .ok (.if_icmp .ge 12, 3) := by decide +kernel
theorem dX2_reading_12 : decode cX2_reading 12 = .ok (.aload_n 0, 1) := by decide +kernel
theorem dX2_reading_13 : decode cX2_reading 13 = .ok (.getfield 9, 3) := by decide +kernel
theorem dX2_reading_16 : decode cX2_reading 16 = .ok (.iload_n 1, 1) := by decide +kernel
theorem dX2_reading_17 : decode cX2_reading 17 = .ok (.iaload, 1) := by decide +kernel
theorem dX2_reading_18 : decode cX2_reading 18 = .ok (.goto 5, 3) := by decide +kernel
theorem dX2_reading_21 : decode cX2_reading 21 = .ok (.bipush (-128), 2) := by decide +kernel
theorem dX2_reading_23 : decode cX2_reading 23 = .ok (.ireturn, 1) := by decide +kernel
theorem dX2_narrowed_0 : decode cX2_narrowed 0 = .ok (.aload_n 0, 1) := by decide +kernel
theorem dX2_narrowed_1 : decode cX2_narrowed 1 = .ok (.getfield 15, 3) := by decide +kernel
theorem dX2_narrowed_4 : decode cX2_narrowed 4 = .ok (.ifCond .ne 6, 3) := by decide +kernel
theorem dX2_narrowed_7 : decode cX2_narrowed 7 = .ok (.iload_n 1, 1) := by decide +kernel
theorem dX2_narrowed_8 : decode cX2_narrowed 8 = .ok (.i2b, 1) := by decide +kernel
theorem dX2_narrowed_9 : decode cX2_narrowed 9 = .ok (.ireturn, 1) := by decide +kernel
theorem dX2_narrowed_10 : decode cX2_narrowed 10 = .ok (.aload_n 0, 1) := by decide +kernel
theorem dX2_narrowed_11 : decode cX2_narrowed 11 = .ok (.getfield 15, 3) := by decide +kernel
theorem dX2_narrowed_14 : decode cX2_narrowed 14 = .ok (.iconst 1, 1) := by decide +kernel
theorem dX2_narrowed_15 : decode cX2_narrowed 15 = .ok (.if_icmp .ne 8, 3) := by decide +kernel
theorem dX2_narrowed_18 : decode cX2_narrowed 18 = .ok (.iload_n 1, 1) := by decide +kernel
theorem dX2_narrowed_19 : decode cX2_narrowed 19 = .ok (.i2s, 1) := by decide +kernel
theorem dX2_narrowed_20 : decode cX2_narrowed 20 = .ok (.goto 4, 3) := by decide +kernel
theorem dX2_narrowed_23 : decode cX2_narrowed 23 = .ok (.iload_n 1, 1) := by decide +kernel
theorem dX2_narrowed_24 : decode cX2_narrowed 24 = .ok (.ireturn, 1) := by decide +kernel
theorem dX3_init_0 : decode cX3_init 0 = .ok (.aload_n 0, 1) := by decide +kernel
theorem dX3_init_1 : decode cX3_init 1 = .ok (.invokespecial 3, 3) := by decide +kernel
theorem dX3_init_4 : decode cX3_init 4 = .ok (.aload_n 0, 1) := by decide +kernel
theorem dX3_init_5 : decode cX3_init 5 = .ok (.bipush 40, 2) := by decide +kernel
theorem dX3_init_7 : decode cX3_init 7 = .ok (.newarray .int, 2) := by decide +kernel
theorem dX3_init_9 : decode cX3_init 9 = .ok (.putfield 9, 3) := by decide +kernel
theorem dX3_init_12 : decode cX3_init 12 = .ok (.aload_n 0, 1) := by decide +kernel
theorem dX3_init_13 : decode cX3_init 13 = .ok (.bipush 40, 2) := by decide +kernel
theorem dX3_init_15 : decode cX3_init 15 = .ok (.newarray .int, 2) := by decide +kernel
theorem dX3_init_17 : decode cX3_init 17 = .ok (.putfield 15, 3) := by decide +kernel
theorem dX3_init_20 : decode cX3_init 20 = .ok (.aload_n 0, 1) := by decide +kernel
theorem dX3_init_21 : decode cX3_init 21 = .ok (.bipush 40, 2) := by decide +kernel
theorem dX3_init_23 : decode cX3_init 23 = .ok (.newarray .int, 2) := by decide +kernel
theorem dX3_init_25 : decode cX3_init 25 = .ok (.putfield 18, 3) := by decide +kernel
theorem dX3_init_28 : decode cX3_init 28 = .ok (.aload_n 0, 1) := by decide +kernel
theorem dX3_init_29 : decode cX3_init 29 = .ok (.bipush 40, 2) := by decide +kernel
theorem dX3_init_31 : decode cX3_init 31 = .ok (.newarray .int, 2) := by decide +kernel
theorem dX3_init_33 : decode cX3_init 33 = .ok (.putfield 21, 3) := by decide +kernel
theorem dX3_init_36 : decode cX3_init 36 = .ok (.aload_n 0, 1) := by decide +kernel
theorem dX3_init_37 : decode cX3_init 37 = .ok (.iconst 0, 1) := by decide +kernel
theorem dX3_init_38 : decode cX3_init 38 = .ok (.putfield 24, 3) := by decide +kernel
theorem dX3_init_41 : decode cX3_init 41 = .ok (.return_, 1) := by decide +kernel
theorem dX3_isPing_0 : decode cX3_isPing 0 = .ok (.iload_n 1, 1) := by decide +kernel
theorem dX3_isPing_1 : decode cX3_isPing 1 = .ok (.ifCond .lt 15, 3) := by decide +kernel
theorem dX3_isPing_4 : decode cX3_isPing 4 = .ok (.iload_n 1, 1) := by decide +kernel
theorem dX3_isPing_5 : decode cX3_isPing 5 = .ok (.aload_n 0, 1) := by decide +kernel
theorem dX3_isPing_6 : decode cX3_isPing 6 = .ok (.getfield 24, 3) := by decide +kernel
theorem dX3_isPing_9 : decode cX3_isPing 9 = .ok (.if_icmp .ge 7, 3) := by decide +kernel
theorem dX3_isPing_12 : decode cX3_isPing 12 = .ok (.iconst 1, 1) := by decide +kernel
theorem dX3_isPing_13 : decode cX3_isPing 13 = .ok (.goto 4, 3) := by decide +kernel
theorem dX3_isPing_16 : decode cX3_isPing 16 = .ok (.iconst 0, 1) := by decide +kernel
theorem dX3_isPing_17 : decode cX3_isPing 17 = .ok (.ireturn, 1) := by decide +kernel
set_option maxRecDepth 20000 in
theorem ggX3_isSpan_X3_isPing : GoodIn wsX3_isSpan wsX3_isPing := goodIn_r _ [5, 6, 7, 8, 9, 10, 11] (by decide +kernel) (by decide +kernel)
set_option maxRecDepth 20000 in
theorem gX3_isSpan_X3_isPing : GoodIn wsX3_isSpan (wsV RX3 28 RX3 yX3_isPing wsX3_isPing) := goodIn_app (goodIn_of _ (by decide +kernel)) ggX3_isSpan_X3_isPing
theorem dX3_isSpan_0 : decode cX3_isSpan 0 = .ok (.aload_n 0, 1) := by decide +kernel
theorem dX3_isSpan_1 : decode cX3_isSpan 1 = .ok (.iload_n 1, 1) := by decide +kernel
theorem dX3_isSpan_2 : decode cX3_isSpan 2 = .ok (.invokevirtual 28, 3) := by decide +kernel
theorem dX3_isSpan_5 : decode cX3_isSpan 5 = .ok (.ifCond .eq 20, 3) := by decide +kernel
theorem dX3_isSpan_8 : decode cX3_isSpan 8 = .ok (.aload_n 0, 1) := by decide +kernel
theorem dX3_isSpan_9 : decode cX3_isSpan 9 = .ok (.iload_n 2, 1) := by decide +kernel
theorem dX3_isSpan_10 : decode cX3_isSpan 10 = .ok (.invokevirtual 28, 3) := by decide +kernel
theorem dX3_isSpan_13 : decode cX3_isSpan 13 = .ok (.ifCond .eq 12, 3) := by decide +kernel
theorem dX3_isSpan_16 : decode cX3_isSpan 16 = .ok (.iload_n 1, 1) := by decide +kernel
theorem dX3_isSpan_17 : decode cX3_isSpan 17 = .ok (.iload_n 2, 1) := by decide +kernel
theorem dX3_isSpan_18 : decode cX3_isSpan 18 = .ok (.if_icmp .gt 7, 3) := by decide +kernel
theorem dX3_isSpan_21 : decode cX3_isSpan 21 = .ok (.iconst 1, 1) := by decide +kernel
theorem dX3_isSpan_22 : decode cX3_isSpan 22 = .ok (.goto 4, 3) := by decide +kernel
theorem dX3_isSpan_25 : decode cX3_isSpan 25 = .ok (.iconst 0, 1) := by decide +kernel
theorem dX3_isSpan_26 : decode cX3_isSpan 26 = .ok (.ireturn, 1) := by decide +kernel
theorem dX3_append_0 : decode cX3_append 0 = .ok (.aload_n 0, 1) := by decide +kernel
theorem dX3_append_1 : decode cX3_append 1 = .ok (.getfield 24, 3) := by decide +kernel
theorem dX3_append_4 : decode cX3_append 4 = .ok (.istore 5, 2) := by decide +kernel
theorem dX3_append_6 : decode cX3_append 6 = .ok (.iload 5, 2) := by decide +kernel
theorem dX3_append_8 : decode cX3_append 8 = .ok (.ifCond .lt 10, 3) := by decide +kernel
theorem dX3_append_11 : decode cX3_append 11 = .ok (.iload 5, 2) := by decide +kernel
theorem dX3_append_13 : decode cX3_append 13 = .ok (.bipush 40, 2) := by decide +kernel
theorem dX3_append_15 : decode cX3_append 15 = .ok (.if_icmp .lt 6, 3) := by decide +kernel
theorem dX3_append_18 : decode cX3_append 18 = .ok (.bipush (-4), 2) := by decide +kernel
theorem dX3_append_20 : decode cX3_append 20 = .ok (.ireturn, 1) := by decide +kernel
theorem dX3_append_21 : decode cX3_append 21 = .ok (.aload_n 0, 1) := by decide +kernel
theorem dX3_append_22 : decode cX3_append 22 = .ok (.getfield 9, 3) := by decide +kernel
theorem dX3_append_25 : decode cX3_append 25 = .ok (.iload 5, 2) := by decide +kernel
theorem dX3_append_27 : decode cX3_append 27 = .ok (.iload_n 1, 1) := by decide +kernel
theorem dX3_append_28 : decode cX3_append 28 = .ok (.iastore, 1) := by decide +kernel
theorem dX3_append_29 : decode cX3_append 29 = .ok (.aload_n 0, 1) := by decide +kernel
theorem dX3_append_30 : decode cX3_append 30 = .ok (.getfield 15, 3) := by decide +kernel
theorem dX3_append_33 : decode cX3_append 33 = .ok (.iload 5, 2) := by decide +kernel
theorem dX3_append_35 : decode cX3_append 35 = .ok (.iload_n 2, 1) := by decide +kernel
theorem dX3_append_36 : decode cX3_append 36 = .ok (.iastore, 1) := by decide +kernel
theorem dX3_append_37 : decode cX3_append 37 = .ok (.aload_n 0, 1) := by decide +kernel
theorem dX3_append_38 : decode cX3_append 38 = .ok (.getfield 18, 3) := by decide +kernel
theorem dX3_append_41 : decode cX3_append 41 = .ok (.iload 5, 2) := by decide +kernel
theorem dX3_append_43 : decode cX3_append 43 = .ok (.iload_n 3, 1) := by decide +kernel
theorem dX3_append_44 : decode cX3_append 44 = .ok (.iastore, 1) := by decide +kernel
theorem dX3_append_45 : decode cX3_append 45 = .ok (.aload_n 0, 1) := by decide +kernel
theorem dX3_append_46 : decode cX3_append 46 = .ok (.getfield 21, 3) := by decide +kernel
theorem dX3_append_49 : decode cX3_append 49 = .ok (.iload 5, 2) := by decide +kernel
theorem dX3_append_51 : decode cX3_append 51 = .ok (.iload 4, 2) := by decide +kernel
theorem dX3_append_53 : decode cX3_append 53 = .ok (.iastore, 1) := by decide +kernel
theorem dX3_append_54 : decode cX3_append 54 = .ok (.aload_n 0, 1) := by decide +kernel
theorem dX3_append_55 : decode cX3_append 55 = .ok (.dup, 1) := by decide +kernel
theorem dX3_append_56 : decode cX3_append 56 = .ok (.getfield 24, 3) := by decide +kernel
theorem dX3_append_59 : decode cX3_append 59 = .ok (.iconst 1, 1) := by decide +kernel
theorem dX3_append_60 : decode cX3_append 60 = .ok (.iadd, 1) := by decide +kernel
theorem dX3_append_61 : decode cX3_append 61 = .ok (.putfield 24, 3) := by decide +kernel
theorem dX3_append_64 : decode cX3_append 64 = .ok (.iload 5, 2) := by decide +kernel
theorem dX3_append_66 : decode cX3_append 66 = .ok (.ireturn, 1) := by decide +kernel
set_option maxRecDepth 20000 in
theorem ggX3_changeHeading_X3_isPing : GoodIn wsX3_changeHeading wsX3_isPing := goodIn_r _ [6, 7, 8, 9, 10, 11, 12] (by decide +kernel) (by decide +kernel)
set_option maxRecDepth 20000 in
theorem gX3_changeHeading_X3_isPing : GoodIn wsX3_changeHeading (wsV RX3 28 RX3 yX3_isPing wsX3_isPing) := goodIn_app (goodIn_of _ (by decide +kernel)) ggX3_changeHeading_X3_isPing
theorem dX3_changeHeading_0 : decode cX3_changeHeading 0 = .ok (.aload_n 0, 1) := by decide +kernel
theorem dX3_changeHeading_1 : decode cX3_changeHeading 1 = .ok (.iload_n 1, 1) := by decide +kernel
theorem dX3_changeHeading_2 : decode cX3_changeHeading 2 = .ok (.invokevirtual 28, 3) := by decide +kernel
theorem dX3_changeHeading_5 : decode cX3_changeHeading 5 = .ok (.ifCond .ne 6, 3) := by decide +kernel
theorem dX3_changeHeading_8 : decode cX3_changeHeading 8 = .ok (.bipush (-2), 2) := by decide +kernel
theorem dX3_changeHeading_10 : decode cX3_changeHeading 10 = .ok (.ireturn, 1) := by decide +kernel
theorem dX3_changeHeading_11 : decode cX3_changeHeading 11 = .ok (.aload_n 0, 1) := by decide +kernel
theorem dX3_changeHeading_12 : decode cX3_changeHeading 12 = .ok (.getfield 9, 3) := by decide +kernel
theorem dX3_changeHeading_15 : decode cX3_changeHeading 15 = .ok (.iload_n 1, 1) := by decide +kernel
theorem dX3_changeHeading_16 : decode cX3_changeHeading 16 = .ok (.iaload, 1) := by decide +kernel
theorem dX3_changeHeading_17 : decode cX3_changeHeading 17 = .ok (.istore_n 3, 1) := by decide +kernel
theorem dX3_changeHeading_18 : decode cX3_changeHeading 18 = .ok (.aload_n 0, 1) := by decide +kernel
theorem dX3_changeHeading_19 : decode cX3_changeHeading 19 = .ok (.getfield 9, 3) := by decide +kernel
theorem dX3_changeHeading_22 : decode cX3_changeHeading 22 = .ok (.iload_n 1, 1) := by decide +kernel
theorem dX3_changeHeading_23 : decode cX3_changeHeading 23 = .ok (.iload_n 2, 1) := by decide +kernel
theorem dX3_changeHeading_24 : decode cX3_changeHeading 24 = .ok (.iastore, 1) := by decide +kernel
theorem dX3_changeHeading_25 : decode cX3_changeHeading 25 = .ok (.iload_n 3, 1) := by decide +kernel
theorem dX3_changeHeading_26 : decode cX3_changeHeading 26 = .ok (.ireturn, 1) := by decide +kernel
set_option maxRecDepth 20000 in
theorem ggX3_headingOf_X3_isPing : GoodIn wsX3_headingOf wsX3_isPing := goodIn_r _ [6, 7, 8, 9, 10, 11, 12] (by decide +kernel) (by decide +kernel)
set_option maxRecDepth 20000 in
theorem gX3_headingOf_X3_isPing : GoodIn wsX3_headingOf (wsV RX3 28 RX3 yX3_isPing wsX3_isPing) := goodIn_app (goodIn_of _ (by decide +kernel)) ggX3_headingOf_X3_isPing
theorem dX3_headingOf_0 : decode cX3_headingOf 0 = .ok (.aload_n 0, 1) := by decide +kernel
theorem dX3_headingOf_1 : decode cX3_headingOf 1 = .ok (.iload_n 1, 1) := by decide +kernel
theorem dX3_headingOf_2 : decode cX3_headingOf 2 = .ok (.invokevirtual 28, 3) := by decide +kernel
theorem dX3_headingOf_5 : decode cX3_headingOf 5 = .ok (.ifCond .eq 12, 3) := by decide +kernel
theorem dX3_headingOf_8 : decode cX3_headingOf 8 = .ok (.aload_n 0, 1) := by decide +kernel
theorem dX3_headingOf_9 : decode cX3_headingOf 9 = .ok (.getfield 9, 3) := by decide +kernel
theorem dX3_headingOf_12 : decode cX3_headingOf 12 = .ok (.iload_n 1, 1) := by decide +kernel
theorem dX3_headingOf_13 : decode cX3_headingOf 13 = .ok (.iaload, 1) := by decide +kernel
theorem dX3_headingOf_14 : decode cX3_headingOf 14 = .ok (.goto 4, 3) := by decide +kernel
theorem dX3_headingOf_17 : decode cX3_headingOf 17 = .ok (.iconst 0, 1) := by decide +kernel
theorem dX3_headingOf_18 : decode cX3_headingOf 18 = .ok (.ireturn, 1) := by decide +kernel
set_option maxRecDepth 20000 in
theorem ggX3_xOf_X3_isPing : GoodIn wsX3_xOf wsX3_isPing := goodIn_r _ [6, 7, 8, 9, 10, 11, 12] (by decide +kernel) (by decide +kernel)
set_option maxRecDepth 20000 in
theorem gX3_xOf_X3_isPing : GoodIn wsX3_xOf (wsV RX3 28 RX3 yX3_isPing wsX3_isPing) := goodIn_app (goodIn_of _ (by decide +kernel)) ggX3_xOf_X3_isPing
theorem dX3_xOf_0 : decode cX3_xOf 0 = .ok (.aload_n 0, 1) := by decide +kernel
theorem dX3_xOf_1 : decode cX3_xOf 1 = .ok (.iload_n 1, 1) := by decide +kernel
theorem dX3_xOf_2 : decode cX3_xOf 2 = .ok (.invokevirtual 28, 3) := by decide +kernel
theorem dX3_xOf_5 : decode cX3_xOf 5 = .ok (.ifCond .eq 12, 3) := by decide +kernel
theorem dX3_xOf_8 : decode cX3_xOf 8 = .ok (.aload_n 0, 1) := by decide +kernel
theorem dX3_xOf_9 : decode cX3_xOf 9 = .ok (.getfield 15, 3) := by decide +kernel
theorem dX3_xOf_12 : decode cX3_xOf 12 = .ok (.iload_n 1, 1) := by decide +kernel
theorem dX3_xOf_13 : decode cX3_xOf 13 = .ok (.iaload, 1) := by decide +kernel
theorem dX3_xOf_14 : decode cX3_xOf 14 = .ok (.goto 4, 3) := by decide +kernel
theorem dX3_xOf_17 : decode cX3_xOf 17 = .ok (.iconst 0, 1) := by decide +kernel
theorem dX3_xOf_18 : decode cX3_xOf 18 = .ok (.ireturn, 1) := by decide +kernel
set_option maxRecDepth 20000 in
theorem ggX3_yOf_X3_isPing : GoodIn wsX3_yOf wsX3_isPing := goodIn_r _ [6, 7, 8, 9, 10, 11, 12] (by decide +kernel) (by decide +kernel)
set_option maxRecDepth 20000 in
theorem gX3_yOf_X3_isPing : GoodIn wsX3_yOf (wsV RX3 28 RX3 yX3_isPing wsX3_isPing) := goodIn_app (goodIn_of _ (by decide +kernel)) ggX3_yOf_X3_isPing
theorem dX3_yOf_0 : decode cX3_yOf 0 = .ok (.aload_n 0, 1) := by decide +kernel
theorem dX3_yOf_1 : decode cX3_yOf 1 = .ok (.iload_n 1, 1) := by decide +kernel
theorem dX3_yOf_2 : decode cX3_yOf 2 = .ok (.invokevirtual 28, 3) := by decide +kernel
theorem dX3_yOf_5 : decode cX3_yOf 5 = .ok (.ifCond .eq 12, 3) := by decide +kernel
theorem dX3_yOf_8 : decode cX3_yOf 8 = .ok (.aload_n 0, 1) := by decide +kernel
theorem dX3_yOf_9 : decode cX3_yOf 9 = .ok (.getfield 18, 3) := by decide +kernel
theorem dX3_yOf_12 : decode cX3_yOf 12 = .ok (.iload_n 1, 1) := by decide +kernel
theorem dX3_yOf_13 : decode cX3_yOf 13 = .ok (.iaload, 1) := by decide +kernel
theorem dX3_yOf_14 : decode cX3_yOf 14 = .ok (.goto 4, 3) := by decide +kernel
theorem dX3_yOf_17 : decode cX3_yOf 17 = .ok (.iconst 0, 1) := by decide +kernel
theorem dX3_yOf_18 : decode cX3_yOf 18 = .ok (.ireturn, 1) := by decide +kernel
set_option maxRecDepth 20000 in
theorem ggX3_depthOf_X3_isPing : GoodIn wsX3_depthOf wsX3_isPing := goodIn_r _ [6, 7, 8, 9, 10, 11, 12] (by decide +kernel) (by decide +kernel)
set_option maxRecDepth 20000 in
theorem gX3_depthOf_X3_isPing : GoodIn wsX3_depthOf (wsV RX3 28 RX3 yX3_isPing wsX3_isPing) := goodIn_app (goodIn_of _ (by decide +kernel)) ggX3_depthOf_X3_isPing
theorem dX3_depthOf_0 : decode cX3_depthOf 0 = .ok (.aload_n 0, 1) := by decide +kernel
theorem dX3_depthOf_1 : decode cX3_depthOf 1 = .ok (.iload_n 1, 1) := by decide +kernel
theorem dX3_depthOf_2 : decode cX3_depthOf 2 = .ok (.invokevirtual 28, 3) := by decide +kernel
theorem dX3_depthOf_5 : decode cX3_depthOf 5 = .ok (.ifCond .eq 12, 3) := by decide +kernel
theorem dX3_depthOf_8 : decode cX3_depthOf 8 = .ok (.aload_n 0, 1) := by decide +kernel
theorem dX3_depthOf_9 : decode cX3_depthOf 9 = .ok (.getfield 21, 3) := by decide +kernel
theorem dX3_depthOf_12 : decode cX3_depthOf 12 = .ok (.iload_n 1, 1) := by decide +kernel
theorem dX3_depthOf_13 : decode cX3_depthOf 13 = .ok (.iaload, 1) := by decide +kernel
theorem dX3_depthOf_14 : decode cX3_depthOf 14 = .ok (.goto 4, 3) := by decide +kernel
theorem dX3_depthOf_17 : decode cX3_depthOf 17 = .ok (.iconst 0, 1) := by decide +kernel
theorem dX3_depthOf_18 : decode cX3_depthOf 18 = .ok (.ireturn, 1) := by decide +kernel
set_option maxRecDepth 20000 in
theorem ggX3_stepX_X3_xOf : GoodIn wsX3_stepX wsX3_xOf := goodIn_r _ [5, 6, 7, 8, 9, 4, 10, 11, 12, 13, 14, 15, 16] (by decide +kernel) (by decide +kernel)
set_option maxRecDepth 20000 in
theorem gX3_stepX_X3_xOf : GoodIn wsX3_stepX (wsV RX3 32 RX3 yX3_xOf wsX3_xOf) := goodIn_app (goodIn_of _ (by decide +kernel)) ggX3_stepX_X3_xOf
theorem dX3_stepX_0 : decode cX3_stepX 0 = .ok (.aload_n 0, 1) := by decide +kernel
theorem dX3_stepX_1 : decode cX3_stepX 1 = .ok (.iload_n 1, 1) := by decide +kernel
theorem dX3_stepX_2 : decode cX3_stepX 2 = .ok (.iconst 1, 1) := by decide +kernel
theorem dX3_stepX_3 : decode cX3_stepX 3 = .ok (.iadd, 1) := by decide +kernel
theorem dX3_stepX_4 : decode cX3_stepX 4 = .ok (.invokevirtual 32, 3) := by decide +kernel
theorem dX3_stepX_7 : decode cX3_stepX 7 = .ok (.aload_n 0, 1) := by decide +kernel
theorem dX3_stepX_8 : decode cX3_stepX 8 = .ok (.iload_n 1, 1) := by decide +kernel
theorem dX3_stepX_9 : decode cX3_stepX 9 = .ok (.invokevirtual 32, 3) := by decide +kernel
theorem dX3_stepX_12 : decode cX3_stepX 12 = .ok (.isub, 1) := by decide +kernel
theorem dX3_stepX_13 : decode cX3_stepX 13 = .ok (.i2l, 1) := by decide +kernel
theorem dX3_stepX_14 : decode cX3_stepX 14 = .ok (.lreturn, 1) := by decide +kernel
set_option maxRecDepth 20000 in
theorem ggX3_stepY_X3_yOf : GoodIn wsX3_stepY wsX3_yOf := goodIn_r _ [5, 6, 7, 8, 9, 4, 10, 11, 12, 13, 14, 15, 16] (by decide +kernel) (by decide +kernel)
set_option maxRecDepth 20000 in
theorem gX3_stepY_X3_yOf : GoodIn wsX3_stepY (wsV RX3 36 RX3 yX3_yOf wsX3_yOf) := goodIn_app (goodIn_of _ (by decide +kernel)) ggX3_stepY_X3_yOf
theorem dX3_stepY_0 : decode cX3_stepY 0 = .ok (.aload_n 0, 1) := by decide +kernel
theorem dX3_stepY_1 : decode cX3_stepY 1 = .ok (.iload_n 1, 1) := by decide +kernel
theorem dX3_stepY_2 : decode cX3_stepY 2 = .ok (.iconst 1, 1) := by decide +kernel
theorem dX3_stepY_3 : decode cX3_stepY 3 = .ok (.iadd, 1) := by decide +kernel
theorem dX3_stepY_4 : decode cX3_stepY 4 = .ok (.invokevirtual 36, 3) := by decide +kernel
theorem dX3_stepY_7 : decode cX3_stepY 7 = .ok (.aload_n 0, 1) := by decide +kernel
theorem dX3_stepY_8 : decode cX3_stepY 8 = .ok (.iload_n 1, 1) := by decide +kernel
theorem dX3_stepY_9 : decode cX3_stepY 9 = .ok (.invokevirtual 36, 3) := by decide +kernel
theorem dX3_stepY_12 : decode cX3_stepY 12 = .ok (.isub, 1) := by decide +kernel
theorem dX3_stepY_13 : decode cX3_stepY 13 = .ok (.i2l, 1) := by decide +kernel
theorem dX3_stepY_14 : decode cX3_stepY 14 = .ok (.lreturn, 1) := by decide +kernel
set_option maxRecDepth 20000 in
theorem ggX3_areNear_X3_xOf : GoodIn wsX3_areNear wsX3_xOf := goodIn_r _ [9, 10, 11, 12, 13, 8, 14, 15, 21, 22, 23, 24, 25] (by decide +kernel) (by decide +kernel)
set_option maxRecDepth 20000 in
theorem gX3_areNear_X3_xOf : GoodIn wsX3_areNear (wsV RX3 32 RX3 yX3_xOf wsX3_xOf) := goodIn_app (goodIn_of _ (by decide +kernel)) ggX3_areNear_X3_xOf
set_option maxRecDepth 20000 in
theorem ggX3_areNear_X3_yOf : GoodIn wsX3_areNear wsX3_yOf := goodIn_r _ [19, 20, 11, 12, 13, 8, 14, 15, 21, 22, 23, 24, 25] (by decide +kernel) (by decide +kernel)
set_option maxRecDepth 20000 in
theorem gX3_areNear_X3_yOf : GoodIn wsX3_areNear (wsV RX3 36 RX3 yX3_yOf wsX3_yOf) := goodIn_app (goodIn_of _ (by decide +kernel)) ggX3_areNear_X3_yOf
theorem dX3_areNear_0 : decode cX3_areNear 0 = .ok (.aload_n 0, 1) := by decide +kernel
theorem dX3_areNear_1 : decode cX3_areNear 1 = .ok (.iload_n 2, 1) := by decide +kernel
theorem dX3_areNear_2 : decode cX3_areNear 2 = .ok (.invokevirtual 32, 3) := by decide +kernel
theorem dX3_areNear_5 : decode cX3_areNear 5 = .ok (.aload_n 0, 1) := by decide +kernel
theorem dX3_areNear_6 : decode cX3_areNear 6 = .ok (.iload_n 1, 1) := by decide +kernel
theorem dX3_areNear_7 : decode cX3_areNear 7 = .ok (.invokevirtual 32, 3) := by decide +kernel
theorem dX3_areNear_10 : decode cX3_areNear 10 = .ok (.isub, 1) := by decide +kernel
theorem dX3_areNear_11 : decode cX3_areNear 11 = .ok (.invokestatic 39, 3) := by decide +kernel
theorem dX3_areNear_14 : decode cX3_areNear 14 = .ok (.iload_n 3, 1) := by decide +kernel
theorem dX3_areNear_15 : decode cX3_areNear 15 = .ok (.if_icmp .gt 25, 3) := by decide +kernel
theorem dX3_areNear_18 : decode cX3_areNear 18 = .ok (.aload_n 0, 1) := by decide +kernel
theorem dX3_areNear_19 : decode cX3_areNear 19 = .ok (.iload_n 2, 1) := by decide +kernel
theorem dX3_areNear_20 : decode cX3_areNear 20 = .ok (.invokevirtual 36, 3) := by decide +kernel
theorem dX3_areNear_23 : decode cX3_areNear 23 = .ok (.aload_n 0, 1) := by decide +kernel
theorem dX3_areNear_24 : decode cX3_areNear 24 = .ok (.iload_n 1, 1) := by decide +kernel
theorem dX3_areNear_25 : decode cX3_areNear 25 = .ok (.invokevirtual 36, 3) := by decide +kernel
theorem dX3_areNear_28 : decode cX3_areNear 28 = .ok (.isub, 1) := by decide +kernel
theorem dX3_areNear_29 : decode cX3_areNear 29 = .ok (.invokestatic 39, 3) := by decide +kernel
theorem dX3_areNear_32 : decode cX3_areNear 32 = .ok (.iload_n 3, 1) := by decide +kernel
theorem dX3_areNear_33 : decode cX3_areNear 33 = .ok (.if_icmp .gt 7, 3) := by decide +kernel
theorem dX3_areNear_36 : decode cX3_areNear 36 = .ok (.iconst 1, 1) := by decide +kernel
theorem dX3_areNear_37 : decode cX3_areNear 37 = .ok (.goto 4, 3) := by decide +kernel
theorem dX3_areNear_40 : decode cX3_areNear 40 = .ok (.iconst 0, 1) := by decide +kernel
theorem dX3_areNear_41 : decode cX3_areNear 41 = .ok (.ireturn, 1) := by decide +kernel
set_option maxRecDepth 20000 in
theorem ggX4_init_X3_init : GoodIn wsX4_init wsX3_init := goodIn_r _ [31, 32, 2, 3, 33, 34, 35, 36, 37, 38, 74, 75, 76, 77, 78] (by decide +kernel) (by decide +kernel)
set_option maxRecDepth 20000 in
theorem gX4_init_X3_init_n17 : GoodIn wsX4_init (wsX3_init) := ggX4_init_X3_init
set_option maxRecDepth 20000 in
theorem ggX4_init_X0_init : GoodIn wsX4_init wsX0_init := goodIn_r _ [40, 41, 2, 3, 42, 43, 44, 45, 46, 79, 80, 81, 82, 83] (by decide +kernel) (by decide +kernel)
set_option maxRecDepth 20000 in
theorem gX4_init_X0_init_n24 : GoodIn wsX4_init (wsX0_init) := ggX4_init_X0_init
set_option maxRecDepth 20000 in
theorem ggX4_init_X1_init : GoodIn wsX4_init wsX1_init := goodIn_r _ [48, 49, 2, 3, 50, 51, 52, 53, 84, 85, 86, 87] (by decide +kernel) (by decide +kernel)
set_option maxRecDepth 20000 in
theorem gX4_init_X1_init_n31 : GoodIn wsX4_init (wsX1_init) := ggX4_init_X1_init
set_option maxRecDepth 20000 in
theorem ggX4_init_X2_init : GoodIn wsX4_init wsX2_init := goodIn_r _ [55, 56, 2, 3, 33, 57, 58, 59, 88, 89, 90] (by decide +kernel) (by decide +kernel)
set_option maxRecDepth 20000 in
theorem gX4_init_X2_init_n68 : GoodIn wsX4_init (wsX2_init) := ggX4_init_X2_init
theorem dX4_init_0 : decode cX4_init 0 = .ok (.aload_n 0, 1) := by decide +kernel
theorem dX4_init_1 : decode cX4_init 1 = .ok (.invokespecial 1, 3) := by decide +kernel
theorem dX4_init_4 : decode cX4_init 4 = .ok (.aload_n 0, 1) := by decide +kernel
theorem dX4_init_5 : decode cX4_init 5 = .ok (.bipush 8, 2) := by decide +kernel
theorem dX4_init_7 : decode cX4_init 7 = .ok (.anewarray 9, 3) := by decide +kernel
theorem dX4_init_10 : decode cX4_init 10 = .ok (.putfield 11, 3) := by decide +kernel
theorem dX4_init_13 : decode cX4_init 13 = .ok (.aload_n 0, 1) := by decide +kernel
theorem dX4_init_14 : decode cX4_init 14 = .ok (.new 15, 3) := by decide +kernel
theorem dX4_init_17 : decode cX4_init 17 = .ok (.dup, 1) := by decide +kernel
theorem dX4_init_18 : decode cX4_init 18 = .ok (.invokespecial 17, 3) := by decide +kernel
theorem dX4_init_21 : decode cX4_init 21 = .ok (.putfield 18, 3) := by decide +kernel
theorem dX4_init_24 : decode cX4_init 24 = .ok (.aload_n 0, 1) := by decide +kernel
theorem dX4_init_25 : decode cX4_init 25 = .ok (.new 22, 3) := by decide +kernel
theorem dX4_init_28 : decode cX4_init 28 = .ok (.dup, 1) := by decide +kernel
theorem dX4_init_29 : decode cX4_init 29 = .ok (.invokespecial 24, 3) := by decide +kernel
theorem dX4_init_32 : decode cX4_init 32 = .ok (.putfield 25, 3) := by decide +kernel
theorem dX4_init_35 : decode cX4_init 35 = .ok (.aload_n 0, 1) := by decide +kernel
theorem dX4_init_36 : decode cX4_init 36 = .ok (.new 29, 3) := by decide +kernel
theorem dX4_init_39 : decode cX4_init 39 = .ok (.dup, 1) := by decide +kernel
theorem dX4_init_40 : decode cX4_init 40 = .ok (.invokespecial 31, 3) := by decide +kernel
theorem dX4_init_43 : decode cX4_init 43 = .ok (.putfield 32, 3) := by decide +kernel
theorem dX4_init_46 : decode cX4_init 46 = .ok (.aload_n 0, 1) := by decide +kernel
theorem dX4_init_47 : decode cX4_init 47 = .ok (.new 29, 3) := by decide +kernel
theorem dX4_init_50 : decode cX4_init 50 = .ok (.dup, 1) := by decide +kernel
theorem dX4_init_51 : decode cX4_init 51 = .ok (.invokespecial 31, 3) := by decide +kernel
theorem dX4_init_54 : decode cX4_init 54 = .ok (.putfield 36, 3) := by decide +kernel
theorem dX4_init_57 : decode cX4_init 57 = .ok (.aload_n 0, 1) := by decide +kernel
theorem dX4_init_58 : decode cX4_init 58 = .ok (.new 29, 3) := by decide +kernel
theorem dX4_init_61 : decode cX4_init 61 = .ok (.dup, 1) := by decide +kernel
theorem dX4_init_62 : decode cX4_init 62 = .ok (.invokespecial 31, 3) := by decide +kernel
theorem dX4_init_65 : decode cX4_init 65 = .ok (.putfield 39, 3) := by decide +kernel
theorem dX4_init_68 : decode cX4_init 68 = .ok (.aload_n 0, 1) := by decide +kernel
theorem dX4_init_69 : decode cX4_init 69 = .ok (.new 29, 3) := by decide +kernel
theorem dX4_init_72 : decode cX4_init 72 = .ok (.dup, 1) := by decide +kernel
theorem dX4_init_73 : decode cX4_init 73 = .ok (.invokespecial 31, 3) := by decide +kernel
theorem dX4_init_76 : decode cX4_init 76 = .ok (.putfield 42, 3) := by decide +kernel
theorem dX4_init_79 : decode cX4_init 79 = .ok (.aload_n 0, 1) := by decide +kernel
theorem dX4_init_80 : decode cX4_init 80 = .ok (.iconst 4, 1) := by decide +kernel
theorem dX4_init_81 : decode cX4_init 81 = .ok (.putfield 45, 3) := by decide +kernel
theorem dX4_init_84 : decode cX4_init 84 = .ok (.aload_n 0, 1) := by decide +kernel
theorem dX4_init_85 : decode cX4_init 85 = .ok (.iconst 0, 1) := by decide +kernel
theorem dX4_init_86 : decode cX4_init 86 = .ok (.putfield 49, 3) := by decide +kernel
theorem dX4_init_89 : decode cX4_init 89 = .ok (.aload_n 0, 1) := by decide +kernel
theorem dX4_init_90 : decode cX4_init 90 = .ok (.iconst 0, 1) := by decide +kernel
theorem dX4_init_91 : decode cX4_init 91 = .ok (.putfield 52, 3) := by decide +kernel
theorem dX4_init_94 : decode cX4_init 94 = .ok (.aload_n 0, 1) := by decide +kernel
theorem dX4_init_95 : decode cX4_init 95 = .ok (.iconst 0, 1) := by decide +kernel
theorem dX4_init_96 : decode cX4_init 96 = .ok (.putfield 55, 3) := by decide +kernel
theorem dX4_init_99 : decode cX4_init 99 = .ok (.aload_n 0, 1) := by decide +kernel
theorem dX4_init_100 : decode cX4_init 100 = .ok (.iconst 1, 1) := by decide +kernel
theorem dX4_init_101 : decode cX4_init 101 = .ok (.putfield 58, 3) := by decide +kernel
theorem dX4_init_104 : decode cX4_init 104 = .ok (.aload_n 0, 1) := by decide +kernel
theorem dX4_init_105 : decode cX4_init 105 = .ok (.sipush 1000, 3) := by decide +kernel
theorem dX4_init_108 : decode cX4_init 108 = .ok (.putfield 62, 3) := by decide +kernel
theorem dX4_init_111 : decode cX4_init 111 = .ok (.aload_n 0, 1) := by decide +kernel
theorem dX4_init_112 : decode cX4_init 112 = .ok (.iconst 0, 1) := by decide +kernel
theorem dX4_init_113 : decode cX4_init 113 = .ok (.putfield 65, 3) := by decide +kernel
theorem dX4_init_116 : decode cX4_init 116 = .ok (.iconst 0, 1) := by decide +kernel
theorem dX4_init_117 : decode cX4_init 117 = .ok (.istore_n 1, 1) := by decide +kernel
theorem dX4_init_118 : decode cX4_init 118 = .ok (.iload_n 1, 1) := by decide +kernel
end
section
theorem dX4_init_119 : decode cX4_init 119 = .ok (.aload_n 0, 1) := by decide +kernel
theorem dX4_init_120 : decode cX4_init 120 = .ok (.getfield 11, 3) := by decide +kernel
theorem dX4_init_123 : decode cX4_init 123 = .ok (.arraylength, 1) := by decide +kernel
theorem dX4_init_124 : decode cX4_init 124 = .ok (.if_icmp .ge 22, 3) := by decide +kernel
theorem dX4_init_127 : decode cX4_init 127 = .ok (.aload_n 0, 1) := by decide +kernel
theorem dX4_init_128 : decode cX4_init 128 = .ok (.getfield 11, 3) := by decide +kernel
theorem dX4_init_131 : decode cX4_init 131 = .ok (.iload_n 1, 1) := by decide +kernel
theorem dX4_init_132 : decode cX4_init 132 = .ok (.new 9, 3) := by decide +kernel
theorem dX4_init_135 : decode cX4_init 135 = .ok (.dup, 1) := by decide +kernel
theorem dX4_init_136 : decode cX4_init 136 = .ok (.invokespecial 68, 3) := by decide +kernel
theorem dX4_init_139 : decode cX4_init 139 = .ok (.aastore, 1) := by decide +kernel
theorem dX4_init_140 : decode cX4_init 140 = .ok (.iinc 1 1, 3) := by decide +kernel
theorem dX4_init_143 : decode cX4_init 143 = .ok (.goto (-25), 3) := by decide +kernel
theorem dX4_init_146 : decode cX4_init 146 = .ok (.return_, 1) := by decide +kernel
set_option maxRecDepth 20000 in
theorem ggX4_reel_X4_isReel : GoodIn wsX4_reel wsX4_isReel := goodIn_r _ [6, 1, 30, 31, 32, 33, 34, 35, 36, 37, 38, 39, 40, 41, 42, 43] (by decide +kernel) (by decide +kernel)
set_option maxRecDepth 20000 in
theorem gX4_reel_X4_isReel : GoodIn wsX4_reel (wsV RX4 69 RX4 yX4_isReel wsX4_isReel) := goodIn_app (goodIn_of _ (by decide +kernel)) ggX4_reel_X4_isReel
set_option maxRecDepth 20000 in
theorem ggX4_reel_X4_isForm : GoodIn wsX4_reel wsX4_isForm := goodIn_r _ [9, 10, 11, 5, 12] (by decide +kernel) (by decide +kernel)
set_option maxRecDepth 20000 in
theorem gX4_reel_X4_isForm : GoodIn wsX4_reel (va_wsS RX4 73 yX4_isForm wsX4_isForm) := goodIn_app (goodIn_of _ (by decide +kernel)) ggX4_reel_X4_isForm
set_option maxRecDepth 20000 in
theorem ggX4_reel_X4_found : GoodIn wsX4_reel wsX4_found := goodIn_r _ [16, 17, 30, 31, 32, 33, 34, 35, 36, 37, 38, 39, 40, 41, 42, 43] (by decide +kernel) (by decide +kernel)
set_option maxRecDepth 20000 in
theorem gX4_reel_X4_found : GoodIn wsX4_reel (wsV RX4 76 RX4 yX4_found wsX4_found) := goodIn_app (goodIn_of _ (by decide +kernel)) ggX4_reel_X4_found
set_option maxRecDepth 20000 in
theorem ggX4_reel_X2_renew : GoodIn wsX4_reel wsX2_renew := goodIn_r _ [22, 23, 24, 25, 26, 27, 28, 29, 44, 45, 46] (by decide +kernel) (by decide +kernel)
set_option maxRecDepth 20000 in
theorem gX4_reel_X2_renew : GoodIn wsX4_reel (wsV RX4 80 RX2 yX2_renew wsX2_renew) := goodIn_app (goodIn_of _ (by decide +kernel)) ggX4_reel_X2_renew
theorem dX4_reel_0 : decode cX4_reel 0 = .ok (.aload_n 0, 1) := by decide +kernel
theorem dX4_reel_1 : decode cX4_reel 1 = .ok (.iload_n 1, 1) := by decide +kernel
theorem dX4_reel_2 : decode cX4_reel 2 = .ok (.invokevirtual 69, 3) := by decide +kernel
theorem dX4_reel_5 : decode cX4_reel 5 = .ok (.ifCond .eq 17, 3) := by decide +kernel
theorem dX4_reel_8 : decode cX4_reel 8 = .ok (.iload_n 2, 1) := by decide +kernel
theorem dX4_reel_9 : decode cX4_reel 9 = .ok (.invokestatic 73, 3) := by decide +kernel
theorem dX4_reel_12 : decode cX4_reel 12 = .ok (.ifCond .eq 10, 3) := by decide +kernel
theorem dX4_reel_15 : decode cX4_reel 15 = .ok (.iload_n 3, 1) := by decide +kernel
theorem dX4_reel_16 : decode cX4_reel 16 = .ok (.sipush 200, 3) := by decide +kernel
theorem dX4_reel_19 : decode cX4_reel 19 = .ok (.if_icmp .le 6, 3) := by decide +kernel
theorem dX4_reel_22 : decode cX4_reel 22 = .ok (.bipush (-2), 2) := by decide +kernel
theorem dX4_reel_24 : decode cX4_reel 24 = .ok (.ireturn, 1) := by decide +kernel
theorem dX4_reel_25 : decode cX4_reel 25 = .ok (.iload_n 3, 1) := by decide +kernel
theorem dX4_reel_26 : decode cX4_reel 26 = .ok (.ifCond .ge 9, 3) := by decide +kernel
theorem dX4_reel_29 : decode cX4_reel 29 = .ok (.aload_n 0, 1) := by decide +kernel
theorem dX4_reel_30 : decode cX4_reel 30 = .ok (.iconst 5, 1) := by decide +kernel
theorem dX4_reel_31 : decode cX4_reel 31 = .ok (.invokevirtual 76, 3) := by decide +kernel
theorem dX4_reel_34 : decode cX4_reel 34 = .ok (.ireturn, 1) := by decide +kernel
theorem dX4_reel_35 : decode cX4_reel 35 = .ok (.aload_n 0, 1) := by decide +kernel
theorem dX4_reel_36 : decode cX4_reel 36 = .ok (.getfield 11, 3) := by decide +kernel
theorem dX4_reel_39 : decode cX4_reel 39 = .ok (.iload_n 1, 1) := by decide +kernel
theorem dX4_reel_40 : decode cX4_reel 40 = .ok (.aaload, 1) := by decide +kernel
theorem dX4_reel_41 : decode cX4_reel 41 = .ok (.iload_n 2, 1) := by decide +kernel
theorem dX4_reel_42 : decode cX4_reel 42 = .ok (.iload_n 3, 1) := by decide +kernel
theorem dX4_reel_43 : decode cX4_reel 43 = .ok (.invokevirtual 80, 3) := by decide +kernel
theorem dX4_reel_46 : decode cX4_reel 46 = .ok (.iload_n 3, 1) := by decide +kernel
theorem dX4_reel_47 : decode cX4_reel 47 = .ok (.ireturn, 1) := by decide +kernel
set_option maxRecDepth 20000 in
theorem ggX4_lose_X4_isReel : GoodIn wsX4_lose wsX4_isReel := goodIn_r _ [6, 1, 23, 24, 25, 26, 27, 28, 29, 30, 31, 32, 33, 34, 35, 36] (by decide +kernel) (by decide +kernel)
set_option maxRecDepth 20000 in
theorem gX4_lose_X4_isReel : GoodIn wsX4_lose (wsV RX4 69 RX4 yX4_isReel wsX4_isReel) := goodIn_app (goodIn_of _ (by decide +kernel)) ggX4_lose_X4_isReel
set_option maxRecDepth 20000 in
theorem ggX4_lose_X2_isLost : GoodIn wsX4_lose wsX2_isLost := goodIn_r _ [11, 12, 37, 38, 39] (by decide +kernel) (by decide +kernel)
set_option maxRecDepth 20000 in
theorem gX4_lose_X2_isLost : GoodIn wsX4_lose (wsV RX4 84 RX2 yX2_isLost wsX2_isLost) := goodIn_app (goodIn_of _ (by decide +kernel)) ggX4_lose_X2_isLost
set_option maxRecDepth 20000 in
theorem ggX4_lose_X4_found : GoodIn wsX4_lose wsX4_found := goodIn_r _ [16, 17, 23, 24, 25, 26, 27, 28, 29, 30, 31, 32, 33, 34, 35, 36] (by decide +kernel) (by decide +kernel)
set_option maxRecDepth 20000 in
theorem gX4_lose_X4_found : GoodIn wsX4_lose (wsV RX4 76 RX4 yX4_found wsX4_found) := goodIn_app (goodIn_of _ (by decide +kernel)) ggX4_lose_X4_found
set_option maxRecDepth 20000 in
theorem ggX4_lose_X2_drop : GoodIn wsX4_lose wsX2_drop := goodIn_r _ [21, 22, 12, 37, 38, 39] (by decide +kernel) (by decide +kernel)
set_option maxRecDepth 20000 in
theorem gX4_lose_X2_drop : GoodIn wsX4_lose (wsV RX4 88 RX2 yX2_drop wsX2_drop) := goodIn_app (goodIn_of _ (by decide +kernel)) ggX4_lose_X2_drop
theorem dX4_lose_0 : decode cX4_lose 0 = .ok (.aload_n 0, 1) := by decide +kernel
theorem dX4_lose_1 : decode cX4_lose 1 = .ok (.iload_n 1, 1) := by decide +kernel
theorem dX4_lose_2 : decode cX4_lose 2 = .ok (.invokevirtual 69, 3) := by decide +kernel
theorem dX4_lose_5 : decode cX4_lose 5 = .ok (.ifCond .ne 6, 3) := by decide +kernel
theorem dX4_lose_8 : decode cX4_lose 8 = .ok (.bipush (-2), 2) := by decide +kernel
theorem dX4_lose_10 : decode cX4_lose 10 = .ok (.ireturn, 1) := by decide +kernel
theorem dX4_lose_11 : decode cX4_lose 11 = .ok (.aload_n 0, 1) := by decide +kernel
theorem dX4_lose_12 : decode cX4_lose 12 = .ok (.getfield 11, 3) := by decide +kernel
theorem dX4_lose_15 : decode cX4_lose 15 = .ok (.iload_n 1, 1) := by decide +kernel
theorem dX4_lose_16 : decode cX4_lose 16 = .ok (.aaload, 1) := by decide +kernel
theorem dX4_lose_17 : decode cX4_lose 17 = .ok (.invokevirtual 84, 3) := by decide +kernel
theorem dX4_lose_20 : decode cX4_lose 20 = .ok (.ifCond .eq 9, 3) := by decide +kernel
theorem dX4_lose_23 : decode cX4_lose 23 = .ok (.aload_n 0, 1) := by decide +kernel
theorem dX4_lose_24 : decode cX4_lose 24 = .ok (.iconst 1, 1) := by decide +kernel
theorem dX4_lose_25 : decode cX4_lose 25 = .ok (.invokevirtual 76, 3) := by decide +kernel
theorem dX4_lose_28 : decode cX4_lose 28 = .ok (.ireturn, 1) := by decide +kernel
theorem dX4_lose_29 : decode cX4_lose 29 = .ok (.aload_n 0, 1) := by decide +kernel
theorem dX4_lose_30 : decode cX4_lose 30 = .ok (.getfield 11, 3) := by decide +kernel
theorem dX4_lose_33 : decode cX4_lose 33 = .ok (.iload_n 1, 1) := by decide +kernel
theorem dX4_lose_34 : decode cX4_lose 34 = .ok (.aaload, 1) := by decide +kernel
theorem dX4_lose_35 : decode cX4_lose 35 = .ok (.invokevirtual 88, 3) := by decide +kernel
theorem dX4_lose_38 : decode cX4_lose 38 = .ok (.ireturn, 1) := by decide +kernel
set_option maxRecDepth 20000 in
theorem ggX4_put_X4_isReel : GoodIn wsX4_put wsX4_isReel := goodIn_r _ [6, 1, 42, 43, 44, 45, 46, 47, 48, 49, 50, 51, 52, 53, 54, 55] (by decide +kernel) (by decide +kernel)
set_option maxRecDepth 20000 in
theorem gX4_put_X4_isReel : GoodIn wsX4_put (wsV RX4 69 RX4 yX4_isReel wsX4_isReel) := goodIn_app (goodIn_of _ (by decide +kernel)) ggX4_put_X4_isReel
set_option maxRecDepth 20000 in
theorem ggX4_put_X4_isForm : GoodIn wsX4_put wsX4_isForm := goodIn_r _ [9, 10, 11, 5, 12] (by decide +kernel) (by decide +kernel)
set_option maxRecDepth 20000 in
theorem gX4_put_X4_isForm : GoodIn wsX4_put (va_wsS RX4 73 yX4_isForm wsX4_isForm) := goodIn_app (goodIn_of _ (by decide +kernel)) ggX4_put_X4_isForm
set_option maxRecDepth 20000 in
theorem ggX4_put_X2_findingAt : GoodIn wsX4_put wsX2_findingAt := goodIn_r _ [17, 18, 19, 20, 21, 16, 22, 23, 24, 25, 26, 27, 56, 57, 58] (by decide +kernel) (by decide +kernel)
set_option maxRecDepth 20000 in
theorem gX4_put_X2_findingAt : GoodIn wsX4_put (wsV RX4 92 RX2 yX2_findingAt wsX2_findingAt) := goodIn_app (goodIn_of _ (by decide +kernel)) ggX4_put_X2_findingAt
set_option maxRecDepth 20000 in
theorem ggX4_put_X4_found : GoodIn wsX4_put wsX4_found := goodIn_r _ [31, 32, 42, 43, 44, 45, 46, 47, 48, 49, 50, 51, 52, 53, 54, 55] (by decide +kernel) (by decide +kernel)
set_option maxRecDepth 20000 in
theorem gX4_put_X4_found : GoodIn wsX4_put (wsV RX4 76 RX4 yX4_found wsX4_found) := goodIn_app (goodIn_of _ (by decide +kernel)) ggX4_put_X4_found
set_option maxRecDepth 20000 in
theorem ggX4_put_X2_store : GoodIn wsX4_put wsX2_store := goodIn_r _ [36, 37, 23, 24, 25, 16, 26, 27, 38, 39, 40, 41, 18, 56, 57, 58] (by decide +kernel) (by decide +kernel)
set_option maxRecDepth 20000 in
theorem gX4_put_X2_store : GoodIn wsX4_put (wsV RX4 96 RX2 yX2_store wsX2_store) := goodIn_app (goodIn_of _ (by decide +kernel)) ggX4_put_X2_store
theorem dX4_put_0 : decode cX4_put 0 = .ok (.aload_n 0, 1) := by decide +kernel
theorem dX4_put_1 : decode cX4_put 1 = .ok (.iload_n 1, 1) := by decide +kernel
theorem dX4_put_2 : decode cX4_put 2 = .ok (.invokevirtual 69, 3) := by decide +kernel
theorem dX4_put_5 : decode cX4_put 5 = .ok (.ifCond .eq 10, 3) := by decide +kernel
theorem dX4_put_8 : decode cX4_put 8 = .ok (.iload_n 2, 1) := by decide +kernel
theorem dX4_put_9 : decode cX4_put 9 = .ok (.invokestatic 73, 3) := by decide +kernel
theorem dX4_put_12 : decode cX4_put 12 = .ok (.ifCond .ne 6, 3) := by decide +kernel
theorem dX4_put_15 : decode cX4_put 15 = .ok (.bipush (-2), 2) := by decide +kernel
theorem dX4_put_17 : decode cX4_put 17 = .ok (.ireturn, 1) := by decide +kernel
theorem dX4_put_18 : decode cX4_put 18 = .ok (.aload_n 0, 1) := by decide +kernel
theorem dX4_put_19 : decode cX4_put 19 = .ok (.getfield 11, 3) := by decide +kernel
theorem dX4_put_22 : decode cX4_put 22 = .ok (.iload_n 1, 1) := by decide +kernel
theorem dX4_put_23 : decode cX4_put 23 = .ok (.aaload, 1) := by decide +kernel
theorem dX4_put_24 : decode cX4_put 24 = .ok (.iload_n 2, 1) := by decide +kernel
theorem dX4_put_25 : decode cX4_put 25 = .ok (.iload_n 3, 1) := by decide +kernel
theorem dX4_put_26 : decode cX4_put 26 = .ok (.invokevirtual 92, 3) := by decide +kernel
theorem dX4_put_29 : decode cX4_put 29 = .ok (.istore 5, 2) := by decide +kernel
theorem dX4_put_31 : decode cX4_put 31 = .ok (.iload 5, 2) := by decide +kernel
theorem dX4_put_33 : decode cX4_put 33 = .ok (.ifCond .eq 10, 3) := by decide +kernel
theorem dX4_put_36 : decode cX4_put 36 = .ok (.aload_n 0, 1) := by decide +kernel
theorem dX4_put_37 : decode cX4_put 37 = .ok (.iload 5, 2) := by decide +kernel
theorem dX4_put_39 : decode cX4_put 39 = .ok (.invokevirtual 76, 3) := by decide +kernel
theorem dX4_put_42 : decode cX4_put 42 = .ok (.ireturn, 1) := by decide +kernel
theorem dX4_put_43 : decode cX4_put 43 = .ok (.aload_n 0, 1) := by decide +kernel
theorem dX4_put_44 : decode cX4_put 44 = .ok (.getfield 11, 3) := by decide +kernel
theorem dX4_put_47 : decode cX4_put 47 = .ok (.iload_n 1, 1) := by decide +kernel
theorem dX4_put_48 : decode cX4_put 48 = .ok (.aaload, 1) := by decide +kernel
theorem dX4_put_49 : decode cX4_put 49 = .ok (.iload_n 3, 1) := by decide +kernel
theorem dX4_put_50 : decode cX4_put 50 = .ok (.iload 4, 2) := by decide +kernel
theorem dX4_put_52 : decode cX4_put 52 = .ok (.invokevirtual 96, 3) := by decide +kernel
theorem dX4_put_55 : decode cX4_put 55 = .ok (.iconst 1, 1) := by decide +kernel
theorem dX4_put_56 : decode cX4_put 56 = .ok (.ireturn, 1) := by decide +kernel
set_option maxRecDepth 20000 in
theorem ggX4_get_X4_isReel : GoodIn wsX4_get wsX4_isReel := goodIn_r _ [7, 2, 39, 40, 41, 42, 43, 44, 45, 46, 47, 48, 49, 50, 51, 52] (by decide +kernel) (by decide +kernel)
set_option maxRecDepth 20000 in
theorem gX4_get_X4_isReel : GoodIn wsX4_get (wsV RX4 69 RX4 yX4_isReel wsX4_isReel) := goodIn_app (goodIn_of _ (by decide +kernel)) ggX4_get_X4_isReel
set_option maxRecDepth 20000 in
theorem ggX4_get_X4_isForm : GoodIn wsX4_get wsX4_isForm := goodIn_r _ [10, 11, 12, 6, 13] (by decide +kernel) (by decide +kernel)
set_option maxRecDepth 20000 in
theorem gX4_get_X4_isForm : GoodIn wsX4_get (va_wsS RX4 73 yX4_isForm wsX4_isForm) := goodIn_app (goodIn_of _ (by decide +kernel)) ggX4_get_X4_isForm
set_option maxRecDepth 20000 in
theorem ggX4_get_X2_findingAt : GoodIn wsX4_get wsX2_findingAt := goodIn_r _ [18, 19, 20, 21, 22, 17, 23, 24, 25, 26, 27, 28, 53, 54, 55] (by decide +kernel) (by decide +kernel)
set_option maxRecDepth 20000 in
theorem gX4_get_X2_findingAt : GoodIn wsX4_get (wsV RX4 92 RX2 yX2_findingAt wsX2_findingAt) := goodIn_app (goodIn_of _ (by decide +kernel)) ggX4_get_X2_findingAt
set_option maxRecDepth 20000 in
theorem ggX4_get_X4_found : GoodIn wsX4_get wsX4_found := goodIn_r _ [32, 33, 39, 40, 41, 42, 43, 44, 45, 46, 47, 48, 49, 50, 51, 52] (by decide +kernel) (by decide +kernel)
set_option maxRecDepth 20000 in
theorem gX4_get_X4_found : GoodIn wsX4_get (wsV RX4 76 RX4 yX4_found wsX4_found) := goodIn_app (goodIn_of _ (by decide +kernel)) ggX4_get_X4_found
set_option maxRecDepth 20000 in
theorem ggX4_get_X2_item : GoodIn wsX4_get wsX2_item := goodIn_r _ [37, 38, 24, 25, 26, 17, 27, 28, 53, 54, 55] (by decide +kernel) (by decide +kernel)
set_option maxRecDepth 20000 in
theorem gX4_get_X2_item : GoodIn wsX4_get (wsV RX4 100 RX2 yX2_item wsX2_item) := goodIn_app (goodIn_of _ (by decide +kernel)) ggX4_get_X2_item
theorem dX4_get_0 : decode cX4_get 0 = .ok (.aload_n 0, 1) := by decide +kernel
theorem dX4_get_1 : decode cX4_get 1 = .ok (.iload_n 1, 1) := by decide +kernel
theorem dX4_get_2 : decode cX4_get 2 = .ok (.invokevirtual 69, 3) := by decide +kernel
theorem dX4_get_5 : decode cX4_get 5 = .ok (.ifCond .eq 10, 3) := by decide +kernel
theorem dX4_get_8 : decode cX4_get 8 = .ok (.iload_n 2, 1) := by decide +kernel
theorem dX4_get_9 : decode cX4_get 9 = .ok (.invokestatic 73, 3) := by decide +kernel
theorem dX4_get_12 : decode cX4_get 12 = .ok (.ifCond .ne 6, 3) := by decide +kernel
theorem dX4_get_15 : decode cX4_get 15 = .ok (.ldc 99, 2) := by decide +kernel
theorem dX4_get_17 : decode cX4_get 17 = .ok (.ireturn, 1) := by decide +kernel
theorem dX4_get_18 : decode cX4_get 18 = .ok (.aload_n 0, 1) := by decide +kernel
theorem dX4_get_19 : decode cX4_get 19 = .ok (.getfield 11, 3) := by decide +kernel
theorem dX4_get_22 : decode cX4_get 22 = .ok (.iload_n 1, 1) := by decide +kernel
theorem dX4_get_23 : decode cX4_get 23 = .ok (.aaload, 1) := by decide +kernel
theorem dX4_get_24 : decode cX4_get 24 = .ok (.iload_n 2, 1) := by decide +kernel
theorem dX4_get_25 : decode cX4_get 25 = .ok (.iload_n 3, 1) := by decide +kernel
theorem dX4_get_26 : decode cX4_get 26 = .ok (.invokevirtual 92, 3) := by decide +kernel
theorem dX4_get_29 : decode cX4_get 29 = .ok (.istore 4, 2) := by decide +kernel
theorem dX4_get_31 : decode cX4_get 31 = .ok (.iload 4, 2) := by decide +kernel
theorem dX4_get_33 : decode cX4_get 33 = .ok (.ifCond .eq 13, 3) := by decide +kernel
theorem dX4_get_36 : decode cX4_get 36 = .ok (.aload_n 0, 1) := by decide +kernel
theorem dX4_get_37 : decode cX4_get 37 = .ok (.iload 4, 2) := by decide +kernel
theorem dX4_get_39 : decode cX4_get 39 = .ok (.invokevirtual 76, 3) := by decide +kernel
theorem dX4_get_42 : decode cX4_get 42 = .ok (.pop, 1) := by decide +kernel
theorem dX4_get_43 : decode cX4_get 43 = .ok (.ldc 99, 2) := by decide +kernel
theorem dX4_get_45 : decode cX4_get 45 = .ok (.ireturn, 1) := by decide +kernel
theorem dX4_get_46 : decode cX4_get 46 = .ok (.aload_n 0, 1) := by decide +kernel
theorem dX4_get_47 : decode cX4_get 47 = .ok (.getfield 11, 3) := by decide +kernel
theorem dX4_get_50 : decode cX4_get 50 = .ok (.iload_n 1, 1) := by decide +kernel
theorem dX4_get_51 : decode cX4_get 51 = .ok (.aaload, 1) := by decide +kernel
theorem dX4_get_52 : decode cX4_get 52 = .ok (.iload_n 3, 1) := by decide +kernel
theorem dX4_get_53 : decode cX4_get 53 = .ok (.invokevirtual 100, 3) := by decide +kernel
theorem dX4_get_56 : decode cX4_get 56 = .ok (.ireturn, 1) := by decide +kernel
set_option maxRecDepth 20000 in
theorem ggX4_copy_X4_isReel : GoodIn wsX4_copy wsX4_isReel := goodIn_r _ [10, 1, 27, 28, 29, 30, 31, 32, 33, 34, 35, 36, 37, 38, 39, 40] (by decide +kernel) (by decide +kernel)
set_option maxRecDepth 20000 in
theorem gX4_copy_X4_isReel : GoodIn wsX4_copy (wsV RX4 69 RX4 yX4_isReel wsX4_isReel) := goodIn_app (goodIn_of _ (by decide +kernel)) ggX4_copy_X4_isReel
set_option maxRecDepth 20000 in
theorem ggX4_copy_X2_isLost : GoodIn wsX4_copy wsX2_isLost := goodIn_r _ [15, 16, 41, 42, 43] (by decide +kernel) (by decide +kernel)
set_option maxRecDepth 20000 in
theorem gX4_copy_X2_isLost : GoodIn wsX4_copy (wsV RX4 84 RX2 yX2_isLost wsX2_isLost) := goodIn_app (goodIn_of _ (by decide +kernel)) ggX4_copy_X2_isLost
set_option maxRecDepth 20000 in
theorem ggX4_copy_X4_found : GoodIn wsX4_copy wsX4_found := goodIn_r _ [20, 21, 27, 28, 29, 30, 31, 32, 33, 34, 35, 36, 37, 38, 39, 40] (by decide +kernel) (by decide +kernel)
set_option maxRecDepth 20000 in
theorem gX4_copy_X4_found : GoodIn wsX4_copy (wsV RX4 76 RX4 yX4_found wsX4_found) := goodIn_app (goodIn_of _ (by decide +kernel)) ggX4_copy_X4_found
set_option maxRecDepth 20000 in
theorem ggX4_copy_X2_holdsRun : GoodIn wsX4_copy wsX2_holdsRun := goodIn_r _ [25, 26, 41, 42, 43] (by decide +kernel) (by decide +kernel)
set_option maxRecDepth 20000 in
theorem gX4_copy_X2_holdsRun : GoodIn wsX4_copy (wsV RX4 106 RX2 yX2_holdsRun wsX2_holdsRun) := goodIn_app (goodIn_of _ (by decide +kernel)) ggX4_copy_X2_holdsRun
theorem dX4_copy_0 : decode cX4_copy 0 = .ok (.aload_n 0, 1) := by decide +kernel
theorem dX4_copy_1 : decode cX4_copy 1 = .ok (.iload_n 1, 1) := by decide +kernel
theorem dX4_copy_2 : decode cX4_copy 2 = .ok (.invokevirtual 69, 3) := by decide +kernel
theorem dX4_copy_5 : decode cX4_copy 5 = .ok (.ifCond .eq 11, 3) := by decide +kernel
theorem dX4_copy_8 : decode cX4_copy 8 = .ok (.aload_n 0, 1) := by decide +kernel
theorem dX4_copy_9 : decode cX4_copy 9 = .ok (.iload_n 3, 1) := by decide +kernel
theorem dX4_copy_10 : decode cX4_copy 10 = .ok (.invokevirtual 69, 3) := by decide +kernel
theorem dX4_copy_13 : decode cX4_copy 13 = .ok (.ifCond .ne 6, 3) := by decide +kernel
theorem dX4_copy_16 : decode cX4_copy 16 = .ok (.bipush (-2), 2) := by decide +kernel
theorem dX4_copy_18 : decode cX4_copy 18 = .ok (.ireturn, 1) := by decide +kernel
theorem dX4_copy_19 : decode cX4_copy 19 = .ok (.aload_n 0, 1) := by decide +kernel
theorem dX4_copy_20 : decode cX4_copy 20 = .ok (.getfield 11, 3) := by decide +kernel
theorem dX4_copy_23 : decode cX4_copy 23 = .ok (.iload_n 1, 1) := by decide +kernel
theorem dX4_copy_24 : decode cX4_copy 24 = .ok (.aaload, 1) := by decide +kernel
theorem dX4_copy_25 : decode cX4_copy 25 = .ok (.astore 6, 2) := by decide +kernel
theorem dX4_copy_27 : decode cX4_copy 27 = .ok (.aload_n 0, 1) := by decide +kernel
theorem dX4_copy_28 : decode cX4_copy 28 = .ok (.getfield 11, 3) := by decide +kernel
theorem dX4_copy_31 : decode cX4_copy 31 = .ok (.iload_n 3, 1) := by decide +kernel
theorem dX4_copy_32 : decode cX4_copy 32 = .ok (.aaload, 1) := by decide +kernel
theorem dX4_copy_33 : decode cX4_copy 33 = .ok (.astore 7, 2) := by decide +kernel
theorem dX4_copy_35 : decode cX4_copy 35 = .ok (.aload 6, 2) := by decide +kernel
theorem dX4_copy_37 : decode cX4_copy 37 = .ok (.invokevirtual 84, 3) := by decide +kernel
theorem dX4_copy_40 : decode cX4_copy 40 = .ok (.ifCond .ne 11, 3) := by decide +kernel
theorem dX4_copy_43 : decode cX4_copy 43 = .ok (.aload 7, 2) := by decide +kernel
theorem dX4_copy_45 : decode cX4_copy 45 = .ok (.invokevirtual 84, 3) := by decide +kernel
theorem dX4_copy_48 : decode cX4_copy 48 = .ok (.ifCond .eq 9, 3) := by decide +kernel
theorem dX4_copy_51 : decode cX4_copy 51 = .ok (.aload_n 0, 1) := by decide +kernel
theorem dX4_copy_52 : decode cX4_copy 52 = .ok (.iconst 1, 1) := by decide +kernel
theorem dX4_copy_53 : decode cX4_copy 53 = .ok (.invokevirtual 76, 3) := by decide +kernel
theorem dX4_copy_56 : decode cX4_copy 56 = .ok (.ireturn, 1) := by decide +kernel
theorem dX4_copy_57 : decode cX4_copy 57 = .ok (.aload 6, 2) := by decide +kernel
theorem dX4_copy_59 : decode cX4_copy 59 = .ok (.getfield 103, 3) := by decide +kernel
theorem dX4_copy_62 : decode cX4_copy 62 = .ok (.aload 7, 2) := by decide +kernel
theorem dX4_copy_64 : decode cX4_copy 64 = .ok (.getfield 103, 3) := by decide +kernel
theorem dX4_copy_67 : decode cX4_copy 67 = .ok (.if_icmp .eq 9, 3) := by decide +kernel
theorem dX4_copy_70 : decode cX4_copy 70 = .ok (.aload_n 0, 1) := by decide +kernel
theorem dX4_copy_71 : decode cX4_copy 71 = .ok (.iconst 4, 1) := by decide +kernel
theorem dX4_copy_72 : decode cX4_copy 72 = .ok (.invokevirtual 76, 3) := by decide +kernel
theorem dX4_copy_75 : decode cX4_copy 75 = .ok (.ireturn, 1) := by decide +kernel
theorem dX4_copy_76 : decode cX4_copy 76 = .ok (.aload 6, 2) := by decide +kernel
theorem dX4_copy_78 : decode cX4_copy 78 = .ok (.iload_n 2, 1) := by decide +kernel
theorem dX4_copy_79 : decode cX4_copy 79 = .ok (.iload 5, 2) := by decide +kernel
theorem dX4_copy_81 : decode cX4_copy 81 = .ok (.invokevirtual 106, 3) := by decide +kernel
theorem dX4_copy_84 : decode cX4_copy 84 = .ok (.ifCond .eq 15, 3) := by decide +kernel
theorem dX4_copy_87 : decode cX4_copy 87 = .ok (.aload 7, 2) := by decide +kernel
theorem dX4_copy_89 : decode cX4_copy 89 = .ok (.iload 4, 2) := by decide +kernel
theorem dX4_copy_91 : decode cX4_copy 91 = .ok (.iload 5, 2) := by decide +kernel
theorem dX4_copy_93 : decode cX4_copy 93 = .ok (.invokevirtual 106, 3) := by decide +kernel
theorem dX4_copy_96 : decode cX4_copy 96 = .ok (.ifCond .ne 9, 3) := by decide +kernel
theorem dX4_copy_99 : decode cX4_copy 99 = .ok (.aload_n 0, 1) := by decide +kernel
theorem dX4_copy_100 : decode cX4_copy 100 = .ok (.iconst 2, 1) := by decide +kernel
theorem dX4_copy_101 : decode cX4_copy 101 = .ok (.invokevirtual 76, 3) := by decide +kernel
theorem dX4_copy_104 : decode cX4_copy 104 = .ok (.ireturn, 1) := by decide +kernel
theorem dX4_copy_105 : decode cX4_copy 105 = .ok (.aload 6, 2) := by decide +kernel
theorem dX4_copy_107 : decode cX4_copy 107 = .ok (.getfield 110, 3) := by decide +kernel
theorem dX4_copy_110 : decode cX4_copy 110 = .ok (.iload_n 2, 1) := by decide +kernel
theorem dX4_copy_111 : decode cX4_copy 111 = .ok (.aload 7, 2) := by decide +kernel
theorem dX4_copy_113 : decode cX4_copy 113 = .ok (.getfield 110, 3) := by decide +kernel
theorem dX4_copy_116 : decode cX4_copy 116 = .ok (.iload 4, 2) := by decide +kernel
theorem dX4_copy_118 : decode cX4_copy 118 = .ok (.iload 5, 2) := by decide +kernel
theorem dX4_copy_120 : decode cX4_copy 120 = .ok (.invokestatic 114, 3) := by decide +kernel
theorem dX4_copy_123 : decode cX4_copy 123 = .ok (.iconst 1, 1) := by decide +kernel
theorem dX4_copy_124 : decode cX4_copy 124 = .ok (.ireturn, 1) := by decide +kernel
set_option maxRecDepth 20000 in
theorem ggX4_cells_X4_isWithin : GoodIn wsX4_cells wsX4_isWithin := goodIn_r _ [6] (by decide +kernel) (by decide +kernel)
set_option maxRecDepth 20000 in
theorem gX4_cells_X4_isWithin : GoodIn wsX4_cells (va_wsS RX4 120 yX4_isWithin wsX4_isWithin) := goodIn_app (goodIn_of _ (by decide +kernel)) ggX4_cells_X4_isWithin
theorem dX4_cells_0 : decode cX4_cells 0 = .ok (.iload_n 1, 1) := by decide +kernel
theorem dX4_cells_1 : decode cX4_cells 1 = .ok (.iconst 1, 1) := by decide +kernel
theorem dX4_cells_2 : decode cX4_cells 2 = .ok (.bipush 16, 2) := by decide +kernel
theorem dX4_cells_4 : decode cX4_cells 4 = .ok (.invokestatic 120, 3) := by decide +kernel
theorem dX4_cells_7 : decode cX4_cells 7 = .ok (.ifCond .ne 6, 3) := by decide +kernel
theorem dX4_cells_10 : decode cX4_cells 10 = .ok (.bipush (-2), 2) := by decide +kernel
theorem dX4_cells_12 : decode cX4_cells 12 = .ok (.ireturn, 1) := by decide +kernel
theorem dX4_cells_13 : decode cX4_cells 13 = .ok (.aload_n 0, 1) := by decide +kernel
theorem dX4_cells_14 : decode cX4_cells 14 = .ok (.getfield 18, 3) := by decide +kernel
theorem dX4_cells_17 : decode cX4_cells 17 = .ok (.getfield 124, 3) := by decide +kernel
theorem dX4_cells_20 : decode cX4_cells 20 = .ok (.ifCond .le 6, 3) := by decide +kernel
theorem dX4_cells_23 : decode cX4_cells 23 = .ok (.bipush (-3), 2) := by decide +kernel
theorem dX4_cells_25 : decode cX4_cells 25 = .ok (.ireturn, 1) := by decide +kernel
theorem dX4_cells_26 : decode cX4_cells 26 = .ok (.aload_n 0, 1) := by decide +kernel
theorem dX4_cells_27 : decode cX4_cells 27 = .ok (.getfield 45, 3) := by decide +kernel
theorem dX4_cells_30 : decode cX4_cells 30 = .ok (.istore_n 2, 1) := by decide +kernel
theorem dX4_cells_31 : decode cX4_cells 31 = .ok (.aload_n 0, 1) := by decide +kernel
theorem dX4_cells_32 : decode cX4_cells 32 = .ok (.iload_n 1, 1) := by decide +kernel
theorem dX4_cells_33 : decode cX4_cells 33 = .ok (.putfield 45, 3) := by decide +kernel
theorem dX4_cells_36 : decode cX4_cells 36 = .ok (.iload_n 2, 1) := by decide +kernel
theorem dX4_cells_37 : decode cX4_cells 37 = .ok (.ireturn, 1) := by decide +kernel
set_option maxRecDepth 20000 in
theorem ggX4_ping_X4_isTurn : GoodIn wsX4_ping wsX4_isTurn := goodIn_r _ [5, 6, 7, 4, 8] (by decide +kernel) (by decide +kernel)
set_option maxRecDepth 20000 in
theorem gX4_ping_X4_isTurn : GoodIn wsX4_ping (va_wsS RX4 127 yX4_isTurn wsX4_isTurn) := goodIn_app (goodIn_of _ (by decide +kernel)) ggX4_ping_X4_isTurn
set_option maxRecDepth 20000 in
theorem ggX4_ping_X4_isPlace : GoodIn wsX4_ping wsX4_isPlace := goodIn_r _ [11, 12, 13, 6, 7, 4, 8] (by decide +kernel) (by decide +kernel)
set_option maxRecDepth 20000 in
theorem gX4_ping_X4_isPlace : GoodIn wsX4_ping (va_wsS RX4 130 yX4_isPlace wsX4_isPlace) := goodIn_app (goodIn_of _ (by decide +kernel)) ggX4_ping_X4_isPlace
set_option maxRecDepth 20000 in
theorem ggX4_ping_X4_isWithin : GoodIn wsX4_ping wsX4_isWithin := goodIn_r _ [8] (by decide +kernel) (by decide +kernel)
set_option maxRecDepth 20000 in
theorem gX4_ping_X4_isWithin : GoodIn wsX4_ping (va_wsS RX4 120 yX4_isWithin wsX4_isWithin) := goodIn_app (goodIn_of _ (by decide +kernel)) ggX4_ping_X4_isWithin
set_option maxRecDepth 20000 in
theorem ggX4_ping_X3_append : GoodIn wsX4_ping wsX3_append := goodIn_r _ [18, 19, 20, 21, 22, 23, 38, 39, 40, 41, 42] (by decide +kernel) (by decide +kernel)
set_option maxRecDepth 20000 in
theorem gX4_ping_X3_append : GoodIn wsX4_ping (wsV RX4 133 RX3 yX3_append wsX3_append) := goodIn_app (goodIn_of _ (by decide +kernel)) ggX4_ping_X3_append
theorem dX4_ping_0 : decode cX4_ping 0 = .ok (.iload_n 1, 1) := by decide +kernel
theorem dX4_ping_1 : decode cX4_ping 1 = .ok (.invokestatic 127, 3) := by decide +kernel
theorem dX4_ping_4 : decode cX4_ping 4 = .ok (.ifCond .eq 28, 3) := by decide +kernel
theorem dX4_ping_7 : decode cX4_ping 7 = .ok (.iload_n 2, 1) := by decide +kernel
theorem dX4_ping_8 : decode cX4_ping 8 = .ok (.invokestatic 130, 3) := by decide +kernel
theorem dX4_ping_11 : decode cX4_ping 11 = .ok (.ifCond .eq 21, 3) := by decide +kernel
theorem dX4_ping_14 : decode cX4_ping 14 = .ok (.iload_n 3, 1) := by decide +kernel
theorem dX4_ping_15 : decode cX4_ping 15 = .ok (.invokestatic 130, 3) := by decide +kernel
theorem dX4_ping_18 : decode cX4_ping 18 = .ok (.ifCond .eq 14, 3) := by decide +kernel
theorem dX4_ping_21 : decode cX4_ping 21 = .ok (.iload 4, 2) := by decide +kernel
theorem dX4_ping_23 : decode cX4_ping 23 = .ok (.iconst 0, 1) := by decide +kernel
theorem dX4_ping_24 : decode cX4_ping 24 = .ok (.bipush 16, 2) := by decide +kernel
theorem dX4_ping_26 : decode cX4_ping 26 = .ok (.invokestatic 120, 3) := by decide +kernel
theorem dX4_ping_29 : decode cX4_ping 29 = .ok (.ifCond .ne 6, 3) := by decide +kernel
theorem dX4_ping_32 : decode cX4_ping 32 = .ok (.bipush (-2), 2) := by decide +kernel
theorem dX4_ping_34 : decode cX4_ping 34 = .ok (.ireturn, 1) := by decide +kernel
theorem dX4_ping_35 : decode cX4_ping 35 = .ok (.aload_n 0, 1) := by decide +kernel
theorem dX4_ping_36 : decode cX4_ping 36 = .ok (.getfield 18, 3) := by decide +kernel
theorem dX4_ping_39 : decode cX4_ping 39 = .ok (.iload_n 1, 1) := by decide +kernel
theorem dX4_ping_40 : decode cX4_ping 40 = .ok (.iload_n 2, 1) := by decide +kernel
theorem dX4_ping_41 : decode cX4_ping 41 = .ok (.iload_n 3, 1) := by decide +kernel
theorem dX4_ping_42 : decode cX4_ping 42 = .ok (.iload 4, 2) := by decide +kernel
theorem dX4_ping_44 : decode cX4_ping 44 = .ok (.invokevirtual 133, 3) := by decide +kernel
theorem dX4_ping_47 : decode cX4_ping 47 = .ok (.ireturn, 1) := by decide +kernel
set_option maxRecDepth 20000 in
theorem ggX4_mend_X4_isTurn : GoodIn wsX4_mend wsX4_isTurn := goodIn_r _ [5, 6, 7, 4, 8] (by decide +kernel) (by decide +kernel)
set_option maxRecDepth 20000 in
theorem gX4_mend_X4_isTurn : GoodIn wsX4_mend (va_wsS RX4 127 yX4_isTurn wsX4_isTurn) := goodIn_app (goodIn_of _ (by decide +kernel)) ggX4_mend_X4_isTurn
set_option maxRecDepth 20000 in
theorem ggX4_mend_X3_changeHeading : GoodIn wsX4_mend wsX3_changeHeading := goodIn_r _ [13, 14, 15, 16, 17, 12, 18, 19, 34, 35, 36, 37, 38] (by decide +kernel) (by decide +kernel)
set_option maxRecDepth 20000 in
theorem gX4_mend_X3_changeHeading : GoodIn wsX4_mend (wsV RX4 137 RX3 yX3_changeHeading wsX3_changeHeading) := goodIn_app (goodIn_of _ (by decide +kernel)) ggX4_mend_X3_changeHeading
theorem dX4_mend_0 : decode cX4_mend 0 = .ok (.iload_n 2, 1) := by decide +kernel
theorem dX4_mend_1 : decode cX4_mend 1 = .ok (.invokestatic 127, 3) := by decide +kernel
theorem dX4_mend_4 : decode cX4_mend 4 = .ok (.ifCond .ne 6, 3) := by decide +kernel
theorem dX4_mend_7 : decode cX4_mend 7 = .ok (.bipush (-2), 2) := by decide +kernel
theorem dX4_mend_9 : decode cX4_mend 9 = .ok (.ireturn, 1) := by decide +kernel
theorem dX4_mend_10 : decode cX4_mend 10 = .ok (.aload_n 0, 1) := by decide +kernel
theorem dX4_mend_11 : decode cX4_mend 11 = .ok (.getfield 18, 3) := by decide +kernel
theorem dX4_mend_14 : decode cX4_mend 14 = .ok (.iload_n 1, 1) := by decide +kernel
theorem dX4_mend_15 : decode cX4_mend 15 = .ok (.iload_n 2, 1) := by decide +kernel
theorem dX4_mend_16 : decode cX4_mend 16 = .ok (.invokevirtual 137, 3) := by decide +kernel
theorem dX4_mend_19 : decode cX4_mend 19 = .ok (.ireturn, 1) := by decide +kernel
theorem dX4_clear_0 : decode cX4_clear 0 = .ok (.aload_n 0, 1) := by decide +kernel
theorem dX4_clear_1 : decode cX4_clear 1 = .ok (.getfield 18, 3) := by decide +kernel
theorem dX4_clear_4 : decode cX4_clear 4 = .ok (.getfield 124, 3) := by decide +kernel
theorem dX4_clear_7 : decode cX4_clear 7 = .ok (.istore_n 1, 1) := by decide +kernel
theorem dX4_clear_8 : decode cX4_clear 8 = .ok (.aload_n 0, 1) := by decide +kernel
theorem dX4_clear_9 : decode cX4_clear 9 = .ok (.getfield 18, 3) := by decide +kernel
theorem dX4_clear_12 : decode cX4_clear 12 = .ok (.iconst 0, 1) := by decide +kernel
theorem dX4_clear_13 : decode cX4_clear 13 = .ok (.putfield 124, 3) := by decide +kernel
theorem dX4_clear_16 : decode cX4_clear 16 = .ok (.iload_n 1, 1) := by decide +kernel
theorem dX4_clear_17 : decode cX4_clear 17 = .ok (.ireturn, 1) := by decide +kernel
set_option maxRecDepth 20000 in
theorem ggX4_about_X3_isPing : GoodIn wsX4_about wsX3_isPing := goodIn_r _ [7, 8, 127, 128, 129, 130, 131] (by decide +kernel) (by decide +kernel)
set_option maxRecDepth 20000 in
theorem gX4_about_X3_isPing : GoodIn wsX4_about (wsV RX4 140 RX3 yX3_isPing wsX3_isPing) := goodIn_app (goodIn_of _ (by decide +kernel)) ggX4_about_X3_isPing
set_option maxRecDepth 20000 in
theorem ggX4_about_X3_headingOf : GoodIn wsX4_about wsX3_headingOf := goodIn_r _ [12, 13, 14, 4, 5, 6, 7, 8, 127, 128, 129, 130, 131] (by decide +kernel) (by decide +kernel)
set_option maxRecDepth 20000 in
theorem gX4_about_X3_headingOf : GoodIn wsX4_about (wsV RX4 143 RX3 yX3_headingOf wsX3_headingOf) := goodIn_app (goodIn_of _ (by decide +kernel)) ggX4_about_X3_headingOf
set_option maxRecDepth 20000 in
theorem ggX4_about_X3_xOf : GoodIn wsX4_about wsX3_xOf := goodIn_r _ [18, 19, 14, 4, 5, 6, 7, 8, 127, 128, 129, 130, 131] (by decide +kernel) (by decide +kernel)
set_option maxRecDepth 20000 in
theorem gX4_about_X3_xOf : GoodIn wsX4_about (wsV RX4 146 RX3 yX3_xOf wsX3_xOf) := goodIn_app (goodIn_of _ (by decide +kernel)) ggX4_about_X3_xOf
set_option maxRecDepth 20000 in
theorem ggX4_about_X3_yOf : GoodIn wsX4_about wsX3_yOf := goodIn_r _ [23, 24, 14, 4, 5, 6, 7, 8, 127, 128, 129, 130, 131] (by decide +kernel) (by decide +kernel)
set_option maxRecDepth 20000 in
theorem gX4_about_X3_yOf : GoodIn wsX4_about (wsV RX4 149 RX3 yX3_yOf wsX3_yOf) := goodIn_app (goodIn_of _ (by decide +kernel)) ggX4_about_X3_yOf
set_option maxRecDepth 20000 in
theorem ggX4_about_X3_depthOf : GoodIn wsX4_about wsX3_depthOf := goodIn_r _ [28, 29, 14, 4, 5, 6, 7, 8, 127, 128, 129, 130, 131] (by decide +kernel) (by decide +kernel)
set_option maxRecDepth 20000 in
theorem gX4_about_X3_depthOf : GoodIn wsX4_about (wsV RX4 152 RX3 yX3_depthOf wsX3_depthOf) := goodIn_app (goodIn_of _ (by decide +kernel)) ggX4_about_X3_depthOf
set_option maxRecDepth 20000 in
theorem ggX4_about_X4_findOwn : GoodIn wsX4_about wsX4_findOwn := goodIn_r _ [34, 35, 36, 37, 1, 38, 39, 40, 41, 42, 43, 44, 45, 46, 47, 48, 49, 50, 33, 51, 52, 53, 54, 55, 56, 57, 58, 59, 60, 61, 62, 63, 64, 65, 66, 67, 68, 69, 70, 71, 72, 73, 74, 75, 76, 77, 78, 79, 80, 81, 82, 9, 10, 11, 6, 12, 13, 14, 4, 5, 7, 8, 83, 84, 85, 86, 87, 88, 89, 90, 91, 92, 93, 94, 95, 96, 97, 3, 98, 99, 100, 101, 102, 16, 17, 18, 19, 103, 104, 105, 106, 107, 21, 22, 23, 24, 108, 109, 110, 111, 113, 114, 115, 116, 117, 118, 119, 120, 121, 122, 123, 124, 125, 126, 132, 133, 134, 135, 136, 137, 138, 139, 140, 141, 142, 143, 127, 128, 129, 130, 131] (by decide +kernel) (by decide +kernel)
set_option maxRecDepth 20000 in
theorem gX4_about_X4_findOwn : GoodIn wsX4_about (wsV RX4 155 RX4 yX4_findOwn wsX4_findOwn) := goodIn_app (goodIn_of _ (by decide +kernel)) ggX4_about_X4_findOwn
set_option maxRecDepth 20000 in
theorem ggX4_about_X4_asNumber : GoodIn wsX4_about wsX4_asNumber := goodIn_r _ [82] (by decide +kernel) (by decide +kernel)
set_option maxRecDepth 20000 in
theorem gX4_about_X4_asNumber : GoodIn wsX4_about (va_wsS RX4 158 yX4_asNumber wsX4_asNumber) := goodIn_app (goodIn_of _ (by decide +kernel)) ggX4_about_X4_asNumber
theorem dX4_about_0 : decode cX4_about 0 = .ok (.aload_n 0, 1) := by decide +kernel
theorem dX4_about_1 : decode cX4_about 1 = .ok (.getfield 18, 3) := by decide +kernel
theorem dX4_about_4 : decode cX4_about 4 = .ok (.iload_n 1, 1) := by decide +kernel
theorem dX4_about_5 : decode cX4_about 5 = .ok (.invokevirtual 140, 3) := by decide +kernel
theorem dX4_about_8 : decode cX4_about 8 = .ok (.ifCond .ne 6, 3) := by decide +kernel
theorem dX4_about_11 : decode cX4_about 11 = .ok (.ldc 99, 2) := by decide +kernel
theorem dX4_about_13 : decode cX4_about 13 = .ok (.ireturn, 1) := by decide +kernel
theorem dX4_about_14 : decode cX4_about 14 = .ok (.iload_n 2, 1) := by decide +kernel
theorem dX4_about_15 : decode cX4_about 15 = .ok (.tableswitch 78 0 4 #[33, 42, 51, 60, 69], 33) := by decide +kernel
theorem dX4_about_48 : decode cX4_about 48 = .ok (.aload_n 0, 1) := by decide +kernel
theorem dX4_about_49 : decode cX4_about 49 = .ok (.getfield 18, 3) := by decide +kernel
theorem dX4_about_52 : decode cX4_about 52 = .ok (.iload_n 1, 1) := by decide +kernel
theorem dX4_about_53 : decode cX4_about 53 = .ok (.invokevirtual 143, 3) := by decide +kernel
theorem dX4_about_56 : decode cX4_about 56 = .ok (.ireturn, 1) := by decide +kernel
theorem dX4_about_57 : decode cX4_about 57 = .ok (.aload_n 0, 1) := by decide +kernel
theorem dX4_about_58 : decode cX4_about 58 = .ok (.getfield 18, 3) := by decide +kernel
theorem dX4_about_61 : decode cX4_about 61 = .ok (.iload_n 1, 1) := by decide +kernel
theorem dX4_about_62 : decode cX4_about 62 = .ok (.invokevirtual 146, 3) := by decide +kernel
theorem dX4_about_65 : decode cX4_about 65 = .ok (.ireturn, 1) := by decide +kernel
theorem dX4_about_66 : decode cX4_about 66 = .ok (.aload_n 0, 1) := by decide +kernel
theorem dX4_about_67 : decode cX4_about 67 = .ok (.getfield 18, 3) := by decide +kernel
theorem dX4_about_70 : decode cX4_about 70 = .ok (.iload_n 1, 1) := by decide +kernel
theorem dX4_about_71 : decode cX4_about 71 = .ok (.invokevirtual 149, 3) := by decide +kernel
theorem dX4_about_74 : decode cX4_about 74 = .ok (.ireturn, 1) := by decide +kernel
theorem dX4_about_75 : decode cX4_about 75 = .ok (.aload_n 0, 1) := by decide +kernel
theorem dX4_about_76 : decode cX4_about 76 = .ok (.getfield 18, 3) := by decide +kernel
theorem dX4_about_79 : decode cX4_about 79 = .ok (.iload_n 1, 1) := by decide +kernel
theorem dX4_about_80 : decode cX4_about 80 = .ok (.invokevirtual 152, 3) := by decide +kernel
theorem dX4_about_83 : decode cX4_about 83 = .ok (.ireturn, 1) := by decide +kernel
theorem dX4_about_84 : decode cX4_about 84 = .ok (.aload_n 0, 1) := by decide +kernel
theorem dX4_about_85 : decode cX4_about 85 = .ok (.iload_n 1, 1) := by decide +kernel
theorem dX4_about_86 : decode cX4_about 86 = .ok (.invokevirtual 155, 3) := by decide +kernel
theorem dX4_about_89 : decode cX4_about 89 = .ok (.invokestatic 158, 3) := by decide +kernel
theorem dX4_about_92 : decode cX4_about 92 = .ok (.ireturn, 1) := by decide +kernel
theorem dX4_about_93 : decode cX4_about 93 = .ok (.ldc 99, 2) := by decide +kernel
theorem dX4_about_95 : decode cX4_about 95 = .ok (.ireturn, 1) := by decide +kernel
set_option maxRecDepth 20000 in
theorem ggX4_own_X3_isPing : GoodIn wsX4_own wsX3_isPing := goodIn_r _ [8, 9, 138, 139, 140, 141, 142] (by decide +kernel) (by decide +kernel)
set_option maxRecDepth 20000 in
theorem gX4_own_X3_isPing : GoodIn wsX4_own (wsV RX4 140 RX3 yX3_isPing wsX3_isPing) := goodIn_app (goodIn_of _ (by decide +kernel)) ggX4_own_X3_isPing
set_option maxRecDepth 20000 in
theorem ggX4_own_X4_isWithin : GoodIn wsX4_own wsX4_isWithin := goodIn_r _ [13] (by decide +kernel) (by decide +kernel)
set_option maxRecDepth 20000 in
theorem gX4_own_X4_isWithin : GoodIn wsX4_own (va_wsS RX4 120 yX4_isWithin wsX4_isWithin) := goodIn_app (goodIn_of _ (by decide +kernel)) ggX4_own_X4_isWithin
set_option maxRecDepth 20000 in
theorem ggX4_own_X4_asLong : GoodIn wsX4_own wsX4_asLong := goodIn_r _ [16, 17] (by decide +kernel) (by decide +kernel)
set_option maxRecDepth 20000 in
theorem gX4_own_X4_asLong : GoodIn wsX4_own (va_wsS RX4 162 yX4_asLong wsX4_asLong) := goodIn_app (goodIn_of _ (by decide +kernel)) ggX4_own_X4_asLong
set_option maxRecDepth 20000 in
theorem ggX4_own_X4_findOwn : GoodIn wsX4_own wsX4_findOwn := goodIn_r _ [21, 2, 22, 23, 1, 24, 25, 26, 27, 28, 29, 30, 31, 32, 33, 34, 35, 36, 12, 37, 38, 39, 40, 41, 42, 43, 44, 45, 46, 47, 48, 49, 50, 51, 52, 53, 54, 55, 56, 57, 58, 59, 60, 61, 62, 63, 64, 65, 66, 67, 68, 69, 70, 71, 7, 72, 73, 74, 5, 6, 8, 9, 75, 76, 77, 78, 79, 80, 81, 82, 83, 84, 85, 86, 87, 88, 89, 4, 90, 91, 92, 93, 94, 95, 96, 97, 98, 99, 100, 101, 102, 103, 104, 105, 106, 107, 108, 109, 110, 111, 124, 125, 126, 127, 128, 129, 130, 131, 132, 133, 134, 135, 136, 137, 143, 144, 145, 146, 147, 148, 149, 150, 151, 152, 153, 154, 138, 139, 140, 141, 142] (by decide +kernel) (by decide +kernel)
set_option maxRecDepth 20000 in
theorem gX4_own_X4_findOwn : GoodIn wsX4_own (wsV RX4 155 RX4 yX4_findOwn wsX4_findOwn) := goodIn_app (goodIn_of _ (by decide +kernel)) ggX4_own_X4_findOwn
set_option maxRecDepth 20000 in
theorem ggX4_own_X1_part : GoodIn wsX4_own wsX1_part := goodIn_r _ [115, 116, 117, 118, 28, 119, 30, 31, 32, 79, 12, 80, 81, 82, 83, 84, 85, 86, 87, 120, 121, 122, 123, 33, 88, 89, 148, 149, 150, 151] (by decide +kernel) (by decide +kernel)
set_option maxRecDepth 20000 in
theorem gX4_own_X1_part : GoodIn wsX4_own (wsV RX4 166 RX1 yX1_part wsX1_part) := goodIn_app (goodIn_of _ (by decide +kernel)) ggX4_own_X1_part
theorem dX4_own_0 : decode cX4_own 0 = .ok (.aload_n 0, 1) := by decide +kernel
theorem dX4_own_1 : decode cX4_own 1 = .ok (.getfield 18, 3) := by decide +kernel
theorem dX4_own_4 : decode cX4_own 4 = .ok (.iload_n 1, 1) := by decide +kernel
theorem dX4_own_5 : decode cX4_own 5 = .ok (.invokevirtual 140, 3) := by decide +kernel
theorem dX4_own_8 : decode cX4_own 8 = .ok (.ifCond .eq 12, 3) := by decide +kernel
theorem dX4_own_11 : decode cX4_own 11 = .ok (.iload_n 2, 1) := by decide +kernel
theorem dX4_own_12 : decode cX4_own 12 = .ok (.iconst 0, 1) := by decide +kernel
theorem dX4_own_13 : decode cX4_own 13 = .ok (.iconst 1, 1) := by decide +kernel
theorem dX4_own_14 : decode cX4_own 14 = .ok (.invokestatic 120, 3) := by decide +kernel
theorem dX4_own_17 : decode cX4_own 17 = .ok (.ifCond .ne 9, 3) := by decide +kernel
theorem dX4_own_20 : decode cX4_own 20 = .ok (.bipush (-2), 2) := by decide +kernel
theorem dX4_own_22 : decode cX4_own 22 = .ok (.invokestatic 162, 3) := by decide +kernel
theorem dX4_own_25 : decode cX4_own 25 = .ok (.lreturn, 1) := by decide +kernel
theorem dX4_own_26 : decode cX4_own 26 = .ok (.aload_n 0, 1) := by decide +kernel
theorem dX4_own_27 : decode cX4_own 27 = .ok (.iload_n 1, 1) := by decide +kernel
theorem dX4_own_28 : decode cX4_own 28 = .ok (.invokevirtual 155, 3) := by decide +kernel
theorem dX4_own_31 : decode cX4_own 31 = .ok (.ifCond .ne 9, 3) := by decide +kernel
theorem dX4_own_34 : decode cX4_own 34 = .ok (.bipush (-3), 2) := by decide +kernel
theorem dX4_own_36 : decode cX4_own 36 = .ok (.invokestatic 162, 3) := by decide +kernel
theorem dX4_own_39 : decode cX4_own 39 = .ok (.lreturn, 1) := by decide +kernel
theorem dX4_own_40 : decode cX4_own 40 = .ok (.aload_n 0, 1) := by decide +kernel
theorem dX4_own_41 : decode cX4_own 41 = .ok (.getfield 32, 3) := by decide +kernel
theorem dX4_own_44 : decode cX4_own 44 = .ok (.aload_n 0, 1) := by decide +kernel
theorem dX4_own_45 : decode cX4_own 45 = .ok (.getfield 52, 3) := by decide +kernel
theorem dX4_own_48 : decode cX4_own 48 = .ok (.iload_n 2, 1) := by decide +kernel
theorem dX4_own_49 : decode cX4_own 49 = .ok (.invokevirtual 166, 3) := by decide +kernel
theorem dX4_own_52 : decode cX4_own 52 = .ok (.lreturn, 1) := by decide +kernel
set_option maxRecDepth 20000 in
theorem ggX4_motion_X4_isWithin : GoodIn wsX4_motion wsX4_isWithin := goodIn_r _ [5] (by decide +kernel) (by decide +kernel)
set_option maxRecDepth 20000 in
theorem gX4_motion_X4_isWithin : GoodIn wsX4_motion (va_wsS RX4 120 yX4_isWithin wsX4_isWithin) := goodIn_app (goodIn_of _ (by decide +kernel)) ggX4_motion_X4_isWithin
theorem dX4_motion_0 : decode cX4_motion 0 = .ok (.iload_n 1, 1) := by decide +kernel
theorem dX4_motion_1 : decode cX4_motion 1 = .ok (.iconst 0, 1) := by decide +kernel
theorem dX4_motion_2 : decode cX4_motion 2 = .ok (.iconst 2, 1) := by decide +kernel
theorem dX4_motion_3 : decode cX4_motion 3 = .ok (.invokestatic 120, 3) := by decide +kernel
theorem dX4_motion_6 : decode cX4_motion 6 = .ok (.ifCond .ne 6, 3) := by decide +kernel
theorem dX4_motion_9 : decode cX4_motion 9 = .ok (.bipush (-2), 2) := by decide +kernel
theorem dX4_motion_11 : decode cX4_motion 11 = .ok (.ireturn, 1) := by decide +kernel
theorem dX4_motion_12 : decode cX4_motion 12 = .ok (.aload_n 0, 1) := by decide +kernel
theorem dX4_motion_13 : decode cX4_motion 13 = .ok (.getfield 49, 3) := by decide +kernel
theorem dX4_motion_16 : decode cX4_motion 16 = .ok (.istore_n 2, 1) := by decide +kernel
theorem dX4_motion_17 : decode cX4_motion 17 = .ok (.aload_n 0, 1) := by decide +kernel
theorem dX4_motion_18 : decode cX4_motion 18 = .ok (.iload_n 1, 1) := by decide +kernel
theorem dX4_motion_19 : decode cX4_motion 19 = .ok (.putfield 49, 3) := by decide +kernel
theorem dX4_motion_22 : decode cX4_motion 22 = .ok (.iload_n 2, 1) := by decide +kernel
theorem dX4_motion_23 : decode cX4_motion 23 = .ok (.ireturn, 1) := by decide +kernel
set_option maxRecDepth 20000 in
theorem ggX4_skew_X4_isTurn : GoodIn wsX4_skew wsX4_isTurn := goodIn_r _ [5, 6, 7, 4, 8] (by decide +kernel) (by decide +kernel)
set_option maxRecDepth 20000 in
theorem gX4_skew_X4_isTurn : GoodIn wsX4_skew (va_wsS RX4 127 yX4_isTurn wsX4_isTurn) := goodIn_app (goodIn_of _ (by decide +kernel)) ggX4_skew_X4_isTurn
theorem dX4_skew_0 : decode cX4_skew 0 = .ok (.iload_n 1, 1) := by decide +kernel
theorem dX4_skew_1 : decode cX4_skew 1 = .ok (.invokestatic 127, 3) := by decide +kernel
theorem dX4_skew_4 : decode cX4_skew 4 = .ok (.ifCond .ne 6, 3) := by decide +kernel
theorem dX4_skew_7 : decode cX4_skew 7 = .ok (.bipush (-2), 2) := by decide +kernel
theorem dX4_skew_9 : decode cX4_skew 9 = .ok (.ireturn, 1) := by decide +kernel
theorem dX4_skew_10 : decode cX4_skew 10 = .ok (.aload_n 0, 1) := by decide +kernel
theorem dX4_skew_11 : decode cX4_skew 11 = .ok (.getfield 52, 3) := by decide +kernel
theorem dX4_skew_14 : decode cX4_skew 14 = .ok (.istore_n 2, 1) := by decide +kernel
theorem dX4_skew_15 : decode cX4_skew 15 = .ok (.aload_n 0, 1) := by decide +kernel
theorem dX4_skew_16 : decode cX4_skew 16 = .ok (.iload_n 1, 1) := by decide +kernel
theorem dX4_skew_17 : decode cX4_skew 17 = .ok (.putfield 52, 3) := by decide +kernel
theorem dX4_skew_20 : decode cX4_skew 20 = .ok (.iload_n 2, 1) := by decide +kernel
theorem dX4_skew_21 : decode cX4_skew 21 = .ok (.ireturn, 1) := by decide +kernel
set_option maxRecDepth 20000 in
theorem ggX4_laws_X4_isWithin : GoodIn wsX4_laws wsX4_isWithin := goodIn_r _ [8] (by decide +kernel) (by decide +kernel)
set_option maxRecDepth 20000 in
theorem gX4_laws_X4_isWithin : GoodIn wsX4_laws (va_wsS RX4 120 yX4_isWithin wsX4_isWithin) := goodIn_app (goodIn_of _ (by decide +kernel)) ggX4_laws_X4_isWithin
theorem dX4_laws_0 : decode cX4_laws 0 = .ok (.iload_n 1, 1) := by decide +kernel
theorem dX4_laws_1 : decode cX4_laws 1 = .ok (.iconst 0, 1) := by decide +kernel
theorem dX4_laws_2 : decode cX4_laws 2 = .ok (.bipush 16, 2) := by decide +kernel
theorem dX4_laws_4 : decode cX4_laws 4 = .ok (.invokestatic 120, 3) := by decide +kernel
theorem dX4_laws_7 : decode cX4_laws 7 = .ok (.ifCond .eq 13, 3) := by decide +kernel
theorem dX4_laws_10 : decode cX4_laws 10 = .ok (.iload_n 3, 1) := by decide +kernel
theorem dX4_laws_11 : decode cX4_laws 11 = .ok (.iconst 0, 1) := by decide +kernel
theorem dX4_laws_12 : decode cX4_laws 12 = .ok (.ldc 170, 2) := by decide +kernel
theorem dX4_laws_14 : decode cX4_laws 14 = .ok (.invokestatic 120, 3) := by decide +kernel
theorem dX4_laws_17 : decode cX4_laws 17 = .ok (.ifCond .ne 6, 3) := by decide +kernel
theorem dX4_laws_20 : decode cX4_laws 20 = .ok (.bipush (-2), 2) := by decide +kernel
theorem dX4_laws_22 : decode cX4_laws 22 = .ok (.ireturn, 1) := by decide +kernel
theorem dX4_laws_23 : decode cX4_laws 23 = .ok (.aload_n 0, 1) := by decide +kernel
theorem dX4_laws_24 : decode cX4_laws 24 = .ok (.iload_n 1, 1) := by decide +kernel
theorem dX4_laws_25 : decode cX4_laws 25 = .ok (.putfield 55, 3) := by decide +kernel
theorem dX4_laws_28 : decode cX4_laws 28 = .ok (.aload_n 0, 1) := by decide +kernel
theorem dX4_laws_29 : decode cX4_laws 29 = .ok (.iload_n 2, 1) := by decide +kernel
theorem dX4_laws_30 : decode cX4_laws 30 = .ok (.putfield 58, 3) := by decide +kernel
theorem dX4_laws_33 : decode cX4_laws 33 = .ok (.aload_n 0, 1) := by decide +kernel
theorem dX4_laws_34 : decode cX4_laws 34 = .ok (.iload_n 3, 1) := by decide +kernel
theorem dX4_laws_35 : decode cX4_laws 35 = .ok (.putfield 62, 3) := by decide +kernel
theorem dX4_laws_38 : decode cX4_laws 38 = .ok (.iconst 1, 1) := by decide +kernel
theorem dX4_laws_39 : decode cX4_laws 39 = .ok (.ireturn, 1) := by decide +kernel
set_option maxRecDepth 20000 in
theorem ggX4_answer_X0_take : GoodIn wsX4_answer wsX0_take := goodIn_r _ [7, 8, 9, 10, 11, 12, 13, 14, 6, 15, 16, 17, 18, 34, 35, 36, 37, 38] (by decide +kernel) (by decide +kernel)
set_option maxRecDepth 20000 in
theorem gX4_answer_X0_take : GoodIn wsX4_answer (wsV RX4 171 RX0 yX0_take wsX0_take) := goodIn_app (goodIn_of _ (by decide +kernel)) ggX4_answer_X0_take
set_option maxRecDepth 20000 in
theorem ggX4_answer_X4_asNumber : GoodIn wsX4_answer wsX4_asNumber := goodIn_r _ [18] (by decide +kernel) (by decide +kernel)
set_option maxRecDepth 20000 in
theorem gX4_answer_X4_asNumber : GoodIn wsX4_answer (va_wsS RX4 158 yX4_asNumber wsX4_asNumber) := goodIn_app (goodIn_of _ (by decide +kernel)) ggX4_answer_X4_asNumber
theorem dX4_answer_0 : decode cX4_answer 0 = .ok (.aload_n 0, 1) := by decide +kernel
theorem dX4_answer_1 : decode cX4_answer 1 = .ok (.getfield 25, 3) := by decide +kernel
theorem dX4_answer_4 : decode cX4_answer 4 = .ok (.iload_n 1, 1) := by decide +kernel
theorem dX4_answer_5 : decode cX4_answer 5 = .ok (.iload_n 2, 1) := by decide +kernel
theorem dX4_answer_6 : decode cX4_answer 6 = .ok (.iload_n 3, 1) := by decide +kernel
theorem dX4_answer_7 : decode cX4_answer 7 = .ok (.iload 4, 2) := by decide +kernel
theorem dX4_answer_9 : decode cX4_answer 9 = .ok (.invokevirtual 171, 3) := by decide +kernel
theorem dX4_answer_12 : decode cX4_answer 12 = .ok (.aload_n 0, 1) := by decide +kernel
theorem dX4_answer_13 : decode cX4_answer 13 = .ok (.getfield 25, 3) := by decide +kernel
theorem dX4_answer_16 : decode cX4_answer 16 = .ok (.getfield 175, 3) := by decide +kernel
theorem dX4_answer_19 : decode cX4_answer 19 = .ok (.ifCond .ne 6, 3) := by decide +kernel
theorem dX4_answer_22 : decode cX4_answer 22 = .ok (.ldc 99, 2) := by decide +kernel
theorem dX4_answer_24 : decode cX4_answer 24 = .ok (.ireturn, 1) := by decide +kernel
theorem dX4_answer_25 : decode cX4_answer 25 = .ok (.iload 5, 2) := by decide +kernel
theorem dX4_answer_27 : decode cX4_answer 27 = .ok (.tableswitch 64 0 3 #[29, 37, 45, 53], 29) := by decide +kernel
theorem dX4_answer_56 : decode cX4_answer 56 = .ok (.aload_n 0, 1) := by decide +kernel
theorem dX4_answer_57 : decode cX4_answer 57 = .ok (.getfield 25, 3) := by decide +kernel
theorem dX4_answer_60 : decode cX4_answer 60 = .ok (.getfield 178, 3) := by decide +kernel
theorem dX4_answer_63 : decode cX4_answer 63 = .ok (.ireturn, 1) := by decide +kernel
theorem dX4_answer_64 : decode cX4_answer 64 = .ok (.aload_n 0, 1) := by decide +kernel
theorem dX4_answer_65 : decode cX4_answer 65 = .ok (.getfield 25, 3) := by decide +kernel
theorem dX4_answer_68 : decode cX4_answer 68 = .ok (.getfield 181, 3) := by decide +kernel
theorem dX4_answer_71 : decode cX4_answer 71 = .ok (.ireturn, 1) := by decide +kernel
theorem dX4_answer_72 : decode cX4_answer 72 = .ok (.aload_n 0, 1) := by decide +kernel
theorem dX4_answer_73 : decode cX4_answer 73 = .ok (.getfield 25, 3) := by decide +kernel
theorem dX4_answer_76 : decode cX4_answer 76 = .ok (.getfield 184, 3) := by decide +kernel
theorem dX4_answer_79 : decode cX4_answer 79 = .ok (.ireturn, 1) := by decide +kernel
theorem dX4_answer_80 : decode cX4_answer 80 = .ok (.aload_n 0, 1) := by decide +kernel
theorem dX4_answer_81 : decode cX4_answer 81 = .ok (.getfield 25, 3) := by decide +kernel
theorem dX4_answer_84 : decode cX4_answer 84 = .ok (.getfield 187, 3) := by decide +kernel
theorem dX4_answer_87 : decode cX4_answer 87 = .ok (.invokestatic 158, 3) := by decide +kernel
theorem dX4_answer_90 : decode cX4_answer 90 = .ok (.ireturn, 1) := by decide +kernel
theorem dX4_answer_91 : decode cX4_answer 91 = .ok (.ldc 99, 2) := by decide +kernel
theorem dX4_answer_93 : decode cX4_answer 93 = .ok (.ireturn, 1) := by decide +kernel
set_option maxRecDepth 20000 in
theorem ggX4_beam_X4_isPart : GoodIn wsX4_beam wsX4_isPart := goodIn_r _ [7, 8, 9, 6, 10] (by decide +kernel) (by decide +kernel)
set_option maxRecDepth 20000 in
theorem gX4_beam_X4_isPart : GoodIn wsX4_beam (va_wsS RX4 190 yX4_isPart wsX4_isPart) := goodIn_app (goodIn_of _ (by decide +kernel)) ggX4_beam_X4_isPart
set_option maxRecDepth 20000 in
theorem ggX4_beam_X4_isWithin : GoodIn wsX4_beam wsX4_isWithin := goodIn_r _ [10] (by decide +kernel) (by decide +kernel)
set_option maxRecDepth 20000 in
theorem gX4_beam_X4_isWithin : GoodIn wsX4_beam (va_wsS RX4 120 yX4_isWithin wsX4_isWithin) := goodIn_app (goodIn_of _ (by decide +kernel)) ggX4_beam_X4_isWithin
theorem dX4_beam_0 : decode cX4_beam 0 = .ok (.iload_n 1, 1) := by decide +kernel
theorem dX4_beam_1 : decode cX4_beam 1 = .ok (.invokestatic 190, 3) := by decide +kernel
theorem dX4_beam_4 : decode cX4_beam 4 = .ok (.ifCond .eq 29, 3) := by decide +kernel
theorem dX4_beam_7 : decode cX4_beam 7 = .ok (.iload_n 2, 1) := by decide +kernel
theorem dX4_beam_8 : decode cX4_beam 8 = .ok (.invokestatic 190, 3) := by decide +kernel
theorem dX4_beam_11 : decode cX4_beam 11 = .ok (.ifCond .eq 22, 3) := by decide +kernel
theorem dX4_beam_14 : decode cX4_beam 14 = .ok (.iload_n 3, 1) := by decide +kernel
theorem dX4_beam_15 : decode cX4_beam 15 = .ok (.invokestatic 190, 3) := by decide +kernel
theorem dX4_beam_18 : decode cX4_beam 18 = .ok (.ifCond .eq 15, 3) := by decide +kernel
theorem dX4_beam_21 : decode cX4_beam 21 = .ok (.iload 4, 2) := by decide +kernel
theorem dX4_beam_23 : decode cX4_beam 23 = .ok (.ldc 193, 2) := by decide +kernel
theorem dX4_beam_25 : decode cX4_beam 25 = .ok (.ldc 194, 2) := by decide +kernel
theorem dX4_beam_27 : decode cX4_beam 27 = .ok (.invokestatic 120, 3) := by decide +kernel
theorem dX4_beam_30 : decode cX4_beam 30 = .ok (.ifCond .ne 6, 3) := by decide +kernel
theorem dX4_beam_33 : decode cX4_beam 33 = .ok (.ldc 99, 2) := by decide +kernel
theorem dX4_beam_35 : decode cX4_beam 35 = .ok (.ireturn, 1) := by decide +kernel
theorem dX4_beam_36 : decode cX4_beam 36 = .ok (.iload 5, 2) := by decide +kernel
theorem dX4_beam_38 : decode cX4_beam 38 = .ok (.tableswitch 66 0 3 #[30, 39, 48, 57], 30) := by decide +kernel
theorem dX4_beam_68 : decode cX4_beam 68 = .ok (.iload 4, 2) := by decide +kernel
theorem dX4_beam_70 : decode cX4_beam 70 = .ok (.iload_n 3, 1) := by decide +kernel
theorem dX4_beam_71 : decode cX4_beam 71 = .ok (.iadd, 1) := by decide +kernel
theorem dX4_beam_72 : decode cX4_beam 72 = .ok (.iconst 2, 1) := by decide +kernel
theorem dX4_beam_73 : decode cX4_beam 73 = .ok (.iload_n 1, 1) := by decide +kernel
theorem dX4_beam_74 : decode cX4_beam 74 = .ok (.imul, 1) := by decide +kernel
theorem dX4_beam_75 : decode cX4_beam 75 = .ok (.iadd, 1) := by decide +kernel
theorem dX4_beam_76 : decode cX4_beam 76 = .ok (.ireturn, 1) := by decide +kernel
theorem dX4_beam_77 : decode cX4_beam 77 = .ok (.iload 4, 2) := by decide +kernel
theorem dX4_beam_79 : decode cX4_beam 79 = .ok (.iload_n 3, 1) := by decide +kernel
theorem dX4_beam_80 : decode cX4_beam 80 = .ok (.iadd, 1) := by decide +kernel
theorem dX4_beam_81 : decode cX4_beam 81 = .ok (.iconst 2, 1) := by decide +kernel
theorem dX4_beam_82 : decode cX4_beam 82 = .ok (.iload_n 1, 1) := by decide +kernel
theorem dX4_beam_83 : decode cX4_beam 83 = .ok (.imul, 1) := by decide +kernel
theorem dX4_beam_84 : decode cX4_beam 84 = .ok (.isub, 1) := by decide +kernel
theorem dX4_beam_85 : decode cX4_beam 85 = .ok (.ireturn, 1) := by decide +kernel
theorem dX4_beam_86 : decode cX4_beam 86 = .ok (.iload 4, 2) := by decide +kernel
theorem dX4_beam_88 : decode cX4_beam 88 = .ok (.iload_n 3, 1) := by decide +kernel
theorem dX4_beam_89 : decode cX4_beam 89 = .ok (.isub, 1) := by decide +kernel
theorem dX4_beam_90 : decode cX4_beam 90 = .ok (.iconst 2, 1) := by decide +kernel
theorem dX4_beam_91 : decode cX4_beam 91 = .ok (.iload_n 2, 1) := by decide +kernel
theorem dX4_beam_92 : decode cX4_beam 92 = .ok (.imul, 1) := by decide +kernel
theorem dX4_beam_93 : decode cX4_beam 93 = .ok (.iadd, 1) := by decide +kernel
theorem dX4_beam_94 : decode cX4_beam 94 = .ok (.ireturn, 1) := by decide +kernel
theorem dX4_beam_95 : decode cX4_beam 95 = .ok (.iload 4, 2) := by decide +kernel
theorem dX4_beam_97 : decode cX4_beam 97 = .ok (.iload_n 3, 1) := by decide +kernel
theorem dX4_beam_98 : decode cX4_beam 98 = .ok (.isub, 1) := by decide +kernel
theorem dX4_beam_99 : decode cX4_beam 99 = .ok (.iconst 2, 1) := by decide +kernel
theorem dX4_beam_100 : decode cX4_beam 100 = .ok (.iload_n 2, 1) := by decide +kernel
theorem dX4_beam_101 : decode cX4_beam 101 = .ok (.imul, 1) := by decide +kernel
theorem dX4_beam_102 : decode cX4_beam 102 = .ok (.isub, 1) := by decide +kernel
theorem dX4_beam_103 : decode cX4_beam 103 = .ok (.ireturn, 1) := by decide +kernel
theorem dX4_beam_104 : decode cX4_beam 104 = .ok (.ldc 99, 2) := by decide +kernel
theorem dX4_beam_106 : decode cX4_beam 106 = .ok (.ireturn, 1) := by decide +kernel
set_option maxRecDepth 20000 in
theorem ggX4_turned_X4_isPlace : GoodIn wsX4_turned wsX4_isPlace := goodIn_r _ [5, 6, 7, 8, 9, 4, 10] (by decide +kernel) (by decide +kernel)
set_option maxRecDepth 20000 in
theorem gX4_turned_X4_isPlace : GoodIn wsX4_turned (va_wsS RX4 130 yX4_isPlace wsX4_isPlace) := goodIn_app (goodIn_of _ (by decide +kernel)) ggX4_turned_X4_isPlace
set_option maxRecDepth 20000 in
theorem ggX4_turned_X4_isTurn : GoodIn wsX4_turned wsX4_isTurn := goodIn_r _ [13, 8, 9, 4, 10] (by decide +kernel) (by decide +kernel)
set_option maxRecDepth 20000 in
theorem gX4_turned_X4_isTurn : GoodIn wsX4_turned (va_wsS RX4 127 yX4_isTurn wsX4_isTurn) := goodIn_app (goodIn_of _ (by decide +kernel)) ggX4_turned_X4_isTurn
set_option maxRecDepth 20000 in
theorem ggX4_turned_X4_isWithin : GoodIn wsX4_turned wsX4_isWithin := goodIn_r _ [10] (by decide +kernel) (by decide +kernel)
set_option maxRecDepth 20000 in
theorem gX4_turned_X4_isWithin : GoodIn wsX4_turned (va_wsS RX4 120 yX4_isWithin wsX4_isWithin) := goodIn_app (goodIn_of _ (by decide +kernel)) ggX4_turned_X4_isWithin
set_option maxRecDepth 20000 in
theorem ggX4_turned_X4_xTurned : GoodIn wsX4_turned wsX4_xTurned := goodIn_r _ [16, 17, 18, 4, 19, 20, 21, 22, 23] (by decide +kernel) (by decide +kernel)
set_option maxRecDepth 20000 in
theorem gX4_turned_X4_xTurned : GoodIn wsX4_turned (va_wsS RX4 195 yX4_xTurned wsX4_xTurned) := goodIn_app (goodIn_of _ (by decide +kernel)) ggX4_turned_X4_xTurned
set_option maxRecDepth 20000 in
theorem ggX4_turned_X4_yTurned : GoodIn wsX4_turned wsX4_yTurned := goodIn_r _ [26, 21, 22, 4, 23, 20, 17, 18, 19] (by decide +kernel) (by decide +kernel)
set_option maxRecDepth 20000 in
theorem gX4_turned_X4_yTurned : GoodIn wsX4_turned (va_wsS RX4 199 yX4_yTurned wsX4_yTurned) := goodIn_app (goodIn_of _ (by decide +kernel)) ggX4_turned_X4_yTurned
theorem dX4_turned_0 : decode cX4_turned 0 = .ok (.iload_n 1, 1) := by decide +kernel
theorem dX4_turned_1 : decode cX4_turned 1 = .ok (.invokestatic 130, 3) := by decide +kernel
theorem dX4_turned_4 : decode cX4_turned 4 = .ok (.ifCond .eq 27, 3) := by decide +kernel
theorem dX4_turned_7 : decode cX4_turned 7 = .ok (.iload_n 2, 1) := by decide +kernel
theorem dX4_turned_8 : decode cX4_turned 8 = .ok (.invokestatic 130, 3) := by decide +kernel
theorem dX4_turned_11 : decode cX4_turned 11 = .ok (.ifCond .eq 20, 3) := by decide +kernel
theorem dX4_turned_14 : decode cX4_turned 14 = .ok (.iload_n 3, 1) := by decide +kernel
theorem dX4_turned_15 : decode cX4_turned 15 = .ok (.invokestatic 127, 3) := by decide +kernel
theorem dX4_turned_18 : decode cX4_turned 18 = .ok (.ifCond .eq 13, 3) := by decide +kernel
theorem dX4_turned_21 : decode cX4_turned 21 = .ok (.iload 4, 2) := by decide +kernel
theorem dX4_turned_23 : decode cX4_turned 23 = .ok (.iconst 0, 1) := by decide +kernel
theorem dX4_turned_24 : decode cX4_turned 24 = .ok (.iconst 1, 1) := by decide +kernel
theorem dX4_turned_25 : decode cX4_turned 25 = .ok (.invokestatic 120, 3) := by decide +kernel
theorem dX4_turned_28 : decode cX4_turned 28 = .ok (.ifCond .ne 6, 3) := by decide +kernel
theorem dX4_turned_31 : decode cX4_turned 31 = .ok (.ldc 99, 2) := by decide +kernel
theorem dX4_turned_33 : decode cX4_turned 33 = .ok (.ireturn, 1) := by decide +kernel
theorem dX4_turned_34 : decode cX4_turned 34 = .ok (.iload 4, 2) := by decide +kernel
theorem dX4_turned_36 : decode cX4_turned 36 = .ok (.ifCond .ne 14, 3) := by decide +kernel
theorem dX4_turned_39 : decode cX4_turned 39 = .ok (.iload_n 1, 1) := by decide +kernel
theorem dX4_turned_40 : decode cX4_turned 40 = .ok (.i2l, 1) := by decide +kernel
theorem dX4_turned_41 : decode cX4_turned 41 = .ok (.iload_n 2, 1) := by decide +kernel
theorem dX4_turned_42 : decode cX4_turned 42 = .ok (.i2l, 1) := by decide +kernel
theorem dX4_turned_43 : decode cX4_turned 43 = .ok (.iload_n 3, 1) := by decide +kernel
theorem dX4_turned_44 : decode cX4_turned 44 = .ok (.invokestatic 195, 3) := by decide +kernel
theorem dX4_turned_47 : decode cX4_turned 47 = .ok (.goto 11, 3) := by decide +kernel
theorem dX4_turned_50 : decode cX4_turned 50 = .ok (.iload_n 1, 1) := by decide +kernel
theorem dX4_turned_51 : decode cX4_turned 51 = .ok (.i2l, 1) := by decide +kernel
theorem dX4_turned_52 : decode cX4_turned 52 = .ok (.iload_n 2, 1) := by decide +kernel
theorem dX4_turned_53 : decode cX4_turned 53 = .ok (.i2l, 1) := by decide +kernel
theorem dX4_turned_54 : decode cX4_turned 54 = .ok (.iload_n 3, 1) := by decide +kernel
theorem dX4_turned_55 : decode cX4_turned 55 = .ok (.invokestatic 199, 3) := by decide +kernel
theorem dX4_turned_58 : decode cX4_turned 58 = .ok (.l2i, 1) := by decide +kernel
theorem dX4_turned_59 : decode cX4_turned 59 = .ok (.ireturn, 1) := by decide +kernel
set_option maxRecDepth 20000 in
theorem ggX4_fate_X3_isPing : GoodIn wsX4_fate wsX3_isPing := goodIn_r _ [6, 7, 145, 146, 147, 148, 149] (by decide +kernel) (by decide +kernel)
set_option maxRecDepth 20000 in
theorem gX4_fate_X3_isPing : GoodIn wsX4_fate (wsV RX4 140 RX3 yX3_isPing wsX3_isPing) := goodIn_app (goodIn_of _ (by decide +kernel)) ggX4_fate_X3_isPing
set_option maxRecDepth 20000 in
theorem ggX4_fate_X4_isCell : GoodIn wsX4_fate wsX4_isCell := goodIn_r _ [12, 13, 14, 15, 11, 16, 131, 132, 133, 134, 135, 136, 137, 138, 139, 140, 141, 142, 143, 144] (by decide +kernel) (by decide +kernel)
set_option maxRecDepth 20000 in
theorem gX4_fate_X4_isCell : GoodIn wsX4_fate (wsV RX4 202 RX4 yX4_isCell wsX4_isCell) := goodIn_app (goodIn_of _ (by decide +kernel)) ggX4_fate_X4_isCell
set_option maxRecDepth 20000 in
theorem ggX4_fate_X4_findOwn : GoodIn wsX4_fate wsX4_findOwn := goodIn_r _ [20, 21, 22, 23, 1, 24, 25, 26, 27, 28, 29, 30, 31, 32, 33, 34, 35, 36, 11, 37, 38, 39, 40, 41, 42, 43, 44, 45, 46, 47, 48, 49, 50, 51, 52, 53, 54, 55, 56, 57, 58, 59, 60, 61, 62, 63, 64, 65, 66, 67, 68, 69, 70, 71, 5, 72, 73, 74, 3, 4, 6, 7, 75, 76, 77, 78, 79, 80, 81, 82, 83, 84, 85, 86, 87, 88, 89, 2, 90, 91, 92, 93, 94, 95, 96, 97, 98, 99, 100, 101, 102, 103, 104, 105, 106, 107, 108, 109, 110, 111, 131, 132, 133, 134, 135, 136, 137, 138, 139, 140, 141, 142, 143, 144, 150, 151, 152, 153, 154, 155, 156, 157, 158, 159, 160, 161, 145, 146, 147, 148, 149] (by decide +kernel) (by decide +kernel)
set_option maxRecDepth 20000 in
theorem gX4_fate_X4_findOwn : GoodIn wsX4_fate (wsV RX4 155 RX4 yX4_findOwn wsX4_findOwn) := goodIn_app (goodIn_of _ (by decide +kernel)) ggX4_fate_X4_findOwn
set_option maxRecDepth 20000 in
theorem ggX4_fate_X4_judge : GoodIn wsX4_fate wsX4_judge := goodIn_r _ [115, 23, 116, 1, 117, 118, 119, 120, 121, 11, 122, 13, 34, 35, 36, 37, 38, 39, 40, 41, 42, 43, 44, 45, 46, 47, 48, 49, 50, 51, 52, 53, 54, 55, 56, 57, 58, 59, 60, 61, 62, 63, 64, 65, 66, 67, 68, 123, 124, 125, 5, 126, 127, 74, 3, 4, 6, 7, 14, 15, 16, 128, 129, 130, 131, 132, 133, 134, 135, 136, 137, 138, 139, 140, 141, 142, 143, 144, 150, 151, 152, 153, 154, 159, 160, 161, 145, 146, 147, 148, 149] (by decide +kernel) (by decide +kernel)
set_option maxRecDepth 20000 in
theorem gX4_fate_X4_judge : GoodIn wsX4_fate (wsV RX4 205 RX4 yX4_judge wsX4_judge) := goodIn_app (goodIn_of _ (by decide +kernel)) ggX4_fate_X4_judge
theorem dX4_fate_0 : decode cX4_fate 0 = .ok (.aload_n 0, 1) := by decide +kernel
theorem dX4_fate_1 : decode cX4_fate 1 = .ok (.getfield 18, 3) := by decide +kernel
theorem dX4_fate_4 : decode cX4_fate 4 = .ok (.iload_n 1, 1) := by decide +kernel
theorem dX4_fate_5 : decode cX4_fate 5 = .ok (.invokevirtual 140, 3) := by decide +kernel
theorem dX4_fate_8 : decode cX4_fate 8 = .ok (.ifCond .eq 11, 3) := by decide +kernel
theorem dX4_fate_11 : decode cX4_fate 11 = .ok (.aload_n 0, 1) := by decide +kernel
theorem dX4_fate_12 : decode cX4_fate 12 = .ok (.iload_n 2, 1) := by decide +kernel
theorem dX4_fate_13 : decode cX4_fate 13 = .ok (.invokevirtual 202, 3) := by decide +kernel
theorem dX4_fate_16 : decode cX4_fate 16 = .ok (.ifCond .ne 6, 3) := by decide +kernel
theorem dX4_fate_19 : decode cX4_fate 19 = .ok (.bipush (-2), 2) := by decide +kernel
theorem dX4_fate_21 : decode cX4_fate 21 = .ok (.ireturn, 1) := by decide +kernel
theorem dX4_fate_22 : decode cX4_fate 22 = .ok (.aload_n 0, 1) := by decide +kernel
theorem dX4_fate_23 : decode cX4_fate 23 = .ok (.iload_n 1, 1) := by decide +kernel
theorem dX4_fate_24 : decode cX4_fate 24 = .ok (.iload_n 2, 1) := by decide +kernel
theorem dX4_fate_25 : decode cX4_fate 25 = .ok (.aload_n 0, 1) := by decide +kernel
theorem dX4_fate_26 : decode cX4_fate 26 = .ok (.iload_n 1, 1) := by decide +kernel
theorem dX4_fate_27 : decode cX4_fate 27 = .ok (.invokevirtual 155, 3) := by decide +kernel
theorem dX4_fate_30 : decode cX4_fate 30 = .ok (.invokevirtual 205, 3) := by decide +kernel
theorem dX4_fate_33 : decode cX4_fate 33 = .ok (.ireturn, 1) := by decide +kernel
set_option maxRecDepth 20000 in
theorem ggX4_pace_X3_isPing : GoodIn wsX4_pace wsX3_isPing := goodIn_r _ [9, 10, 161, 162, 163, 164, 165] (by decide +kernel) (by decide +kernel)
set_option maxRecDepth 20000 in
theorem gX4_pace_X3_isPing : GoodIn wsX4_pace (wsV RX4 140 RX3 yX3_isPing wsX3_isPing) := goodIn_app (goodIn_of _ (by decide +kernel)) ggX4_pace_X3_isPing
set_option maxRecDepth 20000 in
theorem ggX4_pace_X4_isCell : GoodIn wsX4_pace wsX4_isCell := goodIn_r _ [15, 16, 17, 18, 14, 19, 142, 143, 144, 145, 146, 147, 148, 149, 150, 151, 152, 153, 154, 155] (by decide +kernel) (by decide +kernel)
set_option maxRecDepth 20000 in
theorem gX4_pace_X4_isCell : GoodIn wsX4_pace (wsV RX4 202 RX4 yX4_isCell wsX4_isCell) := goodIn_app (goodIn_of _ (by decide +kernel)) ggX4_pace_X4_isCell
set_option maxRecDepth 20000 in
theorem ggX4_pace_X4_isWithin : GoodIn wsX4_pace wsX4_isWithin := goodIn_r _ [19] (by decide +kernel) (by decide +kernel)
set_option maxRecDepth 20000 in
theorem gX4_pace_X4_isWithin : GoodIn wsX4_pace (va_wsS RX4 120 yX4_isWithin wsX4_isWithin) := goodIn_app (goodIn_of _ (by decide +kernel)) ggX4_pace_X4_isWithin
set_option maxRecDepth 20000 in
theorem ggX4_pace_X4_asLong : GoodIn wsX4_pace wsX4_asLong := goodIn_r _ [22, 23] (by decide +kernel) (by decide +kernel)
set_option maxRecDepth 20000 in
theorem gX4_pace_X4_asLong : GoodIn wsX4_pace (va_wsS RX4 162 yX4_asLong wsX4_asLong) := goodIn_app (goodIn_of _ (by decide +kernel)) ggX4_pace_X4_asLong
set_option maxRecDepth 20000 in
theorem ggX4_pace_X4_findOwn : GoodIn wsX4_pace wsX4_findOwn := goodIn_r _ [27, 28, 29, 2, 1, 30, 31, 32, 33, 34, 35, 36, 37, 38, 39, 40, 41, 42, 14, 43, 44, 45, 46, 47, 48, 49, 50, 51, 52, 53, 54, 55, 56, 57, 58, 59, 60, 61, 62, 63, 64, 65, 66, 67, 68, 69, 70, 71, 72, 73, 74, 75, 76, 77, 8, 78, 79, 80, 6, 7, 9, 10, 81, 82, 83, 84, 85, 86, 87, 88, 89, 90, 91, 92, 93, 94, 95, 5, 96, 97, 98, 99, 100, 101, 102, 103, 104, 105, 106, 107, 108, 109, 110, 111, 112, 113, 114, 115, 116, 117, 142, 143, 144, 145, 146, 147, 148, 149, 150, 151, 152, 153, 154, 155, 156, 157, 158, 159, 160, 166, 167, 168, 169, 170, 171, 172, 161, 162, 163, 164, 165] (by decide +kernel) (by decide +kernel)
set_option maxRecDepth 20000 in
theorem gX4_pace_X4_findOwn : GoodIn wsX4_pace (wsV RX4 155 RX4 yX4_findOwn wsX4_findOwn) := goodIn_app (goodIn_of _ (by decide +kernel)) ggX4_pace_X4_findOwn
set_option maxRecDepth 20000 in
theorem ggX4_pace_X4_itemOfCell : GoodIn wsX4_pace wsX4_itemOfCell := goodIn_r _ [121, 16, 142, 143, 144, 145, 146, 147, 148, 149, 150, 151, 152, 153, 154, 155] (by decide +kernel) (by decide +kernel)
set_option maxRecDepth 20000 in
theorem gX4_pace_X4_itemOfCell : GoodIn wsX4_pace (wsV RX4 209 RX4 yX4_itemOfCell wsX4_itemOfCell) := goodIn_app (goodIn_of _ (by decide +kernel)) ggX4_pace_X4_itemOfCell
set_option maxRecDepth 20000 in
theorem ggX4_pace_X4_readBeams : GoodIn wsX4_pace wsX4_readBeams := goodIn_r _ [43, 2, 44, 45, 46, 14, 47, 48, 49, 50, 51, 52, 53, 54, 55, 56, 57, 58, 59, 60, 61, 62, 63, 64, 65, 66, 67, 68, 69, 70, 71, 72, 73, 74, 142, 143, 144, 145, 146, 147, 148, 149, 150, 151, 152, 153, 154, 155, 170, 171, 172, 156, 157, 158, 159, 160] (by decide +kernel) (by decide +kernel)
set_option maxRecDepth 20000 in
theorem gX4_pace_X4_readBeams : GoodIn wsX4_pace (wsV RX4 212 RX4 yX4_readBeams wsX4_readBeams) := goodIn_app (goodIn_of _ (by decide +kernel)) ggX4_pace_X4_readBeams
set_option maxRecDepth 20000 in
theorem ggX4_pace_X4_findPace : GoodIn wsX4_pace wsX4_findPace := goodIn_r _ [125, 3, 2, 1, 28, 31, 32, 33, 34, 35, 36, 37, 38, 39, 75, 76, 77, 8, 78, 79, 80, 6, 7, 9, 10, 81, 82, 83, 84, 85, 14, 86, 87, 88, 89, 90, 91, 92, 93, 94, 95, 126, 127, 128, 129, 142, 143, 144, 145, 146, 147, 148, 149, 150, 151, 152, 153, 154, 155, 156, 157, 158, 159, 160, 166, 167, 168, 169, 161, 162, 163, 164, 165] (by decide +kernel) (by decide +kernel)
set_option maxRecDepth 20000 in
theorem gX4_pace_X4_findPace : GoodIn wsX4_pace (wsV RX4 215 RX4 yX4_findPace wsX4_findPace) := goodIn_app (goodIn_of _ (by decide +kernel)) ggX4_pace_X4_findPace
set_option maxRecDepth 20000 in
theorem ggX4_pace_X1_part : GoodIn wsX4_pace wsX1_part := goodIn_r _ [133, 134, 135, 136, 34, 137, 36, 37, 38, 85, 14, 86, 87, 88, 89, 90, 91, 92, 93, 138, 139, 140, 141, 39, 94, 95, 166, 167, 168, 169] (by decide +kernel) (by decide +kernel)
set_option maxRecDepth 20000 in
theorem gX4_pace_X1_part : GoodIn wsX4_pace (wsV RX4 166 RX1 yX1_part wsX1_part) := goodIn_app (goodIn_of _ (by decide +kernel)) ggX4_pace_X1_part
theorem dX4_pace_0 : decode cX4_pace 0 = .ok (.aload_n 0, 1) := by decide +kernel
theorem dX4_pace_1 : decode cX4_pace 1 = .ok (.getfield 18, 3) := by decide +kernel
theorem dX4_pace_4 : decode cX4_pace 4 = .ok (.iload_n 1, 1) := by decide +kernel
theorem dX4_pace_5 : decode cX4_pace 5 = .ok (.invokevirtual 140, 3) := by decide +kernel
theorem dX4_pace_8 : decode cX4_pace 8 = .ok (.ifCond .eq 20, 3) := by decide +kernel
theorem dX4_pace_11 : decode cX4_pace 11 = .ok (.aload_n 0, 1) := by decide +kernel
theorem dX4_pace_12 : decode cX4_pace 12 = .ok (.iload_n 2, 1) := by decide +kernel
theorem dX4_pace_13 : decode cX4_pace 13 = .ok (.invokevirtual 202, 3) := by decide +kernel
theorem dX4_pace_16 : decode cX4_pace 16 = .ok (.ifCond .eq 12, 3) := by decide +kernel
theorem dX4_pace_19 : decode cX4_pace 19 = .ok (.iload_n 3, 1) := by decide +kernel
theorem dX4_pace_20 : decode cX4_pace 20 = .ok (.iconst 0, 1) := by decide +kernel
theorem dX4_pace_21 : decode cX4_pace 21 = .ok (.iconst 1, 1) := by decide +kernel
theorem dX4_pace_22 : decode cX4_pace 22 = .ok (.invokestatic 120, 3) := by decide +kernel
theorem dX4_pace_25 : decode cX4_pace 25 = .ok (.ifCond .ne 9, 3) := by decide +kernel
theorem dX4_pace_28 : decode cX4_pace 28 = .ok (.bipush (-2), 2) := by decide +kernel
theorem dX4_pace_30 : decode cX4_pace 30 = .ok (.invokestatic 162, 3) := by decide +kernel
theorem dX4_pace_33 : decode cX4_pace 33 = .ok (.lreturn, 1) := by decide +kernel
theorem dX4_pace_34 : decode cX4_pace 34 = .ok (.aload_n 0, 1) := by decide +kernel
theorem dX4_pace_35 : decode cX4_pace 35 = .ok (.iload_n 1, 1) := by decide +kernel
theorem dX4_pace_36 : decode cX4_pace 36 = .ok (.invokevirtual 155, 3) := by decide +kernel
theorem dX4_pace_39 : decode cX4_pace 39 = .ok (.ifCond .ne 9, 3) := by decide +kernel
theorem dX4_pace_42 : decode cX4_pace 42 = .ok (.bipush (-3), 2) := by decide +kernel
theorem dX4_pace_44 : decode cX4_pace 44 = .ok (.invokestatic 162, 3) := by decide +kernel
theorem dX4_pace_47 : decode cX4_pace 47 = .ok (.lreturn, 1) := by decide +kernel
theorem dX4_pace_48 : decode cX4_pace 48 = .ok (.aload_n 0, 1) := by decide +kernel
theorem dX4_pace_49 : decode cX4_pace 49 = .ok (.iconst 0, 1) := by decide +kernel
theorem dX4_pace_50 : decode cX4_pace 50 = .ok (.aload_n 0, 1) := by decide +kernel
theorem dX4_pace_51 : decode cX4_pace 51 = .ok (.iload_n 1, 1) := by decide +kernel
theorem dX4_pace_52 : decode cX4_pace 52 = .ok (.iload_n 2, 1) := by decide +kernel
theorem dX4_pace_53 : decode cX4_pace 53 = .ok (.invokevirtual 209, 3) := by decide +kernel
theorem dX4_pace_56 : decode cX4_pace 56 = .ok (.invokevirtual 212, 3) := by decide +kernel
theorem dX4_pace_59 : decode cX4_pace 59 = .ok (.aload_n 0, 1) := by decide +kernel
theorem dX4_pace_60 : decode cX4_pace 60 = .ok (.getfield 25, 3) := by decide +kernel
theorem dX4_pace_63 : decode cX4_pace 63 = .ok (.getfield 175, 3) := by decide +kernel
theorem dX4_pace_66 : decode cX4_pace 66 = .ok (.ifCond .ne 9, 3) := by decide +kernel
theorem dX4_pace_69 : decode cX4_pace 69 = .ok (.bipush (-3), 2) := by decide +kernel
theorem dX4_pace_71 : decode cX4_pace 71 = .ok (.invokestatic 162, 3) := by decide +kernel
theorem dX4_pace_74 : decode cX4_pace 74 = .ok (.lreturn, 1) := by decide +kernel
theorem dX4_pace_75 : decode cX4_pace 75 = .ok (.aload_n 0, 1) := by decide +kernel
theorem dX4_pace_76 : decode cX4_pace 76 = .ok (.iload_n 1, 1) := by decide +kernel
theorem dX4_pace_77 : decode cX4_pace 77 = .ok (.invokevirtual 215, 3) := by decide +kernel
theorem dX4_pace_80 : decode cX4_pace 80 = .ok (.aload_n 0, 1) := by decide +kernel
theorem dX4_pace_81 : decode cX4_pace 81 = .ok (.getfield 36, 3) := by decide +kernel
theorem dX4_pace_84 : decode cX4_pace 84 = .ok (.aload_n 0, 1) := by decide +kernel
theorem dX4_pace_85 : decode cX4_pace 85 = .ok (.getfield 52, 3) := by decide +kernel
theorem dX4_pace_88 : decode cX4_pace 88 = .ok (.iload_n 3, 1) := by decide +kernel
theorem dX4_pace_89 : decode cX4_pace 89 = .ok (.invokevirtual 166, 3) := by decide +kernel
theorem dX4_pace_92 : decode cX4_pace 92 = .ok (.lreturn, 1) := by decide +kernel
set_option maxRecDepth 20000 in
theorem ggX4_fates_X4_isWithin : GoodIn wsX4_fates wsX4_isWithin := goodIn_r _ [5] (by decide +kernel) (by decide +kernel)
set_option maxRecDepth 20000 in
theorem gX4_fates_X4_isWithin : GoodIn wsX4_fates (va_wsS RX4 120 yX4_isWithin wsX4_isWithin) := goodIn_app (goodIn_of _ (by decide +kernel)) ggX4_fates_X4_isWithin
set_option maxRecDepth 20000 in
theorem ggX4_fates_X4_fatesOfPing : GoodIn wsX4_fates wsX4_fatesOfPing := goodIn_r _ [9, 10, 11, 12, 13, 4, 14, 15, 16, 17, 1, 18, 19, 20, 21, 22, 23, 24, 25, 26, 27, 28, 29, 30, 31, 32, 33, 34, 35, 36, 37, 38, 39, 40, 41, 42, 43, 44, 45, 46, 47, 48, 49, 50, 51, 52, 53, 54, 55, 56, 57, 58, 59, 60, 61, 62, 63, 64, 65, 66, 67, 68, 69, 70, 71, 72, 73, 74, 75, 76, 77, 78, 79, 80, 81, 82, 83, 84, 85, 86, 87, 88, 89, 90, 91, 92, 93, 94, 95, 96, 97, 98, 99, 100, 101, 102, 103, 104, 105, 106, 107, 108, 109, 110, 111, 112, 113, 114, 115, 116, 117, 118, 119, 120, 121, 122, 123, 124, 125, 126, 127, 2, 3, 5, 128, 129, 130, 131, 132, 133, 134, 135, 136, 137, 138, 139, 140, 141, 142, 143, 144, 145, 151, 152, 153, 154, 155, 156, 157, 158, 159, 160, 161, 162, 146, 147, 148, 149, 150] (by decide +kernel) (by decide +kernel)
set_option maxRecDepth 20000 in
theorem gX4_fates_X4_fatesOfPing : GoodIn wsX4_fates (wsV RX4 219 RX4 yX4_fatesOfPing wsX4_fatesOfPing) := goodIn_app (goodIn_of _ (by decide +kernel)) ggX4_fates_X4_fatesOfPing
theorem dX4_fates_0 : decode cX4_fates 0 = .ok (.iload_n 1, 1) := by decide +kernel
theorem dX4_fates_1 : decode cX4_fates 1 = .ok (.iconst 0, 1) := by decide +kernel
theorem dX4_fates_2 : decode cX4_fates 2 = .ok (.bipush 6, 2) := by decide +kernel
theorem dX4_fates_4 : decode cX4_fates 4 = .ok (.invokestatic 120, 3) := by decide +kernel
theorem dX4_fates_7 : decode cX4_fates 7 = .ok (.ifCond .ne 6, 3) := by decide +kernel
theorem dX4_fates_10 : decode cX4_fates 10 = .ok (.bipush (-2), 2) := by decide +kernel
theorem dX4_fates_12 : decode cX4_fates 12 = .ok (.ireturn, 1) := by decide +kernel
theorem dX4_fates_13 : decode cX4_fates 13 = .ok (.iconst 0, 1) := by decide +kernel
theorem dX4_fates_14 : decode cX4_fates 14 = .ok (.istore_n 2, 1) := by decide +kernel
theorem dX4_fates_15 : decode cX4_fates 15 = .ok (.iconst 0, 1) := by decide +kernel
theorem dX4_fates_16 : decode cX4_fates 16 = .ok (.istore_n 3, 1) := by decide +kernel
theorem dX4_fates_17 : decode cX4_fates 17 = .ok (.iload_n 3, 1) := by decide +kernel
theorem dX4_fates_18 : decode cX4_fates 18 = .ok (.aload_n 0, 1) := by decide +kernel
theorem dX4_fates_19 : decode cX4_fates 19 = .ok (.getfield 18, 3) := by decide +kernel
theorem dX4_fates_22 : decode cX4_fates 22 = .ok (.getfield 124, 3) := by decide +kernel
theorem dX4_fates_25 : decode cX4_fates 25 = .ok (.if_icmp .ge 18, 3) := by decide +kernel
theorem dX4_fates_28 : decode cX4_fates 28 = .ok (.iload_n 2, 1) := by decide +kernel
theorem dX4_fates_29 : decode cX4_fates 29 = .ok (.aload_n 0, 1) := by decide +kernel
theorem dX4_fates_30 : decode cX4_fates 30 = .ok (.iload_n 3, 1) := by decide +kernel
theorem dX4_fates_31 : decode cX4_fates 31 = .ok (.iload_n 1, 1) := by decide +kernel
theorem dX4_fates_32 : decode cX4_fates 32 = .ok (.invokevirtual 219, 3) := by decide +kernel
theorem dX4_fates_35 : decode cX4_fates 35 = .ok (.iadd, 1) := by decide +kernel
theorem dX4_fates_36 : decode cX4_fates 36 = .ok (.istore_n 2, 1) := by decide +kernel
theorem dX4_fates_37 : decode cX4_fates 37 = .ok (.iinc 3 1, 3) := by decide +kernel
theorem dX4_fates_40 : decode cX4_fates 40 = .ok (.goto (-23), 3) := by decide +kernel
theorem dX4_fates_43 : decode cX4_fates 43 = .ok (.iload_n 2, 1) := by decide +kernel
theorem dX4_fates_44 : decode cX4_fates 44 = .ok (.ireturn, 1) := by decide +kernel
set_option maxRecDepth 20000 in
theorem ggX4_box_X4_isBox : GoodIn wsX4_box wsX4_isBox := goodIn_r _ [7, 8, 9, 10, 11, 12, 13, 14, 15, 16, 17, 18, 19, 20, 21, 6, 22, 23, 24, 25, 26, 174, 175, 176, 177, 178, 179, 180, 181, 182, 183, 184, 185, 186, 187, 188, 189, 190, 191, 192] (by decide +kernel) (by decide +kernel)
set_option maxRecDepth 20000 in
theorem gX4_box_X4_isBox : GoodIn wsX4_box (wsV RX4 222 RX4 yX4_isBox wsX4_isBox) := goodIn_app (goodIn_of _ (by decide +kernel)) ggX4_box_X4_isBox
set_option maxRecDepth 20000 in
theorem ggX4_box_X4_isWithin : GoodIn wsX4_box wsX4_isWithin := goodIn_r _ [26] (by decide +kernel) (by decide +kernel)
set_option maxRecDepth 20000 in
theorem gX4_box_X4_isWithin : GoodIn wsX4_box (va_wsS RX4 120 yX4_isWithin wsX4_isWithin) := goodIn_app (goodIn_of _ (by decide +kernel)) ggX4_box_X4_isWithin
set_option maxRecDepth 20000 in
theorem ggX4_box_X4_asLong : GoodIn wsX4_box wsX4_asLong := goodIn_r _ [29, 30] (by decide +kernel) (by decide +kernel)
set_option maxRecDepth 20000 in
theorem gX4_box_X4_asLong : GoodIn wsX4_box (va_wsS RX4 162 yX4_asLong wsX4_asLong) := goodIn_app (goodIn_of _ (by decide +kernel)) ggX4_box_X4_asLong
set_option maxRecDepth 20000 in
theorem ggX4_box_X4_sumGood : GoodIn wsX4_box wsX4_sumGood := goodIn_r _ [34, 35, 36, 37, 38, 39, 40, 41, 42, 43, 44, 45, 46, 47, 6, 48, 49, 50, 51, 8, 52, 53, 54, 55, 56, 57, 58, 59, 60, 61, 62, 63, 64, 65, 66, 67, 68, 69, 70, 71, 72, 73, 74, 75, 76, 77, 78, 79, 80, 81, 82, 83, 84, 85, 86, 87, 88, 89, 90, 12, 91, 92, 14, 15, 16, 17, 18, 93, 94, 95, 96, 97, 98, 99, 100, 101, 102, 103, 104, 105, 106, 107, 108, 109, 110, 111, 112, 113, 114, 115, 116, 117, 118, 119, 120, 121, 122, 123, 124, 125, 126, 127, 128, 129, 130, 131, 132, 133, 134, 135, 136, 137, 138, 139, 140, 141, 23, 142, 143, 144, 145, 146, 24, 25, 26, 147, 148, 149, 150, 151, 152, 153, 154, 155, 156, 157, 158, 159, 160, 161, 174, 175, 176, 177, 178, 179, 180, 181, 182, 183, 184, 185, 186, 187, 193, 194, 195, 196, 197, 198, 199, 200, 201, 202, 203, 204, 188, 189, 190, 191, 192] (by decide +kernel) (by decide +kernel)
set_option maxRecDepth 20000 in
theorem gX4_box_X4_sumGood : GoodIn wsX4_box (wsV RX4 226 RX4 yX4_sumGood wsX4_sumGood) := goodIn_app (goodIn_of _ (by decide +kernel)) ggX4_box_X4_sumGood
set_option maxRecDepth 20000 in
theorem ggX4_box_X1_part : GoodIn wsX4_box wsX1_part := goodIn_r _ [165, 166, 167, 168, 39, 169, 41, 42, 43, 97, 6, 98, 99, 100, 101, 102, 103, 104, 105, 170, 171, 172, 173, 44, 106, 107, 193, 194, 195, 196] (by decide +kernel) (by decide +kernel)
set_option maxRecDepth 20000 in
theorem gX4_box_X1_part : GoodIn wsX4_box (wsV RX4 166 RX1 yX1_part wsX1_part) := goodIn_app (goodIn_of _ (by decide +kernel)) ggX4_box_X1_part
theorem dX4_box_0 : decode cX4_box 0 = .ok (.aload_n 0, 1) := by decide +kernel
theorem dX4_box_1 : decode cX4_box 1 = .ok (.iload_n 1, 1) := by decide +kernel
theorem dX4_box_2 : decode cX4_box 2 = .ok (.iload_n 2, 1) := by decide +kernel
theorem dX4_box_3 : decode cX4_box 3 = .ok (.iload_n 3, 1) := by decide +kernel
theorem dX4_box_4 : decode cX4_box 4 = .ok (.iload 4, 2) := by decide +kernel
theorem dX4_box_6 : decode cX4_box 6 = .ok (.invokevirtual 222, 3) := by decide +kernel
theorem dX4_box_9 : decode cX4_box 9 = .ok (.ifCond .eq 13, 3) := by decide +kernel
theorem dX4_box_12 : decode cX4_box 12 = .ok (.iload 5, 2) := by decide +kernel
theorem dX4_box_14 : decode cX4_box 14 = .ok (.iconst 0, 1) := by decide +kernel
theorem dX4_box_15 : decode cX4_box 15 = .ok (.iconst 2, 1) := by decide +kernel
theorem dX4_box_16 : decode cX4_box 16 = .ok (.invokestatic 120, 3) := by decide +kernel
theorem dX4_box_19 : decode cX4_box 19 = .ok (.ifCond .ne 9, 3) := by decide +kernel
theorem dX4_box_22 : decode cX4_box 22 = .ok (.bipush (-2), 2) := by decide +kernel
theorem dX4_box_24 : decode cX4_box 24 = .ok (.invokestatic 162, 3) := by decide +kernel
theorem dX4_box_27 : decode cX4_box 27 = .ok (.lreturn, 1) := by decide +kernel
theorem dX4_box_28 : decode cX4_box 28 = .ok (.aload_n 0, 1) := by decide +kernel
theorem dX4_box_29 : decode cX4_box 29 = .ok (.aload_n 0, 1) := by decide +kernel
theorem dX4_box_30 : decode cX4_box 30 = .ok (.getfield 39, 3) := by decide +kernel
theorem dX4_box_33 : decode cX4_box 33 = .ok (.iload_n 1, 1) := by decide +kernel
theorem dX4_box_34 : decode cX4_box 34 = .ok (.iload_n 2, 1) := by decide +kernel
theorem dX4_box_35 : decode cX4_box 35 = .ok (.iload_n 3, 1) := by decide +kernel
end
section
theorem dX4_box_36 : decode cX4_box 36 = .ok (.iload 4, 2) := by decide +kernel
theorem dX4_box_38 : decode cX4_box 38 = .ok (.invokevirtual 226, 3) := by decide +kernel
theorem dX4_box_41 : decode cX4_box 41 = .ok (.istore 6, 2) := by decide +kernel
theorem dX4_box_43 : decode cX4_box 43 = .ok (.iload 5, 2) := by decide +kernel
theorem dX4_box_45 : decode cX4_box 45 = .ok (.ifCond .ne 9, 3) := by decide +kernel
theorem dX4_box_48 : decode cX4_box 48 = .ok (.iload 6, 2) := by decide +kernel
theorem dX4_box_50 : decode cX4_box 50 = .ok (.i2l, 1) := by decide +kernel
theorem dX4_box_51 : decode cX4_box 51 = .ok (.goto 18, 3) := by decide +kernel
theorem dX4_box_54 : decode cX4_box 54 = .ok (.aload_n 0, 1) := by decide +kernel
theorem dX4_box_55 : decode cX4_box 55 = .ok (.getfield 39, 3) := by decide +kernel
theorem dX4_box_58 : decode cX4_box 58 = .ok (.aload_n 0, 1) := by decide +kernel
theorem dX4_box_59 : decode cX4_box 59 = .ok (.getfield 52, 3) := by decide +kernel
theorem dX4_box_62 : decode cX4_box 62 = .ok (.iload 5, 2) := by decide +kernel
theorem dX4_box_64 : decode cX4_box 64 = .ok (.iconst 1, 1) := by decide +kernel
theorem dX4_box_65 : decode cX4_box 65 = .ok (.isub, 1) := by decide +kernel
theorem dX4_box_66 : decode cX4_box 66 = .ok (.invokevirtual 166, 3) := by decide +kernel
theorem dX4_box_69 : decode cX4_box 69 = .ok (.lreturn, 1) := by decide +kernel
set_option maxRecDepth 20000 in
theorem ggX4_mean_X4_isBox : GoodIn wsX4_mean wsX4_isBox := goodIn_r _ [7, 8, 9, 10, 11, 12, 13, 14, 15, 16, 17, 18, 19, 20, 21, 6, 22, 23, 24, 25, 26, 178, 179, 180, 181, 182, 183, 184, 185, 186, 187, 188, 189, 190, 191, 192, 193, 194, 195, 196] (by decide +kernel) (by decide +kernel)
set_option maxRecDepth 20000 in
theorem gX4_mean_X4_isBox : GoodIn wsX4_mean (wsV RX4 222 RX4 yX4_isBox wsX4_isBox) := goodIn_app (goodIn_of _ (by decide +kernel)) ggX4_mean_X4_isBox
set_option maxRecDepth 20000 in
theorem ggX4_mean_X4_isWithin : GoodIn wsX4_mean wsX4_isWithin := goodIn_r _ [26] (by decide +kernel) (by decide +kernel)
set_option maxRecDepth 20000 in
theorem gX4_mean_X4_isWithin : GoodIn wsX4_mean (va_wsS RX4 120 yX4_isWithin wsX4_isWithin) := goodIn_app (goodIn_of _ (by decide +kernel)) ggX4_mean_X4_isWithin
set_option maxRecDepth 20000 in
theorem ggX4_mean_X4_asLong : GoodIn wsX4_mean wsX4_asLong := goodIn_r _ [29, 30] (by decide +kernel) (by decide +kernel)
set_option maxRecDepth 20000 in
theorem gX4_mean_X4_asLong : GoodIn wsX4_mean (va_wsS RX4 162 yX4_asLong wsX4_asLong) := goodIn_app (goodIn_of _ (by decide +kernel)) ggX4_mean_X4_asLong
set_option maxRecDepth 20000 in
theorem ggX4_mean_X4_sumGood : GoodIn wsX4_mean wsX4_sumGood := goodIn_r _ [34, 35, 36, 37, 38, 39, 40, 41, 42, 43, 44, 45, 46, 47, 6, 48, 49, 50, 51, 8, 52, 53, 54, 55, 56, 57, 58, 59, 60, 61, 62, 63, 64, 65, 66, 67, 68, 69, 70, 71, 72, 73, 74, 75, 76, 77, 78, 79, 80, 81, 82, 83, 84, 85, 86, 87, 88, 89, 90, 12, 91, 92, 14, 15, 16, 17, 18, 93, 94, 95, 96, 97, 98, 99, 100, 101, 102, 103, 104, 105, 106, 107, 108, 109, 110, 111, 112, 113, 114, 115, 116, 117, 118, 119, 120, 121, 122, 123, 124, 125, 126, 127, 128, 129, 130, 131, 132, 133, 134, 135, 136, 137, 138, 139, 140, 141, 23, 142, 143, 144, 145, 146, 24, 25, 26, 147, 148, 149, 150, 151, 152, 153, 154, 155, 156, 157, 158, 159, 160, 161, 178, 179, 180, 181, 182, 183, 184, 185, 186, 187, 188, 189, 190, 191, 197, 198, 199, 200, 201, 202, 203, 204, 205, 206, 207, 208, 192, 193, 194, 195, 196] (by decide +kernel) (by decide +kernel)
set_option maxRecDepth 20000 in
theorem gX4_mean_X4_sumGood : GoodIn wsX4_mean (wsV RX4 226 RX4 yX4_sumGood wsX4_sumGood) := goodIn_app (goodIn_of _ (by decide +kernel)) ggX4_mean_X4_sumGood
set_option maxRecDepth 20000 in
theorem ggX4_mean_X1_part : GoodIn wsX4_mean wsX1_part := goodIn_r _ [165, 166, 167, 168, 39, 169, 41, 42, 43, 97, 6, 98, 99, 100, 101, 102, 103, 104, 105, 170, 171, 172, 173, 44, 106, 107, 197, 198, 199, 200] (by decide +kernel) (by decide +kernel)
set_option maxRecDepth 20000 in
theorem gX4_mean_X1_part : GoodIn wsX4_mean (wsV RX4 166 RX1 yX1_part wsX1_part) := goodIn_app (goodIn_of _ (by decide +kernel)) ggX4_mean_X1_part
set_option maxRecDepth 20000 in
theorem ggX4_mean_J9_floorDiv_f86c9 : GoodIn wsX4_mean wsJ9_floorDiv_f86c9 := goodIn_r _ [177] (by decide +kernel) (by decide +kernel)
set_option maxRecDepth 20000 in
theorem gX4_mean_J9_floorDiv_f86c9 : GoodIn wsX4_mean (va_wsS RX4 230 yJ9_floorDiv_f86c9 wsJ9_floorDiv_f86c9) := goodIn_app (goodIn_of _ (by decide +kernel)) ggX4_mean_J9_floorDiv_f86c9
theorem dX4_mean_0 : decode cX4_mean 0 = .ok (.aload_n 0, 1) := by decide +kernel
theorem dX4_mean_1 : decode cX4_mean 1 = .ok (.iload_n 1, 1) := by decide +kernel
theorem dX4_mean_2 : decode cX4_mean 2 = .ok (.iload_n 2, 1) := by decide +kernel
theorem dX4_mean_3 : decode cX4_mean 3 = .ok (.iload_n 3, 1) := by decide +kernel
theorem dX4_mean_4 : decode cX4_mean 4 = .ok (.iload 4, 2) := by decide +kernel
theorem dX4_mean_6 : decode cX4_mean 6 = .ok (.invokevirtual 222, 3) := by decide +kernel
theorem dX4_mean_9 : decode cX4_mean 9 = .ok (.ifCond .eq 13, 3) := by decide +kernel
theorem dX4_mean_12 : decode cX4_mean 12 = .ok (.iload 5, 2) := by decide +kernel
theorem dX4_mean_14 : decode cX4_mean 14 = .ok (.iconst 1, 1) := by decide +kernel
theorem dX4_mean_15 : decode cX4_mean 15 = .ok (.iconst 2, 1) := by decide +kernel
theorem dX4_mean_16 : decode cX4_mean 16 = .ok (.invokestatic 120, 3) := by decide +kernel
theorem dX4_mean_19 : decode cX4_mean 19 = .ok (.ifCond .ne 9, 3) := by decide +kernel
theorem dX4_mean_22 : decode cX4_mean 22 = .ok (.bipush (-2), 2) := by decide +kernel
theorem dX4_mean_24 : decode cX4_mean 24 = .ok (.invokestatic 162, 3) := by decide +kernel
theorem dX4_mean_27 : decode cX4_mean 27 = .ok (.lreturn, 1) := by decide +kernel
theorem dX4_mean_28 : decode cX4_mean 28 = .ok (.aload_n 0, 1) := by decide +kernel
theorem dX4_mean_29 : decode cX4_mean 29 = .ok (.aload_n 0, 1) := by decide +kernel
theorem dX4_mean_30 : decode cX4_mean 30 = .ok (.getfield 39, 3) := by decide +kernel
theorem dX4_mean_33 : decode cX4_mean 33 = .ok (.iload_n 1, 1) := by decide +kernel
theorem dX4_mean_34 : decode cX4_mean 34 = .ok (.iload_n 2, 1) := by decide +kernel
theorem dX4_mean_35 : decode cX4_mean 35 = .ok (.iload_n 3, 1) := by decide +kernel
theorem dX4_mean_36 : decode cX4_mean 36 = .ok (.iload 4, 2) := by decide +kernel
theorem dX4_mean_38 : decode cX4_mean 38 = .ok (.invokevirtual 226, 3) := by decide +kernel
theorem dX4_mean_41 : decode cX4_mean 41 = .ok (.istore 6, 2) := by decide +kernel
theorem dX4_mean_43 : decode cX4_mean 43 = .ok (.iload 6, 2) := by decide +kernel
theorem dX4_mean_45 : decode cX4_mean 45 = .ok (.ifCond .ne 9, 3) := by decide +kernel
theorem dX4_mean_48 : decode cX4_mean 48 = .ok (.bipush (-3), 2) := by decide +kernel
theorem dX4_mean_50 : decode cX4_mean 50 = .ok (.invokestatic 162, 3) := by decide +kernel
theorem dX4_mean_53 : decode cX4_mean 53 = .ok (.lreturn, 1) := by decide +kernel
theorem dX4_mean_54 : decode cX4_mean 54 = .ok (.aload_n 0, 1) := by decide +kernel
theorem dX4_mean_55 : decode cX4_mean 55 = .ok (.getfield 39, 3) := by decide +kernel
theorem dX4_mean_58 : decode cX4_mean 58 = .ok (.aload_n 0, 1) := by decide +kernel
theorem dX4_mean_59 : decode cX4_mean 59 = .ok (.getfield 52, 3) := by decide +kernel
theorem dX4_mean_62 : decode cX4_mean 62 = .ok (.iload 5, 2) := by decide +kernel
theorem dX4_mean_64 : decode cX4_mean 64 = .ok (.iconst 1, 1) := by decide +kernel
theorem dX4_mean_65 : decode cX4_mean 65 = .ok (.isub, 1) := by decide +kernel
theorem dX4_mean_66 : decode cX4_mean 66 = .ok (.invokevirtual 166, 3) := by decide +kernel
theorem dX4_mean_69 : decode cX4_mean 69 = .ok (.iload 6, 2) := by decide +kernel
theorem dX4_mean_71 : decode cX4_mean 71 = .ok (.i2l, 1) := by decide +kernel
theorem dX4_mean_72 : decode cX4_mean 72 = .ok (.invokestatic 230, 3) := by decide +kernel
theorem dX4_mean_75 : decode cX4_mean 75 = .ok (.lreturn, 1) := by decide +kernel
set_option maxRecDepth 20000 in
theorem ggX4_flow_X3_isSpan : GoodIn wsX4_flow wsX3_isSpan := goodIn_r _ [6, 7, 8, 9, 5, 10, 11, 183, 184, 185, 186, 187] (by decide +kernel) (by decide +kernel)
set_option maxRecDepth 20000 in
theorem gX4_flow_X3_isSpan : GoodIn wsX4_flow (wsV RX4 236 RX3 yX3_isSpan wsX3_isSpan) := goodIn_app (goodIn_of _ (by decide +kernel)) ggX4_flow_X3_isSpan
set_option maxRecDepth 20000 in
theorem ggX4_flow_X4_isWithin : GoodIn wsX4_flow wsX4_isWithin := goodIn_r _ [15] (by decide +kernel) (by decide +kernel)
set_option maxRecDepth 20000 in
theorem gX4_flow_X4_isWithin : GoodIn wsX4_flow (va_wsS RX4 120 yX4_isWithin wsX4_isWithin) := goodIn_app (goodIn_of _ (by decide +kernel)) ggX4_flow_X4_isWithin
set_option maxRecDepth 20000 in
theorem ggX4_flow_X4_asLong : GoodIn wsX4_flow wsX4_asLong := goodIn_r _ [18, 19] (by decide +kernel) (by decide +kernel)
set_option maxRecDepth 20000 in
theorem gX4_flow_X4_asLong : GoodIn wsX4_flow (va_wsS RX4 162 yX4_asLong wsX4_asLong) := goodIn_app (goodIn_of _ (by decide +kernel)) ggX4_flow_X4_asLong
set_option maxRecDepth 20000 in
theorem ggX4_flow_X4_flowOfPing : GoodIn wsX4_flow wsX4_flowOfPing := goodIn_r _ [23, 24, 25, 26, 27, 14, 28, 29, 30, 31, 1, 32, 33, 34, 35, 36, 37, 38, 39, 40, 41, 42, 43, 44, 45, 46, 47, 48, 49, 50, 51, 52, 53, 54, 55, 56, 57, 58, 59, 60, 61, 62, 63, 64, 65, 66, 67, 68, 69, 70, 71, 72, 73, 74, 75, 76, 77, 78, 79, 5, 80, 81, 7, 8, 9, 10, 11, 82, 83, 84, 85, 86, 87, 88, 89, 90, 91, 92, 93, 94, 95, 96, 97, 98, 99, 100, 101, 102, 103, 104, 105, 106, 107, 108, 109, 110, 111, 112, 113, 114, 115, 116, 117, 118, 119, 120, 121, 122, 123, 124, 125, 126, 127, 128, 129, 130, 131, 132, 133, 134, 135, 12, 13, 15, 136, 137, 138, 139, 140, 141, 142, 143, 144, 145, 146, 147, 148, 149, 150, 151, 152, 153, 154, 155, 156, 157, 158, 159, 160, 161, 162, 163, 164, 165, 166, 167, 168, 169, 170, 171, 172, 173, 174, 175, 176, 177, 178, 179, 180, 181, 182, 188, 189, 190, 191, 192, 193, 194, 195, 196, 197, 198, 199, 183, 184, 185, 186, 187] (by decide +kernel) (by decide +kernel)
set_option maxRecDepth 20000 in
theorem gX4_flow_X4_flowOfPing : GoodIn wsX4_flow (wsV RX4 239 RX4 yX4_flowOfPing wsX4_flowOfPing) := goodIn_app (goodIn_of _ (by decide +kernel)) ggX4_flow_X4_flowOfPing
theorem dX4_flow_0 : decode cX4_flow 0 = .ok (.aload_n 0, 1) := by decide +kernel
theorem dX4_flow_1 : decode cX4_flow 1 = .ok (.getfield 18, 3) := by decide +kernel
theorem dX4_flow_4 : decode cX4_flow 4 = .ok (.iload_n 1, 1) := by decide +kernel
theorem dX4_flow_5 : decode cX4_flow 5 = .ok (.iload_n 2, 1) := by decide +kernel
theorem dX4_flow_6 : decode cX4_flow 6 = .ok (.invokevirtual 236, 3) := by decide +kernel
theorem dX4_flow_9 : decode cX4_flow 9 = .ok (.ifCond .eq 17, 3) := by decide +kernel
theorem dX4_flow_12 : decode cX4_flow 12 = .ok (.iload_n 1, 1) := by decide +kernel
theorem dX4_flow_13 : decode cX4_flow 13 = .ok (.iload_n 2, 1) := by decide +kernel
theorem dX4_flow_14 : decode cX4_flow 14 = .ok (.if_icmp .eq 12, 3) := by decide +kernel
theorem dX4_flow_17 : decode cX4_flow 17 = .ok (.iload_n 3, 1) := by decide +kernel
theorem dX4_flow_18 : decode cX4_flow 18 = .ok (.iconst 0, 1) := by decide +kernel
theorem dX4_flow_19 : decode cX4_flow 19 = .ok (.iconst 1, 1) := by decide +kernel
theorem dX4_flow_20 : decode cX4_flow 20 = .ok (.invokestatic 120, 3) := by decide +kernel
theorem dX4_flow_23 : decode cX4_flow 23 = .ok (.ifCond .ne 9, 3) := by decide +kernel
theorem dX4_flow_26 : decode cX4_flow 26 = .ok (.bipush (-2), 2) := by decide +kernel
theorem dX4_flow_28 : decode cX4_flow 28 = .ok (.invokestatic 162, 3) := by decide +kernel
theorem dX4_flow_31 : decode cX4_flow 31 = .ok (.lreturn, 1) := by decide +kernel
theorem dX4_flow_32 : decode cX4_flow 32 = .ok (.lconst 0, 1) := by decide +kernel
theorem dX4_flow_33 : decode cX4_flow 33 = .ok (.lstore 4, 2) := by decide +kernel
theorem dX4_flow_35 : decode cX4_flow 35 = .ok (.iload_n 1, 1) := by decide +kernel
theorem dX4_flow_36 : decode cX4_flow 36 = .ok (.istore 6, 2) := by decide +kernel
theorem dX4_flow_38 : decode cX4_flow 38 = .ok (.iload 6, 2) := by decide +kernel
theorem dX4_flow_40 : decode cX4_flow 40 = .ok (.iload_n 2, 1) := by decide +kernel
theorem dX4_flow_41 : decode cX4_flow 41 = .ok (.if_icmp .ge 30, 3) := by decide +kernel
theorem dX4_flow_44 : decode cX4_flow 44 = .ok (.lload 4, 2) := by decide +kernel
theorem dX4_flow_46 : decode cX4_flow 46 = .ok (.aload_n 0, 1) := by decide +kernel
theorem dX4_flow_47 : decode cX4_flow 47 = .ok (.iload 6, 2) := by decide +kernel
theorem dX4_flow_49 : decode cX4_flow 49 = .ok (.iload_n 3, 1) := by decide +kernel
theorem dX4_flow_50 : decode cX4_flow 50 = .ok (.iconst 1, 1) := by decide +kernel
theorem dX4_flow_51 : decode cX4_flow 51 = .ok (.if_icmp .ne 7, 3) := by decide +kernel
theorem dX4_flow_54 : decode cX4_flow 54 = .ok (.iconst 1, 1) := by decide +kernel
theorem dX4_flow_55 : decode cX4_flow 55 = .ok (.goto 4, 3) := by decide +kernel
theorem dX4_flow_58 : decode cX4_flow 58 = .ok (.iconst 0, 1) := by decide +kernel
theorem dX4_flow_59 : decode cX4_flow 59 = .ok (.invokevirtual 239, 3) := by decide +kernel
theorem dX4_flow_62 : decode cX4_flow 62 = .ok (.ladd, 1) := by decide +kernel
theorem dX4_flow_63 : decode cX4_flow 63 = .ok (.lstore 4, 2) := by decide +kernel
theorem dX4_flow_65 : decode cX4_flow 65 = .ok (.iinc 6 1, 3) := by decide +kernel
theorem dX4_flow_68 : decode cX4_flow 68 = .ok (.goto (-30), 3) := by decide +kernel
theorem dX4_flow_71 : decode cX4_flow 71 = .ok (.lload 4, 2) := by decide +kernel
theorem dX4_flow_73 : decode cX4_flow 73 = .ok (.lreturn, 1) := by decide +kernel
set_option maxRecDepth 20000 in
theorem ggX4_askew_X3_isSpan : GoodIn wsX4_askew wsX3_isSpan := goodIn_r _ [9, 10, 11, 12, 8, 13, 14, 189, 190, 191, 192, 193] (by decide +kernel) (by decide +kernel)
set_option maxRecDepth 20000 in
theorem gX4_askew_X3_isSpan : GoodIn wsX4_askew (wsV RX4 236 RX3 yX3_isSpan wsX3_isSpan) := goodIn_app (goodIn_of _ (by decide +kernel)) ggX4_askew_X3_isSpan
set_option maxRecDepth 20000 in
theorem ggX4_askew_X4_sumGood : GoodIn wsX4_askew wsX4_sumGood := goodIn_r _ [19, 20, 21, 22, 23, 24, 25, 26, 27, 28, 29, 30, 31, 32, 18, 33, 34, 35, 36, 1, 37, 38, 39, 40, 41, 42, 43, 44, 45, 46, 47, 48, 49, 50, 51, 52, 53, 54, 55, 56, 57, 58, 59, 60, 61, 62, 63, 64, 65, 66, 67, 68, 69, 70, 71, 72, 73, 74, 75, 8, 76, 77, 10, 11, 12, 13, 14, 78, 79, 80, 81, 82, 83, 84, 85, 86, 87, 88, 89, 90, 91, 92, 93, 94, 95, 96, 97, 98, 99, 100, 101, 102, 103, 104, 105, 106, 107, 108, 109, 110, 111, 112, 113, 114, 115, 116, 117, 118, 119, 120, 121, 122, 123, 124, 125, 126, 3, 127, 128, 129, 130, 131, 132, 133, 134, 135, 136, 137, 138, 139, 140, 141, 142, 143, 144, 145, 146, 147, 148, 149, 175, 176, 177, 178, 179, 180, 181, 182, 183, 184, 185, 186, 187, 188, 194, 195, 196, 197, 198, 199, 200, 201, 202, 203, 204, 205, 189, 190, 191, 192, 193] (by decide +kernel) (by decide +kernel)
set_option maxRecDepth 20000 in
theorem gX4_askew_X4_sumGood : GoodIn wsX4_askew (wsV RX4 226 RX4 yX4_sumGood wsX4_sumGood) := goodIn_app (goodIn_of _ (by decide +kernel)) ggX4_askew_X4_sumGood
set_option maxRecDepth 20000 in
theorem ggX4_askew_X1_multiply : GoodIn wsX4_askew wsX1_multiply := goodIn_r _ [153, 26, 27, 28, 29, 194, 195, 196, 197] (by decide +kernel) (by decide +kernel)
set_option maxRecDepth 20000 in
theorem gX4_askew_X1_multiply : GoodIn wsX4_askew (wsV RX4 243 RX1 yX1_multiply wsX1_multiply) := goodIn_app (goodIn_of _ (by decide +kernel)) ggX4_askew_X1_multiply
set_option maxRecDepth 20000 in
theorem ggX4_askew_X1_subtract : GoodIn wsX4_askew wsX1_subtract := goodIn_r _ [145, 26, 27, 28, 29, 194, 195, 196, 197] (by decide +kernel) (by decide +kernel)
set_option maxRecDepth 20000 in
theorem gX4_askew_X1_subtract : GoodIn wsX4_askew (wsV RX4 247 RX1 yX1_subtract wsX1_subtract) := goodIn_app (goodIn_of _ (by decide +kernel)) ggX4_askew_X1_subtract
set_option maxRecDepth 20000 in
theorem ggX4_askew_X4_turnOfLeastMiss : GoodIn wsX4_askew wsX4_turnOfLeastMiss := goodIn_r _ [156, 157, 158, 18, 159, 160, 161, 162, 163, 164, 165, 166, 24, 167, 26, 27, 28, 82, 83, 84, 85, 86, 87, 88, 89, 90, 168, 169, 170, 171, 172, 173, 174, 29, 91, 92, 194, 195, 196, 197] (by decide +kernel) (by decide +kernel)
set_option maxRecDepth 20000 in
theorem gX4_askew_X4_turnOfLeastMiss : GoodIn wsX4_askew (va_wsS RX4 251 yX4_turnOfLeastMiss wsX4_turnOfLeastMiss) := goodIn_app (goodIn_of _ (by decide +kernel)) ggX4_askew_X4_turnOfLeastMiss
theorem dX4_askew_0 : decode cX4_askew 0 = .ok (.aload_n 0, 1) := by decide +kernel
theorem dX4_askew_1 : decode cX4_askew 1 = .ok (.getfield 18, 3) := by decide +kernel
theorem dX4_askew_4 : decode cX4_askew 4 = .ok (.iload_n 1, 1) := by decide +kernel
theorem dX4_askew_5 : decode cX4_askew 5 = .ok (.iload_n 2, 1) := by decide +kernel
theorem dX4_askew_6 : decode cX4_askew 6 = .ok (.invokevirtual 236, 3) := by decide +kernel
theorem dX4_askew_9 : decode cX4_askew 9 = .ok (.ifCond .eq 16, 3) := by decide +kernel
theorem dX4_askew_12 : decode cX4_askew 12 = .ok (.aload_n 0, 1) := by decide +kernel
theorem dX4_askew_13 : decode cX4_askew 13 = .ok (.getfield 18, 3) := by decide +kernel
theorem dX4_askew_16 : decode cX4_askew 16 = .ok (.iload_n 3, 1) := by decide +kernel
theorem dX4_askew_17 : decode cX4_askew 17 = .ok (.iload 4, 2) := by decide +kernel
theorem dX4_askew_19 : decode cX4_askew 19 = .ok (.invokevirtual 236, 3) := by decide +kernel
theorem dX4_askew_22 : decode cX4_askew 22 = .ok (.ifCond .ne 6, 3) := by decide +kernel
theorem dX4_askew_25 : decode cX4_askew 25 = .ok (.bipush (-2), 2) := by decide +kernel
theorem dX4_askew_27 : decode cX4_askew 27 = .ok (.ireturn, 1) := by decide +kernel
theorem dX4_askew_28 : decode cX4_askew 28 = .ok (.aload_n 0, 1) := by decide +kernel
theorem dX4_askew_29 : decode cX4_askew 29 = .ok (.aload_n 0, 1) := by decide +kernel
theorem dX4_askew_30 : decode cX4_askew 30 = .ok (.getfield 39, 3) := by decide +kernel
theorem dX4_askew_33 : decode cX4_askew 33 = .ok (.iload_n 1, 1) := by decide +kernel
theorem dX4_askew_34 : decode cX4_askew 34 = .ok (.iload_n 2, 1) := by decide +kernel
theorem dX4_askew_35 : decode cX4_askew 35 = .ok (.iconst 0, 1) := by decide +kernel
theorem dX4_askew_36 : decode cX4_askew 36 = .ok (.aload_n 0, 1) := by decide +kernel
theorem dX4_askew_37 : decode cX4_askew 37 = .ok (.getfield 45, 3) := by decide +kernel
theorem dX4_askew_40 : decode cX4_askew 40 = .ok (.iconst 1, 1) := by decide +kernel
theorem dX4_askew_41 : decode cX4_askew 41 = .ok (.isub, 1) := by decide +kernel
theorem dX4_askew_42 : decode cX4_askew 42 = .ok (.invokevirtual 226, 3) := by decide +kernel
theorem dX4_askew_45 : decode cX4_askew 45 = .ok (.istore 5, 2) := by decide +kernel
theorem dX4_askew_47 : decode cX4_askew 47 = .ok (.aload_n 0, 1) := by decide +kernel
theorem dX4_askew_48 : decode cX4_askew 48 = .ok (.aload_n 0, 1) := by decide +kernel
theorem dX4_askew_49 : decode cX4_askew 49 = .ok (.getfield 42, 3) := by decide +kernel
theorem dX4_askew_52 : decode cX4_askew 52 = .ok (.iload_n 3, 1) := by decide +kernel
theorem dX4_askew_53 : decode cX4_askew 53 = .ok (.iload 4, 2) := by decide +kernel
theorem dX4_askew_55 : decode cX4_askew 55 = .ok (.iconst 0, 1) := by decide +kernel
theorem dX4_askew_56 : decode cX4_askew 56 = .ok (.aload_n 0, 1) := by decide +kernel
theorem dX4_askew_57 : decode cX4_askew 57 = .ok (.getfield 45, 3) := by decide +kernel
theorem dX4_askew_60 : decode cX4_askew 60 = .ok (.iconst 1, 1) := by decide +kernel
theorem dX4_askew_61 : decode cX4_askew 61 = .ok (.isub, 1) := by decide +kernel
theorem dX4_askew_62 : decode cX4_askew 62 = .ok (.invokevirtual 226, 3) := by decide +kernel
theorem dX4_askew_65 : decode cX4_askew 65 = .ok (.istore 6, 2) := by decide +kernel
theorem dX4_askew_67 : decode cX4_askew 67 = .ok (.iload 5, 2) := by decide +kernel
theorem dX4_askew_69 : decode cX4_askew 69 = .ok (.ifCond .eq 8, 3) := by decide +kernel
theorem dX4_askew_72 : decode cX4_askew 72 = .ok (.iload 6, 2) := by decide +kernel
theorem dX4_askew_74 : decode cX4_askew 74 = .ok (.ifCond .ne 6, 3) := by decide +kernel
theorem dX4_askew_77 : decode cX4_askew 77 = .ok (.bipush (-3), 2) := by decide +kernel
theorem dX4_askew_79 : decode cX4_askew 79 = .ok (.ireturn, 1) := by decide +kernel
theorem dX4_askew_80 : decode cX4_askew 80 = .ok (.aload_n 0, 1) := by decide +kernel
theorem dX4_askew_81 : decode cX4_askew 81 = .ok (.getfield 39, 3) := by decide +kernel
theorem dX4_askew_84 : decode cX4_askew 84 = .ok (.iload 6, 2) := by decide +kernel
theorem dX4_askew_86 : decode cX4_askew 86 = .ok (.i2l, 1) := by decide +kernel
theorem dX4_askew_87 : decode cX4_askew 87 = .ok (.invokevirtual 243, 3) := by decide +kernel
theorem dX4_askew_90 : decode cX4_askew 90 = .ok (.aload_n 0, 1) := by decide +kernel
theorem dX4_askew_91 : decode cX4_askew 91 = .ok (.getfield 42, 3) := by decide +kernel
theorem dX4_askew_94 : decode cX4_askew 94 = .ok (.iload 5, 2) := by decide +kernel
theorem dX4_askew_96 : decode cX4_askew 96 = .ok (.i2l, 1) := by decide +kernel
theorem dX4_askew_97 : decode cX4_askew 97 = .ok (.invokevirtual 243, 3) := by decide +kernel
theorem dX4_askew_100 : decode cX4_askew 100 = .ok (.aload_n 0, 1) := by decide +kernel
theorem dX4_askew_101 : decode cX4_askew 101 = .ok (.getfield 39, 3) := by decide +kernel
theorem dX4_askew_104 : decode cX4_askew 104 = .ok (.aload_n 0, 1) := by decide +kernel
theorem dX4_askew_105 : decode cX4_askew 105 = .ok (.getfield 42, 3) := by decide +kernel
theorem dX4_askew_108 : decode cX4_askew 108 = .ok (.invokevirtual 247, 3) := by decide +kernel
theorem dX4_askew_111 : decode cX4_askew 111 = .ok (.aload_n 0, 1) := by decide +kernel
theorem dX4_askew_112 : decode cX4_askew 112 = .ok (.getfield 39, 3) := by decide +kernel
theorem dX4_askew_115 : decode cX4_askew 115 = .ok (.invokestatic 251, 3) := by decide +kernel
theorem dX4_askew_118 : decode cX4_askew 118 = .ok (.ireturn, 1) := by decide +kernel
set_option maxRecDepth 20000 in
theorem ggX4_closes_X3_isPing : GoodIn wsX4_closes wsX3_isPing := goodIn_r _ [7, 8, 46, 47, 48, 49, 50] (by decide +kernel) (by decide +kernel)
set_option maxRecDepth 20000 in
theorem gX4_closes_X3_isPing : GoodIn wsX4_closes (wsV RX4 140 RX3 yX3_isPing wsX3_isPing) := goodIn_app (goodIn_of _ (by decide +kernel)) ggX4_closes_X3_isPing
set_option maxRecDepth 20000 in
theorem ggX4_closes_X4_isWithin : GoodIn wsX4_closes wsX4_isWithin := goodIn_r _ [12] (by decide +kernel) (by decide +kernel)
set_option maxRecDepth 20000 in
theorem gX4_closes_X4_isWithin : GoodIn wsX4_closes (va_wsS RX4 120 yX4_isWithin wsX4_isWithin) := goodIn_app (goodIn_of _ (by decide +kernel)) ggX4_closes_X4_isWithin
set_option maxRecDepth 20000 in
theorem ggX4_closes_X3_areNear : GoodIn wsX4_closes wsX3_areNear := goodIn_r _ [16, 17, 18, 19, 20, 21, 22, 23, 6, 24, 25, 26, 4, 5, 7, 8, 27, 28, 29, 30, 31, 46, 47, 48, 49, 50] (by decide +kernel) (by decide +kernel)
set_option maxRecDepth 20000 in
theorem gX4_closes_X3_areNear : GoodIn wsX4_closes (wsV RX4 255 RX3 yX3_areNear wsX3_areNear) := goodIn_app (goodIn_of _ (by decide +kernel)) ggX4_closes_X3_areNear
theorem dX4_closes_0 : decode cX4_closes 0 = .ok (.aload_n 0, 1) := by decide +kernel
theorem dX4_closes_1 : decode cX4_closes 1 = .ok (.getfield 18, 3) := by decide +kernel
theorem dX4_closes_4 : decode cX4_closes 4 = .ok (.iload_n 1, 1) := by decide +kernel
theorem dX4_closes_5 : decode cX4_closes 5 = .ok (.invokevirtual 140, 3) := by decide +kernel
theorem dX4_closes_8 : decode cX4_closes 8 = .ok (.ifCond .eq 13, 3) := by decide +kernel
theorem dX4_closes_11 : decode cX4_closes 11 = .ok (.iload_n 2, 1) := by decide +kernel
theorem dX4_closes_12 : decode cX4_closes 12 = .ok (.iconst 0, 1) := by decide +kernel
theorem dX4_closes_13 : decode cX4_closes 13 = .ok (.ldc 194, 2) := by decide +kernel
theorem dX4_closes_15 : decode cX4_closes 15 = .ok (.invokestatic 120, 3) := by decide +kernel
theorem dX4_closes_18 : decode cX4_closes 18 = .ok (.ifCond .ne 6, 3) := by decide +kernel
theorem dX4_closes_21 : decode cX4_closes 21 = .ok (.bipush (-2), 2) := by decide +kernel
theorem dX4_closes_23 : decode cX4_closes 23 = .ok (.ireturn, 1) := by decide +kernel
theorem dX4_closes_24 : decode cX4_closes 24 = .ok (.iload_n 1, 1) := by decide +kernel
theorem dX4_closes_25 : decode cX4_closes 25 = .ok (.iconst 2, 1) := by decide +kernel
theorem dX4_closes_26 : decode cX4_closes 26 = .ok (.iadd, 1) := by decide +kernel
theorem dX4_closes_27 : decode cX4_closes 27 = .ok (.istore_n 3, 1) := by decide +kernel
theorem dX4_closes_28 : decode cX4_closes 28 = .ok (.iload_n 3, 1) := by decide +kernel
theorem dX4_closes_29 : decode cX4_closes 29 = .ok (.aload_n 0, 1) := by decide +kernel
theorem dX4_closes_30 : decode cX4_closes 30 = .ok (.getfield 18, 3) := by decide +kernel
theorem dX4_closes_33 : decode cX4_closes 33 = .ok (.getfield 124, 3) := by decide +kernel
theorem dX4_closes_36 : decode cX4_closes 36 = .ok (.if_icmp .ge 24, 3) := by decide +kernel
theorem dX4_closes_39 : decode cX4_closes 39 = .ok (.aload_n 0, 1) := by decide +kernel
theorem dX4_closes_40 : decode cX4_closes 40 = .ok (.getfield 18, 3) := by decide +kernel
theorem dX4_closes_43 : decode cX4_closes 43 = .ok (.iload_n 1, 1) := by decide +kernel
theorem dX4_closes_44 : decode cX4_closes 44 = .ok (.iload_n 3, 1) := by decide +kernel
theorem dX4_closes_45 : decode cX4_closes 45 = .ok (.iload_n 2, 1) := by decide +kernel
theorem dX4_closes_46 : decode cX4_closes 46 = .ok (.invokevirtual 255, 3) := by decide +kernel
theorem dX4_closes_49 : decode cX4_closes 49 = .ok (.ifCond .eq 5, 3) := by decide +kernel
theorem dX4_closes_52 : decode cX4_closes 52 = .ok (.iload_n 3, 1) := by decide +kernel
theorem dX4_closes_53 : decode cX4_closes 53 = .ok (.ireturn, 1) := by decide +kernel
theorem dX4_closes_54 : decode cX4_closes 54 = .ok (.iinc 3 1, 3) := by decide +kernel
theorem dX4_closes_57 : decode cX4_closes 57 = .ok (.goto (-29), 3) := by decide +kernel
theorem dX4_closes_60 : decode cX4_closes 60 = .ok (.iconst (-1), 1) := by decide +kernel
theorem dX4_closes_61 : decode cX4_closes 61 = .ok (.ireturn, 1) := by decide +kernel
set_option maxRecDepth 20000 in
theorem ggX4_count_X4_asNumber : GoodIn wsX4_count wsX4_asNumber := goodIn_r _ [12] (by decide +kernel) (by decide +kernel)
set_option maxRecDepth 20000 in
theorem gX4_count_X4_asNumber : GoodIn wsX4_count (va_wsS RX4 158 yX4_asNumber wsX4_asNumber) := goodIn_app (goodIn_of _ (by decide +kernel)) ggX4_count_X4_asNumber
theorem dX4_count_0 : decode cX4_count 0 = .ok (.iload_n 1, 1) := by decide +kernel
theorem dX4_count_1 : decode cX4_count 1 = .ok (.tableswitch 93 0 7 #[47, 55, 60, 65, 70, 75, 80, 85], 47) := by decide +kernel
theorem dX4_count_48 : decode cX4_count 48 = .ok (.aload_n 0, 1) := by decide +kernel
theorem dX4_count_49 : decode cX4_count 49 = .ok (.getfield 18, 3) := by decide +kernel
theorem dX4_count_52 : decode cX4_count 52 = .ok (.getfield 124, 3) := by decide +kernel
theorem dX4_count_55 : decode cX4_count 55 = .ok (.ireturn, 1) := by decide +kernel
theorem dX4_count_56 : decode cX4_count 56 = .ok (.aload_n 0, 1) := by decide +kernel
theorem dX4_count_57 : decode cX4_count 57 = .ok (.getfield 45, 3) := by decide +kernel
theorem dX4_count_60 : decode cX4_count 60 = .ok (.ireturn, 1) := by decide +kernel
theorem dX4_count_61 : decode cX4_count 61 = .ok (.aload_n 0, 1) := by decide +kernel
theorem dX4_count_62 : decode cX4_count 62 = .ok (.getfield 49, 3) := by decide +kernel
theorem dX4_count_65 : decode cX4_count 65 = .ok (.ireturn, 1) := by decide +kernel
theorem dX4_count_66 : decode cX4_count 66 = .ok (.aload_n 0, 1) := by decide +kernel
theorem dX4_count_67 : decode cX4_count 67 = .ok (.getfield 52, 3) := by decide +kernel
theorem dX4_count_70 : decode cX4_count 70 = .ok (.ireturn, 1) := by decide +kernel
theorem dX4_count_71 : decode cX4_count 71 = .ok (.aload_n 0, 1) := by decide +kernel
theorem dX4_count_72 : decode cX4_count 72 = .ok (.getfield 55, 3) := by decide +kernel
theorem dX4_count_75 : decode cX4_count 75 = .ok (.ireturn, 1) := by decide +kernel
theorem dX4_count_76 : decode cX4_count 76 = .ok (.aload_n 0, 1) := by decide +kernel
theorem dX4_count_77 : decode cX4_count 77 = .ok (.getfield 65, 3) := by decide +kernel
theorem dX4_count_80 : decode cX4_count 80 = .ok (.ireturn, 1) := by decide +kernel
theorem dX4_count_81 : decode cX4_count 81 = .ok (.aload_n 0, 1) := by decide +kernel
theorem dX4_count_82 : decode cX4_count 82 = .ok (.getfield 62, 3) := by decide +kernel
theorem dX4_count_85 : decode cX4_count 85 = .ok (.ireturn, 1) := by decide +kernel
theorem dX4_count_86 : decode cX4_count 86 = .ok (.aload_n 0, 1) := by decide +kernel
theorem dX4_count_87 : decode cX4_count 87 = .ok (.getfield 58, 3) := by decide +kernel
theorem dX4_count_90 : decode cX4_count 90 = .ok (.invokestatic 158, 3) := by decide +kernel
theorem dX4_count_93 : decode cX4_count 93 = .ok (.ireturn, 1) := by decide +kernel
theorem dX4_count_94 : decode cX4_count 94 = .ok (.bipush (-2), 2) := by decide +kernel
theorem dX4_count_96 : decode cX4_count 96 = .ok (.ireturn, 1) := by decide +kernel
set_option maxRecDepth 20000 in
theorem ggX4_digest_X4_count : GoodIn wsX4_digest wsX4_count := goodIn_r _ [8, 3, 9, 10, 11, 12, 13, 14, 15, 16, 17, 7, 18, 164, 165, 166, 167, 168, 169, 170, 171, 172, 173, 174, 175, 176, 177, 178, 179, 180, 181, 182] (by decide +kernel) (by decide +kernel)
set_option maxRecDepth 20000 in
theorem gX4_digest_X4_count : GoodIn wsX4_digest (wsV RX4 262 RX4 yX4_count wsX4_count) := goodIn_app (goodIn_of _ (by decide +kernel)) ggX4_digest_X4_count
set_option maxRecDepth 20000 in
theorem ggX4_digest_X4_digestOfPing : GoodIn wsX4_digest wsX4_digestOfPing := goodIn_r _ [22, 2, 9, 23, 11, 24, 25, 26, 7, 27, 3, 28, 29, 30, 31, 32, 33, 34, 35, 36, 37, 38, 39, 40, 41, 42, 43, 44, 45, 46, 47, 48, 49, 50, 51, 52, 53, 54, 55, 56, 57, 58, 59, 60, 10, 61, 62, 63, 64, 65, 66, 67, 68, 69, 70, 71, 72, 73, 74, 75, 76, 77, 78, 79, 80, 81, 82, 83, 84, 85, 86, 87, 88, 89, 90, 91, 92, 93, 94, 95, 96, 97, 98, 99, 100, 101, 102, 103, 104, 17, 18, 105, 106, 107, 108, 109, 110, 111, 112, 113, 114, 115, 116, 117, 118, 119, 120, 121, 122, 123, 124, 125, 126, 127, 128, 129, 130, 131, 132, 133, 16, 134, 135, 136, 137, 12, 15, 14, 138, 139, 140, 141, 142, 143, 144, 145, 146, 147, 148, 149, 150, 151, 152, 153, 154, 155, 156, 157, 158, 159, 160, 161, 162, 163, 164, 165, 166, 167, 168, 169, 170, 171, 172, 173, 174, 175, 176, 177, 178, 179, 180, 181, 182, 183, 184, 185, 186, 187, 188, 189, 190, 191, 192, 193, 194] (by decide +kernel) (by decide +kernel)
set_option maxRecDepth 20000 in
theorem gX4_digest_X4_digestOfPing : GoodIn wsX4_digest (wsV RX4 265 RX4 yX4_digestOfPing wsX4_digestOfPing) := goodIn_app (goodIn_of _ (by decide +kernel)) ggX4_digest_X4_digestOfPing
theorem dX4_digest_0 : decode cX4_digest 0 = .ok (.ldc2_w 258, 3) := by decide +kernel
theorem dX4_digest_3 : decode cX4_digest 3 = .ok (.lstore_n 1, 1) := by decide +kernel
theorem dX4_digest_4 : decode cX4_digest 4 = .ok (.iconst 0, 1) := by decide +kernel
theorem dX4_digest_5 : decode cX4_digest 5 = .ok (.istore_n 3, 1) := by decide +kernel
theorem dX4_digest_6 : decode cX4_digest 6 = .ok (.iload_n 3, 1) := by decide +kernel
theorem dX4_digest_7 : decode cX4_digest 7 = .ok (.iconst 4, 1) := by decide +kernel
theorem dX4_digest_8 : decode cX4_digest 8 = .ok (.if_icmp .gt 22, 3) := by decide +kernel
theorem dX4_digest_11 : decode cX4_digest 11 = .ok (.ldc2_w 260, 3) := by decide +kernel
theorem dX4_digest_14 : decode cX4_digest 14 = .ok (.lload_n 1, 1) := by decide +kernel
theorem dX4_digest_15 : decode cX4_digest 15 = .ok (.lmul, 1) := by decide +kernel
theorem dX4_digest_16 : decode cX4_digest 16 = .ok (.aload_n 0, 1) := by decide +kernel
theorem dX4_digest_17 : decode cX4_digest 17 = .ok (.iload_n 3, 1) := by decide +kernel
theorem dX4_digest_18 : decode cX4_digest 18 = .ok (.invokevirtual 262, 3) := by decide +kernel
theorem dX4_digest_21 : decode cX4_digest 21 = .ok (.i2l, 1) := by decide +kernel
theorem dX4_digest_22 : decode cX4_digest 22 = .ok (.ladd, 1) := by decide +kernel
theorem dX4_digest_23 : decode cX4_digest 23 = .ok (.lstore_n 1, 1) := by decide +kernel
theorem dX4_digest_24 : decode cX4_digest 24 = .ok (.iinc 3 1, 3) := by decide +kernel
theorem dX4_digest_27 : decode cX4_digest 27 = .ok (.goto (-21), 3) := by decide +kernel
theorem dX4_digest_30 : decode cX4_digest 30 = .ok (.ldc2_w 260, 3) := by decide +kernel
theorem dX4_digest_33 : decode cX4_digest 33 = .ok (.lload_n 1, 1) := by decide +kernel
theorem dX4_digest_34 : decode cX4_digest 34 = .ok (.lmul, 1) := by decide +kernel
theorem dX4_digest_35 : decode cX4_digest 35 = .ok (.aload_n 0, 1) := by decide +kernel
theorem dX4_digest_36 : decode cX4_digest 36 = .ok (.bipush 6, 2) := by decide +kernel
theorem dX4_digest_38 : decode cX4_digest 38 = .ok (.invokevirtual 262, 3) := by decide +kernel
theorem dX4_digest_41 : decode cX4_digest 41 = .ok (.i2l, 1) := by decide +kernel
theorem dX4_digest_42 : decode cX4_digest 42 = .ok (.ladd, 1) := by decide +kernel
theorem dX4_digest_43 : decode cX4_digest 43 = .ok (.lstore_n 1, 1) := by decide +kernel
theorem dX4_digest_44 : decode cX4_digest 44 = .ok (.ldc2_w 260, 3) := by decide +kernel
theorem dX4_digest_47 : decode cX4_digest 47 = .ok (.lload_n 1, 1) := by decide +kernel
theorem dX4_digest_48 : decode cX4_digest 48 = .ok (.lmul, 1) := by decide +kernel
theorem dX4_digest_49 : decode cX4_digest 49 = .ok (.aload_n 0, 1) := by decide +kernel
theorem dX4_digest_50 : decode cX4_digest 50 = .ok (.bipush 7, 2) := by decide +kernel
theorem dX4_digest_52 : decode cX4_digest 52 = .ok (.invokevirtual 262, 3) := by decide +kernel
theorem dX4_digest_55 : decode cX4_digest 55 = .ok (.i2l, 1) := by decide +kernel
theorem dX4_digest_56 : decode cX4_digest 56 = .ok (.ladd, 1) := by decide +kernel
theorem dX4_digest_57 : decode cX4_digest 57 = .ok (.lstore_n 1, 1) := by decide +kernel
theorem dX4_digest_58 : decode cX4_digest 58 = .ok (.iconst 0, 1) := by decide +kernel
theorem dX4_digest_59 : decode cX4_digest 59 = .ok (.istore_n 3, 1) := by decide +kernel
theorem dX4_digest_60 : decode cX4_digest 60 = .ok (.iload_n 3, 1) := by decide +kernel
theorem dX4_digest_61 : decode cX4_digest 61 = .ok (.aload_n 0, 1) := by decide +kernel
theorem dX4_digest_62 : decode cX4_digest 62 = .ok (.getfield 18, 3) := by decide +kernel
theorem dX4_digest_65 : decode cX4_digest 65 = .ok (.getfield 124, 3) := by decide +kernel
theorem dX4_digest_68 : decode cX4_digest 68 = .ok (.if_icmp .ge 16, 3) := by decide +kernel
theorem dX4_digest_71 : decode cX4_digest 71 = .ok (.aload_n 0, 1) := by decide +kernel
theorem dX4_digest_72 : decode cX4_digest 72 = .ok (.lload_n 1, 1) := by decide +kernel
theorem dX4_digest_73 : decode cX4_digest 73 = .ok (.iload_n 3, 1) := by decide +kernel
theorem dX4_digest_74 : decode cX4_digest 74 = .ok (.invokevirtual 265, 3) := by decide +kernel
theorem dX4_digest_77 : decode cX4_digest 77 = .ok (.lstore_n 1, 1) := by decide +kernel
theorem dX4_digest_78 : decode cX4_digest 78 = .ok (.iinc 3 1, 3) := by decide +kernel
theorem dX4_digest_81 : decode cX4_digest 81 = .ok (.goto (-21), 3) := by decide +kernel
theorem dX4_digest_84 : decode cX4_digest 84 = .ok (.lload_n 1, 1) := by decide +kernel
theorem dX4_digest_85 : decode cX4_digest 85 = .ok (.lreturn, 1) := by decide +kernel
theorem dX4_isWithin_0 : decode cX4_isWithin 0 = .ok (.iload_n 0, 1) := by decide +kernel
theorem dX4_isWithin_1 : decode cX4_isWithin 1 = .ok (.iload_n 1, 1) := by decide +kernel
theorem dX4_isWithin_2 : decode cX4_isWithin 2 = .ok (.if_icmp .lt 12, 3) := by decide +kernel
theorem dX4_isWithin_5 : decode cX4_isWithin 5 = .ok (.iload_n 0, 1) := by decide +kernel
theorem dX4_isWithin_6 : decode cX4_isWithin 6 = .ok (.iload_n 2, 1) := by decide +kernel
theorem dX4_isWithin_7 : decode cX4_isWithin 7 = .ok (.if_icmp .gt 7, 3) := by decide +kernel
theorem dX4_isWithin_10 : decode cX4_isWithin 10 = .ok (.iconst 1, 1) := by decide +kernel
theorem dX4_isWithin_11 : decode cX4_isWithin 11 = .ok (.goto 4, 3) := by decide +kernel
theorem dX4_isWithin_14 : decode cX4_isWithin 14 = .ok (.iconst 0, 1) := by decide +kernel
theorem dX4_isWithin_15 : decode cX4_isWithin 15 = .ok (.ireturn, 1) := by decide +kernel
theorem dX4_isReel_0 : decode cX4_isReel 0 = .ok (.iload_n 1, 1) := by decide +kernel
theorem dX4_isReel_1 : decode cX4_isReel 1 = .ok (.ifCond .lt 16, 3) := by decide +kernel
theorem dX4_isReel_4 : decode cX4_isReel 4 = .ok (.iload_n 1, 1) := by decide +kernel
theorem dX4_isReel_5 : decode cX4_isReel 5 = .ok (.aload_n 0, 1) := by decide +kernel
theorem dX4_isReel_6 : decode cX4_isReel 6 = .ok (.getfield 11, 3) := by decide +kernel
theorem dX4_isReel_9 : decode cX4_isReel 9 = .ok (.arraylength, 1) := by decide +kernel
theorem dX4_isReel_10 : decode cX4_isReel 10 = .ok (.if_icmp .ge 7, 3) := by decide +kernel
theorem dX4_isReel_13 : decode cX4_isReel 13 = .ok (.iconst 1, 1) := by decide +kernel
theorem dX4_isReel_14 : decode cX4_isReel 14 = .ok (.goto 4, 3) := by decide +kernel
theorem dX4_isReel_17 : decode cX4_isReel 17 = .ok (.iconst 0, 1) := by decide +kernel
theorem dX4_isReel_18 : decode cX4_isReel 18 = .ok (.ireturn, 1) := by decide +kernel
set_option maxRecDepth 20000 in
theorem ggX4_isForm_X4_isWithin : GoodIn wsX4_isForm wsX4_isWithin := goodIn_r _ [4] (by decide +kernel) (by decide +kernel)
set_option maxRecDepth 20000 in
theorem gX4_isForm_X4_isWithin : GoodIn wsX4_isForm (va_wsS RX4 120 yX4_isWithin wsX4_isWithin) := goodIn_app (goodIn_of _ (by decide +kernel)) ggX4_isForm_X4_isWithin
theorem dX4_isForm_0 : decode cX4_isForm 0 = .ok (.iload_n 0, 1) := by decide +kernel
theorem dX4_isForm_1 : decode cX4_isForm 1 = .ok (.iconst 0, 1) := by decide +kernel
theorem dX4_isForm_2 : decode cX4_isForm 2 = .ok (.iconst 2, 1) := by decide +kernel
theorem dX4_isForm_3 : decode cX4_isForm 3 = .ok (.invokestatic 120, 3) := by decide +kernel
theorem dX4_isForm_6 : decode cX4_isForm 6 = .ok (.ireturn, 1) := by decide +kernel
set_option maxRecDepth 20000 in
theorem ggX4_isTurn_X4_isWithin : GoodIn wsX4_isTurn wsX4_isWithin := goodIn_r _ [4] (by decide +kernel) (by decide +kernel)
set_option maxRecDepth 20000 in
theorem gX4_isTurn_X4_isWithin : GoodIn wsX4_isTurn (va_wsS RX4 120 yX4_isWithin wsX4_isWithin) := goodIn_app (goodIn_of _ (by decide +kernel)) ggX4_isTurn_X4_isWithin
theorem dX4_isTurn_0 : decode cX4_isTurn 0 = .ok (.iload_n 0, 1) := by decide +kernel
theorem dX4_isTurn_1 : decode cX4_isTurn 1 = .ok (.iconst 0, 1) := by decide +kernel
theorem dX4_isTurn_2 : decode cX4_isTurn 2 = .ok (.bipush 35, 2) := by decide +kernel
theorem dX4_isTurn_4 : decode cX4_isTurn 4 = .ok (.invokestatic 120, 3) := by decide +kernel
theorem dX4_isTurn_7 : decode cX4_isTurn 7 = .ok (.ireturn, 1) := by decide +kernel
set_option maxRecDepth 20000 in
theorem ggX4_isPlace_X4_isWithin : GoodIn wsX4_isPlace wsX4_isWithin := goodIn_r _ [6] (by decide +kernel) (by decide +kernel)
set_option maxRecDepth 20000 in
theorem gX4_isPlace_X4_isWithin : GoodIn wsX4_isPlace (va_wsS RX4 120 yX4_isWithin wsX4_isWithin) := goodIn_app (goodIn_of _ (by decide +kernel)) ggX4_isPlace_X4_isWithin
theorem dX4_isPlace_0 : decode cX4_isPlace 0 = .ok (.iload_n 0, 1) := by decide +kernel
theorem dX4_isPlace_1 : decode cX4_isPlace 1 = .ok (.ldc 193, 2) := by decide +kernel
theorem dX4_isPlace_3 : decode cX4_isPlace 3 = .ok (.ldc 194, 2) := by decide +kernel
theorem dX4_isPlace_5 : decode cX4_isPlace 5 = .ok (.invokestatic 120, 3) := by decide +kernel
theorem dX4_isPlace_8 : decode cX4_isPlace 8 = .ok (.ireturn, 1) := by decide +kernel
set_option maxRecDepth 20000 in
theorem ggX4_isPart_X4_isWithin : GoodIn wsX4_isPart wsX4_isWithin := goodIn_r _ [4] (by decide +kernel) (by decide +kernel)
set_option maxRecDepth 20000 in
theorem gX4_isPart_X4_isWithin : GoodIn wsX4_isPart (va_wsS RX4 120 yX4_isWithin wsX4_isWithin) := goodIn_app (goodIn_of _ (by decide +kernel)) ggX4_isPart_X4_isWithin
theorem dX4_isPart_0 : decode cX4_isPart 0 = .ok (.iload_n 0, 1) := by decide +kernel
theorem dX4_isPart_1 : decode cX4_isPart 1 = .ok (.sipush (-20000), 3) := by decide +kernel
theorem dX4_isPart_4 : decode cX4_isPart 4 = .ok (.sipush 20000, 3) := by decide +kernel
theorem dX4_isPart_7 : decode cX4_isPart 7 = .ok (.invokestatic 120, 3) := by decide +kernel
theorem dX4_isPart_10 : decode cX4_isPart 10 = .ok (.ireturn, 1) := by decide +kernel
set_option maxRecDepth 20000 in
theorem ggX4_isCell_X4_isWithin : GoodIn wsX4_isCell wsX4_isWithin := goodIn_r _ [5] (by decide +kernel) (by decide +kernel)
set_option maxRecDepth 20000 in
theorem gX4_isCell_X4_isWithin : GoodIn wsX4_isCell (va_wsS RX4 120 yX4_isWithin wsX4_isWithin) := goodIn_app (goodIn_of _ (by decide +kernel)) ggX4_isCell_X4_isWithin
theorem dX4_isCell_0 : decode cX4_isCell 0 = .ok (.iload_n 1, 1) := by decide +kernel
theorem dX4_isCell_1 : decode cX4_isCell 1 = .ok (.iconst 0, 1) := by decide +kernel
theorem dX4_isCell_2 : decode cX4_isCell 2 = .ok (.aload_n 0, 1) := by decide +kernel
theorem dX4_isCell_3 : decode cX4_isCell 3 = .ok (.getfield 45, 3) := by decide +kernel
theorem dX4_isCell_6 : decode cX4_isCell 6 = .ok (.iconst 1, 1) := by decide +kernel
theorem dX4_isCell_7 : decode cX4_isCell 7 = .ok (.isub, 1) := by decide +kernel
theorem dX4_isCell_8 : decode cX4_isCell 8 = .ok (.invokestatic 120, 3) := by decide +kernel
theorem dX4_isCell_11 : decode cX4_isCell 11 = .ok (.ireturn, 1) := by decide +kernel
set_option maxRecDepth 20000 in
theorem ggX4_isBox_X3_isSpan : GoodIn wsX4_isBox wsX3_isSpan := goodIn_r _ [6, 7, 8, 9, 5, 10, 11, 35, 36, 37, 38, 39] (by decide +kernel) (by decide +kernel)
set_option maxRecDepth 20000 in
theorem gX4_isBox_X3_isSpan : GoodIn wsX4_isBox (wsV RX4 236 RX3 yX3_isSpan wsX3_isSpan) := goodIn_app (goodIn_of _ (by decide +kernel)) ggX4_isBox_X3_isSpan
set_option maxRecDepth 20000 in
theorem ggX4_isBox_X4_isCell : GoodIn wsX4_isBox wsX4_isCell := goodIn_r _ [16, 17, 18, 19, 15, 20, 21, 22, 23, 24, 25, 26, 27, 28, 29, 30, 31, 32, 33, 34] (by decide +kernel) (by decide +kernel)
set_option maxRecDepth 20000 in
theorem gX4_isBox_X4_isCell : GoodIn wsX4_isBox (wsV RX4 202 RX4 yX4_isCell wsX4_isCell) := goodIn_app (goodIn_of _ (by decide +kernel)) ggX4_isBox_X4_isCell
theorem dX4_isBox_0 : decode cX4_isBox 0 = .ok (.aload_n 0, 1) := by decide +kernel
theorem dX4_isBox_1 : decode cX4_isBox 1 = .ok (.getfield 18, 3) := by decide +kernel
theorem dX4_isBox_4 : decode cX4_isBox 4 = .ok (.iload_n 1, 1) := by decide +kernel
theorem dX4_isBox_5 : decode cX4_isBox 5 = .ok (.iload_n 2, 1) := by decide +kernel
theorem dX4_isBox_6 : decode cX4_isBox 6 = .ok (.invokevirtual 236, 3) := by decide +kernel
theorem dX4_isBox_9 : decode cX4_isBox 9 = .ok (.ifCond .eq 30, 3) := by decide +kernel
theorem dX4_isBox_12 : decode cX4_isBox 12 = .ok (.aload_n 0, 1) := by decide +kernel
theorem dX4_isBox_13 : decode cX4_isBox 13 = .ok (.iload_n 3, 1) := by decide +kernel
theorem dX4_isBox_14 : decode cX4_isBox 14 = .ok (.invokevirtual 202, 3) := by decide +kernel
theorem dX4_isBox_17 : decode cX4_isBox 17 = .ok (.ifCond .eq 22, 3) := by decide +kernel
theorem dX4_isBox_20 : decode cX4_isBox 20 = .ok (.aload_n 0, 1) := by decide +kernel
theorem dX4_isBox_21 : decode cX4_isBox 21 = .ok (.iload 4, 2) := by decide +kernel
theorem dX4_isBox_23 : decode cX4_isBox 23 = .ok (.invokevirtual 202, 3) := by decide +kernel
theorem dX4_isBox_26 : decode cX4_isBox 26 = .ok (.ifCond .eq 13, 3) := by decide +kernel
theorem dX4_isBox_29 : decode cX4_isBox 29 = .ok (.iload_n 3, 1) := by decide +kernel
theorem dX4_isBox_30 : decode cX4_isBox 30 = .ok (.iload 4, 2) := by decide +kernel
theorem dX4_isBox_32 : decode cX4_isBox 32 = .ok (.if_icmp .gt 7, 3) := by decide +kernel
theorem dX4_isBox_35 : decode cX4_isBox 35 = .ok (.iconst 1, 1) := by decide +kernel
theorem dX4_isBox_36 : decode cX4_isBox 36 = .ok (.goto 4, 3) := by decide +kernel
theorem dX4_isBox_39 : decode cX4_isBox 39 = .ok (.iconst 0, 1) := by decide +kernel
theorem dX4_isBox_40 : decode cX4_isBox 40 = .ok (.ireturn, 1) := by decide +kernel
theorem dX4_found_0 : decode cX4_found 0 = .ok (.aload_n 0, 1) := by decide +kernel
theorem dX4_found_1 : decode cX4_found 1 = .ok (.iload_n 1, 1) := by decide +kernel
theorem dX4_found_2 : decode cX4_found 2 = .ok (.putfield 65, 3) := by decide +kernel
theorem dX4_found_5 : decode cX4_found 5 = .ok (.bipush (-10), 2) := by decide +kernel
theorem dX4_found_7 : decode cX4_found 7 = .ok (.iload_n 1, 1) := by decide +kernel
theorem dX4_found_8 : decode cX4_found 8 = .ok (.isub, 1) := by decide +kernel
theorem dX4_found_9 : decode cX4_found 9 = .ok (.ireturn, 1) := by decide +kernel
theorem dX4_asLong_0 : decode cX4_asLong 0 = .ok (.ldc2_w 269, 3) := by decide +kernel
theorem dX4_asLong_3 : decode cX4_asLong 3 = .ok (.iload_n 0, 1) := by decide +kernel
theorem dX4_asLong_4 : decode cX4_asLong 4 = .ok (.i2l, 1) := by decide +kernel
theorem dX4_asLong_5 : decode cX4_asLong 5 = .ok (.lsub, 1) := by decide +kernel
theorem dX4_asLong_6 : decode cX4_asLong 6 = .ok (.lreturn, 1) := by decide +kernel
theorem dX4_asNumber_0 : decode cX4_asNumber 0 = .ok (.iload_n 0, 1) := by decide +kernel
theorem dX4_asNumber_1 : decode cX4_asNumber 1 = .ok (.ifCond .eq 7, 3) := by decide +kernel
theorem dX4_asNumber_4 : decode cX4_asNumber 4 = .ok (.iconst 1, 1) := by decide +kernel
theorem dX4_asNumber_5 : decode cX4_asNumber 5 = .ok (.goto 4, 3) := by decide +kernel
theorem dX4_asNumber_8 : decode cX4_asNumber 8 = .ok (.iconst 0, 1) := by decide +kernel
theorem dX4_asNumber_9 : decode cX4_asNumber 9 = .ok (.ireturn, 1) := by decide +kernel
theorem dX4_cOf_0 : decode cX4_cOf 0 = .ok (.iload_n 0, 1) := by decide +kernel
theorem dX4_cOf_1 : decode cX4_cOf 1 = .ok (.ifCond .lt 18, 3) := by decide +kernel
theorem dX4_cOf_4 : decode cX4_cOf 4 = .ok (.iload_n 0, 1) := by decide +kernel
theorem dX4_cOf_5 : decode cX4_cOf 5 = .ok (.bipush 36, 2) := by decide +kernel
theorem dX4_cOf_7 : decode cX4_cOf 7 = .ok (.if_icmp .ge 12, 3) := by decide +kernel
theorem dX4_cOf_10 : decode cX4_cOf 10 = .ok (.getstatic 271, 3) := by decide +kernel
theorem dX4_cOf_13 : decode cX4_cOf 13 = .ok (.iload_n 0, 1) := by decide +kernel
theorem dX4_cOf_14 : decode cX4_cOf 14 = .ok (.iaload, 1) := by decide +kernel
theorem dX4_cOf_15 : decode cX4_cOf 15 = .ok (.i2l, 1) := by decide +kernel
theorem dX4_cOf_16 : decode cX4_cOf 16 = .ok (.goto 4, 3) := by decide +kernel
theorem dX4_cOf_19 : decode cX4_cOf 19 = .ok (.lconst 0, 1) := by decide +kernel
theorem dX4_cOf_20 : decode cX4_cOf 20 = .ok (.lreturn, 1) := by decide +kernel
theorem dX4_sOf_0 : decode cX4_sOf 0 = .ok (.iload_n 0, 1) := by decide +kernel
theorem dX4_sOf_1 : decode cX4_sOf 1 = .ok (.ifCond .lt 24, 3) := by decide +kernel
theorem dX4_sOf_4 : decode cX4_sOf 4 = .ok (.iload_n 0, 1) := by decide +kernel
theorem dX4_sOf_5 : decode cX4_sOf 5 = .ok (.bipush 36, 2) := by decide +kernel
theorem dX4_sOf_7 : decode cX4_sOf 7 = .ok (.if_icmp .ge 18, 3) := by decide +kernel
theorem dX4_sOf_10 : decode cX4_sOf 10 = .ok (.getstatic 271, 3) := by decide +kernel
theorem dX4_sOf_13 : decode cX4_sOf 13 = .ok (.iload_n 0, 1) := by decide +kernel
theorem dX4_sOf_14 : decode cX4_sOf 14 = .ok (.bipush 27, 2) := by decide +kernel
theorem dX4_sOf_16 : decode cX4_sOf 16 = .ok (.iadd, 1) := by decide +kernel
theorem dX4_sOf_17 : decode cX4_sOf 17 = .ok (.bipush 36, 2) := by decide +kernel
theorem dX4_sOf_19 : decode cX4_sOf 19 = .ok (.irem, 1) := by decide +kernel
theorem dX4_sOf_20 : decode cX4_sOf 20 = .ok (.iaload, 1) := by decide +kernel
theorem dX4_sOf_21 : decode cX4_sOf 21 = .ok (.i2l, 1) := by decide +kernel
theorem dX4_sOf_22 : decode cX4_sOf 22 = .ok (.goto 4, 3) := by decide +kernel
theorem dX4_sOf_25 : decode cX4_sOf 25 = .ok (.lconst 0, 1) := by decide +kernel
theorem dX4_sOf_26 : decode cX4_sOf 26 = .ok (.lreturn, 1) := by decide +kernel
set_option maxRecDepth 20000 in
theorem ggX4_xTurned_X4_cOf : GoodIn wsX4_xTurned wsX4_cOf := goodIn_r _ [4, 5] (by decide +kernel) (by decide +kernel)
set_option maxRecDepth 20000 in
theorem gX4_xTurned_X4_cOf : GoodIn wsX4_xTurned (va_wsS RX4 274 yX4_cOf wsX4_cOf) := goodIn_app (goodIn_of _ (by decide +kernel)) ggX4_xTurned_X4_cOf
set_option maxRecDepth 20000 in
theorem ggX4_xTurned_X4_sOf : GoodIn wsX4_xTurned wsX4_sOf := goodIn_r _ [8, 5] (by decide +kernel) (by decide +kernel)
set_option maxRecDepth 20000 in
theorem gX4_xTurned_X4_sOf : GoodIn wsX4_xTurned (va_wsS RX4 277 yX4_sOf wsX4_sOf) := goodIn_app (goodIn_of _ (by decide +kernel)) ggX4_xTurned_X4_sOf
theorem dX4_xTurned_0 : decode cX4_xTurned 0 = .ok (.iload 4, 2) := by decide +kernel
theorem dX4_xTurned_2 : decode cX4_xTurned 2 = .ok (.invokestatic 274, 3) := by decide +kernel
theorem dX4_xTurned_5 : decode cX4_xTurned 5 = .ok (.lload_n 0, 1) := by decide +kernel
theorem dX4_xTurned_6 : decode cX4_xTurned 6 = .ok (.lmul, 1) := by decide +kernel
theorem dX4_xTurned_7 : decode cX4_xTurned 7 = .ok (.iload 4, 2) := by decide +kernel
theorem dX4_xTurned_9 : decode cX4_xTurned 9 = .ok (.invokestatic 277, 3) := by decide +kernel
theorem dX4_xTurned_12 : decode cX4_xTurned 12 = .ok (.lload_n 2, 1) := by decide +kernel
theorem dX4_xTurned_13 : decode cX4_xTurned 13 = .ok (.lmul, 1) := by decide +kernel
theorem dX4_xTurned_14 : decode cX4_xTurned 14 = .ok (.lsub, 1) := by decide +kernel
theorem dX4_xTurned_15 : decode cX4_xTurned 15 = .ok (.lreturn, 1) := by decide +kernel
set_option maxRecDepth 20000 in
theorem ggX4_yTurned_X4_sOf : GoodIn wsX4_yTurned wsX4_sOf := goodIn_r _ [4, 5] (by decide +kernel) (by decide +kernel)
set_option maxRecDepth 20000 in
theorem gX4_yTurned_X4_sOf : GoodIn wsX4_yTurned (va_wsS RX4 277 yX4_sOf wsX4_sOf) := goodIn_app (goodIn_of _ (by decide +kernel)) ggX4_yTurned_X4_sOf
set_option maxRecDepth 20000 in
theorem ggX4_yTurned_X4_cOf : GoodIn wsX4_yTurned wsX4_cOf := goodIn_r _ [8, 5] (by decide +kernel) (by decide +kernel)
set_option maxRecDepth 20000 in
theorem gX4_yTurned_X4_cOf : GoodIn wsX4_yTurned (va_wsS RX4 274 yX4_cOf wsX4_cOf) := goodIn_app (goodIn_of _ (by decide +kernel)) ggX4_yTurned_X4_cOf
theorem dX4_yTurned_0 : decode cX4_yTurned 0 = .ok (.iload 4, 2) := by decide +kernel
theorem dX4_yTurned_2 : decode cX4_yTurned 2 = .ok (.invokestatic 277, 3) := by decide +kernel
theorem dX4_yTurned_5 : decode cX4_yTurned 5 = .ok (.lload_n 0, 1) := by decide +kernel
theorem dX4_yTurned_6 : decode cX4_yTurned 6 = .ok (.lmul, 1) := by decide +kernel
theorem dX4_yTurned_7 : decode cX4_yTurned 7 = .ok (.iload 4, 2) := by decide +kernel
theorem dX4_yTurned_9 : decode cX4_yTurned 9 = .ok (.invokestatic 274, 3) := by decide +kernel
theorem dX4_yTurned_12 : decode cX4_yTurned 12 = .ok (.lload_n 2, 1) := by decide +kernel
theorem dX4_yTurned_13 : decode cX4_yTurned 13 = .ok (.lmul, 1) := by decide +kernel
theorem dX4_yTurned_14 : decode cX4_yTurned 14 = .ok (.ladd, 1) := by decide +kernel
theorem dX4_yTurned_15 : decode cX4_yTurned 15 = .ok (.lreturn, 1) := by decide +kernel
set_option maxRecDepth 20000 in
theorem ggX4_readingOf_X4_isReel : GoodIn wsX4_readingOf wsX4_isReel := goodIn_r _ [6, 1, 14, 15, 16, 17, 18, 19, 20, 21, 22, 23, 24, 25, 26, 27] (by decide +kernel) (by decide +kernel)
set_option maxRecDepth 20000 in
theorem gX4_readingOf_X4_isReel : GoodIn wsX4_readingOf (wsV RX4 69 RX4 yX4_isReel wsX4_isReel) := goodIn_app (goodIn_of _ (by decide +kernel)) ggX4_readingOf_X4_isReel
set_option maxRecDepth 20000 in
theorem ggX4_readingOf_X2_reading : GoodIn wsX4_readingOf wsX2_reading := goodIn_r _ [11, 12, 13, 28, 29, 30] (by decide +kernel) (by decide +kernel)
set_option maxRecDepth 20000 in
theorem gX4_readingOf_X2_reading : GoodIn wsX4_readingOf (wsV RX4 280 RX2 yX2_reading wsX2_reading) := goodIn_app (goodIn_of _ (by decide +kernel)) ggX4_readingOf_X2_reading
theorem dX4_readingOf_0 : decode cX4_readingOf 0 = .ok (.aload_n 0, 1) := by decide +kernel
theorem dX4_readingOf_1 : decode cX4_readingOf 1 = .ok (.iload_n 1, 1) := by decide +kernel
theorem dX4_readingOf_2 : decode cX4_readingOf 2 = .ok (.invokevirtual 69, 3) := by decide +kernel
theorem dX4_readingOf_5 : decode cX4_readingOf 5 = .ok (.ifCond .eq 16, 3) := by decide +kernel
theorem dX4_readingOf_8 : decode cX4_readingOf 8 = .ok (.aload_n 0, 1) := by decide +kernel
theorem dX4_readingOf_9 : decode cX4_readingOf 9 = .ok (.getfield 11, 3) := by decide +kernel
theorem dX4_readingOf_12 : decode cX4_readingOf 12 = .ok (.iload_n 1, 1) := by decide +kernel
theorem dX4_readingOf_13 : decode cX4_readingOf 13 = .ok (.aaload, 1) := by decide +kernel
theorem dX4_readingOf_14 : decode cX4_readingOf 14 = .ok (.iload_n 2, 1) := by decide +kernel
theorem dX4_readingOf_15 : decode cX4_readingOf 15 = .ok (.invokevirtual 280, 3) := by decide +kernel
theorem dX4_readingOf_18 : decode cX4_readingOf 18 = .ok (.goto 5, 3) := by decide +kernel
theorem dX4_readingOf_21 : decode cX4_readingOf 21 = .ok (.bipush (-128), 2) := by decide +kernel
theorem dX4_readingOf_23 : decode cX4_readingOf 23 = .ok (.ireturn, 1) := by decide +kernel
set_option maxRecDepth 20000 in
theorem ggX4_readBeams_X4_readingOf : GoodIn wsX4_readBeams wsX4_readingOf := goodIn_r _ [6, 7, 8, 9, 10, 5, 11, 12, 13, 14, 15, 16, 17, 18, 34, 35, 36, 37, 38, 39, 40, 41, 42, 43, 44, 45, 46, 47, 48, 49, 50] (by decide +kernel) (by decide +kernel)
set_option maxRecDepth 20000 in
theorem gX4_readBeams_X4_readingOf : GoodIn wsX4_readBeams (wsV RX4 283 RX4 yX4_readingOf wsX4_readingOf) := goodIn_app (goodIn_of _ (by decide +kernel)) ggX4_readBeams_X4_readingOf
set_option maxRecDepth 20000 in
theorem ggX4_readBeams_X0_take : GoodIn wsX4_readBeams wsX0_take := goodIn_r _ [23, 24, 25, 26, 27, 28, 29, 30, 22, 31, 32, 5, 33, 51, 52, 53, 54, 55] (by decide +kernel) (by decide +kernel)
set_option maxRecDepth 20000 in
theorem gX4_readBeams_X0_take : GoodIn wsX4_readBeams (wsV RX4 171 RX0 yX0_take wsX0_take) := goodIn_app (goodIn_of _ (by decide +kernel)) ggX4_readBeams_X0_take
theorem dX4_readBeams_0 : decode cX4_readBeams 0 = .ok (.aload_n 0, 1) := by decide +kernel
theorem dX4_readBeams_1 : decode cX4_readBeams 1 = .ok (.iload_n 1, 1) := by decide +kernel
theorem dX4_readBeams_2 : decode cX4_readBeams 2 = .ok (.iload_n 2, 1) := by decide +kernel
theorem dX4_readBeams_3 : decode cX4_readBeams 3 = .ok (.invokevirtual 283, 3) := by decide +kernel
theorem dX4_readBeams_6 : decode cX4_readBeams 6 = .ok (.istore_n 3, 1) := by decide +kernel
theorem dX4_readBeams_7 : decode cX4_readBeams 7 = .ok (.aload_n 0, 1) := by decide +kernel
theorem dX4_readBeams_8 : decode cX4_readBeams 8 = .ok (.iload_n 1, 1) := by decide +kernel
theorem dX4_readBeams_9 : decode cX4_readBeams 9 = .ok (.iconst 1, 1) := by decide +kernel
theorem dX4_readBeams_10 : decode cX4_readBeams 10 = .ok (.iadd, 1) := by decide +kernel
theorem dX4_readBeams_11 : decode cX4_readBeams 11 = .ok (.iload_n 2, 1) := by decide +kernel
theorem dX4_readBeams_12 : decode cX4_readBeams 12 = .ok (.invokevirtual 283, 3) := by decide +kernel
theorem dX4_readBeams_15 : decode cX4_readBeams 15 = .ok (.istore 4, 2) := by decide +kernel
theorem dX4_readBeams_17 : decode cX4_readBeams 17 = .ok (.aload_n 0, 1) := by decide +kernel
theorem dX4_readBeams_18 : decode cX4_readBeams 18 = .ok (.iload_n 1, 1) := by decide +kernel
theorem dX4_readBeams_19 : decode cX4_readBeams 19 = .ok (.iconst 2, 1) := by decide +kernel
theorem dX4_readBeams_20 : decode cX4_readBeams 20 = .ok (.iadd, 1) := by decide +kernel
theorem dX4_readBeams_21 : decode cX4_readBeams 21 = .ok (.iload_n 2, 1) := by decide +kernel
theorem dX4_readBeams_22 : decode cX4_readBeams 22 = .ok (.invokevirtual 283, 3) := by decide +kernel
theorem dX4_readBeams_25 : decode cX4_readBeams 25 = .ok (.istore 5, 2) := by decide +kernel
theorem dX4_readBeams_27 : decode cX4_readBeams 27 = .ok (.aload_n 0, 1) := by decide +kernel
theorem dX4_readBeams_28 : decode cX4_readBeams 28 = .ok (.iload_n 1, 1) := by decide +kernel
theorem dX4_readBeams_29 : decode cX4_readBeams 29 = .ok (.iconst 3, 1) := by decide +kernel
theorem dX4_readBeams_30 : decode cX4_readBeams 30 = .ok (.iadd, 1) := by decide +kernel
theorem dX4_readBeams_31 : decode cX4_readBeams 31 = .ok (.iload_n 2, 1) := by decide +kernel
theorem dX4_readBeams_32 : decode cX4_readBeams 32 = .ok (.invokevirtual 283, 3) := by decide +kernel
theorem dX4_readBeams_35 : decode cX4_readBeams 35 = .ok (.istore 6, 2) := by decide +kernel
theorem dX4_readBeams_37 : decode cX4_readBeams 37 = .ok (.aload_n 0, 1) := by decide +kernel
theorem dX4_readBeams_38 : decode cX4_readBeams 38 = .ok (.getfield 25, 3) := by decide +kernel
theorem dX4_readBeams_41 : decode cX4_readBeams 41 = .ok (.iload_n 3, 1) := by decide +kernel
theorem dX4_readBeams_42 : decode cX4_readBeams 42 = .ok (.iload 4, 2) := by decide +kernel
theorem dX4_readBeams_44 : decode cX4_readBeams 44 = .ok (.iload 5, 2) := by decide +kernel
theorem dX4_readBeams_46 : decode cX4_readBeams 46 = .ok (.iload 6, 2) := by decide +kernel
theorem dX4_readBeams_48 : decode cX4_readBeams 48 = .ok (.invokevirtual 171, 3) := by decide +kernel
theorem dX4_readBeams_51 : decode cX4_readBeams 51 = .ok (.return_, 1) := by decide +kernel
theorem dX4_itemOfCell_0 : decode cX4_itemOfCell 0 = .ok (.aload_n 0, 1) := by decide +kernel
theorem dX4_itemOfCell_1 : decode cX4_itemOfCell 1 = .ok (.getfield 45, 3) := by decide +kernel
theorem dX4_itemOfCell_4 : decode cX4_itemOfCell 4 = .ok (.iload_n 1, 1) := by decide +kernel
theorem dX4_itemOfCell_5 : decode cX4_itemOfCell 5 = .ok (.imul, 1) := by decide +kernel
theorem dX4_itemOfCell_6 : decode cX4_itemOfCell 6 = .ok (.iload_n 2, 1) := by decide +kernel
theorem dX4_itemOfCell_7 : decode cX4_itemOfCell 7 = .ok (.iadd, 1) := by decide +kernel
theorem dX4_itemOfCell_8 : decode cX4_itemOfCell 8 = .ok (.ireturn, 1) := by decide +kernel
set_option maxRecDepth 20000 in
theorem ggX4_findOwn_X1_rest : GoodIn wsX4_findOwn wsX1_rest := goodIn_r _ [10, 11, 12, 13, 14, 119, 120, 121, 122] (by decide +kernel) (by decide +kernel)
set_option maxRecDepth 20000 in
theorem gX4_findOwn_X1_rest : GoodIn wsX4_findOwn (wsV RX4 286 RX1 yX1_rest wsX1_rest) := goodIn_app (goodIn_of _ (by decide +kernel)) ggX4_findOwn_X1_rest
set_option maxRecDepth 20000 in
theorem ggX4_findOwn_X4_readBeams : GoodIn wsX4_findOwn wsX4_readBeams := goodIn_r _ [19, 3, 20, 21, 22, 18, 23, 24, 25, 26, 27, 28, 29, 30, 31, 32, 33, 34, 35, 36, 37, 38, 39, 40, 41, 42, 43, 44, 45, 46, 47, 48, 49, 50, 100, 101, 102, 103, 104, 105, 106, 107, 108, 109, 110, 111, 112, 113, 123, 124, 125, 114, 115, 116, 117, 118] (by decide +kernel) (by decide +kernel)
set_option maxRecDepth 20000 in
theorem gX4_findOwn_X4_readBeams : GoodIn wsX4_findOwn (wsV RX4 212 RX4 yX4_readBeams wsX4_readBeams) := goodIn_app (goodIn_of _ (by decide +kernel)) ggX4_findOwn_X4_readBeams
set_option maxRecDepth 20000 in
theorem ggX4_findOwn_X3_headingOf : GoodIn wsX4_findOwn wsX3_headingOf := goodIn_r _ [55, 56, 57, 58, 59, 54, 60, 61, 126, 127, 128, 129, 130] (by decide +kernel) (by decide +kernel)
set_option maxRecDepth 20000 in
theorem gX4_findOwn_X3_headingOf : GoodIn wsX4_findOwn (wsV RX4 143 RX3 yX3_headingOf wsX3_headingOf) := goodIn_app (goodIn_of _ (by decide +kernel)) ggX4_findOwn_X3_headingOf
set_option maxRecDepth 20000 in
theorem ggX4_findOwn_X1_swing : GoodIn wsX4_findOwn wsX1_swing := goodIn_r _ [65, 11, 12, 66, 18, 67, 68, 69, 70, 71, 72, 73, 74, 75, 76, 119, 120, 121, 122] (by decide +kernel) (by decide +kernel)
set_option maxRecDepth 20000 in
theorem gX4_findOwn_X1_swing : GoodIn wsX4_findOwn (wsV RX4 289 RX1 yX1_swing wsX1_swing) := goodIn_app (goodIn_of _ (by decide +kernel)) ggX4_findOwn_X1_swing
set_option maxRecDepth 20000 in
theorem ggX4_findOwn_X3_isPing : GoodIn wsX4_findOwn wsX3_isPing := goodIn_r _ [60, 61, 126, 127, 128, 129, 130] (by decide +kernel) (by decide +kernel)
set_option maxRecDepth 20000 in
theorem gX4_findOwn_X3_isPing : GoodIn wsX4_findOwn (wsV RX4 140 RX3 yX3_isPing wsX3_isPing) := goodIn_app (goodIn_of _ (by decide +kernel)) ggX4_findOwn_X3_isPing
set_option maxRecDepth 20000 in
theorem ggX4_findOwn_X3_stepX : GoodIn wsX4_findOwn wsX3_stepX := goodIn_r _ [81, 82, 83, 84, 54, 85, 86, 57, 58, 59, 60, 61, 126, 127, 128, 129, 130] (by decide +kernel) (by decide +kernel)
set_option maxRecDepth 20000 in
theorem gX4_findOwn_X3_stepX : GoodIn wsX4_findOwn (wsV RX4 295 RX3 yX3_stepX wsX3_stepX) := goodIn_app (goodIn_of _ (by decide +kernel)) ggX4_findOwn_X3_stepX
set_option maxRecDepth 20000 in
theorem ggX4_findOwn_X3_stepY : GoodIn wsX4_findOwn wsX3_stepY := goodIn_r _ [90, 91, 92, 93, 54, 94, 95, 57, 58, 59, 60, 61, 126, 127, 128, 129, 130] (by decide +kernel) (by decide +kernel)
set_option maxRecDepth 20000 in
theorem gX4_findOwn_X3_stepY : GoodIn wsX4_findOwn (wsV RX4 298 RX3 yX3_stepY wsX3_stepY) := goodIn_app (goodIn_of _ (by decide +kernel)) ggX4_findOwn_X3_stepY
set_option maxRecDepth 20000 in
theorem ggX4_findOwn_X1_hold : GoodIn wsX4_findOwn wsX1_hold := goodIn_r _ [99, 13, 14, 119, 120, 121, 122] (by decide +kernel) (by decide +kernel)
set_option maxRecDepth 20000 in
theorem gX4_findOwn_X1_hold : GoodIn wsX4_findOwn (wsV RX4 301 RX1 yX1_hold wsX1_hold) := goodIn_app (goodIn_of _ (by decide +kernel)) ggX4_findOwn_X1_hold
theorem dX4_findOwn_0 : decode cX4_findOwn 0 = .ok (.aload_n 0, 1) := by decide +kernel
theorem dX4_findOwn_1 : decode cX4_findOwn 1 = .ok (.getfield 32, 3) := by decide +kernel
theorem dX4_findOwn_4 : decode cX4_findOwn 4 = .ok (.invokevirtual 286, 3) := by decide +kernel
theorem dX4_findOwn_7 : decode cX4_findOwn 7 = .ok (.aload_n 0, 1) := by decide +kernel
theorem dX4_findOwn_8 : decode cX4_findOwn 8 = .ok (.getfield 49, 3) := by decide +kernel
theorem dX4_findOwn_11 : decode cX4_findOwn 11 = .ok (.iconst 1, 1) := by decide +kernel
theorem dX4_findOwn_12 : decode cX4_findOwn 12 = .ok (.if_icmp .ne 50, 3) := by decide +kernel
theorem dX4_findOwn_15 : decode cX4_findOwn 15 = .ok (.aload_n 0, 1) := by decide +kernel
theorem dX4_findOwn_16 : decode cX4_findOwn 16 = .ok (.iconst 4, 1) := by decide +kernel
theorem dX4_findOwn_17 : decode cX4_findOwn 17 = .ok (.iload_n 1, 1) := by decide +kernel
theorem dX4_findOwn_18 : decode cX4_findOwn 18 = .ok (.invokevirtual 212, 3) := by decide +kernel
theorem dX4_findOwn_21 : decode cX4_findOwn 21 = .ok (.aload_n 0, 1) := by decide +kernel
theorem dX4_findOwn_22 : decode cX4_findOwn 22 = .ok (.getfield 25, 3) := by decide +kernel
theorem dX4_findOwn_25 : decode cX4_findOwn 25 = .ok (.getfield 175, 3) := by decide +kernel
theorem dX4_findOwn_28 : decode cX4_findOwn 28 = .ok (.ifCond .ne 5, 3) := by decide +kernel
theorem dX4_findOwn_31 : decode cX4_findOwn 31 = .ok (.iconst 0, 1) := by decide +kernel
theorem dX4_findOwn_32 : decode cX4_findOwn 32 = .ok (.ireturn, 1) := by decide +kernel
theorem dX4_findOwn_33 : decode cX4_findOwn 33 = .ok (.aload_n 0, 1) := by decide +kernel
theorem dX4_findOwn_34 : decode cX4_findOwn 34 = .ok (.getfield 32, 3) := by decide +kernel
theorem dX4_findOwn_37 : decode cX4_findOwn 37 = .ok (.aload_n 0, 1) := by decide +kernel
theorem dX4_findOwn_38 : decode cX4_findOwn 38 = .ok (.getfield 25, 3) := by decide +kernel
theorem dX4_findOwn_41 : decode cX4_findOwn 41 = .ok (.getfield 178, 3) := by decide +kernel
theorem dX4_findOwn_44 : decode cX4_findOwn 44 = .ok (.aload_n 0, 1) := by decide +kernel
theorem dX4_findOwn_45 : decode cX4_findOwn 45 = .ok (.getfield 25, 3) := by decide +kernel
theorem dX4_findOwn_48 : decode cX4_findOwn 48 = .ok (.getfield 181, 3) := by decide +kernel
theorem dX4_findOwn_51 : decode cX4_findOwn 51 = .ok (.aload_n 0, 1) := by decide +kernel
theorem dX4_findOwn_52 : decode cX4_findOwn 52 = .ok (.getfield 18, 3) := by decide +kernel
theorem dX4_findOwn_55 : decode cX4_findOwn 55 = .ok (.iload_n 1, 1) := by decide +kernel
theorem dX4_findOwn_56 : decode cX4_findOwn 56 = .ok (.invokevirtual 143, 3) := by decide +kernel
theorem dX4_findOwn_59 : decode cX4_findOwn 59 = .ok (.invokevirtual 289, 3) := by decide +kernel
theorem dX4_findOwn_62 : decode cX4_findOwn 62 = .ok (.aload_n 0, 1) := by decide +kernel
theorem dX4_findOwn_63 : decode cX4_findOwn 63 = .ok (.getfield 49, 3) := by decide +kernel
theorem dX4_findOwn_66 : decode cX4_findOwn 66 = .ok (.iconst 2, 1) := by decide +kernel
theorem dX4_findOwn_67 : decode cX4_findOwn 67 = .ok (.if_icmp .ne 49, 3) := by decide +kernel
theorem dX4_findOwn_70 : decode cX4_findOwn 70 = .ok (.aload_n 0, 1) := by decide +kernel
theorem dX4_findOwn_71 : decode cX4_findOwn 71 = .ok (.getfield 18, 3) := by decide +kernel
theorem dX4_findOwn_74 : decode cX4_findOwn 74 = .ok (.iload_n 1, 1) := by decide +kernel
theorem dX4_findOwn_75 : decode cX4_findOwn 75 = .ok (.iconst 1, 1) := by decide +kernel
theorem dX4_findOwn_76 : decode cX4_findOwn 76 = .ok (.iadd, 1) := by decide +kernel
theorem dX4_findOwn_77 : decode cX4_findOwn 77 = .ok (.invokevirtual 140, 3) := by decide +kernel
theorem dX4_findOwn_80 : decode cX4_findOwn 80 = .ok (.ifCond .ne 5, 3) := by decide +kernel
theorem dX4_findOwn_83 : decode cX4_findOwn 83 = .ok (.iconst 0, 1) := by decide +kernel
theorem dX4_findOwn_84 : decode cX4_findOwn 84 = .ok (.ireturn, 1) := by decide +kernel
theorem dX4_findOwn_85 : decode cX4_findOwn 85 = .ok (.aload_n 0, 1) := by decide +kernel
theorem dX4_findOwn_86 : decode cX4_findOwn 86 = .ok (.getfield 32, 3) := by decide +kernel
theorem dX4_findOwn_89 : decode cX4_findOwn 89 = .ok (.ldc2_w 293, 3) := by decide +kernel
theorem dX4_findOwn_92 : decode cX4_findOwn 92 = .ok (.aload_n 0, 1) := by decide +kernel
theorem dX4_findOwn_93 : decode cX4_findOwn 93 = .ok (.getfield 18, 3) := by decide +kernel
theorem dX4_findOwn_96 : decode cX4_findOwn 96 = .ok (.iload_n 1, 1) := by decide +kernel
theorem dX4_findOwn_97 : decode cX4_findOwn 97 = .ok (.invokevirtual 295, 3) := by decide +kernel
theorem dX4_findOwn_100 : decode cX4_findOwn 100 = .ok (.lmul, 1) := by decide +kernel
theorem dX4_findOwn_101 : decode cX4_findOwn 101 = .ok (.ldc2_w 293, 3) := by decide +kernel
theorem dX4_findOwn_104 : decode cX4_findOwn 104 = .ok (.aload_n 0, 1) := by decide +kernel
theorem dX4_findOwn_105 : decode cX4_findOwn 105 = .ok (.getfield 18, 3) := by decide +kernel
theorem dX4_findOwn_108 : decode cX4_findOwn 108 = .ok (.iload_n 1, 1) := by decide +kernel
theorem dX4_findOwn_109 : decode cX4_findOwn 109 = .ok (.invokevirtual 298, 3) := by decide +kernel
theorem dX4_findOwn_112 : decode cX4_findOwn 112 = .ok (.lmul, 1) := by decide +kernel
theorem dX4_findOwn_113 : decode cX4_findOwn 113 = .ok (.invokevirtual 301, 3) := by decide +kernel
theorem dX4_findOwn_116 : decode cX4_findOwn 116 = .ok (.iconst 1, 1) := by decide +kernel
theorem dX4_findOwn_117 : decode cX4_findOwn 117 = .ok (.ireturn, 1) := by decide +kernel
set_option maxRecDepth 20000 in
theorem ggX4_findPace_X1_rest : GoodIn wsX4_findPace wsX1_rest := goodIn_r _ [9, 10, 11, 12, 13, 64, 65, 66, 67] (by decide +kernel) (by decide +kernel)
set_option maxRecDepth 20000 in
theorem gX4_findPace_X1_rest : GoodIn wsX4_findPace (wsV RX4 286 RX1 yX1_rest wsX1_rest) := goodIn_app (goodIn_of _ (by decide +kernel)) ggX4_findPace_X1_rest
set_option maxRecDepth 20000 in
theorem ggX4_findPace_X3_headingOf : GoodIn wsX4_findPace wsX3_headingOf := goodIn_r _ [18, 19, 20, 21, 22, 17, 23, 24, 68, 69, 70, 71, 72] (by decide +kernel) (by decide +kernel)
set_option maxRecDepth 20000 in
theorem gX4_findPace_X3_headingOf : GoodIn wsX4_findPace (wsV RX4 143 RX3 yX3_headingOf wsX3_headingOf) := goodIn_app (goodIn_of _ (by decide +kernel)) ggX4_findPace_X3_headingOf
set_option maxRecDepth 20000 in
theorem ggX4_findPace_X1_swing : GoodIn wsX4_findPace wsX1_swing := goodIn_r _ [28, 10, 11, 29, 30, 31, 32, 33, 34, 35, 36, 37, 38, 39, 40, 64, 65, 66, 67] (by decide +kernel) (by decide +kernel)
set_option maxRecDepth 20000 in
theorem gX4_findPace_X1_swing : GoodIn wsX4_findPace (wsV RX4 289 RX1 yX1_swing wsX1_swing) := goodIn_app (goodIn_of _ (by decide +kernel)) ggX4_findPace_X1_swing
set_option maxRecDepth 20000 in
theorem ggX4_findPace_X1_subtract : GoodIn wsX4_findPace wsX1_subtract := goodIn_r _ [44, 10, 11, 12, 13, 64, 65, 66, 67] (by decide +kernel) (by decide +kernel)
set_option maxRecDepth 20000 in
theorem gX4_findPace_X1_subtract : GoodIn wsX4_findPace (wsV RX4 247 RX1 yX1_subtract wsX1_subtract) := goodIn_app (goodIn_of _ (by decide +kernel)) ggX4_findPace_X1_subtract
theorem dX4_findPace_0 : decode cX4_findPace 0 = .ok (.aload_n 0, 1) := by decide +kernel
theorem dX4_findPace_1 : decode cX4_findPace 1 = .ok (.getfield 36, 3) := by decide +kernel
theorem dX4_findPace_4 : decode cX4_findPace 4 = .ok (.invokevirtual 286, 3) := by decide +kernel
theorem dX4_findPace_7 : decode cX4_findPace 7 = .ok (.aload_n 0, 1) := by decide +kernel
theorem dX4_findPace_8 : decode cX4_findPace 8 = .ok (.getfield 36, 3) := by decide +kernel
theorem dX4_findPace_11 : decode cX4_findPace 11 = .ok (.aload_n 0, 1) := by decide +kernel
theorem dX4_findPace_12 : decode cX4_findPace 12 = .ok (.getfield 25, 3) := by decide +kernel
theorem dX4_findPace_15 : decode cX4_findPace 15 = .ok (.getfield 178, 3) := by decide +kernel
theorem dX4_findPace_18 : decode cX4_findPace 18 = .ok (.aload_n 0, 1) := by decide +kernel
theorem dX4_findPace_19 : decode cX4_findPace 19 = .ok (.getfield 25, 3) := by decide +kernel
theorem dX4_findPace_22 : decode cX4_findPace 22 = .ok (.getfield 181, 3) := by decide +kernel
theorem dX4_findPace_25 : decode cX4_findPace 25 = .ok (.aload_n 0, 1) := by decide +kernel
theorem dX4_findPace_26 : decode cX4_findPace 26 = .ok (.getfield 18, 3) := by decide +kernel
theorem dX4_findPace_29 : decode cX4_findPace 29 = .ok (.iload_n 1, 1) := by decide +kernel
theorem dX4_findPace_30 : decode cX4_findPace 30 = .ok (.invokevirtual 143, 3) := by decide +kernel
theorem dX4_findPace_33 : decode cX4_findPace 33 = .ok (.invokevirtual 289, 3) := by decide +kernel
theorem dX4_findPace_36 : decode cX4_findPace 36 = .ok (.aload_n 0, 1) := by decide +kernel
theorem dX4_findPace_37 : decode cX4_findPace 37 = .ok (.getfield 36, 3) := by decide +kernel
theorem dX4_findPace_40 : decode cX4_findPace 40 = .ok (.aload_n 0, 1) := by decide +kernel
theorem dX4_findPace_41 : decode cX4_findPace 41 = .ok (.getfield 32, 3) := by decide +kernel
theorem dX4_findPace_44 : decode cX4_findPace 44 = .ok (.invokevirtual 247, 3) := by decide +kernel
theorem dX4_findPace_47 : decode cX4_findPace 47 = .ok (.return_, 1) := by decide +kernel
set_option maxRecDepth 20000 in
theorem ggX4_judge_X4_itemOfCell : GoodIn wsX4_judge wsX4_itemOfCell := goodIn_r _ [10, 11, 64, 65, 66, 67, 68, 69, 70, 71, 72, 73, 74, 75, 76, 77] (by decide +kernel) (by decide +kernel)
set_option maxRecDepth 20000 in
theorem gX4_judge_X4_itemOfCell : GoodIn wsX4_judge (wsV RX4 209 RX4 yX4_itemOfCell wsX4_itemOfCell) := goodIn_app (goodIn_of _ (by decide +kernel)) ggX4_judge_X4_itemOfCell
set_option maxRecDepth 20000 in
theorem ggX4_judge_X4_readBeams : GoodIn wsX4_judge wsX4_readBeams := goodIn_r _ [15, 1, 16, 17, 18, 9, 19, 20, 21, 22, 23, 24, 25, 26, 27, 28, 29, 30, 31, 32, 33, 34, 35, 36, 37, 38, 39, 40, 41, 42, 43, 44, 45, 46, 64, 65, 66, 67, 68, 69, 70, 71, 72, 73, 74, 75, 76, 77, 83, 84, 85, 78, 79, 80, 81, 82] (by decide +kernel) (by decide +kernel)
set_option maxRecDepth 20000 in
theorem gX4_judge_X4_readBeams : GoodIn wsX4_judge (wsV RX4 212 RX4 yX4_readBeams wsX4_readBeams) := goodIn_app (goodIn_of _ (by decide +kernel)) ggX4_judge_X4_readBeams
set_option maxRecDepth 20000 in
theorem ggX4_judge_X3_depthOf : GoodIn wsX4_judge wsX3_depthOf := goodIn_r _ [51, 52, 53, 54, 55, 50, 56, 57, 86, 87, 88, 89, 90] (by decide +kernel) (by decide +kernel)
set_option maxRecDepth 20000 in
theorem gX4_judge_X3_depthOf : GoodIn wsX4_judge (wsV RX4 152 RX3 yX3_depthOf wsX3_depthOf) := goodIn_app (goodIn_of _ (by decide +kernel)) ggX4_judge_X3_depthOf
set_option maxRecDepth 20000 in
theorem ggX4_judge_X4_isWithin : GoodIn wsX4_judge wsX4_isWithin := goodIn_r _ [60] (by decide +kernel) (by decide +kernel)
set_option maxRecDepth 20000 in
theorem gX4_judge_X4_isWithin : GoodIn wsX4_judge (va_wsS RX4 120 yX4_isWithin wsX4_isWithin) := goodIn_app (goodIn_of _ (by decide +kernel)) ggX4_judge_X4_isWithin
set_option maxRecDepth 20000 in
theorem ggX4_judge_X4_isPart : GoodIn wsX4_judge wsX4_isPart := goodIn_r _ [63, 58, 59, 9, 60] (by decide +kernel) (by decide +kernel)
set_option maxRecDepth 20000 in
theorem gX4_judge_X4_isPart : GoodIn wsX4_judge (va_wsS RX4 190 yX4_isPart wsX4_isPart) := goodIn_app (goodIn_of _ (by decide +kernel)) ggX4_judge_X4_isPart
theorem dX4_judge_0 : decode cX4_judge 0 = .ok (.iload_n 3, 1) := by decide +kernel
theorem dX4_judge_1 : decode cX4_judge 1 = .ok (.ifCond .ne 5, 3) := by decide +kernel
theorem dX4_judge_4 : decode cX4_judge 4 = .ok (.iconst 1, 1) := by decide +kernel
theorem dX4_judge_5 : decode cX4_judge 5 = .ok (.ireturn, 1) := by decide +kernel
theorem dX4_judge_6 : decode cX4_judge 6 = .ok (.aload_n 0, 1) := by decide +kernel
theorem dX4_judge_7 : decode cX4_judge 7 = .ok (.iconst 0, 1) := by decide +kernel
theorem dX4_judge_8 : decode cX4_judge 8 = .ok (.aload_n 0, 1) := by decide +kernel
theorem dX4_judge_9 : decode cX4_judge 9 = .ok (.iload_n 1, 1) := by decide +kernel
theorem dX4_judge_10 : decode cX4_judge 10 = .ok (.iload_n 2, 1) := by decide +kernel
theorem dX4_judge_11 : decode cX4_judge 11 = .ok (.invokevirtual 209, 3) := by decide +kernel
theorem dX4_judge_14 : decode cX4_judge 14 = .ok (.invokevirtual 212, 3) := by decide +kernel
theorem dX4_judge_17 : decode cX4_judge 17 = .ok (.aload_n 0, 1) := by decide +kernel
theorem dX4_judge_18 : decode cX4_judge 18 = .ok (.getfield 25, 3) := by decide +kernel
theorem dX4_judge_21 : decode cX4_judge 21 = .ok (.getfield 175, 3) := by decide +kernel
theorem dX4_judge_24 : decode cX4_judge 24 = .ok (.ifCond .ne 5, 3) := by decide +kernel
theorem dX4_judge_27 : decode cX4_judge 27 = .ok (.iconst 2, 1) := by decide +kernel
theorem dX4_judge_28 : decode cX4_judge 28 = .ok (.ireturn, 1) := by decide +kernel
theorem dX4_judge_29 : decode cX4_judge 29 = .ok (.iload_n 2, 1) := by decide +kernel
theorem dX4_judge_30 : decode cX4_judge 30 = .ok (.aload_n 0, 1) := by decide +kernel
theorem dX4_judge_31 : decode cX4_judge 31 = .ok (.getfield 55, 3) := by decide +kernel
theorem dX4_judge_34 : decode cX4_judge 34 = .ok (.iadd, 1) := by decide +kernel
theorem dX4_judge_35 : decode cX4_judge 35 = .ok (.aload_n 0, 1) := by decide +kernel
theorem dX4_judge_36 : decode cX4_judge 36 = .ok (.getfield 18, 3) := by decide +kernel
theorem dX4_judge_39 : decode cX4_judge 39 = .ok (.iload_n 1, 1) := by decide +kernel
theorem dX4_judge_40 : decode cX4_judge 40 = .ok (.invokevirtual 152, 3) := by decide +kernel
theorem dX4_judge_43 : decode cX4_judge 43 = .ok (.if_icmp .lt 5, 3) := by decide +kernel
theorem dX4_judge_46 : decode cX4_judge 46 = .ok (.iconst 3, 1) := by decide +kernel
theorem dX4_judge_47 : decode cX4_judge 47 = .ok (.ireturn, 1) := by decide +kernel
theorem dX4_judge_48 : decode cX4_judge 48 = .ok (.aload_n 0, 1) := by decide +kernel
theorem dX4_judge_49 : decode cX4_judge 49 = .ok (.getfield 25, 3) := by decide +kernel
theorem dX4_judge_52 : decode cX4_judge 52 = .ok (.getfield 187, 3) := by decide +kernel
theorem dX4_judge_55 : decode cX4_judge 55 = .ok (.ifCond .eq 12, 3) := by decide +kernel
theorem dX4_judge_58 : decode cX4_judge 58 = .ok (.aload_n 0, 1) := by decide +kernel
theorem dX4_judge_59 : decode cX4_judge 59 = .ok (.getfield 58, 3) := by decide +kernel
theorem dX4_judge_62 : decode cX4_judge 62 = .ok (.ifCond .ne 5, 3) := by decide +kernel
theorem dX4_judge_65 : decode cX4_judge 65 = .ok (.iconst 4, 1) := by decide +kernel
theorem dX4_judge_66 : decode cX4_judge 66 = .ok (.ireturn, 1) := by decide +kernel
theorem dX4_judge_67 : decode cX4_judge 67 = .ok (.aload_n 0, 1) := by decide +kernel
theorem dX4_judge_68 : decode cX4_judge 68 = .ok (.getfield 25, 3) := by decide +kernel
theorem dX4_judge_71 : decode cX4_judge 71 = .ok (.getfield 184, 3) := by decide +kernel
theorem dX4_judge_74 : decode cX4_judge 74 = .ok (.aload_n 0, 1) := by decide +kernel
theorem dX4_judge_75 : decode cX4_judge 75 = .ok (.getfield 62, 3) := by decide +kernel
theorem dX4_judge_78 : decode cX4_judge 78 = .ok (.ineg, 1) := by decide +kernel
theorem dX4_judge_79 : decode cX4_judge 79 = .ok (.aload_n 0, 1) := by decide +kernel
theorem dX4_judge_80 : decode cX4_judge 80 = .ok (.getfield 62, 3) := by decide +kernel
theorem dX4_judge_83 : decode cX4_judge 83 = .ok (.invokestatic 120, 3) := by decide +kernel
theorem dX4_judge_86 : decode cX4_judge 86 = .ok (.ifCond .ne 5, 3) := by decide +kernel
theorem dX4_judge_89 : decode cX4_judge 89 = .ok (.iconst 5, 1) := by decide +kernel
theorem dX4_judge_90 : decode cX4_judge 90 = .ok (.ireturn, 1) := by decide +kernel
theorem dX4_judge_91 : decode cX4_judge 91 = .ok (.aload_n 0, 1) := by decide +kernel
theorem dX4_judge_92 : decode cX4_judge 92 = .ok (.getfield 25, 3) := by decide +kernel
theorem dX4_judge_95 : decode cX4_judge 95 = .ok (.getfield 178, 3) := by decide +kernel
theorem dX4_judge_98 : decode cX4_judge 98 = .ok (.invokestatic 190, 3) := by decide +kernel
theorem dX4_judge_101 : decode cX4_judge 101 = .ok (.ifCond .eq 20, 3) := by decide +kernel
theorem dX4_judge_104 : decode cX4_judge 104 = .ok (.aload_n 0, 1) := by decide +kernel
theorem dX4_judge_105 : decode cX4_judge 105 = .ok (.getfield 25, 3) := by decide +kernel
theorem dX4_judge_108 : decode cX4_judge 108 = .ok (.getfield 181, 3) := by decide +kernel
theorem dX4_judge_111 : decode cX4_judge 111 = .ok (.invokestatic 190, 3) := by decide +kernel
theorem dX4_judge_114 : decode cX4_judge 114 = .ok (.ifCond .eq 7, 3) := by decide +kernel
theorem dX4_judge_117 : decode cX4_judge 117 = .ok (.iconst 0, 1) := by decide +kernel
theorem dX4_judge_118 : decode cX4_judge 118 = .ok (.goto 5, 3) := by decide +kernel
theorem dX4_judge_121 : decode cX4_judge 121 = .ok (.bipush 6, 2) := by decide +kernel
theorem dX4_judge_123 : decode cX4_judge 123 = .ok (.ireturn, 1) := by decide +kernel
set_option maxRecDepth 20000 in
theorem ggX4_fatesOfPing_X4_findOwn : GoodIn wsX4_fatesOfPing wsX4_findOwn := goodIn_r _ [6, 7, 8, 9, 10, 11, 12, 13, 14, 15, 16, 17, 18, 19, 20, 21, 22, 23, 5, 24, 25, 26, 27, 28, 29, 30, 31, 32, 33, 34, 35, 36, 37, 38, 39, 40, 41, 42, 43, 44, 45, 46, 47, 48, 49, 50, 51, 52, 53, 54, 55, 56, 57, 58, 59, 60, 61, 62, 63, 64, 65, 66, 67, 68, 69, 70, 71, 72, 73, 74, 75, 76, 77, 78, 79, 80, 81, 82, 83, 84, 85, 86, 87, 88, 89, 90, 91, 92, 93, 94, 95, 96, 97, 98, 99, 100, 101, 102, 103, 104, 128, 129, 130, 131, 132, 133, 134, 135, 136, 137, 138, 139, 140, 141, 142, 143, 144, 145, 146, 147, 148, 149, 150, 151, 152, 153, 154, 155, 156, 157, 158] (by decide +kernel) (by decide +kernel)
set_option maxRecDepth 20000 in
theorem gX4_fatesOfPing_X4_findOwn : GoodIn wsX4_fatesOfPing (wsV RX4 155 RX4 yX4_findOwn wsX4_findOwn) := goodIn_app (goodIn_of _ (by decide +kernel)) ggX4_fatesOfPing_X4_findOwn
set_option maxRecDepth 20000 in
theorem ggX4_fatesOfPing_X4_judge : GoodIn wsX4_fatesOfPing wsX4_judge := goodIn_r _ [108, 9, 109, 10, 110, 111, 112, 113, 114, 5, 115, 1, 21, 22, 23, 24, 25, 26, 27, 28, 29, 30, 31, 32, 33, 34, 35, 36, 37, 38, 39, 40, 41, 42, 43, 44, 45, 46, 47, 48, 49, 50, 51, 52, 53, 54, 55, 116, 117, 118, 59, 119, 120, 62, 63, 64, 65, 66, 121, 122, 123, 124, 125, 126, 128, 129, 130, 131, 132, 133, 134, 135, 136, 137, 138, 139, 140, 141, 142, 143, 144, 145, 146, 151, 152, 153, 154, 155, 156, 157, 158] (by decide +kernel) (by decide +kernel)
set_option maxRecDepth 20000 in
theorem gX4_fatesOfPing_X4_judge : GoodIn wsX4_fatesOfPing (wsV RX4 205 RX4 yX4_judge wsX4_judge) := goodIn_app (goodIn_of _ (by decide +kernel)) ggX4_fatesOfPing_X4_judge
set_option maxRecDepth 20000 in
theorem ggX4_fatesOfPing_X4_asNumber : GoodIn wsX4_fatesOfPing wsX4_asNumber := goodIn_r _ [55] (by decide +kernel) (by decide +kernel)
set_option maxRecDepth 20000 in
theorem gX4_fatesOfPing_X4_asNumber : GoodIn wsX4_fatesOfPing (va_wsS RX4 158 yX4_asNumber wsX4_asNumber) := goodIn_app (goodIn_of _ (by decide +kernel)) ggX4_fatesOfPing_X4_asNumber
theorem dX4_fatesOfPing_0 : decode cX4_fatesOfPing 0 = .ok (.aload_n 0, 1) := by decide +kernel
theorem dX4_fatesOfPing_1 : decode cX4_fatesOfPing 1 = .ok (.iload_n 1, 1) := by decide +kernel
theorem dX4_fatesOfPing_2 : decode cX4_fatesOfPing 2 = .ok (.invokevirtual 155, 3) := by decide +kernel
theorem dX4_fatesOfPing_5 : decode cX4_fatesOfPing 5 = .ok (.istore_n 3, 1) := by decide +kernel
theorem dX4_fatesOfPing_6 : decode cX4_fatesOfPing 6 = .ok (.iconst 0, 1) := by decide +kernel
theorem dX4_fatesOfPing_7 : decode cX4_fatesOfPing 7 = .ok (.istore 4, 2) := by decide +kernel
theorem dX4_fatesOfPing_9 : decode cX4_fatesOfPing 9 = .ok (.iconst 0, 1) := by decide +kernel
theorem dX4_fatesOfPing_10 : decode cX4_fatesOfPing 10 = .ok (.istore 5, 2) := by decide +kernel
theorem dX4_fatesOfPing_12 : decode cX4_fatesOfPing 12 = .ok (.iload 5, 2) := by decide +kernel
theorem dX4_fatesOfPing_14 : decode cX4_fatesOfPing 14 = .ok (.aload_n 0, 1) := by decide +kernel
theorem dX4_fatesOfPing_15 : decode cX4_fatesOfPing 15 = .ok (.getfield 45, 3) := by decide +kernel
theorem dX4_fatesOfPing_18 : decode cX4_fatesOfPing 18 = .ok (.if_icmp .ge 34, 3) := by decide +kernel
theorem dX4_fatesOfPing_21 : decode cX4_fatesOfPing 21 = .ok (.iload 4, 2) := by decide +kernel
theorem dX4_fatesOfPing_23 : decode cX4_fatesOfPing 23 = .ok (.aload_n 0, 1) := by decide +kernel
theorem dX4_fatesOfPing_24 : decode cX4_fatesOfPing 24 = .ok (.iload_n 1, 1) := by decide +kernel
theorem dX4_fatesOfPing_25 : decode cX4_fatesOfPing 25 = .ok (.iload 5, 2) := by decide +kernel
theorem dX4_fatesOfPing_27 : decode cX4_fatesOfPing 27 = .ok (.iload_n 3, 1) := by decide +kernel
theorem dX4_fatesOfPing_28 : decode cX4_fatesOfPing 28 = .ok (.invokevirtual 205, 3) := by decide +kernel
theorem dX4_fatesOfPing_31 : decode cX4_fatesOfPing 31 = .ok (.iload_n 2, 1) := by decide +kernel
theorem dX4_fatesOfPing_32 : decode cX4_fatesOfPing 32 = .ok (.if_icmp .ne 7, 3) := by decide +kernel
theorem dX4_fatesOfPing_35 : decode cX4_fatesOfPing 35 = .ok (.iconst 1, 1) := by decide +kernel
theorem dX4_fatesOfPing_36 : decode cX4_fatesOfPing 36 = .ok (.goto 4, 3) := by decide +kernel
theorem dX4_fatesOfPing_39 : decode cX4_fatesOfPing 39 = .ok (.iconst 0, 1) := by decide +kernel
theorem dX4_fatesOfPing_40 : decode cX4_fatesOfPing 40 = .ok (.invokestatic 158, 3) := by decide +kernel
theorem dX4_fatesOfPing_43 : decode cX4_fatesOfPing 43 = .ok (.iadd, 1) := by decide +kernel
theorem dX4_fatesOfPing_44 : decode cX4_fatesOfPing 44 = .ok (.istore 4, 2) := by decide +kernel
end
section
theorem dX4_fatesOfPing_46 : decode cX4_fatesOfPing 46 = .ok (.iinc 5 1, 3) := by decide +kernel
theorem dX4_fatesOfPing_49 : decode cX4_fatesOfPing 49 = .ok (.goto (-37), 3) := by decide +kernel
theorem dX4_fatesOfPing_52 : decode cX4_fatesOfPing 52 = .ok (.iload 4, 2) := by decide +kernel
theorem dX4_fatesOfPing_54 : decode cX4_fatesOfPing 54 = .ok (.ireturn, 1) := by decide +kernel
set_option maxRecDepth 20000 in
theorem ggX4_digestOfPing_X4_about : GoodIn wsX4_digestOfPing wsX4_about := goodIn_r _ [9, 10, 11, 12, 13, 14, 15, 16, 17, 18, 19, 20, 21, 22, 23, 24, 25, 26, 27, 28, 29, 30, 31, 32, 33, 34, 35, 36, 37, 38, 39, 40, 41, 8, 42, 43, 44, 45, 46, 47, 48, 49, 50, 51, 52, 53, 54, 55, 56, 57, 58, 59, 60, 61, 62, 63, 64, 65, 66, 67, 68, 69, 70, 71, 72, 73, 74, 75, 76, 77, 78, 79, 80, 81, 82, 83, 84, 85, 86, 87, 88, 89, 90, 91, 92, 93, 94, 95, 96, 97, 98, 99, 100, 101, 102, 103, 104, 105, 106, 107, 108, 109, 110, 111, 112, 113, 114, 115, 116, 117, 118, 119, 120, 154, 155, 156, 157, 158, 159, 160, 161, 162, 163, 164, 165, 166, 167, 168, 169, 170, 171, 172, 173, 174, 175, 176, 177, 178, 179, 180, 181, 182, 183, 184] (by decide +kernel) (by decide +kernel)
set_option maxRecDepth 20000 in
theorem gX4_digestOfPing_X4_about : GoodIn wsX4_digestOfPing (wsV RX4 305 RX4 yX4_about wsX4_about) := goodIn_app (goodIn_of _ (by decide +kernel)) ggX4_digestOfPing_X4_about
set_option maxRecDepth 20000 in
theorem ggX4_digestOfPing_X4_findOwn : GoodIn wsX4_digestOfPing wsX4_findOwn := goodIn_r _ [42, 43, 44, 45, 10, 46, 47, 48, 49, 50, 51, 52, 53, 54, 55, 56, 57, 58, 8, 59, 60, 61, 62, 63, 64, 65, 66, 67, 68, 69, 70, 71, 72, 73, 74, 75, 76, 77, 78, 79, 80, 81, 82, 83, 84, 85, 86, 87, 88, 89, 90, 18, 19, 20, 15, 21, 22, 23, 13, 14, 16, 17, 91, 92, 93, 94, 95, 96, 97, 98, 99, 100, 101, 102, 103, 104, 105, 12, 106, 107, 108, 109, 110, 25, 26, 27, 28, 111, 112, 113, 114, 115, 30, 31, 32, 33, 116, 117, 118, 119, 154, 155, 156, 157, 158, 159, 160, 161, 162, 163, 164, 165, 166, 167, 173, 174, 175, 176, 177, 178, 179, 180, 181, 182, 183, 184, 168, 169, 170, 171, 172] (by decide +kernel) (by decide +kernel)
set_option maxRecDepth 20000 in
theorem gX4_digestOfPing_X4_findOwn : GoodIn wsX4_digestOfPing (wsV RX4 155 RX4 yX4_findOwn wsX4_findOwn) := goodIn_app (goodIn_of _ (by decide +kernel)) ggX4_digestOfPing_X4_findOwn
set_option maxRecDepth 20000 in
theorem ggX4_digestOfPing_X4_judge : GoodIn wsX4_digestOfPing wsX4_judge := goodIn_r _ [124, 45, 125, 10, 126, 127, 128, 129, 130, 8, 131, 2, 56, 57, 58, 59, 60, 61, 62, 63, 64, 65, 66, 67, 68, 69, 70, 71, 72, 73, 74, 75, 76, 77, 78, 79, 80, 81, 82, 83, 84, 85, 86, 87, 88, 89, 90, 34, 35, 36, 15, 37, 38, 23, 13, 14, 16, 17, 132, 133, 134, 135, 136, 137, 154, 155, 156, 157, 158, 159, 160, 161, 162, 163, 164, 165, 166, 167, 173, 174, 175, 176, 177, 182, 183, 184, 168, 169, 170, 171, 172] (by decide +kernel) (by decide +kernel)
set_option maxRecDepth 20000 in
theorem gX4_digestOfPing_X4_judge : GoodIn wsX4_digestOfPing (wsV RX4 205 RX4 yX4_judge wsX4_judge) := goodIn_app (goodIn_of _ (by decide +kernel)) ggX4_digestOfPing_X4_judge
set_option maxRecDepth 20000 in
theorem ggX4_digestOfPing_X4_findPace : GoodIn wsX4_digestOfPing wsX4_findPace := goodIn_r _ [141, 3, 45, 10, 43, 47, 48, 49, 50, 51, 52, 53, 54, 55, 18, 19, 20, 15, 21, 22, 23, 13, 14, 16, 17, 91, 92, 93, 94, 95, 8, 96, 97, 98, 99, 100, 101, 102, 103, 104, 105, 142, 143, 144, 145, 154, 155, 156, 157, 158, 159, 160, 161, 162, 163, 164, 165, 166, 167, 173, 174, 175, 176, 177, 178, 179, 180, 181, 168, 169, 170, 171, 172] (by decide +kernel) (by decide +kernel)
set_option maxRecDepth 20000 in
theorem gX4_digestOfPing_X4_findPace : GoodIn wsX4_digestOfPing (wsV RX4 215 RX4 yX4_findPace wsX4_findPace) := goodIn_app (goodIn_of _ (by decide +kernel)) ggX4_digestOfPing_X4_findPace
set_option maxRecDepth 20000 in
theorem ggX4_digestOfPing_X1_east : GoodIn wsX4_digestOfPing wsX1_east := goodIn_r _ [149, 52, 53, 54, 95, 8, 96, 97, 98, 99, 100, 101, 102, 103, 178, 179, 180, 181] (by decide +kernel) (by decide +kernel)
set_option maxRecDepth 20000 in
theorem gX4_digestOfPing_X1_east : GoodIn wsX4_digestOfPing (wsV RX4 308 RX1 yX1_east wsX1_east) := goodIn_app (goodIn_of _ (by decide +kernel)) ggX4_digestOfPing_X1_east
set_option maxRecDepth 20000 in
theorem ggX4_digestOfPing_X1_north : GoodIn wsX4_digestOfPing wsX1_north := goodIn_r _ [153, 52, 53, 55, 104, 8, 105, 101, 102, 103, 100, 97, 98, 99, 178, 179, 180, 181] (by decide +kernel) (by decide +kernel)
set_option maxRecDepth 20000 in
theorem gX4_digestOfPing_X1_north : GoodIn wsX4_digestOfPing (wsV RX4 311 RX1 yX1_north wsX1_north) := goodIn_app (goodIn_of _ (by decide +kernel)) ggX4_digestOfPing_X1_north
theorem dX4_digestOfPing_0 : decode cX4_digestOfPing 0 = .ok (.lload_n 1, 1) := by decide +kernel
theorem dX4_digestOfPing_1 : decode cX4_digestOfPing 1 = .ok (.lstore 4, 2) := by decide +kernel
theorem dX4_digestOfPing_3 : decode cX4_digestOfPing 3 = .ok (.iconst 0, 1) := by decide +kernel
theorem dX4_digestOfPing_4 : decode cX4_digestOfPing 4 = .ok (.istore 6, 2) := by decide +kernel
theorem dX4_digestOfPing_6 : decode cX4_digestOfPing 6 = .ok (.iload 6, 2) := by decide +kernel
theorem dX4_digestOfPing_8 : decode cX4_digestOfPing 8 = .ok (.iconst 4, 1) := by decide +kernel
theorem dX4_digestOfPing_9 : decode cX4_digestOfPing 9 = .ok (.if_icmp .gt 26, 3) := by decide +kernel
theorem dX4_digestOfPing_12 : decode cX4_digestOfPing 12 = .ok (.ldc2_w 260, 3) := by decide +kernel
theorem dX4_digestOfPing_15 : decode cX4_digestOfPing 15 = .ok (.lload 4, 2) := by decide +kernel
theorem dX4_digestOfPing_17 : decode cX4_digestOfPing 17 = .ok (.lmul, 1) := by decide +kernel
theorem dX4_digestOfPing_18 : decode cX4_digestOfPing 18 = .ok (.aload_n 0, 1) := by decide +kernel
theorem dX4_digestOfPing_19 : decode cX4_digestOfPing 19 = .ok (.iload_n 3, 1) := by decide +kernel
theorem dX4_digestOfPing_20 : decode cX4_digestOfPing 20 = .ok (.iload 6, 2) := by decide +kernel
theorem dX4_digestOfPing_22 : decode cX4_digestOfPing 22 = .ok (.invokevirtual 305, 3) := by decide +kernel
theorem dX4_digestOfPing_25 : decode cX4_digestOfPing 25 = .ok (.i2l, 1) := by decide +kernel
theorem dX4_digestOfPing_26 : decode cX4_digestOfPing 26 = .ok (.ladd, 1) := by decide +kernel
theorem dX4_digestOfPing_27 : decode cX4_digestOfPing 27 = .ok (.lstore 4, 2) := by decide +kernel
theorem dX4_digestOfPing_29 : decode cX4_digestOfPing 29 = .ok (.iinc 6 1, 3) := by decide +kernel
theorem dX4_digestOfPing_32 : decode cX4_digestOfPing 32 = .ok (.goto (-26), 3) := by decide +kernel
theorem dX4_digestOfPing_35 : decode cX4_digestOfPing 35 = .ok (.aload_n 0, 1) := by decide +kernel
theorem dX4_digestOfPing_36 : decode cX4_digestOfPing 36 = .ok (.iload_n 3, 1) := by decide +kernel
theorem dX4_digestOfPing_37 : decode cX4_digestOfPing 37 = .ok (.invokevirtual 155, 3) := by decide +kernel
theorem dX4_digestOfPing_40 : decode cX4_digestOfPing 40 = .ok (.istore 6, 2) := by decide +kernel
theorem dX4_digestOfPing_42 : decode cX4_digestOfPing 42 = .ok (.iconst 0, 1) := by decide +kernel
theorem dX4_digestOfPing_43 : decode cX4_digestOfPing 43 = .ok (.istore 7, 2) := by decide +kernel
theorem dX4_digestOfPing_45 : decode cX4_digestOfPing 45 = .ok (.iload 7, 2) := by decide +kernel
theorem dX4_digestOfPing_47 : decode cX4_digestOfPing 47 = .ok (.aload_n 0, 1) := by decide +kernel
theorem dX4_digestOfPing_48 : decode cX4_digestOfPing 48 = .ok (.getfield 45, 3) := by decide +kernel
theorem dX4_digestOfPing_51 : decode cX4_digestOfPing 51 = .ok (.if_icmp .ge 82, 3) := by decide +kernel
theorem dX4_digestOfPing_54 : decode cX4_digestOfPing 54 = .ok (.aload_n 0, 1) := by decide +kernel
theorem dX4_digestOfPing_55 : decode cX4_digestOfPing 55 = .ok (.iload_n 3, 1) := by decide +kernel
theorem dX4_digestOfPing_56 : decode cX4_digestOfPing 56 = .ok (.iload 7, 2) := by decide +kernel
theorem dX4_digestOfPing_58 : decode cX4_digestOfPing 58 = .ok (.iload 6, 2) := by decide +kernel
theorem dX4_digestOfPing_60 : decode cX4_digestOfPing 60 = .ok (.invokevirtual 205, 3) := by decide +kernel
theorem dX4_digestOfPing_63 : decode cX4_digestOfPing 63 = .ok (.istore 8, 2) := by decide +kernel
theorem dX4_digestOfPing_65 : decode cX4_digestOfPing 65 = .ok (.ldc2_w 260, 3) := by decide +kernel
theorem dX4_digestOfPing_68 : decode cX4_digestOfPing 68 = .ok (.lload 4, 2) := by decide +kernel
theorem dX4_digestOfPing_70 : decode cX4_digestOfPing 70 = .ok (.lmul, 1) := by decide +kernel
theorem dX4_digestOfPing_71 : decode cX4_digestOfPing 71 = .ok (.iload 8, 2) := by decide +kernel
theorem dX4_digestOfPing_73 : decode cX4_digestOfPing 73 = .ok (.i2l, 1) := by decide +kernel
theorem dX4_digestOfPing_74 : decode cX4_digestOfPing 74 = .ok (.ladd, 1) := by decide +kernel
theorem dX4_digestOfPing_75 : decode cX4_digestOfPing 75 = .ok (.lstore 4, 2) := by decide +kernel
theorem dX4_digestOfPing_77 : decode cX4_digestOfPing 77 = .ok (.iload 8, 2) := by decide +kernel
theorem dX4_digestOfPing_79 : decode cX4_digestOfPing 79 = .ok (.ifCond .ne 48, 3) := by decide +kernel
theorem dX4_digestOfPing_82 : decode cX4_digestOfPing 82 = .ok (.aload_n 0, 1) := by decide +kernel
theorem dX4_digestOfPing_83 : decode cX4_digestOfPing 83 = .ok (.iload_n 3, 1) := by decide +kernel
theorem dX4_digestOfPing_84 : decode cX4_digestOfPing 84 = .ok (.invokevirtual 215, 3) := by decide +kernel
theorem dX4_digestOfPing_87 : decode cX4_digestOfPing 87 = .ok (.ldc2_w 260, 3) := by decide +kernel
theorem dX4_digestOfPing_90 : decode cX4_digestOfPing 90 = .ok (.lload 4, 2) := by decide +kernel
theorem dX4_digestOfPing_92 : decode cX4_digestOfPing 92 = .ok (.lmul, 1) := by decide +kernel
theorem dX4_digestOfPing_93 : decode cX4_digestOfPing 93 = .ok (.aload_n 0, 1) := by decide +kernel
theorem dX4_digestOfPing_94 : decode cX4_digestOfPing 94 = .ok (.getfield 36, 3) := by decide +kernel
theorem dX4_digestOfPing_97 : decode cX4_digestOfPing 97 = .ok (.aload_n 0, 1) := by decide +kernel
theorem dX4_digestOfPing_98 : decode cX4_digestOfPing 98 = .ok (.getfield 52, 3) := by decide +kernel
theorem dX4_digestOfPing_101 : decode cX4_digestOfPing 101 = .ok (.invokevirtual 308, 3) := by decide +kernel
theorem dX4_digestOfPing_104 : decode cX4_digestOfPing 104 = .ok (.ladd, 1) := by decide +kernel
theorem dX4_digestOfPing_105 : decode cX4_digestOfPing 105 = .ok (.lstore 4, 2) := by decide +kernel
theorem dX4_digestOfPing_107 : decode cX4_digestOfPing 107 = .ok (.ldc2_w 260, 3) := by decide +kernel
theorem dX4_digestOfPing_110 : decode cX4_digestOfPing 110 = .ok (.lload 4, 2) := by decide +kernel
theorem dX4_digestOfPing_112 : decode cX4_digestOfPing 112 = .ok (.lmul, 1) := by decide +kernel
theorem dX4_digestOfPing_113 : decode cX4_digestOfPing 113 = .ok (.aload_n 0, 1) := by decide +kernel
theorem dX4_digestOfPing_114 : decode cX4_digestOfPing 114 = .ok (.getfield 36, 3) := by decide +kernel
theorem dX4_digestOfPing_117 : decode cX4_digestOfPing 117 = .ok (.aload_n 0, 1) := by decide +kernel
theorem dX4_digestOfPing_118 : decode cX4_digestOfPing 118 = .ok (.getfield 52, 3) := by decide +kernel
theorem dX4_digestOfPing_121 : decode cX4_digestOfPing 121 = .ok (.invokevirtual 311, 3) := by decide +kernel
theorem dX4_digestOfPing_124 : decode cX4_digestOfPing 124 = .ok (.ladd, 1) := by decide +kernel
theorem dX4_digestOfPing_125 : decode cX4_digestOfPing 125 = .ok (.lstore 4, 2) := by decide +kernel
theorem dX4_digestOfPing_127 : decode cX4_digestOfPing 127 = .ok (.iinc 7 1, 3) := by decide +kernel
theorem dX4_digestOfPing_130 : decode cX4_digestOfPing 130 = .ok (.goto (-85), 3) := by decide +kernel
theorem dX4_digestOfPing_133 : decode cX4_digestOfPing 133 = .ok (.lload 4, 2) := by decide +kernel
theorem dX4_digestOfPing_135 : decode cX4_digestOfPing 135 = .ok (.lreturn, 1) := by decide +kernel
set_option maxRecDepth 20000 in
theorem ggX4_sumGood_X1_rest : GoodIn wsX4_sumGood wsX1_rest := goodIn_r _ [6, 7, 8, 9, 10, 154, 155, 156, 157] (by decide +kernel) (by decide +kernel)
set_option maxRecDepth 20000 in
theorem gX4_sumGood_X1_rest : GoodIn wsX4_sumGood (wsV RX4 286 RX1 yX1_rest wsX1_rest) := goodIn_app (goodIn_of _ (by decide +kernel)) ggX4_sumGood_X1_rest
set_option maxRecDepth 20000 in
theorem ggX4_sumGood_X4_findOwn : GoodIn wsX4_sumGood wsX4_findOwn := goodIn_r _ [15, 16, 17, 18, 19, 20, 2, 3, 4, 5, 6, 7, 8, 9, 10, 21, 22, 23, 14, 24, 25, 26, 27, 28, 29, 30, 31, 32, 33, 34, 35, 36, 37, 38, 39, 40, 41, 42, 43, 44, 45, 46, 47, 48, 49, 50, 51, 52, 53, 54, 55, 56, 57, 58, 59, 60, 61, 62, 63, 64, 65, 66, 67, 68, 69, 70, 71, 72, 73, 74, 75, 76, 77, 78, 79, 80, 81, 82, 83, 84, 85, 86, 87, 88, 89, 90, 91, 92, 93, 94, 95, 96, 97, 98, 99, 100, 101, 102, 103, 104, 140, 141, 142, 143, 144, 145, 146, 147, 148, 149, 150, 151, 152, 153, 158, 159, 160, 161, 162, 154, 155, 156, 157, 163, 164, 165, 166, 167, 168, 169, 170] (by decide +kernel) (by decide +kernel)
set_option maxRecDepth 20000 in
theorem gX4_sumGood_X4_findOwn : GoodIn wsX4_sumGood (wsV RX4 155 RX4 yX4_findOwn wsX4_findOwn) := goodIn_app (goodIn_of _ (by decide +kernel)) ggX4_sumGood_X4_findOwn
set_option maxRecDepth 20000 in
theorem ggX4_sumGood_X4_judge : GoodIn wsX4_sumGood wsX4_judge := goodIn_r _ [108, 18, 109, 19, 110, 111, 112, 113, 114, 14, 115, 116, 21, 22, 23, 24, 25, 26, 27, 28, 29, 30, 31, 32, 33, 34, 35, 36, 37, 38, 39, 40, 41, 42, 43, 44, 45, 46, 47, 48, 49, 50, 51, 52, 53, 54, 55, 117, 118, 119, 59, 120, 121, 62, 63, 64, 65, 66, 122, 123, 124, 125, 126, 127, 140, 141, 142, 143, 144, 145, 146, 147, 148, 149, 150, 151, 152, 153, 158, 159, 160, 161, 162, 163, 164, 165, 166, 167, 168, 169, 170] (by decide +kernel) (by decide +kernel)
set_option maxRecDepth 20000 in
theorem gX4_sumGood_X4_judge : GoodIn wsX4_sumGood (wsV RX4 205 RX4 yX4_judge wsX4_judge) := goodIn_app (goodIn_of _ (by decide +kernel)) ggX4_sumGood_X4_judge
set_option maxRecDepth 20000 in
theorem ggX4_sumGood_X4_findPace : GoodIn wsX4_sumGood wsX4_findPace := goodIn_r _ [131, 1, 18, 19, 16, 2, 3, 4, 5, 6, 7, 8, 9, 10, 56, 57, 58, 59, 60, 61, 62, 63, 64, 65, 66, 67, 68, 69, 70, 71, 14, 72, 73, 74, 75, 76, 77, 78, 79, 80, 81, 132, 133, 134, 135, 140, 141, 142, 143, 144, 145, 146, 147, 148, 149, 150, 151, 152, 153, 158, 159, 160, 161, 162, 154, 155, 156, 157, 166, 167, 168, 169, 170] (by decide +kernel) (by decide +kernel)
set_option maxRecDepth 20000 in
theorem gX4_sumGood_X4_findPace : GoodIn wsX4_sumGood (wsV RX4 215 RX4 yX4_findPace wsX4_findPace) := goodIn_app (goodIn_of _ (by decide +kernel)) ggX4_sumGood_X4_findPace
set_option maxRecDepth 20000 in
theorem ggX4_sumGood_X1_add : GoodIn wsX4_sumGood wsX1_add := goodIn_r _ [139, 7, 8, 9, 10, 154, 155, 156, 157] (by decide +kernel) (by decide +kernel)
set_option maxRecDepth 20000 in
theorem gX4_sumGood_X1_add : GoodIn wsX4_sumGood (wsV RX4 314 RX1 yX1_add wsX1_add) := goodIn_app (goodIn_of _ (by decide +kernel)) ggX4_sumGood_X1_add
theorem dX4_sumGood_0 : decode cX4_sumGood 0 = .ok (.aload_n 1, 1) := by decide +kernel
theorem dX4_sumGood_1 : decode cX4_sumGood 1 = .ok (.invokevirtual 286, 3) := by decide +kernel
theorem dX4_sumGood_4 : decode cX4_sumGood 4 = .ok (.iconst 0, 1) := by decide +kernel
theorem dX4_sumGood_5 : decode cX4_sumGood 5 = .ok (.istore 6, 2) := by decide +kernel
theorem dX4_sumGood_7 : decode cX4_sumGood 7 = .ok (.iload_n 2, 1) := by decide +kernel
theorem dX4_sumGood_8 : decode cX4_sumGood 8 = .ok (.istore 7, 2) := by decide +kernel
theorem dX4_sumGood_10 : decode cX4_sumGood 10 = .ok (.iload 7, 2) := by decide +kernel
theorem dX4_sumGood_12 : decode cX4_sumGood 12 = .ok (.iload_n 3, 1) := by decide +kernel
theorem dX4_sumGood_13 : decode cX4_sumGood 13 = .ok (.if_icmp .gt 64, 3) := by decide +kernel
theorem dX4_sumGood_16 : decode cX4_sumGood 16 = .ok (.aload_n 0, 1) := by decide +kernel
theorem dX4_sumGood_17 : decode cX4_sumGood 17 = .ok (.iload 7, 2) := by decide +kernel
theorem dX4_sumGood_19 : decode cX4_sumGood 19 = .ok (.invokevirtual 155, 3) := by decide +kernel
theorem dX4_sumGood_22 : decode cX4_sumGood 22 = .ok (.istore 8, 2) := by decide +kernel
theorem dX4_sumGood_24 : decode cX4_sumGood 24 = .ok (.iload 4, 2) := by decide +kernel
theorem dX4_sumGood_26 : decode cX4_sumGood 26 = .ok (.istore 9, 2) := by decide +kernel
theorem dX4_sumGood_28 : decode cX4_sumGood 28 = .ok (.iload 9, 2) := by decide +kernel
theorem dX4_sumGood_30 : decode cX4_sumGood 30 = .ok (.iload 5, 2) := by decide +kernel
theorem dX4_sumGood_32 : decode cX4_sumGood 32 = .ok (.if_icmp .gt 39, 3) := by decide +kernel
theorem dX4_sumGood_35 : decode cX4_sumGood 35 = .ok (.aload_n 0, 1) := by decide +kernel
theorem dX4_sumGood_36 : decode cX4_sumGood 36 = .ok (.iload 7, 2) := by decide +kernel
theorem dX4_sumGood_38 : decode cX4_sumGood 38 = .ok (.iload 9, 2) := by decide +kernel
theorem dX4_sumGood_40 : decode cX4_sumGood 40 = .ok (.iload 8, 2) := by decide +kernel
theorem dX4_sumGood_42 : decode cX4_sumGood 42 = .ok (.invokevirtual 205, 3) := by decide +kernel
theorem dX4_sumGood_45 : decode cX4_sumGood 45 = .ok (.ifCond .ne 20, 3) := by decide +kernel
theorem dX4_sumGood_48 : decode cX4_sumGood 48 = .ok (.aload_n 0, 1) := by decide +kernel
theorem dX4_sumGood_49 : decode cX4_sumGood 49 = .ok (.iload 7, 2) := by decide +kernel
theorem dX4_sumGood_51 : decode cX4_sumGood 51 = .ok (.invokevirtual 215, 3) := by decide +kernel
theorem dX4_sumGood_54 : decode cX4_sumGood 54 = .ok (.aload_n 1, 1) := by decide +kernel
theorem dX4_sumGood_55 : decode cX4_sumGood 55 = .ok (.aload_n 0, 1) := by decide +kernel
theorem dX4_sumGood_56 : decode cX4_sumGood 56 = .ok (.getfield 36, 3) := by decide +kernel
theorem dX4_sumGood_59 : decode cX4_sumGood 59 = .ok (.invokevirtual 314, 3) := by decide +kernel
theorem dX4_sumGood_62 : decode cX4_sumGood 62 = .ok (.iinc 6 1, 3) := by decide +kernel
theorem dX4_sumGood_65 : decode cX4_sumGood 65 = .ok (.iinc 9 1, 3) := by decide +kernel
theorem dX4_sumGood_68 : decode cX4_sumGood 68 = .ok (.goto (-40), 3) := by decide +kernel
theorem dX4_sumGood_71 : decode cX4_sumGood 71 = .ok (.iinc 7 1, 3) := by decide +kernel
theorem dX4_sumGood_74 : decode cX4_sumGood 74 = .ok (.goto (-64), 3) := by decide +kernel
theorem dX4_sumGood_77 : decode cX4_sumGood 77 = .ok (.iload 6, 2) := by decide +kernel
theorem dX4_sumGood_79 : decode cX4_sumGood 79 = .ok (.ireturn, 1) := by decide +kernel
set_option maxRecDepth 20000 in
theorem ggX4_flowOfPing_X4_findOwn : GoodIn wsX4_flowOfPing wsX4_findOwn := goodIn_r _ [6, 7, 8, 9, 10, 11, 12, 13, 14, 15, 16, 17, 18, 19, 20, 21, 22, 23, 5, 24, 25, 26, 27, 28, 29, 30, 31, 32, 33, 34, 35, 36, 37, 38, 39, 40, 41, 42, 43, 44, 45, 46, 47, 48, 49, 50, 51, 52, 53, 54, 55, 56, 57, 58, 59, 60, 61, 62, 63, 64, 65, 66, 67, 68, 69, 70, 71, 72, 73, 74, 75, 76, 77, 78, 79, 80, 81, 82, 83, 84, 85, 86, 87, 88, 89, 90, 91, 92, 93, 94, 95, 96, 97, 98, 99, 100, 101, 102, 103, 104, 157, 158, 159, 160, 161, 162, 163, 164, 165, 166, 167, 168, 169, 170, 171, 172, 173, 174, 175, 176, 177, 178, 179, 180, 181, 182, 183, 184, 185, 186, 187] (by decide +kernel) (by decide +kernel)
set_option maxRecDepth 20000 in
theorem gX4_flowOfPing_X4_findOwn : GoodIn wsX4_flowOfPing (wsV RX4 155 RX4 yX4_findOwn wsX4_findOwn) := goodIn_app (goodIn_of _ (by decide +kernel)) ggX4_flowOfPing_X4_findOwn
set_option maxRecDepth 20000 in
theorem ggX4_flowOfPing_X4_judge : GoodIn wsX4_flowOfPing wsX4_judge := goodIn_r _ [108, 9, 109, 10, 110, 111, 112, 113, 114, 5, 115, 1, 21, 22, 23, 24, 25, 26, 27, 28, 29, 30, 31, 32, 33, 34, 35, 36, 37, 38, 39, 40, 41, 42, 43, 44, 45, 46, 47, 48, 49, 50, 51, 52, 53, 54, 55, 116, 117, 118, 59, 119, 120, 62, 63, 64, 65, 66, 121, 122, 123, 124, 125, 126, 157, 158, 159, 160, 161, 162, 163, 164, 165, 166, 167, 168, 169, 170, 171, 172, 173, 174, 175, 180, 181, 182, 183, 184, 185, 186, 187] (by decide +kernel) (by decide +kernel)
set_option maxRecDepth 20000 in
theorem gX4_flowOfPing_X4_judge : GoodIn wsX4_flowOfPing (wsV RX4 205 RX4 yX4_judge wsX4_judge) := goodIn_app (goodIn_of _ (by decide +kernel)) ggX4_flowOfPing_X4_judge
set_option maxRecDepth 20000 in
theorem ggX4_flowOfPing_X4_findPace : GoodIn wsX4_flowOfPing wsX4_findPace := goodIn_r _ [130, 131, 9, 10, 7, 12, 13, 14, 15, 16, 17, 18, 19, 20, 56, 57, 58, 59, 60, 61, 62, 63, 64, 65, 66, 67, 68, 69, 70, 71, 5, 72, 73, 74, 75, 76, 77, 78, 79, 80, 81, 132, 133, 134, 135, 157, 158, 159, 160, 161, 162, 163, 164, 165, 166, 167, 168, 169, 170, 171, 172, 173, 174, 175, 176, 177, 178, 179, 183, 184, 185, 186, 187] (by decide +kernel) (by decide +kernel)
set_option maxRecDepth 20000 in
theorem gX4_flowOfPing_X4_findPace : GoodIn wsX4_flowOfPing (wsV RX4 215 RX4 yX4_findPace wsX4_findPace) := goodIn_app (goodIn_of _ (by decide +kernel)) ggX4_flowOfPing_X4_findPace
set_option maxRecDepth 20000 in
theorem ggX4_flowOfPing_X4_flowOfPace : GoodIn wsX4_flowOfPing wsX4_flowOfPace := goodIn_r _ [139, 131, 140, 10, 141, 142, 143, 15, 144, 17, 18, 19, 71, 5, 72, 73, 74, 75, 76, 77, 78, 79, 92, 93, 94, 59, 95, 96, 97, 98, 99, 100, 62, 63, 64, 65, 66, 145, 146, 147, 148, 20, 80, 81, 83, 84, 85, 86, 87, 88, 89, 90, 91, 157, 158, 159, 160, 161, 162, 163, 164, 165, 166, 167, 168, 169, 170, 176, 177, 178, 179, 183, 184, 185, 186, 187] (by decide +kernel) (by decide +kernel)
set_option maxRecDepth 20000 in
theorem gX4_flowOfPing_X4_flowOfPace : GoodIn wsX4_flowOfPing (wsV RX4 317 RX4 yX4_flowOfPace wsX4_flowOfPace) := goodIn_app (goodIn_of _ (by decide +kernel)) ggX4_flowOfPing_X4_flowOfPace
set_option maxRecDepth 20000 in
theorem ggX4_flowOfPing_X4_cellsUnder : GoodIn wsX4_flowOfPing wsX4_cellsUnder := goodIn_r _ [152, 1, 10, 153, 154, 155, 156, 116, 117, 118, 59, 119, 120, 62, 63, 64, 65, 66, 157, 158, 159, 160, 161, 162, 163, 164, 165, 166, 167, 168, 169, 170, 183, 184, 185, 186, 187] (by decide +kernel) (by decide +kernel)
set_option maxRecDepth 20000 in
theorem gX4_flowOfPing_X4_cellsUnder : GoodIn wsX4_flowOfPing (wsV RX4 320 RX4 yX4_cellsUnder wsX4_cellsUnder) := goodIn_app (goodIn_of _ (by decide +kernel)) ggX4_flowOfPing_X4_cellsUnder
theorem dX4_flowOfPing_0 : decode cX4_flowOfPing 0 = .ok (.aload_n 0, 1) := by decide +kernel
theorem dX4_flowOfPing_1 : decode cX4_flowOfPing 1 = .ok (.iload_n 1, 1) := by decide +kernel
theorem dX4_flowOfPing_2 : decode cX4_flowOfPing 2 = .ok (.invokevirtual 155, 3) := by decide +kernel
theorem dX4_flowOfPing_5 : decode cX4_flowOfPing 5 = .ok (.istore_n 3, 1) := by decide +kernel
theorem dX4_flowOfPing_6 : decode cX4_flowOfPing 6 = .ok (.lconst 0, 1) := by decide +kernel
theorem dX4_flowOfPing_7 : decode cX4_flowOfPing 7 = .ok (.lstore 4, 2) := by decide +kernel
theorem dX4_flowOfPing_9 : decode cX4_flowOfPing 9 = .ok (.lconst 0, 1) := by decide +kernel
theorem dX4_flowOfPing_10 : decode cX4_flowOfPing 10 = .ok (.lstore 6, 2) := by decide +kernel
theorem dX4_flowOfPing_12 : decode cX4_flowOfPing 12 = .ok (.iconst (-1), 1) := by decide +kernel
theorem dX4_flowOfPing_13 : decode cX4_flowOfPing 13 = .ok (.istore 8, 2) := by decide +kernel
theorem dX4_flowOfPing_15 : decode cX4_flowOfPing 15 = .ok (.iconst 0, 1) := by decide +kernel
theorem dX4_flowOfPing_16 : decode cX4_flowOfPing 16 = .ok (.istore 9, 2) := by decide +kernel
theorem dX4_flowOfPing_18 : decode cX4_flowOfPing 18 = .ok (.iload 9, 2) := by decide +kernel
theorem dX4_flowOfPing_20 : decode cX4_flowOfPing 20 = .ok (.aload_n 0, 1) := by decide +kernel
theorem dX4_flowOfPing_21 : decode cX4_flowOfPing 21 = .ok (.getfield 45, 3) := by decide +kernel
theorem dX4_flowOfPing_24 : decode cX4_flowOfPing 24 = .ok (.if_icmp .ge 66, 3) := by decide +kernel
theorem dX4_flowOfPing_27 : decode cX4_flowOfPing 27 = .ok (.aload_n 0, 1) := by decide +kernel
theorem dX4_flowOfPing_28 : decode cX4_flowOfPing 28 = .ok (.iload_n 1, 1) := by decide +kernel
theorem dX4_flowOfPing_29 : decode cX4_flowOfPing 29 = .ok (.iload 9, 2) := by decide +kernel
theorem dX4_flowOfPing_31 : decode cX4_flowOfPing 31 = .ok (.iload_n 3, 1) := by decide +kernel
theorem dX4_flowOfPing_32 : decode cX4_flowOfPing 32 = .ok (.invokevirtual 205, 3) := by decide +kernel
theorem dX4_flowOfPing_35 : decode cX4_flowOfPing 35 = .ok (.ifCond .eq 6, 3) := by decide +kernel
theorem dX4_flowOfPing_38 : decode cX4_flowOfPing 38 = .ok (.goto 46, 3) := by decide +kernel
theorem dX4_flowOfPing_41 : decode cX4_flowOfPing 41 = .ok (.aload_n 0, 1) := by decide +kernel
theorem dX4_flowOfPing_42 : decode cX4_flowOfPing 42 = .ok (.iload_n 1, 1) := by decide +kernel
theorem dX4_flowOfPing_43 : decode cX4_flowOfPing 43 = .ok (.invokevirtual 215, 3) := by decide +kernel
theorem dX4_flowOfPing_46 : decode cX4_flowOfPing 46 = .ok (.aload_n 0, 1) := by decide +kernel
theorem dX4_flowOfPing_47 : decode cX4_flowOfPing 47 = .ok (.iload_n 1, 1) := by decide +kernel
theorem dX4_flowOfPing_48 : decode cX4_flowOfPing 48 = .ok (.invokevirtual 317, 3) := by decide +kernel
theorem dX4_flowOfPing_51 : decode cX4_flowOfPing 51 = .ok (.lstore 6, 2) := by decide +kernel
theorem dX4_flowOfPing_53 : decode cX4_flowOfPing 53 = .ok (.iload_n 2, 1) := by decide +kernel
theorem dX4_flowOfPing_54 : decode cX4_flowOfPing 54 = .ok (.ifCond .eq 19, 3) := by decide +kernel
theorem dX4_flowOfPing_57 : decode cX4_flowOfPing 57 = .ok (.iload 8, 2) := by decide +kernel
theorem dX4_flowOfPing_59 : decode cX4_flowOfPing 59 = .ok (.ifCond .ge 14, 3) := by decide +kernel
theorem dX4_flowOfPing_62 : decode cX4_flowOfPing 62 = .ok (.lload 4, 2) := by decide +kernel
theorem dX4_flowOfPing_64 : decode cX4_flowOfPing 64 = .ok (.lload 6, 2) := by decide +kernel
theorem dX4_flowOfPing_66 : decode cX4_flowOfPing 66 = .ok (.iload 9, 2) := by decide +kernel
theorem dX4_flowOfPing_68 : decode cX4_flowOfPing 68 = .ok (.i2l, 1) := by decide +kernel
theorem dX4_flowOfPing_69 : decode cX4_flowOfPing 69 = .ok (.lmul, 1) := by decide +kernel
theorem dX4_flowOfPing_70 : decode cX4_flowOfPing 70 = .ok (.ladd, 1) := by decide +kernel
theorem dX4_flowOfPing_71 : decode cX4_flowOfPing 71 = .ok (.lstore 4, 2) := by decide +kernel
theorem dX4_flowOfPing_73 : decode cX4_flowOfPing 73 = .ok (.lload 4, 2) := by decide +kernel
theorem dX4_flowOfPing_75 : decode cX4_flowOfPing 75 = .ok (.lload 6, 2) := by decide +kernel
theorem dX4_flowOfPing_77 : decode cX4_flowOfPing 77 = .ok (.ladd, 1) := by decide +kernel
theorem dX4_flowOfPing_78 : decode cX4_flowOfPing 78 = .ok (.lstore 4, 2) := by decide +kernel
theorem dX4_flowOfPing_80 : decode cX4_flowOfPing 80 = .ok (.iload 9, 2) := by decide +kernel
theorem dX4_flowOfPing_82 : decode cX4_flowOfPing 82 = .ok (.istore 8, 2) := by decide +kernel
theorem dX4_flowOfPing_84 : decode cX4_flowOfPing 84 = .ok (.iinc 9 1, 3) := by decide +kernel
theorem dX4_flowOfPing_87 : decode cX4_flowOfPing 87 = .ok (.goto (-69), 3) := by decide +kernel
theorem dX4_flowOfPing_90 : decode cX4_flowOfPing 90 = .ok (.iload_n 2, 1) := by decide +kernel
theorem dX4_flowOfPing_91 : decode cX4_flowOfPing 91 = .ok (.ifCond .eq 20, 3) := by decide +kernel
theorem dX4_flowOfPing_94 : decode cX4_flowOfPing 94 = .ok (.lload 4, 2) := by decide +kernel
theorem dX4_flowOfPing_96 : decode cX4_flowOfPing 96 = .ok (.lload 6, 2) := by decide +kernel
theorem dX4_flowOfPing_98 : decode cX4_flowOfPing 98 = .ok (.aload_n 0, 1) := by decide +kernel
theorem dX4_flowOfPing_99 : decode cX4_flowOfPing 99 = .ok (.iload_n 1, 1) := by decide +kernel
theorem dX4_flowOfPing_100 : decode cX4_flowOfPing 100 = .ok (.iload 8, 2) := by decide +kernel
theorem dX4_flowOfPing_102 : decode cX4_flowOfPing 102 = .ok (.invokevirtual 320, 3) := by decide +kernel
theorem dX4_flowOfPing_105 : decode cX4_flowOfPing 105 = .ok (.i2l, 1) := by decide +kernel
theorem dX4_flowOfPing_106 : decode cX4_flowOfPing 106 = .ok (.lmul, 1) := by decide +kernel
theorem dX4_flowOfPing_107 : decode cX4_flowOfPing 107 = .ok (.ladd, 1) := by decide +kernel
theorem dX4_flowOfPing_108 : decode cX4_flowOfPing 108 = .ok (.goto 5, 3) := by decide +kernel
theorem dX4_flowOfPing_111 : decode cX4_flowOfPing 111 = .ok (.lload 4, 2) := by decide +kernel
theorem dX4_flowOfPing_113 : decode cX4_flowOfPing 113 = .ok (.lreturn, 1) := by decide +kernel
set_option maxRecDepth 20000 in
theorem ggX4_flowOfPace_X1_east : GoodIn wsX4_flowOfPace wsX1_east := goodIn_r _ [8, 9, 10, 11, 12, 13, 14, 15, 16, 17, 18, 19, 20, 21, 67, 68, 69, 70] (by decide +kernel) (by decide +kernel)
set_option maxRecDepth 20000 in
theorem gX4_flowOfPace_X1_east : GoodIn wsX4_flowOfPace (wsV RX4 308 RX1 yX1_east wsX1_east) := goodIn_app (goodIn_of _ (by decide +kernel)) ggX4_flowOfPace_X1_east
set_option maxRecDepth 20000 in
theorem ggX4_flowOfPace_X3_stepY : GoodIn wsX4_flowOfPace wsX3_stepY := goodIn_r _ [26, 27, 28, 29, 25, 30, 31, 32, 33, 34, 35, 36, 71, 72, 73, 74, 75] (by decide +kernel) (by decide +kernel)
set_option maxRecDepth 20000 in
theorem gX4_flowOfPace_X3_stepY : GoodIn wsX4_flowOfPace (wsV RX4 298 RX3 yX3_stepY wsX3_stepY) := goodIn_app (goodIn_of _ (by decide +kernel)) ggX4_flowOfPace_X3_stepY
set_option maxRecDepth 20000 in
theorem ggX4_flowOfPace_X1_north : GoodIn wsX4_flowOfPace wsX1_north := goodIn_r _ [40, 9, 10, 41, 42, 13, 43, 19, 20, 21, 18, 15, 16, 17, 67, 68, 69, 70] (by decide +kernel) (by decide +kernel)
set_option maxRecDepth 20000 in
theorem gX4_flowOfPace_X1_north : GoodIn wsX4_flowOfPace (wsV RX4 311 RX1 yX1_north wsX1_north) := goodIn_app (goodIn_of _ (by decide +kernel)) ggX4_flowOfPace_X1_north
set_option maxRecDepth 20000 in
theorem ggX4_flowOfPace_X3_stepX : GoodIn wsX4_flowOfPace wsX3_stepX := goodIn_r _ [47, 48, 49, 50, 25, 51, 52, 32, 33, 34, 35, 36, 71, 72, 73, 74, 75] (by decide +kernel) (by decide +kernel)
set_option maxRecDepth 20000 in
theorem gX4_flowOfPace_X3_stepX : GoodIn wsX4_flowOfPace (wsV RX4 295 RX3 yX3_stepX wsX3_stepX) := goodIn_app (goodIn_of _ (by decide +kernel)) ggX4_flowOfPace_X3_stepX
theorem dX4_flowOfPace_0 : decode cX4_flowOfPace 0 = .ok (.aload_n 0, 1) := by decide +kernel
theorem dX4_flowOfPace_1 : decode cX4_flowOfPace 1 = .ok (.getfield 36, 3) := by decide +kernel
theorem dX4_flowOfPace_4 : decode cX4_flowOfPace 4 = .ok (.aload_n 0, 1) := by decide +kernel
theorem dX4_flowOfPace_5 : decode cX4_flowOfPace 5 = .ok (.getfield 52, 3) := by decide +kernel
theorem dX4_flowOfPace_8 : decode cX4_flowOfPace 8 = .ok (.invokevirtual 308, 3) := by decide +kernel
theorem dX4_flowOfPace_11 : decode cX4_flowOfPace 11 = .ok (.aload_n 0, 1) := by decide +kernel
theorem dX4_flowOfPace_12 : decode cX4_flowOfPace 12 = .ok (.getfield 18, 3) := by decide +kernel
theorem dX4_flowOfPace_15 : decode cX4_flowOfPace 15 = .ok (.iload_n 1, 1) := by decide +kernel
theorem dX4_flowOfPace_16 : decode cX4_flowOfPace 16 = .ok (.invokevirtual 298, 3) := by decide +kernel
theorem dX4_flowOfPace_19 : decode cX4_flowOfPace 19 = .ok (.lmul, 1) := by decide +kernel
theorem dX4_flowOfPace_20 : decode cX4_flowOfPace 20 = .ok (.aload_n 0, 1) := by decide +kernel
theorem dX4_flowOfPace_21 : decode cX4_flowOfPace 21 = .ok (.getfield 36, 3) := by decide +kernel
theorem dX4_flowOfPace_24 : decode cX4_flowOfPace 24 = .ok (.aload_n 0, 1) := by decide +kernel
theorem dX4_flowOfPace_25 : decode cX4_flowOfPace 25 = .ok (.getfield 52, 3) := by decide +kernel
theorem dX4_flowOfPace_28 : decode cX4_flowOfPace 28 = .ok (.invokevirtual 311, 3) := by decide +kernel
theorem dX4_flowOfPace_31 : decode cX4_flowOfPace 31 = .ok (.aload_n 0, 1) := by decide +kernel
theorem dX4_flowOfPace_32 : decode cX4_flowOfPace 32 = .ok (.getfield 18, 3) := by decide +kernel
theorem dX4_flowOfPace_35 : decode cX4_flowOfPace 35 = .ok (.iload_n 1, 1) := by decide +kernel
theorem dX4_flowOfPace_36 : decode cX4_flowOfPace 36 = .ok (.invokevirtual 295, 3) := by decide +kernel
theorem dX4_flowOfPace_39 : decode cX4_flowOfPace 39 = .ok (.lmul, 1) := by decide +kernel
theorem dX4_flowOfPace_40 : decode cX4_flowOfPace 40 = .ok (.lsub, 1) := by decide +kernel
theorem dX4_flowOfPace_41 : decode cX4_flowOfPace 41 = .ok (.lreturn, 1) := by decide +kernel
set_option maxRecDepth 20000 in
theorem ggX4_cellsUnder_X3_depthOf : GoodIn wsX4_cellsUnder wsX3_depthOf := goodIn_r _ [11, 12, 13, 14, 15, 10, 16, 17, 32, 33, 34, 35, 36] (by decide +kernel) (by decide +kernel)
set_option maxRecDepth 20000 in
theorem gX4_cellsUnder_X3_depthOf : GoodIn wsX4_cellsUnder (wsV RX4 152 RX3 yX3_depthOf wsX3_depthOf) := goodIn_app (goodIn_of _ (by decide +kernel)) ggX4_cellsUnder_X3_depthOf
theorem dX4_cellsUnder_0 : decode cX4_cellsUnder 0 = .ok (.aload_n 0, 1) := by decide +kernel
theorem dX4_cellsUnder_1 : decode cX4_cellsUnder 1 = .ok (.getfield 45, 3) := by decide +kernel
theorem dX4_cellsUnder_4 : decode cX4_cellsUnder 4 = .ok (.aload_n 0, 1) := by decide +kernel
theorem dX4_cellsUnder_5 : decode cX4_cellsUnder 5 = .ok (.getfield 18, 3) := by decide +kernel
theorem dX4_cellsUnder_8 : decode cX4_cellsUnder 8 = .ok (.iload_n 1, 1) := by decide +kernel
theorem dX4_cellsUnder_9 : decode cX4_cellsUnder 9 = .ok (.invokevirtual 152, 3) := by decide +kernel
theorem dX4_cellsUnder_12 : decode cX4_cellsUnder 12 = .ok (.invokestatic 323, 3) := by decide +kernel
theorem dX4_cellsUnder_15 : decode cX4_cellsUnder 15 = .ok (.iconst 1, 1) := by decide +kernel
theorem dX4_cellsUnder_16 : decode cX4_cellsUnder 16 = .ok (.isub, 1) := by decide +kernel
theorem dX4_cellsUnder_17 : decode cX4_cellsUnder 17 = .ok (.iload_n 2, 1) := by decide +kernel
theorem dX4_cellsUnder_18 : decode cX4_cellsUnder 18 = .ok (.isub, 1) := by decide +kernel
theorem dX4_cellsUnder_19 : decode cX4_cellsUnder 19 = .ok (.ireturn, 1) := by decide +kernel
set_option maxRecDepth 20000 in
theorem ggX4_turnOfLeastMiss_X4_missBelowZero : GoodIn wsX4_turnOfLeastMiss wsX4_missBelowZero := goodIn_r _ [4, 5, 6, 7, 8, 9, 10, 11, 12, 13, 14, 15, 16, 17, 3, 18, 19, 20, 21, 22, 23, 24, 25, 26, 27, 28, 29, 30, 31, 32, 33, 34, 35, 36, 37, 38, 39] (by decide +kernel) (by decide +kernel)
set_option maxRecDepth 20000 in
theorem gX4_turnOfLeastMiss_X4_missBelowZero : GoodIn wsX4_turnOfLeastMiss (va_wsS RX4 326 yX4_missBelowZero wsX4_missBelowZero) := goodIn_app (goodIn_of _ (by decide +kernel)) ggX4_turnOfLeastMiss_X4_missBelowZero
theorem dX4_turnOfLeastMiss_0 : decode cX4_turnOfLeastMiss 0 = .ok (.iconst 0, 1) := by decide +kernel
theorem dX4_turnOfLeastMiss_1 : decode cX4_turnOfLeastMiss 1 = .ok (.istore_n 1, 1) := by decide +kernel
theorem dX4_turnOfLeastMiss_2 : decode cX4_turnOfLeastMiss 2 = .ok (.aload_n 0, 1) := by decide +kernel
theorem dX4_turnOfLeastMiss_3 : decode cX4_turnOfLeastMiss 3 = .ok (.iconst 0, 1) := by decide +kernel
theorem dX4_turnOfLeastMiss_4 : decode cX4_turnOfLeastMiss 4 = .ok (.invokestatic 326, 3) := by decide +kernel
theorem dX4_turnOfLeastMiss_7 : decode cX4_turnOfLeastMiss 7 = .ok (.lstore_n 2, 1) := by decide +kernel
theorem dX4_turnOfLeastMiss_8 : decode cX4_turnOfLeastMiss 8 = .ok (.iconst 1, 1) := by decide +kernel
theorem dX4_turnOfLeastMiss_9 : decode cX4_turnOfLeastMiss 9 = .ok (.istore 4, 2) := by decide +kernel
theorem dX4_turnOfLeastMiss_11 : decode cX4_turnOfLeastMiss 11 = .ok (.iload 4, 2) := by decide +kernel
theorem dX4_turnOfLeastMiss_13 : decode cX4_turnOfLeastMiss 13 = .ok (.bipush 36, 2) := by decide +kernel
theorem dX4_turnOfLeastMiss_15 : decode cX4_turnOfLeastMiss 15 = .ok (.if_icmp .ge 30, 3) := by decide +kernel
theorem dX4_turnOfLeastMiss_18 : decode cX4_turnOfLeastMiss 18 = .ok (.aload_n 0, 1) := by decide +kernel
theorem dX4_turnOfLeastMiss_19 : decode cX4_turnOfLeastMiss 19 = .ok (.iload 4, 2) := by decide +kernel
theorem dX4_turnOfLeastMiss_21 : decode cX4_turnOfLeastMiss 21 = .ok (.invokestatic 326, 3) := by decide +kernel
theorem dX4_turnOfLeastMiss_24 : decode cX4_turnOfLeastMiss 24 = .ok (.lstore 5, 2) := by decide +kernel
theorem dX4_turnOfLeastMiss_26 : decode cX4_turnOfLeastMiss 26 = .ok (.lload 5, 2) := by decide +kernel
theorem dX4_turnOfLeastMiss_28 : decode cX4_turnOfLeastMiss 28 = .ok (.lload_n 2, 1) := by decide +kernel
theorem dX4_turnOfLeastMiss_29 : decode cX4_turnOfLeastMiss 29 = .ok (.lcmp, 1) := by decide +kernel
theorem dX4_turnOfLeastMiss_30 : decode cX4_turnOfLeastMiss 30 = .ok (.ifCond .le 9, 3) := by decide +kernel
theorem dX4_turnOfLeastMiss_33 : decode cX4_turnOfLeastMiss 33 = .ok (.lload 5, 2) := by decide +kernel
theorem dX4_turnOfLeastMiss_35 : decode cX4_turnOfLeastMiss 35 = .ok (.lstore_n 2, 1) := by decide +kernel
theorem dX4_turnOfLeastMiss_36 : decode cX4_turnOfLeastMiss 36 = .ok (.iload 4, 2) := by decide +kernel
theorem dX4_turnOfLeastMiss_38 : decode cX4_turnOfLeastMiss 38 = .ok (.istore_n 1, 1) := by decide +kernel
theorem dX4_turnOfLeastMiss_39 : decode cX4_turnOfLeastMiss 39 = .ok (.iinc 4 1, 3) := by decide +kernel
theorem dX4_turnOfLeastMiss_42 : decode cX4_turnOfLeastMiss 42 = .ok (.goto (-31), 3) := by decide +kernel
theorem dX4_turnOfLeastMiss_45 : decode cX4_turnOfLeastMiss 45 = .ok (.iload_n 1, 1) := by decide +kernel
theorem dX4_turnOfLeastMiss_46 : decode cX4_turnOfLeastMiss 46 = .ok (.ireturn, 1) := by decide +kernel
set_option maxRecDepth 20000 in
theorem ggX4_missBelowZero_X1_east : GoodIn wsX4_missBelowZero wsX1_east := goodIn_r _ [9, 10, 11, 12, 13, 14, 15, 16, 17, 18, 19, 20, 21, 22, 33, 34, 35, 36] (by decide +kernel) (by decide +kernel)
set_option maxRecDepth 20000 in
theorem gX4_missBelowZero_X1_east : GoodIn wsX4_missBelowZero (wsV RX4 308 RX1 yX1_east wsX1_east) := goodIn_app (goodIn_of _ (by decide +kernel)) ggX4_missBelowZero_X1_east
set_option maxRecDepth 20000 in
theorem ggX4_missBelowZero_X4_belowZero : GoodIn wsX4_missBelowZero wsX4_belowZero := goodIn_r _ [25] (by decide +kernel) (by decide +kernel)
set_option maxRecDepth 20000 in
theorem gX4_missBelowZero_X4_belowZero : GoodIn wsX4_missBelowZero (va_wsS RX4 330 yX4_belowZero wsX4_belowZero) := goodIn_app (goodIn_of _ (by decide +kernel)) ggX4_missBelowZero_X4_belowZero
set_option maxRecDepth 20000 in
theorem ggX4_missBelowZero_X1_north : GoodIn wsX4_missBelowZero wsX1_north := goodIn_r _ [29, 10, 11, 30, 31, 14, 32, 20, 21, 22, 19, 16, 17, 18, 33, 34, 35, 36] (by decide +kernel) (by decide +kernel)
set_option maxRecDepth 20000 in
theorem gX4_missBelowZero_X1_north : GoodIn wsX4_missBelowZero (wsV RX4 311 RX1 yX1_north wsX1_north) := goodIn_app (goodIn_of _ (by decide +kernel)) ggX4_missBelowZero_X1_north
theorem dX4_missBelowZero_0 : decode cX4_missBelowZero 0 = .ok (.aload_n 0, 1) := by decide +kernel
theorem dX4_missBelowZero_1 : decode cX4_missBelowZero 1 = .ok (.iload_n 1, 1) := by decide +kernel
theorem dX4_missBelowZero_2 : decode cX4_missBelowZero 2 = .ok (.invokevirtual 308, 3) := by decide +kernel
theorem dX4_missBelowZero_5 : decode cX4_missBelowZero 5 = .ok (.invokestatic 330, 3) := by decide +kernel
theorem dX4_missBelowZero_8 : decode cX4_missBelowZero 8 = .ok (.aload_n 0, 1) := by decide +kernel
theorem dX4_missBelowZero_9 : decode cX4_missBelowZero 9 = .ok (.iload_n 1, 1) := by decide +kernel
theorem dX4_missBelowZero_10 : decode cX4_missBelowZero 10 = .ok (.invokevirtual 311, 3) := by decide +kernel
theorem dX4_missBelowZero_13 : decode cX4_missBelowZero 13 = .ok (.invokestatic 330, 3) := by decide +kernel
theorem dX4_missBelowZero_16 : decode cX4_missBelowZero 16 = .ok (.invokestatic 334, 3) := by decide +kernel
theorem dX4_missBelowZero_19 : decode cX4_missBelowZero 19 = .ok (.lreturn, 1) := by decide +kernel
theorem dX4_belowZero_0 : decode cX4_belowZero 0 = .ok (.lload_n 0, 1) := by decide +kernel
theorem dX4_belowZero_1 : decode cX4_belowZero 1 = .ok (.lconst 0, 1) := by decide +kernel
theorem dX4_belowZero_2 : decode cX4_belowZero 2 = .ok (.lcmp, 1) := by decide +kernel
theorem dX4_belowZero_3 : decode cX4_belowZero 3 = .ok (.ifCond .le 8, 3) := by decide +kernel
theorem dX4_belowZero_6 : decode cX4_belowZero 6 = .ok (.lload_n 0, 1) := by decide +kernel
theorem dX4_belowZero_7 : decode cX4_belowZero 7 = .ok (.lneg, 1) := by decide +kernel
theorem dX4_belowZero_8 : decode cX4_belowZero 8 = .ok (.goto 4, 3) := by decide +kernel
theorem dX4_belowZero_11 : decode cX4_belowZero 11 = .ok (.lload_n 0, 1) := by decide +kernel
theorem dX4_belowZero_12 : decode cX4_belowZero 12 = .ok (.lreturn, 1) := by decide +kernel
theorem dX5_init_0 : decode cX5_init 0 = .ok (.aload_n 0, 1) := by decide +kernel
theorem dX5_init_1 : decode cX5_init 1 = .ok (.invokespecial 1, 3) := by decide +kernel
theorem dX5_init_4 : decode cX5_init 4 = .ok (.aload_n 0, 1) := by decide +kernel
theorem dX5_init_5 : decode cX5_init 5 = .ok (.bipush 9, 2) := by decide +kernel
theorem dX5_init_7 : decode cX5_init 7 = .ok (.newarray .int, 2) := by decide +kernel
theorem dX5_init_9 : decode cX5_init 9 = .ok (.putfield 7, 3) := by decide +kernel
theorem dX5_init_12 : decode cX5_init 12 = .ok (.aload_n 0, 1) := by decide +kernel
theorem dX5_init_13 : decode cX5_init 13 = .ok (.bipush 9, 2) := by decide +kernel
theorem dX5_init_15 : decode cX5_init 15 = .ok (.newarray .int, 2) := by decide +kernel
theorem dX5_init_17 : decode cX5_init 17 = .ok (.putfield 13, 3) := by decide +kernel
theorem dX5_init_20 : decode cX5_init 20 = .ok (.aload_n 0, 1) := by decide +kernel
theorem dX5_init_21 : decode cX5_init 21 = .ok (.bipush 8, 2) := by decide +kernel
theorem dX5_init_23 : decode cX5_init 23 = .ok (.newarray .int, 2) := by decide +kernel
theorem dX5_init_25 : decode cX5_init 25 = .ok (.putfield 16, 3) := by decide +kernel
theorem dX5_init_28 : decode cX5_init 28 = .ok (.aload_n 0, 1) := by decide +kernel
theorem dX5_init_29 : decode cX5_init 29 = .ok (.bipush 8, 2) := by decide +kernel
theorem dX5_init_31 : decode cX5_init 31 = .ok (.newarray .int, 2) := by decide +kernel
theorem dX5_init_33 : decode cX5_init 33 = .ok (.putfield 19, 3) := by decide +kernel
theorem dX5_init_36 : decode cX5_init 36 = .ok (.aload_n 0, 1) := by decide +kernel
theorem dX5_init_37 : decode cX5_init 37 = .ok (.sipush 1600, 3) := by decide +kernel
theorem dX5_init_40 : decode cX5_init 40 = .ok (.newarray .int, 2) := by decide +kernel
theorem dX5_init_42 : decode cX5_init 42 = .ok (.putfield 22, 3) := by decide +kernel
theorem dX5_init_45 : decode cX5_init 45 = .ok (.aload_n 0, 1) := by decide +kernel
theorem dX5_init_46 : decode cX5_init 46 = .ok (.sipush 200, 3) := by decide +kernel
theorem dX5_init_49 : decode cX5_init 49 = .ok (.newarray .int, 2) := by decide +kernel
theorem dX5_init_51 : decode cX5_init 51 = .ok (.putfield 25, 3) := by decide +kernel
theorem dX5_init_54 : decode cX5_init 54 = .ok (.aload_n 0, 1) := by decide +kernel
theorem dX5_init_55 : decode cX5_init 55 = .ok (.iconst 4, 1) := by decide +kernel
theorem dX5_init_56 : decode cX5_init 56 = .ok (.putfield 28, 3) := by decide +kernel
theorem dX5_init_59 : decode cX5_init 59 = .ok (.aload_n 0, 1) := by decide +kernel
theorem dX5_init_60 : decode cX5_init 60 = .ok (.bipush 40, 2) := by decide +kernel
theorem dX5_init_62 : decode cX5_init 62 = .ok (.newarray .int, 2) := by decide +kernel
theorem dX5_init_64 : decode cX5_init 64 = .ok (.putfield 32, 3) := by decide +kernel
theorem dX5_init_67 : decode cX5_init 67 = .ok (.aload_n 0, 1) := by decide +kernel
theorem dX5_init_68 : decode cX5_init 68 = .ok (.bipush 40, 2) := by decide +kernel
theorem dX5_init_70 : decode cX5_init 70 = .ok (.newarray .int, 2) := by decide +kernel
theorem dX5_init_72 : decode cX5_init 72 = .ok (.putfield 35, 3) := by decide +kernel
theorem dX5_init_75 : decode cX5_init 75 = .ok (.aload_n 0, 1) := by decide +kernel
theorem dX5_init_76 : decode cX5_init 76 = .ok (.bipush 40, 2) := by decide +kernel
theorem dX5_init_78 : decode cX5_init 78 = .ok (.newarray .int, 2) := by decide +kernel
theorem dX5_init_80 : decode cX5_init 80 = .ok (.putfield 38, 3) := by decide +kernel
theorem dX5_init_83 : decode cX5_init 83 = .ok (.aload_n 0, 1) := by decide +kernel
theorem dX5_init_84 : decode cX5_init 84 = .ok (.bipush 40, 2) := by decide +kernel
theorem dX5_init_86 : decode cX5_init 86 = .ok (.newarray .int, 2) := by decide +kernel
theorem dX5_init_88 : decode cX5_init 88 = .ok (.putfield 41, 3) := by decide +kernel
theorem dX5_init_91 : decode cX5_init 91 = .ok (.aload_n 0, 1) := by decide +kernel
theorem dX5_init_92 : decode cX5_init 92 = .ok (.iconst 1, 1) := by decide +kernel
theorem dX5_init_93 : decode cX5_init 93 = .ok (.putfield 44, 3) := by decide +kernel
theorem dX5_init_96 : decode cX5_init 96 = .ok (.aload_n 0, 1) := by decide +kernel
theorem dX5_init_97 : decode cX5_init 97 = .ok (.sipush 1000, 3) := by decide +kernel
theorem dX5_init_100 : decode cX5_init 100 = .ok (.putfield 48, 3) := by decide +kernel
theorem dX5_init_103 : decode cX5_init 103 = .ok (.aload_n 0, 1) := by decide +kernel
theorem dX5_init_104 : decode cX5_init 104 = .ok (.getfield 7, 3) := by decide +kernel
theorem dX5_init_107 : decode cX5_init 107 = .ok (.iconst 0, 1) := by decide +kernel
theorem dX5_init_108 : decode cX5_init 108 = .ok (.bipush 65, 2) := by decide +kernel
theorem dX5_init_110 : decode cX5_init 110 = .ok (.iastore, 1) := by decide +kernel
theorem dX5_init_111 : decode cX5_init 111 = .ok (.aload_n 0, 1) := by decide +kernel
theorem dX5_init_112 : decode cX5_init 112 = .ok (.getfield 7, 3) := by decide +kernel
theorem dX5_init_115 : decode cX5_init 115 = .ok (.iconst 1, 1) := by decide +kernel
theorem dX5_init_116 : decode cX5_init 116 = .ok (.bipush 63, 2) := by decide +kernel
theorem dX5_init_118 : decode cX5_init 118 = .ok (.iastore, 1) := by decide +kernel
theorem dX5_init_119 : decode cX5_init 119 = .ok (.aload_n 0, 1) := by decide +kernel
theorem dX5_init_120 : decode cX5_init 120 = .ok (.getfield 7, 3) := by decide +kernel
theorem dX5_init_123 : decode cX5_init 123 = .ok (.iconst 2, 1) := by decide +kernel
theorem dX5_init_124 : decode cX5_init 124 = .ok (.bipush 60, 2) := by decide +kernel
theorem dX5_init_126 : decode cX5_init 126 = .ok (.iastore, 1) := by decide +kernel
theorem dX5_init_127 : decode cX5_init 127 = .ok (.aload_n 0, 1) := by decide +kernel
theorem dX5_init_128 : decode cX5_init 128 = .ok (.getfield 7, 3) := by decide +kernel
theorem dX5_init_131 : decode cX5_init 131 = .ok (.iconst 3, 1) := by decide +kernel
theorem dX5_init_132 : decode cX5_init 132 = .ok (.bipush 56, 2) := by decide +kernel
theorem dX5_init_134 : decode cX5_init 134 = .ok (.iastore, 1) := by decide +kernel
theorem dX5_init_135 : decode cX5_init 135 = .ok (.aload_n 0, 1) := by decide +kernel
theorem dX5_init_136 : decode cX5_init 136 = .ok (.getfield 7, 3) := by decide +kernel
theorem dX5_init_139 : decode cX5_init 139 = .ok (.iconst 4, 1) := by decide +kernel
theorem dX5_init_140 : decode cX5_init 140 = .ok (.bipush 52, 2) := by decide +kernel
theorem dX5_init_142 : decode cX5_init 142 = .ok (.iastore, 1) := by decide +kernel
theorem dX5_init_143 : decode cX5_init 143 = .ok (.aload_n 0, 1) := by decide +kernel
theorem dX5_init_144 : decode cX5_init 144 = .ok (.getfield 7, 3) := by decide +kernel
theorem dX5_init_147 : decode cX5_init 147 = .ok (.iconst 5, 1) := by decide +kernel
theorem dX5_init_148 : decode cX5_init 148 = .ok (.bipush 39, 2) := by decide +kernel
theorem dX5_init_150 : decode cX5_init 150 = .ok (.iastore, 1) := by decide +kernel
theorem dX5_init_151 : decode cX5_init 151 = .ok (.aload_n 0, 1) := by decide +kernel
theorem dX5_init_152 : decode cX5_init 152 = .ok (.getfield 7, 3) := by decide +kernel
theorem dX5_init_155 : decode cX5_init 155 = .ok (.bipush 6, 2) := by decide +kernel
theorem dX5_init_157 : decode cX5_init 157 = .ok (.bipush 33, 2) := by decide +kernel
theorem dX5_init_159 : decode cX5_init 159 = .ok (.iastore, 1) := by decide +kernel
theorem dX5_init_160 : decode cX5_init 160 = .ok (.aload_n 0, 1) := by decide +kernel
theorem dX5_init_161 : decode cX5_init 161 = .ok (.getfield 7, 3) := by decide +kernel
theorem dX5_init_164 : decode cX5_init 164 = .ok (.bipush 7, 2) := by decide +kernel
theorem dX5_init_166 : decode cX5_init 166 = .ok (.bipush 25, 2) := by decide +kernel
theorem dX5_init_168 : decode cX5_init 168 = .ok (.iastore, 1) := by decide +kernel
theorem dX5_init_169 : decode cX5_init 169 = .ok (.aload_n 0, 1) := by decide +kernel
theorem dX5_init_170 : decode cX5_init 170 = .ok (.getfield 7, 3) := by decide +kernel
theorem dX5_init_173 : decode cX5_init 173 = .ok (.bipush 8, 2) := by decide +kernel
theorem dX5_init_175 : decode cX5_init 175 = .ok (.bipush 16, 2) := by decide +kernel
theorem dX5_init_177 : decode cX5_init 177 = .ok (.iastore, 1) := by decide +kernel
theorem dX5_init_178 : decode cX5_init 178 = .ok (.aload_n 0, 1) := by decide +kernel
theorem dX5_init_179 : decode cX5_init 179 = .ok (.getfield 13, 3) := by decide +kernel
theorem dX5_init_182 : decode cX5_init 182 = .ok (.iconst 0, 1) := by decide +kernel
theorem dX5_init_183 : decode cX5_init 183 = .ok (.iconst 0, 1) := by decide +kernel
theorem dX5_init_184 : decode cX5_init 184 = .ok (.iastore, 1) := by decide +kernel
theorem dX5_init_185 : decode cX5_init 185 = .ok (.aload_n 0, 1) := by decide +kernel
theorem dX5_init_186 : decode cX5_init 186 = .ok (.getfield 13, 3) := by decide +kernel
theorem dX5_init_189 : decode cX5_init 189 = .ok (.iconst 1, 1) := by decide +kernel
theorem dX5_init_190 : decode cX5_init 190 = .ok (.bipush 16, 2) := by decide +kernel
theorem dX5_init_192 : decode cX5_init 192 = .ok (.iastore, 1) := by decide +kernel
theorem dX5_init_193 : decode cX5_init 193 = .ok (.aload_n 0, 1) := by decide +kernel
theorem dX5_init_194 : decode cX5_init 194 = .ok (.getfield 13, 3) := by decide +kernel
theorem dX5_init_197 : decode cX5_init 197 = .ok (.iconst 2, 1) := by decide +kernel
theorem dX5_init_198 : decode cX5_init 198 = .ok (.bipush 25, 2) := by decide +kernel
theorem dX5_init_200 : decode cX5_init 200 = .ok (.iastore, 1) := by decide +kernel
theorem dX5_init_201 : decode cX5_init 201 = .ok (.aload_n 0, 1) := by decide +kernel
theorem dX5_init_202 : decode cX5_init 202 = .ok (.getfield 13, 3) := by decide +kernel
theorem dX5_init_205 : decode cX5_init 205 = .ok (.iconst 3, 1) := by decide +kernel
theorem dX5_init_206 : decode cX5_init 206 = .ok (.bipush 33, 2) := by decide +kernel
theorem dX5_init_208 : decode cX5_init 208 = .ok (.iastore, 1) := by decide +kernel
theorem dX5_init_209 : decode cX5_init 209 = .ok (.aload_n 0, 1) := by decide +kernel
theorem dX5_init_210 : decode cX5_init 210 = .ok (.getfield 13, 3) := by decide +kernel
theorem dX5_init_213 : decode cX5_init 213 = .ok (.iconst 4, 1) := by decide +kernel
theorem dX5_init_214 : decode cX5_init 214 = .ok (.bipush 39, 2) := by decide +kernel
theorem dX5_init_216 : decode cX5_init 216 = .ok (.iastore, 1) := by decide +kernel
theorem dX5_init_217 : decode cX5_init 217 = .ok (.aload_n 0, 1) := by decide +kernel
theorem dX5_init_218 : decode cX5_init 218 = .ok (.getfield 13, 3) := by decide +kernel
theorem dX5_init_221 : decode cX5_init 221 = .ok (.iconst 5, 1) := by decide +kernel
theorem dX5_init_222 : decode cX5_init 222 = .ok (.bipush 52, 2) := by decide +kernel
theorem dX5_init_224 : decode cX5_init 224 = .ok (.iastore, 1) := by decide +kernel
theorem dX5_init_225 : decode cX5_init 225 = .ok (.aload_n 0, 1) := by decide +kernel
theorem dX5_init_226 : decode cX5_init 226 = .ok (.getfield 13, 3) := by decide +kernel
theorem dX5_init_229 : decode cX5_init 229 = .ok (.bipush 6, 2) := by decide +kernel
theorem dX5_init_231 : decode cX5_init 231 = .ok (.bipush 56, 2) := by decide +kernel
theorem dX5_init_233 : decode cX5_init 233 = .ok (.iastore, 1) := by decide +kernel
theorem dX5_init_234 : decode cX5_init 234 = .ok (.aload_n 0, 1) := by decide +kernel
theorem dX5_init_235 : decode cX5_init 235 = .ok (.getfield 13, 3) := by decide +kernel
theorem dX5_init_238 : decode cX5_init 238 = .ok (.bipush 7, 2) := by decide +kernel
theorem dX5_init_240 : decode cX5_init 240 = .ok (.bipush 60, 2) := by decide +kernel
theorem dX5_init_242 : decode cX5_init 242 = .ok (.iastore, 1) := by decide +kernel
theorem dX5_init_243 : decode cX5_init 243 = .ok (.aload_n 0, 1) := by decide +kernel
theorem dX5_init_244 : decode cX5_init 244 = .ok (.getfield 13, 3) := by decide +kernel
theorem dX5_init_247 : decode cX5_init 247 = .ok (.bipush 8, 2) := by decide +kernel
theorem dX5_init_249 : decode cX5_init 249 = .ok (.bipush 63, 2) := by decide +kernel
theorem dX5_init_251 : decode cX5_init 251 = .ok (.iastore, 1) := by decide +kernel
theorem dX5_init_252 : decode cX5_init 252 = .ok (.iconst 0, 1) := by decide +kernel
theorem dX5_init_253 : decode cX5_init 253 = .ok (.istore_n 1, 1) := by decide +kernel
theorem dX5_init_254 : decode cX5_init 254 = .ok (.iload_n 1, 1) := by decide +kernel
theorem dX5_init_255 : decode cX5_init 255 = .ok (.bipush 8, 2) := by decide +kernel
theorem dX5_init_257 : decode cX5_init 257 = .ok (.if_icmp .ge 16, 3) := by decide +kernel
theorem dX5_init_260 : decode cX5_init 260 = .ok (.aload_n 0, 1) := by decide +kernel
theorem dX5_init_261 : decode cX5_init 261 = .ok (.getfield 16, 3) := by decide +kernel
theorem dX5_init_264 : decode cX5_init 264 = .ok (.iload_n 1, 1) := by decide +kernel
theorem dX5_init_265 : decode cX5_init 265 = .ok (.iconst (-1), 1) := by decide +kernel
theorem dX5_init_266 : decode cX5_init 266 = .ok (.iastore, 1) := by decide +kernel
theorem dX5_init_267 : decode cX5_init 267 = .ok (.iinc 1 1, 3) := by decide +kernel
theorem dX5_init_270 : decode cX5_init 270 = .ok (.goto (-16), 3) := by decide +kernel
theorem dX5_init_273 : decode cX5_init 273 = .ok (.return_, 1) := by decide +kernel
theorem dX5_in_0 : decode cX5_in 0 = .ok (.lload_n 0, 1) := by decide +kernel
theorem dX5_in_1 : decode cX5_in 1 = .ok (.lload_n 2, 1) := by decide +kernel
theorem dX5_in_2 : decode cX5_in 2 = .ok (.lcmp, 1) := by decide +kernel
theorem dX5_in_3 : decode cX5_in 3 = .ok (.ifCond .lt 14, 3) := by decide +kernel
theorem dX5_in_6 : decode cX5_in 6 = .ok (.lload_n 0, 1) := by decide +kernel
theorem dX5_in_7 : decode cX5_in 7 = .ok (.lload 4, 2) := by decide +kernel
theorem dX5_in_9 : decode cX5_in 9 = .ok (.lcmp, 1) := by decide +kernel
theorem dX5_in_10 : decode cX5_in 10 = .ok (.ifCond .gt 7, 3) := by decide +kernel
theorem dX5_in_13 : decode cX5_in 13 = .ok (.iconst 1, 1) := by decide +kernel
theorem dX5_in_14 : decode cX5_in 14 = .ok (.goto 4, 3) := by decide +kernel
theorem dX5_in_17 : decode cX5_in 17 = .ok (.iconst 0, 1) := by decide +kernel
theorem dX5_in_18 : decode cX5_in 18 = .ok (.ireturn, 1) := by decide +kernel
theorem dX5_no_0 : decode cX5_no 0 = .ok (.ldc2_w 51, 3) := by decide +kernel
theorem dX5_no_3 : decode cX5_no 3 = .ok (.iload_n 0, 1) := by decide +kernel
theorem dX5_no_4 : decode cX5_no 4 = .ok (.i2l, 1) := by decide +kernel
theorem dX5_no_5 : decode cX5_no 5 = .ok (.lsub, 1) := by decide +kernel
theorem dX5_no_6 : decode cX5_no 6 = .ok (.lreturn, 1) := by decide +kernel
theorem dX5_amount_0 : decode cX5_amount 0 = .ok (.lload_n 0, 1) := by decide +kernel
theorem dX5_amount_1 : decode cX5_amount 1 = .ok (.lconst 0, 1) := by decide +kernel
theorem dX5_amount_2 : decode cX5_amount 2 = .ok (.lcmp, 1) := by decide +kernel
theorem dX5_amount_3 : decode cX5_amount 3 = .ok (.ifCond .ge 8, 3) := by decide +kernel
theorem dX5_amount_6 : decode cX5_amount 6 = .ok (.lload_n 0, 1) := by decide +kernel
theorem dX5_amount_7 : decode cX5_amount 7 = .ok (.lneg, 1) := by decide +kernel
theorem dX5_amount_8 : decode cX5_amount 8 = .ok (.goto 4, 3) := by decide +kernel
theorem dX5_amount_11 : decode cX5_amount 11 = .ok (.lload_n 0, 1) := by decide +kernel
theorem dX5_amount_12 : decode cX5_amount 12 = .ok (.lreturn, 1) := by decide +kernel
theorem dX5_met_0 : decode cX5_met 0 = .ok (.aload_n 0, 1) := by decide +kernel
theorem dX5_met_1 : decode cX5_met 1 = .ok (.iload_n 1, 1) := by decide +kernel
theorem dX5_met_2 : decode cX5_met 2 = .ok (.putfield 53, 3) := by decide +kernel
theorem dX5_met_5 : decode cX5_met 5 = .ok (.bipush (-10), 2) := by decide +kernel
theorem dX5_met_7 : decode cX5_met 7 = .ok (.iload_n 1, 1) := by decide +kernel
theorem dX5_met_8 : decode cX5_met 8 = .ok (.isub, 1) := by decide +kernel
theorem dX5_met_9 : decode cX5_met 9 = .ok (.ireturn, 1) := by decide +kernel
set_option maxRecDepth 20000 in
theorem ggX5_isReel_X5_in : GoodIn wsX5_isReel wsX5_in := goodIn_r _ [5] (by decide +kernel) (by decide +kernel)
set_option maxRecDepth 20000 in
theorem gX5_isReel_X5_in : GoodIn wsX5_isReel (va_wsS RX5 58 yX5_in wsX5_in) := goodIn_app (goodIn_of _ (by decide +kernel)) ggX5_isReel_X5_in
theorem dX5_isReel_0 : decode cX5_isReel 0 = .ok (.iload_n 0, 1) := by decide +kernel
theorem dX5_isReel_1 : decode cX5_isReel 1 = .ok (.i2l, 1) := by decide +kernel
theorem dX5_isReel_2 : decode cX5_isReel 2 = .ok (.lconst 0, 1) := by decide +kernel
theorem dX5_isReel_3 : decode cX5_isReel 3 = .ok (.ldc2_w 56, 3) := by decide +kernel
theorem dX5_isReel_6 : decode cX5_isReel 6 = .ok (.invokestatic 58, 3) := by decide +kernel
theorem dX5_isReel_9 : decode cX5_isReel 9 = .ok (.ireturn, 1) := by decide +kernel
set_option maxRecDepth 20000 in
theorem ggX5_reel_X5_isReel : GoodIn wsX5_reel wsX5_isReel := goodIn_r _ [8, 9, 10, 11, 7, 12] (by decide +kernel) (by decide +kernel)
set_option maxRecDepth 20000 in
theorem gX5_reel_X5_isReel : GoodIn wsX5_reel (va_wsS RX5 62 yX5_isReel wsX5_isReel) := goodIn_app (goodIn_of _ (by decide +kernel)) ggX5_reel_X5_isReel
set_option maxRecDepth 20000 in
theorem ggX5_reel_X5_in : GoodIn wsX5_reel wsX5_in := goodIn_r _ [12] (by decide +kernel) (by decide +kernel)
set_option maxRecDepth 20000 in
theorem gX5_reel_X5_in : GoodIn wsX5_reel (va_wsS RX5 58 yX5_in wsX5_in) := goodIn_app (goodIn_of _ (by decide +kernel)) ggX5_reel_X5_in
set_option maxRecDepth 20000 in
theorem ggX5_reel_X5_met : GoodIn wsX5_reel wsX5_met := goodIn_r _ [16, 17, 18, 19, 20, 21, 22, 23, 24, 25, 26, 27, 28, 29, 30, 31, 32, 33, 34, 35, 36, 37, 38, 39, 40, 41, 42, 43, 44, 45, 46, 47, 48] (by decide +kernel) (by decide +kernel)
set_option maxRecDepth 20000 in
theorem gX5_reel_X5_met : GoodIn wsX5_reel (wsV RX5 68 RX5 yX5_met wsX5_met) := goodIn_app (goodIn_of _ (by decide +kernel)) ggX5_reel_X5_met
theorem dX5_reel_0 : decode cX5_reel 0 = .ok (.iload_n 1, 1) := by decide +kernel
theorem dX5_reel_1 : decode cX5_reel 1 = .ok (.invokestatic 62, 3) := by decide +kernel
theorem dX5_reel_4 : decode cX5_reel 4 = .ok (.ifCond .eq 22, 3) := by decide +kernel
theorem dX5_reel_7 : decode cX5_reel 7 = .ok (.iload_n 2, 1) := by decide +kernel
theorem dX5_reel_8 : decode cX5_reel 8 = .ok (.i2l, 1) := by decide +kernel
theorem dX5_reel_9 : decode cX5_reel 9 = .ok (.lconst 0, 1) := by decide +kernel
theorem dX5_reel_10 : decode cX5_reel 10 = .ok (.ldc2_w 66, 3) := by decide +kernel
theorem dX5_reel_13 : decode cX5_reel 13 = .ok (.invokestatic 58, 3) := by decide +kernel
theorem dX5_reel_16 : decode cX5_reel 16 = .ok (.ifCond .eq 10, 3) := by decide +kernel
theorem dX5_reel_19 : decode cX5_reel 19 = .ok (.iload_n 3, 1) := by decide +kernel
theorem dX5_reel_20 : decode cX5_reel 20 = .ok (.sipush 200, 3) := by decide +kernel
theorem dX5_reel_23 : decode cX5_reel 23 = .ok (.if_icmp .le 6, 3) := by decide +kernel
theorem dX5_reel_26 : decode cX5_reel 26 = .ok (.bipush (-2), 2) := by decide +kernel
theorem dX5_reel_28 : decode cX5_reel 28 = .ok (.ireturn, 1) := by decide +kernel
theorem dX5_reel_29 : decode cX5_reel 29 = .ok (.iload_n 3, 1) := by decide +kernel
theorem dX5_reel_30 : decode cX5_reel 30 = .ok (.ifCond .ge 9, 3) := by decide +kernel
theorem dX5_reel_33 : decode cX5_reel 33 = .ok (.aload_n 0, 1) := by decide +kernel
theorem dX5_reel_34 : decode cX5_reel 34 = .ok (.iconst 5, 1) := by decide +kernel
theorem dX5_reel_35 : decode cX5_reel 35 = .ok (.invokevirtual 68, 3) := by decide +kernel
theorem dX5_reel_38 : decode cX5_reel 38 = .ok (.ireturn, 1) := by decide +kernel
theorem dX5_reel_39 : decode cX5_reel 39 = .ok (.aload_n 0, 1) := by decide +kernel
theorem dX5_reel_40 : decode cX5_reel 40 = .ok (.getfield 16, 3) := by decide +kernel
theorem dX5_reel_43 : decode cX5_reel 43 = .ok (.iload_n 1, 1) := by decide +kernel
theorem dX5_reel_44 : decode cX5_reel 44 = .ok (.iload_n 2, 1) := by decide +kernel
theorem dX5_reel_45 : decode cX5_reel 45 = .ok (.iastore, 1) := by decide +kernel
theorem dX5_reel_46 : decode cX5_reel 46 = .ok (.aload_n 0, 1) := by decide +kernel
theorem dX5_reel_47 : decode cX5_reel 47 = .ok (.getfield 19, 3) := by decide +kernel
theorem dX5_reel_50 : decode cX5_reel 50 = .ok (.iload_n 1, 1) := by decide +kernel
theorem dX5_reel_51 : decode cX5_reel 51 = .ok (.iload_n 3, 1) := by decide +kernel
theorem dX5_reel_52 : decode cX5_reel 52 = .ok (.iastore, 1) := by decide +kernel
theorem dX5_reel_53 : decode cX5_reel 53 = .ok (.iconst 0, 1) := by decide +kernel
theorem dX5_reel_54 : decode cX5_reel 54 = .ok (.istore 4, 2) := by decide +kernel
theorem dX5_reel_56 : decode cX5_reel 56 = .ok (.iload 4, 2) := by decide +kernel
theorem dX5_reel_58 : decode cX5_reel 58 = .ok (.iload_n 3, 1) := by decide +kernel
theorem dX5_reel_59 : decode cX5_reel 59 = .ok (.if_icmp .ge 23, 3) := by decide +kernel
theorem dX5_reel_62 : decode cX5_reel 62 = .ok (.aload_n 0, 1) := by decide +kernel
theorem dX5_reel_63 : decode cX5_reel 63 = .ok (.getfield 22, 3) := by decide +kernel
theorem dX5_reel_66 : decode cX5_reel 66 = .ok (.sipush 200, 3) := by decide +kernel
theorem dX5_reel_69 : decode cX5_reel 69 = .ok (.iload_n 1, 1) := by decide +kernel
theorem dX5_reel_70 : decode cX5_reel 70 = .ok (.imul, 1) := by decide +kernel
theorem dX5_reel_71 : decode cX5_reel 71 = .ok (.iload 4, 2) := by decide +kernel
theorem dX5_reel_73 : decode cX5_reel 73 = .ok (.iadd, 1) := by decide +kernel
theorem dX5_reel_74 : decode cX5_reel 74 = .ok (.iconst 0, 1) := by decide +kernel
theorem dX5_reel_75 : decode cX5_reel 75 = .ok (.iastore, 1) := by decide +kernel
theorem dX5_reel_76 : decode cX5_reel 76 = .ok (.iinc 4 1, 3) := by decide +kernel
theorem dX5_reel_79 : decode cX5_reel 79 = .ok (.goto (-23), 3) := by decide +kernel
theorem dX5_reel_82 : decode cX5_reel 82 = .ok (.iload_n 3, 1) := by decide +kernel
theorem dX5_reel_83 : decode cX5_reel 83 = .ok (.ireturn, 1) := by decide +kernel
set_option maxRecDepth 20000 in
theorem ggX5_lose_X5_isReel : GoodIn wsX5_lose wsX5_isReel := goodIn_r _ [6, 7, 8, 9, 5, 10] (by decide +kernel) (by decide +kernel)
set_option maxRecDepth 20000 in
theorem gX5_lose_X5_isReel : GoodIn wsX5_lose (va_wsS RX5 62 yX5_isReel wsX5_isReel) := goodIn_app (goodIn_of _ (by decide +kernel)) ggX5_lose_X5_isReel
set_option maxRecDepth 20000 in
theorem ggX5_lose_X5_met : GoodIn wsX5_lose wsX5_met := goodIn_r _ [14, 15, 16, 17, 18, 19, 20, 21, 22, 23, 24, 25, 26, 27, 28, 29, 30, 31, 32, 33, 34, 35, 36, 37, 38, 39, 40, 41, 42, 43, 44, 45, 46] (by decide +kernel) (by decide +kernel)
set_option maxRecDepth 20000 in
theorem gX5_lose_X5_met : GoodIn wsX5_lose (wsV RX5 68 RX5 yX5_met wsX5_met) := goodIn_app (goodIn_of _ (by decide +kernel)) ggX5_lose_X5_met
theorem dX5_lose_0 : decode cX5_lose 0 = .ok (.iload_n 1, 1) := by decide +kernel
theorem dX5_lose_1 : decode cX5_lose 1 = .ok (.invokestatic 62, 3) := by decide +kernel
theorem dX5_lose_4 : decode cX5_lose 4 = .ok (.ifCond .ne 6, 3) := by decide +kernel
theorem dX5_lose_7 : decode cX5_lose 7 = .ok (.bipush (-2), 2) := by decide +kernel
theorem dX5_lose_9 : decode cX5_lose 9 = .ok (.ireturn, 1) := by decide +kernel
theorem dX5_lose_10 : decode cX5_lose 10 = .ok (.aload_n 0, 1) := by decide +kernel
theorem dX5_lose_11 : decode cX5_lose 11 = .ok (.getfield 16, 3) := by decide +kernel
theorem dX5_lose_14 : decode cX5_lose 14 = .ok (.iload_n 1, 1) := by decide +kernel
theorem dX5_lose_15 : decode cX5_lose 15 = .ok (.iaload, 1) := by decide +kernel
theorem dX5_lose_16 : decode cX5_lose 16 = .ok (.ifCond .ge 9, 3) := by decide +kernel
theorem dX5_lose_19 : decode cX5_lose 19 = .ok (.aload_n 0, 1) := by decide +kernel
theorem dX5_lose_20 : decode cX5_lose 20 = .ok (.iconst 1, 1) := by decide +kernel
theorem dX5_lose_21 : decode cX5_lose 21 = .ok (.invokevirtual 68, 3) := by decide +kernel
theorem dX5_lose_24 : decode cX5_lose 24 = .ok (.ireturn, 1) := by decide +kernel
theorem dX5_lose_25 : decode cX5_lose 25 = .ok (.aload_n 0, 1) := by decide +kernel
theorem dX5_lose_26 : decode cX5_lose 26 = .ok (.getfield 16, 3) := by decide +kernel
theorem dX5_lose_29 : decode cX5_lose 29 = .ok (.iload_n 1, 1) := by decide +kernel
theorem dX5_lose_30 : decode cX5_lose 30 = .ok (.iconst (-1), 1) := by decide +kernel
theorem dX5_lose_31 : decode cX5_lose 31 = .ok (.iastore, 1) := by decide +kernel
theorem dX5_lose_32 : decode cX5_lose 32 = .ok (.aload_n 0, 1) := by decide +kernel
theorem dX5_lose_33 : decode cX5_lose 33 = .ok (.getfield 19, 3) := by decide +kernel
theorem dX5_lose_36 : decode cX5_lose 36 = .ok (.iload_n 1, 1) := by decide +kernel
theorem dX5_lose_37 : decode cX5_lose 37 = .ok (.iaload, 1) := by decide +kernel
theorem dX5_lose_38 : decode cX5_lose 38 = .ok (.ireturn, 1) := by decide +kernel
set_option maxRecDepth 20000 in
theorem ggX5_lacks_X5_met : GoodIn wsX5_lacks wsX5_met := goodIn_r _ [7, 8, 12, 13, 14, 15, 16, 17, 18, 19, 20, 21, 22, 23, 24, 25, 26, 27, 28, 29, 30, 31, 32, 33, 34, 35, 36, 37, 38, 39, 40, 41, 42] (by decide +kernel) (by decide +kernel)
set_option maxRecDepth 20000 in
theorem gX5_lacks_X5_met : GoodIn wsX5_lacks (wsV RX5 68 RX5 yX5_met wsX5_met) := goodIn_app (goodIn_of _ (by decide +kernel)) ggX5_lacks_X5_met
set_option maxRecDepth 20000 in
theorem ggX5_lacks_X5_in : GoodIn wsX5_lacks wsX5_in := goodIn_r _ [11] (by decide +kernel) (by decide +kernel)
set_option maxRecDepth 20000 in
theorem gX5_lacks_X5_in : GoodIn wsX5_lacks (va_wsS RX5 58 yX5_in wsX5_in) := goodIn_app (goodIn_of _ (by decide +kernel)) ggX5_lacks_X5_in
theorem dX5_lacks_0 : decode cX5_lacks 0 = .ok (.aload_n 0, 1) := by decide +kernel
theorem dX5_lacks_1 : decode cX5_lacks 1 = .ok (.getfield 16, 3) := by decide +kernel
theorem dX5_lacks_4 : decode cX5_lacks 4 = .ok (.iload_n 1, 1) := by decide +kernel
theorem dX5_lacks_5 : decode cX5_lacks 5 = .ok (.iaload, 1) := by decide +kernel
theorem dX5_lacks_6 : decode cX5_lacks 6 = .ok (.ifCond .ge 9, 3) := by decide +kernel
theorem dX5_lacks_9 : decode cX5_lacks 9 = .ok (.aload_n 0, 1) := by decide +kernel
theorem dX5_lacks_10 : decode cX5_lacks 10 = .ok (.iconst 1, 1) := by decide +kernel
theorem dX5_lacks_11 : decode cX5_lacks 11 = .ok (.invokevirtual 68, 3) := by decide +kernel
theorem dX5_lacks_14 : decode cX5_lacks 14 = .ok (.ireturn, 1) := by decide +kernel
theorem dX5_lacks_15 : decode cX5_lacks 15 = .ok (.aload_n 0, 1) := by decide +kernel
theorem dX5_lacks_16 : decode cX5_lacks 16 = .ok (.getfield 16, 3) := by decide +kernel
theorem dX5_lacks_19 : decode cX5_lacks 19 = .ok (.iload_n 1, 1) := by decide +kernel
theorem dX5_lacks_20 : decode cX5_lacks 20 = .ok (.iaload, 1) := by decide +kernel
theorem dX5_lacks_21 : decode cX5_lacks 21 = .ok (.iload_n 2, 1) := by decide +kernel
theorem dX5_lacks_22 : decode cX5_lacks 22 = .ok (.if_icmp .eq 9, 3) := by decide +kernel
theorem dX5_lacks_25 : decode cX5_lacks 25 = .ok (.aload_n 0, 1) := by decide +kernel
theorem dX5_lacks_26 : decode cX5_lacks 26 = .ok (.iconst 3, 1) := by decide +kernel
theorem dX5_lacks_27 : decode cX5_lacks 27 = .ok (.invokevirtual 68, 3) := by decide +kernel
theorem dX5_lacks_30 : decode cX5_lacks 30 = .ok (.ireturn, 1) := by decide +kernel
theorem dX5_lacks_31 : decode cX5_lacks 31 = .ok (.iload_n 3, 1) := by decide +kernel
theorem dX5_lacks_32 : decode cX5_lacks 32 = .ok (.i2l, 1) := by decide +kernel
theorem dX5_lacks_33 : decode cX5_lacks 33 = .ok (.lconst 0, 1) := by decide +kernel
theorem dX5_lacks_34 : decode cX5_lacks 34 = .ok (.aload_n 0, 1) := by decide +kernel
theorem dX5_lacks_35 : decode cX5_lacks 35 = .ok (.getfield 19, 3) := by decide +kernel
theorem dX5_lacks_38 : decode cX5_lacks 38 = .ok (.iload_n 1, 1) := by decide +kernel
theorem dX5_lacks_39 : decode cX5_lacks 39 = .ok (.iaload, 1) := by decide +kernel
theorem dX5_lacks_40 : decode cX5_lacks 40 = .ok (.iconst 1, 1) := by decide +kernel
theorem dX5_lacks_41 : decode cX5_lacks 41 = .ok (.isub, 1) := by decide +kernel
theorem dX5_lacks_42 : decode cX5_lacks 42 = .ok (.i2l, 1) := by decide +kernel
theorem dX5_lacks_43 : decode cX5_lacks 43 = .ok (.invokestatic 58, 3) := by decide +kernel
theorem dX5_lacks_46 : decode cX5_lacks 46 = .ok (.ifCond .eq 7, 3) := by decide +kernel
theorem dX5_lacks_49 : decode cX5_lacks 49 = .ok (.iconst 0, 1) := by decide +kernel
theorem dX5_lacks_50 : decode cX5_lacks 50 = .ok (.goto 8, 3) := by decide +kernel
theorem dX5_lacks_53 : decode cX5_lacks 53 = .ok (.aload_n 0, 1) := by decide +kernel
theorem dX5_lacks_54 : decode cX5_lacks 54 = .ok (.iconst 2, 1) := by decide +kernel
theorem dX5_lacks_55 : decode cX5_lacks 55 = .ok (.invokevirtual 68, 3) := by decide +kernel
theorem dX5_lacks_58 : decode cX5_lacks 58 = .ok (.ireturn, 1) := by decide +kernel
set_option maxRecDepth 20000 in
theorem ggX5_put_X5_isReel : GoodIn wsX5_put wsX5_isReel := goodIn_r _ [6, 7, 8, 9, 5, 10] (by decide +kernel) (by decide +kernel)
set_option maxRecDepth 20000 in
theorem gX5_put_X5_isReel : GoodIn wsX5_put (va_wsS RX5 62 yX5_isReel wsX5_isReel) := goodIn_app (goodIn_of _ (by decide +kernel)) ggX5_put_X5_isReel
set_option maxRecDepth 20000 in
theorem ggX5_put_X5_in : GoodIn wsX5_put wsX5_in := goodIn_r _ [10] (by decide +kernel) (by decide +kernel)
set_option maxRecDepth 20000 in
theorem gX5_put_X5_in : GoodIn wsX5_put (va_wsS RX5 58 yX5_in wsX5_in) := goodIn_app (goodIn_of _ (by decide +kernel)) ggX5_put_X5_in
set_option maxRecDepth 20000 in
theorem ggX5_put_X5_lacks : GoodIn wsX5_put wsX5_lacks := goodIn_r _ [14, 15, 16, 17, 18, 19, 5, 20, 21, 8, 9, 10, 22, 23, 24, 25, 26, 27, 28, 29, 30, 31, 32, 33, 34, 35, 36, 37, 38, 39, 40, 41, 42, 43, 44, 45, 46, 47, 48, 49, 50, 51, 52] (by decide +kernel) (by decide +kernel)
set_option maxRecDepth 20000 in
theorem gX5_put_X5_lacks : GoodIn wsX5_put (wsV RX5 72 RX5 yX5_lacks wsX5_lacks) := goodIn_app (goodIn_of _ (by decide +kernel)) ggX5_put_X5_lacks
theorem dX5_put_0 : decode cX5_put 0 = .ok (.iload_n 1, 1) := by decide +kernel
theorem dX5_put_1 : decode cX5_put 1 = .ok (.invokestatic 62, 3) := by decide +kernel
theorem dX5_put_4 : decode cX5_put 4 = .ok (.ifCond .eq 15, 3) := by decide +kernel
theorem dX5_put_7 : decode cX5_put 7 = .ok (.iload_n 2, 1) := by decide +kernel
theorem dX5_put_8 : decode cX5_put 8 = .ok (.i2l, 1) := by decide +kernel
theorem dX5_put_9 : decode cX5_put 9 = .ok (.lconst 0, 1) := by decide +kernel
theorem dX5_put_10 : decode cX5_put 10 = .ok (.ldc2_w 66, 3) := by decide +kernel
theorem dX5_put_13 : decode cX5_put 13 = .ok (.invokestatic 58, 3) := by decide +kernel
theorem dX5_put_16 : decode cX5_put 16 = .ok (.ifCond .ne 6, 3) := by decide +kernel
theorem dX5_put_19 : decode cX5_put 19 = .ok (.bipush (-2), 2) := by decide +kernel
theorem dX5_put_21 : decode cX5_put 21 = .ok (.ireturn, 1) := by decide +kernel
theorem dX5_put_22 : decode cX5_put 22 = .ok (.aload_n 0, 1) := by decide +kernel
theorem dX5_put_23 : decode cX5_put 23 = .ok (.iload_n 1, 1) := by decide +kernel
theorem dX5_put_24 : decode cX5_put 24 = .ok (.iload_n 2, 1) := by decide +kernel
theorem dX5_put_25 : decode cX5_put 25 = .ok (.iload_n 3, 1) := by decide +kernel
theorem dX5_put_26 : decode cX5_put 26 = .ok (.invokevirtual 72, 3) := by decide +kernel
theorem dX5_put_29 : decode cX5_put 29 = .ok (.istore 5, 2) := by decide +kernel
theorem dX5_put_31 : decode cX5_put 31 = .ok (.iload 5, 2) := by decide +kernel
theorem dX5_put_33 : decode cX5_put 33 = .ok (.ifCond .eq 6, 3) := by decide +kernel
theorem dX5_put_36 : decode cX5_put 36 = .ok (.iload 5, 2) := by decide +kernel
theorem dX5_put_38 : decode cX5_put 38 = .ok (.ireturn, 1) := by decide +kernel
theorem dX5_put_39 : decode cX5_put 39 = .ok (.aload_n 0, 1) := by decide +kernel
theorem dX5_put_40 : decode cX5_put 40 = .ok (.getfield 22, 3) := by decide +kernel
theorem dX5_put_43 : decode cX5_put 43 = .ok (.sipush 200, 3) := by decide +kernel
theorem dX5_put_46 : decode cX5_put 46 = .ok (.iload_n 1, 1) := by decide +kernel
theorem dX5_put_47 : decode cX5_put 47 = .ok (.imul, 1) := by decide +kernel
theorem dX5_put_48 : decode cX5_put 48 = .ok (.iload_n 3, 1) := by decide +kernel
theorem dX5_put_49 : decode cX5_put 49 = .ok (.iadd, 1) := by decide +kernel
theorem dX5_put_50 : decode cX5_put 50 = .ok (.iload_n 2, 1) := by decide +kernel
theorem dX5_put_51 : decode cX5_put 51 = .ok (.ifCond .ne 9, 3) := by decide +kernel
theorem dX5_put_54 : decode cX5_put 54 = .ok (.iload 4, 2) := by decide +kernel
theorem dX5_put_56 : decode cX5_put 56 = .ok (.i2b, 1) := by decide +kernel
theorem dX5_put_57 : decode cX5_put 57 = .ok (.goto 16, 3) := by decide +kernel
theorem dX5_put_60 : decode cX5_put 60 = .ok (.iload_n 2, 1) := by decide +kernel
theorem dX5_put_61 : decode cX5_put 61 = .ok (.iconst 1, 1) := by decide +kernel
theorem dX5_put_62 : decode cX5_put 62 = .ok (.if_icmp .ne 9, 3) := by decide +kernel
theorem dX5_put_65 : decode cX5_put 65 = .ok (.iload 4, 2) := by decide +kernel
theorem dX5_put_67 : decode cX5_put 67 = .ok (.i2s, 1) := by decide +kernel
theorem dX5_put_68 : decode cX5_put 68 = .ok (.goto 5, 3) := by decide +kernel
theorem dX5_put_71 : decode cX5_put 71 = .ok (.iload 4, 2) := by decide +kernel
theorem dX5_put_73 : decode cX5_put 73 = .ok (.iastore, 1) := by decide +kernel
theorem dX5_put_74 : decode cX5_put 74 = .ok (.iconst 1, 1) := by decide +kernel
theorem dX5_put_75 : decode cX5_put 75 = .ok (.ireturn, 1) := by decide +kernel
set_option maxRecDepth 20000 in
theorem ggX5_get_X5_isReel : GoodIn wsX5_get wsX5_isReel := goodIn_r _ [7, 8, 9, 10, 6, 11] (by decide +kernel) (by decide +kernel)
set_option maxRecDepth 20000 in
theorem gX5_get_X5_isReel : GoodIn wsX5_get (va_wsS RX5 62 yX5_isReel wsX5_isReel) := goodIn_app (goodIn_of _ (by decide +kernel)) ggX5_get_X5_isReel
set_option maxRecDepth 20000 in
theorem ggX5_get_X5_in : GoodIn wsX5_get wsX5_in := goodIn_r _ [11] (by decide +kernel) (by decide +kernel)
set_option maxRecDepth 20000 in
theorem gX5_get_X5_in : GoodIn wsX5_get (va_wsS RX5 58 yX5_in wsX5_in) := goodIn_app (goodIn_of _ (by decide +kernel)) ggX5_get_X5_in
set_option maxRecDepth 20000 in
theorem ggX5_get_X5_lacks : GoodIn wsX5_get wsX5_lacks := goodIn_r _ [15, 16, 17, 18, 19, 20, 6, 21, 22, 9, 10, 11, 23, 24, 25, 26, 27, 28, 29, 30, 31, 32, 33, 34, 35, 36, 37, 38, 39, 40, 41, 42, 43, 44, 45, 46, 47, 48, 49, 50, 51, 52, 53] (by decide +kernel) (by decide +kernel)
set_option maxRecDepth 20000 in
theorem gX5_get_X5_lacks : GoodIn wsX5_get (wsV RX5 72 RX5 yX5_lacks wsX5_lacks) := goodIn_app (goodIn_of _ (by decide +kernel)) ggX5_get_X5_lacks
theorem dX5_get_0 : decode cX5_get 0 = .ok (.iload_n 1, 1) := by decide +kernel
theorem dX5_get_1 : decode cX5_get 1 = .ok (.invokestatic 62, 3) := by decide +kernel
theorem dX5_get_4 : decode cX5_get 4 = .ok (.ifCond .eq 25, 3) := by decide +kernel
theorem dX5_get_7 : decode cX5_get 7 = .ok (.iload_n 2, 1) := by decide +kernel
theorem dX5_get_8 : decode cX5_get 8 = .ok (.i2l, 1) := by decide +kernel
theorem dX5_get_9 : decode cX5_get 9 = .ok (.lconst 0, 1) := by decide +kernel
theorem dX5_get_10 : decode cX5_get 10 = .ok (.ldc2_w 66, 3) := by decide +kernel
theorem dX5_get_13 : decode cX5_get 13 = .ok (.invokestatic 58, 3) := by decide +kernel
theorem dX5_get_16 : decode cX5_get 16 = .ok (.ifCond .eq 13, 3) := by decide +kernel
theorem dX5_get_19 : decode cX5_get 19 = .ok (.aload_n 0, 1) := by decide +kernel
theorem dX5_get_20 : decode cX5_get 20 = .ok (.iload_n 1, 1) := by decide +kernel
theorem dX5_get_21 : decode cX5_get 21 = .ok (.iload_n 2, 1) := by decide +kernel
theorem dX5_get_22 : decode cX5_get 22 = .ok (.iload_n 3, 1) := by decide +kernel
theorem dX5_get_23 : decode cX5_get 23 = .ok (.invokevirtual 72, 3) := by decide +kernel
theorem dX5_get_26 : decode cX5_get 26 = .ok (.ifCond .eq 6, 3) := by decide +kernel
theorem dX5_get_29 : decode cX5_get 29 = .ok (.ldc 76, 2) := by decide +kernel
theorem dX5_get_31 : decode cX5_get 31 = .ok (.ireturn, 1) := by decide +kernel
theorem dX5_get_32 : decode cX5_get 32 = .ok (.aload_n 0, 1) := by decide +kernel
theorem dX5_get_33 : decode cX5_get 33 = .ok (.getfield 22, 3) := by decide +kernel
theorem dX5_get_36 : decode cX5_get 36 = .ok (.sipush 200, 3) := by decide +kernel
theorem dX5_get_39 : decode cX5_get 39 = .ok (.iload_n 1, 1) := by decide +kernel
theorem dX5_get_40 : decode cX5_get 40 = .ok (.imul, 1) := by decide +kernel
theorem dX5_get_41 : decode cX5_get 41 = .ok (.iload_n 3, 1) := by decide +kernel
theorem dX5_get_42 : decode cX5_get 42 = .ok (.iadd, 1) := by decide +kernel
theorem dX5_get_43 : decode cX5_get 43 = .ok (.iaload, 1) := by decide +kernel
theorem dX5_get_44 : decode cX5_get 44 = .ok (.ireturn, 1) := by decide +kernel
set_option maxRecDepth 20000 in
theorem ggX5_copy_X5_isReel : GoodIn wsX5_copy wsX5_isReel := goodIn_r _ [8, 9, 10, 11, 7, 12] (by decide +kernel) (by decide +kernel)
set_option maxRecDepth 20000 in
theorem gX5_copy_X5_isReel : GoodIn wsX5_copy (va_wsS RX5 62 yX5_isReel wsX5_isReel) := goodIn_app (goodIn_of _ (by decide +kernel)) ggX5_copy_X5_isReel
set_option maxRecDepth 20000 in
theorem ggX5_copy_X5_met : GoodIn wsX5_copy wsX5_met := goodIn_r _ [16, 17, 18, 19, 20, 21, 22, 23, 24, 25, 26, 27, 28, 29, 30, 31, 32, 33, 34, 35, 36, 37, 38, 39, 40, 41, 42, 43, 44, 45, 46, 47, 48] (by decide +kernel) (by decide +kernel)
set_option maxRecDepth 20000 in
theorem gX5_copy_X5_met : GoodIn wsX5_copy (wsV RX5 68 RX5 yX5_met wsX5_met) := goodIn_app (goodIn_of _ (by decide +kernel)) ggX5_copy_X5_met
theorem dX5_copy_0 : decode cX5_copy 0 = .ok (.iload_n 1, 1) := by decide +kernel
theorem dX5_copy_1 : decode cX5_copy 1 = .ok (.invokestatic 62, 3) := by decide +kernel
theorem dX5_copy_4 : decode cX5_copy 4 = .ok (.ifCond .eq 10, 3) := by decide +kernel
theorem dX5_copy_7 : decode cX5_copy 7 = .ok (.iload_n 3, 1) := by decide +kernel
theorem dX5_copy_8 : decode cX5_copy 8 = .ok (.invokestatic 62, 3) := by decide +kernel
theorem dX5_copy_11 : decode cX5_copy 11 = .ok (.ifCond .ne 6, 3) := by decide +kernel
theorem dX5_copy_14 : decode cX5_copy 14 = .ok (.bipush (-2), 2) := by decide +kernel
theorem dX5_copy_16 : decode cX5_copy 16 = .ok (.ireturn, 1) := by decide +kernel
theorem dX5_copy_17 : decode cX5_copy 17 = .ok (.aload_n 0, 1) := by decide +kernel
theorem dX5_copy_18 : decode cX5_copy 18 = .ok (.getfield 16, 3) := by decide +kernel
theorem dX5_copy_21 : decode cX5_copy 21 = .ok (.iload_n 1, 1) := by decide +kernel
theorem dX5_copy_22 : decode cX5_copy 22 = .ok (.iaload, 1) := by decide +kernel
theorem dX5_copy_23 : decode cX5_copy 23 = .ok (.ifCond .lt 12, 3) := by decide +kernel
theorem dX5_copy_26 : decode cX5_copy 26 = .ok (.aload_n 0, 1) := by decide +kernel
theorem dX5_copy_27 : decode cX5_copy 27 = .ok (.getfield 16, 3) := by decide +kernel
theorem dX5_copy_30 : decode cX5_copy 30 = .ok (.iload_n 3, 1) := by decide +kernel
theorem dX5_copy_31 : decode cX5_copy 31 = .ok (.iaload, 1) := by decide +kernel
theorem dX5_copy_32 : decode cX5_copy 32 = .ok (.ifCond .ge 9, 3) := by decide +kernel
theorem dX5_copy_35 : decode cX5_copy 35 = .ok (.aload_n 0, 1) := by decide +kernel
theorem dX5_copy_36 : decode cX5_copy 36 = .ok (.iconst 1, 1) := by decide +kernel
theorem dX5_copy_37 : decode cX5_copy 37 = .ok (.invokevirtual 68, 3) := by decide +kernel
theorem dX5_copy_40 : decode cX5_copy 40 = .ok (.ireturn, 1) := by decide +kernel
theorem dX5_copy_41 : decode cX5_copy 41 = .ok (.aload_n 0, 1) := by decide +kernel
theorem dX5_copy_42 : decode cX5_copy 42 = .ok (.getfield 16, 3) := by decide +kernel
theorem dX5_copy_45 : decode cX5_copy 45 = .ok (.iload_n 1, 1) := by decide +kernel
theorem dX5_copy_46 : decode cX5_copy 46 = .ok (.iaload, 1) := by decide +kernel
theorem dX5_copy_47 : decode cX5_copy 47 = .ok (.aload_n 0, 1) := by decide +kernel
theorem dX5_copy_48 : decode cX5_copy 48 = .ok (.getfield 16, 3) := by decide +kernel
theorem dX5_copy_51 : decode cX5_copy 51 = .ok (.iload_n 3, 1) := by decide +kernel
theorem dX5_copy_52 : decode cX5_copy 52 = .ok (.iaload, 1) := by decide +kernel
theorem dX5_copy_53 : decode cX5_copy 53 = .ok (.if_icmp .eq 9, 3) := by decide +kernel
theorem dX5_copy_56 : decode cX5_copy 56 = .ok (.aload_n 0, 1) := by decide +kernel
theorem dX5_copy_57 : decode cX5_copy 57 = .ok (.iconst 4, 1) := by decide +kernel
theorem dX5_copy_58 : decode cX5_copy 58 = .ok (.invokevirtual 68, 3) := by decide +kernel
theorem dX5_copy_61 : decode cX5_copy 61 = .ok (.ireturn, 1) := by decide +kernel
theorem dX5_copy_62 : decode cX5_copy 62 = .ok (.iload_n 2, 1) := by decide +kernel
theorem dX5_copy_63 : decode cX5_copy 63 = .ok (.ifCond .lt 48, 3) := by decide +kernel
theorem dX5_copy_66 : decode cX5_copy 66 = .ok (.iload 4, 2) := by decide +kernel
theorem dX5_copy_68 : decode cX5_copy 68 = .ok (.ifCond .lt 43, 3) := by decide +kernel
theorem dX5_copy_71 : decode cX5_copy 71 = .ok (.iload 5, 2) := by decide +kernel
theorem dX5_copy_73 : decode cX5_copy 73 = .ok (.ifCond .lt 38, 3) := by decide +kernel
end
section
theorem dX5_copy_76 : decode cX5_copy 76 = .ok (.iload_n 2, 1) := by decide +kernel
theorem dX5_copy_77 : decode cX5_copy 77 = .ok (.i2l, 1) := by decide +kernel
theorem dX5_copy_78 : decode cX5_copy 78 = .ok (.iload 5, 2) := by decide +kernel
theorem dX5_copy_80 : decode cX5_copy 80 = .ok (.i2l, 1) := by decide +kernel
theorem dX5_copy_81 : decode cX5_copy 81 = .ok (.ladd, 1) := by decide +kernel
theorem dX5_copy_82 : decode cX5_copy 82 = .ok (.aload_n 0, 1) := by decide +kernel
theorem dX5_copy_83 : decode cX5_copy 83 = .ok (.getfield 19, 3) := by decide +kernel
theorem dX5_copy_86 : decode cX5_copy 86 = .ok (.iload_n 1, 1) := by decide +kernel
theorem dX5_copy_87 : decode cX5_copy 87 = .ok (.iaload, 1) := by decide +kernel
theorem dX5_copy_88 : decode cX5_copy 88 = .ok (.i2l, 1) := by decide +kernel
theorem dX5_copy_89 : decode cX5_copy 89 = .ok (.lcmp, 1) := by decide +kernel
theorem dX5_copy_90 : decode cX5_copy 90 = .ok (.ifCond .gt 21, 3) := by decide +kernel
theorem dX5_copy_93 : decode cX5_copy 93 = .ok (.iload 4, 2) := by decide +kernel
theorem dX5_copy_95 : decode cX5_copy 95 = .ok (.i2l, 1) := by decide +kernel
theorem dX5_copy_96 : decode cX5_copy 96 = .ok (.iload 5, 2) := by decide +kernel
theorem dX5_copy_98 : decode cX5_copy 98 = .ok (.i2l, 1) := by decide +kernel
theorem dX5_copy_99 : decode cX5_copy 99 = .ok (.ladd, 1) := by decide +kernel
theorem dX5_copy_100 : decode cX5_copy 100 = .ok (.aload_n 0, 1) := by decide +kernel
theorem dX5_copy_101 : decode cX5_copy 101 = .ok (.getfield 19, 3) := by decide +kernel
theorem dX5_copy_104 : decode cX5_copy 104 = .ok (.iload_n 3, 1) := by decide +kernel
theorem dX5_copy_105 : decode cX5_copy 105 = .ok (.iaload, 1) := by decide +kernel
theorem dX5_copy_106 : decode cX5_copy 106 = .ok (.i2l, 1) := by decide +kernel
theorem dX5_copy_107 : decode cX5_copy 107 = .ok (.lcmp, 1) := by decide +kernel
theorem dX5_copy_108 : decode cX5_copy 108 = .ok (.ifCond .le 9, 3) := by decide +kernel
theorem dX5_copy_111 : decode cX5_copy 111 = .ok (.aload_n 0, 1) := by decide +kernel
theorem dX5_copy_112 : decode cX5_copy 112 = .ok (.iconst 2, 1) := by decide +kernel
theorem dX5_copy_113 : decode cX5_copy 113 = .ok (.invokevirtual 68, 3) := by decide +kernel
theorem dX5_copy_116 : decode cX5_copy 116 = .ok (.ireturn, 1) := by decide +kernel
theorem dX5_copy_117 : decode cX5_copy 117 = .ok (.iconst 0, 1) := by decide +kernel
theorem dX5_copy_118 : decode cX5_copy 118 = .ok (.istore 6, 2) := by decide +kernel
theorem dX5_copy_120 : decode cX5_copy 120 = .ok (.iload 6, 2) := by decide +kernel
theorem dX5_copy_122 : decode cX5_copy 122 = .ok (.iload 5, 2) := by decide +kernel
theorem dX5_copy_124 : decode cX5_copy 124 = .ok (.if_icmp .ge 31, 3) := by decide +kernel
theorem dX5_copy_127 : decode cX5_copy 127 = .ok (.aload_n 0, 1) := by decide +kernel
theorem dX5_copy_128 : decode cX5_copy 128 = .ok (.getfield 25, 3) := by decide +kernel
theorem dX5_copy_131 : decode cX5_copy 131 = .ok (.iload 6, 2) := by decide +kernel
theorem dX5_copy_133 : decode cX5_copy 133 = .ok (.aload_n 0, 1) := by decide +kernel
theorem dX5_copy_134 : decode cX5_copy 134 = .ok (.getfield 22, 3) := by decide +kernel
theorem dX5_copy_137 : decode cX5_copy 137 = .ok (.sipush 200, 3) := by decide +kernel
theorem dX5_copy_140 : decode cX5_copy 140 = .ok (.iload_n 1, 1) := by decide +kernel
theorem dX5_copy_141 : decode cX5_copy 141 = .ok (.imul, 1) := by decide +kernel
theorem dX5_copy_142 : decode cX5_copy 142 = .ok (.iload_n 2, 1) := by decide +kernel
theorem dX5_copy_143 : decode cX5_copy 143 = .ok (.iadd, 1) := by decide +kernel
theorem dX5_copy_144 : decode cX5_copy 144 = .ok (.iload 6, 2) := by decide +kernel
theorem dX5_copy_146 : decode cX5_copy 146 = .ok (.iadd, 1) := by decide +kernel
theorem dX5_copy_147 : decode cX5_copy 147 = .ok (.iaload, 1) := by decide +kernel
theorem dX5_copy_148 : decode cX5_copy 148 = .ok (.iastore, 1) := by decide +kernel
theorem dX5_copy_149 : decode cX5_copy 149 = .ok (.iinc 6 1, 3) := by decide +kernel
theorem dX5_copy_152 : decode cX5_copy 152 = .ok (.goto (-32), 3) := by decide +kernel
theorem dX5_copy_155 : decode cX5_copy 155 = .ok (.iconst 0, 1) := by decide +kernel
theorem dX5_copy_156 : decode cX5_copy 156 = .ok (.istore 6, 2) := by decide +kernel
theorem dX5_copy_158 : decode cX5_copy 158 = .ok (.iload 6, 2) := by decide +kernel
theorem dX5_copy_160 : decode cX5_copy 160 = .ok (.iload 5, 2) := by decide +kernel
theorem dX5_copy_162 : decode cX5_copy 162 = .ok (.if_icmp .ge 32, 3) := by decide +kernel
theorem dX5_copy_165 : decode cX5_copy 165 = .ok (.aload_n 0, 1) := by decide +kernel
theorem dX5_copy_166 : decode cX5_copy 166 = .ok (.getfield 22, 3) := by decide +kernel
theorem dX5_copy_169 : decode cX5_copy 169 = .ok (.sipush 200, 3) := by decide +kernel
theorem dX5_copy_172 : decode cX5_copy 172 = .ok (.iload_n 3, 1) := by decide +kernel
theorem dX5_copy_173 : decode cX5_copy 173 = .ok (.imul, 1) := by decide +kernel
theorem dX5_copy_174 : decode cX5_copy 174 = .ok (.iload 4, 2) := by decide +kernel
theorem dX5_copy_176 : decode cX5_copy 176 = .ok (.iadd, 1) := by decide +kernel
theorem dX5_copy_177 : decode cX5_copy 177 = .ok (.iload 6, 2) := by decide +kernel
theorem dX5_copy_179 : decode cX5_copy 179 = .ok (.iadd, 1) := by decide +kernel
theorem dX5_copy_180 : decode cX5_copy 180 = .ok (.aload_n 0, 1) := by decide +kernel
theorem dX5_copy_181 : decode cX5_copy 181 = .ok (.getfield 25, 3) := by decide +kernel
theorem dX5_copy_184 : decode cX5_copy 184 = .ok (.iload 6, 2) := by decide +kernel
theorem dX5_copy_186 : decode cX5_copy 186 = .ok (.iaload, 1) := by decide +kernel
theorem dX5_copy_187 : decode cX5_copy 187 = .ok (.iastore, 1) := by decide +kernel
theorem dX5_copy_188 : decode cX5_copy 188 = .ok (.iinc 6 1, 3) := by decide +kernel
theorem dX5_copy_191 : decode cX5_copy 191 = .ok (.goto (-33), 3) := by decide +kernel
theorem dX5_copy_194 : decode cX5_copy 194 = .ok (.iconst 1, 1) := by decide +kernel
theorem dX5_copy_195 : decode cX5_copy 195 = .ok (.ireturn, 1) := by decide +kernel
theorem dX5_told_0 : decode cX5_told 0 = .ok (.iload_n 0, 1) := by decide +kernel
theorem dX5_told_1 : decode cX5_told 1 = .ok (.bipush (-128), 2) := by decide +kernel
theorem dX5_told_3 : decode cX5_told 3 = .ok (.if_icmp .le 10, 3) := by decide +kernel
theorem dX5_told_6 : decode cX5_told 6 = .ok (.iload_n 0, 1) := by decide +kernel
theorem dX5_told_7 : decode cX5_told 7 = .ok (.sipush 20000, 3) := by decide +kernel
theorem dX5_told_10 : decode cX5_told 10 = .ok (.if_icmp .le 8, 3) := by decide +kernel
theorem dX5_told_13 : decode cX5_told 13 = .ok (.bipush (-128), 2) := by decide +kernel
theorem dX5_told_15 : decode cX5_told 15 = .ok (.goto 4, 3) := by decide +kernel
theorem dX5_told_18 : decode cX5_told 18 = .ok (.iload_n 0, 1) := by decide +kernel
theorem dX5_told_19 : decode cX5_told 19 = .ok (.ireturn, 1) := by decide +kernel
set_option maxRecDepth 20000 in
theorem ggX5_reading_X5_told : GoodIn wsX5_reading wsX5_told := goodIn_r _ [7] (by decide +kernel) (by decide +kernel)
set_option maxRecDepth 20000 in
theorem gX5_reading_X5_told : GoodIn wsX5_reading (va_wsS RX5 77 yX5_told wsX5_told) := goodIn_app (goodIn_of _ (by decide +kernel)) ggX5_reading_X5_told
theorem dX5_reading_0 : decode cX5_reading 0 = .ok (.aload_n 0, 1) := by decide +kernel
theorem dX5_reading_1 : decode cX5_reading 1 = .ok (.getfield 16, 3) := by decide +kernel
theorem dX5_reading_4 : decode cX5_reading 4 = .ok (.iload_n 1, 1) := by decide +kernel
theorem dX5_reading_5 : decode cX5_reading 5 = .ok (.iaload, 1) := by decide +kernel
theorem dX5_reading_6 : decode cX5_reading 6 = .ok (.ifCond .lt 13, 3) := by decide +kernel
theorem dX5_reading_9 : decode cX5_reading 9 = .ok (.iload_n 2, 1) := by decide +kernel
theorem dX5_reading_10 : decode cX5_reading 10 = .ok (.aload_n 0, 1) := by decide +kernel
theorem dX5_reading_11 : decode cX5_reading 11 = .ok (.getfield 19, 3) := by decide +kernel
theorem dX5_reading_14 : decode cX5_reading 14 = .ok (.iload_n 1, 1) := by decide +kernel
theorem dX5_reading_15 : decode cX5_reading 15 = .ok (.iaload, 1) := by decide +kernel
theorem dX5_reading_16 : decode cX5_reading 16 = .ok (.if_icmp .lt 8, 3) := by decide +kernel
theorem dX5_reading_19 : decode cX5_reading 19 = .ok (.bipush (-128), 2) := by decide +kernel
theorem dX5_reading_21 : decode cX5_reading 21 = .ok (.goto 18, 3) := by decide +kernel
theorem dX5_reading_24 : decode cX5_reading 24 = .ok (.aload_n 0, 1) := by decide +kernel
theorem dX5_reading_25 : decode cX5_reading 25 = .ok (.getfield 22, 3) := by decide +kernel
theorem dX5_reading_28 : decode cX5_reading 28 = .ok (.sipush 200, 3) := by decide +kernel
theorem dX5_reading_31 : decode cX5_reading 31 = .ok (.iload_n 1, 1) := by decide +kernel
theorem dX5_reading_32 : decode cX5_reading 32 = .ok (.imul, 1) := by decide +kernel
theorem dX5_reading_33 : decode cX5_reading 33 = .ok (.iload_n 2, 1) := by decide +kernel
theorem dX5_reading_34 : decode cX5_reading 34 = .ok (.iadd, 1) := by decide +kernel
theorem dX5_reading_35 : decode cX5_reading 35 = .ok (.iaload, 1) := by decide +kernel
theorem dX5_reading_36 : decode cX5_reading 36 = .ok (.invokestatic 77, 3) := by decide +kernel
theorem dX5_reading_39 : decode cX5_reading 39 = .ok (.ireturn, 1) := by decide +kernel
set_option maxRecDepth 20000 in
theorem ggX5_cells_X5_in : GoodIn wsX5_cells wsX5_in := goodIn_r _ [7] (by decide +kernel) (by decide +kernel)
set_option maxRecDepth 20000 in
theorem gX5_cells_X5_in : GoodIn wsX5_cells (va_wsS RX5 58 yX5_in wsX5_in) := goodIn_app (goodIn_of _ (by decide +kernel)) ggX5_cells_X5_in
theorem dX5_cells_0 : decode cX5_cells 0 = .ok (.iload_n 1, 1) := by decide +kernel
theorem dX5_cells_1 : decode cX5_cells 1 = .ok (.i2l, 1) := by decide +kernel
theorem dX5_cells_2 : decode cX5_cells 2 = .ok (.lconst 1, 1) := by decide +kernel
theorem dX5_cells_3 : decode cX5_cells 3 = .ok (.ldc2_w 80, 3) := by decide +kernel
theorem dX5_cells_6 : decode cX5_cells 6 = .ok (.invokestatic 58, 3) := by decide +kernel
theorem dX5_cells_9 : decode cX5_cells 9 = .ok (.ifCond .ne 6, 3) := by decide +kernel
theorem dX5_cells_12 : decode cX5_cells 12 = .ok (.bipush (-2), 2) := by decide +kernel
theorem dX5_cells_14 : decode cX5_cells 14 = .ok (.ireturn, 1) := by decide +kernel
theorem dX5_cells_15 : decode cX5_cells 15 = .ok (.aload_n 0, 1) := by decide +kernel
theorem dX5_cells_16 : decode cX5_cells 16 = .ok (.getfield 82, 3) := by decide +kernel
theorem dX5_cells_19 : decode cX5_cells 19 = .ok (.ifCond .le 6, 3) := by decide +kernel
theorem dX5_cells_22 : decode cX5_cells 22 = .ok (.bipush (-3), 2) := by decide +kernel
theorem dX5_cells_24 : decode cX5_cells 24 = .ok (.ireturn, 1) := by decide +kernel
theorem dX5_cells_25 : decode cX5_cells 25 = .ok (.aload_n 0, 1) := by decide +kernel
theorem dX5_cells_26 : decode cX5_cells 26 = .ok (.getfield 28, 3) := by decide +kernel
theorem dX5_cells_29 : decode cX5_cells 29 = .ok (.istore_n 2, 1) := by decide +kernel
theorem dX5_cells_30 : decode cX5_cells 30 = .ok (.aload_n 0, 1) := by decide +kernel
theorem dX5_cells_31 : decode cX5_cells 31 = .ok (.iload_n 1, 1) := by decide +kernel
theorem dX5_cells_32 : decode cX5_cells 32 = .ok (.putfield 28, 3) := by decide +kernel
theorem dX5_cells_35 : decode cX5_cells 35 = .ok (.iload_n 2, 1) := by decide +kernel
theorem dX5_cells_36 : decode cX5_cells 36 = .ok (.ireturn, 1) := by decide +kernel
set_option maxRecDepth 20000 in
theorem ggX5_ping_X5_in : GoodIn wsX5_ping wsX5_in := goodIn_r _ [13] (by decide +kernel) (by decide +kernel)
set_option maxRecDepth 20000 in
theorem gX5_ping_X5_in : GoodIn wsX5_ping (va_wsS RX5 58 yX5_in wsX5_in) := goodIn_app (goodIn_of _ (by decide +kernel)) ggX5_ping_X5_in
theorem dX5_ping_0 : decode cX5_ping 0 = .ok (.iload_n 1, 1) := by decide +kernel
theorem dX5_ping_1 : decode cX5_ping 1 = .ok (.i2l, 1) := by decide +kernel
theorem dX5_ping_2 : decode cX5_ping 2 = .ok (.lconst 0, 1) := by decide +kernel
theorem dX5_ping_3 : decode cX5_ping 3 = .ok (.ldc2_w 85, 3) := by decide +kernel
theorem dX5_ping_6 : decode cX5_ping 6 = .ok (.invokestatic 58, 3) := by decide +kernel
theorem dX5_ping_9 : decode cX5_ping 9 = .ok (.ifCond .eq 44, 3) := by decide +kernel
theorem dX5_ping_12 : decode cX5_ping 12 = .ok (.iload_n 2, 1) := by decide +kernel
theorem dX5_ping_13 : decode cX5_ping 13 = .ok (.i2l, 1) := by decide +kernel
theorem dX5_ping_14 : decode cX5_ping 14 = .ok (.ldc2_w 87, 3) := by decide +kernel
theorem dX5_ping_17 : decode cX5_ping 17 = .ok (.ldc2_w 89, 3) := by decide +kernel
theorem dX5_ping_20 : decode cX5_ping 20 = .ok (.invokestatic 58, 3) := by decide +kernel
theorem dX5_ping_23 : decode cX5_ping 23 = .ok (.ifCond .eq 30, 3) := by decide +kernel
theorem dX5_ping_26 : decode cX5_ping 26 = .ok (.iload_n 3, 1) := by decide +kernel
theorem dX5_ping_27 : decode cX5_ping 27 = .ok (.i2l, 1) := by decide +kernel
theorem dX5_ping_28 : decode cX5_ping 28 = .ok (.ldc2_w 87, 3) := by decide +kernel
theorem dX5_ping_31 : decode cX5_ping 31 = .ok (.ldc2_w 89, 3) := by decide +kernel
theorem dX5_ping_34 : decode cX5_ping 34 = .ok (.invokestatic 58, 3) := by decide +kernel
theorem dX5_ping_37 : decode cX5_ping 37 = .ok (.ifCond .eq 16, 3) := by decide +kernel
theorem dX5_ping_40 : decode cX5_ping 40 = .ok (.iload 4, 2) := by decide +kernel
theorem dX5_ping_42 : decode cX5_ping 42 = .ok (.i2l, 1) := by decide +kernel
theorem dX5_ping_43 : decode cX5_ping 43 = .ok (.lconst 0, 1) := by decide +kernel
theorem dX5_ping_44 : decode cX5_ping 44 = .ok (.ldc2_w 80, 3) := by decide +kernel
theorem dX5_ping_47 : decode cX5_ping 47 = .ok (.invokestatic 58, 3) := by decide +kernel
theorem dX5_ping_50 : decode cX5_ping 50 = .ok (.ifCond .ne 6, 3) := by decide +kernel
theorem dX5_ping_53 : decode cX5_ping 53 = .ok (.bipush (-2), 2) := by decide +kernel
theorem dX5_ping_55 : decode cX5_ping 55 = .ok (.ireturn, 1) := by decide +kernel
theorem dX5_ping_56 : decode cX5_ping 56 = .ok (.aload_n 0, 1) := by decide +kernel
theorem dX5_ping_57 : decode cX5_ping 57 = .ok (.getfield 82, 3) := by decide +kernel
theorem dX5_ping_60 : decode cX5_ping 60 = .ok (.bipush 40, 2) := by decide +kernel
theorem dX5_ping_62 : decode cX5_ping 62 = .ok (.if_icmp .ne 6, 3) := by decide +kernel
theorem dX5_ping_65 : decode cX5_ping 65 = .ok (.bipush (-4), 2) := by decide +kernel
theorem dX5_ping_67 : decode cX5_ping 67 = .ok (.ireturn, 1) := by decide +kernel
theorem dX5_ping_68 : decode cX5_ping 68 = .ok (.aload_n 0, 1) := by decide +kernel
theorem dX5_ping_69 : decode cX5_ping 69 = .ok (.getfield 32, 3) := by decide +kernel
theorem dX5_ping_72 : decode cX5_ping 72 = .ok (.aload_n 0, 1) := by decide +kernel
theorem dX5_ping_73 : decode cX5_ping 73 = .ok (.getfield 82, 3) := by decide +kernel
theorem dX5_ping_76 : decode cX5_ping 76 = .ok (.iload_n 1, 1) := by decide +kernel
theorem dX5_ping_77 : decode cX5_ping 77 = .ok (.iastore, 1) := by decide +kernel
theorem dX5_ping_78 : decode cX5_ping 78 = .ok (.aload_n 0, 1) := by decide +kernel
theorem dX5_ping_79 : decode cX5_ping 79 = .ok (.getfield 35, 3) := by decide +kernel
theorem dX5_ping_82 : decode cX5_ping 82 = .ok (.aload_n 0, 1) := by decide +kernel
theorem dX5_ping_83 : decode cX5_ping 83 = .ok (.getfield 82, 3) := by decide +kernel
theorem dX5_ping_86 : decode cX5_ping 86 = .ok (.iload_n 2, 1) := by decide +kernel
theorem dX5_ping_87 : decode cX5_ping 87 = .ok (.iastore, 1) := by decide +kernel
theorem dX5_ping_88 : decode cX5_ping 88 = .ok (.aload_n 0, 1) := by decide +kernel
theorem dX5_ping_89 : decode cX5_ping 89 = .ok (.getfield 38, 3) := by decide +kernel
theorem dX5_ping_92 : decode cX5_ping 92 = .ok (.aload_n 0, 1) := by decide +kernel
theorem dX5_ping_93 : decode cX5_ping 93 = .ok (.getfield 82, 3) := by decide +kernel
theorem dX5_ping_96 : decode cX5_ping 96 = .ok (.iload_n 3, 1) := by decide +kernel
theorem dX5_ping_97 : decode cX5_ping 97 = .ok (.iastore, 1) := by decide +kernel
theorem dX5_ping_98 : decode cX5_ping 98 = .ok (.aload_n 0, 1) := by decide +kernel
theorem dX5_ping_99 : decode cX5_ping 99 = .ok (.getfield 41, 3) := by decide +kernel
theorem dX5_ping_102 : decode cX5_ping 102 = .ok (.aload_n 0, 1) := by decide +kernel
theorem dX5_ping_103 : decode cX5_ping 103 = .ok (.getfield 82, 3) := by decide +kernel
theorem dX5_ping_106 : decode cX5_ping 106 = .ok (.iload 4, 2) := by decide +kernel
theorem dX5_ping_108 : decode cX5_ping 108 = .ok (.iastore, 1) := by decide +kernel
theorem dX5_ping_109 : decode cX5_ping 109 = .ok (.aload_n 0, 1) := by decide +kernel
theorem dX5_ping_110 : decode cX5_ping 110 = .ok (.dup, 1) := by decide +kernel
theorem dX5_ping_111 : decode cX5_ping 111 = .ok (.getfield 82, 3) := by decide +kernel
theorem dX5_ping_114 : decode cX5_ping 114 = .ok (.iconst 1, 1) := by decide +kernel
theorem dX5_ping_115 : decode cX5_ping 115 = .ok (.iadd, 1) := by decide +kernel
theorem dX5_ping_116 : decode cX5_ping 116 = .ok (.putfield 82, 3) := by decide +kernel
theorem dX5_ping_119 : decode cX5_ping 119 = .ok (.aload_n 0, 1) := by decide +kernel
theorem dX5_ping_120 : decode cX5_ping 120 = .ok (.getfield 82, 3) := by decide +kernel
theorem dX5_ping_123 : decode cX5_ping 123 = .ok (.iconst 1, 1) := by decide +kernel
theorem dX5_ping_124 : decode cX5_ping 124 = .ok (.isub, 1) := by decide +kernel
theorem dX5_ping_125 : decode cX5_ping 125 = .ok (.ireturn, 1) := by decide +kernel
set_option maxRecDepth 20000 in
theorem ggX5_isPing_X5_in : GoodIn wsX5_isPing wsX5_in := goodIn_r _ [5] (by decide +kernel) (by decide +kernel)
set_option maxRecDepth 20000 in
theorem gX5_isPing_X5_in : GoodIn wsX5_isPing (va_wsS RX5 58 yX5_in wsX5_in) := goodIn_app (goodIn_of _ (by decide +kernel)) ggX5_isPing_X5_in
theorem dX5_isPing_0 : decode cX5_isPing 0 = .ok (.iload_n 1, 1) := by decide +kernel
theorem dX5_isPing_1 : decode cX5_isPing 1 = .ok (.i2l, 1) := by decide +kernel
theorem dX5_isPing_2 : decode cX5_isPing 2 = .ok (.lconst 0, 1) := by decide +kernel
theorem dX5_isPing_3 : decode cX5_isPing 3 = .ok (.aload_n 0, 1) := by decide +kernel
theorem dX5_isPing_4 : decode cX5_isPing 4 = .ok (.getfield 82, 3) := by decide +kernel
theorem dX5_isPing_7 : decode cX5_isPing 7 = .ok (.iconst 1, 1) := by decide +kernel
theorem dX5_isPing_8 : decode cX5_isPing 8 = .ok (.isub, 1) := by decide +kernel
theorem dX5_isPing_9 : decode cX5_isPing 9 = .ok (.i2l, 1) := by decide +kernel
theorem dX5_isPing_10 : decode cX5_isPing 10 = .ok (.invokestatic 58, 3) := by decide +kernel
theorem dX5_isPing_13 : decode cX5_isPing 13 = .ok (.ireturn, 1) := by decide +kernel
set_option maxRecDepth 20000 in
theorem ggX5_mend_X5_isPing : GoodIn wsX5_mend wsX5_isPing := goodIn_r _ [7, 8, 9, 10, 6, 11, 12, 13, 14, 15, 16, 17, 18, 19, 20, 21, 22, 23, 24, 25, 26, 27, 28, 29, 30, 31, 32, 33, 34, 35, 36, 37, 38, 39, 40, 41, 42] (by decide +kernel) (by decide +kernel)
set_option maxRecDepth 20000 in
theorem gX5_mend_X5_isPing : GoodIn wsX5_mend (wsV RX5 91 RX5 yX5_isPing wsX5_isPing) := goodIn_app (goodIn_of _ (by decide +kernel)) ggX5_mend_X5_isPing
set_option maxRecDepth 20000 in
theorem ggX5_mend_X5_in : GoodIn wsX5_mend wsX5_in := goodIn_r _ [11] (by decide +kernel) (by decide +kernel)
set_option maxRecDepth 20000 in
theorem gX5_mend_X5_in : GoodIn wsX5_mend (va_wsS RX5 58 yX5_in wsX5_in) := goodIn_app (goodIn_of _ (by decide +kernel)) ggX5_mend_X5_in
theorem dX5_mend_0 : decode cX5_mend 0 = .ok (.aload_n 0, 1) := by decide +kernel
theorem dX5_mend_1 : decode cX5_mend 1 = .ok (.iload_n 1, 1) := by decide +kernel
theorem dX5_mend_2 : decode cX5_mend 2 = .ok (.invokevirtual 91, 3) := by decide +kernel
theorem dX5_mend_5 : decode cX5_mend 5 = .ok (.ifCond .eq 15, 3) := by decide +kernel
theorem dX5_mend_8 : decode cX5_mend 8 = .ok (.iload_n 2, 1) := by decide +kernel
theorem dX5_mend_9 : decode cX5_mend 9 = .ok (.i2l, 1) := by decide +kernel
theorem dX5_mend_10 : decode cX5_mend 10 = .ok (.lconst 0, 1) := by decide +kernel
theorem dX5_mend_11 : decode cX5_mend 11 = .ok (.ldc2_w 85, 3) := by decide +kernel
theorem dX5_mend_14 : decode cX5_mend 14 = .ok (.invokestatic 58, 3) := by decide +kernel
theorem dX5_mend_17 : decode cX5_mend 17 = .ok (.ifCond .ne 6, 3) := by decide +kernel
theorem dX5_mend_20 : decode cX5_mend 20 = .ok (.bipush (-2), 2) := by decide +kernel
theorem dX5_mend_22 : decode cX5_mend 22 = .ok (.ireturn, 1) := by decide +kernel
theorem dX5_mend_23 : decode cX5_mend 23 = .ok (.aload_n 0, 1) := by decide +kernel
theorem dX5_mend_24 : decode cX5_mend 24 = .ok (.getfield 32, 3) := by decide +kernel
theorem dX5_mend_27 : decode cX5_mend 27 = .ok (.iload_n 1, 1) := by decide +kernel
theorem dX5_mend_28 : decode cX5_mend 28 = .ok (.iaload, 1) := by decide +kernel
theorem dX5_mend_29 : decode cX5_mend 29 = .ok (.istore_n 3, 1) := by decide +kernel
theorem dX5_mend_30 : decode cX5_mend 30 = .ok (.aload_n 0, 1) := by decide +kernel
theorem dX5_mend_31 : decode cX5_mend 31 = .ok (.getfield 32, 3) := by decide +kernel
theorem dX5_mend_34 : decode cX5_mend 34 = .ok (.iload_n 1, 1) := by decide +kernel
theorem dX5_mend_35 : decode cX5_mend 35 = .ok (.iload_n 2, 1) := by decide +kernel
theorem dX5_mend_36 : decode cX5_mend 36 = .ok (.iastore, 1) := by decide +kernel
theorem dX5_mend_37 : decode cX5_mend 37 = .ok (.iload_n 3, 1) := by decide +kernel
theorem dX5_mend_38 : decode cX5_mend 38 = .ok (.ireturn, 1) := by decide +kernel
theorem dX5_clear_0 : decode cX5_clear 0 = .ok (.aload_n 0, 1) := by decide +kernel
theorem dX5_clear_1 : decode cX5_clear 1 = .ok (.getfield 82, 3) := by decide +kernel
theorem dX5_clear_4 : decode cX5_clear 4 = .ok (.istore_n 1, 1) := by decide +kernel
theorem dX5_clear_5 : decode cX5_clear 5 = .ok (.aload_n 0, 1) := by decide +kernel
theorem dX5_clear_6 : decode cX5_clear 6 = .ok (.iconst 0, 1) := by decide +kernel
theorem dX5_clear_7 : decode cX5_clear 7 = .ok (.putfield 82, 3) := by decide +kernel
theorem dX5_clear_10 : decode cX5_clear 10 = .ok (.iload_n 1, 1) := by decide +kernel
theorem dX5_clear_11 : decode cX5_clear 11 = .ok (.ireturn, 1) := by decide +kernel
set_option maxRecDepth 20000 in
theorem ggX5_about_X5_isPing : GoodIn wsX5_about wsX5_isPing := goodIn_r _ [10, 11, 12, 13, 9, 14, 54, 55, 56, 57, 58, 59, 60, 61, 62, 63, 64, 65, 66, 67, 68, 69, 70, 71, 72, 73, 74, 75, 76, 77, 78, 79, 80, 81, 82, 83, 84] (by decide +kernel) (by decide +kernel)
set_option maxRecDepth 20000 in
theorem gX5_about_X5_isPing : GoodIn wsX5_about (wsV RX5 91 RX5 yX5_isPing wsX5_isPing) := goodIn_app (goodIn_of _ (by decide +kernel)) ggX5_about_X5_isPing
set_option maxRecDepth 20000 in
theorem ggX5_about_X5_findOwn : GoodIn wsX5_about wsX5_findOwn := goodIn_r _ [18, 19, 20, 21, 22, 23, 11, 24, 3, 4, 25, 26, 27, 9, 28, 29, 30, 31, 32, 33, 34, 35, 36, 37, 38, 39, 40, 41, 42, 43, 44, 45, 46, 47, 2, 48, 49, 50, 51, 52, 53, 54, 55, 56, 57, 58, 59, 60, 61, 62, 63, 64, 65, 66, 67, 68, 69, 70, 71, 72, 73, 74, 75, 76, 77, 78, 79, 80, 81, 82, 83, 84] (by decide +kernel) (by decide +kernel)
set_option maxRecDepth 20000 in
theorem gX5_about_X5_findOwn : GoodIn wsX5_about (wsV RX5 94 RX5 yX5_findOwn wsX5_findOwn) := goodIn_app (goodIn_of _ (by decide +kernel)) ggX5_about_X5_findOwn
theorem dX5_about_0 : decode cX5_about 0 = .ok (.aload_n 0, 1) := by decide +kernel
theorem dX5_about_1 : decode cX5_about 1 = .ok (.iload_n 1, 1) := by decide +kernel
theorem dX5_about_2 : decode cX5_about 2 = .ok (.invokevirtual 91, 3) := by decide +kernel
theorem dX5_about_5 : decode cX5_about 5 = .ok (.ifCond .ne 6, 3) := by decide +kernel
theorem dX5_about_8 : decode cX5_about 8 = .ok (.ldc 76, 2) := by decide +kernel
theorem dX5_about_10 : decode cX5_about 10 = .ok (.ireturn, 1) := by decide +kernel
theorem dX5_about_11 : decode cX5_about 11 = .ok (.iload_n 2, 1) := by decide +kernel
theorem dX5_about_12 : decode cX5_about 12 = .ok (.tableswitch 78 0 4 #[36, 43, 50, 57, 64], 36) := by decide +kernel
theorem dX5_about_48 : decode cX5_about 48 = .ok (.aload_n 0, 1) := by decide +kernel
theorem dX5_about_49 : decode cX5_about 49 = .ok (.getfield 32, 3) := by decide +kernel
theorem dX5_about_52 : decode cX5_about 52 = .ok (.iload_n 1, 1) := by decide +kernel
theorem dX5_about_53 : decode cX5_about 53 = .ok (.iaload, 1) := by decide +kernel
theorem dX5_about_54 : decode cX5_about 54 = .ok (.ireturn, 1) := by decide +kernel
theorem dX5_about_55 : decode cX5_about 55 = .ok (.aload_n 0, 1) := by decide +kernel
theorem dX5_about_56 : decode cX5_about 56 = .ok (.getfield 35, 3) := by decide +kernel
theorem dX5_about_59 : decode cX5_about 59 = .ok (.iload_n 1, 1) := by decide +kernel
theorem dX5_about_60 : decode cX5_about 60 = .ok (.iaload, 1) := by decide +kernel
theorem dX5_about_61 : decode cX5_about 61 = .ok (.ireturn, 1) := by decide +kernel
theorem dX5_about_62 : decode cX5_about 62 = .ok (.aload_n 0, 1) := by decide +kernel
theorem dX5_about_63 : decode cX5_about 63 = .ok (.getfield 38, 3) := by decide +kernel
theorem dX5_about_66 : decode cX5_about 66 = .ok (.iload_n 1, 1) := by decide +kernel
theorem dX5_about_67 : decode cX5_about 67 = .ok (.iaload, 1) := by decide +kernel
theorem dX5_about_68 : decode cX5_about 68 = .ok (.ireturn, 1) := by decide +kernel
theorem dX5_about_69 : decode cX5_about 69 = .ok (.aload_n 0, 1) := by decide +kernel
theorem dX5_about_70 : decode cX5_about 70 = .ok (.getfield 41, 3) := by decide +kernel
theorem dX5_about_73 : decode cX5_about 73 = .ok (.iload_n 1, 1) := by decide +kernel
theorem dX5_about_74 : decode cX5_about 74 = .ok (.iaload, 1) := by decide +kernel
theorem dX5_about_75 : decode cX5_about 75 = .ok (.ireturn, 1) := by decide +kernel
theorem dX5_about_76 : decode cX5_about 76 = .ok (.aload_n 0, 1) := by decide +kernel
theorem dX5_about_77 : decode cX5_about 77 = .ok (.iload_n 1, 1) := by decide +kernel
theorem dX5_about_78 : decode cX5_about 78 = .ok (.invokevirtual 94, 3) := by decide +kernel
theorem dX5_about_81 : decode cX5_about 81 = .ok (.ifCond .eq 7, 3) := by decide +kernel
theorem dX5_about_84 : decode cX5_about 84 = .ok (.iconst 1, 1) := by decide +kernel
theorem dX5_about_85 : decode cX5_about 85 = .ok (.goto 4, 3) := by decide +kernel
theorem dX5_about_88 : decode cX5_about 88 = .ok (.iconst 0, 1) := by decide +kernel
theorem dX5_about_89 : decode cX5_about 89 = .ok (.ireturn, 1) := by decide +kernel
theorem dX5_about_90 : decode cX5_about 90 = .ok (.ldc 76, 2) := by decide +kernel
theorem dX5_about_92 : decode cX5_about 92 = .ok (.ireturn, 1) := by decide +kernel
theorem dX5_turn_0 : decode cX5_turn 0 = .ok (.aload_n 0, 1) := by decide +kernel
theorem dX5_turn_1 : decode cX5_turn 1 = .ok (.getfield 7, 3) := by decide +kernel
theorem dX5_turn_4 : decode cX5_turn 4 = .ok (.iload 5, 2) := by decide +kernel
theorem dX5_turn_6 : decode cX5_turn 6 = .ok (.bipush 9, 2) := by decide +kernel
theorem dX5_turn_8 : decode cX5_turn 8 = .ok (.irem, 1) := by decide +kernel
theorem dX5_turn_9 : decode cX5_turn 9 = .ok (.iaload, 1) := by decide +kernel
theorem dX5_turn_10 : decode cX5_turn 10 = .ok (.i2l, 1) := by decide +kernel
theorem dX5_turn_11 : decode cX5_turn 11 = .ok (.lstore 6, 2) := by decide +kernel
theorem dX5_turn_13 : decode cX5_turn 13 = .ok (.aload_n 0, 1) := by decide +kernel
theorem dX5_turn_14 : decode cX5_turn 14 = .ok (.getfield 13, 3) := by decide +kernel
theorem dX5_turn_17 : decode cX5_turn 17 = .ok (.iload 5, 2) := by decide +kernel
theorem dX5_turn_19 : decode cX5_turn 19 = .ok (.bipush 9, 2) := by decide +kernel
theorem dX5_turn_21 : decode cX5_turn 21 = .ok (.irem, 1) := by decide +kernel
theorem dX5_turn_22 : decode cX5_turn 22 = .ok (.iaload, 1) := by decide +kernel
theorem dX5_turn_23 : decode cX5_turn 23 = .ok (.i2l, 1) := by decide +kernel
theorem dX5_turn_24 : decode cX5_turn 24 = .ok (.lstore 8, 2) := by decide +kernel
theorem dX5_turn_26 : decode cX5_turn 26 = .ok (.iconst 0, 1) := by decide +kernel
theorem dX5_turn_27 : decode cX5_turn 27 = .ok (.istore 10, 2) := by decide +kernel
theorem dX5_turn_29 : decode cX5_turn 29 = .ok (.iload 10, 2) := by decide +kernel
theorem dX5_turn_31 : decode cX5_turn 31 = .ok (.iload 5, 2) := by decide +kernel
theorem dX5_turn_33 : decode cX5_turn 33 = .ok (.bipush 9, 2) := by decide +kernel
theorem dX5_turn_35 : decode cX5_turn 35 = .ok (.idiv, 1) := by decide +kernel
theorem dX5_turn_36 : decode cX5_turn 36 = .ok (.if_icmp .ge 22, 3) := by decide +kernel
theorem dX5_turn_39 : decode cX5_turn 39 = .ok (.lload 6, 2) := by decide +kernel
theorem dX5_turn_41 : decode cX5_turn 41 = .ok (.lstore 11, 2) := by decide +kernel
theorem dX5_turn_43 : decode cX5_turn 43 = .ok (.lload 8, 2) := by decide +kernel
theorem dX5_turn_45 : decode cX5_turn 45 = .ok (.lneg, 1) := by decide +kernel
theorem dX5_turn_46 : decode cX5_turn 46 = .ok (.lstore 6, 2) := by decide +kernel
theorem dX5_turn_48 : decode cX5_turn 48 = .ok (.lload 11, 2) := by decide +kernel
theorem dX5_turn_50 : decode cX5_turn 50 = .ok (.lstore 8, 2) := by decide +kernel
theorem dX5_turn_52 : decode cX5_turn 52 = .ok (.iinc 10 1, 3) := by decide +kernel
theorem dX5_turn_55 : decode cX5_turn 55 = .ok (.goto (-26), 3) := by decide +kernel
theorem dX5_turn_58 : decode cX5_turn 58 = .ok (.aload_n 0, 1) := by decide +kernel
theorem dX5_turn_59 : decode cX5_turn 59 = .ok (.lload 6, 2) := by decide +kernel
theorem dX5_turn_61 : decode cX5_turn 61 = .ok (.lload_n 1, 1) := by decide +kernel
theorem dX5_turn_62 : decode cX5_turn 62 = .ok (.lmul, 1) := by decide +kernel
theorem dX5_turn_63 : decode cX5_turn 63 = .ok (.lload 8, 2) := by decide +kernel
theorem dX5_turn_65 : decode cX5_turn 65 = .ok (.lload_n 3, 1) := by decide +kernel
theorem dX5_turn_66 : decode cX5_turn 66 = .ok (.lmul, 1) := by decide +kernel
theorem dX5_turn_67 : decode cX5_turn 67 = .ok (.lsub, 1) := by decide +kernel
theorem dX5_turn_68 : decode cX5_turn 68 = .ok (.putfield 97, 3) := by decide +kernel
theorem dX5_turn_71 : decode cX5_turn 71 = .ok (.aload_n 0, 1) := by decide +kernel
theorem dX5_turn_72 : decode cX5_turn 72 = .ok (.lload 8, 2) := by decide +kernel
theorem dX5_turn_74 : decode cX5_turn 74 = .ok (.lload_n 1, 1) := by decide +kernel
theorem dX5_turn_75 : decode cX5_turn 75 = .ok (.lmul, 1) := by decide +kernel
theorem dX5_turn_76 : decode cX5_turn 76 = .ok (.lload 6, 2) := by decide +kernel
theorem dX5_turn_78 : decode cX5_turn 78 = .ok (.lload_n 3, 1) := by decide +kernel
theorem dX5_turn_79 : decode cX5_turn 79 = .ok (.lmul, 1) := by decide +kernel
theorem dX5_turn_80 : decode cX5_turn 80 = .ok (.ladd, 1) := by decide +kernel
theorem dX5_turn_81 : decode cX5_turn 81 = .ok (.putfield 101, 3) := by decide +kernel
theorem dX5_turn_84 : decode cX5_turn 84 = .ok (.return_, 1) := by decide +kernel
set_option maxRecDepth 20000 in
theorem ggX5_turned_X5_in : GoodIn wsX5_turned wsX5_in := goodIn_r _ [10] (by decide +kernel) (by decide +kernel)
set_option maxRecDepth 20000 in
theorem gX5_turned_X5_in : GoodIn wsX5_turned (va_wsS RX5 58 yX5_in wsX5_in) := goodIn_app (goodIn_of _ (by decide +kernel)) ggX5_turned_X5_in
set_option maxRecDepth 20000 in
theorem ggX5_turned_X5_turn : GoodIn wsX5_turned wsX5_turn := goodIn_r _ [14, 15, 16, 5, 6, 17, 18, 19, 20, 21, 22, 23, 24, 25, 26, 27, 28, 29, 30, 31, 32, 33, 34, 35, 36, 37, 38, 39, 40, 41, 42, 43, 44, 45, 46, 47] (by decide +kernel) (by decide +kernel)
set_option maxRecDepth 20000 in
theorem gX5_turned_X5_turn : GoodIn wsX5_turned (wsV RX5 104 RX5 yX5_turn wsX5_turn) := goodIn_app (goodIn_of _ (by decide +kernel)) ggX5_turned_X5_turn
theorem dX5_turned_0 : decode cX5_turned 0 = .ok (.iload_n 1, 1) := by decide +kernel
theorem dX5_turned_1 : decode cX5_turned 1 = .ok (.i2l, 1) := by decide +kernel
theorem dX5_turned_2 : decode cX5_turned 2 = .ok (.ldc2_w 87, 3) := by decide +kernel
theorem dX5_turned_5 : decode cX5_turned 5 = .ok (.ldc2_w 89, 3) := by decide +kernel
theorem dX5_turned_8 : decode cX5_turned 8 = .ok (.invokestatic 58, 3) := by decide +kernel
theorem dX5_turned_11 : decode cX5_turned 11 = .ok (.ifCond .eq 40, 3) := by decide +kernel
theorem dX5_turned_14 : decode cX5_turned 14 = .ok (.iload_n 2, 1) := by decide +kernel
theorem dX5_turned_15 : decode cX5_turned 15 = .ok (.i2l, 1) := by decide +kernel
theorem dX5_turned_16 : decode cX5_turned 16 = .ok (.ldc2_w 87, 3) := by decide +kernel
theorem dX5_turned_19 : decode cX5_turned 19 = .ok (.ldc2_w 89, 3) := by decide +kernel
theorem dX5_turned_22 : decode cX5_turned 22 = .ok (.invokestatic 58, 3) := by decide +kernel
theorem dX5_turned_25 : decode cX5_turned 25 = .ok (.ifCond .eq 26, 3) := by decide +kernel
theorem dX5_turned_28 : decode cX5_turned 28 = .ok (.iload_n 3, 1) := by decide +kernel
theorem dX5_turned_29 : decode cX5_turned 29 = .ok (.i2l, 1) := by decide +kernel
theorem dX5_turned_30 : decode cX5_turned 30 = .ok (.lconst 0, 1) := by decide +kernel
theorem dX5_turned_31 : decode cX5_turned 31 = .ok (.ldc2_w 85, 3) := by decide +kernel
theorem dX5_turned_34 : decode cX5_turned 34 = .ok (.invokestatic 58, 3) := by decide +kernel
theorem dX5_turned_37 : decode cX5_turned 37 = .ok (.ifCond .eq 14, 3) := by decide +kernel
theorem dX5_turned_40 : decode cX5_turned 40 = .ok (.iload 4, 2) := by decide +kernel
theorem dX5_turned_42 : decode cX5_turned 42 = .ok (.i2l, 1) := by decide +kernel
theorem dX5_turned_43 : decode cX5_turned 43 = .ok (.lconst 0, 1) := by decide +kernel
theorem dX5_turned_44 : decode cX5_turned 44 = .ok (.lconst 1, 1) := by decide +kernel
theorem dX5_turned_45 : decode cX5_turned 45 = .ok (.invokestatic 58, 3) := by decide +kernel
theorem dX5_turned_48 : decode cX5_turned 48 = .ok (.ifCond .ne 6, 3) := by decide +kernel
theorem dX5_turned_51 : decode cX5_turned 51 = .ok (.ldc 76, 2) := by decide +kernel
theorem dX5_turned_53 : decode cX5_turned 53 = .ok (.ireturn, 1) := by decide +kernel
theorem dX5_turned_54 : decode cX5_turned 54 = .ok (.aload_n 0, 1) := by decide +kernel
theorem dX5_turned_55 : decode cX5_turned 55 = .ok (.iload_n 1, 1) := by decide +kernel
theorem dX5_turned_56 : decode cX5_turned 56 = .ok (.i2l, 1) := by decide +kernel
theorem dX5_turned_57 : decode cX5_turned 57 = .ok (.iload_n 2, 1) := by decide +kernel
theorem dX5_turned_58 : decode cX5_turned 58 = .ok (.i2l, 1) := by decide +kernel
theorem dX5_turned_59 : decode cX5_turned 59 = .ok (.iload_n 3, 1) := by decide +kernel
theorem dX5_turned_60 : decode cX5_turned 60 = .ok (.invokevirtual 104, 3) := by decide +kernel
theorem dX5_turned_63 : decode cX5_turned 63 = .ok (.iload 4, 2) := by decide +kernel
theorem dX5_turned_65 : decode cX5_turned 65 = .ok (.ifCond .ne 10, 3) := by decide +kernel
theorem dX5_turned_68 : decode cX5_turned 68 = .ok (.aload_n 0, 1) := by decide +kernel
theorem dX5_turned_69 : decode cX5_turned 69 = .ok (.getfield 97, 3) := by decide +kernel
theorem dX5_turned_72 : decode cX5_turned 72 = .ok (.goto 7, 3) := by decide +kernel
theorem dX5_turned_75 : decode cX5_turned 75 = .ok (.aload_n 0, 1) := by decide +kernel
theorem dX5_turned_76 : decode cX5_turned 76 = .ok (.getfield 101, 3) := by decide +kernel
theorem dX5_turned_79 : decode cX5_turned 79 = .ok (.l2i, 1) := by decide +kernel
theorem dX5_turned_80 : decode cX5_turned 80 = .ok (.ireturn, 1) := by decide +kernel
theorem dX5_answers_0 : decode cX5_answers 0 = .ok (.aload_n 0, 1) := by decide +kernel
theorem dX5_answers_1 : decode cX5_answers 1 = .ok (.iload_n 1, 1) := by decide +kernel
theorem dX5_answers_2 : decode cX5_answers 2 = .ok (.bipush (-128), 2) := by decide +kernel
theorem dX5_answers_4 : decode cX5_answers 4 = .ok (.if_icmp .ne 7, 3) := by decide +kernel
theorem dX5_answers_7 : decode cX5_answers 7 = .ok (.iconst 1, 1) := by decide +kernel
theorem dX5_answers_8 : decode cX5_answers 8 = .ok (.goto 4, 3) := by decide +kernel
theorem dX5_answers_11 : decode cX5_answers 11 = .ok (.iconst 0, 1) := by decide +kernel
theorem dX5_answers_12 : decode cX5_answers 12 = .ok (.iload_n 2, 1) := by decide +kernel
theorem dX5_answers_13 : decode cX5_answers 13 = .ok (.bipush (-128), 2) := by decide +kernel
theorem dX5_answers_15 : decode cX5_answers 15 = .ok (.if_icmp .ne 7, 3) := by decide +kernel
theorem dX5_answers_18 : decode cX5_answers 18 = .ok (.iconst 1, 1) := by decide +kernel
theorem dX5_answers_19 : decode cX5_answers 19 = .ok (.goto 4, 3) := by decide +kernel
theorem dX5_answers_22 : decode cX5_answers 22 = .ok (.iconst 0, 1) := by decide +kernel
theorem dX5_answers_23 : decode cX5_answers 23 = .ok (.iadd, 1) := by decide +kernel
theorem dX5_answers_24 : decode cX5_answers 24 = .ok (.iload_n 3, 1) := by decide +kernel
theorem dX5_answers_25 : decode cX5_answers 25 = .ok (.bipush (-128), 2) := by decide +kernel
theorem dX5_answers_27 : decode cX5_answers 27 = .ok (.if_icmp .ne 7, 3) := by decide +kernel
theorem dX5_answers_30 : decode cX5_answers 30 = .ok (.iconst 1, 1) := by decide +kernel
theorem dX5_answers_31 : decode cX5_answers 31 = .ok (.goto 4, 3) := by decide +kernel
theorem dX5_answers_34 : decode cX5_answers 34 = .ok (.iconst 0, 1) := by decide +kernel
theorem dX5_answers_35 : decode cX5_answers 35 = .ok (.iadd, 1) := by decide +kernel
theorem dX5_answers_36 : decode cX5_answers 36 = .ok (.iload 4, 2) := by decide +kernel
theorem dX5_answers_38 : decode cX5_answers 38 = .ok (.bipush (-128), 2) := by decide +kernel
theorem dX5_answers_40 : decode cX5_answers 40 = .ok (.if_icmp .ne 7, 3) := by decide +kernel
theorem dX5_answers_43 : decode cX5_answers 43 = .ok (.iconst 1, 1) := by decide +kernel
theorem dX5_answers_44 : decode cX5_answers 44 = .ok (.goto 4, 3) := by decide +kernel
theorem dX5_answers_47 : decode cX5_answers 47 = .ok (.iconst 0, 1) := by decide +kernel
theorem dX5_answers_48 : decode cX5_answers 48 = .ok (.iadd, 1) := by decide +kernel
theorem dX5_answers_49 : decode cX5_answers 49 = .ok (.putfield 108, 3) := by decide +kernel
theorem dX5_answers_52 : decode cX5_answers 52 = .ok (.aload_n 0, 1) := by decide +kernel
theorem dX5_answers_53 : decode cX5_answers 53 = .ok (.getfield 108, 3) := by decide +kernel
theorem dX5_answers_56 : decode cX5_answers 56 = .ok (.iconst 1, 1) := by decide +kernel
theorem dX5_answers_57 : decode cX5_answers 57 = .ok (.if_icmp .le 5, 3) := by decide +kernel
theorem dX5_answers_60 : decode cX5_answers 60 = .ok (.iconst 0, 1) := by decide +kernel
theorem dX5_answers_61 : decode cX5_answers 61 = .ok (.ireturn, 1) := by decide +kernel
theorem dX5_answers_62 : decode cX5_answers 62 = .ok (.iload_n 1, 1) := by decide +kernel
theorem dX5_answers_63 : decode cX5_answers 63 = .ok (.bipush (-128), 2) := by decide +kernel
theorem dX5_answers_65 : decode cX5_answers 65 = .ok (.if_icmp .ne 12, 3) := by decide +kernel
theorem dX5_answers_68 : decode cX5_answers 68 = .ok (.iload_n 3, 1) := by decide +kernel
theorem dX5_answers_69 : decode cX5_answers 69 = .ok (.iload 4, 2) := by decide +kernel
theorem dX5_answers_71 : decode cX5_answers 71 = .ok (.iadd, 1) := by decide +kernel
theorem dX5_answers_72 : decode cX5_answers 72 = .ok (.iload_n 2, 1) := by decide +kernel
theorem dX5_answers_73 : decode cX5_answers 73 = .ok (.isub, 1) := by decide +kernel
theorem dX5_answers_74 : decode cX5_answers 74 = .ok (.goto 4, 3) := by decide +kernel
theorem dX5_answers_77 : decode cX5_answers 77 = .ok (.iload_n 1, 1) := by decide +kernel
theorem dX5_answers_78 : decode cX5_answers 78 = .ok (.istore 5, 2) := by decide +kernel
theorem dX5_answers_80 : decode cX5_answers 80 = .ok (.iload_n 2, 1) := by decide +kernel
theorem dX5_answers_81 : decode cX5_answers 81 = .ok (.bipush (-128), 2) := by decide +kernel
theorem dX5_answers_83 : decode cX5_answers 83 = .ok (.if_icmp .ne 12, 3) := by decide +kernel
theorem dX5_answers_86 : decode cX5_answers 86 = .ok (.iload_n 3, 1) := by decide +kernel
theorem dX5_answers_87 : decode cX5_answers 87 = .ok (.iload 4, 2) := by decide +kernel
theorem dX5_answers_89 : decode cX5_answers 89 = .ok (.iadd, 1) := by decide +kernel
theorem dX5_answers_90 : decode cX5_answers 90 = .ok (.iload_n 1, 1) := by decide +kernel
theorem dX5_answers_91 : decode cX5_answers 91 = .ok (.isub, 1) := by decide +kernel
theorem dX5_answers_92 : decode cX5_answers 92 = .ok (.goto 4, 3) := by decide +kernel
theorem dX5_answers_95 : decode cX5_answers 95 = .ok (.iload_n 2, 1) := by decide +kernel
theorem dX5_answers_96 : decode cX5_answers 96 = .ok (.istore 6, 2) := by decide +kernel
theorem dX5_answers_98 : decode cX5_answers 98 = .ok (.iload_n 3, 1) := by decide +kernel
theorem dX5_answers_99 : decode cX5_answers 99 = .ok (.bipush (-128), 2) := by decide +kernel
theorem dX5_answers_101 : decode cX5_answers 101 = .ok (.if_icmp .ne 12, 3) := by decide +kernel
theorem dX5_answers_104 : decode cX5_answers 104 = .ok (.iload_n 1, 1) := by decide +kernel
theorem dX5_answers_105 : decode cX5_answers 105 = .ok (.iload_n 2, 1) := by decide +kernel
theorem dX5_answers_106 : decode cX5_answers 106 = .ok (.iadd, 1) := by decide +kernel
theorem dX5_answers_107 : decode cX5_answers 107 = .ok (.iload 4, 2) := by decide +kernel
theorem dX5_answers_109 : decode cX5_answers 109 = .ok (.isub, 1) := by decide +kernel
theorem dX5_answers_110 : decode cX5_answers 110 = .ok (.goto 4, 3) := by decide +kernel
theorem dX5_answers_113 : decode cX5_answers 113 = .ok (.iload_n 3, 1) := by decide +kernel
theorem dX5_answers_114 : decode cX5_answers 114 = .ok (.istore 7, 2) := by decide +kernel
theorem dX5_answers_116 : decode cX5_answers 116 = .ok (.iload 4, 2) := by decide +kernel
theorem dX5_answers_118 : decode cX5_answers 118 = .ok (.bipush (-128), 2) := by decide +kernel
theorem dX5_answers_120 : decode cX5_answers 120 = .ok (.if_icmp .ne 11, 3) := by decide +kernel
theorem dX5_answers_123 : decode cX5_answers 123 = .ok (.iload_n 1, 1) := by decide +kernel
theorem dX5_answers_124 : decode cX5_answers 124 = .ok (.iload_n 2, 1) := by decide +kernel
theorem dX5_answers_125 : decode cX5_answers 125 = .ok (.iadd, 1) := by decide +kernel
theorem dX5_answers_126 : decode cX5_answers 126 = .ok (.iload_n 3, 1) := by decide +kernel
theorem dX5_answers_127 : decode cX5_answers 127 = .ok (.isub, 1) := by decide +kernel
theorem dX5_answers_128 : decode cX5_answers 128 = .ok (.goto 5, 3) := by decide +kernel
theorem dX5_answers_131 : decode cX5_answers 131 = .ok (.iload 4, 2) := by decide +kernel
theorem dX5_answers_133 : decode cX5_answers 133 = .ok (.istore 8, 2) := by decide +kernel
theorem dX5_answers_135 : decode cX5_answers 135 = .ok (.aload_n 0, 1) := by decide +kernel
theorem dX5_answers_136 : decode cX5_answers 136 = .ok (.iload 5, 2) := by decide +kernel
theorem dX5_answers_138 : decode cX5_answers 138 = .ok (.iload 6, 2) := by decide +kernel
theorem dX5_answers_140 : decode cX5_answers 140 = .ok (.isub, 1) := by decide +kernel
theorem dX5_answers_141 : decode cX5_answers 141 = .ok (.putfield 111, 3) := by decide +kernel
theorem dX5_answers_144 : decode cX5_answers 144 = .ok (.aload_n 0, 1) := by decide +kernel
theorem dX5_answers_145 : decode cX5_answers 145 = .ok (.iload 7, 2) := by decide +kernel
theorem dX5_answers_147 : decode cX5_answers 147 = .ok (.iload 8, 2) := by decide +kernel
theorem dX5_answers_149 : decode cX5_answers 149 = .ok (.isub, 1) := by decide +kernel
theorem dX5_answers_150 : decode cX5_answers 150 = .ok (.putfield 114, 3) := by decide +kernel
theorem dX5_answers_153 : decode cX5_answers 153 = .ok (.aload_n 0, 1) := by decide +kernel
theorem dX5_answers_154 : decode cX5_answers 154 = .ok (.iload 5, 2) := by decide +kernel
theorem dX5_answers_156 : decode cX5_answers 156 = .ok (.iload 6, 2) := by decide +kernel
theorem dX5_answers_158 : decode cX5_answers 158 = .ok (.iadd, 1) := by decide +kernel
theorem dX5_answers_159 : decode cX5_answers 159 = .ok (.iload 7, 2) := by decide +kernel
theorem dX5_answers_161 : decode cX5_answers 161 = .ok (.isub, 1) := by decide +kernel
theorem dX5_answers_162 : decode cX5_answers 162 = .ok (.iload 8, 2) := by decide +kernel
theorem dX5_answers_164 : decode cX5_answers 164 = .ok (.isub, 1) := by decide +kernel
theorem dX5_answers_165 : decode cX5_answers 165 = .ok (.putfield 117, 3) := by decide +kernel
theorem dX5_answers_168 : decode cX5_answers 168 = .ok (.iconst 1, 1) := by decide +kernel
theorem dX5_answers_169 : decode cX5_answers 169 = .ok (.ireturn, 1) := by decide +kernel
set_option maxRecDepth 20000 in
theorem ggX5_answer_X5_in : GoodIn wsX5_answer wsX5_in := goodIn_r _ [10] (by decide +kernel) (by decide +kernel)
set_option maxRecDepth 20000 in
theorem gX5_answer_X5_in : GoodIn wsX5_answer (va_wsS RX5 58 yX5_in wsX5_in) := goodIn_app (goodIn_of _ (by decide +kernel)) ggX5_answer_X5_in
set_option maxRecDepth 20000 in
theorem ggX5_answer_X5_told : GoodIn wsX5_answer wsX5_told := goodIn_r _ [13] (by decide +kernel) (by decide +kernel)
set_option maxRecDepth 20000 in
theorem gX5_answer_X5_told : GoodIn wsX5_answer (va_wsS RX5 77 yX5_told wsX5_told) := goodIn_app (goodIn_of _ (by decide +kernel)) ggX5_answer_X5_told
set_option maxRecDepth 20000 in
theorem ggX5_answer_X5_answers : GoodIn wsX5_answer wsX5_answers := goodIn_r _ [17, 6, 3, 4, 5, 18, 19, 20, 21, 22, 23, 24, 25, 26, 27, 28, 29, 30, 31, 32, 33, 34, 35, 36, 37, 38, 39, 40, 41, 42, 43, 44, 45, 46, 47, 48] (by decide +kernel) (by decide +kernel)
set_option maxRecDepth 20000 in
theorem gX5_answer_X5_answers : GoodIn wsX5_answer (wsV RX5 122 RX5 yX5_answers wsX5_answers) := goodIn_app (goodIn_of _ (by decide +kernel)) ggX5_answer_X5_answers
theorem dX5_answer_0 : decode cX5_answer 0 = .ok (.iload 5, 2) := by decide +kernel
theorem dX5_answer_2 : decode cX5_answer 2 = .ok (.i2l, 1) := by decide +kernel
theorem dX5_answer_3 : decode cX5_answer 3 = .ok (.lconst 0, 1) := by decide +kernel
theorem dX5_answer_4 : decode cX5_answer 4 = .ok (.ldc2_w 120, 3) := by decide +kernel
theorem dX5_answer_7 : decode cX5_answer 7 = .ok (.invokestatic 58, 3) := by decide +kernel
theorem dX5_answer_10 : decode cX5_answer 10 = .ok (.ifCond .eq 27, 3) := by decide +kernel
theorem dX5_answer_13 : decode cX5_answer 13 = .ok (.aload_n 0, 1) := by decide +kernel
theorem dX5_answer_14 : decode cX5_answer 14 = .ok (.iload_n 1, 1) := by decide +kernel
theorem dX5_answer_15 : decode cX5_answer 15 = .ok (.invokestatic 77, 3) := by decide +kernel
theorem dX5_answer_18 : decode cX5_answer 18 = .ok (.iload_n 2, 1) := by decide +kernel
theorem dX5_answer_19 : decode cX5_answer 19 = .ok (.invokestatic 77, 3) := by decide +kernel
theorem dX5_answer_22 : decode cX5_answer 22 = .ok (.iload_n 3, 1) := by decide +kernel
theorem dX5_answer_23 : decode cX5_answer 23 = .ok (.invokestatic 77, 3) := by decide +kernel
theorem dX5_answer_26 : decode cX5_answer 26 = .ok (.iload 4, 2) := by decide +kernel
theorem dX5_answer_28 : decode cX5_answer 28 = .ok (.invokestatic 77, 3) := by decide +kernel
theorem dX5_answer_31 : decode cX5_answer 31 = .ok (.invokevirtual 122, 3) := by decide +kernel
theorem dX5_answer_34 : decode cX5_answer 34 = .ok (.ifCond .ne 6, 3) := by decide +kernel
theorem dX5_answer_37 : decode cX5_answer 37 = .ok (.ldc 76, 2) := by decide +kernel
theorem dX5_answer_39 : decode cX5_answer 39 = .ok (.ireturn, 1) := by decide +kernel
theorem dX5_answer_40 : decode cX5_answer 40 = .ok (.iload 5, 2) := by decide +kernel
theorem dX5_answer_42 : decode cX5_answer 42 = .ok (.ifCond .ne 10, 3) := by decide +kernel
theorem dX5_answer_45 : decode cX5_answer 45 = .ok (.aload_n 0, 1) := by decide +kernel
theorem dX5_answer_46 : decode cX5_answer 46 = .ok (.getfield 111, 3) := by decide +kernel
theorem dX5_answer_49 : decode cX5_answer 49 = .ok (.goto 33, 3) := by decide +kernel
theorem dX5_answer_52 : decode cX5_answer 52 = .ok (.iload 5, 2) := by decide +kernel
theorem dX5_answer_54 : decode cX5_answer 54 = .ok (.iconst 1, 1) := by decide +kernel
theorem dX5_answer_55 : decode cX5_answer 55 = .ok (.if_icmp .ne 10, 3) := by decide +kernel
theorem dX5_answer_58 : decode cX5_answer 58 = .ok (.aload_n 0, 1) := by decide +kernel
theorem dX5_answer_59 : decode cX5_answer 59 = .ok (.getfield 114, 3) := by decide +kernel
theorem dX5_answer_62 : decode cX5_answer 62 = .ok (.goto 20, 3) := by decide +kernel
theorem dX5_answer_65 : decode cX5_answer 65 = .ok (.iload 5, 2) := by decide +kernel
theorem dX5_answer_67 : decode cX5_answer 67 = .ok (.iconst 2, 1) := by decide +kernel
theorem dX5_answer_68 : decode cX5_answer 68 = .ok (.if_icmp .ne 10, 3) := by decide +kernel
theorem dX5_answer_71 : decode cX5_answer 71 = .ok (.aload_n 0, 1) := by decide +kernel
theorem dX5_answer_72 : decode cX5_answer 72 = .ok (.getfield 117, 3) := by decide +kernel
theorem dX5_answer_75 : decode cX5_answer 75 = .ok (.goto 7, 3) := by decide +kernel
theorem dX5_answer_78 : decode cX5_answer 78 = .ok (.aload_n 0, 1) := by decide +kernel
theorem dX5_answer_79 : decode cX5_answer 79 = .ok (.getfield 108, 3) := by decide +kernel
theorem dX5_answer_82 : decode cX5_answer 82 = .ok (.ireturn, 1) := by decide +kernel
set_option maxRecDepth 20000 in
theorem ggX5_beam_X5_in : GoodIn wsX5_beam wsX5_in := goodIn_r _ [10] (by decide +kernel) (by decide +kernel)
set_option maxRecDepth 20000 in
theorem gX5_beam_X5_in : GoodIn wsX5_beam (va_wsS RX5 58 yX5_in wsX5_in) := goodIn_app (goodIn_of _ (by decide +kernel)) ggX5_beam_X5_in
theorem dX5_beam_0 : decode cX5_beam 0 = .ok (.iload_n 1, 1) := by decide +kernel
theorem dX5_beam_1 : decode cX5_beam 1 = .ok (.i2l, 1) := by decide +kernel
theorem dX5_beam_2 : decode cX5_beam 2 = .ok (.ldc2_w 126, 3) := by decide +kernel
theorem dX5_beam_5 : decode cX5_beam 5 = .ok (.ldc2_w 128, 3) := by decide +kernel
theorem dX5_beam_8 : decode cX5_beam 8 = .ok (.invokestatic 58, 3) := by decide +kernel
theorem dX5_beam_11 : decode cX5_beam 11 = .ok (.ifCond .eq 35, 3) := by decide +kernel
theorem dX5_beam_14 : decode cX5_beam 14 = .ok (.iload_n 2, 1) := by decide +kernel
theorem dX5_beam_15 : decode cX5_beam 15 = .ok (.i2l, 1) := by decide +kernel
theorem dX5_beam_16 : decode cX5_beam 16 = .ok (.ldc2_w 126, 3) := by decide +kernel
theorem dX5_beam_19 : decode cX5_beam 19 = .ok (.ldc2_w 128, 3) := by decide +kernel
theorem dX5_beam_22 : decode cX5_beam 22 = .ok (.invokestatic 58, 3) := by decide +kernel
theorem dX5_beam_25 : decode cX5_beam 25 = .ok (.ifCond .eq 21, 3) := by decide +kernel
theorem dX5_beam_28 : decode cX5_beam 28 = .ok (.iload_n 3, 1) := by decide +kernel
theorem dX5_beam_29 : decode cX5_beam 29 = .ok (.i2l, 1) := by decide +kernel
theorem dX5_beam_30 : decode cX5_beam 30 = .ok (.ldc2_w 126, 3) := by decide +kernel
theorem dX5_beam_33 : decode cX5_beam 33 = .ok (.ldc2_w 128, 3) := by decide +kernel
theorem dX5_beam_36 : decode cX5_beam 36 = .ok (.invokestatic 58, 3) := by decide +kernel
theorem dX5_beam_39 : decode cX5_beam 39 = .ok (.ifCond .eq 7, 3) := by decide +kernel
theorem dX5_beam_42 : decode cX5_beam 42 = .ok (.iconst 1, 1) := by decide +kernel
theorem dX5_beam_43 : decode cX5_beam 43 = .ok (.goto 4, 3) := by decide +kernel
theorem dX5_beam_46 : decode cX5_beam 46 = .ok (.iconst 0, 1) := by decide +kernel
theorem dX5_beam_47 : decode cX5_beam 47 = .ok (.istore 6, 2) := by decide +kernel
theorem dX5_beam_49 : decode cX5_beam 49 = .ok (.iload 6, 2) := by decide +kernel
theorem dX5_beam_51 : decode cX5_beam 51 = .ok (.ifCond .eq 31, 3) := by decide +kernel
theorem dX5_beam_54 : decode cX5_beam 54 = .ok (.iload 4, 2) := by decide +kernel
theorem dX5_beam_56 : decode cX5_beam 56 = .ok (.i2l, 1) := by decide +kernel
theorem dX5_beam_57 : decode cX5_beam 57 = .ok (.ldc2_w 87, 3) := by decide +kernel
theorem dX5_beam_60 : decode cX5_beam 60 = .ok (.ldc2_w 89, 3) := by decide +kernel
theorem dX5_beam_63 : decode cX5_beam 63 = .ok (.invokestatic 58, 3) := by decide +kernel
theorem dX5_beam_66 : decode cX5_beam 66 = .ok (.ifCond .eq 16, 3) := by decide +kernel
theorem dX5_beam_69 : decode cX5_beam 69 = .ok (.iload 5, 2) := by decide +kernel
theorem dX5_beam_71 : decode cX5_beam 71 = .ok (.i2l, 1) := by decide +kernel
theorem dX5_beam_72 : decode cX5_beam 72 = .ok (.lconst 0, 1) := by decide +kernel
theorem dX5_beam_73 : decode cX5_beam 73 = .ok (.ldc2_w 120, 3) := by decide +kernel
theorem dX5_beam_76 : decode cX5_beam 76 = .ok (.invokestatic 58, 3) := by decide +kernel
theorem dX5_beam_79 : decode cX5_beam 79 = .ok (.ifCond .ne 6, 3) := by decide +kernel
theorem dX5_beam_82 : decode cX5_beam 82 = .ok (.ldc 76, 2) := by decide +kernel
theorem dX5_beam_84 : decode cX5_beam 84 = .ok (.ireturn, 1) := by decide +kernel
theorem dX5_beam_85 : decode cX5_beam 85 = .ok (.iload 5, 2) := by decide +kernel
theorem dX5_beam_87 : decode cX5_beam 87 = .ok (.iconst 2, 1) := by decide +kernel
theorem dX5_beam_88 : decode cX5_beam 88 = .ok (.if_icmp .ge 10, 3) := by decide +kernel
theorem dX5_beam_91 : decode cX5_beam 91 = .ok (.iload 4, 2) := by decide +kernel
theorem dX5_beam_93 : decode cX5_beam 93 = .ok (.iload_n 3, 1) := by decide +kernel
theorem dX5_beam_94 : decode cX5_beam 94 = .ok (.iadd, 1) := by decide +kernel
theorem dX5_beam_95 : decode cX5_beam 95 = .ok (.goto 7, 3) := by decide +kernel
theorem dX5_beam_98 : decode cX5_beam 98 = .ok (.iload 4, 2) := by decide +kernel
theorem dX5_beam_100 : decode cX5_beam 100 = .ok (.iload_n 3, 1) := by decide +kernel
theorem dX5_beam_101 : decode cX5_beam 101 = .ok (.isub, 1) := by decide +kernel
theorem dX5_beam_102 : decode cX5_beam 102 = .ok (.istore 7, 2) := by decide +kernel
theorem dX5_beam_104 : decode cX5_beam 104 = .ok (.iload 5, 2) := by decide +kernel
theorem dX5_beam_106 : decode cX5_beam 106 = .ok (.iconst 2, 1) := by decide +kernel
theorem dX5_beam_107 : decode cX5_beam 107 = .ok (.if_icmp .ge 9, 3) := by decide +kernel
theorem dX5_beam_110 : decode cX5_beam 110 = .ok (.iconst 2, 1) := by decide +kernel
theorem dX5_beam_111 : decode cX5_beam 111 = .ok (.iload_n 1, 1) := by decide +kernel
theorem dX5_beam_112 : decode cX5_beam 112 = .ok (.imul, 1) := by decide +kernel
theorem dX5_beam_113 : decode cX5_beam 113 = .ok (.goto 6, 3) := by decide +kernel
theorem dX5_beam_116 : decode cX5_beam 116 = .ok (.iconst 2, 1) := by decide +kernel
theorem dX5_beam_117 : decode cX5_beam 117 = .ok (.iload_n 2, 1) := by decide +kernel
theorem dX5_beam_118 : decode cX5_beam 118 = .ok (.imul, 1) := by decide +kernel
theorem dX5_beam_119 : decode cX5_beam 119 = .ok (.istore 8, 2) := by decide +kernel
theorem dX5_beam_121 : decode cX5_beam 121 = .ok (.iload 5, 2) := by decide +kernel
theorem dX5_beam_123 : decode cX5_beam 123 = .ok (.iconst 2, 1) := by decide +kernel
theorem dX5_beam_124 : decode cX5_beam 124 = .ok (.irem, 1) := by decide +kernel
theorem dX5_beam_125 : decode cX5_beam 125 = .ok (.ifCond .ne 11, 3) := by decide +kernel
theorem dX5_beam_128 : decode cX5_beam 128 = .ok (.iload 7, 2) := by decide +kernel
theorem dX5_beam_130 : decode cX5_beam 130 = .ok (.iload 8, 2) := by decide +kernel
theorem dX5_beam_132 : decode cX5_beam 132 = .ok (.iadd, 1) := by decide +kernel
theorem dX5_beam_133 : decode cX5_beam 133 = .ok (.goto 8, 3) := by decide +kernel
theorem dX5_beam_136 : decode cX5_beam 136 = .ok (.iload 7, 2) := by decide +kernel
theorem dX5_beam_138 : decode cX5_beam 138 = .ok (.iload 8, 2) := by decide +kernel
theorem dX5_beam_140 : decode cX5_beam 140 = .ok (.isub, 1) := by decide +kernel
theorem dX5_beam_141 : decode cX5_beam 141 = .ok (.ireturn, 1) := by decide +kernel
set_option maxRecDepth 20000 in
theorem ggX5_motion_X5_in : GoodIn wsX5_motion wsX5_in := goodIn_r _ [6] (by decide +kernel) (by decide +kernel)
set_option maxRecDepth 20000 in
theorem gX5_motion_X5_in : GoodIn wsX5_motion (va_wsS RX5 58 yX5_in wsX5_in) := goodIn_app (goodIn_of _ (by decide +kernel)) ggX5_motion_X5_in
theorem dX5_motion_0 : decode cX5_motion 0 = .ok (.iload_n 1, 1) := by decide +kernel
theorem dX5_motion_1 : decode cX5_motion 1 = .ok (.i2l, 1) := by decide +kernel
theorem dX5_motion_2 : decode cX5_motion 2 = .ok (.lconst 0, 1) := by decide +kernel
theorem dX5_motion_3 : decode cX5_motion 3 = .ok (.ldc2_w 66, 3) := by decide +kernel
theorem dX5_motion_6 : decode cX5_motion 6 = .ok (.invokestatic 58, 3) := by decide +kernel
theorem dX5_motion_9 : decode cX5_motion 9 = .ok (.ifCond .ne 6, 3) := by decide +kernel
theorem dX5_motion_12 : decode cX5_motion 12 = .ok (.bipush (-2), 2) := by decide +kernel
theorem dX5_motion_14 : decode cX5_motion 14 = .ok (.ireturn, 1) := by decide +kernel
theorem dX5_motion_15 : decode cX5_motion 15 = .ok (.aload_n 0, 1) := by decide +kernel
theorem dX5_motion_16 : decode cX5_motion 16 = .ok (.getfield 130, 3) := by decide +kernel
theorem dX5_motion_19 : decode cX5_motion 19 = .ok (.istore_n 2, 1) := by decide +kernel
theorem dX5_motion_20 : decode cX5_motion 20 = .ok (.aload_n 0, 1) := by decide +kernel
theorem dX5_motion_21 : decode cX5_motion 21 = .ok (.iload_n 1, 1) := by decide +kernel
theorem dX5_motion_22 : decode cX5_motion 22 = .ok (.putfield 130, 3) := by decide +kernel
theorem dX5_motion_25 : decode cX5_motion 25 = .ok (.iload_n 2, 1) := by decide +kernel
theorem dX5_motion_26 : decode cX5_motion 26 = .ok (.ireturn, 1) := by decide +kernel
set_option maxRecDepth 20000 in
theorem ggX5_skew_X5_in : GoodIn wsX5_skew wsX5_in := goodIn_r _ [6] (by decide +kernel) (by decide +kernel)
set_option maxRecDepth 20000 in
theorem gX5_skew_X5_in : GoodIn wsX5_skew (va_wsS RX5 58 yX5_in wsX5_in) := goodIn_app (goodIn_of _ (by decide +kernel)) ggX5_skew_X5_in
theorem dX5_skew_0 : decode cX5_skew 0 = .ok (.iload_n 1, 1) := by decide +kernel
theorem dX5_skew_1 : decode cX5_skew 1 = .ok (.i2l, 1) := by decide +kernel
theorem dX5_skew_2 : decode cX5_skew 2 = .ok (.lconst 0, 1) := by decide +kernel
theorem dX5_skew_3 : decode cX5_skew 3 = .ok (.ldc2_w 85, 3) := by decide +kernel
theorem dX5_skew_6 : decode cX5_skew 6 = .ok (.invokestatic 58, 3) := by decide +kernel
theorem dX5_skew_9 : decode cX5_skew 9 = .ok (.ifCond .ne 6, 3) := by decide +kernel
theorem dX5_skew_12 : decode cX5_skew 12 = .ok (.bipush (-2), 2) := by decide +kernel
theorem dX5_skew_14 : decode cX5_skew 14 = .ok (.ireturn, 1) := by decide +kernel
theorem dX5_skew_15 : decode cX5_skew 15 = .ok (.aload_n 0, 1) := by decide +kernel
theorem dX5_skew_16 : decode cX5_skew 16 = .ok (.getfield 133, 3) := by decide +kernel
theorem dX5_skew_19 : decode cX5_skew 19 = .ok (.istore_n 2, 1) := by decide +kernel
theorem dX5_skew_20 : decode cX5_skew 20 = .ok (.aload_n 0, 1) := by decide +kernel
theorem dX5_skew_21 : decode cX5_skew 21 = .ok (.iload_n 1, 1) := by decide +kernel
theorem dX5_skew_22 : decode cX5_skew 22 = .ok (.putfield 133, 3) := by decide +kernel
theorem dX5_skew_25 : decode cX5_skew 25 = .ok (.iload_n 2, 1) := by decide +kernel
theorem dX5_skew_26 : decode cX5_skew 26 = .ok (.ireturn, 1) := by decide +kernel
set_option maxRecDepth 20000 in
theorem ggX5_laws_X5_in : GoodIn wsX5_laws wsX5_in := goodIn_r _ [9] (by decide +kernel) (by decide +kernel)
set_option maxRecDepth 20000 in
theorem gX5_laws_X5_in : GoodIn wsX5_laws (va_wsS RX5 58 yX5_in wsX5_in) := goodIn_app (goodIn_of _ (by decide +kernel)) ggX5_laws_X5_in
theorem dX5_laws_0 : decode cX5_laws 0 = .ok (.iload_n 1, 1) := by decide +kernel
theorem dX5_laws_1 : decode cX5_laws 1 = .ok (.i2l, 1) := by decide +kernel
theorem dX5_laws_2 : decode cX5_laws 2 = .ok (.lconst 0, 1) := by decide +kernel
theorem dX5_laws_3 : decode cX5_laws 3 = .ok (.ldc2_w 80, 3) := by decide +kernel
theorem dX5_laws_6 : decode cX5_laws 6 = .ok (.invokestatic 58, 3) := by decide +kernel
theorem dX5_laws_9 : decode cX5_laws 9 = .ok (.ifCond .eq 15, 3) := by decide +kernel
theorem dX5_laws_12 : decode cX5_laws 12 = .ok (.iload_n 3, 1) := by decide +kernel
theorem dX5_laws_13 : decode cX5_laws 13 = .ok (.i2l, 1) := by decide +kernel
theorem dX5_laws_14 : decode cX5_laws 14 = .ok (.lconst 0, 1) := by decide +kernel
theorem dX5_laws_15 : decode cX5_laws 15 = .ok (.ldc2_w 136, 3) := by decide +kernel
theorem dX5_laws_18 : decode cX5_laws 18 = .ok (.invokestatic 58, 3) := by decide +kernel
theorem dX5_laws_21 : decode cX5_laws 21 = .ok (.ifCond .ne 6, 3) := by decide +kernel
theorem dX5_laws_24 : decode cX5_laws 24 = .ok (.bipush (-2), 2) := by decide +kernel
theorem dX5_laws_26 : decode cX5_laws 26 = .ok (.ireturn, 1) := by decide +kernel
theorem dX5_laws_27 : decode cX5_laws 27 = .ok (.aload_n 0, 1) := by decide +kernel
theorem dX5_laws_28 : decode cX5_laws 28 = .ok (.iload_n 1, 1) := by decide +kernel
theorem dX5_laws_29 : decode cX5_laws 29 = .ok (.putfield 138, 3) := by decide +kernel
theorem dX5_laws_32 : decode cX5_laws 32 = .ok (.aload_n 0, 1) := by decide +kernel
theorem dX5_laws_33 : decode cX5_laws 33 = .ok (.iload_n 2, 1) := by decide +kernel
theorem dX5_laws_34 : decode cX5_laws 34 = .ok (.putfield 44, 3) := by decide +kernel
theorem dX5_laws_37 : decode cX5_laws 37 = .ok (.aload_n 0, 1) := by decide +kernel
theorem dX5_laws_38 : decode cX5_laws 38 = .ok (.iload_n 3, 1) := by decide +kernel
theorem dX5_laws_39 : decode cX5_laws 39 = .ok (.putfield 48, 3) := by decide +kernel
theorem dX5_laws_42 : decode cX5_laws 42 = .ok (.iconst 1, 1) := by decide +kernel
theorem dX5_laws_43 : decode cX5_laws 43 = .ok (.ireturn, 1) := by decide +kernel
set_option maxRecDepth 20000 in
theorem ggX5_bring_X5_turn : GoodIn wsX5_bring wsX5_turn := goodIn_r _ [11, 12, 13, 4, 5, 14, 15, 16, 17, 18, 19, 20, 21, 22, 23, 24, 25, 26, 27, 28, 29, 30, 31, 32, 33, 34, 35, 36, 37, 38, 39, 40, 41, 42, 43, 44] (by decide +kernel) (by decide +kernel)
set_option maxRecDepth 20000 in
theorem gX5_bring_X5_turn : GoodIn wsX5_bring (wsV RX5 104 RX5 yX5_turn wsX5_turn) := goodIn_app (goodIn_of _ (by decide +kernel)) ggX5_bring_X5_turn
theorem dX5_bring_0 : decode cX5_bring 0 = .ok (.aload_n 0, 1) := by decide +kernel
theorem dX5_bring_1 : decode cX5_bring 1 = .ok (.aload_n 0, 1) := by decide +kernel
theorem dX5_bring_2 : decode cX5_bring 2 = .ok (.getfield 111, 3) := by decide +kernel
theorem dX5_bring_5 : decode cX5_bring 5 = .ok (.i2l, 1) := by decide +kernel
theorem dX5_bring_6 : decode cX5_bring 6 = .ok (.aload_n 0, 1) := by decide +kernel
theorem dX5_bring_7 : decode cX5_bring 7 = .ok (.getfield 114, 3) := by decide +kernel
theorem dX5_bring_10 : decode cX5_bring 10 = .ok (.i2l, 1) := by decide +kernel
theorem dX5_bring_11 : decode cX5_bring 11 = .ok (.aload_n 0, 1) := by decide +kernel
theorem dX5_bring_12 : decode cX5_bring 12 = .ok (.getfield 133, 3) := by decide +kernel
theorem dX5_bring_15 : decode cX5_bring 15 = .ok (.invokevirtual 104, 3) := by decide +kernel
theorem dX5_bring_18 : decode cX5_bring 18 = .ok (.aload_n 0, 1) := by decide +kernel
theorem dX5_bring_19 : decode cX5_bring 19 = .ok (.aload_n 0, 1) := by decide +kernel
theorem dX5_bring_20 : decode cX5_bring 20 = .ok (.getfield 97, 3) := by decide +kernel
theorem dX5_bring_23 : decode cX5_bring 23 = .ok (.aload_n 0, 1) := by decide +kernel
theorem dX5_bring_24 : decode cX5_bring 24 = .ok (.getfield 101, 3) := by decide +kernel
theorem dX5_bring_27 : decode cX5_bring 27 = .ok (.aload_n 0, 1) := by decide +kernel
theorem dX5_bring_28 : decode cX5_bring 28 = .ok (.getfield 32, 3) := by decide +kernel
theorem dX5_bring_31 : decode cX5_bring 31 = .ok (.iload_n 1, 1) := by decide +kernel
theorem dX5_bring_32 : decode cX5_bring 32 = .ok (.iaload, 1) := by decide +kernel
theorem dX5_bring_33 : decode cX5_bring 33 = .ok (.invokevirtual 104, 3) := by decide +kernel
theorem dX5_bring_36 : decode cX5_bring 36 = .ok (.return_, 1) := by decide +kernel
set_option maxRecDepth 20000 in
theorem ggX5_findOwn_X5_reading : GoodIn wsX5_findOwn wsX5_reading := goodIn_r _ [14, 15, 16, 17, 18, 19, 13, 20, 41, 42, 43, 44, 45, 46, 47, 48, 49, 50, 51, 52, 53, 54, 55, 56, 57, 58, 59, 60, 61, 62, 63, 64, 65, 66, 67, 68, 69, 70, 71] (by decide +kernel) (by decide +kernel)
set_option maxRecDepth 20000 in
theorem gX5_findOwn_X5_reading : GoodIn wsX5_findOwn (wsV RX5 147 RX5 yX5_reading wsX5_reading) := goodIn_app (goodIn_of _ (by decide +kernel)) ggX5_findOwn_X5_reading
set_option maxRecDepth 20000 in
theorem ggX5_findOwn_X5_answers : GoodIn wsX5_findOwn wsX5_answers := goodIn_r _ [24, 25, 26, 27, 28, 41, 42, 43, 44, 45, 46, 47, 48, 49, 50, 51, 52, 53, 54, 55, 56, 57, 58, 59, 60, 61, 62, 63, 64, 65, 66, 67, 68, 69, 70, 71] (by decide +kernel) (by decide +kernel)
set_option maxRecDepth 20000 in
theorem gX5_findOwn_X5_answers : GoodIn wsX5_findOwn (wsV RX5 122 RX5 yX5_answers wsX5_answers) := goodIn_app (goodIn_of _ (by decide +kernel)) ggX5_findOwn_X5_answers
set_option maxRecDepth 20000 in
theorem ggX5_findOwn_X5_bring : GoodIn wsX5_findOwn wsX5_bring := goodIn_r _ [32, 26, 27, 33, 4, 5, 34, 35, 36, 37, 13, 38, 39, 40, 41, 42, 43, 44, 45, 46, 47, 48, 49, 50, 51, 52, 53, 54, 55, 56, 57, 58, 59, 60, 61, 62, 63, 64, 65, 66, 67, 68, 69, 70, 71] (by decide +kernel) (by decide +kernel)
set_option maxRecDepth 20000 in
theorem gX5_findOwn_X5_bring : GoodIn wsX5_findOwn (wsV RX5 151 RX5 yX5_bring wsX5_bring) := goodIn_app (goodIn_of _ (by decide +kernel)) ggX5_findOwn_X5_bring
theorem dX5_findOwn_0 : decode cX5_findOwn 0 = .ok (.aload_n 0, 1) := by decide +kernel
theorem dX5_findOwn_1 : decode cX5_findOwn 1 = .ok (.lconst 0, 1) := by decide +kernel
theorem dX5_findOwn_2 : decode cX5_findOwn 2 = .ok (.putfield 141, 3) := by decide +kernel
theorem dX5_findOwn_5 : decode cX5_findOwn 5 = .ok (.aload_n 0, 1) := by decide +kernel
theorem dX5_findOwn_6 : decode cX5_findOwn 6 = .ok (.lconst 0, 1) := by decide +kernel
theorem dX5_findOwn_7 : decode cX5_findOwn 7 = .ok (.putfield 144, 3) := by decide +kernel
theorem dX5_findOwn_10 : decode cX5_findOwn 10 = .ok (.aload_n 0, 1) := by decide +kernel
theorem dX5_findOwn_11 : decode cX5_findOwn 11 = .ok (.getfield 130, 3) := by decide +kernel
theorem dX5_findOwn_14 : decode cX5_findOwn 14 = .ok (.iconst 1, 1) := by decide +kernel
theorem dX5_findOwn_15 : decode cX5_findOwn 15 = .ok (.if_icmp .ne 62, 3) := by decide +kernel
theorem dX5_findOwn_18 : decode cX5_findOwn 18 = .ok (.aload_n 0, 1) := by decide +kernel
theorem dX5_findOwn_19 : decode cX5_findOwn 19 = .ok (.aload_n 0, 1) := by decide +kernel
theorem dX5_findOwn_20 : decode cX5_findOwn 20 = .ok (.iconst 4, 1) := by decide +kernel
theorem dX5_findOwn_21 : decode cX5_findOwn 21 = .ok (.iload_n 1, 1) := by decide +kernel
theorem dX5_findOwn_22 : decode cX5_findOwn 22 = .ok (.invokevirtual 147, 3) := by decide +kernel
theorem dX5_findOwn_25 : decode cX5_findOwn 25 = .ok (.aload_n 0, 1) := by decide +kernel
theorem dX5_findOwn_26 : decode cX5_findOwn 26 = .ok (.iconst 5, 1) := by decide +kernel
theorem dX5_findOwn_27 : decode cX5_findOwn 27 = .ok (.iload_n 1, 1) := by decide +kernel
theorem dX5_findOwn_28 : decode cX5_findOwn 28 = .ok (.invokevirtual 147, 3) := by decide +kernel
theorem dX5_findOwn_31 : decode cX5_findOwn 31 = .ok (.aload_n 0, 1) := by decide +kernel
theorem dX5_findOwn_32 : decode cX5_findOwn 32 = .ok (.bipush 6, 2) := by decide +kernel
theorem dX5_findOwn_34 : decode cX5_findOwn 34 = .ok (.iload_n 1, 1) := by decide +kernel
theorem dX5_findOwn_35 : decode cX5_findOwn 35 = .ok (.invokevirtual 147, 3) := by decide +kernel
theorem dX5_findOwn_38 : decode cX5_findOwn 38 = .ok (.aload_n 0, 1) := by decide +kernel
theorem dX5_findOwn_39 : decode cX5_findOwn 39 = .ok (.bipush 7, 2) := by decide +kernel
theorem dX5_findOwn_41 : decode cX5_findOwn 41 = .ok (.iload_n 1, 1) := by decide +kernel
theorem dX5_findOwn_42 : decode cX5_findOwn 42 = .ok (.invokevirtual 147, 3) := by decide +kernel
theorem dX5_findOwn_45 : decode cX5_findOwn 45 = .ok (.invokevirtual 122, 3) := by decide +kernel
theorem dX5_findOwn_48 : decode cX5_findOwn 48 = .ok (.ifCond .ne 5, 3) := by decide +kernel
theorem dX5_findOwn_51 : decode cX5_findOwn 51 = .ok (.iconst 0, 1) := by decide +kernel
theorem dX5_findOwn_52 : decode cX5_findOwn 52 = .ok (.ireturn, 1) := by decide +kernel
theorem dX5_findOwn_53 : decode cX5_findOwn 53 = .ok (.aload_n 0, 1) := by decide +kernel
theorem dX5_findOwn_54 : decode cX5_findOwn 54 = .ok (.iload_n 1, 1) := by decide +kernel
theorem dX5_findOwn_55 : decode cX5_findOwn 55 = .ok (.invokevirtual 151, 3) := by decide +kernel
theorem dX5_findOwn_58 : decode cX5_findOwn 58 = .ok (.aload_n 0, 1) := by decide +kernel
theorem dX5_findOwn_59 : decode cX5_findOwn 59 = .ok (.aload_n 0, 1) := by decide +kernel
theorem dX5_findOwn_60 : decode cX5_findOwn 60 = .ok (.getfield 97, 3) := by decide +kernel
theorem dX5_findOwn_63 : decode cX5_findOwn 63 = .ok (.putfield 141, 3) := by decide +kernel
theorem dX5_findOwn_66 : decode cX5_findOwn 66 = .ok (.aload_n 0, 1) := by decide +kernel
theorem dX5_findOwn_67 : decode cX5_findOwn 67 = .ok (.aload_n 0, 1) := by decide +kernel
theorem dX5_findOwn_68 : decode cX5_findOwn 68 = .ok (.getfield 101, 3) := by decide +kernel
theorem dX5_findOwn_71 : decode cX5_findOwn 71 = .ok (.putfield 144, 3) := by decide +kernel
theorem dX5_findOwn_74 : decode cX5_findOwn 74 = .ok (.goto 71, 3) := by decide +kernel
theorem dX5_findOwn_77 : decode cX5_findOwn 77 = .ok (.aload_n 0, 1) := by decide +kernel
theorem dX5_findOwn_78 : decode cX5_findOwn 78 = .ok (.getfield 130, 3) := by decide +kernel
theorem dX5_findOwn_81 : decode cX5_findOwn 81 = .ok (.iconst 2, 1) := by decide +kernel
theorem dX5_findOwn_82 : decode cX5_findOwn 82 = .ok (.if_icmp .ne 63, 3) := by decide +kernel
theorem dX5_findOwn_85 : decode cX5_findOwn 85 = .ok (.iload_n 1, 1) := by decide +kernel
theorem dX5_findOwn_86 : decode cX5_findOwn 86 = .ok (.aload_n 0, 1) := by decide +kernel
theorem dX5_findOwn_87 : decode cX5_findOwn 87 = .ok (.getfield 82, 3) := by decide +kernel
theorem dX5_findOwn_90 : decode cX5_findOwn 90 = .ok (.iconst 1, 1) := by decide +kernel
theorem dX5_findOwn_91 : decode cX5_findOwn 91 = .ok (.isub, 1) := by decide +kernel
theorem dX5_findOwn_92 : decode cX5_findOwn 92 = .ok (.if_icmp .ne 5, 3) := by decide +kernel
end
section
theorem dX5_findOwn_95 : decode cX5_findOwn 95 = .ok (.iconst 0, 1) := by decide +kernel
theorem dX5_findOwn_96 : decode cX5_findOwn 96 = .ok (.ireturn, 1) := by decide +kernel
theorem dX5_findOwn_97 : decode cX5_findOwn 97 = .ok (.aload_n 0, 1) := by decide +kernel
theorem dX5_findOwn_98 : decode cX5_findOwn 98 = .ok (.ldc2_w 155, 3) := by decide +kernel
theorem dX5_findOwn_101 : decode cX5_findOwn 101 = .ok (.aload_n 0, 1) := by decide +kernel
theorem dX5_findOwn_102 : decode cX5_findOwn 102 = .ok (.getfield 35, 3) := by decide +kernel
theorem dX5_findOwn_105 : decode cX5_findOwn 105 = .ok (.iload_n 1, 1) := by decide +kernel
theorem dX5_findOwn_106 : decode cX5_findOwn 106 = .ok (.iconst 1, 1) := by decide +kernel
theorem dX5_findOwn_107 : decode cX5_findOwn 107 = .ok (.iadd, 1) := by decide +kernel
theorem dX5_findOwn_108 : decode cX5_findOwn 108 = .ok (.iaload, 1) := by decide +kernel
theorem dX5_findOwn_109 : decode cX5_findOwn 109 = .ok (.aload_n 0, 1) := by decide +kernel
theorem dX5_findOwn_110 : decode cX5_findOwn 110 = .ok (.getfield 35, 3) := by decide +kernel
theorem dX5_findOwn_113 : decode cX5_findOwn 113 = .ok (.iload_n 1, 1) := by decide +kernel
theorem dX5_findOwn_114 : decode cX5_findOwn 114 = .ok (.iaload, 1) := by decide +kernel
theorem dX5_findOwn_115 : decode cX5_findOwn 115 = .ok (.isub, 1) := by decide +kernel
theorem dX5_findOwn_116 : decode cX5_findOwn 116 = .ok (.i2l, 1) := by decide +kernel
theorem dX5_findOwn_117 : decode cX5_findOwn 117 = .ok (.lmul, 1) := by decide +kernel
theorem dX5_findOwn_118 : decode cX5_findOwn 118 = .ok (.putfield 141, 3) := by decide +kernel
theorem dX5_findOwn_121 : decode cX5_findOwn 121 = .ok (.aload_n 0, 1) := by decide +kernel
theorem dX5_findOwn_122 : decode cX5_findOwn 122 = .ok (.ldc2_w 155, 3) := by decide +kernel
theorem dX5_findOwn_125 : decode cX5_findOwn 125 = .ok (.aload_n 0, 1) := by decide +kernel
theorem dX5_findOwn_126 : decode cX5_findOwn 126 = .ok (.getfield 38, 3) := by decide +kernel
theorem dX5_findOwn_129 : decode cX5_findOwn 129 = .ok (.iload_n 1, 1) := by decide +kernel
theorem dX5_findOwn_130 : decode cX5_findOwn 130 = .ok (.iconst 1, 1) := by decide +kernel
theorem dX5_findOwn_131 : decode cX5_findOwn 131 = .ok (.iadd, 1) := by decide +kernel
theorem dX5_findOwn_132 : decode cX5_findOwn 132 = .ok (.iaload, 1) := by decide +kernel
theorem dX5_findOwn_133 : decode cX5_findOwn 133 = .ok (.aload_n 0, 1) := by decide +kernel
theorem dX5_findOwn_134 : decode cX5_findOwn 134 = .ok (.getfield 38, 3) := by decide +kernel
theorem dX5_findOwn_137 : decode cX5_findOwn 137 = .ok (.iload_n 1, 1) := by decide +kernel
theorem dX5_findOwn_138 : decode cX5_findOwn 138 = .ok (.iaload, 1) := by decide +kernel
theorem dX5_findOwn_139 : decode cX5_findOwn 139 = .ok (.isub, 1) := by decide +kernel
theorem dX5_findOwn_140 : decode cX5_findOwn 140 = .ok (.i2l, 1) := by decide +kernel
theorem dX5_findOwn_141 : decode cX5_findOwn 141 = .ok (.lmul, 1) := by decide +kernel
theorem dX5_findOwn_142 : decode cX5_findOwn 142 = .ok (.putfield 144, 3) := by decide +kernel
theorem dX5_findOwn_145 : decode cX5_findOwn 145 = .ok (.iconst 1, 1) := by decide +kernel
theorem dX5_findOwn_146 : decode cX5_findOwn 146 = .ok (.ireturn, 1) := by decide +kernel
set_option maxRecDepth 20000 in
theorem ggX5_own_X5_isPing : GoodIn wsX5_own wsX5_isPing := goodIn_r _ [7, 8, 9, 10, 6, 11, 56, 57, 58, 59, 60, 61, 62, 63, 64, 65, 66, 67, 68, 69, 70, 71, 72, 73, 74, 75, 76, 77, 78, 79, 80, 81, 82, 83, 84, 85, 86] (by decide +kernel) (by decide +kernel)
set_option maxRecDepth 20000 in
theorem gX5_own_X5_isPing : GoodIn wsX5_own (wsV RX5 91 RX5 yX5_isPing wsX5_isPing) := goodIn_app (goodIn_of _ (by decide +kernel)) ggX5_own_X5_isPing
set_option maxRecDepth 20000 in
theorem ggX5_own_X5_in : GoodIn wsX5_own wsX5_in := goodIn_r _ [11] (by decide +kernel) (by decide +kernel)
set_option maxRecDepth 20000 in
theorem gX5_own_X5_in : GoodIn wsX5_own (va_wsS RX5 58 yX5_in wsX5_in) := goodIn_app (goodIn_of _ (by decide +kernel)) ggX5_own_X5_in
set_option maxRecDepth 20000 in
theorem ggX5_own_X5_no : GoodIn wsX5_own wsX5_no := goodIn_r _ [14, 15] (by decide +kernel) (by decide +kernel)
set_option maxRecDepth 20000 in
theorem gX5_own_X5_no : GoodIn wsX5_own (va_wsS RX5 157 yX5_no wsX5_no) := goodIn_app (goodIn_of _ (by decide +kernel)) ggX5_own_X5_no
set_option maxRecDepth 20000 in
theorem ggX5_own_X5_findOwn : GoodIn wsX5_own wsX5_findOwn := goodIn_r _ [19, 1, 2, 20, 21, 22, 8, 23, 24, 25, 26, 27, 28, 6, 29, 30, 31, 32, 33, 34, 35, 36, 37, 38, 39, 40, 41, 42, 43, 44, 45, 46, 47, 48, 49, 50, 51, 52, 53, 54, 55, 56, 57, 58, 59, 60, 61, 62, 63, 64, 65, 66, 67, 68, 69, 70, 71, 72, 73, 74, 75, 76, 77, 78, 79, 80, 81, 82, 83, 84, 85, 86] (by decide +kernel) (by decide +kernel)
set_option maxRecDepth 20000 in
theorem gX5_own_X5_findOwn : GoodIn wsX5_own (wsV RX5 94 RX5 yX5_findOwn wsX5_findOwn) := goodIn_app (goodIn_of _ (by decide +kernel)) ggX5_own_X5_findOwn
theorem dX5_own_0 : decode cX5_own 0 = .ok (.aload_n 0, 1) := by decide +kernel
theorem dX5_own_1 : decode cX5_own 1 = .ok (.iload_n 1, 1) := by decide +kernel
theorem dX5_own_2 : decode cX5_own 2 = .ok (.invokevirtual 91, 3) := by decide +kernel
theorem dX5_own_5 : decode cX5_own 5 = .ok (.ifCond .eq 13, 3) := by decide +kernel
theorem dX5_own_8 : decode cX5_own 8 = .ok (.iload_n 2, 1) := by decide +kernel
theorem dX5_own_9 : decode cX5_own 9 = .ok (.i2l, 1) := by decide +kernel
theorem dX5_own_10 : decode cX5_own 10 = .ok (.lconst 0, 1) := by decide +kernel
theorem dX5_own_11 : decode cX5_own 11 = .ok (.lconst 1, 1) := by decide +kernel
theorem dX5_own_12 : decode cX5_own 12 = .ok (.invokestatic 58, 3) := by decide +kernel
theorem dX5_own_15 : decode cX5_own 15 = .ok (.ifCond .ne 9, 3) := by decide +kernel
theorem dX5_own_18 : decode cX5_own 18 = .ok (.bipush (-2), 2) := by decide +kernel
theorem dX5_own_20 : decode cX5_own 20 = .ok (.invokestatic 157, 3) := by decide +kernel
theorem dX5_own_23 : decode cX5_own 23 = .ok (.lreturn, 1) := by decide +kernel
theorem dX5_own_24 : decode cX5_own 24 = .ok (.aload_n 0, 1) := by decide +kernel
theorem dX5_own_25 : decode cX5_own 25 = .ok (.iload_n 1, 1) := by decide +kernel
theorem dX5_own_26 : decode cX5_own 26 = .ok (.invokevirtual 94, 3) := by decide +kernel
theorem dX5_own_29 : decode cX5_own 29 = .ok (.ifCond .ne 9, 3) := by decide +kernel
theorem dX5_own_32 : decode cX5_own 32 = .ok (.bipush (-3), 2) := by decide +kernel
theorem dX5_own_34 : decode cX5_own 34 = .ok (.invokestatic 157, 3) := by decide +kernel
theorem dX5_own_37 : decode cX5_own 37 = .ok (.lreturn, 1) := by decide +kernel
theorem dX5_own_38 : decode cX5_own 38 = .ok (.iload_n 2, 1) := by decide +kernel
theorem dX5_own_39 : decode cX5_own 39 = .ok (.ifCond .ne 10, 3) := by decide +kernel
theorem dX5_own_42 : decode cX5_own 42 = .ok (.aload_n 0, 1) := by decide +kernel
theorem dX5_own_43 : decode cX5_own 43 = .ok (.getfield 141, 3) := by decide +kernel
theorem dX5_own_46 : decode cX5_own 46 = .ok (.goto 7, 3) := by decide +kernel
theorem dX5_own_49 : decode cX5_own 49 = .ok (.aload_n 0, 1) := by decide +kernel
theorem dX5_own_50 : decode cX5_own 50 = .ok (.getfield 144, 3) := by decide +kernel
theorem dX5_own_53 : decode cX5_own 53 = .ok (.lreturn, 1) := by decide +kernel
set_option maxRecDepth 20000 in
theorem ggX5_cellAnswers_X5_reading : GoodIn wsX5_cellAnswers wsX5_reading := goodIn_r _ [6, 7, 8, 9, 10, 11, 5, 12, 21, 22, 23, 24, 25, 26, 27, 28, 29, 30, 31, 32, 33, 34, 35, 36, 37, 38, 39, 40, 41, 42, 43, 44, 45, 46, 47, 48, 49, 50, 51] (by decide +kernel) (by decide +kernel)
set_option maxRecDepth 20000 in
theorem gX5_cellAnswers_X5_reading : GoodIn wsX5_cellAnswers (wsV RX5 147 RX5 yX5_reading wsX5_reading) := goodIn_app (goodIn_of _ (by decide +kernel)) ggX5_cellAnswers_X5_reading
set_option maxRecDepth 20000 in
theorem ggX5_cellAnswers_X5_answers : GoodIn wsX5_cellAnswers wsX5_answers := goodIn_r _ [16, 17, 18, 19, 20, 21, 22, 23, 24, 25, 26, 27, 28, 29, 30, 31, 32, 33, 34, 35, 36, 37, 38, 39, 40, 41, 42, 43, 44, 45, 46, 47, 48, 49, 50, 51] (by decide +kernel) (by decide +kernel)
set_option maxRecDepth 20000 in
theorem gX5_cellAnswers_X5_answers : GoodIn wsX5_cellAnswers (wsV RX5 122 RX5 yX5_answers wsX5_answers) := goodIn_app (goodIn_of _ (by decide +kernel)) ggX5_cellAnswers_X5_answers
theorem dX5_cellAnswers_0 : decode cX5_cellAnswers 0 = .ok (.aload_n 0, 1) := by decide +kernel
theorem dX5_cellAnswers_1 : decode cX5_cellAnswers 1 = .ok (.getfield 28, 3) := by decide +kernel
theorem dX5_cellAnswers_4 : decode cX5_cellAnswers 4 = .ok (.iload_n 1, 1) := by decide +kernel
theorem dX5_cellAnswers_5 : decode cX5_cellAnswers 5 = .ok (.imul, 1) := by decide +kernel
theorem dX5_cellAnswers_6 : decode cX5_cellAnswers 6 = .ok (.iload_n 2, 1) := by decide +kernel
theorem dX5_cellAnswers_7 : decode cX5_cellAnswers 7 = .ok (.iadd, 1) := by decide +kernel
theorem dX5_cellAnswers_8 : decode cX5_cellAnswers 8 = .ok (.istore_n 3, 1) := by decide +kernel
theorem dX5_cellAnswers_9 : decode cX5_cellAnswers 9 = .ok (.aload_n 0, 1) := by decide +kernel
theorem dX5_cellAnswers_10 : decode cX5_cellAnswers 10 = .ok (.aload_n 0, 1) := by decide +kernel
theorem dX5_cellAnswers_11 : decode cX5_cellAnswers 11 = .ok (.iconst 0, 1) := by decide +kernel
theorem dX5_cellAnswers_12 : decode cX5_cellAnswers 12 = .ok (.iload_n 3, 1) := by decide +kernel
theorem dX5_cellAnswers_13 : decode cX5_cellAnswers 13 = .ok (.invokevirtual 147, 3) := by decide +kernel
theorem dX5_cellAnswers_16 : decode cX5_cellAnswers 16 = .ok (.aload_n 0, 1) := by decide +kernel
theorem dX5_cellAnswers_17 : decode cX5_cellAnswers 17 = .ok (.iconst 1, 1) := by decide +kernel
theorem dX5_cellAnswers_18 : decode cX5_cellAnswers 18 = .ok (.iload_n 3, 1) := by decide +kernel
theorem dX5_cellAnswers_19 : decode cX5_cellAnswers 19 = .ok (.invokevirtual 147, 3) := by decide +kernel
theorem dX5_cellAnswers_22 : decode cX5_cellAnswers 22 = .ok (.aload_n 0, 1) := by decide +kernel
theorem dX5_cellAnswers_23 : decode cX5_cellAnswers 23 = .ok (.iconst 2, 1) := by decide +kernel
theorem dX5_cellAnswers_24 : decode cX5_cellAnswers 24 = .ok (.iload_n 3, 1) := by decide +kernel
theorem dX5_cellAnswers_25 : decode cX5_cellAnswers 25 = .ok (.invokevirtual 147, 3) := by decide +kernel
theorem dX5_cellAnswers_28 : decode cX5_cellAnswers 28 = .ok (.aload_n 0, 1) := by decide +kernel
theorem dX5_cellAnswers_29 : decode cX5_cellAnswers 29 = .ok (.iconst 3, 1) := by decide +kernel
theorem dX5_cellAnswers_30 : decode cX5_cellAnswers 30 = .ok (.iload_n 3, 1) := by decide +kernel
theorem dX5_cellAnswers_31 : decode cX5_cellAnswers 31 = .ok (.invokevirtual 147, 3) := by decide +kernel
theorem dX5_cellAnswers_34 : decode cX5_cellAnswers 34 = .ok (.invokevirtual 122, 3) := by decide +kernel
theorem dX5_cellAnswers_37 : decode cX5_cellAnswers 37 = .ok (.ireturn, 1) := by decide +kernel
set_option maxRecDepth 20000 in
theorem ggX5_isCell_X5_isPing : GoodIn wsX5_isCell wsX5_isPing := goodIn_r _ [6, 7, 8, 9, 5, 10, 11, 12, 13, 14, 15, 16, 17, 18, 19, 20, 21, 22, 23, 24, 25, 26, 27, 28, 29, 30, 31, 32, 33, 34, 35, 36, 37, 38, 39, 40, 41] (by decide +kernel) (by decide +kernel)
set_option maxRecDepth 20000 in
theorem gX5_isCell_X5_isPing : GoodIn wsX5_isCell (wsV RX5 91 RX5 yX5_isPing wsX5_isPing) := goodIn_app (goodIn_of _ (by decide +kernel)) ggX5_isCell_X5_isPing
set_option maxRecDepth 20000 in
theorem ggX5_isCell_X5_in : GoodIn wsX5_isCell wsX5_in := goodIn_r _ [10] (by decide +kernel) (by decide +kernel)
set_option maxRecDepth 20000 in
theorem gX5_isCell_X5_in : GoodIn wsX5_isCell (va_wsS RX5 58 yX5_in wsX5_in) := goodIn_app (goodIn_of _ (by decide +kernel)) ggX5_isCell_X5_in
theorem dX5_isCell_0 : decode cX5_isCell 0 = .ok (.aload_n 0, 1) := by decide +kernel
theorem dX5_isCell_1 : decode cX5_isCell 1 = .ok (.iload_n 1, 1) := by decide +kernel
theorem dX5_isCell_2 : decode cX5_isCell 2 = .ok (.invokevirtual 91, 3) := by decide +kernel
theorem dX5_isCell_5 : decode cX5_isCell 5 = .ok (.ifCond .eq 23, 3) := by decide +kernel
theorem dX5_isCell_8 : decode cX5_isCell 8 = .ok (.iload_n 2, 1) := by decide +kernel
theorem dX5_isCell_9 : decode cX5_isCell 9 = .ok (.i2l, 1) := by decide +kernel
theorem dX5_isCell_10 : decode cX5_isCell 10 = .ok (.lconst 0, 1) := by decide +kernel
theorem dX5_isCell_11 : decode cX5_isCell 11 = .ok (.aload_n 0, 1) := by decide +kernel
theorem dX5_isCell_12 : decode cX5_isCell 12 = .ok (.getfield 28, 3) := by decide +kernel
theorem dX5_isCell_15 : decode cX5_isCell 15 = .ok (.iconst 1, 1) := by decide +kernel
theorem dX5_isCell_16 : decode cX5_isCell 16 = .ok (.isub, 1) := by decide +kernel
theorem dX5_isCell_17 : decode cX5_isCell 17 = .ok (.i2l, 1) := by decide +kernel
theorem dX5_isCell_18 : decode cX5_isCell 18 = .ok (.invokestatic 58, 3) := by decide +kernel
theorem dX5_isCell_21 : decode cX5_isCell 21 = .ok (.ifCond .eq 7, 3) := by decide +kernel
theorem dX5_isCell_24 : decode cX5_isCell 24 = .ok (.iconst 1, 1) := by decide +kernel
theorem dX5_isCell_25 : decode cX5_isCell 25 = .ok (.goto 4, 3) := by decide +kernel
theorem dX5_isCell_28 : decode cX5_isCell 28 = .ok (.iconst 0, 1) := by decide +kernel
theorem dX5_isCell_29 : decode cX5_isCell 29 = .ok (.ireturn, 1) := by decide +kernel
set_option maxRecDepth 20000 in
theorem ggX5_fateOf_X5_findOwn : GoodIn wsX5_fateOf wsX5_findOwn := goodIn_r _ [14, 15, 16, 17, 18, 19, 20, 21, 22, 23, 24, 25, 26, 13, 27, 28, 29, 30, 31, 32, 33, 34, 35, 36, 37, 3, 7, 9, 5, 38, 39, 40, 41, 42, 43, 44, 45, 46, 47, 48, 49, 58, 59, 60, 61, 62, 63, 64, 65, 66, 67, 68, 69, 70, 71, 72, 73, 74, 75, 76, 77, 78, 79, 80, 81, 82, 83, 84, 85, 86, 87, 88] (by decide +kernel) (by decide +kernel)
set_option maxRecDepth 20000 in
theorem gX5_fateOf_X5_findOwn : GoodIn wsX5_fateOf (wsV RX5 94 RX5 yX5_findOwn wsX5_findOwn) := goodIn_app (goodIn_of _ (by decide +kernel)) ggX5_fateOf_X5_findOwn
set_option maxRecDepth 20000 in
theorem ggX5_fateOf_X5_cellAnswers : GoodIn wsX5_fateOf wsX5_cellAnswers := goodIn_r _ [53, 54, 24, 25, 26, 13, 27, 28, 29, 30, 31, 32, 33, 34, 35, 36, 37, 3, 7, 9, 5, 58, 59, 60, 61, 62, 63, 64, 65, 66, 67, 68, 69, 70, 71, 72, 73, 74, 75, 76, 77, 78, 79, 80, 81, 82, 83, 84, 85, 86, 87, 88] (by decide +kernel) (by decide +kernel)
set_option maxRecDepth 20000 in
theorem gX5_fateOf_X5_cellAnswers : GoodIn wsX5_fateOf (wsV RX5 161 RX5 yX5_cellAnswers wsX5_cellAnswers) := goodIn_app (goodIn_of _ (by decide +kernel)) ggX5_fateOf_X5_cellAnswers
set_option maxRecDepth 20000 in
theorem ggX5_fateOf_X5_amount : GoodIn wsX5_fateOf wsX5_amount := goodIn_r _ [57] (by decide +kernel) (by decide +kernel)
set_option maxRecDepth 20000 in
theorem gX5_fateOf_X5_amount : GoodIn wsX5_fateOf (va_wsS RX5 165 yX5_amount wsX5_amount) := goodIn_app (goodIn_of _ (by decide +kernel)) ggX5_fateOf_X5_amount
theorem dX5_fateOf_0 : decode cX5_fateOf 0 = .ok (.aload_n 0, 1) := by decide +kernel
theorem dX5_fateOf_1 : decode cX5_fateOf 1 = .ok (.iload_n 1, 1) := by decide +kernel
theorem dX5_fateOf_2 : decode cX5_fateOf 2 = .ok (.invokevirtual 94, 3) := by decide +kernel
theorem dX5_fateOf_5 : decode cX5_fateOf 5 = .ok (.ifCond .ne 5, 3) := by decide +kernel
theorem dX5_fateOf_8 : decode cX5_fateOf 8 = .ok (.iconst 1, 1) := by decide +kernel
theorem dX5_fateOf_9 : decode cX5_fateOf 9 = .ok (.ireturn, 1) := by decide +kernel
theorem dX5_fateOf_10 : decode cX5_fateOf 10 = .ok (.aload_n 0, 1) := by decide +kernel
theorem dX5_fateOf_11 : decode cX5_fateOf 11 = .ok (.iload_n 1, 1) := by decide +kernel
theorem dX5_fateOf_12 : decode cX5_fateOf 12 = .ok (.iload_n 2, 1) := by decide +kernel
theorem dX5_fateOf_13 : decode cX5_fateOf 13 = .ok (.invokevirtual 161, 3) := by decide +kernel
theorem dX5_fateOf_16 : decode cX5_fateOf 16 = .ok (.ifCond .ne 5, 3) := by decide +kernel
theorem dX5_fateOf_19 : decode cX5_fateOf 19 = .ok (.iconst 2, 1) := by decide +kernel
theorem dX5_fateOf_20 : decode cX5_fateOf 20 = .ok (.ireturn, 1) := by decide +kernel
theorem dX5_fateOf_21 : decode cX5_fateOf 21 = .ok (.iload_n 2, 1) := by decide +kernel
theorem dX5_fateOf_22 : decode cX5_fateOf 22 = .ok (.aload_n 0, 1) := by decide +kernel
theorem dX5_fateOf_23 : decode cX5_fateOf 23 = .ok (.getfield 138, 3) := by decide +kernel
theorem dX5_fateOf_26 : decode cX5_fateOf 26 = .ok (.iadd, 1) := by decide +kernel
theorem dX5_fateOf_27 : decode cX5_fateOf 27 = .ok (.aload_n 0, 1) := by decide +kernel
theorem dX5_fateOf_28 : decode cX5_fateOf 28 = .ok (.getfield 41, 3) := by decide +kernel
theorem dX5_fateOf_31 : decode cX5_fateOf 31 = .ok (.iload_n 1, 1) := by decide +kernel
theorem dX5_fateOf_32 : decode cX5_fateOf 32 = .ok (.iaload, 1) := by decide +kernel
theorem dX5_fateOf_33 : decode cX5_fateOf 33 = .ok (.if_icmp .lt 5, 3) := by decide +kernel
theorem dX5_fateOf_36 : decode cX5_fateOf 36 = .ok (.iconst 3, 1) := by decide +kernel
theorem dX5_fateOf_37 : decode cX5_fateOf 37 = .ok (.ireturn, 1) := by decide +kernel
theorem dX5_fateOf_38 : decode cX5_fateOf 38 = .ok (.aload_n 0, 1) := by decide +kernel
theorem dX5_fateOf_39 : decode cX5_fateOf 39 = .ok (.getfield 108, 3) := by decide +kernel
theorem dX5_fateOf_42 : decode cX5_fateOf 42 = .ok (.ifCond .le 12, 3) := by decide +kernel
theorem dX5_fateOf_45 : decode cX5_fateOf 45 = .ok (.aload_n 0, 1) := by decide +kernel
theorem dX5_fateOf_46 : decode cX5_fateOf 46 = .ok (.getfield 44, 3) := by decide +kernel
theorem dX5_fateOf_49 : decode cX5_fateOf 49 = .ok (.ifCond .ne 5, 3) := by decide +kernel
theorem dX5_fateOf_52 : decode cX5_fateOf 52 = .ok (.iconst 4, 1) := by decide +kernel
theorem dX5_fateOf_53 : decode cX5_fateOf 53 = .ok (.ireturn, 1) := by decide +kernel
theorem dX5_fateOf_54 : decode cX5_fateOf 54 = .ok (.aload_n 0, 1) := by decide +kernel
theorem dX5_fateOf_55 : decode cX5_fateOf 55 = .ok (.getfield 117, 3) := by decide +kernel
theorem dX5_fateOf_58 : decode cX5_fateOf 58 = .ok (.i2l, 1) := by decide +kernel
theorem dX5_fateOf_59 : decode cX5_fateOf 59 = .ok (.invokestatic 165, 3) := by decide +kernel
theorem dX5_fateOf_62 : decode cX5_fateOf 62 = .ok (.aload_n 0, 1) := by decide +kernel
theorem dX5_fateOf_63 : decode cX5_fateOf 63 = .ok (.getfield 48, 3) := by decide +kernel
theorem dX5_fateOf_66 : decode cX5_fateOf 66 = .ok (.i2l, 1) := by decide +kernel
theorem dX5_fateOf_67 : decode cX5_fateOf 67 = .ok (.lcmp, 1) := by decide +kernel
theorem dX5_fateOf_68 : decode cX5_fateOf 68 = .ok (.ifCond .le 5, 3) := by decide +kernel
theorem dX5_fateOf_71 : decode cX5_fateOf 71 = .ok (.iconst 5, 1) := by decide +kernel
theorem dX5_fateOf_72 : decode cX5_fateOf 72 = .ok (.ireturn, 1) := by decide +kernel
theorem dX5_fateOf_73 : decode cX5_fateOf 73 = .ok (.aload_n 0, 1) := by decide +kernel
theorem dX5_fateOf_74 : decode cX5_fateOf 74 = .ok (.getfield 111, 3) := by decide +kernel
theorem dX5_fateOf_77 : decode cX5_fateOf 77 = .ok (.i2l, 1) := by decide +kernel
theorem dX5_fateOf_78 : decode cX5_fateOf 78 = .ok (.invokestatic 165, 3) := by decide +kernel
theorem dX5_fateOf_81 : decode cX5_fateOf 81 = .ok (.ldc2_w 128, 3) := by decide +kernel
theorem dX5_fateOf_84 : decode cX5_fateOf 84 = .ok (.lcmp, 1) := by decide +kernel
theorem dX5_fateOf_85 : decode cX5_fateOf 85 = .ok (.ifCond .gt 18, 3) := by decide +kernel
theorem dX5_fateOf_88 : decode cX5_fateOf 88 = .ok (.aload_n 0, 1) := by decide +kernel
theorem dX5_fateOf_89 : decode cX5_fateOf 89 = .ok (.getfield 114, 3) := by decide +kernel
theorem dX5_fateOf_92 : decode cX5_fateOf 92 = .ok (.i2l, 1) := by decide +kernel
theorem dX5_fateOf_93 : decode cX5_fateOf 93 = .ok (.invokestatic 165, 3) := by decide +kernel
theorem dX5_fateOf_96 : decode cX5_fateOf 96 = .ok (.ldc2_w 128, 3) := by decide +kernel
theorem dX5_fateOf_99 : decode cX5_fateOf 99 = .ok (.lcmp, 1) := by decide +kernel
theorem dX5_fateOf_100 : decode cX5_fateOf 100 = .ok (.ifCond .le 8, 3) := by decide +kernel
theorem dX5_fateOf_103 : decode cX5_fateOf 103 = .ok (.bipush 6, 2) := by decide +kernel
theorem dX5_fateOf_105 : decode cX5_fateOf 105 = .ok (.goto 4, 3) := by decide +kernel
theorem dX5_fateOf_108 : decode cX5_fateOf 108 = .ok (.iconst 0, 1) := by decide +kernel
theorem dX5_fateOf_109 : decode cX5_fateOf 109 = .ok (.ireturn, 1) := by decide +kernel
set_option maxRecDepth 20000 in
theorem ggX5_fate_X5_isCell : GoodIn wsX5_fate wsX5_isCell := goodIn_r _ [5, 6, 7, 8, 9, 4, 10, 11, 12, 13, 14, 73, 74, 75, 76, 77, 78, 79, 80, 81, 82, 83, 84, 85, 86, 87, 88, 89, 90, 91, 92, 93, 94, 95, 96, 97, 98, 99, 100, 101, 102, 103] (by decide +kernel) (by decide +kernel)
set_option maxRecDepth 20000 in
theorem gX5_fate_X5_isCell : GoodIn wsX5_fate (wsV RX5 169 RX5 yX5_isCell wsX5_isCell) := goodIn_app (goodIn_of _ (by decide +kernel)) ggX5_fate_X5_isCell
set_option maxRecDepth 20000 in
theorem ggX5_fate_X5_fateOf : GoodIn wsX5_fate wsX5_fateOf := goodIn_r _ [18, 19, 20, 21, 22, 23, 24, 25, 26, 27, 28, 29, 30, 4, 31, 32, 33, 34, 35, 36, 11, 37, 38, 39, 40, 41, 42, 43, 44, 45, 46, 47, 48, 49, 50, 51, 52, 53, 54, 55, 56, 57, 58, 59, 60, 61, 62, 63, 64, 65, 66, 67, 68, 69, 6, 70, 71, 72, 73, 74, 75, 76, 77, 78, 79, 80, 81, 82, 83, 84, 85, 86, 87, 88, 89, 90, 91, 92, 93, 94, 95, 96, 97, 98, 99, 100, 101, 102, 103] (by decide +kernel) (by decide +kernel)
set_option maxRecDepth 20000 in
theorem gX5_fate_X5_fateOf : GoodIn wsX5_fate (wsV RX5 172 RX5 yX5_fateOf wsX5_fateOf) := goodIn_app (goodIn_of _ (by decide +kernel)) ggX5_fate_X5_fateOf
theorem dX5_fate_0 : decode cX5_fate 0 = .ok (.aload_n 0, 1) := by decide +kernel
theorem dX5_fate_1 : decode cX5_fate 1 = .ok (.iload_n 1, 1) := by decide +kernel
theorem dX5_fate_2 : decode cX5_fate 2 = .ok (.iload_n 2, 1) := by decide +kernel
theorem dX5_fate_3 : decode cX5_fate 3 = .ok (.invokevirtual 169, 3) := by decide +kernel
theorem dX5_fate_6 : decode cX5_fate 6 = .ok (.ifCond .eq 12, 3) := by decide +kernel
theorem dX5_fate_9 : decode cX5_fate 9 = .ok (.aload_n 0, 1) := by decide +kernel
theorem dX5_fate_10 : decode cX5_fate 10 = .ok (.iload_n 1, 1) := by decide +kernel
theorem dX5_fate_11 : decode cX5_fate 11 = .ok (.iload_n 2, 1) := by decide +kernel
theorem dX5_fate_12 : decode cX5_fate 12 = .ok (.invokevirtual 172, 3) := by decide +kernel
theorem dX5_fate_15 : decode cX5_fate 15 = .ok (.goto 5, 3) := by decide +kernel
theorem dX5_fate_18 : decode cX5_fate 18 = .ok (.bipush (-2), 2) := by decide +kernel
theorem dX5_fate_20 : decode cX5_fate 20 = .ok (.ireturn, 1) := by decide +kernel
set_option maxRecDepth 20000 in
theorem ggX5_findPace_X5_findOwn : GoodIn wsX5_findPace wsX5_findOwn := goodIn_r _ [11, 2, 5, 12, 1, 4, 13, 14, 15, 16, 17, 18, 19, 10, 20, 21, 22, 23, 24, 25, 26, 27, 28, 29, 30, 31, 32, 33, 34, 35, 36, 37, 38, 39, 40, 41, 42, 43, 44, 45, 46, 52, 53, 54, 55, 56, 57, 58, 59, 60, 61, 62, 63, 64, 65, 66, 67, 68, 69, 70, 71, 72, 73, 74, 75, 76, 77, 78, 79, 80, 81, 82] (by decide +kernel) (by decide +kernel)
set_option maxRecDepth 20000 in
theorem gX5_findPace_X5_findOwn : GoodIn wsX5_findPace (wsV RX5 94 RX5 yX5_findOwn wsX5_findOwn) := goodIn_app (goodIn_of _ (by decide +kernel)) ggX5_findPace_X5_findOwn
set_option maxRecDepth 20000 in
theorem ggX5_findPace_X5_cellAnswers : GoodIn wsX5_findPace wsX5_cellAnswers := goodIn_r _ [50, 51, 17, 18, 19, 10, 20, 21, 22, 23, 24, 25, 26, 27, 28, 29, 30, 31, 32, 33, 34, 52, 53, 54, 55, 56, 57, 58, 59, 60, 61, 62, 63, 64, 65, 66, 67, 68, 69, 70, 71, 72, 73, 74, 75, 76, 77, 78, 79, 80, 81, 82] (by decide +kernel) (by decide +kernel)
set_option maxRecDepth 20000 in
theorem gX5_findPace_X5_cellAnswers : GoodIn wsX5_findPace (wsV RX5 161 RX5 yX5_cellAnswers wsX5_cellAnswers) := goodIn_app (goodIn_of _ (by decide +kernel)) ggX5_findPace_X5_cellAnswers
set_option maxRecDepth 20000 in
theorem ggX5_findPace_X5_bring : GoodIn wsX5_findPace wsX5_bring := goodIn_r _ [38, 32, 33, 39, 1, 4, 40, 41, 42, 43, 10, 44, 45, 46, 52, 53, 54, 55, 56, 57, 58, 59, 60, 61, 62, 63, 64, 65, 66, 67, 68, 69, 70, 71, 72, 73, 74, 75, 76, 77, 78, 79, 80, 81, 82] (by decide +kernel) (by decide +kernel)
set_option maxRecDepth 20000 in
theorem gX5_findPace_X5_bring : GoodIn wsX5_findPace (wsV RX5 151 RX5 yX5_bring wsX5_bring) := goodIn_app (goodIn_of _ (by decide +kernel)) ggX5_findPace_X5_bring
theorem dX5_findPace_0 : decode cX5_findPace 0 = .ok (.aload_n 0, 1) := by decide +kernel
theorem dX5_findPace_1 : decode cX5_findPace 1 = .ok (.iload_n 1, 1) := by decide +kernel
theorem dX5_findPace_2 : decode cX5_findPace 2 = .ok (.invokevirtual 94, 3) := by decide +kernel
theorem dX5_findPace_5 : decode cX5_findPace 5 = .ok (.ifCond .eq 12, 3) := by decide +kernel
theorem dX5_findPace_8 : decode cX5_findPace 8 = .ok (.aload_n 0, 1) := by decide +kernel
theorem dX5_findPace_9 : decode cX5_findPace 9 = .ok (.iload_n 1, 1) := by decide +kernel
theorem dX5_findPace_10 : decode cX5_findPace 10 = .ok (.iload_n 2, 1) := by decide +kernel
theorem dX5_findPace_11 : decode cX5_findPace 11 = .ok (.invokevirtual 161, 3) := by decide +kernel
theorem dX5_findPace_14 : decode cX5_findPace 14 = .ok (.ifCond .ne 5, 3) := by decide +kernel
theorem dX5_findPace_17 : decode cX5_findPace 17 = .ok (.iconst 0, 1) := by decide +kernel
theorem dX5_findPace_18 : decode cX5_findPace 18 = .ok (.ireturn, 1) := by decide +kernel
theorem dX5_findPace_19 : decode cX5_findPace 19 = .ok (.aload_n 0, 1) := by decide +kernel
theorem dX5_findPace_20 : decode cX5_findPace 20 = .ok (.iload_n 1, 1) := by decide +kernel
theorem dX5_findPace_21 : decode cX5_findPace 21 = .ok (.invokevirtual 151, 3) := by decide +kernel
theorem dX5_findPace_24 : decode cX5_findPace 24 = .ok (.aload_n 0, 1) := by decide +kernel
theorem dX5_findPace_25 : decode cX5_findPace 25 = .ok (.aload_n 0, 1) := by decide +kernel
theorem dX5_findPace_26 : decode cX5_findPace 26 = .ok (.getfield 97, 3) := by decide +kernel
theorem dX5_findPace_29 : decode cX5_findPace 29 = .ok (.aload_n 0, 1) := by decide +kernel
theorem dX5_findPace_30 : decode cX5_findPace 30 = .ok (.getfield 141, 3) := by decide +kernel
theorem dX5_findPace_33 : decode cX5_findPace 33 = .ok (.lsub, 1) := by decide +kernel
theorem dX5_findPace_34 : decode cX5_findPace 34 = .ok (.putfield 175, 3) := by decide +kernel
theorem dX5_findPace_37 : decode cX5_findPace 37 = .ok (.aload_n 0, 1) := by decide +kernel
theorem dX5_findPace_38 : decode cX5_findPace 38 = .ok (.aload_n 0, 1) := by decide +kernel
theorem dX5_findPace_39 : decode cX5_findPace 39 = .ok (.getfield 101, 3) := by decide +kernel
theorem dX5_findPace_42 : decode cX5_findPace 42 = .ok (.aload_n 0, 1) := by decide +kernel
theorem dX5_findPace_43 : decode cX5_findPace 43 = .ok (.getfield 144, 3) := by decide +kernel
theorem dX5_findPace_46 : decode cX5_findPace 46 = .ok (.lsub, 1) := by decide +kernel
theorem dX5_findPace_47 : decode cX5_findPace 47 = .ok (.putfield 178, 3) := by decide +kernel
theorem dX5_findPace_50 : decode cX5_findPace 50 = .ok (.iconst 1, 1) := by decide +kernel
theorem dX5_findPace_51 : decode cX5_findPace 51 = .ok (.ireturn, 1) := by decide +kernel
set_option maxRecDepth 20000 in
theorem ggX5_pace_X5_isCell : GoodIn wsX5_pace wsX5_isCell := goodIn_r _ [7, 8, 9, 10, 11, 6, 12, 13, 14, 15, 16, 71, 72, 73, 74, 75, 76, 77, 78, 79, 80, 81, 82, 83, 84, 85, 86, 87, 88, 89, 90, 91, 92, 93, 94, 95, 96, 97, 98, 99, 100, 101] (by decide +kernel) (by decide +kernel)
set_option maxRecDepth 20000 in
theorem gX5_pace_X5_isCell : GoodIn wsX5_pace (wsV RX5 169 RX5 yX5_isCell wsX5_isCell) := goodIn_app (goodIn_of _ (by decide +kernel)) ggX5_pace_X5_isCell
set_option maxRecDepth 20000 in
theorem ggX5_pace_X5_in : GoodIn wsX5_pace wsX5_in := goodIn_r _ [16] (by decide +kernel) (by decide +kernel)
set_option maxRecDepth 20000 in
theorem gX5_pace_X5_in : GoodIn wsX5_pace (va_wsS RX5 58 yX5_in wsX5_in) := goodIn_app (goodIn_of _ (by decide +kernel)) ggX5_pace_X5_in
set_option maxRecDepth 20000 in
theorem ggX5_pace_X5_no : GoodIn wsX5_pace wsX5_no := goodIn_r _ [19, 20] (by decide +kernel) (by decide +kernel)
set_option maxRecDepth 20000 in
theorem gX5_pace_X5_no : GoodIn wsX5_pace (va_wsS RX5 157 yX5_no wsX5_no) := goodIn_app (goodIn_of _ (by decide +kernel)) ggX5_pace_X5_no
set_option maxRecDepth 20000 in
theorem ggX5_pace_X5_findPace : GoodIn wsX5_pace wsX5_findPace := goodIn_r _ [24, 25, 26, 1, 27, 28, 2, 29, 30, 31, 6, 32, 33, 13, 34, 35, 36, 37, 38, 39, 40, 41, 42, 43, 44, 45, 46, 47, 48, 49, 50, 51, 52, 53, 54, 55, 56, 57, 58, 59, 60, 61, 62, 63, 64, 65, 66, 67, 68, 69, 70, 8, 71, 72, 73, 74, 75, 76, 77, 78, 79, 80, 81, 82, 83, 84, 85, 86, 87, 88, 89, 90, 91, 92, 93, 94, 95, 96, 97, 98, 99, 100, 101] (by decide +kernel) (by decide +kernel)
set_option maxRecDepth 20000 in
theorem gX5_pace_X5_findPace : GoodIn wsX5_pace (wsV RX5 181 RX5 yX5_findPace wsX5_findPace) := goodIn_app (goodIn_of _ (by decide +kernel)) ggX5_pace_X5_findPace
theorem dX5_pace_0 : decode cX5_pace 0 = .ok (.aload_n 0, 1) := by decide +kernel
theorem dX5_pace_1 : decode cX5_pace 1 = .ok (.iload_n 1, 1) := by decide +kernel
theorem dX5_pace_2 : decode cX5_pace 2 = .ok (.iload_n 2, 1) := by decide +kernel
theorem dX5_pace_3 : decode cX5_pace 3 = .ok (.invokevirtual 169, 3) := by decide +kernel
theorem dX5_pace_6 : decode cX5_pace 6 = .ok (.ifCond .eq 13, 3) := by decide +kernel
theorem dX5_pace_9 : decode cX5_pace 9 = .ok (.iload_n 3, 1) := by decide +kernel
theorem dX5_pace_10 : decode cX5_pace 10 = .ok (.i2l, 1) := by decide +kernel
theorem dX5_pace_11 : decode cX5_pace 11 = .ok (.lconst 0, 1) := by decide +kernel
theorem dX5_pace_12 : decode cX5_pace 12 = .ok (.lconst 1, 1) := by decide +kernel
theorem dX5_pace_13 : decode cX5_pace 13 = .ok (.invokestatic 58, 3) := by decide +kernel
theorem dX5_pace_16 : decode cX5_pace 16 = .ok (.ifCond .ne 9, 3) := by decide +kernel
theorem dX5_pace_19 : decode cX5_pace 19 = .ok (.bipush (-2), 2) := by decide +kernel
theorem dX5_pace_21 : decode cX5_pace 21 = .ok (.invokestatic 157, 3) := by decide +kernel
theorem dX5_pace_24 : decode cX5_pace 24 = .ok (.lreturn, 1) := by decide +kernel
theorem dX5_pace_25 : decode cX5_pace 25 = .ok (.aload_n 0, 1) := by decide +kernel
theorem dX5_pace_26 : decode cX5_pace 26 = .ok (.iload_n 1, 1) := by decide +kernel
theorem dX5_pace_27 : decode cX5_pace 27 = .ok (.iload_n 2, 1) := by decide +kernel
theorem dX5_pace_28 : decode cX5_pace 28 = .ok (.invokevirtual 181, 3) := by decide +kernel
theorem dX5_pace_31 : decode cX5_pace 31 = .ok (.ifCond .ne 9, 3) := by decide +kernel
theorem dX5_pace_34 : decode cX5_pace 34 = .ok (.bipush (-3), 2) := by decide +kernel
theorem dX5_pace_36 : decode cX5_pace 36 = .ok (.invokestatic 157, 3) := by decide +kernel
theorem dX5_pace_39 : decode cX5_pace 39 = .ok (.lreturn, 1) := by decide +kernel
theorem dX5_pace_40 : decode cX5_pace 40 = .ok (.iload_n 3, 1) := by decide +kernel
theorem dX5_pace_41 : decode cX5_pace 41 = .ok (.ifCond .ne 10, 3) := by decide +kernel
theorem dX5_pace_44 : decode cX5_pace 44 = .ok (.aload_n 0, 1) := by decide +kernel
theorem dX5_pace_45 : decode cX5_pace 45 = .ok (.getfield 175, 3) := by decide +kernel
theorem dX5_pace_48 : decode cX5_pace 48 = .ok (.goto 7, 3) := by decide +kernel
theorem dX5_pace_51 : decode cX5_pace 51 = .ok (.aload_n 0, 1) := by decide +kernel
theorem dX5_pace_52 : decode cX5_pace 52 = .ok (.getfield 178, 3) := by decide +kernel
theorem dX5_pace_55 : decode cX5_pace 55 = .ok (.lreturn, 1) := by decide +kernel
set_option maxRecDepth 20000 in
theorem ggX5_fates_X5_in : GoodIn wsX5_fates wsX5_in := goodIn_r _ [7] (by decide +kernel) (by decide +kernel)
set_option maxRecDepth 20000 in
theorem gX5_fates_X5_in : GoodIn wsX5_fates (va_wsS RX5 58 yX5_in wsX5_in) := goodIn_app (goodIn_of _ (by decide +kernel)) ggX5_fates_X5_in
set_option maxRecDepth 20000 in
theorem ggX5_fates_X5_fateOf : GoodIn wsX5_fates wsX5_fateOf := goodIn_r _ [11, 12, 13, 14, 15, 16, 17, 18, 19, 20, 21, 22, 23, 6, 24, 25, 26, 27, 28, 29, 2, 30, 31, 32, 33, 34, 35, 36, 37, 38, 39, 40, 41, 42, 43, 44, 45, 46, 47, 48, 49, 50, 51, 52, 53, 54, 55, 56, 57, 58, 59, 60, 61, 62, 3, 63, 64, 65, 66, 67, 68, 69, 70, 71, 72, 73, 74, 75, 76, 77, 78, 79, 80, 81, 82, 83, 84, 85, 86, 87, 88, 89, 90, 91, 92, 93, 94, 95, 96] (by decide +kernel) (by decide +kernel)
set_option maxRecDepth 20000 in
theorem gX5_fates_X5_fateOf : GoodIn wsX5_fates (wsV RX5 172 RX5 yX5_fateOf wsX5_fateOf) := goodIn_app (goodIn_of _ (by decide +kernel)) ggX5_fates_X5_fateOf
theorem dX5_fates_0 : decode cX5_fates 0 = .ok (.iload_n 1, 1) := by decide +kernel
theorem dX5_fates_1 : decode cX5_fates 1 = .ok (.i2l, 1) := by decide +kernel
theorem dX5_fates_2 : decode cX5_fates 2 = .ok (.lconst 0, 1) := by decide +kernel
theorem dX5_fates_3 : decode cX5_fates 3 = .ok (.ldc2_w 184, 3) := by decide +kernel
theorem dX5_fates_6 : decode cX5_fates 6 = .ok (.invokestatic 58, 3) := by decide +kernel
theorem dX5_fates_9 : decode cX5_fates 9 = .ok (.ifCond .ne 6, 3) := by decide +kernel
theorem dX5_fates_12 : decode cX5_fates 12 = .ok (.bipush (-2), 2) := by decide +kernel
theorem dX5_fates_14 : decode cX5_fates 14 = .ok (.ireturn, 1) := by decide +kernel
theorem dX5_fates_15 : decode cX5_fates 15 = .ok (.iconst 0, 1) := by decide +kernel
theorem dX5_fates_16 : decode cX5_fates 16 = .ok (.istore_n 2, 1) := by decide +kernel
theorem dX5_fates_17 : decode cX5_fates 17 = .ok (.iconst 0, 1) := by decide +kernel
theorem dX5_fates_18 : decode cX5_fates 18 = .ok (.istore_n 3, 1) := by decide +kernel
theorem dX5_fates_19 : decode cX5_fates 19 = .ok (.iload_n 3, 1) := by decide +kernel
theorem dX5_fates_20 : decode cX5_fates 20 = .ok (.aload_n 0, 1) := by decide +kernel
theorem dX5_fates_21 : decode cX5_fates 21 = .ok (.getfield 82, 3) := by decide +kernel
theorem dX5_fates_24 : decode cX5_fates 24 = .ok (.if_icmp .ge 46, 3) := by decide +kernel
theorem dX5_fates_27 : decode cX5_fates 27 = .ok (.iconst 0, 1) := by decide +kernel
theorem dX5_fates_28 : decode cX5_fates 28 = .ok (.istore 4, 2) := by decide +kernel
theorem dX5_fates_30 : decode cX5_fates 30 = .ok (.iload 4, 2) := by decide +kernel
theorem dX5_fates_32 : decode cX5_fates 32 = .ok (.aload_n 0, 1) := by decide +kernel
theorem dX5_fates_33 : decode cX5_fates 33 = .ok (.getfield 28, 3) := by decide +kernel
theorem dX5_fates_36 : decode cX5_fates 36 = .ok (.if_icmp .ge 28, 3) := by decide +kernel
theorem dX5_fates_39 : decode cX5_fates 39 = .ok (.iload_n 2, 1) := by decide +kernel
theorem dX5_fates_40 : decode cX5_fates 40 = .ok (.aload_n 0, 1) := by decide +kernel
theorem dX5_fates_41 : decode cX5_fates 41 = .ok (.iload_n 3, 1) := by decide +kernel
theorem dX5_fates_42 : decode cX5_fates 42 = .ok (.iload 4, 2) := by decide +kernel
theorem dX5_fates_44 : decode cX5_fates 44 = .ok (.invokevirtual 172, 3) := by decide +kernel
theorem dX5_fates_47 : decode cX5_fates 47 = .ok (.iload_n 1, 1) := by decide +kernel
theorem dX5_fates_48 : decode cX5_fates 48 = .ok (.if_icmp .ne 7, 3) := by decide +kernel
theorem dX5_fates_51 : decode cX5_fates 51 = .ok (.iconst 1, 1) := by decide +kernel
theorem dX5_fates_52 : decode cX5_fates 52 = .ok (.goto 4, 3) := by decide +kernel
theorem dX5_fates_55 : decode cX5_fates 55 = .ok (.iconst 0, 1) := by decide +kernel
theorem dX5_fates_56 : decode cX5_fates 56 = .ok (.iadd, 1) := by decide +kernel
theorem dX5_fates_57 : decode cX5_fates 57 = .ok (.istore_n 2, 1) := by decide +kernel
theorem dX5_fates_58 : decode cX5_fates 58 = .ok (.iinc 4 1, 3) := by decide +kernel
theorem dX5_fates_61 : decode cX5_fates 61 = .ok (.goto (-31), 3) := by decide +kernel
theorem dX5_fates_64 : decode cX5_fates 64 = .ok (.iinc 3 1, 3) := by decide +kernel
theorem dX5_fates_67 : decode cX5_fates 67 = .ok (.goto (-48), 3) := by decide +kernel
theorem dX5_fates_70 : decode cX5_fates 70 = .ok (.iload_n 2, 1) := by decide +kernel
theorem dX5_fates_71 : decode cX5_fates 71 = .ok (.ireturn, 1) := by decide +kernel
set_option maxRecDepth 20000 in
theorem ggX5_gather_X5_fateOf : GoodIn wsX5_gather wsX5_fateOf := goodIn_r _ [10, 11, 12, 13, 14, 15, 16, 17, 18, 19, 20, 21, 22, 9, 23, 24, 25, 26, 27, 28, 29, 30, 31, 32, 33, 34, 35, 36, 37, 38, 39, 40, 41, 42, 43, 44, 45, 46, 47, 48, 49, 50, 51, 52, 53, 54, 55, 56, 57, 58, 59, 60, 61, 62, 63, 64, 65, 66, 71, 72, 73, 74, 75, 76, 77, 78, 79, 80, 81, 82, 83, 84, 85, 86, 87, 88, 89, 90, 91, 92, 93, 94, 95, 96, 97, 98, 99, 100, 101] (by decide +kernel) (by decide +kernel)
set_option maxRecDepth 20000 in
theorem gX5_gather_X5_fateOf : GoodIn wsX5_gather (wsV RX5 172 RX5 yX5_fateOf wsX5_fateOf) := goodIn_app (goodIn_of _ (by decide +kernel)) ggX5_gather_X5_fateOf
set_option maxRecDepth 20000 in
theorem ggX5_gather_X5_findPace : GoodIn wsX5_gather wsX5_findPace := goodIn_r _ [70, 27, 24, 4, 28, 25, 5, 20, 21, 22, 9, 23, 26, 29, 30, 31, 32, 33, 34, 35, 36, 37, 38, 39, 40, 41, 42, 43, 44, 45, 46, 13, 17, 19, 15, 47, 48, 49, 50, 51, 52, 53, 54, 55, 56, 57, 58, 59, 60, 61, 62, 63, 71, 72, 73, 74, 75, 76, 77, 78, 79, 80, 81, 82, 83, 84, 85, 86, 87, 88, 89, 90, 91, 92, 93, 94, 95, 96, 97, 98, 99, 100, 101] (by decide +kernel) (by decide +kernel)
set_option maxRecDepth 20000 in
theorem gX5_gather_X5_findPace : GoodIn wsX5_gather (wsV RX5 181 RX5 yX5_findPace wsX5_findPace) := goodIn_app (goodIn_of _ (by decide +kernel)) ggX5_gather_X5_findPace
theorem dX5_gather_0 : decode cX5_gather 0 = .ok (.aload_n 0, 1) := by decide +kernel
theorem dX5_gather_1 : decode cX5_gather 1 = .ok (.lconst 0, 1) := by decide +kernel
theorem dX5_gather_2 : decode cX5_gather 2 = .ok (.putfield 186, 3) := by decide +kernel
theorem dX5_gather_5 : decode cX5_gather 5 = .ok (.aload_n 0, 1) := by decide +kernel
theorem dX5_gather_6 : decode cX5_gather 6 = .ok (.lconst 0, 1) := by decide +kernel
theorem dX5_gather_7 : decode cX5_gather 7 = .ok (.putfield 189, 3) := by decide +kernel
theorem dX5_gather_10 : decode cX5_gather 10 = .ok (.aload_n 0, 1) := by decide +kernel
theorem dX5_gather_11 : decode cX5_gather 11 = .ok (.lconst 0, 1) := by decide +kernel
theorem dX5_gather_12 : decode cX5_gather 12 = .ok (.putfield 192, 3) := by decide +kernel
theorem dX5_gather_15 : decode cX5_gather 15 = .ok (.iload_n 1, 1) := by decide +kernel
theorem dX5_gather_16 : decode cX5_gather 16 = .ok (.istore 5, 2) := by decide +kernel
theorem dX5_gather_18 : decode cX5_gather 18 = .ok (.iload 5, 2) := by decide +kernel
theorem dX5_gather_20 : decode cX5_gather 20 = .ok (.iload_n 2, 1) := by decide +kernel
theorem dX5_gather_21 : decode cX5_gather 21 = .ok (.if_icmp .gt 83, 3) := by decide +kernel
theorem dX5_gather_24 : decode cX5_gather 24 = .ok (.iload_n 3, 1) := by decide +kernel
theorem dX5_gather_25 : decode cX5_gather 25 = .ok (.istore 6, 2) := by decide +kernel
theorem dX5_gather_27 : decode cX5_gather 27 = .ok (.iload 6, 2) := by decide +kernel
theorem dX5_gather_29 : decode cX5_gather 29 = .ok (.iload 4, 2) := by decide +kernel
theorem dX5_gather_31 : decode cX5_gather 31 = .ok (.if_icmp .gt 67, 3) := by decide +kernel
theorem dX5_gather_34 : decode cX5_gather 34 = .ok (.aload_n 0, 1) := by decide +kernel
theorem dX5_gather_35 : decode cX5_gather 35 = .ok (.iload 5, 2) := by decide +kernel
theorem dX5_gather_37 : decode cX5_gather 37 = .ok (.iload 6, 2) := by decide +kernel
theorem dX5_gather_39 : decode cX5_gather 39 = .ok (.invokevirtual 172, 3) := by decide +kernel
theorem dX5_gather_42 : decode cX5_gather 42 = .ok (.ifCond .ne 50, 3) := by decide +kernel
theorem dX5_gather_45 : decode cX5_gather 45 = .ok (.aload_n 0, 1) := by decide +kernel
theorem dX5_gather_46 : decode cX5_gather 46 = .ok (.iload 5, 2) := by decide +kernel
theorem dX5_gather_48 : decode cX5_gather 48 = .ok (.iload 6, 2) := by decide +kernel
theorem dX5_gather_50 : decode cX5_gather 50 = .ok (.invokevirtual 181, 3) := by decide +kernel
theorem dX5_gather_53 : decode cX5_gather 53 = .ok (.ifCond .eq 39, 3) := by decide +kernel
theorem dX5_gather_56 : decode cX5_gather 56 = .ok (.aload_n 0, 1) := by decide +kernel
theorem dX5_gather_57 : decode cX5_gather 57 = .ok (.dup, 1) := by decide +kernel
theorem dX5_gather_58 : decode cX5_gather 58 = .ok (.getfield 186, 3) := by decide +kernel
theorem dX5_gather_61 : decode cX5_gather 61 = .ok (.lconst 1, 1) := by decide +kernel
theorem dX5_gather_62 : decode cX5_gather 62 = .ok (.ladd, 1) := by decide +kernel
theorem dX5_gather_63 : decode cX5_gather 63 = .ok (.putfield 186, 3) := by decide +kernel
theorem dX5_gather_66 : decode cX5_gather 66 = .ok (.aload_n 0, 1) := by decide +kernel
theorem dX5_gather_67 : decode cX5_gather 67 = .ok (.dup, 1) := by decide +kernel
theorem dX5_gather_68 : decode cX5_gather 68 = .ok (.getfield 189, 3) := by decide +kernel
theorem dX5_gather_71 : decode cX5_gather 71 = .ok (.aload_n 0, 1) := by decide +kernel
theorem dX5_gather_72 : decode cX5_gather 72 = .ok (.getfield 175, 3) := by decide +kernel
theorem dX5_gather_75 : decode cX5_gather 75 = .ok (.ladd, 1) := by decide +kernel
theorem dX5_gather_76 : decode cX5_gather 76 = .ok (.putfield 189, 3) := by decide +kernel
theorem dX5_gather_79 : decode cX5_gather 79 = .ok (.aload_n 0, 1) := by decide +kernel
theorem dX5_gather_80 : decode cX5_gather 80 = .ok (.dup, 1) := by decide +kernel
theorem dX5_gather_81 : decode cX5_gather 81 = .ok (.getfield 192, 3) := by decide +kernel
theorem dX5_gather_84 : decode cX5_gather 84 = .ok (.aload_n 0, 1) := by decide +kernel
theorem dX5_gather_85 : decode cX5_gather 85 = .ok (.getfield 178, 3) := by decide +kernel
theorem dX5_gather_88 : decode cX5_gather 88 = .ok (.ladd, 1) := by decide +kernel
theorem dX5_gather_89 : decode cX5_gather 89 = .ok (.putfield 192, 3) := by decide +kernel
theorem dX5_gather_92 : decode cX5_gather 92 = .ok (.iinc 6 1, 3) := by decide +kernel
theorem dX5_gather_95 : decode cX5_gather 95 = .ok (.goto (-68), 3) := by decide +kernel
theorem dX5_gather_98 : decode cX5_gather 98 = .ok (.iinc 5 1, 3) := by decide +kernel
theorem dX5_gather_101 : decode cX5_gather 101 = .ok (.goto (-83), 3) := by decide +kernel
theorem dX5_gather_104 : decode cX5_gather 104 = .ok (.return_, 1) := by decide +kernel
set_option maxRecDepth 20000 in
theorem ggX5_isRow_X5_isPing : GoodIn wsX5_isRow wsX5_isPing := goodIn_r _ [5, 6, 7, 8, 4, 9, 10, 11, 12, 13, 14, 15, 16, 17, 18, 19, 20, 21, 22, 23, 24, 25, 26, 27, 28, 29, 30, 31, 32, 33, 34, 35, 36, 37, 38, 39, 40] (by decide +kernel) (by decide +kernel)
set_option maxRecDepth 20000 in
theorem gX5_isRow_X5_isPing : GoodIn wsX5_isRow (wsV RX5 91 RX5 yX5_isPing wsX5_isPing) := goodIn_app (goodIn_of _ (by decide +kernel)) ggX5_isRow_X5_isPing
theorem dX5_isRow_0 : decode cX5_isRow 0 = .ok (.aload_n 0, 1) := by decide +kernel
theorem dX5_isRow_1 : decode cX5_isRow 1 = .ok (.iload_n 1, 1) := by decide +kernel
theorem dX5_isRow_2 : decode cX5_isRow 2 = .ok (.invokevirtual 91, 3) := by decide +kernel
theorem dX5_isRow_5 : decode cX5_isRow 5 = .ok (.ifCond .eq 20, 3) := by decide +kernel
theorem dX5_isRow_8 : decode cX5_isRow 8 = .ok (.aload_n 0, 1) := by decide +kernel
theorem dX5_isRow_9 : decode cX5_isRow 9 = .ok (.iload_n 2, 1) := by decide +kernel
theorem dX5_isRow_10 : decode cX5_isRow 10 = .ok (.invokevirtual 91, 3) := by decide +kernel
theorem dX5_isRow_13 : decode cX5_isRow 13 = .ok (.ifCond .eq 12, 3) := by decide +kernel
theorem dX5_isRow_16 : decode cX5_isRow 16 = .ok (.iload_n 1, 1) := by decide +kernel
theorem dX5_isRow_17 : decode cX5_isRow 17 = .ok (.iload_n 2, 1) := by decide +kernel
theorem dX5_isRow_18 : decode cX5_isRow 18 = .ok (.if_icmp .gt 7, 3) := by decide +kernel
theorem dX5_isRow_21 : decode cX5_isRow 21 = .ok (.iconst 1, 1) := by decide +kernel
theorem dX5_isRow_22 : decode cX5_isRow 22 = .ok (.goto 4, 3) := by decide +kernel
theorem dX5_isRow_25 : decode cX5_isRow 25 = .ok (.iconst 0, 1) := by decide +kernel
theorem dX5_isRow_26 : decode cX5_isRow 26 = .ok (.ireturn, 1) := by decide +kernel
set_option maxRecDepth 20000 in
theorem ggX5_isBox_X5_isRow : GoodIn wsX5_isBox wsX5_isRow := goodIn_r _ [6, 7, 8, 9, 5, 10, 11, 12, 13, 14, 15, 16, 17, 18, 19, 20, 21, 22, 23, 24, 25, 26, 27, 28, 29, 30, 31, 32, 33, 34, 35, 36, 37, 38, 39, 40, 41, 42, 43, 44, 45] (by decide +kernel) (by decide +kernel)
set_option maxRecDepth 20000 in
theorem gX5_isBox_X5_isRow : GoodIn wsX5_isBox (wsV RX5 195 RX5 yX5_isRow wsX5_isRow) := goodIn_app (goodIn_of _ (by decide +kernel)) ggX5_isBox_X5_isRow
set_option maxRecDepth 20000 in
theorem ggX5_isBox_X5_in : GoodIn wsX5_isBox wsX5_in := goodIn_r _ [14] (by decide +kernel) (by decide +kernel)
set_option maxRecDepth 20000 in
theorem gX5_isBox_X5_in : GoodIn wsX5_isBox (va_wsS RX5 58 yX5_in wsX5_in) := goodIn_app (goodIn_of _ (by decide +kernel)) ggX5_isBox_X5_in
theorem dX5_isBox_0 : decode cX5_isBox 0 = .ok (.aload_n 0, 1) := by decide +kernel
theorem dX5_isBox_1 : decode cX5_isBox 1 = .ok (.iload_n 1, 1) := by decide +kernel
theorem dX5_isBox_2 : decode cX5_isBox 2 = .ok (.iload_n 2, 1) := by decide +kernel
theorem dX5_isBox_3 : decode cX5_isBox 3 = .ok (.invokevirtual 195, 3) := by decide +kernel
theorem dX5_isBox_6 : decode cX5_isBox 6 = .ok (.ifCond .eq 41, 3) := by decide +kernel
theorem dX5_isBox_9 : decode cX5_isBox 9 = .ok (.iload_n 3, 1) := by decide +kernel
theorem dX5_isBox_10 : decode cX5_isBox 10 = .ok (.i2l, 1) := by decide +kernel
theorem dX5_isBox_11 : decode cX5_isBox 11 = .ok (.lconst 0, 1) := by decide +kernel
theorem dX5_isBox_12 : decode cX5_isBox 12 = .ok (.aload_n 0, 1) := by decide +kernel
theorem dX5_isBox_13 : decode cX5_isBox 13 = .ok (.getfield 28, 3) := by decide +kernel
theorem dX5_isBox_16 : decode cX5_isBox 16 = .ok (.iconst 1, 1) := by decide +kernel
theorem dX5_isBox_17 : decode cX5_isBox 17 = .ok (.isub, 1) := by decide +kernel
theorem dX5_isBox_18 : decode cX5_isBox 18 = .ok (.i2l, 1) := by decide +kernel
theorem dX5_isBox_19 : decode cX5_isBox 19 = .ok (.invokestatic 58, 3) := by decide +kernel
theorem dX5_isBox_22 : decode cX5_isBox 22 = .ok (.ifCond .eq 25, 3) := by decide +kernel
theorem dX5_isBox_25 : decode cX5_isBox 25 = .ok (.iload 4, 2) := by decide +kernel
theorem dX5_isBox_27 : decode cX5_isBox 27 = .ok (.i2l, 1) := by decide +kernel
theorem dX5_isBox_28 : decode cX5_isBox 28 = .ok (.iload_n 3, 1) := by decide +kernel
theorem dX5_isBox_29 : decode cX5_isBox 29 = .ok (.i2l, 1) := by decide +kernel
theorem dX5_isBox_30 : decode cX5_isBox 30 = .ok (.aload_n 0, 1) := by decide +kernel
theorem dX5_isBox_31 : decode cX5_isBox 31 = .ok (.getfield 28, 3) := by decide +kernel
theorem dX5_isBox_34 : decode cX5_isBox 34 = .ok (.iconst 1, 1) := by decide +kernel
theorem dX5_isBox_35 : decode cX5_isBox 35 = .ok (.isub, 1) := by decide +kernel
theorem dX5_isBox_36 : decode cX5_isBox 36 = .ok (.i2l, 1) := by decide +kernel
theorem dX5_isBox_37 : decode cX5_isBox 37 = .ok (.invokestatic 58, 3) := by decide +kernel
theorem dX5_isBox_40 : decode cX5_isBox 40 = .ok (.ifCond .eq 7, 3) := by decide +kernel
theorem dX5_isBox_43 : decode cX5_isBox 43 = .ok (.iconst 1, 1) := by decide +kernel
theorem dX5_isBox_44 : decode cX5_isBox 44 = .ok (.goto 4, 3) := by decide +kernel
theorem dX5_isBox_47 : decode cX5_isBox 47 = .ok (.iconst 0, 1) := by decide +kernel
theorem dX5_isBox_48 : decode cX5_isBox 48 = .ok (.ireturn, 1) := by decide +kernel
set_option maxRecDepth 20000 in
theorem ggX5_box_X5_isBox : GoodIn wsX5_box wsX5_isBox := goodIn_r _ [9, 10, 11, 12, 13, 8, 14, 15, 16, 17, 18, 19, 20, 21, 22, 95, 96, 97, 98, 99, 100, 101, 102, 103, 104, 105, 106, 107, 108, 109, 110, 111, 112, 113, 114, 115, 116, 117, 118, 119, 120, 121, 122, 123, 124, 125] (by decide +kernel) (by decide +kernel)
set_option maxRecDepth 20000 in
theorem gX5_box_X5_isBox : GoodIn wsX5_box (wsV RX5 198 RX5 yX5_isBox wsX5_isBox) := goodIn_app (goodIn_of _ (by decide +kernel)) ggX5_box_X5_isBox
set_option maxRecDepth 20000 in
theorem ggX5_box_X5_in : GoodIn wsX5_box wsX5_in := goodIn_r _ [22] (by decide +kernel) (by decide +kernel)
set_option maxRecDepth 20000 in
theorem gX5_box_X5_in : GoodIn wsX5_box (va_wsS RX5 58 yX5_in wsX5_in) := goodIn_app (goodIn_of _ (by decide +kernel)) ggX5_box_X5_in
set_option maxRecDepth 20000 in
theorem ggX5_box_X5_no : GoodIn wsX5_box wsX5_no := goodIn_r _ [25, 26] (by decide +kernel) (by decide +kernel)
set_option maxRecDepth 20000 in
theorem gX5_box_X5_no : GoodIn wsX5_box (va_wsS RX5 157 yX5_no wsX5_no) := goodIn_app (goodIn_of _ (by decide +kernel)) ggX5_box_X5_no
set_option maxRecDepth 20000 in
theorem ggX5_box_X5_gather : GoodIn wsX5_box wsX5_gather := goodIn_r _ [30, 2, 3, 4, 31, 32, 33, 34, 35, 8, 36, 37, 38, 39, 40, 41, 42, 43, 44, 45, 46, 47, 48, 49, 50, 51, 52, 53, 54, 19, 55, 56, 57, 58, 59, 60, 61, 62, 63, 64, 65, 66, 67, 68, 69, 70, 71, 72, 73, 74, 75, 76, 77, 78, 79, 80, 81, 82, 83, 84, 85, 86, 87, 10, 88, 89, 90, 91, 92, 93, 94, 95, 96, 97, 98, 99, 100, 101, 102, 103, 104, 105, 106, 107, 108, 109, 110, 111, 112, 113, 114, 115, 116, 117, 118, 119, 120, 121, 122, 123, 124, 125] (by decide +kernel) (by decide +kernel)
set_option maxRecDepth 20000 in
theorem gX5_box_X5_gather : GoodIn wsX5_box (wsV RX5 201 RX5 yX5_gather wsX5_gather) := goodIn_app (goodIn_of _ (by decide +kernel)) ggX5_box_X5_gather
theorem dX5_box_0 : decode cX5_box 0 = .ok (.aload_n 0, 1) := by decide +kernel
theorem dX5_box_1 : decode cX5_box 1 = .ok (.iload_n 1, 1) := by decide +kernel
theorem dX5_box_2 : decode cX5_box 2 = .ok (.iload_n 2, 1) := by decide +kernel
theorem dX5_box_3 : decode cX5_box 3 = .ok (.iload_n 3, 1) := by decide +kernel
theorem dX5_box_4 : decode cX5_box 4 = .ok (.iload 4, 2) := by decide +kernel
theorem dX5_box_6 : decode cX5_box 6 = .ok (.invokevirtual 198, 3) := by decide +kernel
theorem dX5_box_9 : decode cX5_box 9 = .ok (.ifCond .eq 16, 3) := by decide +kernel
theorem dX5_box_12 : decode cX5_box 12 = .ok (.iload 5, 2) := by decide +kernel
theorem dX5_box_14 : decode cX5_box 14 = .ok (.i2l, 1) := by decide +kernel
theorem dX5_box_15 : decode cX5_box 15 = .ok (.lconst 0, 1) := by decide +kernel
theorem dX5_box_16 : decode cX5_box 16 = .ok (.ldc2_w 66, 3) := by decide +kernel
theorem dX5_box_19 : decode cX5_box 19 = .ok (.invokestatic 58, 3) := by decide +kernel
theorem dX5_box_22 : decode cX5_box 22 = .ok (.ifCond .ne 9, 3) := by decide +kernel
theorem dX5_box_25 : decode cX5_box 25 = .ok (.bipush (-2), 2) := by decide +kernel
theorem dX5_box_27 : decode cX5_box 27 = .ok (.invokestatic 157, 3) := by decide +kernel
theorem dX5_box_30 : decode cX5_box 30 = .ok (.lreturn, 1) := by decide +kernel
theorem dX5_box_31 : decode cX5_box 31 = .ok (.aload_n 0, 1) := by decide +kernel
theorem dX5_box_32 : decode cX5_box 32 = .ok (.iload_n 1, 1) := by decide +kernel
theorem dX5_box_33 : decode cX5_box 33 = .ok (.iload_n 2, 1) := by decide +kernel
theorem dX5_box_34 : decode cX5_box 34 = .ok (.iload_n 3, 1) := by decide +kernel
theorem dX5_box_35 : decode cX5_box 35 = .ok (.iload 4, 2) := by decide +kernel
theorem dX5_box_37 : decode cX5_box 37 = .ok (.invokevirtual 201, 3) := by decide +kernel
theorem dX5_box_40 : decode cX5_box 40 = .ok (.iload 5, 2) := by decide +kernel
theorem dX5_box_42 : decode cX5_box 42 = .ok (.ifCond .ne 10, 3) := by decide +kernel
theorem dX5_box_45 : decode cX5_box 45 = .ok (.aload_n 0, 1) := by decide +kernel
theorem dX5_box_46 : decode cX5_box 46 = .ok (.getfield 186, 3) := by decide +kernel
theorem dX5_box_49 : decode cX5_box 49 = .ok (.goto 20, 3) := by decide +kernel
theorem dX5_box_52 : decode cX5_box 52 = .ok (.iload 5, 2) := by decide +kernel
theorem dX5_box_54 : decode cX5_box 54 = .ok (.iconst 1, 1) := by decide +kernel
theorem dX5_box_55 : decode cX5_box 55 = .ok (.if_icmp .ne 10, 3) := by decide +kernel
theorem dX5_box_58 : decode cX5_box 58 = .ok (.aload_n 0, 1) := by decide +kernel
theorem dX5_box_59 : decode cX5_box 59 = .ok (.getfield 189, 3) := by decide +kernel
theorem dX5_box_62 : decode cX5_box 62 = .ok (.goto 7, 3) := by decide +kernel
theorem dX5_box_65 : decode cX5_box 65 = .ok (.aload_n 0, 1) := by decide +kernel
theorem dX5_box_66 : decode cX5_box 66 = .ok (.getfield 192, 3) := by decide +kernel
theorem dX5_box_69 : decode cX5_box 69 = .ok (.lreturn, 1) := by decide +kernel
set_option maxRecDepth 20000 in
theorem ggX5_mean_X5_isBox : GoodIn wsX5_mean wsX5_isBox := goodIn_r _ [9, 10, 11, 12, 13, 8, 14, 15, 16, 17, 18, 19, 20, 21, 22, 95, 96, 97, 98, 99, 100, 101, 102, 103, 104, 105, 106, 107, 108, 109, 110, 111, 112, 113, 114, 115, 116, 117, 118, 119, 120, 121, 122, 123, 124, 125] (by decide +kernel) (by decide +kernel)
set_option maxRecDepth 20000 in
theorem gX5_mean_X5_isBox : GoodIn wsX5_mean (wsV RX5 198 RX5 yX5_isBox wsX5_isBox) := goodIn_app (goodIn_of _ (by decide +kernel)) ggX5_mean_X5_isBox
set_option maxRecDepth 20000 in
theorem ggX5_mean_X5_in : GoodIn wsX5_mean wsX5_in := goodIn_r _ [22] (by decide +kernel) (by decide +kernel)
set_option maxRecDepth 20000 in
theorem gX5_mean_X5_in : GoodIn wsX5_mean (va_wsS RX5 58 yX5_in wsX5_in) := goodIn_app (goodIn_of _ (by decide +kernel)) ggX5_mean_X5_in
set_option maxRecDepth 20000 in
theorem ggX5_mean_X5_no : GoodIn wsX5_mean wsX5_no := goodIn_r _ [25, 26] (by decide +kernel) (by decide +kernel)
set_option maxRecDepth 20000 in
theorem gX5_mean_X5_no : GoodIn wsX5_mean (va_wsS RX5 157 yX5_no wsX5_no) := goodIn_app (goodIn_of _ (by decide +kernel)) ggX5_mean_X5_no
set_option maxRecDepth 20000 in
theorem ggX5_mean_X5_gather : GoodIn wsX5_mean wsX5_gather := goodIn_r _ [30, 2, 3, 4, 31, 32, 33, 34, 35, 8, 36, 37, 38, 39, 40, 41, 42, 43, 44, 45, 46, 47, 48, 49, 50, 51, 52, 53, 54, 19, 55, 56, 57, 58, 59, 60, 61, 62, 63, 64, 65, 66, 67, 68, 69, 70, 71, 72, 73, 74, 75, 76, 77, 78, 79, 80, 81, 82, 83, 84, 85, 86, 87, 10, 88, 89, 90, 91, 92, 93, 94, 95, 96, 97, 98, 99, 100, 101, 102, 103, 104, 105, 106, 107, 108, 109, 110, 111, 112, 113, 114, 115, 116, 117, 118, 119, 120, 121, 122, 123, 124, 125] (by decide +kernel) (by decide +kernel)
set_option maxRecDepth 20000 in
theorem gX5_mean_X5_gather : GoodIn wsX5_mean (wsV RX5 201 RX5 yX5_gather wsX5_gather) := goodIn_app (goodIn_of _ (by decide +kernel)) ggX5_mean_X5_gather
theorem dX5_mean_0 : decode cX5_mean 0 = .ok (.aload_n 0, 1) := by decide +kernel
theorem dX5_mean_1 : decode cX5_mean 1 = .ok (.iload_n 1, 1) := by decide +kernel
theorem dX5_mean_2 : decode cX5_mean 2 = .ok (.iload_n 2, 1) := by decide +kernel
theorem dX5_mean_3 : decode cX5_mean 3 = .ok (.iload_n 3, 1) := by decide +kernel
theorem dX5_mean_4 : decode cX5_mean 4 = .ok (.iload 4, 2) := by decide +kernel
theorem dX5_mean_6 : decode cX5_mean 6 = .ok (.invokevirtual 198, 3) := by decide +kernel
theorem dX5_mean_9 : decode cX5_mean 9 = .ok (.ifCond .eq 16, 3) := by decide +kernel
theorem dX5_mean_12 : decode cX5_mean 12 = .ok (.iload 5, 2) := by decide +kernel
theorem dX5_mean_14 : decode cX5_mean 14 = .ok (.i2l, 1) := by decide +kernel
theorem dX5_mean_15 : decode cX5_mean 15 = .ok (.lconst 1, 1) := by decide +kernel
theorem dX5_mean_16 : decode cX5_mean 16 = .ok (.ldc2_w 66, 3) := by decide +kernel
theorem dX5_mean_19 : decode cX5_mean 19 = .ok (.invokestatic 58, 3) := by decide +kernel
theorem dX5_mean_22 : decode cX5_mean 22 = .ok (.ifCond .ne 9, 3) := by decide +kernel
theorem dX5_mean_25 : decode cX5_mean 25 = .ok (.bipush (-2), 2) := by decide +kernel
theorem dX5_mean_27 : decode cX5_mean 27 = .ok (.invokestatic 157, 3) := by decide +kernel
theorem dX5_mean_30 : decode cX5_mean 30 = .ok (.lreturn, 1) := by decide +kernel
theorem dX5_mean_31 : decode cX5_mean 31 = .ok (.aload_n 0, 1) := by decide +kernel
theorem dX5_mean_32 : decode cX5_mean 32 = .ok (.iload_n 1, 1) := by decide +kernel
theorem dX5_mean_33 : decode cX5_mean 33 = .ok (.iload_n 2, 1) := by decide +kernel
theorem dX5_mean_34 : decode cX5_mean 34 = .ok (.iload_n 3, 1) := by decide +kernel
theorem dX5_mean_35 : decode cX5_mean 35 = .ok (.iload 4, 2) := by decide +kernel
theorem dX5_mean_37 : decode cX5_mean 37 = .ok (.invokevirtual 201, 3) := by decide +kernel
theorem dX5_mean_40 : decode cX5_mean 40 = .ok (.aload_n 0, 1) := by decide +kernel
theorem dX5_mean_41 : decode cX5_mean 41 = .ok (.getfield 186, 3) := by decide +kernel
theorem dX5_mean_44 : decode cX5_mean 44 = .ok (.lconst 0, 1) := by decide +kernel
theorem dX5_mean_45 : decode cX5_mean 45 = .ok (.lcmp, 1) := by decide +kernel
theorem dX5_mean_46 : decode cX5_mean 46 = .ok (.ifCond .ne 9, 3) := by decide +kernel
theorem dX5_mean_49 : decode cX5_mean 49 = .ok (.bipush (-3), 2) := by decide +kernel
theorem dX5_mean_51 : decode cX5_mean 51 = .ok (.invokestatic 157, 3) := by decide +kernel
theorem dX5_mean_54 : decode cX5_mean 54 = .ok (.lreturn, 1) := by decide +kernel
theorem dX5_mean_55 : decode cX5_mean 55 = .ok (.iload 5, 2) := by decide +kernel
theorem dX5_mean_57 : decode cX5_mean 57 = .ok (.iconst 1, 1) := by decide +kernel
theorem dX5_mean_58 : decode cX5_mean 58 = .ok (.if_icmp .ne 10, 3) := by decide +kernel
theorem dX5_mean_61 : decode cX5_mean 61 = .ok (.aload_n 0, 1) := by decide +kernel
theorem dX5_mean_62 : decode cX5_mean 62 = .ok (.getfield 189, 3) := by decide +kernel
theorem dX5_mean_65 : decode cX5_mean 65 = .ok (.goto 7, 3) := by decide +kernel
theorem dX5_mean_68 : decode cX5_mean 68 = .ok (.aload_n 0, 1) := by decide +kernel
theorem dX5_mean_69 : decode cX5_mean 69 = .ok (.getfield 192, 3) := by decide +kernel
theorem dX5_mean_72 : decode cX5_mean 72 = .ok (.lstore 6, 2) := by decide +kernel
theorem dX5_mean_74 : decode cX5_mean 74 = .ok (.lload 6, 2) := by decide +kernel
theorem dX5_mean_76 : decode cX5_mean 76 = .ok (.aload_n 0, 1) := by decide +kernel
theorem dX5_mean_77 : decode cX5_mean 77 = .ok (.getfield 186, 3) := by decide +kernel
theorem dX5_mean_80 : decode cX5_mean 80 = .ok (.ldiv, 1) := by decide +kernel
theorem dX5_mean_81 : decode cX5_mean 81 = .ok (.lstore 8, 2) := by decide +kernel
theorem dX5_mean_83 : decode cX5_mean 83 = .ok (.lload 8, 2) := by decide +kernel
theorem dX5_mean_85 : decode cX5_mean 85 = .ok (.aload_n 0, 1) := by decide +kernel
theorem dX5_mean_86 : decode cX5_mean 86 = .ok (.getfield 186, 3) := by decide +kernel
theorem dX5_mean_89 : decode cX5_mean 89 = .ok (.lmul, 1) := by decide +kernel
theorem dX5_mean_90 : decode cX5_mean 90 = .ok (.lload 6, 2) := by decide +kernel
theorem dX5_mean_92 : decode cX5_mean 92 = .ok (.lcmp, 1) := by decide +kernel
theorem dX5_mean_93 : decode cX5_mean 93 = .ok (.ifCond .le 10, 3) := by decide +kernel
theorem dX5_mean_96 : decode cX5_mean 96 = .ok (.lload 8, 2) := by decide +kernel
theorem dX5_mean_98 : decode cX5_mean 98 = .ok (.lconst 1, 1) := by decide +kernel
theorem dX5_mean_99 : decode cX5_mean 99 = .ok (.lsub, 1) := by decide +kernel
theorem dX5_mean_100 : decode cX5_mean 100 = .ok (.goto 5, 3) := by decide +kernel
theorem dX5_mean_103 : decode cX5_mean 103 = .ok (.lload 8, 2) := by decide +kernel
theorem dX5_mean_105 : decode cX5_mean 105 = .ok (.lreturn, 1) := by decide +kernel
set_option maxRecDepth 20000 in
theorem ggX5_across_X5_fateOf : GoodIn wsX5_across wsX5_fateOf := goodIn_r _ [11, 12, 6, 13, 14, 15, 16, 17, 18, 19, 20, 21, 22, 10, 23, 24, 25, 26, 27, 28, 29, 30, 1, 2, 31, 32, 33, 34, 35, 36, 37, 38, 39, 40, 41, 42, 43, 44, 45, 46, 47, 48, 49, 50, 51, 52, 53, 54, 55, 56, 57, 58, 59, 60, 3, 61, 62, 63, 68, 69, 70, 71, 72, 73, 74, 75, 76, 77, 78, 79, 80, 81, 82, 83, 84, 85, 86, 87, 88, 89, 90, 91, 92, 93, 94, 95, 96, 97, 98] (by decide +kernel) (by decide +kernel)
set_option maxRecDepth 20000 in
theorem gX5_across_X5_fateOf : GoodIn wsX5_across (wsV RX5 172 RX5 yX5_fateOf wsX5_fateOf) := goodIn_app (goodIn_of _ (by decide +kernel)) ggX5_across_X5_fateOf
set_option maxRecDepth 20000 in
theorem ggX5_across_X5_findPace : GoodIn wsX5_across wsX5_findPace := goodIn_r _ [67, 27, 24, 4, 28, 25, 5, 20, 21, 22, 10, 23, 26, 29, 30, 1, 2, 31, 32, 33, 34, 35, 36, 37, 38, 39, 40, 41, 42, 43, 44, 13, 17, 19, 15, 45, 46, 47, 48, 49, 50, 51, 52, 53, 54, 55, 56, 57, 58, 59, 60, 3, 68, 69, 70, 71, 72, 73, 74, 75, 76, 77, 78, 79, 80, 81, 82, 83, 84, 85, 86, 87, 88, 89, 90, 91, 92, 93, 94, 95, 96, 97, 98] (by decide +kernel) (by decide +kernel)
set_option maxRecDepth 20000 in
theorem gX5_across_X5_findPace : GoodIn wsX5_across (wsV RX5 181 RX5 yX5_findPace wsX5_findPace) := goodIn_app (goodIn_of _ (by decide +kernel)) ggX5_across_X5_findPace
theorem dX5_across_0 : decode cX5_across 0 = .ok (.aload_n 0, 1) := by decide +kernel
theorem dX5_across_1 : decode cX5_across 1 = .ok (.getfield 35, 3) := by decide +kernel
theorem dX5_across_4 : decode cX5_across 4 = .ok (.iload_n 1, 1) := by decide +kernel
theorem dX5_across_5 : decode cX5_across 5 = .ok (.iconst 1, 1) := by decide +kernel
theorem dX5_across_6 : decode cX5_across 6 = .ok (.iadd, 1) := by decide +kernel
theorem dX5_across_7 : decode cX5_across 7 = .ok (.iaload, 1) := by decide +kernel
theorem dX5_across_8 : decode cX5_across 8 = .ok (.aload_n 0, 1) := by decide +kernel
theorem dX5_across_9 : decode cX5_across 9 = .ok (.getfield 35, 3) := by decide +kernel
theorem dX5_across_12 : decode cX5_across 12 = .ok (.iload_n 1, 1) := by decide +kernel
theorem dX5_across_13 : decode cX5_across 13 = .ok (.iaload, 1) := by decide +kernel
theorem dX5_across_14 : decode cX5_across 14 = .ok (.isub, 1) := by decide +kernel
theorem dX5_across_15 : decode cX5_across 15 = .ok (.i2l, 1) := by decide +kernel
theorem dX5_across_16 : decode cX5_across 16 = .ok (.lstore_n 3, 1) := by decide +kernel
theorem dX5_across_17 : decode cX5_across 17 = .ok (.aload_n 0, 1) := by decide +kernel
theorem dX5_across_18 : decode cX5_across 18 = .ok (.getfield 38, 3) := by decide +kernel
theorem dX5_across_21 : decode cX5_across 21 = .ok (.iload_n 1, 1) := by decide +kernel
theorem dX5_across_22 : decode cX5_across 22 = .ok (.iconst 1, 1) := by decide +kernel
theorem dX5_across_23 : decode cX5_across 23 = .ok (.iadd, 1) := by decide +kernel
theorem dX5_across_24 : decode cX5_across 24 = .ok (.iaload, 1) := by decide +kernel
theorem dX5_across_25 : decode cX5_across 25 = .ok (.aload_n 0, 1) := by decide +kernel
theorem dX5_across_26 : decode cX5_across 26 = .ok (.getfield 38, 3) := by decide +kernel
theorem dX5_across_29 : decode cX5_across 29 = .ok (.iload_n 1, 1) := by decide +kernel
theorem dX5_across_30 : decode cX5_across 30 = .ok (.iaload, 1) := by decide +kernel
theorem dX5_across_31 : decode cX5_across 31 = .ok (.isub, 1) := by decide +kernel
theorem dX5_across_32 : decode cX5_across 32 = .ok (.i2l, 1) := by decide +kernel
theorem dX5_across_33 : decode cX5_across 33 = .ok (.lstore 5, 2) := by decide +kernel
theorem dX5_across_35 : decode cX5_across 35 = .ok (.iconst (-1), 1) := by decide +kernel
theorem dX5_across_36 : decode cX5_across 36 = .ok (.istore 7, 2) := by decide +kernel
theorem dX5_across_38 : decode cX5_across 38 = .ok (.iconst (-1), 1) := by decide +kernel
theorem dX5_across_39 : decode cX5_across 39 = .ok (.istore 8, 2) := by decide +kernel
theorem dX5_across_41 : decode cX5_across 41 = .ok (.lconst 0, 1) := by decide +kernel
theorem dX5_across_42 : decode cX5_across 42 = .ok (.lstore 9, 2) := by decide +kernel
theorem dX5_across_44 : decode cX5_across 44 = .ok (.iconst 0, 1) := by decide +kernel
theorem dX5_across_45 : decode cX5_across 45 = .ok (.istore 11, 2) := by decide +kernel
theorem dX5_across_47 : decode cX5_across 47 = .ok (.iload 11, 2) := by decide +kernel
theorem dX5_across_49 : decode cX5_across 49 = .ok (.aload_n 0, 1) := by decide +kernel
theorem dX5_across_50 : decode cX5_across 50 = .ok (.getfield 28, 3) := by decide +kernel
theorem dX5_across_53 : decode cX5_across 53 = .ok (.if_icmp .ge 67, 3) := by decide +kernel
theorem dX5_across_56 : decode cX5_across 56 = .ok (.aload_n 0, 1) := by decide +kernel
theorem dX5_across_57 : decode cX5_across 57 = .ok (.iload_n 1, 1) := by decide +kernel
theorem dX5_across_58 : decode cX5_across 58 = .ok (.iload 11, 2) := by decide +kernel
theorem dX5_across_60 : decode cX5_across 60 = .ok (.invokevirtual 172, 3) := by decide +kernel
theorem dX5_across_63 : decode cX5_across 63 = .ok (.ifCond .ne 51, 3) := by decide +kernel
theorem dX5_across_66 : decode cX5_across 66 = .ok (.aload_n 0, 1) := by decide +kernel
theorem dX5_across_67 : decode cX5_across 67 = .ok (.iload_n 1, 1) := by decide +kernel
theorem dX5_across_68 : decode cX5_across 68 = .ok (.iload 11, 2) := by decide +kernel
theorem dX5_across_70 : decode cX5_across 70 = .ok (.invokevirtual 181, 3) := by decide +kernel
theorem dX5_across_73 : decode cX5_across 73 = .ok (.ifCond .eq 41, 3) := by decide +kernel
theorem dX5_across_76 : decode cX5_across 76 = .ok (.lload 9, 2) := by decide +kernel
theorem dX5_across_78 : decode cX5_across 78 = .ok (.aload_n 0, 1) := by decide +kernel
theorem dX5_across_79 : decode cX5_across 79 = .ok (.getfield 175, 3) := by decide +kernel
theorem dX5_across_82 : decode cX5_across 82 = .ok (.lload 5, 2) := by decide +kernel
theorem dX5_across_84 : decode cX5_across 84 = .ok (.lmul, 1) := by decide +kernel
theorem dX5_across_85 : decode cX5_across 85 = .ok (.aload_n 0, 1) := by decide +kernel
theorem dX5_across_86 : decode cX5_across 86 = .ok (.getfield 178, 3) := by decide +kernel
theorem dX5_across_89 : decode cX5_across 89 = .ok (.lload_n 3, 1) := by decide +kernel
theorem dX5_across_90 : decode cX5_across 90 = .ok (.lmul, 1) := by decide +kernel
theorem dX5_across_91 : decode cX5_across 91 = .ok (.lsub, 1) := by decide +kernel
theorem dX5_across_92 : decode cX5_across 92 = .ok (.ladd, 1) := by decide +kernel
theorem dX5_across_93 : decode cX5_across 93 = .ok (.lstore 9, 2) := by decide +kernel
theorem dX5_across_95 : decode cX5_across 95 = .ok (.iload 7, 2) := by decide +kernel
theorem dX5_across_97 : decode cX5_across 97 = .ok (.iconst (-1), 1) := by decide +kernel
theorem dX5_across_98 : decode cX5_across 98 = .ok (.if_icmp .ne 8, 3) := by decide +kernel
theorem dX5_across_101 : decode cX5_across 101 = .ok (.iload 11, 2) := by decide +kernel
theorem dX5_across_103 : decode cX5_across 103 = .ok (.goto 5, 3) := by decide +kernel
theorem dX5_across_106 : decode cX5_across 106 = .ok (.iload 7, 2) := by decide +kernel
theorem dX5_across_108 : decode cX5_across 108 = .ok (.istore 7, 2) := by decide +kernel
theorem dX5_across_110 : decode cX5_across 110 = .ok (.iload 11, 2) := by decide +kernel
theorem dX5_across_112 : decode cX5_across 112 = .ok (.istore 8, 2) := by decide +kernel
theorem dX5_across_114 : decode cX5_across 114 = .ok (.iinc 11 1, 3) := by decide +kernel
theorem dX5_across_117 : decode cX5_across 117 = .ok (.goto (-70), 3) := by decide +kernel
theorem dX5_across_120 : decode cX5_across 120 = .ok (.iload 7, 2) := by decide +kernel
theorem dX5_across_122 : decode cX5_across 122 = .ok (.iconst (-1), 1) := by decide +kernel
theorem dX5_across_123 : decode cX5_across 123 = .ok (.if_icmp .eq 7, 3) := by decide +kernel
theorem dX5_across_126 : decode cX5_across 126 = .ok (.iload_n 2, 1) := by decide +kernel
theorem dX5_across_127 : decode cX5_across 127 = .ok (.ifCond .ne 6, 3) := by decide +kernel
theorem dX5_across_130 : decode cX5_across 130 = .ok (.lload 9, 2) := by decide +kernel
theorem dX5_across_132 : decode cX5_across 132 = .ok (.lreturn, 1) := by decide +kernel
theorem dX5_across_133 : decode cX5_across 133 = .ok (.aload_n 0, 1) := by decide +kernel
theorem dX5_across_134 : decode cX5_across 134 = .ok (.iload_n 1, 1) := by decide +kernel
theorem dX5_across_135 : decode cX5_across 135 = .ok (.iload 7, 2) := by decide +kernel
theorem dX5_across_137 : decode cX5_across 137 = .ok (.invokevirtual 181, 3) := by decide +kernel
theorem dX5_across_140 : decode cX5_across 140 = .ok (.istore 11, 2) := by decide +kernel
theorem dX5_across_142 : decode cX5_across 142 = .ok (.lload 9, 2) := by decide +kernel
theorem dX5_across_144 : decode cX5_across 144 = .ok (.aload_n 0, 1) := by decide +kernel
theorem dX5_across_145 : decode cX5_across 145 = .ok (.getfield 175, 3) := by decide +kernel
theorem dX5_across_148 : decode cX5_across 148 = .ok (.lload 5, 2) := by decide +kernel
theorem dX5_across_150 : decode cX5_across 150 = .ok (.lmul, 1) := by decide +kernel
theorem dX5_across_151 : decode cX5_across 151 = .ok (.aload_n 0, 1) := by decide +kernel
theorem dX5_across_152 : decode cX5_across 152 = .ok (.getfield 178, 3) := by decide +kernel
theorem dX5_across_155 : decode cX5_across 155 = .ok (.lload_n 3, 1) := by decide +kernel
theorem dX5_across_156 : decode cX5_across 156 = .ok (.lmul, 1) := by decide +kernel
theorem dX5_across_157 : decode cX5_across 157 = .ok (.lsub, 1) := by decide +kernel
theorem dX5_across_158 : decode cX5_across 158 = .ok (.iload 7, 2) := by decide +kernel
theorem dX5_across_160 : decode cX5_across 160 = .ok (.i2l, 1) := by decide +kernel
theorem dX5_across_161 : decode cX5_across 161 = .ok (.lmul, 1) := by decide +kernel
theorem dX5_across_162 : decode cX5_across 162 = .ok (.ladd, 1) := by decide +kernel
theorem dX5_across_163 : decode cX5_across 163 = .ok (.lstore 9, 2) := by decide +kernel
theorem dX5_across_165 : decode cX5_across 165 = .ok (.aload_n 0, 1) := by decide +kernel
theorem dX5_across_166 : decode cX5_across 166 = .ok (.iload_n 1, 1) := by decide +kernel
theorem dX5_across_167 : decode cX5_across 167 = .ok (.iload 8, 2) := by decide +kernel
theorem dX5_across_169 : decode cX5_across 169 = .ok (.invokevirtual 181, 3) := by decide +kernel
theorem dX5_across_172 : decode cX5_across 172 = .ok (.istore 11, 2) := by decide +kernel
theorem dX5_across_174 : decode cX5_across 174 = .ok (.iload 8, 2) := by decide +kernel
theorem dX5_across_176 : decode cX5_across 176 = .ok (.iconst 1, 1) := by decide +kernel
theorem dX5_across_177 : decode cX5_across 177 = .ok (.iadd, 1) := by decide +kernel
theorem dX5_across_178 : decode cX5_across 178 = .ok (.istore 12, 2) := by decide +kernel
theorem dX5_across_180 : decode cX5_across 180 = .ok (.iload 12, 2) := by decide +kernel
theorem dX5_across_182 : decode cX5_across 182 = .ok (.aload_n 0, 1) := by decide +kernel
theorem dX5_across_183 : decode cX5_across 183 = .ok (.getfield 28, 3) := by decide +kernel
theorem dX5_across_186 : decode cX5_across 186 = .ok (.if_icmp .ge 43, 3) := by decide +kernel
theorem dX5_across_189 : decode cX5_across 189 = .ok (.lload 9, 2) := by decide +kernel
theorem dX5_across_191 : decode cX5_across 191 = .ok (.iload 12, 2) := by decide +kernel
theorem dX5_across_193 : decode cX5_across 193 = .ok (.aload_n 0, 1) := by decide +kernel
theorem dX5_across_194 : decode cX5_across 194 = .ok (.getfield 41, 3) := by decide +kernel
theorem dX5_across_197 : decode cX5_across 197 = .ok (.iload_n 1, 1) := by decide +kernel
theorem dX5_across_198 : decode cX5_across 198 = .ok (.iaload, 1) := by decide +kernel
theorem dX5_across_199 : decode cX5_across 199 = .ok (.if_icmp .ge 20, 3) := by decide +kernel
theorem dX5_across_202 : decode cX5_across 202 = .ok (.aload_n 0, 1) := by decide +kernel
theorem dX5_across_203 : decode cX5_across 203 = .ok (.getfield 175, 3) := by decide +kernel
theorem dX5_across_206 : decode cX5_across 206 = .ok (.lload 5, 2) := by decide +kernel
theorem dX5_across_208 : decode cX5_across 208 = .ok (.lmul, 1) := by decide +kernel
theorem dX5_across_209 : decode cX5_across 209 = .ok (.aload_n 0, 1) := by decide +kernel
theorem dX5_across_210 : decode cX5_across 210 = .ok (.getfield 178, 3) := by decide +kernel
theorem dX5_across_213 : decode cX5_across 213 = .ok (.lload_n 3, 1) := by decide +kernel
theorem dX5_across_214 : decode cX5_across 214 = .ok (.lmul, 1) := by decide +kernel
theorem dX5_across_215 : decode cX5_across 215 = .ok (.lsub, 1) := by decide +kernel
theorem dX5_across_216 : decode cX5_across 216 = .ok (.goto 4, 3) := by decide +kernel
theorem dX5_across_219 : decode cX5_across 219 = .ok (.lconst 0, 1) := by decide +kernel
theorem dX5_across_220 : decode cX5_across 220 = .ok (.ladd, 1) := by decide +kernel
theorem dX5_across_221 : decode cX5_across 221 = .ok (.lstore 9, 2) := by decide +kernel
theorem dX5_across_223 : decode cX5_across 223 = .ok (.iinc 12 1, 3) := by decide +kernel
theorem dX5_across_226 : decode cX5_across 226 = .ok (.goto (-46), 3) := by decide +kernel
theorem dX5_across_229 : decode cX5_across 229 = .ok (.lload 9, 2) := by decide +kernel
theorem dX5_across_231 : decode cX5_across 231 = .ok (.lreturn, 1) := by decide +kernel
set_option maxRecDepth 20000 in
theorem ggX5_flow_X5_isRow : GoodIn wsX5_flow wsX5_isRow := goodIn_r _ [5, 6, 7, 8, 4, 9, 10, 11, 12, 13, 87, 88, 89, 90, 91, 92, 93, 94, 95, 96, 97, 98, 99, 100, 101, 102, 103, 104, 105, 106, 107, 108, 109, 110, 111, 112, 113, 114, 115, 116, 117] (by decide +kernel) (by decide +kernel)
set_option maxRecDepth 20000 in
theorem gX5_flow_X5_isRow : GoodIn wsX5_flow (wsV RX5 195 RX5 yX5_isRow wsX5_isRow) := goodIn_app (goodIn_of _ (by decide +kernel)) ggX5_flow_X5_isRow
set_option maxRecDepth 20000 in
theorem ggX5_flow_X5_in : GoodIn wsX5_flow wsX5_in := goodIn_r _ [13] (by decide +kernel) (by decide +kernel)
set_option maxRecDepth 20000 in
theorem gX5_flow_X5_in : GoodIn wsX5_flow (va_wsS RX5 58 yX5_in wsX5_in) := goodIn_app (goodIn_of _ (by decide +kernel)) ggX5_flow_X5_in
set_option maxRecDepth 20000 in
theorem ggX5_flow_X5_no : GoodIn wsX5_flow wsX5_no := goodIn_r _ [16, 17] (by decide +kernel) (by decide +kernel)
set_option maxRecDepth 20000 in
theorem gX5_flow_X5_no : GoodIn wsX5_flow (va_wsS RX5 157 yX5_no wsX5_no) := goodIn_app (goodIn_of _ (by decide +kernel)) ggX5_flow_X5_no
set_option maxRecDepth 20000 in
theorem ggX5_flow_X5_across : GoodIn wsX5_flow wsX5_across := goodIn_r _ [21, 22, 23, 24, 25, 26, 27, 28, 29, 30, 4, 31, 32, 33, 34, 35, 36, 37, 38, 39, 40, 41, 42, 43, 44, 45, 46, 47, 48, 10, 49, 50, 51, 52, 53, 54, 55, 56, 57, 58, 59, 60, 61, 62, 63, 64, 65, 66, 67, 68, 69, 70, 71, 72, 73, 74, 75, 76, 77, 78, 79, 80, 81, 82, 83, 84, 85, 86, 87, 88, 89, 90, 91, 92, 93, 94, 95, 96, 97, 98, 99, 100, 101, 102, 103, 104, 105, 106, 107, 108, 109, 110, 111, 112, 113, 114, 115, 116, 117] (by decide +kernel) (by decide +kernel)
set_option maxRecDepth 20000 in
theorem gX5_flow_X5_across : GoodIn wsX5_flow (wsV RX5 205 RX5 yX5_across wsX5_across) := goodIn_app (goodIn_of _ (by decide +kernel)) ggX5_flow_X5_across
theorem dX5_flow_0 : decode cX5_flow 0 = .ok (.aload_n 0, 1) := by decide +kernel
theorem dX5_flow_1 : decode cX5_flow 1 = .ok (.iload_n 1, 1) := by decide +kernel
theorem dX5_flow_2 : decode cX5_flow 2 = .ok (.iload_n 2, 1) := by decide +kernel
theorem dX5_flow_3 : decode cX5_flow 3 = .ok (.invokevirtual 195, 3) := by decide +kernel
theorem dX5_flow_6 : decode cX5_flow 6 = .ok (.ifCond .eq 18, 3) := by decide +kernel
theorem dX5_flow_9 : decode cX5_flow 9 = .ok (.iload_n 1, 1) := by decide +kernel
theorem dX5_flow_10 : decode cX5_flow 10 = .ok (.iload_n 2, 1) := by decide +kernel
theorem dX5_flow_11 : decode cX5_flow 11 = .ok (.if_icmp .eq 13, 3) := by decide +kernel
theorem dX5_flow_14 : decode cX5_flow 14 = .ok (.iload_n 3, 1) := by decide +kernel
theorem dX5_flow_15 : decode cX5_flow 15 = .ok (.i2l, 1) := by decide +kernel
theorem dX5_flow_16 : decode cX5_flow 16 = .ok (.lconst 0, 1) := by decide +kernel
theorem dX5_flow_17 : decode cX5_flow 17 = .ok (.lconst 1, 1) := by decide +kernel
theorem dX5_flow_18 : decode cX5_flow 18 = .ok (.invokestatic 58, 3) := by decide +kernel
theorem dX5_flow_21 : decode cX5_flow 21 = .ok (.ifCond .ne 9, 3) := by decide +kernel
theorem dX5_flow_24 : decode cX5_flow 24 = .ok (.bipush (-2), 2) := by decide +kernel
theorem dX5_flow_26 : decode cX5_flow 26 = .ok (.invokestatic 157, 3) := by decide +kernel
theorem dX5_flow_29 : decode cX5_flow 29 = .ok (.lreturn, 1) := by decide +kernel
theorem dX5_flow_30 : decode cX5_flow 30 = .ok (.lconst 0, 1) := by decide +kernel
theorem dX5_flow_31 : decode cX5_flow 31 = .ok (.lstore 4, 2) := by decide +kernel
theorem dX5_flow_33 : decode cX5_flow 33 = .ok (.iload_n 1, 1) := by decide +kernel
theorem dX5_flow_34 : decode cX5_flow 34 = .ok (.istore 6, 2) := by decide +kernel
theorem dX5_flow_36 : decode cX5_flow 36 = .ok (.iload 6, 2) := by decide +kernel
theorem dX5_flow_38 : decode cX5_flow 38 = .ok (.iload_n 2, 1) := by decide +kernel
theorem dX5_flow_39 : decode cX5_flow 39 = .ok (.if_icmp .ge 21, 3) := by decide +kernel
theorem dX5_flow_42 : decode cX5_flow 42 = .ok (.lload 4, 2) := by decide +kernel
theorem dX5_flow_44 : decode cX5_flow 44 = .ok (.aload_n 0, 1) := by decide +kernel
theorem dX5_flow_45 : decode cX5_flow 45 = .ok (.iload 6, 2) := by decide +kernel
theorem dX5_flow_47 : decode cX5_flow 47 = .ok (.iload_n 3, 1) := by decide +kernel
theorem dX5_flow_48 : decode cX5_flow 48 = .ok (.invokevirtual 205, 3) := by decide +kernel
theorem dX5_flow_51 : decode cX5_flow 51 = .ok (.ladd, 1) := by decide +kernel
theorem dX5_flow_52 : decode cX5_flow 52 = .ok (.lstore 4, 2) := by decide +kernel
theorem dX5_flow_54 : decode cX5_flow 54 = .ok (.iinc 6 1, 3) := by decide +kernel
theorem dX5_flow_57 : decode cX5_flow 57 = .ok (.goto (-21), 3) := by decide +kernel
theorem dX5_flow_60 : decode cX5_flow 60 = .ok (.lload 4, 2) := by decide +kernel
theorem dX5_flow_62 : decode cX5_flow 62 = .ok (.lreturn, 1) := by decide +kernel
set_option maxRecDepth 20000 in
theorem ggX5_askew_X5_isRow : GoodIn wsX5_askew wsX5_isRow := goodIn_r _ [10, 11, 12, 13, 9, 14, 15, 16, 17, 18, 86, 87, 88, 89, 90, 91, 92, 93, 94, 95, 96, 97, 98, 99, 100, 101, 102, 103, 104, 105, 106, 107, 108, 109, 110, 111, 112, 113, 114, 115, 116] (by decide +kernel) (by decide +kernel)
set_option maxRecDepth 20000 in
theorem gX5_askew_X5_isRow : GoodIn wsX5_askew (wsV RX5 195 RX5 yX5_isRow wsX5_isRow) := goodIn_app (goodIn_of _ (by decide +kernel)) ggX5_askew_X5_isRow
set_option maxRecDepth 20000 in
theorem ggX5_askew_X5_gather : GoodIn wsX5_askew wsX5_gather := goodIn_r _ [22, 2, 4, 5, 23, 24, 25, 26, 27, 9, 28, 29, 30, 31, 32, 33, 34, 35, 36, 37, 38, 39, 40, 41, 42, 43, 44, 45, 46, 15, 47, 48, 49, 50, 51, 52, 53, 54, 55, 56, 57, 58, 59, 60, 61, 62, 63, 64, 65, 66, 67, 3, 68, 69, 70, 71, 72, 73, 74, 75, 76, 77, 78, 1, 79, 80, 81, 82, 83, 84, 85, 86, 87, 88, 89, 90, 91, 92, 93, 94, 95, 96, 97, 98, 99, 100, 101, 102, 103, 104, 105, 106, 107, 108, 109, 110, 111, 112, 113, 114, 115, 116] (by decide +kernel) (by decide +kernel)
set_option maxRecDepth 20000 in
theorem gX5_askew_X5_gather : GoodIn wsX5_askew (wsV RX5 201 RX5 yX5_gather wsX5_gather) := goodIn_app (goodIn_of _ (by decide +kernel)) ggX5_askew_X5_gather
set_option maxRecDepth 20000 in
theorem ggX5_askew_X5_amount : GoodIn wsX5_askew wsX5_amount := goodIn_r _ [81] (by decide +kernel) (by decide +kernel)
set_option maxRecDepth 20000 in
theorem gX5_askew_X5_amount : GoodIn wsX5_askew (va_wsS RX5 165 yX5_amount wsX5_amount) := goodIn_app (goodIn_of _ (by decide +kernel)) ggX5_askew_X5_amount
theorem dX5_askew_0 : decode cX5_askew 0 = .ok (.aload_n 0, 1) := by decide +kernel
theorem dX5_askew_1 : decode cX5_askew 1 = .ok (.iload_n 1, 1) := by decide +kernel
theorem dX5_askew_2 : decode cX5_askew 2 = .ok (.iload_n 2, 1) := by decide +kernel
theorem dX5_askew_3 : decode cX5_askew 3 = .ok (.invokevirtual 195, 3) := by decide +kernel
theorem dX5_askew_6 : decode cX5_askew 6 = .ok (.ifCond .eq 13, 3) := by decide +kernel
theorem dX5_askew_9 : decode cX5_askew 9 = .ok (.aload_n 0, 1) := by decide +kernel
theorem dX5_askew_10 : decode cX5_askew 10 = .ok (.iload_n 3, 1) := by decide +kernel
theorem dX5_askew_11 : decode cX5_askew 11 = .ok (.iload 4, 2) := by decide +kernel
theorem dX5_askew_13 : decode cX5_askew 13 = .ok (.invokevirtual 195, 3) := by decide +kernel
theorem dX5_askew_16 : decode cX5_askew 16 = .ok (.ifCond .ne 6, 3) := by decide +kernel
theorem dX5_askew_19 : decode cX5_askew 19 = .ok (.bipush (-2), 2) := by decide +kernel
theorem dX5_askew_21 : decode cX5_askew 21 = .ok (.ireturn, 1) := by decide +kernel
theorem dX5_askew_22 : decode cX5_askew 22 = .ok (.aload_n 0, 1) := by decide +kernel
theorem dX5_askew_23 : decode cX5_askew 23 = .ok (.iload_n 1, 1) := by decide +kernel
theorem dX5_askew_24 : decode cX5_askew 24 = .ok (.iload_n 2, 1) := by decide +kernel
theorem dX5_askew_25 : decode cX5_askew 25 = .ok (.iconst 0, 1) := by decide +kernel
theorem dX5_askew_26 : decode cX5_askew 26 = .ok (.aload_n 0, 1) := by decide +kernel
theorem dX5_askew_27 : decode cX5_askew 27 = .ok (.getfield 28, 3) := by decide +kernel
theorem dX5_askew_30 : decode cX5_askew 30 = .ok (.iconst 1, 1) := by decide +kernel
end
section
theorem dX5_askew_31 : decode cX5_askew 31 = .ok (.isub, 1) := by decide +kernel
theorem dX5_askew_32 : decode cX5_askew 32 = .ok (.invokevirtual 201, 3) := by decide +kernel
theorem dX5_askew_35 : decode cX5_askew 35 = .ok (.aload_n 0, 1) := by decide +kernel
theorem dX5_askew_36 : decode cX5_askew 36 = .ok (.getfield 186, 3) := by decide +kernel
theorem dX5_askew_39 : decode cX5_askew 39 = .ok (.lstore 5, 2) := by decide +kernel
theorem dX5_askew_41 : decode cX5_askew 41 = .ok (.aload_n 0, 1) := by decide +kernel
theorem dX5_askew_42 : decode cX5_askew 42 = .ok (.iload_n 3, 1) := by decide +kernel
theorem dX5_askew_43 : decode cX5_askew 43 = .ok (.iload 4, 2) := by decide +kernel
theorem dX5_askew_45 : decode cX5_askew 45 = .ok (.iconst 0, 1) := by decide +kernel
theorem dX5_askew_46 : decode cX5_askew 46 = .ok (.aload_n 0, 1) := by decide +kernel
theorem dX5_askew_47 : decode cX5_askew 47 = .ok (.getfield 28, 3) := by decide +kernel
theorem dX5_askew_50 : decode cX5_askew 50 = .ok (.iconst 1, 1) := by decide +kernel
theorem dX5_askew_51 : decode cX5_askew 51 = .ok (.isub, 1) := by decide +kernel
theorem dX5_askew_52 : decode cX5_askew 52 = .ok (.invokevirtual 201, 3) := by decide +kernel
theorem dX5_askew_55 : decode cX5_askew 55 = .ok (.lload 5, 2) := by decide +kernel
theorem dX5_askew_57 : decode cX5_askew 57 = .ok (.lconst 0, 1) := by decide +kernel
theorem dX5_askew_58 : decode cX5_askew 58 = .ok (.lcmp, 1) := by decide +kernel
theorem dX5_askew_59 : decode cX5_askew 59 = .ok (.ifCond .eq 12, 3) := by decide +kernel
theorem dX5_askew_62 : decode cX5_askew 62 = .ok (.aload_n 0, 1) := by decide +kernel
theorem dX5_askew_63 : decode cX5_askew 63 = .ok (.getfield 186, 3) := by decide +kernel
theorem dX5_askew_66 : decode cX5_askew 66 = .ok (.lconst 0, 1) := by decide +kernel
theorem dX5_askew_67 : decode cX5_askew 67 = .ok (.lcmp, 1) := by decide +kernel
theorem dX5_askew_68 : decode cX5_askew 68 = .ok (.ifCond .ne 6, 3) := by decide +kernel
theorem dX5_askew_71 : decode cX5_askew 71 = .ok (.bipush (-3), 2) := by decide +kernel
theorem dX5_askew_73 : decode cX5_askew 73 = .ok (.ireturn, 1) := by decide +kernel
theorem dX5_askew_74 : decode cX5_askew 74 = .ok (.aload_n 0, 1) := by decide +kernel
theorem dX5_askew_75 : decode cX5_askew 75 = .ok (.getfield 133, 3) := by decide +kernel
theorem dX5_askew_78 : decode cX5_askew 78 = .ok (.istore 7, 2) := by decide +kernel
theorem dX5_askew_80 : decode cX5_askew 80 = .ok (.iconst (-1), 1) := by decide +kernel
theorem dX5_askew_81 : decode cX5_askew 81 = .ok (.istore 8, 2) := by decide +kernel
theorem dX5_askew_83 : decode cX5_askew 83 = .ok (.lconst 0, 1) := by decide +kernel
theorem dX5_askew_84 : decode cX5_askew 84 = .ok (.lstore 9, 2) := by decide +kernel
theorem dX5_askew_86 : decode cX5_askew 86 = .ok (.iconst 0, 1) := by decide +kernel
theorem dX5_askew_87 : decode cX5_askew 87 = .ok (.istore 11, 2) := by decide +kernel
theorem dX5_askew_89 : decode cX5_askew 89 = .ok (.iload 11, 2) := by decide +kernel
theorem dX5_askew_91 : decode cX5_askew 91 = .ok (.bipush 36, 2) := by decide +kernel
theorem dX5_askew_93 : decode cX5_askew 93 = .ok (.if_icmp .ge 133, 3) := by decide +kernel
theorem dX5_askew_96 : decode cX5_askew 96 = .ok (.aload_n 0, 1) := by decide +kernel
theorem dX5_askew_97 : decode cX5_askew 97 = .ok (.iload 11, 2) := by decide +kernel
theorem dX5_askew_99 : decode cX5_askew 99 = .ok (.putfield 133, 3) := by decide +kernel
theorem dX5_askew_102 : decode cX5_askew 102 = .ok (.aload_n 0, 1) := by decide +kernel
theorem dX5_askew_103 : decode cX5_askew 103 = .ok (.iload_n 1, 1) := by decide +kernel
theorem dX5_askew_104 : decode cX5_askew 104 = .ok (.iload_n 2, 1) := by decide +kernel
theorem dX5_askew_105 : decode cX5_askew 105 = .ok (.iconst 0, 1) := by decide +kernel
theorem dX5_askew_106 : decode cX5_askew 106 = .ok (.aload_n 0, 1) := by decide +kernel
theorem dX5_askew_107 : decode cX5_askew 107 = .ok (.getfield 28, 3) := by decide +kernel
theorem dX5_askew_110 : decode cX5_askew 110 = .ok (.iconst 1, 1) := by decide +kernel
theorem dX5_askew_111 : decode cX5_askew 111 = .ok (.isub, 1) := by decide +kernel
theorem dX5_askew_112 : decode cX5_askew 112 = .ok (.invokevirtual 201, 3) := by decide +kernel
theorem dX5_askew_115 : decode cX5_askew 115 = .ok (.aload_n 0, 1) := by decide +kernel
theorem dX5_askew_116 : decode cX5_askew 116 = .ok (.getfield 189, 3) := by decide +kernel
theorem dX5_askew_119 : decode cX5_askew 119 = .ok (.lstore 12, 2) := by decide +kernel
theorem dX5_askew_121 : decode cX5_askew 121 = .ok (.aload_n 0, 1) := by decide +kernel
theorem dX5_askew_122 : decode cX5_askew 122 = .ok (.getfield 192, 3) := by decide +kernel
theorem dX5_askew_125 : decode cX5_askew 125 = .ok (.lstore 14, 2) := by decide +kernel
theorem dX5_askew_127 : decode cX5_askew 127 = .ok (.aload_n 0, 1) := by decide +kernel
theorem dX5_askew_128 : decode cX5_askew 128 = .ok (.iload_n 3, 1) := by decide +kernel
theorem dX5_askew_129 : decode cX5_askew 129 = .ok (.iload 4, 2) := by decide +kernel
theorem dX5_askew_131 : decode cX5_askew 131 = .ok (.iconst 0, 1) := by decide +kernel
theorem dX5_askew_132 : decode cX5_askew 132 = .ok (.aload_n 0, 1) := by decide +kernel
theorem dX5_askew_133 : decode cX5_askew 133 = .ok (.getfield 28, 3) := by decide +kernel
theorem dX5_askew_136 : decode cX5_askew 136 = .ok (.iconst 1, 1) := by decide +kernel
theorem dX5_askew_137 : decode cX5_askew 137 = .ok (.isub, 1) := by decide +kernel
theorem dX5_askew_138 : decode cX5_askew 138 = .ok (.invokevirtual 201, 3) := by decide +kernel
theorem dX5_askew_141 : decode cX5_askew 141 = .ok (.lload 12, 2) := by decide +kernel
theorem dX5_askew_143 : decode cX5_askew 143 = .ok (.aload_n 0, 1) := by decide +kernel
theorem dX5_askew_144 : decode cX5_askew 144 = .ok (.getfield 186, 3) := by decide +kernel
theorem dX5_askew_147 : decode cX5_askew 147 = .ok (.lmul, 1) := by decide +kernel
theorem dX5_askew_148 : decode cX5_askew 148 = .ok (.aload_n 0, 1) := by decide +kernel
theorem dX5_askew_149 : decode cX5_askew 149 = .ok (.getfield 189, 3) := by decide +kernel
theorem dX5_askew_152 : decode cX5_askew 152 = .ok (.lload 5, 2) := by decide +kernel
theorem dX5_askew_154 : decode cX5_askew 154 = .ok (.lmul, 1) := by decide +kernel
theorem dX5_askew_155 : decode cX5_askew 155 = .ok (.lsub, 1) := by decide +kernel
theorem dX5_askew_156 : decode cX5_askew 156 = .ok (.invokestatic 165, 3) := by decide +kernel
theorem dX5_askew_159 : decode cX5_askew 159 = .ok (.lstore 16, 2) := by decide +kernel
theorem dX5_askew_161 : decode cX5_askew 161 = .ok (.lload 14, 2) := by decide +kernel
theorem dX5_askew_163 : decode cX5_askew 163 = .ok (.aload_n 0, 1) := by decide +kernel
theorem dX5_askew_164 : decode cX5_askew 164 = .ok (.getfield 186, 3) := by decide +kernel
theorem dX5_askew_167 : decode cX5_askew 167 = .ok (.lmul, 1) := by decide +kernel
theorem dX5_askew_168 : decode cX5_askew 168 = .ok (.aload_n 0, 1) := by decide +kernel
theorem dX5_askew_169 : decode cX5_askew 169 = .ok (.getfield 192, 3) := by decide +kernel
theorem dX5_askew_172 : decode cX5_askew 172 = .ok (.lload 5, 2) := by decide +kernel
theorem dX5_askew_174 : decode cX5_askew 174 = .ok (.lmul, 1) := by decide +kernel
theorem dX5_askew_175 : decode cX5_askew 175 = .ok (.lsub, 1) := by decide +kernel
theorem dX5_askew_176 : decode cX5_askew 176 = .ok (.invokestatic 165, 3) := by decide +kernel
theorem dX5_askew_179 : decode cX5_askew 179 = .ok (.lstore 18, 2) := by decide +kernel
theorem dX5_askew_181 : decode cX5_askew 181 = .ok (.lload 16, 2) := by decide +kernel
theorem dX5_askew_183 : decode cX5_askew 183 = .ok (.lload 18, 2) := by decide +kernel
theorem dX5_askew_185 : decode cX5_askew 185 = .ok (.lcmp, 1) := by decide +kernel
theorem dX5_askew_186 : decode cX5_askew 186 = .ok (.ifCond .le 8, 3) := by decide +kernel
theorem dX5_askew_189 : decode cX5_askew 189 = .ok (.lload 16, 2) := by decide +kernel
theorem dX5_askew_191 : decode cX5_askew 191 = .ok (.goto 5, 3) := by decide +kernel
theorem dX5_askew_194 : decode cX5_askew 194 = .ok (.lload 18, 2) := by decide +kernel
theorem dX5_askew_196 : decode cX5_askew 196 = .ok (.lstore 20, 2) := by decide +kernel
theorem dX5_askew_198 : decode cX5_askew 198 = .ok (.iload 8, 2) := by decide +kernel
theorem dX5_askew_200 : decode cX5_askew 200 = .ok (.iconst (-1), 1) := by decide +kernel
theorem dX5_askew_201 : decode cX5_askew 201 = .ok (.if_icmp .eq 11, 3) := by decide +kernel
theorem dX5_askew_204 : decode cX5_askew 204 = .ok (.lload 20, 2) := by decide +kernel
theorem dX5_askew_206 : decode cX5_askew 206 = .ok (.lload 9, 2) := by decide +kernel
theorem dX5_askew_208 : decode cX5_askew 208 = .ok (.lcmp, 1) := by decide +kernel
theorem dX5_askew_209 : decode cX5_askew 209 = .ok (.ifCond .ge 11, 3) := by decide +kernel
theorem dX5_askew_212 : decode cX5_askew 212 = .ok (.iload 11, 2) := by decide +kernel
theorem dX5_askew_214 : decode cX5_askew 214 = .ok (.istore 8, 2) := by decide +kernel
theorem dX5_askew_216 : decode cX5_askew 216 = .ok (.lload 20, 2) := by decide +kernel
theorem dX5_askew_218 : decode cX5_askew 218 = .ok (.lstore 9, 2) := by decide +kernel
theorem dX5_askew_220 : decode cX5_askew 220 = .ok (.iinc 11 1, 3) := by decide +kernel
theorem dX5_askew_223 : decode cX5_askew 223 = .ok (.goto (-134), 3) := by decide +kernel
theorem dX5_askew_226 : decode cX5_askew 226 = .ok (.aload_n 0, 1) := by decide +kernel
theorem dX5_askew_227 : decode cX5_askew 227 = .ok (.iload 7, 2) := by decide +kernel
theorem dX5_askew_229 : decode cX5_askew 229 = .ok (.putfield 133, 3) := by decide +kernel
theorem dX5_askew_232 : decode cX5_askew 232 = .ok (.iload 8, 2) := by decide +kernel
theorem dX5_askew_234 : decode cX5_askew 234 = .ok (.ireturn, 1) := by decide +kernel
set_option maxRecDepth 20000 in
theorem ggX5_closes_X5_isPing : GoodIn wsX5_closes wsX5_isPing := goodIn_r _ [9, 2, 10, 11, 8, 12, 16, 17, 18, 19, 20, 21, 22, 23, 24, 25, 26, 27, 28, 29, 30, 31, 32, 33, 34, 35, 36, 37, 38, 39, 40, 41, 42, 43, 44, 45, 46] (by decide +kernel) (by decide +kernel)
set_option maxRecDepth 20000 in
theorem gX5_closes_X5_isPing : GoodIn wsX5_closes (wsV RX5 91 RX5 yX5_isPing wsX5_isPing) := goodIn_app (goodIn_of _ (by decide +kernel)) ggX5_closes_X5_isPing
set_option maxRecDepth 20000 in
theorem ggX5_closes_X5_in : GoodIn wsX5_closes wsX5_in := goodIn_r _ [12] (by decide +kernel) (by decide +kernel)
set_option maxRecDepth 20000 in
theorem gX5_closes_X5_in : GoodIn wsX5_closes (va_wsS RX5 58 yX5_in wsX5_in) := goodIn_app (goodIn_of _ (by decide +kernel)) ggX5_closes_X5_in
set_option maxRecDepth 20000 in
theorem ggX5_closes_X5_amount : GoodIn wsX5_closes wsX5_amount := goodIn_r _ [15] (by decide +kernel) (by decide +kernel)
set_option maxRecDepth 20000 in
theorem gX5_closes_X5_amount : GoodIn wsX5_closes (va_wsS RX5 165 yX5_amount wsX5_amount) := goodIn_app (goodIn_of _ (by decide +kernel)) ggX5_closes_X5_amount
theorem dX5_closes_0 : decode cX5_closes 0 = .ok (.aload_n 0, 1) := by decide +kernel
theorem dX5_closes_1 : decode cX5_closes 1 = .ok (.iload_n 1, 1) := by decide +kernel
theorem dX5_closes_2 : decode cX5_closes 2 = .ok (.invokevirtual 91, 3) := by decide +kernel
theorem dX5_closes_5 : decode cX5_closes 5 = .ok (.ifCond .eq 15, 3) := by decide +kernel
theorem dX5_closes_8 : decode cX5_closes 8 = .ok (.iload_n 2, 1) := by decide +kernel
theorem dX5_closes_9 : decode cX5_closes 9 = .ok (.i2l, 1) := by decide +kernel
theorem dX5_closes_10 : decode cX5_closes 10 = .ok (.lconst 0, 1) := by decide +kernel
theorem dX5_closes_11 : decode cX5_closes 11 = .ok (.ldc2_w 89, 3) := by decide +kernel
theorem dX5_closes_14 : decode cX5_closes 14 = .ok (.invokestatic 58, 3) := by decide +kernel
theorem dX5_closes_17 : decode cX5_closes 17 = .ok (.ifCond .ne 6, 3) := by decide +kernel
theorem dX5_closes_20 : decode cX5_closes 20 = .ok (.bipush (-2), 2) := by decide +kernel
theorem dX5_closes_22 : decode cX5_closes 22 = .ok (.ireturn, 1) := by decide +kernel
theorem dX5_closes_23 : decode cX5_closes 23 = .ok (.iload_n 1, 1) := by decide +kernel
theorem dX5_closes_24 : decode cX5_closes 24 = .ok (.iconst 2, 1) := by decide +kernel
theorem dX5_closes_25 : decode cX5_closes 25 = .ok (.iadd, 1) := by decide +kernel
theorem dX5_closes_26 : decode cX5_closes 26 = .ok (.istore_n 3, 1) := by decide +kernel
theorem dX5_closes_27 : decode cX5_closes 27 = .ok (.iload_n 3, 1) := by decide +kernel
theorem dX5_closes_28 : decode cX5_closes 28 = .ok (.aload_n 0, 1) := by decide +kernel
theorem dX5_closes_29 : decode cX5_closes 29 = .ok (.getfield 82, 3) := by decide +kernel
theorem dX5_closes_32 : decode cX5_closes 32 = .ok (.if_icmp .ge 57, 3) := by decide +kernel
theorem dX5_closes_35 : decode cX5_closes 35 = .ok (.aload_n 0, 1) := by decide +kernel
theorem dX5_closes_36 : decode cX5_closes 36 = .ok (.getfield 35, 3) := by decide +kernel
theorem dX5_closes_39 : decode cX5_closes 39 = .ok (.iload_n 3, 1) := by decide +kernel
theorem dX5_closes_40 : decode cX5_closes 40 = .ok (.iaload, 1) := by decide +kernel
theorem dX5_closes_41 : decode cX5_closes 41 = .ok (.aload_n 0, 1) := by decide +kernel
theorem dX5_closes_42 : decode cX5_closes 42 = .ok (.getfield 35, 3) := by decide +kernel
theorem dX5_closes_45 : decode cX5_closes 45 = .ok (.iload_n 1, 1) := by decide +kernel
theorem dX5_closes_46 : decode cX5_closes 46 = .ok (.iaload, 1) := by decide +kernel
theorem dX5_closes_47 : decode cX5_closes 47 = .ok (.isub, 1) := by decide +kernel
theorem dX5_closes_48 : decode cX5_closes 48 = .ok (.i2l, 1) := by decide +kernel
theorem dX5_closes_49 : decode cX5_closes 49 = .ok (.invokestatic 165, 3) := by decide +kernel
theorem dX5_closes_52 : decode cX5_closes 52 = .ok (.iload_n 2, 1) := by decide +kernel
theorem dX5_closes_53 : decode cX5_closes 53 = .ok (.i2l, 1) := by decide +kernel
theorem dX5_closes_54 : decode cX5_closes 54 = .ok (.lcmp, 1) := by decide +kernel
theorem dX5_closes_55 : decode cX5_closes 55 = .ok (.ifCond .gt 28, 3) := by decide +kernel
theorem dX5_closes_58 : decode cX5_closes 58 = .ok (.aload_n 0, 1) := by decide +kernel
theorem dX5_closes_59 : decode cX5_closes 59 = .ok (.getfield 38, 3) := by decide +kernel
theorem dX5_closes_62 : decode cX5_closes 62 = .ok (.iload_n 3, 1) := by decide +kernel
theorem dX5_closes_63 : decode cX5_closes 63 = .ok (.iaload, 1) := by decide +kernel
theorem dX5_closes_64 : decode cX5_closes 64 = .ok (.aload_n 0, 1) := by decide +kernel
theorem dX5_closes_65 : decode cX5_closes 65 = .ok (.getfield 38, 3) := by decide +kernel
theorem dX5_closes_68 : decode cX5_closes 68 = .ok (.iload_n 1, 1) := by decide +kernel
theorem dX5_closes_69 : decode cX5_closes 69 = .ok (.iaload, 1) := by decide +kernel
theorem dX5_closes_70 : decode cX5_closes 70 = .ok (.isub, 1) := by decide +kernel
theorem dX5_closes_71 : decode cX5_closes 71 = .ok (.i2l, 1) := by decide +kernel
theorem dX5_closes_72 : decode cX5_closes 72 = .ok (.invokestatic 165, 3) := by decide +kernel
theorem dX5_closes_75 : decode cX5_closes 75 = .ok (.iload_n 2, 1) := by decide +kernel
theorem dX5_closes_76 : decode cX5_closes 76 = .ok (.i2l, 1) := by decide +kernel
theorem dX5_closes_77 : decode cX5_closes 77 = .ok (.lcmp, 1) := by decide +kernel
theorem dX5_closes_78 : decode cX5_closes 78 = .ok (.ifCond .gt 5, 3) := by decide +kernel
theorem dX5_closes_81 : decode cX5_closes 81 = .ok (.iload_n 3, 1) := by decide +kernel
theorem dX5_closes_82 : decode cX5_closes 82 = .ok (.ireturn, 1) := by decide +kernel
theorem dX5_closes_83 : decode cX5_closes 83 = .ok (.iinc 3 1, 3) := by decide +kernel
theorem dX5_closes_86 : decode cX5_closes 86 = .ok (.goto (-59), 3) := by decide +kernel
theorem dX5_closes_89 : decode cX5_closes 89 = .ok (.iconst (-1), 1) := by decide +kernel
theorem dX5_closes_90 : decode cX5_closes 90 = .ok (.ireturn, 1) := by decide +kernel
theorem dX5_count_0 : decode cX5_count 0 = .ok (.iload_n 1, 1) := by decide +kernel
theorem dX5_count_1 : decode cX5_count 1 = .ok (.tableswitch 95 0 7 #[47, 52, 57, 62, 67, 72, 77, 82], 47) := by decide +kernel
theorem dX5_count_48 : decode cX5_count 48 = .ok (.aload_n 0, 1) := by decide +kernel
theorem dX5_count_49 : decode cX5_count 49 = .ok (.getfield 82, 3) := by decide +kernel
theorem dX5_count_52 : decode cX5_count 52 = .ok (.ireturn, 1) := by decide +kernel
theorem dX5_count_53 : decode cX5_count 53 = .ok (.aload_n 0, 1) := by decide +kernel
theorem dX5_count_54 : decode cX5_count 54 = .ok (.getfield 28, 3) := by decide +kernel
theorem dX5_count_57 : decode cX5_count 57 = .ok (.ireturn, 1) := by decide +kernel
theorem dX5_count_58 : decode cX5_count 58 = .ok (.aload_n 0, 1) := by decide +kernel
theorem dX5_count_59 : decode cX5_count 59 = .ok (.getfield 130, 3) := by decide +kernel
theorem dX5_count_62 : decode cX5_count 62 = .ok (.ireturn, 1) := by decide +kernel
theorem dX5_count_63 : decode cX5_count 63 = .ok (.aload_n 0, 1) := by decide +kernel
theorem dX5_count_64 : decode cX5_count 64 = .ok (.getfield 133, 3) := by decide +kernel
theorem dX5_count_67 : decode cX5_count 67 = .ok (.ireturn, 1) := by decide +kernel
theorem dX5_count_68 : decode cX5_count 68 = .ok (.aload_n 0, 1) := by decide +kernel
theorem dX5_count_69 : decode cX5_count 69 = .ok (.getfield 138, 3) := by decide +kernel
theorem dX5_count_72 : decode cX5_count 72 = .ok (.ireturn, 1) := by decide +kernel
theorem dX5_count_73 : decode cX5_count 73 = .ok (.aload_n 0, 1) := by decide +kernel
theorem dX5_count_74 : decode cX5_count 74 = .ok (.getfield 53, 3) := by decide +kernel
theorem dX5_count_77 : decode cX5_count 77 = .ok (.ireturn, 1) := by decide +kernel
theorem dX5_count_78 : decode cX5_count 78 = .ok (.aload_n 0, 1) := by decide +kernel
theorem dX5_count_79 : decode cX5_count 79 = .ok (.getfield 48, 3) := by decide +kernel
theorem dX5_count_82 : decode cX5_count 82 = .ok (.ireturn, 1) := by decide +kernel
theorem dX5_count_83 : decode cX5_count 83 = .ok (.aload_n 0, 1) := by decide +kernel
theorem dX5_count_84 : decode cX5_count 84 = .ok (.getfield 44, 3) := by decide +kernel
theorem dX5_count_87 : decode cX5_count 87 = .ok (.ifCond .eq 7, 3) := by decide +kernel
theorem dX5_count_90 : decode cX5_count 90 = .ok (.iconst 1, 1) := by decide +kernel
theorem dX5_count_91 : decode cX5_count 91 = .ok (.goto 4, 3) := by decide +kernel
theorem dX5_count_94 : decode cX5_count 94 = .ok (.iconst 0, 1) := by decide +kernel
theorem dX5_count_95 : decode cX5_count 95 = .ok (.ireturn, 1) := by decide +kernel
theorem dX5_count_96 : decode cX5_count 96 = .ok (.bipush (-2), 2) := by decide +kernel
theorem dX5_count_98 : decode cX5_count 98 = .ok (.ireturn, 1) := by decide +kernel
set_option maxRecDepth 20000 in
theorem ggX5_digest_X5_count : GoodIn wsX5_digest wsX5_count := goodIn_r _ [11, 3, 4, 12, 13, 14, 15, 16, 17, 87, 88, 89, 90, 91, 92, 93, 94, 95, 96, 97, 98, 99, 100, 101, 102, 103, 104, 105, 106, 107, 108, 109, 110, 111, 112, 113, 114, 115, 116, 117] (by decide +kernel) (by decide +kernel)
set_option maxRecDepth 20000 in
theorem gX5_digest_X5_count : GoodIn wsX5_digest (wsV RX5 212 RX5 yX5_count wsX5_count) := goodIn_app (goodIn_of _ (by decide +kernel)) ggX5_digest_X5_count
set_option maxRecDepth 20000 in
theorem ggX5_digest_X5_about : GoodIn wsX5_digest wsX5_about := goodIn_r _ [21, 22, 23, 24, 25, 26, 27, 28, 29, 10, 30, 3, 31, 32, 33, 34, 35, 36, 37, 38, 39, 12, 40, 41, 42, 43, 44, 45, 46, 47, 48, 49, 50, 51, 52, 53, 54, 55, 56, 57, 58, 59, 60, 61, 62, 63, 64, 13, 65, 66, 67, 68, 69, 70, 87, 88, 89, 90, 91, 92, 93, 94, 95, 96, 97, 98, 99, 100, 101, 102, 103, 104, 105, 106, 107, 108, 109, 110, 111, 112, 113, 114, 115, 116, 117] (by decide +kernel) (by decide +kernel)
set_option maxRecDepth 20000 in
theorem gX5_digest_X5_about : GoodIn wsX5_digest (wsV RX5 215 RX5 yX5_about wsX5_about) := goodIn_app (goodIn_of _ (by decide +kernel)) ggX5_digest_X5_about
set_option maxRecDepth 20000 in
theorem ggX5_digest_X5_fateOf : GoodIn wsX5_digest wsX5_fateOf := goodIn_r _ [74, 14, 26, 57, 17, 60, 16, 58, 75, 59, 34, 35, 36, 10, 37, 38, 39, 12, 40, 41, 3, 42, 24, 25, 43, 44, 45, 46, 47, 48, 49, 50, 51, 52, 53, 54, 55, 56, 61, 62, 63, 64, 13, 23, 65, 66, 67, 68, 69, 70, 76, 77, 78, 79, 4, 80, 81, 82, 87, 88, 89, 90, 91, 92, 93, 94, 95, 96, 97, 98, 99, 100, 101, 102, 103, 104, 105, 106, 107, 108, 109, 110, 111, 112, 113, 114, 115, 116, 117] (by decide +kernel) (by decide +kernel)
set_option maxRecDepth 20000 in
theorem gX5_digest_X5_fateOf : GoodIn wsX5_digest (wsV RX5 172 RX5 yX5_fateOf wsX5_fateOf) := goodIn_app (goodIn_of _ (by decide +kernel)) ggX5_digest_X5_fateOf
set_option maxRecDepth 20000 in
theorem ggX5_digest_X5_findPace : GoodIn wsX5_digest wsX5_findPace := goodIn_r _ [86, 40, 38, 5, 41, 39, 6, 34, 35, 36, 10, 37, 12, 3, 42, 24, 25, 43, 44, 45, 46, 47, 48, 49, 50, 51, 52, 53, 54, 55, 56, 57, 58, 59, 60, 61, 62, 63, 64, 13, 23, 65, 66, 67, 68, 69, 70, 76, 77, 78, 79, 4, 87, 88, 89, 90, 91, 92, 93, 94, 95, 96, 97, 98, 99, 100, 101, 102, 103, 104, 105, 106, 107, 108, 109, 110, 111, 112, 113, 114, 115, 116, 117] (by decide +kernel) (by decide +kernel)
set_option maxRecDepth 20000 in
theorem gX5_digest_X5_findPace : GoodIn wsX5_digest (wsV RX5 181 RX5 yX5_findPace wsX5_findPace) := goodIn_app (goodIn_of _ (by decide +kernel)) ggX5_digest_X5_findPace
theorem dX5_digest_0 : decode cX5_digest 0 = .ok (.ldc2_w 208, 3) := by decide +kernel
theorem dX5_digest_3 : decode cX5_digest 3 = .ok (.lstore_n 1, 1) := by decide +kernel
theorem dX5_digest_4 : decode cX5_digest 4 = .ok (.iconst 0, 1) := by decide +kernel
theorem dX5_digest_5 : decode cX5_digest 5 = .ok (.istore_n 3, 1) := by decide +kernel
theorem dX5_digest_6 : decode cX5_digest 6 = .ok (.iload_n 3, 1) := by decide +kernel
theorem dX5_digest_7 : decode cX5_digest 7 = .ok (.bipush 8, 2) := by decide +kernel
theorem dX5_digest_9 : decode cX5_digest 9 = .ok (.if_icmp .ge 31, 3) := by decide +kernel
theorem dX5_digest_12 : decode cX5_digest 12 = .ok (.iload_n 3, 1) := by decide +kernel
theorem dX5_digest_13 : decode cX5_digest 13 = .ok (.iconst 5, 1) := by decide +kernel
theorem dX5_digest_14 : decode cX5_digest 14 = .ok (.if_icmp .ne 7, 3) := by decide +kernel
theorem dX5_digest_17 : decode cX5_digest 17 = .ok (.lload_n 1, 1) := by decide +kernel
theorem dX5_digest_18 : decode cX5_digest 18 = .ok (.goto 15, 3) := by decide +kernel
theorem dX5_digest_21 : decode cX5_digest 21 = .ok (.ldc2_w 210, 3) := by decide +kernel
theorem dX5_digest_24 : decode cX5_digest 24 = .ok (.lload_n 1, 1) := by decide +kernel
theorem dX5_digest_25 : decode cX5_digest 25 = .ok (.lmul, 1) := by decide +kernel
theorem dX5_digest_26 : decode cX5_digest 26 = .ok (.aload_n 0, 1) := by decide +kernel
theorem dX5_digest_27 : decode cX5_digest 27 = .ok (.iload_n 3, 1) := by decide +kernel
theorem dX5_digest_28 : decode cX5_digest 28 = .ok (.invokevirtual 212, 3) := by decide +kernel
theorem dX5_digest_31 : decode cX5_digest 31 = .ok (.i2l, 1) := by decide +kernel
theorem dX5_digest_32 : decode cX5_digest 32 = .ok (.ladd, 1) := by decide +kernel
theorem dX5_digest_33 : decode cX5_digest 33 = .ok (.lstore_n 1, 1) := by decide +kernel
theorem dX5_digest_34 : decode cX5_digest 34 = .ok (.iinc 3 1, 3) := by decide +kernel
theorem dX5_digest_37 : decode cX5_digest 37 = .ok (.goto (-31), 3) := by decide +kernel
theorem dX5_digest_40 : decode cX5_digest 40 = .ok (.iconst 0, 1) := by decide +kernel
theorem dX5_digest_41 : decode cX5_digest 41 = .ok (.istore_n 3, 1) := by decide +kernel
theorem dX5_digest_42 : decode cX5_digest 42 = .ok (.iload_n 3, 1) := by decide +kernel
theorem dX5_digest_43 : decode cX5_digest 43 = .ok (.aload_n 0, 1) := by decide +kernel
theorem dX5_digest_44 : decode cX5_digest 44 = .ok (.getfield 82, 3) := by decide +kernel
theorem dX5_digest_47 : decode cX5_digest 47 = .ok (.if_icmp .ge 113, 3) := by decide +kernel
theorem dX5_digest_50 : decode cX5_digest 50 = .ok (.iconst 0, 1) := by decide +kernel
theorem dX5_digest_51 : decode cX5_digest 51 = .ok (.istore 4, 2) := by decide +kernel
theorem dX5_digest_53 : decode cX5_digest 53 = .ok (.iload 4, 2) := by decide +kernel
theorem dX5_digest_55 : decode cX5_digest 55 = .ok (.iconst 5, 1) := by decide +kernel
theorem dX5_digest_56 : decode cX5_digest 56 = .ok (.if_icmp .ge 24, 3) := by decide +kernel
theorem dX5_digest_59 : decode cX5_digest 59 = .ok (.ldc2_w 210, 3) := by decide +kernel
theorem dX5_digest_62 : decode cX5_digest 62 = .ok (.lload_n 1, 1) := by decide +kernel
theorem dX5_digest_63 : decode cX5_digest 63 = .ok (.lmul, 1) := by decide +kernel
theorem dX5_digest_64 : decode cX5_digest 64 = .ok (.aload_n 0, 1) := by decide +kernel
theorem dX5_digest_65 : decode cX5_digest 65 = .ok (.iload_n 3, 1) := by decide +kernel
theorem dX5_digest_66 : decode cX5_digest 66 = .ok (.iload 4, 2) := by decide +kernel
theorem dX5_digest_68 : decode cX5_digest 68 = .ok (.invokevirtual 215, 3) := by decide +kernel
theorem dX5_digest_71 : decode cX5_digest 71 = .ok (.i2l, 1) := by decide +kernel
theorem dX5_digest_72 : decode cX5_digest 72 = .ok (.ladd, 1) := by decide +kernel
theorem dX5_digest_73 : decode cX5_digest 73 = .ok (.lstore_n 1, 1) := by decide +kernel
theorem dX5_digest_74 : decode cX5_digest 74 = .ok (.iinc 4 1, 3) := by decide +kernel
theorem dX5_digest_77 : decode cX5_digest 77 = .ok (.goto (-24), 3) := by decide +kernel
theorem dX5_digest_80 : decode cX5_digest 80 = .ok (.iconst 0, 1) := by decide +kernel
theorem dX5_digest_81 : decode cX5_digest 81 = .ok (.istore 4, 2) := by decide +kernel
theorem dX5_digest_83 : decode cX5_digest 83 = .ok (.iload 4, 2) := by decide +kernel
theorem dX5_digest_85 : decode cX5_digest 85 = .ok (.aload_n 0, 1) := by decide +kernel
theorem dX5_digest_86 : decode cX5_digest 86 = .ok (.getfield 28, 3) := by decide +kernel
theorem dX5_digest_89 : decode cX5_digest 89 = .ok (.if_icmp .ge 65, 3) := by decide +kernel
theorem dX5_digest_92 : decode cX5_digest 92 = .ok (.aload_n 0, 1) := by decide +kernel
theorem dX5_digest_93 : decode cX5_digest 93 = .ok (.iload_n 3, 1) := by decide +kernel
theorem dX5_digest_94 : decode cX5_digest 94 = .ok (.iload 4, 2) := by decide +kernel
theorem dX5_digest_96 : decode cX5_digest 96 = .ok (.invokevirtual 172, 3) := by decide +kernel
theorem dX5_digest_99 : decode cX5_digest 99 = .ok (.istore 5, 2) := by decide +kernel
theorem dX5_digest_101 : decode cX5_digest 101 = .ok (.ldc2_w 210, 3) := by decide +kernel
theorem dX5_digest_104 : decode cX5_digest 104 = .ok (.lload_n 1, 1) := by decide +kernel
theorem dX5_digest_105 : decode cX5_digest 105 = .ok (.lmul, 1) := by decide +kernel
theorem dX5_digest_106 : decode cX5_digest 106 = .ok (.iload 5, 2) := by decide +kernel
theorem dX5_digest_108 : decode cX5_digest 108 = .ok (.i2l, 1) := by decide +kernel
theorem dX5_digest_109 : decode cX5_digest 109 = .ok (.ladd, 1) := by decide +kernel
theorem dX5_digest_110 : decode cX5_digest 110 = .ok (.lstore_n 1, 1) := by decide +kernel
theorem dX5_digest_111 : decode cX5_digest 111 = .ok (.iload 5, 2) := by decide +kernel
theorem dX5_digest_113 : decode cX5_digest 113 = .ok (.ifCond .ne 35, 3) := by decide +kernel
theorem dX5_digest_116 : decode cX5_digest 116 = .ok (.aload_n 0, 1) := by decide +kernel
theorem dX5_digest_117 : decode cX5_digest 117 = .ok (.iload_n 3, 1) := by decide +kernel
theorem dX5_digest_118 : decode cX5_digest 118 = .ok (.iload 4, 2) := by decide +kernel
theorem dX5_digest_120 : decode cX5_digest 120 = .ok (.invokevirtual 181, 3) := by decide +kernel
theorem dX5_digest_123 : decode cX5_digest 123 = .ok (.ifCond .eq 25, 3) := by decide +kernel
theorem dX5_digest_126 : decode cX5_digest 126 = .ok (.ldc2_w 210, 3) := by decide +kernel
theorem dX5_digest_129 : decode cX5_digest 129 = .ok (.lload_n 1, 1) := by decide +kernel
theorem dX5_digest_130 : decode cX5_digest 130 = .ok (.lmul, 1) := by decide +kernel
theorem dX5_digest_131 : decode cX5_digest 131 = .ok (.aload_n 0, 1) := by decide +kernel
theorem dX5_digest_132 : decode cX5_digest 132 = .ok (.getfield 175, 3) := by decide +kernel
theorem dX5_digest_135 : decode cX5_digest 135 = .ok (.ladd, 1) := by decide +kernel
theorem dX5_digest_136 : decode cX5_digest 136 = .ok (.lstore_n 1, 1) := by decide +kernel
theorem dX5_digest_137 : decode cX5_digest 137 = .ok (.ldc2_w 210, 3) := by decide +kernel
theorem dX5_digest_140 : decode cX5_digest 140 = .ok (.lload_n 1, 1) := by decide +kernel
theorem dX5_digest_141 : decode cX5_digest 141 = .ok (.lmul, 1) := by decide +kernel
theorem dX5_digest_142 : decode cX5_digest 142 = .ok (.aload_n 0, 1) := by decide +kernel
theorem dX5_digest_143 : decode cX5_digest 143 = .ok (.getfield 178, 3) := by decide +kernel
theorem dX5_digest_146 : decode cX5_digest 146 = .ok (.ladd, 1) := by decide +kernel
theorem dX5_digest_147 : decode cX5_digest 147 = .ok (.lstore_n 1, 1) := by decide +kernel
theorem dX5_digest_148 : decode cX5_digest 148 = .ok (.iinc 4 1, 3) := by decide +kernel
theorem dX5_digest_151 : decode cX5_digest 151 = .ok (.goto (-68), 3) := by decide +kernel
theorem dX5_digest_154 : decode cX5_digest 154 = .ok (.iinc 3 1, 3) := by decide +kernel
theorem dX5_digest_157 : decode cX5_digest 157 = .ok (.goto (-115), 3) := by decide +kernel
theorem dX5_digest_160 : decode cX5_digest 160 = .ok (.lload_n 1, 1) := by decide +kernel
theorem dX5_digest_161 : decode cX5_digest 161 = .ok (.lreturn, 1) := by decide +kernel
theorem dJ9_floorDiv_f86c9_0 : decode cJ9_floorDiv_f86c9 0 = .ok (.lload_n 0, 1) := by decide +kernel
theorem dJ9_floorDiv_f86c9_1 : decode cJ9_floorDiv_f86c9 1 = .ok (.lload_n 2, 1) := by decide +kernel
theorem dJ9_floorDiv_f86c9_2 : decode cJ9_floorDiv_f86c9 2 = .ok (.ldiv, 1) := by decide +kernel
theorem dJ9_floorDiv_f86c9_3 : decode cJ9_floorDiv_f86c9 3 = .ok (.lstore 4, 2) := by decide +kernel
theorem dJ9_floorDiv_f86c9_5 : decode cJ9_floorDiv_f86c9 5 = .ok (.lload_n 0, 1) := by decide +kernel
theorem dJ9_floorDiv_f86c9_6 : decode cJ9_floorDiv_f86c9 6 = .ok (.lload_n 2, 1) := by decide +kernel
theorem dJ9_floorDiv_f86c9_7 : decode cJ9_floorDiv_f86c9 7 = .ok (.lxor, 1) := by decide +kernel
theorem dJ9_floorDiv_f86c9_8 : decode cJ9_floorDiv_f86c9 8 = .ok (.lconst 0, 1) := by decide +kernel
theorem dJ9_floorDiv_f86c9_9 : decode cJ9_floorDiv_f86c9 9 = .ok (.lcmp, 1) := by decide +kernel
theorem dJ9_floorDiv_f86c9_10 : decode cJ9_floorDiv_f86c9 10 = .ok (.ifCond .ge 17, 3) := by decide +kernel
theorem dJ9_floorDiv_f86c9_13 : decode cJ9_floorDiv_f86c9 13 = .ok (.lload 4, 2) := by decide +kernel
theorem dJ9_floorDiv_f86c9_15 : decode cJ9_floorDiv_f86c9 15 = .ok (.lload_n 2, 1) := by decide +kernel
theorem dJ9_floorDiv_f86c9_16 : decode cJ9_floorDiv_f86c9 16 = .ok (.lmul, 1) := by decide +kernel
theorem dJ9_floorDiv_f86c9_17 : decode cJ9_floorDiv_f86c9 17 = .ok (.lload_n 0, 1) := by decide +kernel
theorem dJ9_floorDiv_f86c9_18 : decode cJ9_floorDiv_f86c9 18 = .ok (.lcmp, 1) := by decide +kernel
theorem dJ9_floorDiv_f86c9_19 : decode cJ9_floorDiv_f86c9 19 = .ok (.ifCond .eq 8, 3) := by decide +kernel
theorem dJ9_floorDiv_f86c9_22 : decode cJ9_floorDiv_f86c9 22 = .ok (.lload 4, 2) := by decide +kernel
theorem dJ9_floorDiv_f86c9_24 : decode cJ9_floorDiv_f86c9 24 = .ok (.lconst 1, 1) := by decide +kernel
theorem dJ9_floorDiv_f86c9_25 : decode cJ9_floorDiv_f86c9 25 = .ok (.lsub, 1) := by decide +kernel
theorem dJ9_floorDiv_f86c9_26 : decode cJ9_floorDiv_f86c9 26 = .ok (.lreturn, 1) := by decide +kernel
theorem dJ9_floorDiv_f86c9_27 : decode cJ9_floorDiv_f86c9 27 = .ok (.lload 4, 2) := by decide +kernel
theorem dJ9_floorDiv_f86c9_29 : decode cJ9_floorDiv_f86c9 29 = .ok (.lreturn, 1) := by decide +kernel
theorem dJ9_abs_0f7a4_0 : decode cJ9_abs_0f7a4 0 = .ok (.iload_n 0, 1) := by decide +kernel
theorem dJ9_abs_0f7a4_1 : decode cJ9_abs_0f7a4 1 = .ok (.ifCond .ge 8, 3) := by decide +kernel
theorem dJ9_abs_0f7a4_4 : decode cJ9_abs_0f7a4 4 = .ok (.iload_n 0, 1) := by decide +kernel
theorem dJ9_abs_0f7a4_5 : decode cJ9_abs_0f7a4 5 = .ok (.ineg, 1) := by decide +kernel
theorem dJ9_abs_0f7a4_6 : decode cJ9_abs_0f7a4 6 = .ok (.goto 4, 3) := by decide +kernel
theorem dJ9_abs_0f7a4_9 : decode cJ9_abs_0f7a4 9 = .ok (.iload_n 0, 1) := by decide +kernel
theorem dJ9_abs_0f7a4_10 : decode cJ9_abs_0f7a4 10 = .ok (.ireturn, 1) := by decide +kernel
theorem dJ9_min_7cf53_0 : decode cJ9_min_7cf53 0 = .ok (.iload_n 0, 1) := by decide +kernel
theorem dJ9_min_7cf53_1 : decode cJ9_min_7cf53 1 = .ok (.iload_n 1, 1) := by decide +kernel
theorem dJ9_min_7cf53_2 : decode cJ9_min_7cf53 2 = .ok (.if_icmp .gt 7, 3) := by decide +kernel
theorem dJ9_min_7cf53_5 : decode cJ9_min_7cf53 5 = .ok (.iload_n 0, 1) := by decide +kernel
theorem dJ9_min_7cf53_6 : decode cJ9_min_7cf53 6 = .ok (.goto 4, 3) := by decide +kernel
theorem dJ9_min_7cf53_9 : decode cJ9_min_7cf53 9 = .ok (.iload_n 1, 1) := by decide +kernel
theorem dJ9_min_7cf53_10 : decode cJ9_min_7cf53 10 = .ok (.ireturn, 1) := by decide +kernel
theorem dJ9_min_f86c9_0 : decode cJ9_min_f86c9 0 = .ok (.lload_n 0, 1) := by decide +kernel
theorem dJ9_min_f86c9_1 : decode cJ9_min_f86c9 1 = .ok (.lload_n 2, 1) := by decide +kernel
theorem dJ9_min_f86c9_2 : decode cJ9_min_f86c9 2 = .ok (.lcmp, 1) := by decide +kernel
theorem dJ9_min_f86c9_3 : decode cJ9_min_f86c9 3 = .ok (.ifCond .gt 7, 3) := by decide +kernel
theorem dJ9_min_f86c9_6 : decode cJ9_min_f86c9 6 = .ok (.lload_n 0, 1) := by decide +kernel
theorem dJ9_min_f86c9_7 : decode cJ9_min_f86c9 7 = .ok (.goto 4, 3) := by decide +kernel
theorem dJ9_min_f86c9_10 : decode cJ9_min_f86c9 10 = .ok (.lload_n 2, 1) := by decide +kernel
theorem dJ9_min_f86c9_11 : decode cJ9_min_f86c9 11 = .ok (.lreturn, 1) := by decide +kernel
end
section
abbrev vwCl : List vw_C := [(RX0, TX0, 5), (RX1, TX1, 4), (RX2, TX2, 3), (RX3, TX3, 5), (RX4, TX4, 14), (RX5, TX5, 31)]
/-! the words of the state, and the rows that every walk uses -/
def bI (P : Prop) [Decidable P] : Int32 := if P then 1 else 0
theorem bI_t {P : Prop} [Decidable P] (h : P) : bI P = 1 := if_pos h
theorem bI_f {P : Prop} [Decidable P] (h : ¬ P) : bI P = 0 := if_neg h
theorem bI_0 {P : Prop} [Decidable P] : bI P = 0 ↔ ¬ P := by
  unfold bI
  by_cases h : P
  · rw [if_pos h]; exact ⟨fun q => absurd q (by decide), fun q => absurd h q⟩
  · rw [if_neg h]; exact ⟨fun _ => h, fun _ => rfl⟩
theorem bI_n0 {P : Prop} [Decidable P] : ¬ bI P = 0 ↔ P := by
  rw [bI_0]; exact Decidable.not_not
theorem bI_bI {P : Prop} [Decidable P] : bI (¬ bI P = 0) = bI P := by
  by_cases h : P
  · rw [bI_t h]; rfl
  · rw [bI_f h]; rfl
theorem bI_iff {P Q : Prop} [Decidable P] [Decidable Q] (h : P ↔ Q) : bI P = bI Q := by
  unfold bI
  by_cases q : P
  · rw [if_pos q, if_pos (h.mp q)]
  · rw [if_neg q, if_neg (fun z => q (h.mpr z))]
theorem bI_nar {P : Prop} [Decidable P] : narrow .boolean (.int (bI P)) = .int (bI P) := by
  unfold bI
  by_cases h : P
  · rw [if_pos h]; rfl
  · rw [if_neg h]; rfl
theorem bI_fit {P : Prop} [Decidable P] : fits .boolean (.int (bI P)) = true := by
  unfold bI
  by_cases h : P
  · rw [if_pos h]; rfl
  · rw [if_neg h]; rfl
def up2 {α : Type} (f : Nat → Nat → α) (a b : Nat) (v : α) : Nat → Nat → α := fun x y => if x = a then (if y = b then v else f x y) else f x y
def ct (j : Nat) : Int32 := ([65, 63, 60, 56, 52, 39, 33, 25, 16, 0, -16, -25, -33, -39, -52, -56, -60, -63, -65, -63, -60, -56, -52, -39, -33, -25, -16, 0, 16, 25, 33, 39, 52, 56, 60, 63] : List Int32).getD j 0
abbrev tL (cI cO : ClassId) : List (ClassId × FieldType) := [(cI, FieldType.int), (cO, FieldType.object RX2)]
/-- the class's world: LayerSounder, its reels, track, beams, four drifts, the track's rows, the reels, their items -/
def LW (ad : Nat → Nat) (cI cO : ClassId) (g : Nat → Nat → Int32) (b : Nat → Int32) (d : Nat → Nat → Int64) (X : va_W) : va_W :=
  (ad 0, .inr (4, [.ref (ad 1), .ref (ad 2), .ref (ad 3), .ref (ad 4), .ref (ad 5), .ref (ad 6), .ref (ad 7), .int (g 100 0), .int (g 100 1), .int (g 100 2), .int (g 100 3), .int (g 100 4), .int (g 100 5), .int (g 100 6)])) ::
  (ad 1, .inl (cO, 8, .inr (.inr (.inr (.inr (fun i => some (ad (12 + i)))))))) ::
  (ad 2, .inr (3, [.ref (ad 8), .ref (ad 9), .ref (ad 10), .ref (ad 11), .int (g 100 7)])) ::
  (ad 3, .inr (0, [.int (b 0), .int (b 1), .int (b 2), .int (b 3), .int (b 4)])) ::
  (ad 4, .inr (1, [.long (d 0 0), .long (d 0 1), .long (d 0 2), .long (d 0 3)])) ::
  (ad 5, .inr (1, [.long (d 1 0), .long (d 1 1), .long (d 1 2), .long (d 1 3)])) ::
  (ad 6, .inr (1, [.long (d 2 0), .long (d 2 1), .long (d 2 2), .long (d 2 3)])) ::
  (ad 7, .inr (1, [.long (d 3 0), .long (d 3 1), .long (d 3 2), .long (d 3 3)])) ::
  (ad 8, .inl (cI, 40, .inl (g 0))) :: (ad 9, .inl (cI, 40, .inl (g 1))) :: (ad 10, .inl (cI, 40, .inl (g 2))) :: (ad 11, .inl (cI, 40, .inl (g 3))) ::
  (ad 12, .inr (2, [.ref (ad 20), .int (g 4 0), .int (g 5 0)])) :: (ad 13, .inr (2, [.ref (ad 21), .int (g 4 1), .int (g 5 1)])) ::
  (ad 14, .inr (2, [.ref (ad 22), .int (g 4 2), .int (g 5 2)])) :: (ad 15, .inr (2, [.ref (ad 23), .int (g 4 3), .int (g 5 3)])) ::
  (ad 16, .inr (2, [.ref (ad 24), .int (g 4 4), .int (g 5 4)])) :: (ad 17, .inr (2, [.ref (ad 25), .int (g 4 5), .int (g 5 5)])) ::
  (ad 18, .inr (2, [.ref (ad 26), .int (g 4 6), .int (g 5 6)])) :: (ad 19, .inr (2, [.ref (ad 27), .int (g 4 7), .int (g 5 7)])) ::
  (ad 20, .inl (cI, 200, .inl (g 10))) :: (ad 21, .inl (cI, 200, .inl (g 11))) :: (ad 22, .inl (cI, 200, .inl (g 12))) :: (ad 23, .inl (cI, 200, .inl (g 13))) ::
  (ad 24, .inl (cI, 200, .inl (g 14))) :: (ad 25, .inl (cI, 200, .inl (g 15))) :: (ad 26, .inl (cI, 200, .inl (g 16))) :: (ad 27, .inl (cI, 200, .inl (g 17))) :: X
theorem lt4 {k : Nat} (h : k < 4) : k = 0 ∨ k = 1 ∨ k = 2 ∨ k = 3 := by omega
theorem lt8 {k : Nat} (h : k < 8) : k = 0 ∨ k = 1 ∨ k = 2 ∨ k = 3 ∨ k = 4 ∨ k = 5 ∨ k = 6 ∨ k = 7 := by omega
section LWROWS
variable {ad : Nat → Nat} {cI cO : ClassId} {g : Nat → Nat → Int32} {b : Nat → Int32} {d : Nat → Nat → Int64} {X : va_W}
theorem LW_d {k : Nat} (h : k < 4) : (LW ad cI cO g b d X)[4 + k]? = some (ad (4 + k), .inr (1, [.long (d k 0), .long (d k 1), .long (d k 2), .long (d k 3)])) := by
  rcases lt4 h with rfl | rfl | rfl | rfl <;> rfl
theorem LW_r {r : Nat} (h : r < 8) : (LW ad cI cO g b d X)[12 + r]? = some (ad (12 + r), .inr (2, [.ref (ad (20 + r)), .int (g 4 r), .int (g 5 r)])) := by
  rcases lt8 h with rfl | rfl | rfl | rfl | rfl | rfl | rfl | rfl <;> rfl
theorem LW_i {r : Nat} (h : r < 8) : (LW ad cI cO g b d X)[20 + r]? = some (ad (20 + r), .inl (cI, 200, .inl (g (10 + r)))) := by
  rcases lt8 h with rfl | rfl | rfl | rfl | rfl | rfl | rfl | rfl <;> rfl
theorem LW_d0 {k : Nat} (h : k < 4) (v : Int64) : (LW ad cI cO g b d X).set (4 + k) (ad (4 + k), .inr (1, [.long v, .long (d k 1), .long (d k 2), .long (d k 3)])) = LW ad cI cO g b (up2 d k 0 v) X := by
  rcases lt4 h with rfl | rfl | rfl | rfl <;> rfl
theorem LW_d1 {k : Nat} (h : k < 4) (v : Int64) : (LW ad cI cO g b d X).set (4 + k) (ad (4 + k), .inr (1, [.long (d k 0), .long v, .long (d k 2), .long (d k 3)])) = LW ad cI cO g b (up2 d k 1 v) X := by
  rcases lt4 h with rfl | rfl | rfl | rfl <;> rfl
theorem LW_d2 {k : Nat} (h : k < 4) (v : Int64) : (LW ad cI cO g b d X).set (4 + k) (ad (4 + k), .inr (1, [.long (d k 0), .long (d k 1), .long v, .long (d k 3)])) = LW ad cI cO g b (up2 d k 2 v) X := by
  rcases lt4 h with rfl | rfl | rfl | rfl <;> rfl
theorem LW_d3 {k : Nat} (h : k < 4) (v : Int64) : (LW ad cI cO g b d X).set (4 + k) (ad (4 + k), .inr (1, [.long (d k 0), .long (d k 1), .long (d k 2), .long v])) = LW ad cI cO g b (up2 d k 3 v) X := by
  rcases lt4 h with rfl | rfl | rfl | rfl <;> rfl
theorem LW_r1 {r : Nat} (h : r < 8) (v : Int32) : (LW ad cI cO g b d X).set (12 + r) (ad (12 + r), .inr (2, [.ref (ad (20 + r)), .int v, .int (g 5 r)])) = LW ad cI cO (up2 g 4 r v) b d X := by
  rcases lt8 h with rfl | rfl | rfl | rfl | rfl | rfl | rfl | rfl <;> rfl
theorem LW_r2 {r : Nat} (h : r < 8) (v : Int32) : (LW ad cI cO g b d X).set (12 + r) (ad (12 + r), .inr (2, [.ref (ad (20 + r)), .int (g 4 r), .int v])) = LW ad cI cO (up2 g 5 r v) b d X := by
  rcases lt8 h with rfl | rfl | rfl | rfl | rfl | rfl | rfl | rfl <;> rfl
theorem LW_is {r : Nat} (h : r < 8) (i : Nat) (v : Int32) : (LW ad cI cO g b d X).set (20 + r) (ad (20 + r), .inl (cI, 200, .inl (upd (g (10 + r)) i v))) = LW ad cI cO (up2 g (10 + r) i v) b d X := by
  rcases lt8 h with rfl | rfl | rfl | rfl | rfl | rfl | rfl | rfl <;> rfl
theorem LW_ic {r : Nat} (h : r < 8) (f : Nat → Int32) : (LW ad cI cO g b d X).set (20 + r) (ad (20 + r), .inl (cI, 200, .inl f)) = LW ad cI cO (va_up g (10 + r) f) b d X := by
  rcases lt8 h with rfl | rfl | rfl | rfl | rfl | rfl | rfl | rfl <;> rfl
end LWROWS
/-- the statics, the nest mates' links -/
def zS (tt : Nat) (A : Nat → Prop) (U : State) (H : Heap) : Prop := va_Z RX4 "C_OF_TURNS" "[I" (.ref tt) A U H ∧ va_T .int tt 36 (fun j => .int (ct j)) A U H
def nsF : List (Nat × String × String × String) := [(103, RX2, "form", "I"), (110, RX2, "items", "[I"), (124, RX3, "number", "I"), (175, RX0, "answered", "Z"), (178, RX0, "along", "I"), (181, RX0, "across", "I"), (184, RX0, "odd", "I"), (187, RX0, "three", "Z")]
def nsM : List (String × Nat × MethodName) := [(RX4, 17, yX3_init), (RX4, 24, yX0_init), (RX4, 31, yX1_init), (RX4, 68, yX2_init), (RX0, 32, yX4_asNumber), (RX1, 22, yX4_xTurned), (RX1, 28, yX4_yTurned)]
def nS (U : State) : Prop := (∀ q ∈ nsF, va_Nw (.fieldLinkNest RX4 q.1 q.2.1 q.2.2.1 q.2.2.2 RX4) U) ∧ ∀ q ∈ nsM, va_Nw (.methodLinkNest q.1 q.2.1 q.2.2 RX4) U
theorem nS.warm {s U : State} (hW : s.WarmedH U.vm) (h : nS s) : nS U := ⟨fun q hq => va_Nw.warmF hW (h.1 q hq), fun q hq => va_Nw.warmM hW (h.2 q hq)⟩
theorem nS.same {u U : State} (hv : u.vm = U.vm) (h : nS u) : nS U := ⟨fun q hq => va_Nw.same rfl hv (h.1 q hq), fun q hq => va_Nw.same rfl hv (h.2 q hq)⟩
theorem zS.moved {tt : Nat} {A : Nat → Prop} {u U : State} {H : Heap} (hvm : u.vm.Alike U.vm) (h : zS tt A u H) : zS tt A U H := ⟨va_Z.moved hvm h.1, va_T.moved hvm h.2⟩
theorem zS.kept {tt : Nat} {A : Nat → Prop} {U : State} {H H1 : Heap} (h : zS tt A U H) (hq : ∀ a : Nat, a < H.size → ¬ A a → H1[a]? = H[a]?) : zS tt A U H1 := ⟨va_Z.kept h.1 hq, va_T.kept h.2 hq⟩
theorem zS.narrow {tt : Nat} {A B : Nat → Prop} {U : State} {H : Heap} (h : zS tt A U H) (hAB : ∀ q, B q → A q) : zS tt B U H := ⟨va_Z.narrow h.1 hAB, va_T.narrow h.2 hAB⟩
/-- a method that writes nothing: its start -/
def pw (D : va_G) (cI cO : ClassId) (tt : Nat) (w : va_W) (H0 : Heap) (U : State) : Prop := U.heap = H0 ∧ va_P D vwCl w H0 ∧ va_K D vwCl (tL cI cO) U ∧ zS tt (fun _ => False) U H0 ∧ nS U
/-- a method that writes: its start, and the world behind it -/
def mw (D : va_G) (cI cO : ClassId) (tt : Nat) (w : va_W) (sz : Nat) (U : State) : Prop := U.heap.size = sz ∧ va_P D vwCl w U.heap ∧ va_K D vwCl (tL cI cO) U ∧ va_D (fun _ => True) w ∧ zS tt (va_A w sz) U U.heap ∧ nS U
def mb (D : va_G) (w : va_W) (A : Nat → Prop) (t : State) : Prop := va_P D vwCl w t.heap ∧ va_D A w
abbrev MpI (l : Launch) (y : MethodName) (ws : List Cond) (rm : Room) (D : va_G) (cI cO : ClassId) (tt : Nat) (w : va_W) (H0 : Heap) (av : List Value) (v : Int32) : Prop := Met l y ws rm (va_Pc av (pw D cI cO tt w H0)) (va_Qi (fun r (_ : Unit) => r = v) (fun _ t => t.heap = H0) (fun _ => False)) 0 0 (fun _ => False)
abbrev MpL (l : Launch) (y : MethodName) (ws : List Cond) (rm : Room) (D : va_G) (cI cO : ClassId) (tt : Nat) (w : va_W) (H0 : Heap) (av : List Value) (v : Int64) : Prop := Met l y ws rm (va_Pc av (pw D cI cO tt w H0)) (va_Ql (fun r (_ : Unit) => r = v) (fun _ t => t.heap = H0) (fun _ => False)) 0 0 (fun _ => False)
abbrev MmI (l : Launch) (y : MethodName) (ws : List Cond) (rm : Room) (D : va_G) (cI cO : ClassId) (tt : Nat) (w : va_W) (sz : Nat) (av : List Value) {S : Type} (wf : S → va_W) (post : Int32 → S → Prop) : Prop := Met l y ws rm (va_Pc av (mw D cI cO tt w sz)) (va_Qi post (fun u t => mb D (wf u) (va_A w sz) t) (va_A w sz)) 0 0 (va_A w sz)
abbrev MmL (l : Launch) (y : MethodName) (ws : List Cond) (rm : Room) (D : va_G) (cI cO : ClassId) (tt : Nat) (w : va_W) (sz : Nat) (av : List Value) {S : Type} (wf : S → va_W) (post : Int64 → S → Prop) : Prop := Met l y ws rm (va_Pc av (mw D cI cO tt w sz)) (va_Ql post (fun u t => mb D (wf u) (va_A w sz) t) (va_A w sz)) 0 0 (va_A w sz)
abbrev MmV (l : Launch) (y : MethodName) (ws : List Cond) (rm : Room) (D : va_G) (cI cO : ClassId) (tt : Nat) (w : va_W) (sz : Nat) (av : List Value) {S : Type} (wf : S → va_W) (post : S → Prop) : Prop := Met l y ws rm (va_Pc av (mw D cI cO tt w sz)) (va_Qv post (fun u t => mb D (wf u) (va_A w sz) t) (va_A w sz)) 0 0 (va_A w sz)
theorem pw.blind {av : List Value} {D : va_G} {cI cO : ClassId} {tt : Nat} {w : va_W} {H0 : Heap} : FrameBlind (va_Pc av (pw D cI cO tt w H0)) := fun a U g mk q => ⟨q.1, q.2.1, q.2.2.1, va_K.moved (u := U) (U := U.calling g mk a) (Vm.Alike.refl U.vm) q.2.2.2.1, zS.moved (u := U) (U := U.calling g mk a) (Vm.Alike.refl U.vm) q.2.2.2.2.1, nS.same (u := U) (U := U.calling g mk a) rfl q.2.2.2.2.2⟩
theorem mw.blind {av : List Value} {D : va_G} {cI cO : ClassId} {tt : Nat} {w : va_W} {sz : Nat} : FrameBlind (va_Pc av (mw D cI cO tt w sz)) := fun a U g mk q => ⟨q.1, q.2.1, q.2.2.1, va_K.moved (u := U) (U := U.calling g mk a) (Vm.Alike.refl U.vm) q.2.2.2.1, q.2.2.2.2.1, zS.moved (u := U) (U := U.calling g mk a) (Vm.Alike.refl U.vm) q.2.2.2.2.2.1, nS.same (u := U) (U := U.calling g mk a) rfl q.2.2.2.2.2.2⟩
theorem pwS {D : va_G} {cI cO : ClassId} {tt : Nat} {A : Nat → Prop} {s : State} {H : Heap} {locs : List Loc} {w : va_W} {As : List Value} (hK : va_K D vwCl (tL cI cO) s) (hZ : zS tt A s s.heap) (hN : nS s) (hP : va_P D vwCl w H) (hS : va_S A s.heap H locs) : PreS s H (va_Pc As (pw D cI cO tt w H)) As :=
  ⟨pw.blind, fun U hU hW => ⟨rfl, hU, hP, va_K.moved hW.alike hK, (zS.narrow (zS.kept (zS.moved hW.alike hZ) hS.2.1) (fun _ h => h.elim)), hN.warm hW⟩⟩
theorem pwV {D : va_G} {cI cO : ClassId} {tt : Nat} {A : Nat → Prop} {s : State} {H : Heap} {locs : List Loc} {w : va_W} {As : List Value} {C : String} {a : Nat} (hK : va_K D vwCl (tL cI cO) s) (hZ : zS tt A s s.heap) (hN : nS s) (hP : va_P D vwCl w H) (hS : va_S A s.heap H locs) (hr : ∃ cell : Cell, H[a]? = some cell ∧ cell.vm.isStatics = false ∧ s.vm.findClass C = some cell.cls) : PreV s H C a (va_Pc (.ref a :: As) (pw D cI cO tt w H)) As :=
  ⟨pw.blind, hr, (pwS hK hZ hN hP hS).2⟩
theorem frA {A : Nat → Prop} {w : va_W} {s : State} {H : Heap} {locs : List Loc} (hD : va_D A w) (hS : va_S A s.heap H locs) (hA : ∀ q : Nat, s.heap.size ≤ q → A q) : ∀ q, va_A w H.size q → A q := by
  intro q h
  rcases h with ⟨k, e, h⟩ | h
  · exact hD.2 k (q, e) h
  · exact hA q (Nat.le_trans hS.1 h)
theorem mwS {D : va_G} {cI cO : ClassId} {tt : Nat} {A : Nat → Prop} {s : State} {H : Heap} {locs : List Loc} {w : va_W} {As : List Value} (hK : va_K D vwCl (tL cI cO) s) (hZ : zS tt A s s.heap) (hN : nS s) (hP : va_P D vwCl w H) (hD : va_D A w) (hS : va_S A s.heap H locs) (hA : ∀ q : Nat, s.heap.size ≤ q → A q) : PreS s H (va_Pc As (mw D cI cO tt w H.size)) As :=
  ⟨mw.blind, fun U hU hW => ⟨rfl, by rw [hU], by rw [hU]; exact hP, va_K.moved hW.alike hK, hD.weaken (fun _ _ _ _ => trivial), by rw [hU]; exact zS.narrow (zS.kept (zS.moved hW.alike hZ) hS.2.1) (frA hD hS hA), hN.warm hW⟩⟩
theorem mwV {D : va_G} {cI cO : ClassId} {tt : Nat} {A : Nat → Prop} {s : State} {H : Heap} {locs : List Loc} {w : va_W} {As : List Value} {C : String} {a : Nat} (hK : va_K D vwCl (tL cI cO) s) (hZ : zS tt A s s.heap) (hN : nS s) (hP : va_P D vwCl w H) (hD : va_D A w) (hS : va_S A s.heap H locs) (hA : ∀ q : Nat, s.heap.size ≤ q → A q) (hr : ∃ cell : Cell, H[a]? = some cell ∧ cell.vm.isStatics = false ∧ s.vm.findClass C = some cell.cls) : PreV s H C a (va_Pc (.ref a :: As) (mw D cI cO tt w H.size)) As :=
  ⟨mw.blind, hr, (mwS hK hZ hN hP hD hS hA).2⟩
section CALLS
variable {p : Program} {l : Launch} {e : Env} {R : Room} {s : State} {m : MethodId} {args : Array Value} {below : List Frame} {meth : Method} {c : Code} {H : Heap} {locs : List Loc} {cells slots : Nat} {Q : State → Prop}
variable {pc : Nat} {ls : Array Slot} {rest st0 : List Value} {a : Array Value} {A : Nat → Prop} {H0 : Heap} {D : va_G} {w : va_W}
theorem pcI {v : Int32} (hr : va_Run p l e R s m args below meth c H locs cells slots 0 0 (F0 m pc ls st0) rest (va_Qi (fun r (_ : Unit) => r = v) (fun _ t => t.heap = H) (fun _ => False) a) (fun _ => False)) (hS : va_S A H0 H locs)
    (kk : ∀ locs1 : List Loc, va_S A H0 H locs1 → W p l e R s m args below meth c H locs1 cells slots Q (F0 m (pc + 3) ls (.int v :: rest))) : W p l e R s m args below meth c H locs cells slots Q (F0 m pc ls st0) := by
  refine va_calli hr hS (fun q _ h => h.elim) (fun q h => h.elim) (fun r u t H1 locs1 ht hvm hp hB hz hk hS1 => ?_)
  subst hp
  have e1 : H1 = H := ht.symm.trans hB
  subst e1
  exact kk locs1 hS1
theorem pcL {v : Int64} (hr : va_Run p l e R s m args below meth c H locs cells slots 0 0 (F0 m pc ls st0) rest (va_Ql (fun r (_ : Unit) => r = v) (fun _ t => t.heap = H) (fun _ => False) a) (fun _ => False)) (hS : va_S A H0 H locs)
    (kk : ∀ locs1 : List Loc, va_S A H0 H locs1 → W p l e R s m args below meth c H locs1 cells slots Q (F0 m (pc + 3) ls (.long v :: rest))) : W p l e R s m args below meth c H locs cells slots Q (F0 m pc ls st0) := by
  refine va_calll hr hS (fun q _ h => h.elim) (fun q h => h.elim) (fun r u t H1 locs1 ht hvm hp hB hz hk hS1 => ?_)
  subst hp
  have e1 : H1 = H := ht.symm.trans hB
  subst e1
  exact kk locs1 hS1
theorem mcI {S : Type} {wf : S → va_W} {post : Int32 → S → Prop} (hr : va_Run p l e R s m args below meth c H locs cells slots 0 0 (F0 m pc ls st0) rest (va_Qi post (fun u t => mb D (wf u) (va_A w H.size) t) (va_A w H.size) a) (va_A w H.size)) (hD : va_D A w) (hS : va_S A s.heap H locs) (hA : ∀ q : Nat, s.heap.size ≤ q → A q)
    (kk : ∀ (r : Int32) (u : S) (H1 : Heap) (locs1 : List Loc), post r u → va_P D vwCl (wf u) H1 → va_D A (wf u) → va_S A s.heap H1 locs1 → W p l e R s m args below meth c H1 locs1 cells slots Q (F0 m (pc + 3) ls (.int r :: rest))) : W p l e R s m args below meth c H locs cells slots Q (F0 m pc ls st0) := by
  refine va_calli hr hS (fun q _ h => frA hD hS hA q h) (frA hD hS hA) (fun r u t H1 locs1 ht hvm hp hB hz hk hS1 => ?_)
  exact kk r u H1 locs1 hp (by rw [← ht]; exact hB.1) (hB.2.weaken (fun _ q _ h => frA hD hS hA q.1 h)) hS1
theorem mcL {S : Type} {wf : S → va_W} {post : Int64 → S → Prop} (hr : va_Run p l e R s m args below meth c H locs cells slots 0 0 (F0 m pc ls st0) rest (va_Ql post (fun u t => mb D (wf u) (va_A w H.size) t) (va_A w H.size) a) (va_A w H.size)) (hD : va_D A w) (hS : va_S A s.heap H locs) (hA : ∀ q : Nat, s.heap.size ≤ q → A q)
    (kk : ∀ (r : Int64) (u : S) (H1 : Heap) (locs1 : List Loc), post r u → va_P D vwCl (wf u) H1 → va_D A (wf u) → va_S A s.heap H1 locs1 → W p l e R s m args below meth c H1 locs1 cells slots Q (F0 m (pc + 3) ls (.long r :: rest))) : W p l e R s m args below meth c H locs cells slots Q (F0 m pc ls st0) := by
  refine va_calll hr hS (fun q _ h => frA hD hS hA q h) (frA hD hS hA) (fun r u t H1 locs1 ht hvm hp hB hz hk hS1 => ?_)
  exact kk r u H1 locs1 hp (by rw [← ht]; exact hB.1) (hB.2.weaken (fun _ q _ h => frA hD hS hA q.1 h)) hS1
theorem mcV {S : Type} {wf : S → va_W} {post : S → Prop} (hr : va_Run p l e R s m args below meth c H locs cells slots 0 0 (F0 m pc ls st0) rest (va_Qv post (fun u t => mb D (wf u) (va_A w H.size) t) (va_A w H.size) a) (va_A w H.size)) (hD : va_D A w) (hS : va_S A s.heap H locs) (hA : ∀ q : Nat, s.heap.size ≤ q → A q)
    (kk : ∀ (u : S) (H1 : Heap) (locs1 : List Loc), post u → va_P D vwCl (wf u) H1 → va_D A (wf u) → va_S A s.heap H1 locs1 → W p l e R s m args below meth c H1 locs1 cells slots Q (F0 m (pc + 3) ls rest)) : W p l e R s m args below meth c H locs cells slots Q (F0 m pc ls st0) := by
  refine va_callv hr hS (fun q _ h => frA hD hS hA q h) (frA hD hS hA) (fun u t H1 locs1 ht hvm hp hB hz hk hS1 => ?_)
  exact kk u H1 locs1 hp (by rw [← ht]; exact hB.1) (hB.2.weaken (fun _ q _ h => frA hD hS hA q.1 h)) hS1
/-- two ways come together: the value on the top is one of two -/
theorem jnI {j : Nat} (P : Int32 → Prop) (kj : ∀ v : Int32, P v → W p l e R s m args below meth c H locs cells slots Q (F0 m j ls (.int v :: rest)))
    (k : (∀ v : Int32, P v → W p l e R s m args below meth c H locs cells slots Q (F0 m j ls (.int v :: rest))) → W p l e R s m args below meth c H locs cells slots Q (F0 m pc ls st0)) : W p l e R s m args below meth c H locs cells slots Q (F0 m pc ls st0) := k kj
theorem jnL {j : Nat} (P : Int64 → Prop) (kj : ∀ v : Int64, P v → W p l e R s m args below meth c H locs cells slots Q (F0 m j ls (.long v :: rest)))
    (k : (∀ v : Int64, P v → W p l e R s m args below meth c H locs cells slots Q (F0 m j ls (.long v :: rest))) → W p l e R s m args below meth c H locs cells slots Q (F0 m pc ls st0)) : W p l e R s m args below meth c H locs cells slots Q (F0 m pc ls st0) := k kj
theorem tpI {x y : Int32} (h : x = y) (k : W p l e R s m args below meth c H locs cells slots Q (F0 m pc ls (.int y :: rest))) : W p l e R s m args below meth c H locs cells slots Q (F0 m pc ls (.int x :: rest)) := by rw [h]; exact k
theorem rfr {o : Option Nat} {w : Nat} (h : o = some w) (k : W p l e R s m args below meth c H locs cells slots Q (F0 m pc ls (.ref w :: rest))) : W p l e R s m args below meth c H locs cells slots Q (F0 m pc ls (va_rf o :: rest)) := by subst h; exact k
theorem tpL {x y : Int64} (h : x = y) (k : W p l e R s m args below meth c H locs cells slots Q (F0 m pc ls (.long y :: rest))) : W p l e R s m args below meth c H locs cells slots Q (F0 m pc ls (.long x :: rest)) := by rw [h]; exact k
/-- a loop: a state x, its locals, its world, what holds at its head, a measure -/
theorem wloop {σ : Type} {pc nL : Nat} (lv : σ → List (Nat × Value)) (wf : σ → va_W) (I : σ → Prop) (μ : σ → Nat)
    (step : ∀ x : σ, I x → (∀ y : σ, I y → μ y < μ x → ∀ (H : Heap) (locs : List Loc) (ls : Array Slot), va_P D vwCl (wf y) H → va_D A (wf y) → va_S A H0 H locs → lv_has ls nL (lv y) → W p l e R s m args below meth c H locs cells slots Q (F0 m pc ls [])) →
      ∀ (H : Heap) (locs : List Loc) (ls : Array Slot), va_P D vwCl (wf x) H → va_D A (wf x) → va_S A H0 H locs → lv_has ls nL (lv x) → W p l e R s m args below meth c H locs cells slots Q (F0 m pc ls [])) :
    ∀ x : σ, I x → ∀ (H : Heap) (locs : List Loc) (ls : Array Slot), va_P D vwCl (wf x) H → va_D A (wf x) → va_S A H0 H locs → lv_has ls nL (lv x) → W p l e R s m args below meth c H locs cells slots Q (F0 m pc ls []) := by
  have key : ∀ (n : Nat) (x : σ), μ x < n → I x → ∀ (H : Heap) (locs : List Loc) (ls : Array Slot), va_P D vwCl (wf x) H → va_D A (wf x) → va_S A H0 H locs → lv_has ls nL (lv x) → W p l e R s m args below meth c H locs cells slots Q (F0 m pc ls []) := by
    intro n
    induction n with
    | zero => intro x hx; exact absurd hx (Nat.not_lt_zero _)
    | succ n ih => exact fun x hx hI => step x hI (fun y hy hm => ih y (by omega) hy)
  exact fun x hI => key (μ x + 1) x (Nat.lt_succ_self _) hI
/-- the same where nothing is written -/
theorem ploop {σ : Type} {pc nL : Nat} (lv : σ → List (Nat × Value)) (I : σ → Prop) (μ : σ → Nat)
    (step : ∀ x : σ, I x → (∀ y : σ, I y → μ y < μ x → ∀ (locs : List Loc) (ls : Array Slot), va_S A H0 H locs → lv_has ls nL (lv y) → W p l e R s m args below meth c H locs cells slots Q (F0 m pc ls [])) →
      ∀ (locs : List Loc) (ls : Array Slot), va_S A H0 H locs → lv_has ls nL (lv x) → W p l e R s m args below meth c H locs cells slots Q (F0 m pc ls [])) :
    ∀ x : σ, I x → ∀ (locs : List Loc) (ls : Array Slot), va_S A H0 H locs → lv_has ls nL (lv x) → W p l e R s m args below meth c H locs cells slots Q (F0 m pc ls []) := by
  have key : ∀ (n : Nat) (x : σ), μ x < n → I x → ∀ (locs : List Loc) (ls : Array Slot), va_S A H0 H locs → lv_has ls nL (lv x) → W p l e R s m args below meth c H locs cells slots Q (F0 m pc ls []) := by
    intro n
    induction n with
    | zero => intro x hx; exact absurd hx (Nat.not_lt_zero _)
    | succ n ih => exact fun x hx hI => step x hI (fun y hy hm => ih y (by omega) hy)
  exact fun x hI => key (μ x + 1) x (Nat.lt_succ_self _) hI
end CALLS
theorem sw_3 (x : Int32) : ((x.toInt < 0 ∨ 3 < x.toInt) ∧ ¬ x = 0 ∧ ¬ x = 1 ∧ ¬ x = 2 ∧ ¬ x = 3) ∨ x = 0 ∨ x = 1 ∨ x = 2 ∨ x = 3 := by
  by_cases h : x.toInt < 0 ∨ 3 < x.toInt
  · refine Or.inl ⟨h, ?_, ?_, ?_, ?_⟩ <;> (intro e; rw [e] at h; revert h; decide)
  · refine Or.inr ?_
    have q : vp_in x 4 := by rw [vp_in_iff]; omega
    obtain ⟨j, hj, e⟩ := vp_in_of q (by decide)
    have hj2 : j = 0 ∨ j = 1 ∨ j = 2 ∨ j = 3 := by omega
    rcases hj2 with rfl | rfl | rfl | rfl <;> (rw [e]; decide)
theorem sw_4 (x : Int32) : ((x.toInt < 0 ∨ 4 < x.toInt) ∧ ¬ x = 0 ∧ ¬ x = 1 ∧ ¬ x = 2 ∧ ¬ x = 3 ∧ ¬ x = 4) ∨ x = 0 ∨ x = 1 ∨ x = 2 ∨ x = 3 ∨ x = 4 := by
  by_cases h : x.toInt < 0 ∨ 4 < x.toInt
  · refine Or.inl ⟨h, ?_, ?_, ?_, ?_, ?_⟩ <;> (intro e; rw [e] at h; revert h; decide)
  · refine Or.inr ?_
    have q : vp_in x 5 := by rw [vp_in_iff]; omega
    obtain ⟨j, hj, e⟩ := vp_in_of q (by decide)
    have hj2 : j = 0 ∨ j = 1 ∨ j = 2 ∨ j = 3 ∨ j = 4 := by omega
    rcases hj2 with rfl | rfl | rfl | rfl | rfl <;> (rw [e]; decide)
theorem sw_7 (x : Int32) : ((x.toInt < 0 ∨ 7 < x.toInt) ∧ ¬ x = 0 ∧ ¬ x = 1 ∧ ¬ x = 2 ∧ ¬ x = 3 ∧ ¬ x = 4 ∧ ¬ x = 5 ∧ ¬ x = 6 ∧ ¬ x = 7) ∨ x = 0 ∨ x = 1 ∨ x = 2 ∨ x = 3 ∨ x = 4 ∨ x = 5 ∨ x = 6 ∨ x = 7 := by
  by_cases h : x.toInt < 0 ∨ 7 < x.toInt
  · refine Or.inl ⟨h, ?_, ?_, ?_, ?_, ?_, ?_, ?_, ?_⟩ <;> (intro e; rw [e] at h; revert h; decide)
  · refine Or.inr ?_
    have q : vp_in x 8 := by rw [vp_in_iff]; omega
    obtain ⟨j, hj, e⟩ := vp_in_of q (by decide)
    have hj2 : j = 0 ∨ j = 1 ∨ j = 2 ∨ j = 3 ∨ j = 4 ∨ j = 5 ∨ j = 6 ∨ j = 7 := by omega
    rcases hj2 with rfl | rfl | rfl | rfl | rfl | rfl | rfl | rfl <;> (rw [e]; decide)
end
section
/-! the pure words -/
theorem vin {p n : Int32} {N : Nat} (h0 : 0 ≤ p) (h1 : p < n) (h2 : n ≤ Int32.ofNat N) (hN : N < 2 ^ 31) : vp_in p N := by
  rw [vp_in_iff]
  have e : (Int32.ofNat N).toInt = (N : Int) := nI_toInt hN
  have a := Int32.le_iff_toInt_le.mp h0
  have b := Int32.lt_iff_toInt_lt.mp h1
  have c := Int32.le_iff_toInt_le.mp h2
  have z : (0 : Int32).toInt = 0 := rfl
  rw [z] at a
  rw [e] at c
  omega
theorem n36 {t : Int32} (h0 : 0 ≤ t) (h1 : t < 36) : ∃ j : Nat, j < 36 ∧ t = nI j := by
  have q : vp_in t 36 := vin h0 h1 (by decide) (by decide)
  exact vp_in_of q (by decide)
theorem vin_s {t : Int32} (h0 : 0 ≤ t) (h1 : t < 36) : vp_in ((t + 27) - (t + 27) / 36 * 36) 36 := by
  obtain ⟨j, hj, rfl⟩ := n36 h0 h1
  have key : ∀ j : Nat, j < 36 → vp_in ((nI j + 27) - (nI j + 27) / 36 * 36) 36 := by
    unfold vp_in
    decide +kernel
  exact key j hj
def cO (t : Int32) : Int64 := if 0 ≤ t ∧ t < 36 then (ct t.toNatClampNeg).toInt64 else 0
def sO (t : Int32) : Int64 := if 0 ≤ t ∧ t < 36 then (ct ((t + 27) - (t + 27) / 36 * 36).toNatClampNeg).toInt64 else 0
def xT (x y : Int64) (t : Int32) : Int64 := cO t * x - sO t * y
def yT (x y : Int64) (t : Int32) : Int64 := sO t * x + cO t * y
abbrev nn (v : Int32) : Prop := v ≤ -128 ∨ 20000 < v
def bz (v : Int64) : Int64 := if 0 < v then -v else v
def rdC (g : Nat → Nat → Int32) (r : Nat) (i : Int32) : Int32 := if 0 ≤ i ∧ i < g 5 r then g (10 + r) i.toNatClampNeg else -128
def fnd (g : Nat → Nat → Int32) (r : Nat) (f i : Int32) : Int32 := if g 4 r = -1 then 1 else if ¬ g 4 r = f then 3 else if 0 ≤ i ∧ i < g 5 r then 0 else 2
def nrw (f v : Int32) : Int32 := if f = 0 then v.toInt8.toInt32 else if f = 1 then v.toInt16.toInt32 else v
/-- a row of the track at a ping -/
def rw_ (g : Nat → Nat → Int32) (j : Nat) (p : Int32) : Int32 := if 0 ≤ p ∧ p < g 100 7 then g j p.toNatClampNeg else 0
def ab (x : Int32) : Int32 := if 0 ≤ x then x else 0 - x
def mn (x y : Int32) : Int32 := if y < x then y else x
/-- what always holds of the state -/
def WI (g : Nat → Nat → Int32) : Prop := (∀ r, r < 8 → 0 ≤ g 5 r ∧ g 5 r ≤ 200) ∧ (0 ≤ g 100 7 ∧ g 100 7 ≤ 40) ∧ (1 ≤ g 100 0 ∧ g 100 0 ≤ 16) ∧ (0 ≤ g 100 1 ∧ g 100 1 ≤ 2) ∧ (0 ≤ g 100 2 ∧ g 100 2 < 36) ∧ (0 ≤ g 100 3 ∧ g 100 3 ≤ 16) ∧ (g 100 4 = 0 ∨ g 100 4 = 1) ∧ (0 ≤ g 100 5 ∧ g 100 5 ≤ 100000) ∧ (∀ p : Nat, nI p < g 100 7 → p < 40 → (0 ≤ g 0 p ∧ g 0 p < 36) ∧ (-1000000 ≤ g 1 p ∧ g 1 p ≤ 1000000) ∧ (-1000000 ≤ g 2 p ∧ g 2 p ≤ 1000000) ∧ 0 ≤ g 3 p ∧ g 3 p ≤ 16) ∧ ∀ r, r < 8 → (-1 ≤ g 4 r ∧ g 4 r ≤ 2) ∧ (g 4 r < 0 → g 5 r = 0) ∧ (¬ g 4 r < 0 → g 6 r = g 5 r) ∧ 0 ≤ g 6 r ∧ g 6 r ≤ 200
/-! beams -/
def lo (a b c d : Int32) : Int32 := bI (nn a) + bI (nn b) + bI (nn c) + bI (nn d)
def f1 (a b c d : Int32) : Int32 := if nn a then c + d - b else a
def f2 (a b c d : Int32) : Int32 := if nn b then c + d - a else b
def f3 (a b c d : Int32) : Int32 := if nn c then a + b - d else c
def f4 (a b c d : Int32) : Int32 := if nn d then a + b - c else d
def al (a b c d : Int32) : Int32 := f1 a b c d - f2 a b c d
def ac (a b c d : Int32) : Int32 := f3 a b c d - f4 a b c d
def od (a b c d : Int32) : Int32 := f1 a b c d + f2 a b c d - f3 a b c d - f4 a b c d
/-- what take leaves -/
def tkP (a b c d : Int32) (u : Nat → Int32) : Prop := u 0 = bI (lo a b c d ≤ 1) ∧ u 1 = bI (lo a b c d = 1) ∧ (lo a b c d ≤ 1 → u 2 = al a b c d ∧ u 3 = ac a b c d ∧ u 4 = od a b c d)
/-- the four readings of beams from a reel on -/
def rdP (g : Nat → Nat → Int32) (r : Nat) (i : Int32) (u : Nat → Int32) : Prop := tkP (rdC g r i) (rdC g (r + 1) i) (rdC g (r + 2) i) (rdC g (r + 3) i) u
def rLo (g : Nat → Nat → Int32) (r : Nat) (i : Int32) : Int32 := lo (rdC g r i) (rdC g (r + 1) i) (rdC g (r + 2) i) (rdC g (r + 3) i)
def rAl (g : Nat → Nat → Int32) (r : Nat) (i : Int32) : Int32 := al (rdC g r i) (rdC g (r + 1) i) (rdC g (r + 2) i) (rdC g (r + 3) i)
def rAc (g : Nat → Nat → Int32) (r : Nat) (i : Int32) : Int32 := ac (rdC g r i) (rdC g (r + 1) i) (rdC g (r + 2) i) (rdC g (r + 3) i)
def rOd (g : Nat → Nat → Int32) (r : Nat) (i : Int32) : Int32 := od (rdC g r i) (rdC g (r + 1) i) (rdC g (r + 2) i) (rdC g (r + 3) i)
/-- OWN: whether there is one, and its four numbers -/
abbrev oOk (g : Nat → Nat → Int32) (p : Int32) : Prop := (g 100 1 = 1 → rLo g 4 p ≤ 1) ∧ (g 100 1 = 2 → 0 ≤ p + 1 ∧ p + 1 < g 100 7)
def oD (g : Nat → Nat → Int32) (p : Int32) (k : Nat) : Int64 := if g 100 1 = 1 then (if k = 0 then xT (rAl g 4 p).toInt64 (rAc g 4 p).toInt64 (rw_ g 0 p) else if k = 1 then yT (rAl g 4 p).toInt64 (rAc g 4 p).toInt64 (rw_ g 0 p) else 0) else if g 100 1 = 2 then (if k = 2 then 4225 * (rw_ g 1 (p + 1) - rw_ g 1 p).toInt64 else if k = 3 then 4225 * (rw_ g 2 (p + 1) - rw_ g 2 p).toInt64 else 0) else 0
/-- a drift's four numbers, the other drifts as they were -/
def dP (d : Nat → Nat → Int64) (k : Nat) (a0 a1 a2 a3 : Int64) (u : Nat → Nat → Int64) : Prop := u k 0 = a0 ∧ u k 1 = a1 ∧ u k 2 = a2 ∧ u k 3 = a3 ∧ ∀ q, q ≠ k → u q = d q
theorem up2_s {α : Type} (f : Nat → Nat → α) (a b : Nat) (v : α) : up2 f a b v a b = v := by simp [up2]
theorem up2_n {α : Type} (f : Nat → Nat → α) {a b x y : Nat} (v : α) (h : x ≠ a ∨ y ≠ b) : up2 f a b v x y = f x y := by
  unfold up2
  by_cases h1 : x = a
  · rw [if_pos h1]
    rcases h with h | h
    · exact absurd h1 h
    · rw [if_neg h]
  · rw [if_neg h1]
theorem up2_r {α : Type} (f : Nat → Nat → α) {a b x : Nat} (v : α) (h : x ≠ a) : up2 f a b v x = f x := by
  funext y
  exact up2_n f v (Or.inl h)
theorem dP_4 (d : Nat → Nat → Int64) (k : Nat) (a0 a1 a2 a3 : Int64) : dP d k a0 a1 a2 a3 (up2 (up2 (up2 (up2 d k 0 a0) k 1 a1) k 2 a2) k 3 a3) := by
  refine ⟨by simp [up2], by simp [up2], by simp [up2], by simp [up2], fun q hq => ?_⟩
  rw [up2_r _ _ hq, up2_r _ _ hq, up2_r _ _ hq, up2_r _ _ hq]
theorem dP_a (d : Nat → Nat → Int64) (k : Nat) (a0 a1 : Int64) : dP d k a0 a1 (d k 2) (d k 3) (up2 (up2 d k 0 a0) k 1 a1) := by
  refine ⟨by simp [up2], by simp [up2], by simp [up2], by simp [up2], fun q hq => ?_⟩
  rw [up2_r _ _ hq, up2_r _ _ hq]
theorem dP_b (d : Nat → Nat → Int64) (k : Nat) (a0 a1 : Int64) : dP d k (d k 0) (d k 1) a0 a1 (up2 (up2 d k 2 a0) k 3 a1) := by
  refine ⟨by simp [up2], by simp [up2], by simp [up2], by simp [up2], fun q hq => ?_⟩
  rw [up2_r _ _ hq, up2_r _ _ hq]
theorem tk_no {a b c d x v1 v2 : Int32} {u0 : Nat → Int32} (ex : x = bI (nn a) + bI (nn b) + bI (nn c) + bI (nn d)) (h1 : v1 = bI (x ≤ 1)) (h2 : v2 = bI (x = 1)) (hc : v1 = 0) : tkP a b c d (va_up (va_up u0 0 v1) 1 v2) := by
  have ex : x = lo a b c d := ex
  subst ex
  refine ⟨by simp [va_up, h1], by simp [va_up, h2], fun h => ?_⟩
  rw [h1] at hc
  exact absurd h (bI_0.mp hc)
theorem tk_yes {a b c d x v1 v2 w1 w2 w3 w4 : Int32} {u0 : Nat → Int32} (ex : x = bI (nn a) + bI (nn b) + bI (nn c) + bI (nn d)) (h1 : v1 = bI (x ≤ 1)) (h2 : v2 = bI (x = 1)) (e1 : w1 = if nn a then c + d - b else a) (e2 : w2 = if nn b then c + d - a else b) (e3 : w3 = if nn c then a + b - d else c) (e4 : w4 = if nn d then a + b - c else d) : tkP a b c d (va_up (va_up (va_up (va_up (va_up u0 0 v1) 1 v2) 2 (w1 - w2)) 3 (w3 - w4)) 4 (w1 + w2 - w3 - w4)) := by
  have ex : x = lo a b c d := ex
  subst ex
  refine ⟨by simp [va_up, h1], by simp [va_up, h2], fun _ => ⟨?_, ?_, ?_⟩⟩
  · simp only [va_up, e1, e2]; rfl
  · simp only [va_up, e3, e4]; rfl
  · simp only [va_up, e1, e2, e3, e4]; rfl
/-- what findOwn leaves -/
def foP (g : Nat → Nat → Int32) (p : Int32) (d : Nat → Nat → Int64) (r : Int32) (u : Nat → Nat → Int64) : Prop := r = bI (oOk g p) ∧ (oOk g p → u 0 0 = oD g p 0 ∧ u 0 1 = oD g p 1 ∧ u 0 2 = oD g p 2 ∧ u 0 3 = oD g p 3) ∧ ∀ q, q ≠ 0 → u q = d q
theorem fo_A {g : Nat → Nat → Int32} {p : Int32} {d u : Nat → Nat → Int64} (h1 : ¬ g 100 1 = 1) (h2 : ¬ g 100 1 = 2) (hu : dP d 0 0 0 0 0 u) : foP g p d 1 u := by
  obtain ⟨e0, e1, e2, e3, e4⟩ := hu
  refine ⟨(bI_t ⟨fun h => absurd h h1, fun h => absurd h h2⟩).symm, fun _ => ?_, e4⟩
  simp only [oD, if_neg h1, if_neg h2]
  exact ⟨e0, e1, e2, e3⟩
theorem fo_B {g : Nat → Nat → Int32} {p : Int32} {d u : Nat → Nat → Int64} {b : Nat → Int32} (h1 : g 100 1 = 1) (hb : rdP g 4 p b) (hc : b 0 = 0) (hu : dP d 0 0 0 0 0 u) : foP g p d 0 u := by
  obtain ⟨e0, e1, e2, e3, e4⟩ := hu
  have q : ¬ rLo g 4 p ≤ 1 := by
    have := hb.1
    rw [hc] at this
    exact bI_0.mp this.symm
  have n : ¬ oOk g p := fun h => q (h.1 h1)
  exact ⟨(bI_f n).symm, fun h => absurd h n, e4⟩
theorem fo_C {g : Nat → Nat → Int32} {p : Int32} {d u u2 : Nat → Nat → Int64} {b : Nat → Int32} (h1 : g 100 1 = 1) (hb : rdP g 4 p b) (hc : ¬ b 0 = 0) (hu : dP d 0 0 0 0 0 u) (hu2 : dP u 0 (xT (b 2).toInt64 (b 3).toInt64 (rw_ g 0 p)) (yT (b 2).toInt64 (b 3).toInt64 (rw_ g 0 p)) (u 0 2) (u 0 3) u2) : foP g p d 1 u2 := by
  obtain ⟨e0, e1, e2, e3, e4⟩ := hu
  obtain ⟨k0, k1, k2, k3, k4⟩ := hu2
  have q : rLo g 4 p ≤ 1 := by
    have := hb.1
    rw [this] at hc
    exact bI_n0.mp hc
  obtain ⟨z1, z2, -⟩ := hb.2.2 q
  have h2 : ¬ g 100 1 = 2 := by rw [h1]; decide
  refine ⟨(bI_t ⟨fun _ => q, fun h => absurd h h2⟩).symm, fun _ => ?_, fun q hq => (k4 q hq).trans (e4 q hq)⟩
  simp only [oD, if_pos h1]
  refine ⟨?_, ?_, ?_, ?_⟩
  · rw [k0, z1, z2]; rfl
  · rw [k1, z1, z2]; rfl
  · rw [k2, e2]; rfl
  · rw [k3, e3]; rfl
theorem fo_D {g : Nat → Nat → Int32} {p : Int32} {d u : Nat → Nat → Int64} (h2 : g 100 1 = 2) (hc : ¬ (0 ≤ p + 1 ∧ p + 1 < g 100 7)) (hu : dP d 0 0 0 0 0 u) : foP g p d 0 u := by
  have n : ¬ oOk g p := fun h => hc (h.2 h2)
  exact ⟨(bI_f n).symm, fun h => absurd h n, hu.2.2.2.2⟩
theorem fo_E {g : Nat → Nat → Int32} {p : Int32} {d u u2 : Nat → Nat → Int64} (h2 : g 100 1 = 2) (hc : 0 ≤ p + 1 ∧ p + 1 < g 100 7) (hu : dP d 0 0 0 0 0 u) (hu2 : dP u 0 (u 0 0) (u 0 1) (4225 * (rw_ g 1 (p + 1) - rw_ g 1 p).toInt64) (4225 * (rw_ g 2 (p + 1) - rw_ g 2 p).toInt64) u2) : foP g p d 1 u2 := by
  obtain ⟨e0, e1, e2, e3, e4⟩ := hu
  obtain ⟨k0, k1, k2, k3, k4⟩ := hu2
  have h1 : ¬ g 100 1 = 1 := by rw [h2]; decide
  refine ⟨(bI_t ⟨fun h => absurd h h1, fun _ => hc⟩).symm, fun _ => ?_, fun q hq => (k4 q hq).trans (e4 q hq)⟩
  simp only [oD, if_neg h1, if_pos h2]
  refine ⟨?_, ?_, ?_, ?_⟩
  · rw [k0, e0]; rfl
  · rw [k1, e1]; rfl
  · rw [k2]; rfl
  · rw [k3]; rfl
theorem fp_ok {d u1 u2 u3 : Nat → Nat → Int64} {x y : Int64} (h1 : dP d 1 0 0 0 0 u1) (h2 : dP u1 1 x y (u1 1 2) (u1 1 3) u2) (h3 : dP u2 1 (u2 1 0 - u2 0 0) (u2 1 1 - u2 0 1) (u2 1 2 - u2 0 2) (u2 1 3 - u2 0 3) u3) : dP d 1 (x - d 0 0) (y - d 0 1) (0 - d 0 2) (0 - d 0 3) u3 := by
  obtain ⟨a0, a1, a2, a3, a4⟩ := h1
  obtain ⟨b0, b1, b2, b3, b4⟩ := h2
  obtain ⟨c0, c1, c2, c3, c4⟩ := h3
  have z : u2 0 = d 0 := (b4 0 (by decide)).trans (a4 0 (by decide))
  refine ⟨?_, ?_, ?_, ?_, fun q hq => ((c4 q hq).trans (b4 q hq)).trans (a4 q hq)⟩
  · rw [c0, b0, z]
  · rw [c1, b1, z]
  · rw [c2, b2, a2, z]
  · rw [c3, b3, a3, z]
/-- the fate of a cell; the item of its readings -/
abbrev itC (g : Nat → Nat → Int32) (p c : Int32) : Int32 := g 100 0 * p + c
def fateV (g : Nat → Nat → Int32) (p c h : Int32) : Int32 := if h = 0 then 1 else if ¬ rLo g 0 (itC g p c) ≤ 1 then 2 else if rw_ g 3 p ≤ c + g 100 3 then 3 else if rLo g 0 (itC g p c) = 1 ∧ g 100 4 = 0 then 4 else if ¬ (-g 100 5 ≤ rOd g 0 (itC g p c) ∧ rOd g 0 (itC g p c) ≤ g 100 5) then 5 else if (-20000 ≤ rAl g 0 (itC g p c) ∧ rAl g 0 (itC g p c) ≤ 20000) ∧ -20000 ≤ rAc g 0 (itC g p c) ∧ rAc g 0 (itC g p c) ≤ 20000 then 0 else 6
def jdP (g : Nat → Nat → Int32) (p c h r : Int32) (u : Nat → Int32) : Prop := r = fateV g p c h ∧ (¬ h = 0 → rLo g 0 (itC g p c) ≤ 1 → u 2 = rAl g 0 (itC g p c) ∧ u 3 = rAc g 0 (itC g p c))
theorem jd_1 {g : Nat → Nat → Int32} {p c h : Int32} {u : Nat → Int32} (h0 : h = 0) : jdP g p c h 1 u := ⟨by simp only [fateV, if_pos h0], fun q => absurd h0 q⟩
theorem jd_a {g : Nat → Nat → Int32} {p c : Int32} {u : Nat → Int32} (hu : rdP g 0 (itC g p c) u) (hc : ¬ u 0 = 0) : rLo g 0 (itC g p c) ≤ 1 := by
  have := hu.1
  rw [this] at hc
  exact bI_n0.mp hc
theorem jd_2 {g : Nat → Nat → Int32} {p c h : Int32} {u : Nat → Int32} (h0 : ¬ h = 0) (hu : rdP g 0 (itC g p c) u) (hc : u 0 = 0) : jdP g p c h 2 u := by
  have q : ¬ rLo g 0 (itC g p c) ≤ 1 := by
    have := hu.1
    rw [hc] at this
    exact bI_0.mp this.symm
  exact ⟨by simp only [fateV, if_neg h0, if_pos q], fun _ z => absurd z q⟩
theorem jd_x {g : Nat → Nat → Int32} {p c h r : Int32} {u : Nat → Int32} (h0 : ¬ h = 0) (hu : rdP g 0 (itC g p c) u) (hc : ¬ u 0 = 0) (hr : r = if rw_ g 3 p ≤ c + g 100 3 then 3 else if ¬ u 1 = 0 ∧ g 100 4 = 0 then 4 else if ¬ (-g 100 5 ≤ u 4 ∧ u 4 ≤ g 100 5) then 5 else if (-20000 ≤ u 2 ∧ u 2 ≤ 20000) ∧ -20000 ≤ u 3 ∧ u 3 ≤ 20000 then 0 else 6) : jdP g p c h r u := by
  have q := jd_a hu hc
  obtain ⟨z1, z2, z3⟩ := hu.2.2 q
  have z4 : (¬ u 1 = 0) = (rLo g 0 (itC g p c) = 1) := by rw [hu.2.1]; exact propext bI_n0
  refine ⟨?_, fun _ _ => ⟨z1, z2⟩⟩
  rw [hr]
  simp only [fateV, if_neg h0, if_neg (not_not_intro q), z1, z2, z3, z4]
  rfl
theorem rl_in {r : Nat} {r0 : Int32} (hr : r < 8) (he : r0 = nI r) : 0 ≤ r0 ∧ r0 < 8 := by
  subst he
  exact ⟨nI_pos' (by omega), (nI_ltI (by omega) (by decide)).mpr hr⟩
theorem rl_vin {r : Nat} {r0 : Int32} (hr : r < 8) (he : r0 = nI r) : vp_in r0 8 := by
  subst he
  exact vp_in_nI hr (by decide)
theorem rl_ad {ad : Nat → Nat} {r : Nat} {r0 : Int32} (hr : r < 8) (he : r0 = nI r) : some (ad (12 + r0.toNatClampNeg)) = some (ad (12 + r)) := by
  subst he
  rw [nI_clamp (by omega)]
end
section
set_option maxHeartbeats 4000000 in
set_option maxRecDepth 100000 in
theorem kX4_isWithin (l : Launch) (D : va_G) (cI cO : ClassId) (tt : Nat) (w : va_W) (H0 : Heap) (x0 : Int32) (a0 : Int32) (b0 : Int32)  : MpI l yX4_isWithin wsX4_isWithin ({ frames := 0, cells := 0, slots := 0, locals := 0 }) D cI cO tt (w) H0 [.int x0, .int a0, .int b0] (bI (a0 ≤ x0 ∧ x0 ≤ b0)) := by
  refine Met.ofW (cc := cX4_isWithin) (maxL := 3) (ret := (some .boolean)) (by decide) rfl ?_
  intro p e s m args below meth c s₁ B hml hv
  obtain ⟨rfl, rfl, hP, hK, hZ, hN⟩ := hv
  have hx := B.exec
  have hb := B.bytes
  have hr := B.returns
  have hts := atoms_spec (ws := wsX4_isWithin) B.pre
  have hown : s.vm.findClass RX4 = some m.cls := findClass_of_methodNamed B.named
  have hlocks := B.notSynchronized
  have hS : va_S (fun _ => False) s.heap s.heap [] := va_S.rf
  have hl := lv_entry ([.int x0, .int a0, .int b0]) (n := 3) (Nat.le_of_ble_eq_true rfl)
  rw [lg_entry_eq]
  generalize (lg_sl ([.int x0, .int a0, .int b0]) ++ List.replicate (3 - (lg_sl ([.int x0, .int a0, .int b0])).length) Slot.unset).toArray = ls at hl ⊢
  have hl : lv_has ls 3 [(0, .int x0), (1, .int a0), (2, .int b0)] := hl
  refine lv_iload_n hx hb dX4_isWithin_0 rfl (lv_at hl 0 rfl) ?_
  refine lv_iload_n hx hb dX4_isWithin_1 rfl (lv_at hl 1 rfl) ?_
  refine lv_icmp_lt (tgt := 14) hx hb dX4_isWithin_2 (by decide) (fun c_1 => ?_) (fun c_1 => ?_)
  · refine lv_iconst (v := 0) hx hb dX4_isWithin_14 (by decide) ?_
    exact W.zret (v := 0) hx hb hr rfl (fun t ht hW => ⟨⟨0, (), rfl, (by grind [bI]), ht⟩, hS.F ht⟩) hS.2.2 dX4_isWithin_15
  · refine lv_iload_n hx hb dX4_isWithin_5 rfl (lv_at hl 0 rfl) ?_
    refine lv_iload_n hx hb dX4_isWithin_6 rfl (lv_at hl 2 rfl) ?_
    refine lv_icmp_gt (tgt := 14) hx hb dX4_isWithin_7 (by decide) (fun c_2 => ?_) (fun c_2 => ?_)
    · refine lv_iconst (v := 0) hx hb dX4_isWithin_14 (by decide) ?_
      exact W.zret (v := 0) hx hb hr rfl (fun t ht hW => ⟨⟨0, (), rfl, (by grind [bI]), ht⟩, hS.F ht⟩) hS.2.2 dX4_isWithin_15
    · refine lv_iconst (v := 1) hx hb dX4_isWithin_10 (by decide) ?_
      refine lv_goto (tgt := 15) hx hb dX4_isWithin_11 (by decide) ?_
      exact W.zret (v := 1) hx hb hr rfl (fun t ht hW => ⟨⟨1, (), rfl, (by grind [bI]), ht⟩, hS.F ht⟩) hS.2.2 dX4_isWithin_15
set_option maxHeartbeats 4000000 in
set_option maxRecDepth 100000 in
theorem kX4_isForm (l : Launch) (D : va_G) (cI cO : ClassId) (tt : Nat) (w : va_W) (H0 : Heap) (v0 : Int32)  : MpI l yX4_isForm wsX4_isForm ({ frames := 1, cells := 0, slots := 0, locals := 22 }) D cI cO tt (w) H0 [.int v0] (bI (0 ≤ v0 ∧ v0 ≤ 2)) := by
  refine Met.ofW (cc := cX4_isForm) (maxL := 1) (ret := (some .boolean)) (by decide) rfl ?_
  intro p e s m args below meth c s₁ B hml hv
  obtain ⟨rfl, rfl, hP, hK, hZ, hN⟩ := hv
  have hx := B.exec
  have hb := B.bytes
  have hr := B.returns
  have hts := atoms_spec (ws := wsX4_isForm) B.pre
  have hown : s.vm.findClass RX4 = some m.cls := findClass_of_methodNamed B.named
  have hlocks := B.notSynchronized
  have hS : va_S (fun _ => False) s.heap s.heap [] := va_S.rf
  have hl := lv_entry ([.int v0]) (n := 1) (Nat.le_of_ble_eq_true rfl)
  rw [lg_entry_eq]
  generalize (lg_sl ([.int v0]) ++ List.replicate (1 - (lg_sl ([.int v0])).length) Slot.unset).toArray = ls at hl ⊢
  have hl : lv_has ls 1 [(0, .int v0)] := hl
  refine lv_iload_n hx hb dX4_isForm_0 rfl (lv_at hl 0 rfl) ?_
  refine lv_iconst (v := 0) hx hb dX4_isForm_1 (by decide) ?_
  refine lv_iconst (v := 2) hx hb dX4_isForm_2 (by decide) ?_
  refine pcI (va_runS (As := [.int v0, .int 0, .int 2]) (rest := []) ⟨hx, hb, hml, hown, hts⟩ (kX4_isWithin l D cI cO tt w H v0 0 2 ) (va_cwS 3 hts gX4_isForm_X4_isWithin rfl rfl rfl (by decide +kernel) ⟨(Nat.le_of_ble_eq_true rfl), (Nat.le_of_ble_eq_true rfl)⟩) (pwS hK hZ hN hP hS) rfl rfl hl.1 rfl (lv_room (Nat.le_of_ble_eq_true rfl)) dX4_isForm_3 ⟨Nat.zero_le _, Nat.zero_le _⟩) hS (fun locs hS => ?_)
  exact W.zret (v := bI (0 ≤ v0 ∧ v0 ≤ 2)) hx hb hr bI_nar (fun t ht hW => ⟨⟨bI (0 ≤ v0 ∧ v0 ≤ 2), (), rfl, (by rfl), ht⟩, hS.F ht⟩) hS.2.2 dX4_isForm_6
set_option maxHeartbeats 4000000 in
set_option maxRecDepth 100000 in
theorem kX4_isTurn (l : Launch) (D : va_G) (cI cO : ClassId) (tt : Nat) (w : va_W) (H0 : Heap) (v0 : Int32)  : MpI l yX4_isTurn wsX4_isTurn ({ frames := 1, cells := 0, slots := 0, locals := 22 }) D cI cO tt (w) H0 [.int v0] (bI (0 ≤ v0 ∧ v0 ≤ 35)) := by
  refine Met.ofW (cc := cX4_isTurn) (maxL := 1) (ret := (some .boolean)) (by decide) rfl ?_
  intro p e s m args below meth c s₁ B hml hv
  obtain ⟨rfl, rfl, hP, hK, hZ, hN⟩ := hv
  have hx := B.exec
  have hb := B.bytes
  have hr := B.returns
  have hts := atoms_spec (ws := wsX4_isTurn) B.pre
  have hown : s.vm.findClass RX4 = some m.cls := findClass_of_methodNamed B.named
  have hlocks := B.notSynchronized
  have hS : va_S (fun _ => False) s.heap s.heap [] := va_S.rf
  have hl := lv_entry ([.int v0]) (n := 1) (Nat.le_of_ble_eq_true rfl)
  rw [lg_entry_eq]
  generalize (lg_sl ([.int v0]) ++ List.replicate (1 - (lg_sl ([.int v0])).length) Slot.unset).toArray = ls at hl ⊢
  have hl : lv_has ls 1 [(0, .int v0)] := hl
  refine lv_iload_n hx hb dX4_isTurn_0 rfl (lv_at hl 0 rfl) ?_
  refine lv_iconst (v := 0) hx hb dX4_isTurn_1 (by decide) ?_
  refine lv_bipush (v := 35) hx hb dX4_isTurn_2 (by decide) ?_
  refine pcI (va_runS (As := [.int v0, .int 0, .int 35]) (rest := []) ⟨hx, hb, hml, hown, hts⟩ (kX4_isWithin l D cI cO tt w H v0 0 35 ) (va_cwS 3 hts gX4_isTurn_X4_isWithin rfl rfl rfl (by decide +kernel) ⟨(Nat.le_of_ble_eq_true rfl), (Nat.le_of_ble_eq_true rfl)⟩) (pwS hK hZ hN hP hS) rfl rfl hl.1 rfl (lv_room (Nat.le_of_ble_eq_true rfl)) dX4_isTurn_4 ⟨Nat.zero_le _, Nat.zero_le _⟩) hS (fun locs hS => ?_)
  exact W.zret (v := bI (0 ≤ v0 ∧ v0 ≤ 35)) hx hb hr bI_nar (fun t ht hW => ⟨⟨bI (0 ≤ v0 ∧ v0 ≤ 35), (), rfl, (by rfl), ht⟩, hS.F ht⟩) hS.2.2 dX4_isTurn_7
set_option maxHeartbeats 4000000 in
set_option maxRecDepth 100000 in
theorem kX4_isPlace (l : Launch) (D : va_G) (cI cO : ClassId) (tt : Nat) (w : va_W) (H0 : Heap) (v0 : Int32)  : MpI l yX4_isPlace wsX4_isPlace ({ frames := 1, cells := 0, slots := 0, locals := 22 }) D cI cO tt (w) H0 [.int v0] (bI (-1000000 ≤ v0 ∧ v0 ≤ 1000000)) := by
  refine Met.ofW (cc := cX4_isPlace) (maxL := 1) (ret := (some .boolean)) (by decide) rfl ?_
  intro p e s m args below meth c s₁ B hml hv
  obtain ⟨rfl, rfl, hP, hK, hZ, hN⟩ := hv
  have hx := B.exec
  have hb := B.bytes
  have hr := B.returns
  have hts := atoms_spec (ws := wsX4_isPlace) B.pre
  have hown : s.vm.findClass RX4 = some m.cls := findClass_of_methodNamed B.named
  have hlocks := B.notSynchronized
  have hS : va_S (fun _ => False) s.heap s.heap [] := va_S.rf
  have hl := lv_entry ([.int v0]) (n := 1) (Nat.le_of_ble_eq_true rfl)
  rw [lg_entry_eq]
  generalize (lg_sl ([.int v0]) ++ List.replicate (1 - (lg_sl ([.int v0])).length) Slot.unset).toArray = ls at hl ⊢
  have hl : lv_has ls 1 [(0, .int v0)] := hl
  have hw0 := hts (.constant RX4 193 (-1000000)) (List.mem_cons_of_mem _ ((List.mem_of_getElem? (i := 0) rfl)))
  have hw1 := hts (.constant RX4 194 (1000000)) (List.mem_cons_of_mem _ ((List.mem_of_getElem? (i := 1) rfl)))
  refine lv_iload_n hx hb dX4_isPlace_0 rfl (lv_at hl 0 rfl) ?_
  refine lv_ldc hx hb hown hw0 dX4_isPlace_1 ?_
  refine lv_ldc hx hb hown hw1 dX4_isPlace_3 ?_
  refine pcI (va_runS (As := [.int v0, .int (-1000000), .int 1000000]) (rest := []) ⟨hx, hb, hml, hown, hts⟩ (kX4_isWithin l D cI cO tt w H v0 (-1000000) 1000000 ) (va_cwS 3 hts gX4_isPlace_X4_isWithin rfl rfl rfl (by decide +kernel) ⟨(Nat.le_of_ble_eq_true rfl), (Nat.le_of_ble_eq_true rfl)⟩) (pwS hK hZ hN hP hS) rfl rfl hl.1 rfl (lv_room (Nat.le_of_ble_eq_true rfl)) dX4_isPlace_5 ⟨Nat.zero_le _, Nat.zero_le _⟩) hS (fun locs hS => ?_)
  exact W.zret (v := bI ((-1000000) ≤ v0 ∧ v0 ≤ 1000000)) hx hb hr bI_nar (fun t ht hW => ⟨⟨bI ((-1000000) ≤ v0 ∧ v0 ≤ 1000000), (), rfl, (by rfl), ht⟩, hS.F ht⟩) hS.2.2 dX4_isPlace_8
set_option maxHeartbeats 4000000 in
set_option maxRecDepth 100000 in
theorem kX4_isPart (l : Launch) (D : va_G) (cI cO : ClassId) (tt : Nat) (w : va_W) (H0 : Heap) (v0 : Int32)  : MpI l yX4_isPart wsX4_isPart ({ frames := 1, cells := 0, slots := 0, locals := 22 }) D cI cO tt (w) H0 [.int v0] (bI (-20000 ≤ v0 ∧ v0 ≤ 20000)) := by
  refine Met.ofW (cc := cX4_isPart) (maxL := 1) (ret := (some .boolean)) (by decide) rfl ?_
  intro p e s m args below meth c s₁ B hml hv
  obtain ⟨rfl, rfl, hP, hK, hZ, hN⟩ := hv
  have hx := B.exec
  have hb := B.bytes
  have hr := B.returns
  have hts := atoms_spec (ws := wsX4_isPart) B.pre
  have hown : s.vm.findClass RX4 = some m.cls := findClass_of_methodNamed B.named
  have hlocks := B.notSynchronized
  have hS : va_S (fun _ => False) s.heap s.heap [] := va_S.rf
  have hl := lv_entry ([.int v0]) (n := 1) (Nat.le_of_ble_eq_true rfl)
  rw [lg_entry_eq]
  generalize (lg_sl ([.int v0]) ++ List.replicate (1 - (lg_sl ([.int v0])).length) Slot.unset).toArray = ls at hl ⊢
  have hl : lv_has ls 1 [(0, .int v0)] := hl
  refine lv_iload_n hx hb dX4_isPart_0 rfl (lv_at hl 0 rfl) ?_
  refine lv_sipush (v := (-20000)) hx hb dX4_isPart_1 (by decide) ?_
  refine lv_sipush (v := 20000) hx hb dX4_isPart_4 (by decide) ?_
  refine pcI (va_runS (As := [.int v0, .int (-20000), .int 20000]) (rest := []) ⟨hx, hb, hml, hown, hts⟩ (kX4_isWithin l D cI cO tt w H v0 (-20000) 20000 ) (va_cwS 3 hts gX4_isPart_X4_isWithin rfl rfl rfl (by decide +kernel) ⟨(Nat.le_of_ble_eq_true rfl), (Nat.le_of_ble_eq_true rfl)⟩) (pwS hK hZ hN hP hS) rfl rfl hl.1 rfl (lv_room (Nat.le_of_ble_eq_true rfl)) dX4_isPart_7 ⟨Nat.zero_le _, Nat.zero_le _⟩) hS (fun locs hS => ?_)
  exact W.zret (v := bI ((-20000) ≤ v0 ∧ v0 ≤ 20000)) hx hb hr bI_nar (fun t ht hW => ⟨⟨bI ((-20000) ≤ v0 ∧ v0 ≤ 20000), (), rfl, (by rfl), ht⟩, hS.F ht⟩) hS.2.2 dX4_isPart_10
set_option maxHeartbeats 4000000 in
set_option maxRecDepth 100000 in
theorem kX4_asLong (l : Launch) (D : va_G) (cI cO : ClassId) (tt : Nat) (w : va_W) (H0 : Heap) (v0 : Int32)  : MpL l yX4_asLong wsX4_asLong ({ frames := 0, cells := 0, slots := 0, locals := 0 }) D cI cO tt (w) H0 [.int v0] ((-9223372036854775808) - v0.toInt64) := by
  refine Met.ofW (cc := cX4_asLong) (maxL := 1) (ret := (some .long)) (by decide) rfl ?_
  intro p e s m args below meth c s₁ B hml hv
  obtain ⟨rfl, rfl, hP, hK, hZ, hN⟩ := hv
  have hx := B.exec
  have hb := B.bytes
  have hr := B.returns
  have hts := atoms_spec (ws := wsX4_asLong) B.pre
  have hown : s.vm.findClass RX4 = some m.cls := findClass_of_methodNamed B.named
  have hlocks := B.notSynchronized
  have hS : va_S (fun _ => False) s.heap s.heap [] := va_S.rf
  have hl := lv_entry ([.int v0]) (n := 1) (Nat.le_of_ble_eq_true rfl)
  rw [lg_entry_eq]
  generalize (lg_sl ([.int v0]) ++ List.replicate (1 - (lg_sl ([.int v0])).length) Slot.unset).toArray = ls at hl ⊢
  have hl : lv_has ls 1 [(0, .int v0)] := hl
  have hw0 := hts (.constantLong RX4 269 (-9223372036854775808)) (List.mem_cons_of_mem _ ((List.mem_of_getElem? (i := 0) rfl)))
  refine lv_ldc2 hx hb hown hw0 dX4_asLong_0 ?_
  refine lv_iload_n hx hb dX4_asLong_3 rfl (lv_at hl 0 rfl) ?_
  refine lv_i2l hx hb dX4_asLong_4 rfl ?_
  refine lv_lsub hx hb dX4_asLong_5 ?_
  exact W.lret (v := (-9223372036854775808) - v0.toInt64) hx hb hr (fun t ht hW => ⟨⟨(-9223372036854775808) - v0.toInt64, (), rfl, (by rfl), ht⟩, hS.F ht⟩) hS.2.2 dX4_asLong_6
set_option maxHeartbeats 4000000 in
set_option maxRecDepth 100000 in
theorem kX4_asNumber (l : Launch) (D : va_G) (cI cO : ClassId) (tt : Nat) (w : va_W) (H0 : Heap) (v0 : Int32)  : MpI l yX4_asNumber wsX4_asNumber ({ frames := 0, cells := 0, slots := 0, locals := 0 }) D cI cO tt (w) H0 [.int v0] (bI (¬ v0 = 0)) := by
  refine Met.ofW (cc := cX4_asNumber) (maxL := 1) (ret := (some .int)) (by decide) rfl ?_
  intro p e s m args below meth c s₁ B hml hv
  obtain ⟨rfl, rfl, hP, hK, hZ, hN⟩ := hv
  have hx := B.exec
  have hb := B.bytes
  have hr := B.returns
  have hts := atoms_spec (ws := wsX4_asNumber) B.pre
  have hown : s.vm.findClass RX4 = some m.cls := findClass_of_methodNamed B.named
  have hlocks := B.notSynchronized
  have hS : va_S (fun _ => False) s.heap s.heap [] := va_S.rf
  have hl := lv_entry ([.int v0]) (n := 1) (Nat.le_of_ble_eq_true rfl)
  rw [lg_entry_eq]
  generalize (lg_sl ([.int v0]) ++ List.replicate (1 - (lg_sl ([.int v0])).length) Slot.unset).toArray = ls at hl ⊢
  have hl : lv_has ls 1 [(0, .int v0)] := hl
  refine lv_iload_n hx hb dX4_asNumber_0 rfl (lv_at hl 0 rfl) ?_
  refine lv_if_eq (tgt := 8) hx hb dX4_asNumber_1 (by decide) (fun c_1 => ?_) (fun c_1 => ?_)
  · refine lv_iconst (v := 0) hx hb dX4_asNumber_8 (by decide) ?_
    exact W.iret (v := 0) hx hb hr (fun t ht hW => ⟨⟨0, (), rfl, (by grind [bI]), ht⟩, hS.F ht⟩) hS.2.2 dX4_asNumber_9
  · refine lv_iconst (v := 1) hx hb dX4_asNumber_4 (by decide) ?_
    refine lv_goto (tgt := 9) hx hb dX4_asNumber_5 (by decide) ?_
    exact W.iret (v := 1) hx hb hr (fun t ht hW => ⟨⟨1, (), rfl, (by grind [bI]), ht⟩, hS.F ht⟩) hS.2.2 dX4_asNumber_9
set_option maxHeartbeats 4000000 in
set_option maxRecDepth 100000 in
theorem kX0_isNone (l : Launch) (D : va_G) (cI cO : ClassId) (tt : Nat) (w : va_W) (H0 : Heap) (v0 : Int32)  : MpI l yX0_isNone wsX0_isNone ({ frames := 0, cells := 0, slots := 0, locals := 0 }) D cI cO tt (w) H0 [.int v0] (bI (nn v0)) := by
  refine Met.ofW (cc := cX0_isNone) (maxL := 1) (ret := (some .boolean)) (by decide) rfl ?_
  intro p e s m args below meth c s₁ B hml hv
  obtain ⟨rfl, rfl, hP, hK, hZ, hN⟩ := hv
  have hx := B.exec
  have hb := B.bytes
  have hr := B.returns
  have hts := atoms_spec (ws := wsX0_isNone) B.pre
  have hown : s.vm.findClass RX0 = some m.cls := findClass_of_methodNamed B.named
  have hlocks := B.notSynchronized
  have hS : va_S (fun _ => False) s.heap s.heap [] := va_S.rf
  have hl := lv_entry ([.int v0]) (n := 1) (Nat.le_of_ble_eq_true rfl)
  rw [lg_entry_eq]
  generalize (lg_sl ([.int v0]) ++ List.replicate (1 - (lg_sl ([.int v0])).length) Slot.unset).toArray = ls at hl ⊢
  have hl : lv_has ls 1 [(0, .int v0)] := hl
  refine lv_iload_n hx hb dX0_isNone_0 rfl (lv_at hl 0 rfl) ?_
  refine lv_bipush (v := (-128)) hx hb dX0_isNone_1 (by decide) ?_
  refine lv_icmp_le (tgt := 13) hx hb dX0_isNone_3 (by decide) (fun c_1 => ?_) (fun c_1 => ?_)
  · refine lv_iconst (v := 1) hx hb dX0_isNone_13 (by decide) ?_
    refine lv_goto (tgt := 18) hx hb dX0_isNone_14 (by decide) ?_
    exact W.zret (v := 1) hx hb hr rfl (fun t ht hW => ⟨⟨1, (), rfl, (by grind [bI]), ht⟩, hS.F ht⟩) hS.2.2 dX0_isNone_18
  · refine lv_iload_n hx hb dX0_isNone_6 rfl (lv_at hl 0 rfl) ?_
    refine lv_sipush (v := 20000) hx hb dX0_isNone_7 (by decide) ?_
    refine lv_icmp_le (tgt := 17) hx hb dX0_isNone_10 (by decide) (fun c_2 => ?_) (fun c_2 => ?_)
    · refine lv_iconst (v := 0) hx hb dX0_isNone_17 (by decide) ?_
      exact W.zret (v := 0) hx hb hr rfl (fun t ht hW => ⟨⟨0, (), rfl, (by grind [bI]), ht⟩, hS.F ht⟩) hS.2.2 dX0_isNone_18
    · refine lv_iconst (v := 1) hx hb dX0_isNone_13 (by decide) ?_
      refine lv_goto (tgt := 18) hx hb dX0_isNone_14 (by decide) ?_
      exact W.zret (v := 1) hx hb hr rfl (fun t ht hW => ⟨⟨1, (), rfl, (by grind [bI]), ht⟩, hS.F ht⟩) hS.2.2 dX0_isNone_18
set_option maxHeartbeats 4000000 in
set_option maxRecDepth 100000 in
theorem kX4_cOf (l : Launch) (D : va_G) (cI cO : ClassId) (tt : Nat) (w : va_W) (H0 : Heap) (t0 : Int32)  : MpL l yX4_cOf wsX4_cOf ({ frames := 0, cells := 0, slots := 0, locals := 0 }) D cI cO tt (w) H0 [.int t0] (cO t0) := by
  refine Met.ofW (cc := cX4_cOf) (maxL := 1) (ret := (some .long)) (by decide) rfl ?_
  intro p e s m args below meth c s₁ B hml hv
  obtain ⟨rfl, rfl, hP, hK, hZ, hN⟩ := hv
  have hx := B.exec
  have hb := B.bytes
  have hr := B.returns
  have hts := atoms_spec (ws := wsX4_cOf) B.pre
  have hown : s.vm.findClass RX4 = some m.cls := findClass_of_methodNamed B.named
  have hlocks := B.notSynchronized
  have hS : va_S (fun _ => False) s.heap s.heap [] := va_S.rf
  have hl := lv_entry ([.int t0]) (n := 1) (Nat.le_of_ble_eq_true rfl)
  rw [lg_entry_eq]
  generalize (lg_sl ([.int t0]) ++ List.replicate (1 - (lg_sl ([.int t0])).length) Slot.unset).toArray = ls at hl ⊢
  have hl : lv_has ls 1 [(0, .int t0)] := hl
  have hw0 := hts (.fieldLink RX4 271 "LayerSounder" "C_OF_TURNS" "[I") (List.mem_cons_of_mem _ ((List.mem_of_getElem? (i := 0) rfl)))
  refine lv_iload_n hx hb dX4_cOf_0 rfl (lv_at hl 0 rfl) ?_
  refine lv_if_lt (tgt := 19) hx hb dX4_cOf_1 (by decide) (fun c_1 => ?_) (fun c_1 => ?_)
  · refine lv_lconst (v := 0) hx hb dX4_cOf_19 (by decide) ?_
    exact W.lret (v := 0) hx hb hr (fun t ht hW => ⟨⟨0, (), rfl, (by grind [cO]), ht⟩, hS.F ht⟩) hS.2.2 dX4_cOf_20
  · refine lv_iload_n hx hb dX4_cOf_4 rfl (lv_at hl 0 rfl) ?_
    refine lv_bipush (v := 36) hx hb dX4_cOf_5 (by decide) ?_
    refine lv_icmp_ge (tgt := 19) hx hb dX4_cOf_7 (by decide) (fun c_2 => ?_) (fun c_2 => ?_)
    · refine lv_lconst (v := 0) hx hb dX4_cOf_19 (by decide) ?_
      exact W.lret (v := 0) hx hb hr (fun t ht hW => ⟨⟨0, (), rfl, (by grind [cO]), ht⟩, hS.F ht⟩) hS.2.2 dX4_cOf_20
    · refine va_gets hx hb hZ.1 hS hown hw0 (fun _ h9 => h9) dX4_cOf_10 ?_
      refine lv_iload_n hx hb dX4_cOf_13 rfl (lv_at hl 0 rfl) ?_
      refine va_ti hx hb hZ.2 hS (vin (by grind) (by grind : t0 < 36) (by decide) (by decide)) rfl dX4_cOf_14 ?_
      refine lv_i2l hx hb dX4_cOf_15 rfl ?_
      refine lv_goto (tgt := 20) hx hb dX4_cOf_16 (by decide) ?_
      exact W.lret (v := (ct t0.toNatClampNeg).toInt64) hx hb hr (fun t ht hW => ⟨⟨(ct t0.toNatClampNeg).toInt64, (), rfl, (by grind [cO]), ht⟩, hS.F ht⟩) hS.2.2 dX4_cOf_20
set_option maxHeartbeats 4000000 in
set_option maxRecDepth 100000 in
theorem kX4_sOf (l : Launch) (D : va_G) (cI cO : ClassId) (tt : Nat) (w : va_W) (H0 : Heap) (t0 : Int32)  : MpL l yX4_sOf wsX4_sOf ({ frames := 0, cells := 0, slots := 0, locals := 0 }) D cI cO tt (w) H0 [.int t0] (sO t0) := by
  refine Met.ofW (cc := cX4_sOf) (maxL := 1) (ret := (some .long)) (by decide) rfl ?_
  intro p e s m args below meth c s₁ B hml hv
  obtain ⟨rfl, rfl, hP, hK, hZ, hN⟩ := hv
  have hx := B.exec
  have hb := B.bytes
  have hr := B.returns
  have hts := atoms_spec (ws := wsX4_sOf) B.pre
  have hown : s.vm.findClass RX4 = some m.cls := findClass_of_methodNamed B.named
  have hlocks := B.notSynchronized
  have hS : va_S (fun _ => False) s.heap s.heap [] := va_S.rf
  have hl := lv_entry ([.int t0]) (n := 1) (Nat.le_of_ble_eq_true rfl)
  rw [lg_entry_eq]
  generalize (lg_sl ([.int t0]) ++ List.replicate (1 - (lg_sl ([.int t0])).length) Slot.unset).toArray = ls at hl ⊢
  have hl : lv_has ls 1 [(0, .int t0)] := hl
  have hw0 := hts (.fieldLink RX4 271 "LayerSounder" "C_OF_TURNS" "[I") (List.mem_cons_of_mem _ ((List.mem_of_getElem? (i := 0) rfl)))
  refine lv_iload_n hx hb dX4_sOf_0 rfl (lv_at hl 0 rfl) ?_
  refine lv_if_lt (tgt := 25) hx hb dX4_sOf_1 (by decide) (fun c_1 => ?_) (fun c_1 => ?_)
  · refine lv_lconst (v := 0) hx hb dX4_sOf_25 (by decide) ?_
    exact W.lret (v := 0) hx hb hr (fun t ht hW => ⟨⟨0, (), rfl, (by grind [sO]), ht⟩, hS.F ht⟩) hS.2.2 dX4_sOf_26
  · refine lv_iload_n hx hb dX4_sOf_4 rfl (lv_at hl 0 rfl) ?_
    refine lv_bipush (v := 36) hx hb dX4_sOf_5 (by decide) ?_
    refine lv_icmp_ge (tgt := 25) hx hb dX4_sOf_7 (by decide) (fun c_2 => ?_) (fun c_2 => ?_)
    · refine lv_lconst (v := 0) hx hb dX4_sOf_25 (by decide) ?_
      exact W.lret (v := 0) hx hb hr (fun t ht hW => ⟨⟨0, (), rfl, (by grind [sO]), ht⟩, hS.F ht⟩) hS.2.2 dX4_sOf_26
    · refine va_gets hx hb hZ.1 hS hown hw0 (fun _ h9 => h9) dX4_sOf_10 ?_
      refine lv_iload_n hx hb dX4_sOf_13 rfl (lv_at hl 0 rfl) ?_
      refine lv_bipush (v := 27) hx hb dX4_sOf_14 (by decide) ?_
      refine lv_iadd hx hb dX4_sOf_16 ?_
      refine lv_bipush (v := 36) hx hb dX4_sOf_17 (by decide) ?_
      refine lv_irem hx hb dX4_sOf_19 (by decide) ?_
      refine va_ti hx hb hZ.2 hS (vin_s (by grind) (by grind)) rfl dX4_sOf_20 ?_
      refine lv_i2l hx hb dX4_sOf_21 rfl ?_
      refine lv_goto (tgt := 26) hx hb dX4_sOf_22 (by decide) ?_
      exact W.lret (v := (ct ((t0 + 27) - (t0 + 27) / 36 * 36).toNatClampNeg).toInt64) hx hb hr (fun t ht hW => ⟨⟨(ct ((t0 + 27) - (t0 + 27) / 36 * 36).toNatClampNeg).toInt64, (), rfl, (by grind [sO]), ht⟩, hS.F ht⟩) hS.2.2 dX4_sOf_26
set_option maxHeartbeats 4000000 in
set_option maxRecDepth 100000 in
theorem kX4_xTurned (l : Launch) (D : va_G) (cI cO : ClassId) (tt : Nat) (w : va_W) (H0 : Heap) (x0 : Int64) (y0 : Int64) (t0 : Int32)  : MpL l yX4_xTurned wsX4_xTurned ({ frames := 1, cells := 0, slots := 0, locals := 20 }) D cI cO tt (w) H0 [.long x0, .long y0, .int t0] (xT x0 y0 t0) := by
  refine Met.ofW (cc := cX4_xTurned) (maxL := 5) (ret := (some .long)) (by decide) rfl ?_
  intro p e s m args below meth c s₁ B hml hv
  obtain ⟨rfl, rfl, hP, hK, hZ, hN⟩ := hv
  have hx := B.exec
  have hb := B.bytes
  have hr := B.returns
  have hts := atoms_spec (ws := wsX4_xTurned) B.pre
  have hown : s.vm.findClass RX4 = some m.cls := findClass_of_methodNamed B.named
  have hlocks := B.notSynchronized
  have hS : va_S (fun _ => False) s.heap s.heap [] := va_S.rf
  have hl := lv_entry ([.long x0, .long y0, .int t0]) (n := 5) (Nat.le_of_ble_eq_true rfl)
  rw [lg_entry_eq]
  generalize (lg_sl ([.long x0, .long y0, .int t0]) ++ List.replicate (5 - (lg_sl ([.long x0, .long y0, .int t0])).length) Slot.unset).toArray = ls at hl ⊢
  have hl : lv_has ls 5 [(0, .long x0), (2, .long y0), (4, .int t0)] := hl
  refine lv_iload hx hb dX4_xTurned_0 (lv_at hl 2 rfl) ?_
  refine pcL (va_runS (As := [.int t0]) (rest := []) ⟨hx, hb, hml, hown, hts⟩ (kX4_cOf l D cI cO tt w H t0 ) (va_cwS 1 hts gX4_xTurned_X4_cOf rfl rfl rfl (by decide +kernel) ⟨(Nat.le_of_ble_eq_true rfl), (Nat.le_of_ble_eq_true rfl)⟩) (pwS hK hZ hN hP hS) rfl rfl hl.1 rfl (lv_room (Nat.le_of_ble_eq_true rfl)) dX4_xTurned_2 ⟨Nat.zero_le _, Nat.zero_le _⟩) hS (fun locs hS => ?_)
  refine lv_lload_n hx hb dX4_xTurned_5 rfl (lv_at hl 0 rfl) ?_
  refine lv_lmul hx hb dX4_xTurned_6 ?_
  refine lv_iload hx hb dX4_xTurned_7 (lv_at hl 2 rfl) ?_
  refine pcL (va_runS (As := [.int t0]) (rest := [.long ((cO t0) * x0)]) ⟨hx, hb, hml, hown, hts⟩ (kX4_sOf l D cI cO tt w H t0 ) (va_cwS 1 hts gX4_xTurned_X4_sOf rfl rfl rfl (by decide +kernel) ⟨(Nat.le_of_ble_eq_true rfl), (Nat.le_of_ble_eq_true rfl)⟩) (pwS hK hZ hN hP hS) rfl rfl hl.1 rfl (lv_room (Nat.le_of_ble_eq_true rfl)) dX4_xTurned_9 ⟨Nat.zero_le _, Nat.zero_le _⟩) hS (fun locs hS => ?_)
  refine lv_lload_n hx hb dX4_xTurned_12 rfl (lv_at hl 1 rfl) ?_
  refine lv_lmul hx hb dX4_xTurned_13 ?_
  refine lv_lsub hx hb dX4_xTurned_14 ?_
  exact W.lret (v := ((cO t0) * x0) - ((sO t0) * y0)) hx hb hr (fun t ht hW => ⟨⟨((cO t0) * x0) - ((sO t0) * y0), (), rfl, (by rfl), ht⟩, hS.F ht⟩) hS.2.2 dX4_xTurned_15
set_option maxHeartbeats 4000000 in
set_option maxRecDepth 100000 in
theorem kX4_yTurned (l : Launch) (D : va_G) (cI cO : ClassId) (tt : Nat) (w : va_W) (H0 : Heap) (x0 : Int64) (y0 : Int64) (t0 : Int32)  : MpL l yX4_yTurned wsX4_yTurned ({ frames := 1, cells := 0, slots := 0, locals := 20 }) D cI cO tt (w) H0 [.long x0, .long y0, .int t0] (yT x0 y0 t0) := by
  refine Met.ofW (cc := cX4_yTurned) (maxL := 5) (ret := (some .long)) (by decide) rfl ?_
  intro p e s m args below meth c s₁ B hml hv
  obtain ⟨rfl, rfl, hP, hK, hZ, hN⟩ := hv
  have hx := B.exec
  have hb := B.bytes
  have hr := B.returns
  have hts := atoms_spec (ws := wsX4_yTurned) B.pre
  have hown : s.vm.findClass RX4 = some m.cls := findClass_of_methodNamed B.named
  have hlocks := B.notSynchronized
  have hS : va_S (fun _ => False) s.heap s.heap [] := va_S.rf
  have hl := lv_entry ([.long x0, .long y0, .int t0]) (n := 5) (Nat.le_of_ble_eq_true rfl)
  rw [lg_entry_eq]
  generalize (lg_sl ([.long x0, .long y0, .int t0]) ++ List.replicate (5 - (lg_sl ([.long x0, .long y0, .int t0])).length) Slot.unset).toArray = ls at hl ⊢
  have hl : lv_has ls 5 [(0, .long x0), (2, .long y0), (4, .int t0)] := hl
  refine lv_iload hx hb dX4_yTurned_0 (lv_at hl 2 rfl) ?_
  refine pcL (va_runS (As := [.int t0]) (rest := []) ⟨hx, hb, hml, hown, hts⟩ (kX4_sOf l D cI cO tt w H t0 ) (va_cwS 1 hts gX4_yTurned_X4_sOf rfl rfl rfl (by decide +kernel) ⟨(Nat.le_of_ble_eq_true rfl), (Nat.le_of_ble_eq_true rfl)⟩) (pwS hK hZ hN hP hS) rfl rfl hl.1 rfl (lv_room (Nat.le_of_ble_eq_true rfl)) dX4_yTurned_2 ⟨Nat.zero_le _, Nat.zero_le _⟩) hS (fun locs hS => ?_)
  refine lv_lload_n hx hb dX4_yTurned_5 rfl (lv_at hl 0 rfl) ?_
  refine lv_lmul hx hb dX4_yTurned_6 ?_
  refine lv_iload hx hb dX4_yTurned_7 (lv_at hl 2 rfl) ?_
  refine pcL (va_runS (As := [.int t0]) (rest := [.long ((sO t0) * x0)]) ⟨hx, hb, hml, hown, hts⟩ (kX4_cOf l D cI cO tt w H t0 ) (va_cwS 1 hts gX4_yTurned_X4_cOf rfl rfl rfl (by decide +kernel) ⟨(Nat.le_of_ble_eq_true rfl), (Nat.le_of_ble_eq_true rfl)⟩) (pwS hK hZ hN hP hS) rfl rfl hl.1 rfl (lv_room (Nat.le_of_ble_eq_true rfl)) dX4_yTurned_9 ⟨Nat.zero_le _, Nat.zero_le _⟩) hS (fun locs hS => ?_)
  refine lv_lload_n hx hb dX4_yTurned_12 rfl (lv_at hl 1 rfl) ?_
  refine lv_lmul hx hb dX4_yTurned_13 ?_
  refine lv_ladd hx hb dX4_yTurned_14 ?_
  exact W.lret (v := ((sO t0) * x0) + ((cO t0) * y0)) hx hb hr (fun t ht hW => ⟨⟨((sO t0) * x0) + ((cO t0) * y0), (), rfl, (by rfl), ht⟩, hS.F ht⟩) hS.2.2 dX4_yTurned_15
set_option maxHeartbeats 4000000 in
set_option maxRecDepth 100000 in
theorem kX4_belowZero (l : Launch) (D : va_G) (cI cO : ClassId) (tt : Nat) (w : va_W) (H0 : Heap) (x0 : Int64)  : MpL l yX4_belowZero wsX4_belowZero ({ frames := 0, cells := 0, slots := 0, locals := 0 }) D cI cO tt (w) H0 [.long x0] (bz x0) := by
  refine Met.ofW (cc := cX4_belowZero) (maxL := 2) (ret := (some .long)) (by decide) rfl ?_
  intro p e s m args below meth c s₁ B hml hv
  obtain ⟨rfl, rfl, hP, hK, hZ, hN⟩ := hv
  have hx := B.exec
  have hb := B.bytes
  have hr := B.returns
  have hts := atoms_spec (ws := wsX4_belowZero) B.pre
  have hown : s.vm.findClass RX4 = some m.cls := findClass_of_methodNamed B.named
  have hlocks := B.notSynchronized
  have hS : va_S (fun _ => False) s.heap s.heap [] := va_S.rf
  have hl := lv_entry ([.long x0]) (n := 2) (Nat.le_of_ble_eq_true rfl)
  rw [lg_entry_eq]
  generalize (lg_sl ([.long x0]) ++ List.replicate (2 - (lg_sl ([.long x0])).length) Slot.unset).toArray = ls at hl ⊢
  have hl : lv_has ls 2 [(0, .long x0)] := hl
  refine lv_lload_n hx hb dX4_belowZero_0 rfl (lv_at hl 0 rfl) ?_
  refine lv_lconst (v := 0) hx hb dX4_belowZero_1 (by decide) ?_
  refine W.lcmp hx hb dX4_belowZero_2 ?_
  refine lv_if_le (tgt := 11) hx hb dX4_belowZero_3 (by decide) (fun c_1 => ?_) (fun c_1 => ?_)
  · have c_1 := (lg_cmp_le _ _).mp c_1
    refine lv_lload_n hx hb dX4_belowZero_11 rfl (lv_at hl 0 rfl) ?_
    exact W.lret (v := x0) hx hb hr (fun t ht hW => ⟨⟨x0, (), rfl, (by grind [bz]), ht⟩, hS.F ht⟩) hS.2.2 dX4_belowZero_12
  · have c_1 := fun h => c_1 ((lg_cmp_le _ _).mpr h)
    refine lv_lload_n hx hb dX4_belowZero_6 rfl (lv_at hl 0 rfl) ?_
    refine lv_lneg hx hb dX4_belowZero_7 ?_
    refine lv_goto (tgt := 12) hx hb dX4_belowZero_8 (by decide) ?_
    exact W.lret (v := -x0) hx hb hr (fun t ht hW => ⟨⟨-x0, (), rfl, (by grind [bz]), ht⟩, hS.F ht⟩) hS.2.2 dX4_belowZero_12
set_option maxHeartbeats 4000000 in
set_option maxRecDepth 100000 in
theorem kX2_isLost (l : Launch) (D : va_G) (cI cO : ClassId) (tt : Nat) (ad : Nat → Nat) (g : Nat → Nat → Int32) (b : Nat → Int32) (d : Nat → Nat → Int64) (X : va_W) (H0 : Heap) (r : Nat) (hr : r < 8) : MpI l yX2_isLost wsX2_isLost ({ frames := 0, cells := 0, slots := 0, locals := 0 }) D cI cO tt (LW ad cI cO g b d X) H0 [.ref (ad (12 + r))] (bI (g 4 r = -1)) := by
  refine Met.ofW (cc := cX2_isLost) (maxL := 1) (ret := (some .boolean)) (by decide) rfl ?_
  intro p e s m args below meth c s₁ B hml hv
  obtain ⟨rfl, rfl, hP, hK, hZ, hN⟩ := hv
  have hx := B.exec
  have hb := B.bytes
  have hr := B.returns
  have hts := atoms_spec (ws := wsX2_isLost) B.pre
  have hown : s.vm.findClass RX2 = some m.cls := findClass_of_methodNamed B.named
  have hlocks := B.notSynchronized
  have hS : va_S (fun _ => False) s.heap s.heap [] := va_S.rf
  have hl := lv_entry ([.ref (ad (12 + r))]) (n := 1) (Nat.le_of_ble_eq_true rfl)
  rw [lg_entry_eq]
  generalize (lg_sl ([.ref (ad (12 + r))]) ++ List.replicate (1 - (lg_sl ([.ref (ad (12 + r))])).length) Slot.unset).toArray = ls at hl ⊢
  have hl : lv_has ls 1 [(0, .ref (ad (12 + r)))] := hl
  have hw0 := hts (.fieldLink RX2 15 "LayerSounder$Reel" "form" "I") (List.mem_cons_of_mem _ (List.mem_append_left _ (List.mem_of_getElem? (i := 0) rfl)))
  have iX2 : ∀ w ∈ wsX20, w ∈ wsX2_isLost := fun _ h => List.mem_cons_of_mem _ (List.mem_append_right _ h)
  refine lv_aload_n hx hb dX2_isLost_0 rfl (lv_at hl 0 rfl) ?_
  refine va_get (D := D) (ci := 2) (v := .int (g 4 r)) (C := RX2) (T := TX2) (N := 3) hx hb hts iX2 hown hK hP (12 + r) (LW_r hr) rfl 1 (by decide) hw0 (fun _ h9 => h9) rfl dX2_isLost_1 ?_
  refine lv_iconst (v := (-1)) hx hb dX2_isLost_4 (by decide) ?_
  refine lv_icmp_ne (tgt := 12) hx hb dX2_isLost_5 (by decide) (fun c_1 => ?_) (fun c_1 => ?_)
  · refine lv_iconst (v := 0) hx hb dX2_isLost_12 (by decide) ?_
    exact W.zret (v := 0) hx hb hr rfl (fun t ht hW => ⟨⟨0, (), rfl, (by grind [bI]), ht⟩, hS.F ht⟩) hS.2.2 dX2_isLost_13
  · refine lv_iconst (v := 1) hx hb dX2_isLost_8 (by decide) ?_
    refine lv_goto (tgt := 13) hx hb dX2_isLost_9 (by decide) ?_
    exact W.zret (v := 1) hx hb hr rfl (fun t ht hW => ⟨⟨1, (), rfl, (by grind [bI]), ht⟩, hS.F ht⟩) hS.2.2 dX2_isLost_13
set_option maxHeartbeats 4000000 in
set_option maxRecDepth 100000 in
theorem kX2_holds (l : Launch) (D : va_G) (cI cO : ClassId) (tt : Nat) (ad : Nat → Nat) (g : Nat → Nat → Int32) (b : Nat → Int32) (d : Nat → Nat → Int64) (X : va_W) (H0 : Heap) (r : Nat) (i0 : Int32) (hr : r < 8) : MpI l yX2_holds wsX2_holds ({ frames := 0, cells := 0, slots := 0, locals := 0 }) D cI cO tt (LW ad cI cO g b d X) H0 [.ref (ad (12 + r)), .int i0] (bI (0 ≤ i0 ∧ i0 < g 5 r)) := by
  refine Met.ofW (cc := cX2_holds) (maxL := 2) (ret := (some .boolean)) (by decide) rfl ?_
  intro p e s m args below meth c s₁ B hml hv
  obtain ⟨rfl, rfl, hP, hK, hZ, hN⟩ := hv
  have hx := B.exec
  have hb := B.bytes
  have hr := B.returns
  have hts := atoms_spec (ws := wsX2_holds) B.pre
  have hown : s.vm.findClass RX2 = some m.cls := findClass_of_methodNamed B.named
  have hlocks := B.notSynchronized
  have hS : va_S (fun _ => False) s.heap s.heap [] := va_S.rf
  have hl := lv_entry ([.ref (ad (12 + r)), .int i0]) (n := 2) (Nat.le_of_ble_eq_true rfl)
  rw [lg_entry_eq]
  generalize (lg_sl ([.ref (ad (12 + r)), .int i0]) ++ List.replicate (2 - (lg_sl ([.ref (ad (12 + r)), .int i0])).length) Slot.unset).toArray = ls at hl ⊢
  have hl : lv_has ls 2 [(0, .ref (ad (12 + r))), (1, .int i0)] := hl
  have hw0 := hts (.fieldLink RX2 19 "LayerSounder$Reel" "size" "I") (List.mem_cons_of_mem _ (List.mem_append_left _ (List.mem_of_getElem? (i := 0) rfl)))
  have iX2 : ∀ w ∈ wsX20, w ∈ wsX2_holds := fun _ h => List.mem_cons_of_mem _ (List.mem_append_right _ h)
  refine lv_iload_n hx hb dX2_holds_0 rfl (lv_at hl 1 rfl) ?_
  refine lv_if_lt (tgt := 16) hx hb dX2_holds_1 (by decide) (fun c_1 => ?_) (fun c_1 => ?_)
  · refine lv_iconst (v := 0) hx hb dX2_holds_16 (by decide) ?_
    exact W.zret (v := 0) hx hb hr rfl (fun t ht hW => ⟨⟨0, (), rfl, (by grind [bI]), ht⟩, hS.F ht⟩) hS.2.2 dX2_holds_17
  · refine lv_iload_n hx hb dX2_holds_4 rfl (lv_at hl 1 rfl) ?_
    refine lv_aload_n hx hb dX2_holds_5 rfl (lv_at hl 0 rfl) ?_
    refine va_get (D := D) (ci := 2) (v := .int (g 5 r)) (C := RX2) (T := TX2) (N := 3) hx hb hts iX2 hown hK hP (12 + r) (LW_r hr) rfl 2 (by decide) hw0 (fun _ h9 => h9) rfl dX2_holds_6 ?_
    refine lv_icmp_ge (tgt := 16) hx hb dX2_holds_9 (by decide) (fun c_2 => ?_) (fun c_2 => ?_)
    · refine lv_iconst (v := 0) hx hb dX2_holds_16 (by decide) ?_
      exact W.zret (v := 0) hx hb hr rfl (fun t ht hW => ⟨⟨0, (), rfl, (by grind [bI]), ht⟩, hS.F ht⟩) hS.2.2 dX2_holds_17
    · refine lv_iconst (v := 1) hx hb dX2_holds_12 (by decide) ?_
      refine lv_goto (tgt := 17) hx hb dX2_holds_13 (by decide) ?_
      exact W.zret (v := 1) hx hb hr rfl (fun t ht hW => ⟨⟨1, (), rfl, (by grind [bI]), ht⟩, hS.F ht⟩) hS.2.2 dX2_holds_17
set_option maxHeartbeats 4000000 in
set_option maxRecDepth 100000 in
theorem kX2_holdsRun (l : Launch) (D : va_G) (cI cO : ClassId) (tt : Nat) (ad : Nat → Nat) (g : Nat → Nat → Int32) (b : Nat → Int32) (d : Nat → Nat → Int64) (X : va_W) (H0 : Heap) (r : Nat) (i0 : Int32) (n0 : Int32) (hr : r < 8) : MpI l yX2_holdsRun wsX2_holdsRun ({ frames := 0, cells := 0, slots := 0, locals := 0 }) D cI cO tt (LW ad cI cO g b d X) H0 [.ref (ad (12 + r)), .int i0, .int n0] (bI (0 ≤ i0 ∧ 0 ≤ n0 ∧ i0 ≤ g 5 r - n0)) := by
  refine Met.ofW (cc := cX2_holdsRun) (maxL := 3) (ret := (some .boolean)) (by decide) rfl ?_
  intro p e s m args below meth c s₁ B hml hv
  obtain ⟨rfl, rfl, hP, hK, hZ, hN⟩ := hv
  have hx := B.exec
  have hb := B.bytes
  have hr := B.returns
  have hts := atoms_spec (ws := wsX2_holdsRun) B.pre
  have hown : s.vm.findClass RX2 = some m.cls := findClass_of_methodNamed B.named
  have hlocks := B.notSynchronized
  have hS : va_S (fun _ => False) s.heap s.heap [] := va_S.rf
  have hl := lv_entry ([.ref (ad (12 + r)), .int i0, .int n0]) (n := 3) (Nat.le_of_ble_eq_true rfl)
  rw [lg_entry_eq]
  generalize (lg_sl ([.ref (ad (12 + r)), .int i0, .int n0]) ++ List.replicate (3 - (lg_sl ([.ref (ad (12 + r)), .int i0, .int n0])).length) Slot.unset).toArray = ls at hl ⊢
  have hl : lv_has ls 3 [(0, .ref (ad (12 + r))), (1, .int i0), (2, .int n0)] := hl
  have hw0 := hts (.fieldLink RX2 19 "LayerSounder$Reel" "size" "I") (List.mem_cons_of_mem _ (List.mem_append_left _ (List.mem_of_getElem? (i := 0) rfl)))
  have iX2 : ∀ w ∈ wsX20, w ∈ wsX2_holdsRun := fun _ h => List.mem_cons_of_mem _ (List.mem_append_right _ h)
  refine lv_iload_n hx hb dX2_holdsRun_0 rfl (lv_at hl 1 rfl) ?_
  refine lv_if_lt (tgt := 22) hx hb dX2_holdsRun_1 (by decide) (fun c_1 => ?_) (fun c_1 => ?_)
  · refine lv_iconst (v := 0) hx hb dX2_holdsRun_22 (by decide) ?_
    exact W.zret (v := 0) hx hb hr rfl (fun t ht hW => ⟨⟨0, (), rfl, (by grind [bI]), ht⟩, hS.F ht⟩) hS.2.2 dX2_holdsRun_23
  · refine lv_iload_n hx hb dX2_holdsRun_4 rfl (lv_at hl 2 rfl) ?_
    refine lv_if_lt (tgt := 22) hx hb dX2_holdsRun_5 (by decide) (fun c_2 => ?_) (fun c_2 => ?_)
    · refine lv_iconst (v := 0) hx hb dX2_holdsRun_22 (by decide) ?_
      exact W.zret (v := 0) hx hb hr rfl (fun t ht hW => ⟨⟨0, (), rfl, (by grind [bI]), ht⟩, hS.F ht⟩) hS.2.2 dX2_holdsRun_23
    · refine lv_iload_n hx hb dX2_holdsRun_8 rfl (lv_at hl 1 rfl) ?_
      refine lv_aload_n hx hb dX2_holdsRun_9 rfl (lv_at hl 0 rfl) ?_
      refine va_get (D := D) (ci := 2) (v := .int (g 5 r)) (C := RX2) (T := TX2) (N := 3) hx hb hts iX2 hown hK hP (12 + r) (LW_r hr) rfl 2 (by decide) hw0 (fun _ h9 => h9) rfl dX2_holdsRun_10 ?_
      refine lv_iload_n hx hb dX2_holdsRun_13 rfl (lv_at hl 2 rfl) ?_
      refine lv_isub hx hb dX2_holdsRun_14 ?_
      refine lv_icmp_gt (tgt := 22) hx hb dX2_holdsRun_15 (by decide) (fun c_3 => ?_) (fun c_3 => ?_)
      · refine lv_iconst (v := 0) hx hb dX2_holdsRun_22 (by decide) ?_
        exact W.zret (v := 0) hx hb hr rfl (fun t ht hW => ⟨⟨0, (), rfl, (by grind [bI]), ht⟩, hS.F ht⟩) hS.2.2 dX2_holdsRun_23
      · refine lv_iconst (v := 1) hx hb dX2_holdsRun_18 (by decide) ?_
        refine lv_goto (tgt := 23) hx hb dX2_holdsRun_19 (by decide) ?_
        exact W.zret (v := 1) hx hb hr rfl (fun t ht hW => ⟨⟨1, (), rfl, (by grind [bI]), ht⟩, hS.F ht⟩) hS.2.2 dX2_holdsRun_23
set_option maxHeartbeats 4000000 in
set_option maxRecDepth 100000 in
theorem kX2_findingAt (l : Launch) (D : va_G) (cI cO : ClassId) (tt : Nat) (ad : Nat → Nat) (g : Nat → Nat → Int32) (b : Nat → Int32) (d : Nat → Nat → Int64) (X : va_W) (H0 : Heap) (r : Nat) (f0 : Int32) (i0 : Int32) (hr : r < 8) : MpI l yX2_findingAt wsX2_findingAt ({ frames := 1, cells := 0, slots := 0, locals := 21 }) D cI cO tt (LW ad cI cO g b d X) H0 [.ref (ad (12 + r)), .int f0, .int i0] (fnd g r f0 i0) := by
  refine Met.ofW (cc := cX2_findingAt) (maxL := 3) (ret := (some .int)) (by decide) rfl ?_
  intro p e s m args below meth c s₁ B hml hv
  obtain ⟨rfl, rfl, hP, hK, hZ, hN⟩ := hv
  have hx := B.exec
  have hb := B.bytes
  have hr := B.returns
  have hts := atoms_spec (ws := wsX2_findingAt) B.pre
  have hown : s.vm.findClass RX2 = some m.cls := findClass_of_methodNamed B.named
  have hlocks := B.notSynchronized
  have hS : va_S (fun _ => False) s.heap s.heap [] := va_S.rf
  have hl := lv_entry ([.ref (ad (12 + r)), .int f0, .int i0]) (n := 3) (Nat.le_of_ble_eq_true rfl)
  rw [lg_entry_eq]
  generalize (lg_sl ([.ref (ad (12 + r)), .int f0, .int i0]) ++ List.replicate (3 - (lg_sl ([.ref (ad (12 + r)), .int f0, .int i0])).length) Slot.unset).toArray = ls at hl ⊢
  have hl : lv_has ls 3 [(0, .ref (ad (12 + r))), (1, .int f0), (2, .int i0)] := hl
  have hw0 := hts (.fieldLink RX2 15 "LayerSounder$Reel" "form" "I") (List.mem_cons_of_mem _ (List.mem_append_left _ (List.mem_of_getElem? (i := 0) rfl)))
  have iX2 : ∀ w ∈ wsX20, w ∈ wsX2_findingAt := fun _ h => List.mem_cons_of_mem _ (List.mem_append_right _ h)
  refine lv_aload_n hx hb dX2_findingAt_0 rfl (lv_at hl 0 rfl) ?_
  refine pcI (va_runV (As := []) (rest := []) ⟨hx, hb, hml, hown, hts⟩ (kX2_isLost l D cI cO tt ad g b d X H r hr) (cwV 0 hts gX2_findingAt_X2_isLost rfl rfl rfl (by decide +kernel) ⟨(Nat.le_of_ble_eq_true rfl), (Nat.le_of_ble_eq_true rfl)⟩) (pwV hK hZ hN hP hS (va_recv hK hP (ci := 2) (q0 := (12 + r)) rfl (LW_r hr))) rfl rfl hl.1 rfl (lv_room (Nat.le_of_ble_eq_true rfl)) dX2_findingAt_1 ⟨Nat.zero_le _, Nat.zero_le _⟩) hS (fun locs hS => ?_)
  refine lv_if_eq (tgt := 9) hx hb dX2_findingAt_4 (by decide) (fun c_1 => ?_) (fun c_1 => ?_)
  · have c_1 := bI_0.mp c_1
    refine lv_aload_n hx hb dX2_findingAt_9 rfl (lv_at hl 0 rfl) ?_
    refine va_get (D := D) (ci := 2) (v := .int (g 4 r)) (C := RX2) (T := TX2) (N := 3) hx hb hts iX2 hown hK hP (12 + r) (LW_r hr) rfl 1 (by decide) hw0 (fun _ h9 => h9) rfl dX2_findingAt_10 ?_
    refine lv_iload_n hx hb dX2_findingAt_13 rfl (lv_at hl 1 rfl) ?_
    refine lv_icmp_eq (tgt := 19) hx hb dX2_findingAt_14 (by decide) (fun c_2 => ?_) (fun c_2 => ?_)
    · refine lv_aload_n hx hb dX2_findingAt_19 rfl (lv_at hl 0 rfl) ?_
      refine lv_iload_n hx hb dX2_findingAt_20 rfl (lv_at hl 2 rfl) ?_
      refine pcI (va_runV (As := [.int i0]) (rest := []) ⟨hx, hb, hml, hown, hts⟩ (kX2_holds l D cI cO tt ad g b d X H r i0 hr) (cwV 1 hts gX2_findingAt_X2_holds rfl rfl rfl (by decide +kernel) ⟨(Nat.le_of_ble_eq_true rfl), (Nat.le_of_ble_eq_true rfl)⟩) (pwV hK hZ hN hP hS (va_recv hK hP (ci := 2) (q0 := (12 + r)) rfl (LW_r hr))) rfl rfl hl.1 rfl (lv_room (Nat.le_of_ble_eq_true rfl)) dX2_findingAt_21 ⟨Nat.zero_le _, Nat.zero_le _⟩) hS (fun locs hS => ?_)
      refine lv_if_eq (tgt := 31) hx hb dX2_findingAt_24 (by decide) (fun c_3 => ?_) (fun c_3 => ?_)
      · have c_3 := bI_0.mp c_3
        refine lv_iconst (v := 2) hx hb dX2_findingAt_31 (by decide) ?_
        exact W.iret (v := 2) hx hb hr (fun t ht hW => ⟨⟨2, (), rfl, (by grind [fnd]), ht⟩, hS.F ht⟩) hS.2.2 dX2_findingAt_32
      · have c_3 := bI_n0.mp c_3
        refine lv_iconst (v := 0) hx hb dX2_findingAt_27 (by decide) ?_
        refine lv_goto (tgt := 32) hx hb dX2_findingAt_28 (by decide) ?_
        exact W.iret (v := 0) hx hb hr (fun t ht hW => ⟨⟨0, (), rfl, (by grind [fnd]), ht⟩, hS.F ht⟩) hS.2.2 dX2_findingAt_32
    · refine lv_iconst (v := 3) hx hb dX2_findingAt_17 (by decide) ?_
      exact W.iret (v := 3) hx hb hr (fun t ht hW => ⟨⟨3, (), rfl, (by grind [fnd]), ht⟩, hS.F ht⟩) hS.2.2 dX2_findingAt_18
  · have c_1 := bI_n0.mp c_1
    refine lv_iconst (v := 1) hx hb dX2_findingAt_7 (by decide) ?_
    exact W.iret (v := 1) hx hb hr (fun t ht hW => ⟨⟨1, (), rfl, (by grind [fnd]), ht⟩, hS.F ht⟩) hS.2.2 dX2_findingAt_8
set_option maxHeartbeats 4000000 in
set_option maxRecDepth 100000 in
theorem kX2_narrowed (l : Launch) (D : va_G) (cI cO : ClassId) (tt : Nat) (ad : Nat → Nat) (g : Nat → Nat → Int32) (b : Nat → Int32) (d : Nat → Nat → Int64) (X : va_W) (H0 : Heap) (r : Nat) (v0 : Int32) (hr : r < 8) : MpI l yX2_narrowed wsX2_narrowed ({ frames := 0, cells := 0, slots := 0, locals := 0 }) D cI cO tt (LW ad cI cO g b d X) H0 [.ref (ad (12 + r)), .int v0] (nrw (g 4 r) v0) := by
  refine Met.ofW (cc := cX2_narrowed) (maxL := 2) (ret := (some .int)) (by decide) rfl ?_
  intro p e s m args below meth c s₁ B hml hv
  obtain ⟨rfl, rfl, hP, hK, hZ, hN⟩ := hv
  have hx := B.exec
  have hb := B.bytes
  have hr := B.returns
  have hts := atoms_spec (ws := wsX2_narrowed) B.pre
  have hown : s.vm.findClass RX2 = some m.cls := findClass_of_methodNamed B.named
  have hlocks := B.notSynchronized
  have hS : va_S (fun _ => False) s.heap s.heap [] := va_S.rf
  have hl := lv_entry ([.ref (ad (12 + r)), .int v0]) (n := 2) (Nat.le_of_ble_eq_true rfl)
  rw [lg_entry_eq]
  generalize (lg_sl ([.ref (ad (12 + r)), .int v0]) ++ List.replicate (2 - (lg_sl ([.ref (ad (12 + r)), .int v0])).length) Slot.unset).toArray = ls at hl ⊢
  have hl : lv_has ls 2 [(0, .ref (ad (12 + r))), (1, .int v0)] := hl
  have hw0 := hts (.fieldLink RX2 15 "LayerSounder$Reel" "form" "I") (List.mem_cons_of_mem _ (List.mem_append_left _ (List.mem_of_getElem? (i := 0) rfl)))
  have iX2 : ∀ w ∈ wsX20, w ∈ wsX2_narrowed := fun _ h => List.mem_cons_of_mem _ (List.mem_append_right _ h)
  refine lv_aload_n hx hb dX2_narrowed_0 rfl (lv_at hl 0 rfl) ?_
  refine va_get (D := D) (ci := 2) (v := .int (g 4 r)) (C := RX2) (T := TX2) (N := 3) hx hb hts iX2 hown hK hP (12 + r) (LW_r hr) rfl 1 (by decide) hw0 (fun _ h9 => h9) rfl dX2_narrowed_1 ?_
  refine lv_if_ne (tgt := 10) hx hb dX2_narrowed_4 (by decide) (fun c_1 => ?_) (fun c_1 => ?_)
  · refine lv_aload_n hx hb dX2_narrowed_10 rfl (lv_at hl 0 rfl) ?_
    refine va_get (D := D) (ci := 2) (v := .int (g 4 r)) (C := RX2) (T := TX2) (N := 3) hx hb hts iX2 hown hK hP (12 + r) (LW_r hr) rfl 1 (by decide) hw0 (fun _ h9 => h9) rfl dX2_narrowed_11 ?_
    refine lv_iconst (v := 1) hx hb dX2_narrowed_14 (by decide) ?_
    refine lv_icmp_ne (tgt := 23) hx hb dX2_narrowed_15 (by decide) (fun c_2 => ?_) (fun c_2 => ?_)
    · refine lv_iload_n hx hb dX2_narrowed_23 rfl (lv_at hl 1 rfl) ?_
      exact W.iret (v := v0) hx hb hr (fun t ht hW => ⟨⟨v0, (), rfl, (by grind [nrw]), ht⟩, hS.F ht⟩) hS.2.2 dX2_narrowed_24
    · refine lv_iload_n hx hb dX2_narrowed_18 rfl (lv_at hl 1 rfl) ?_
      refine lv_i2s hx hb dX2_narrowed_19 rfl ?_
      refine lv_goto (tgt := 24) hx hb dX2_narrowed_20 (by decide) ?_
      exact W.iret (v := v0.toInt16.toInt32) hx hb hr (fun t ht hW => ⟨⟨v0.toInt16.toInt32, (), rfl, (by grind [nrw]), ht⟩, hS.F ht⟩) hS.2.2 dX2_narrowed_24
  · refine lv_iload_n hx hb dX2_narrowed_7 rfl (lv_at hl 1 rfl) ?_
    refine lv_i2b hx hb dX2_narrowed_8 rfl ?_
    exact W.iret (v := v0.toInt8.toInt32) hx hb hr (fun t ht hW => ⟨⟨v0.toInt8.toInt32, (), rfl, (by grind [nrw]), ht⟩, hS.F ht⟩) hS.2.2 dX2_narrowed_9
set_option maxHeartbeats 4000000 in
set_option maxRecDepth 100000 in
theorem kX2_item (l : Launch) (D : va_G) (cI cO : ClassId) (tt : Nat) (ad : Nat → Nat) (g : Nat → Nat → Int32) (b : Nat → Int32) (d : Nat → Nat → Int64) (X : va_W) (H0 : Heap) (r : Nat) (i0 : Int32) (hr : r < 8) (hI : WI g) : MpI l yX2_item wsX2_item ({ frames := 1, cells := 0, slots := 0, locals := 21 }) D cI cO tt (LW ad cI cO g b d X) H0 [.ref (ad (12 + r)), .int i0] (if 0 ≤ i0 ∧ i0 < g 5 r then g (10 + r) i0.toNatClampNeg else 0) := by
  refine Met.ofW (cc := cX2_item) (maxL := 2) (ret := (some .int)) (by decide) rfl ?_
  intro p e s m args below meth c s₁ B hml hv
  obtain ⟨rfl, rfl, hP, hK, hZ, hN⟩ := hv
  have hx := B.exec
  have hb := B.bytes
  have hr := B.returns
  have hts := atoms_spec (ws := wsX2_item) B.pre
  have hown : s.vm.findClass RX2 = some m.cls := findClass_of_methodNamed B.named
  have hlocks := B.notSynchronized
  have hS : va_S (fun _ => False) s.heap s.heap [] := va_S.rf
  have hl := lv_entry ([.ref (ad (12 + r)), .int i0]) (n := 2) (Nat.le_of_ble_eq_true rfl)
  rw [lg_entry_eq]
  generalize (lg_sl ([.ref (ad (12 + r)), .int i0]) ++ List.replicate (2 - (lg_sl ([.ref (ad (12 + r)), .int i0])).length) Slot.unset).toArray = ls at hl ⊢
  have hl : lv_has ls 2 [(0, .ref (ad (12 + r))), (1, .int i0)] := hl
  have hw0 := hts (.fieldLink RX2 9 "LayerSounder$Reel" "items" "[I") (List.mem_cons_of_mem _ (List.mem_append_left _ (List.mem_of_getElem? (i := 0) rfl)))
  have iX2 : ∀ w ∈ wsX20, w ∈ wsX2_item := fun _ h => List.mem_cons_of_mem _ (List.mem_append_right _ h)
  refine lv_aload_n hx hb dX2_item_0 rfl (lv_at hl 0 rfl) ?_
  refine lv_iload_n hx hb dX2_item_1 rfl (lv_at hl 1 rfl) ?_
  refine pcI (va_runV (As := [.int i0]) (rest := []) ⟨hx, hb, hml, hown, hts⟩ (kX2_holds l D cI cO tt ad g b d X H r i0 hr) (cwV 1 hts gX2_item_X2_holds rfl rfl rfl (by decide +kernel) ⟨(Nat.le_of_ble_eq_true rfl), (Nat.le_of_ble_eq_true rfl)⟩) (pwV hK hZ hN hP hS (va_recv hK hP (ci := 2) (q0 := (12 + r)) rfl (LW_r hr))) rfl rfl hl.1 rfl (lv_room (Nat.le_of_ble_eq_true rfl)) dX2_item_2 ⟨Nat.zero_le _, Nat.zero_le _⟩) hS (fun locs hS => ?_)
  refine lv_if_eq (tgt := 17) hx hb dX2_item_5 (by decide) (fun c_1 => ?_) (fun c_1 => ?_)
  · have c_1 := bI_0.mp c_1
    refine lv_iconst (v := 0) hx hb dX2_item_17 (by decide) ?_
    exact W.iret (v := 0) hx hb hr (fun t ht hW => ⟨⟨0, (), rfl, (by grind), ht⟩, hS.F ht⟩) hS.2.2 dX2_item_18
  · have c_1 := bI_n0.mp c_1
    refine lv_aload_n hx hb dX2_item_8 rfl (lv_at hl 0 rfl) ?_
    refine va_get (D := D) (ci := 2) (v := .ref (ad (20 + r))) (C := RX2) (T := TX2) (N := 3) hx hb hts iX2 hown hK hP (12 + r) (LW_r hr) rfl 0 (by decide) hw0 (fun _ h9 => h9) rfl dX2_item_9 ?_
    refine lv_iload_n hx hb dX2_item_12 rfl (lv_at hl 1 rfl) ?_
    refine va_iald hx hb hK hP (20 + r) 0 (LW_i hr) rfl (vin (p := i0) (by grind) (by grind : i0 < g 5 r) (hI.1 r hr).2 (by decide)) dX2_item_13 ?_
    refine lv_goto (tgt := 18) hx hb dX2_item_14 (by decide) ?_
    exact W.iret (v := g (10 + r) i0.toNatClampNeg) hx hb hr (fun t ht hW => ⟨⟨g (10 + r) i0.toNatClampNeg, (), rfl, (by grind), ht⟩, hS.F ht⟩) hS.2.2 dX2_item_18
set_option maxHeartbeats 4000000 in
set_option maxRecDepth 100000 in
theorem kX2_reading (l : Launch) (D : va_G) (cI cO : ClassId) (tt : Nat) (ad : Nat → Nat) (g : Nat → Nat → Int32) (b : Nat → Int32) (d : Nat → Nat → Int64) (X : va_W) (H0 : Heap) (r : Nat) (i0 : Int32) (hr : r < 8) (hI : WI g) : MpI l yX2_reading wsX2_reading ({ frames := 0, cells := 0, slots := 0, locals := 0 }) D cI cO tt (LW ad cI cO g b d X) H0 [.ref (ad (12 + r)), .int i0] (rdC g r i0) := by
  refine Met.ofW (cc := cX2_reading) (maxL := 2) (ret := (some .int)) (by decide) rfl ?_
  intro p e s m args below meth c s₁ B hml hv
  obtain ⟨rfl, rfl, hP, hK, hZ, hN⟩ := hv
  have hx := B.exec
  have hb := B.bytes
  have hr := B.returns
  have hts := atoms_spec (ws := wsX2_reading) B.pre
  have hown : s.vm.findClass RX2 = some m.cls := findClass_of_methodNamed B.named
  have hlocks := B.notSynchronized
  have hS : va_S (fun _ => False) s.heap s.heap [] := va_S.rf
  have hl := lv_entry ([.ref (ad (12 + r)), .int i0]) (n := 2) (Nat.le_of_ble_eq_true rfl)
  rw [lg_entry_eq]
  generalize (lg_sl ([.ref (ad (12 + r)), .int i0]) ++ List.replicate (2 - (lg_sl ([.ref (ad (12 + r)), .int i0])).length) Slot.unset).toArray = ls at hl ⊢
  have hl : lv_has ls 2 [(0, .ref (ad (12 + r))), (1, .int i0)] := hl
  have hw0 := hts (.fieldLink RX2 19 "LayerSounder$Reel" "size" "I") (List.mem_cons_of_mem _ (List.mem_append_left _ (List.mem_of_getElem? (i := 0) rfl)))
  have iX2 : ∀ w ∈ wsX20, w ∈ wsX2_reading := fun _ h => List.mem_cons_of_mem _ (List.mem_append_right _ h)
  have hw2 := hts (.fieldLink RX2 9 "LayerSounder$Reel" "items" "[I") (List.mem_cons_of_mem _ (List.mem_append_left _ (List.mem_of_getElem? (i := 1) rfl)))
  refine lv_iload_n hx hb dX2_reading_0 rfl (lv_at hl 1 rfl) ?_
  refine lv_if_lt (tgt := 21) hx hb dX2_reading_1 (by decide) (fun c_1 => ?_) (fun c_1 => ?_)
  · refine lv_bipush (v := (-128)) hx hb dX2_reading_21 (by decide) ?_
    exact W.iret (v := (-128)) hx hb hr (fun t ht hW => ⟨⟨(-128), (), rfl, (by grind [rdC]), ht⟩, hS.F ht⟩) hS.2.2 dX2_reading_23
  · refine lv_iload_n hx hb dX2_reading_4 rfl (lv_at hl 1 rfl) ?_
    refine lv_aload_n hx hb dX2_reading_5 rfl (lv_at hl 0 rfl) ?_
    refine va_get (D := D) (ci := 2) (v := .int (g 5 r)) (C := RX2) (T := TX2) (N := 3) hx hb hts iX2 hown hK hP (12 + r) (LW_r hr) rfl 2 (by decide) hw0 (fun _ h9 => h9) rfl dX2_reading_6 ?_
    refine lv_icmp_ge (tgt := 21) hx hb dX2_reading_9 (by decide) (fun c_2 => ?_) (fun c_2 => ?_)
    · refine lv_bipush (v := (-128)) hx hb dX2_reading_21 (by decide) ?_
      exact W.iret (v := (-128)) hx hb hr (fun t ht hW => ⟨⟨(-128), (), rfl, (by grind [rdC]), ht⟩, hS.F ht⟩) hS.2.2 dX2_reading_23
    · refine lv_aload_n hx hb dX2_reading_12 rfl (lv_at hl 0 rfl) ?_
      refine va_get (D := D) (ci := 2) (v := .ref (ad (20 + r))) (C := RX2) (T := TX2) (N := 3) hx hb hts iX2 hown hK hP (12 + r) (LW_r hr) rfl 0 (by decide) hw2 (fun _ h9 => h9) rfl dX2_reading_13 ?_
      refine lv_iload_n hx hb dX2_reading_16 rfl (lv_at hl 1 rfl) ?_
      refine va_iald hx hb hK hP (20 + r) 0 (LW_i hr) rfl (vin (p := i0) (by grind) (by grind : i0 < g 5 r) (hI.1 r hr).2 (by decide)) dX2_reading_17 ?_
      refine lv_goto (tgt := 23) hx hb dX2_reading_18 (by decide) ?_
      exact W.iret (v := g (10 + r) i0.toNatClampNeg) hx hb hr (fun t ht hW => ⟨⟨g (10 + r) i0.toNatClampNeg, (), rfl, (by grind [rdC]), ht⟩, hS.F ht⟩) hS.2.2 dX2_reading_23
set_option maxHeartbeats 4000000 in
set_option maxRecDepth 100000 in
theorem kX3_isPing (l : Launch) (D : va_G) (cI cO : ClassId) (tt : Nat) (ad : Nat → Nat) (g : Nat → Nat → Int32) (b : Nat → Int32) (d : Nat → Nat → Int64) (X : va_W) (H0 : Heap) (p0 : Int32)  : MpI l yX3_isPing wsX3_isPing ({ frames := 0, cells := 0, slots := 0, locals := 0 }) D cI cO tt (LW ad cI cO g b d X) H0 [.ref (ad 2), .int p0] (bI (0 ≤ p0 ∧ p0 < g 100 7)) := by
  refine Met.ofW (cc := cX3_isPing) (maxL := 2) (ret := (some .boolean)) (by decide) rfl ?_
  intro p e s m args below meth c s₁ B hml hv
  obtain ⟨rfl, rfl, hP, hK, hZ, hN⟩ := hv
  have hx := B.exec
  have hb := B.bytes
  have hr := B.returns
  have hts := atoms_spec (ws := wsX3_isPing) B.pre
  have hown : s.vm.findClass RX3 = some m.cls := findClass_of_methodNamed B.named
  have hlocks := B.notSynchronized
  have hS : va_S (fun _ => False) s.heap s.heap [] := va_S.rf
  have hl := lv_entry ([.ref (ad 2), .int p0]) (n := 2) (Nat.le_of_ble_eq_true rfl)
  rw [lg_entry_eq]
  generalize (lg_sl ([.ref (ad 2), .int p0]) ++ List.replicate (2 - (lg_sl ([.ref (ad 2), .int p0])).length) Slot.unset).toArray = ls at hl ⊢
  have hl : lv_has ls 2 [(0, .ref (ad 2)), (1, .int p0)] := hl
  have hw0 := hts (.fieldLink RX3 24 "LayerSounder$Track" "number" "I") (List.mem_cons_of_mem _ (List.mem_append_left _ (List.mem_of_getElem? (i := 0) rfl)))
  have iX3 : ∀ w ∈ wsX30, w ∈ wsX3_isPing := fun _ h => List.mem_cons_of_mem _ (List.mem_append_right _ h)
  refine lv_iload_n hx hb dX3_isPing_0 rfl (lv_at hl 1 rfl) ?_
  refine lv_if_lt (tgt := 16) hx hb dX3_isPing_1 (by decide) (fun c_1 => ?_) (fun c_1 => ?_)
  · refine lv_iconst (v := 0) hx hb dX3_isPing_16 (by decide) ?_
    exact W.zret (v := 0) hx hb hr rfl (fun t ht hW => ⟨⟨0, (), rfl, (by grind [bI]), ht⟩, hS.F ht⟩) hS.2.2 dX3_isPing_17
  · refine lv_iload_n hx hb dX3_isPing_4 rfl (lv_at hl 1 rfl) ?_
    refine lv_aload_n hx hb dX3_isPing_5 rfl (lv_at hl 0 rfl) ?_
    refine va_get (D := D) (ci := 3) (v := .int (g 100 7)) (C := RX3) (T := TX3) (N := 5) hx hb hts iX3 hown hK hP 2 rfl rfl 4 (by decide) hw0 (fun _ h9 => h9) rfl dX3_isPing_6 ?_
    refine lv_icmp_ge (tgt := 16) hx hb dX3_isPing_9 (by decide) (fun c_2 => ?_) (fun c_2 => ?_)
    · refine lv_iconst (v := 0) hx hb dX3_isPing_16 (by decide) ?_
      exact W.zret (v := 0) hx hb hr rfl (fun t ht hW => ⟨⟨0, (), rfl, (by grind [bI]), ht⟩, hS.F ht⟩) hS.2.2 dX3_isPing_17
    · refine lv_iconst (v := 1) hx hb dX3_isPing_12 (by decide) ?_
      refine lv_goto (tgt := 17) hx hb dX3_isPing_13 (by decide) ?_
      exact W.zret (v := 1) hx hb hr rfl (fun t ht hW => ⟨⟨1, (), rfl, (by grind [bI]), ht⟩, hS.F ht⟩) hS.2.2 dX3_isPing_17
set_option maxHeartbeats 4000000 in
set_option maxRecDepth 100000 in
theorem kX3_isSpan (l : Launch) (D : va_G) (cI cO : ClassId) (tt : Nat) (ad : Nat → Nat) (g : Nat → Nat → Int32) (b : Nat → Int32) (d : Nat → Nat → Int64) (X : va_W) (H0 : Heap) (p0 : Int32) (q0 : Int32)  : MpI l yX3_isSpan wsX3_isSpan ({ frames := 1, cells := 0, slots := 0, locals := 21 }) D cI cO tt (LW ad cI cO g b d X) H0 [.ref (ad 2), .int p0, .int q0] (bI ((0 ≤ p0 ∧ p0 < g 100 7) ∧ (0 ≤ q0 ∧ q0 < g 100 7) ∧ p0 ≤ q0)) := by
  refine Met.ofW (cc := cX3_isSpan) (maxL := 3) (ret := (some .boolean)) (by decide) rfl ?_
  intro p e s m args below meth c s₁ B hml hv
  obtain ⟨rfl, rfl, hP, hK, hZ, hN⟩ := hv
  have hx := B.exec
  have hb := B.bytes
  have hr := B.returns
  have hts := atoms_spec (ws := wsX3_isSpan) B.pre
  have hown : s.vm.findClass RX3 = some m.cls := findClass_of_methodNamed B.named
  have hlocks := B.notSynchronized
  have hS : va_S (fun _ => False) s.heap s.heap [] := va_S.rf
  have hl := lv_entry ([.ref (ad 2), .int p0, .int q0]) (n := 3) (Nat.le_of_ble_eq_true rfl)
  rw [lg_entry_eq]
  generalize (lg_sl ([.ref (ad 2), .int p0, .int q0]) ++ List.replicate (3 - (lg_sl ([.ref (ad 2), .int p0, .int q0])).length) Slot.unset).toArray = ls at hl ⊢
  have hl : lv_has ls 3 [(0, .ref (ad 2)), (1, .int p0), (2, .int q0)] := hl
  refine lv_aload_n hx hb dX3_isSpan_0 rfl (lv_at hl 0 rfl) ?_
  refine lv_iload_n hx hb dX3_isSpan_1 rfl (lv_at hl 1 rfl) ?_
  refine pcI (va_runV (As := [.int p0]) (rest := []) ⟨hx, hb, hml, hown, hts⟩ (kX3_isPing l D cI cO tt ad g b d X H p0 ) (cwV 1 hts gX3_isSpan_X3_isPing rfl rfl rfl (by decide +kernel) ⟨(Nat.le_of_ble_eq_true rfl), (Nat.le_of_ble_eq_true rfl)⟩) (pwV hK hZ hN hP hS (va_recv hK hP (ci := 3) (q0 := 2) rfl rfl)) rfl rfl hl.1 rfl (lv_room (Nat.le_of_ble_eq_true rfl)) dX3_isSpan_2 ⟨Nat.zero_le _, Nat.zero_le _⟩) hS (fun locs hS => ?_)
  refine lv_if_eq (tgt := 25) hx hb dX3_isSpan_5 (by decide) (fun c_1 => ?_) (fun c_1 => ?_)
  · have c_1 := bI_0.mp c_1
    refine lv_iconst (v := 0) hx hb dX3_isSpan_25 (by decide) ?_
    exact W.zret (v := 0) hx hb hr rfl (fun t ht hW => ⟨⟨0, (), rfl, (by grind [bI]), ht⟩, hS.F ht⟩) hS.2.2 dX3_isSpan_26
  · have c_1 := bI_n0.mp c_1
    refine lv_aload_n hx hb dX3_isSpan_8 rfl (lv_at hl 0 rfl) ?_
    refine lv_iload_n hx hb dX3_isSpan_9 rfl (lv_at hl 2 rfl) ?_
    refine pcI (va_runV (As := [.int q0]) (rest := []) ⟨hx, hb, hml, hown, hts⟩ (kX3_isPing l D cI cO tt ad g b d X H q0 ) (cwV 1 hts gX3_isSpan_X3_isPing rfl rfl rfl (by decide +kernel) ⟨(Nat.le_of_ble_eq_true rfl), (Nat.le_of_ble_eq_true rfl)⟩) (pwV hK hZ hN hP hS (va_recv hK hP (ci := 3) (q0 := 2) rfl rfl)) rfl rfl hl.1 rfl (lv_room (Nat.le_of_ble_eq_true rfl)) dX3_isSpan_10 ⟨Nat.zero_le _, Nat.zero_le _⟩) hS (fun locs hS => ?_)
    refine lv_if_eq (tgt := 25) hx hb dX3_isSpan_13 (by decide) (fun c_2 => ?_) (fun c_2 => ?_)
    · have c_2 := bI_0.mp c_2
      refine lv_iconst (v := 0) hx hb dX3_isSpan_25 (by decide) ?_
      exact W.zret (v := 0) hx hb hr rfl (fun t ht hW => ⟨⟨0, (), rfl, (by grind [bI]), ht⟩, hS.F ht⟩) hS.2.2 dX3_isSpan_26
    · have c_2 := bI_n0.mp c_2
      refine lv_iload_n hx hb dX3_isSpan_16 rfl (lv_at hl 1 rfl) ?_
      refine lv_iload_n hx hb dX3_isSpan_17 rfl (lv_at hl 2 rfl) ?_
      refine lv_icmp_gt (tgt := 25) hx hb dX3_isSpan_18 (by decide) (fun c_3 => ?_) (fun c_3 => ?_)
      · refine lv_iconst (v := 0) hx hb dX3_isSpan_25 (by decide) ?_
        exact W.zret (v := 0) hx hb hr rfl (fun t ht hW => ⟨⟨0, (), rfl, (by grind [bI]), ht⟩, hS.F ht⟩) hS.2.2 dX3_isSpan_26
      · refine lv_iconst (v := 1) hx hb dX3_isSpan_21 (by decide) ?_
        refine lv_goto (tgt := 26) hx hb dX3_isSpan_22 (by decide) ?_
        exact W.zret (v := 1) hx hb hr rfl (fun t ht hW => ⟨⟨1, (), rfl, (by grind [bI]), ht⟩, hS.F ht⟩) hS.2.2 dX3_isSpan_26
set_option maxHeartbeats 4000000 in
set_option maxRecDepth 100000 in
theorem kX3_headingOf (l : Launch) (D : va_G) (cI cO : ClassId) (tt : Nat) (ad : Nat → Nat) (g : Nat → Nat → Int32) (b : Nat → Int32) (d : Nat → Nat → Int64) (X : va_W) (H0 : Heap) (p0 : Int32) (hI : WI g) : MpI l yX3_headingOf wsX3_headingOf ({ frames := 1, cells := 0, slots := 0, locals := 21 }) D cI cO tt (LW ad cI cO g b d X) H0 [.ref (ad 2), .int p0] (rw_ g 0 p0) := by
  refine Met.ofW (cc := cX3_headingOf) (maxL := 2) (ret := (some .int)) (by decide) rfl ?_
  intro p e s m args below meth c s₁ B hml hv
  obtain ⟨rfl, rfl, hP, hK, hZ, hN⟩ := hv
  have hx := B.exec
  have hb := B.bytes
  have hr := B.returns
  have hts := atoms_spec (ws := wsX3_headingOf) B.pre
  have hown : s.vm.findClass RX3 = some m.cls := findClass_of_methodNamed B.named
  have hlocks := B.notSynchronized
  have hS : va_S (fun _ => False) s.heap s.heap [] := va_S.rf
  have hl := lv_entry ([.ref (ad 2), .int p0]) (n := 2) (Nat.le_of_ble_eq_true rfl)
  rw [lg_entry_eq]
  generalize (lg_sl ([.ref (ad 2), .int p0]) ++ List.replicate (2 - (lg_sl ([.ref (ad 2), .int p0])).length) Slot.unset).toArray = ls at hl ⊢
  have hl : lv_has ls 2 [(0, .ref (ad 2)), (1, .int p0)] := hl
  have hw0 := hts (.fieldLink RX3 9 "LayerSounder$Track" "headings" "[I") (List.mem_cons_of_mem _ (List.mem_append_left _ (List.mem_of_getElem? (i := 0) rfl)))
  have iX3 : ∀ w ∈ wsX30, w ∈ wsX3_headingOf := fun _ h => List.mem_cons_of_mem _ (List.mem_append_right _ h)
  refine lv_aload_n hx hb dX3_headingOf_0 rfl (lv_at hl 0 rfl) ?_
  refine lv_iload_n hx hb dX3_headingOf_1 rfl (lv_at hl 1 rfl) ?_
  refine pcI (va_runV (As := [.int p0]) (rest := []) ⟨hx, hb, hml, hown, hts⟩ (kX3_isPing l D cI cO tt ad g b d X H p0 ) (cwV 1 hts gX3_headingOf_X3_isPing rfl rfl rfl (by decide +kernel) ⟨(Nat.le_of_ble_eq_true rfl), (Nat.le_of_ble_eq_true rfl)⟩) (pwV hK hZ hN hP hS (va_recv hK hP (ci := 3) (q0 := 2) rfl rfl)) rfl rfl hl.1 rfl (lv_room (Nat.le_of_ble_eq_true rfl)) dX3_headingOf_2 ⟨Nat.zero_le _, Nat.zero_le _⟩) hS (fun locs hS => ?_)
  refine lv_if_eq (tgt := 17) hx hb dX3_headingOf_5 (by decide) (fun c_1 => ?_) (fun c_1 => ?_)
  · have c_1 := bI_0.mp c_1
    refine lv_iconst (v := 0) hx hb dX3_headingOf_17 (by decide) ?_
    exact W.iret (v := 0) hx hb hr (fun t ht hW => ⟨⟨0, (), rfl, (by grind [rw_]), ht⟩, hS.F ht⟩) hS.2.2 dX3_headingOf_18
  · have c_1 := bI_n0.mp c_1
    refine lv_aload_n hx hb dX3_headingOf_8 rfl (lv_at hl 0 rfl) ?_
    refine va_get (D := D) (ci := 3) (v := .ref (ad 8)) (C := RX3) (T := TX3) (N := 5) hx hb hts iX3 hown hK hP 2 rfl rfl 0 (by decide) hw0 (fun _ h9 => h9) rfl dX3_headingOf_9 ?_
    refine lv_iload_n hx hb dX3_headingOf_12 rfl (lv_at hl 1 rfl) ?_
    refine va_iald hx hb hK hP 8 0 rfl rfl (vin c_1.1 c_1.2 hI.2.1.2 (by decide)) dX3_headingOf_13 ?_
    refine lv_goto (tgt := 18) hx hb dX3_headingOf_14 (by decide) ?_
    exact W.iret (v := g 0 p0.toNatClampNeg) hx hb hr (fun t ht hW => ⟨⟨g 0 p0.toNatClampNeg, (), rfl, (by grind [rw_]), ht⟩, hS.F ht⟩) hS.2.2 dX3_headingOf_18
set_option maxHeartbeats 4000000 in
set_option maxRecDepth 100000 in
theorem kX3_xOf (l : Launch) (D : va_G) (cI cO : ClassId) (tt : Nat) (ad : Nat → Nat) (g : Nat → Nat → Int32) (b : Nat → Int32) (d : Nat → Nat → Int64) (X : va_W) (H0 : Heap) (p0 : Int32) (hI : WI g) : MpI l yX3_xOf wsX3_xOf ({ frames := 1, cells := 0, slots := 0, locals := 21 }) D cI cO tt (LW ad cI cO g b d X) H0 [.ref (ad 2), .int p0] (rw_ g 1 p0) := by
  refine Met.ofW (cc := cX3_xOf) (maxL := 2) (ret := (some .int)) (by decide) rfl ?_
  intro p e s m args below meth c s₁ B hml hv
  obtain ⟨rfl, rfl, hP, hK, hZ, hN⟩ := hv
  have hx := B.exec
  have hb := B.bytes
  have hr := B.returns
  have hts := atoms_spec (ws := wsX3_xOf) B.pre
  have hown : s.vm.findClass RX3 = some m.cls := findClass_of_methodNamed B.named
  have hlocks := B.notSynchronized
  have hS : va_S (fun _ => False) s.heap s.heap [] := va_S.rf
  have hl := lv_entry ([.ref (ad 2), .int p0]) (n := 2) (Nat.le_of_ble_eq_true rfl)
  rw [lg_entry_eq]
  generalize (lg_sl ([.ref (ad 2), .int p0]) ++ List.replicate (2 - (lg_sl ([.ref (ad 2), .int p0])).length) Slot.unset).toArray = ls at hl ⊢
  have hl : lv_has ls 2 [(0, .ref (ad 2)), (1, .int p0)] := hl
  have hw0 := hts (.fieldLink RX3 15 "LayerSounder$Track" "xs" "[I") (List.mem_cons_of_mem _ (List.mem_append_left _ (List.mem_of_getElem? (i := 0) rfl)))
  have iX3 : ∀ w ∈ wsX30, w ∈ wsX3_xOf := fun _ h => List.mem_cons_of_mem _ (List.mem_append_right _ h)
  refine lv_aload_n hx hb dX3_xOf_0 rfl (lv_at hl 0 rfl) ?_
  refine lv_iload_n hx hb dX3_xOf_1 rfl (lv_at hl 1 rfl) ?_
  refine pcI (va_runV (As := [.int p0]) (rest := []) ⟨hx, hb, hml, hown, hts⟩ (kX3_isPing l D cI cO tt ad g b d X H p0 ) (cwV 1 hts gX3_xOf_X3_isPing rfl rfl rfl (by decide +kernel) ⟨(Nat.le_of_ble_eq_true rfl), (Nat.le_of_ble_eq_true rfl)⟩) (pwV hK hZ hN hP hS (va_recv hK hP (ci := 3) (q0 := 2) rfl rfl)) rfl rfl hl.1 rfl (lv_room (Nat.le_of_ble_eq_true rfl)) dX3_xOf_2 ⟨Nat.zero_le _, Nat.zero_le _⟩) hS (fun locs hS => ?_)
  refine lv_if_eq (tgt := 17) hx hb dX3_xOf_5 (by decide) (fun c_1 => ?_) (fun c_1 => ?_)
  · have c_1 := bI_0.mp c_1
    refine lv_iconst (v := 0) hx hb dX3_xOf_17 (by decide) ?_
    exact W.iret (v := 0) hx hb hr (fun t ht hW => ⟨⟨0, (), rfl, (by grind [rw_]), ht⟩, hS.F ht⟩) hS.2.2 dX3_xOf_18
  · have c_1 := bI_n0.mp c_1
    refine lv_aload_n hx hb dX3_xOf_8 rfl (lv_at hl 0 rfl) ?_
    refine va_get (D := D) (ci := 3) (v := .ref (ad 9)) (C := RX3) (T := TX3) (N := 5) hx hb hts iX3 hown hK hP 2 rfl rfl 1 (by decide) hw0 (fun _ h9 => h9) rfl dX3_xOf_9 ?_
    refine lv_iload_n hx hb dX3_xOf_12 rfl (lv_at hl 1 rfl) ?_
    refine va_iald hx hb hK hP 9 0 rfl rfl (vin c_1.1 c_1.2 hI.2.1.2 (by decide)) dX3_xOf_13 ?_
    refine lv_goto (tgt := 18) hx hb dX3_xOf_14 (by decide) ?_
    exact W.iret (v := g 1 p0.toNatClampNeg) hx hb hr (fun t ht hW => ⟨⟨g 1 p0.toNatClampNeg, (), rfl, (by grind [rw_]), ht⟩, hS.F ht⟩) hS.2.2 dX3_xOf_18
set_option maxHeartbeats 4000000 in
set_option maxRecDepth 100000 in
theorem kX3_yOf (l : Launch) (D : va_G) (cI cO : ClassId) (tt : Nat) (ad : Nat → Nat) (g : Nat → Nat → Int32) (b : Nat → Int32) (d : Nat → Nat → Int64) (X : va_W) (H0 : Heap) (p0 : Int32) (hI : WI g) : MpI l yX3_yOf wsX3_yOf ({ frames := 1, cells := 0, slots := 0, locals := 21 }) D cI cO tt (LW ad cI cO g b d X) H0 [.ref (ad 2), .int p0] (rw_ g 2 p0) := by
  refine Met.ofW (cc := cX3_yOf) (maxL := 2) (ret := (some .int)) (by decide) rfl ?_
  intro p e s m args below meth c s₁ B hml hv
  obtain ⟨rfl, rfl, hP, hK, hZ, hN⟩ := hv
  have hx := B.exec
  have hb := B.bytes
  have hr := B.returns
  have hts := atoms_spec (ws := wsX3_yOf) B.pre
  have hown : s.vm.findClass RX3 = some m.cls := findClass_of_methodNamed B.named
  have hlocks := B.notSynchronized
  have hS : va_S (fun _ => False) s.heap s.heap [] := va_S.rf
  have hl := lv_entry ([.ref (ad 2), .int p0]) (n := 2) (Nat.le_of_ble_eq_true rfl)
  rw [lg_entry_eq]
  generalize (lg_sl ([.ref (ad 2), .int p0]) ++ List.replicate (2 - (lg_sl ([.ref (ad 2), .int p0])).length) Slot.unset).toArray = ls at hl ⊢
  have hl : lv_has ls 2 [(0, .ref (ad 2)), (1, .int p0)] := hl
  have hw0 := hts (.fieldLink RX3 18 "LayerSounder$Track" "ys" "[I") (List.mem_cons_of_mem _ (List.mem_append_left _ (List.mem_of_getElem? (i := 0) rfl)))
  have iX3 : ∀ w ∈ wsX30, w ∈ wsX3_yOf := fun _ h => List.mem_cons_of_mem _ (List.mem_append_right _ h)
  refine lv_aload_n hx hb dX3_yOf_0 rfl (lv_at hl 0 rfl) ?_
  refine lv_iload_n hx hb dX3_yOf_1 rfl (lv_at hl 1 rfl) ?_
  refine pcI (va_runV (As := [.int p0]) (rest := []) ⟨hx, hb, hml, hown, hts⟩ (kX3_isPing l D cI cO tt ad g b d X H p0 ) (cwV 1 hts gX3_yOf_X3_isPing rfl rfl rfl (by decide +kernel) ⟨(Nat.le_of_ble_eq_true rfl), (Nat.le_of_ble_eq_true rfl)⟩) (pwV hK hZ hN hP hS (va_recv hK hP (ci := 3) (q0 := 2) rfl rfl)) rfl rfl hl.1 rfl (lv_room (Nat.le_of_ble_eq_true rfl)) dX3_yOf_2 ⟨Nat.zero_le _, Nat.zero_le _⟩) hS (fun locs hS => ?_)
  refine lv_if_eq (tgt := 17) hx hb dX3_yOf_5 (by decide) (fun c_1 => ?_) (fun c_1 => ?_)
  · have c_1 := bI_0.mp c_1
    refine lv_iconst (v := 0) hx hb dX3_yOf_17 (by decide) ?_
    exact W.iret (v := 0) hx hb hr (fun t ht hW => ⟨⟨0, (), rfl, (by grind [rw_]), ht⟩, hS.F ht⟩) hS.2.2 dX3_yOf_18
  · have c_1 := bI_n0.mp c_1
    refine lv_aload_n hx hb dX3_yOf_8 rfl (lv_at hl 0 rfl) ?_
    refine va_get (D := D) (ci := 3) (v := .ref (ad 10)) (C := RX3) (T := TX3) (N := 5) hx hb hts iX3 hown hK hP 2 rfl rfl 2 (by decide) hw0 (fun _ h9 => h9) rfl dX3_yOf_9 ?_
    refine lv_iload_n hx hb dX3_yOf_12 rfl (lv_at hl 1 rfl) ?_
    refine va_iald hx hb hK hP 10 0 rfl rfl (vin c_1.1 c_1.2 hI.2.1.2 (by decide)) dX3_yOf_13 ?_
    refine lv_goto (tgt := 18) hx hb dX3_yOf_14 (by decide) ?_
    exact W.iret (v := g 2 p0.toNatClampNeg) hx hb hr (fun t ht hW => ⟨⟨g 2 p0.toNatClampNeg, (), rfl, (by grind [rw_]), ht⟩, hS.F ht⟩) hS.2.2 dX3_yOf_18
set_option maxHeartbeats 4000000 in
set_option maxRecDepth 100000 in
theorem kX3_depthOf (l : Launch) (D : va_G) (cI cO : ClassId) (tt : Nat) (ad : Nat → Nat) (g : Nat → Nat → Int32) (b : Nat → Int32) (d : Nat → Nat → Int64) (X : va_W) (H0 : Heap) (p0 : Int32) (hI : WI g) : MpI l yX3_depthOf wsX3_depthOf ({ frames := 1, cells := 0, slots := 0, locals := 21 }) D cI cO tt (LW ad cI cO g b d X) H0 [.ref (ad 2), .int p0] (rw_ g 3 p0) := by
  refine Met.ofW (cc := cX3_depthOf) (maxL := 2) (ret := (some .int)) (by decide) rfl ?_
  intro p e s m args below meth c s₁ B hml hv
  obtain ⟨rfl, rfl, hP, hK, hZ, hN⟩ := hv
  have hx := B.exec
  have hb := B.bytes
  have hr := B.returns
  have hts := atoms_spec (ws := wsX3_depthOf) B.pre
  have hown : s.vm.findClass RX3 = some m.cls := findClass_of_methodNamed B.named
  have hlocks := B.notSynchronized
  have hS : va_S (fun _ => False) s.heap s.heap [] := va_S.rf
  have hl := lv_entry ([.ref (ad 2), .int p0]) (n := 2) (Nat.le_of_ble_eq_true rfl)
  rw [lg_entry_eq]
  generalize (lg_sl ([.ref (ad 2), .int p0]) ++ List.replicate (2 - (lg_sl ([.ref (ad 2), .int p0])).length) Slot.unset).toArray = ls at hl ⊢
  have hl : lv_has ls 2 [(0, .ref (ad 2)), (1, .int p0)] := hl
  have hw0 := hts (.fieldLink RX3 21 "LayerSounder$Track" "depths" "[I") (List.mem_cons_of_mem _ (List.mem_append_left _ (List.mem_of_getElem? (i := 0) rfl)))
  have iX3 : ∀ w ∈ wsX30, w ∈ wsX3_depthOf := fun _ h => List.mem_cons_of_mem _ (List.mem_append_right _ h)
  refine lv_aload_n hx hb dX3_depthOf_0 rfl (lv_at hl 0 rfl) ?_
  refine lv_iload_n hx hb dX3_depthOf_1 rfl (lv_at hl 1 rfl) ?_
  refine pcI (va_runV (As := [.int p0]) (rest := []) ⟨hx, hb, hml, hown, hts⟩ (kX3_isPing l D cI cO tt ad g b d X H p0 ) (cwV 1 hts gX3_depthOf_X3_isPing rfl rfl rfl (by decide +kernel) ⟨(Nat.le_of_ble_eq_true rfl), (Nat.le_of_ble_eq_true rfl)⟩) (pwV hK hZ hN hP hS (va_recv hK hP (ci := 3) (q0 := 2) rfl rfl)) rfl rfl hl.1 rfl (lv_room (Nat.le_of_ble_eq_true rfl)) dX3_depthOf_2 ⟨Nat.zero_le _, Nat.zero_le _⟩) hS (fun locs hS => ?_)
  refine lv_if_eq (tgt := 17) hx hb dX3_depthOf_5 (by decide) (fun c_1 => ?_) (fun c_1 => ?_)
  · have c_1 := bI_0.mp c_1
    refine lv_iconst (v := 0) hx hb dX3_depthOf_17 (by decide) ?_
    exact W.iret (v := 0) hx hb hr (fun t ht hW => ⟨⟨0, (), rfl, (by grind [rw_]), ht⟩, hS.F ht⟩) hS.2.2 dX3_depthOf_18
  · have c_1 := bI_n0.mp c_1
    refine lv_aload_n hx hb dX3_depthOf_8 rfl (lv_at hl 0 rfl) ?_
    refine va_get (D := D) (ci := 3) (v := .ref (ad 11)) (C := RX3) (T := TX3) (N := 5) hx hb hts iX3 hown hK hP 2 rfl rfl 3 (by decide) hw0 (fun _ h9 => h9) rfl dX3_depthOf_9 ?_
    refine lv_iload_n hx hb dX3_depthOf_12 rfl (lv_at hl 1 rfl) ?_
    refine va_iald hx hb hK hP 11 0 rfl rfl (vin c_1.1 c_1.2 hI.2.1.2 (by decide)) dX3_depthOf_13 ?_
    refine lv_goto (tgt := 18) hx hb dX3_depthOf_14 (by decide) ?_
    exact W.iret (v := g 3 p0.toNatClampNeg) hx hb hr (fun t ht hW => ⟨⟨g 3 p0.toNatClampNeg, (), rfl, (by grind [rw_]), ht⟩, hS.F ht⟩) hS.2.2 dX3_depthOf_18
set_option maxHeartbeats 4000000 in
set_option maxRecDepth 100000 in
theorem kX3_stepX (l : Launch) (D : va_G) (cI cO : ClassId) (tt : Nat) (ad : Nat → Nat) (g : Nat → Nat → Int32) (b : Nat → Int32) (d : Nat → Nat → Int64) (X : va_W) (H0 : Heap) (p0 : Int32) (hI : WI g) : MpL l yX3_stepX wsX3_stepX ({ frames := 2, cells := 0, slots := 0, locals := 42 }) D cI cO tt (LW ad cI cO g b d X) H0 [.ref (ad 2), .int p0] ((rw_ g 1 (p0 + 1) - rw_ g 1 p0).toInt64) := by
  refine Met.ofW (cc := cX3_stepX) (maxL := 2) (ret := (some .long)) (by decide) rfl ?_
  intro p e s m args below meth c s₁ B hml hv
  obtain ⟨rfl, rfl, hP, hK, hZ, hN⟩ := hv
  have hx := B.exec
  have hb := B.bytes
  have hr := B.returns
  have hts := atoms_spec (ws := wsX3_stepX) B.pre
  have hown : s.vm.findClass RX3 = some m.cls := findClass_of_methodNamed B.named
  have hlocks := B.notSynchronized
  have hS : va_S (fun _ => False) s.heap s.heap [] := va_S.rf
  have hl := lv_entry ([.ref (ad 2), .int p0]) (n := 2) (Nat.le_of_ble_eq_true rfl)
  rw [lg_entry_eq]
  generalize (lg_sl ([.ref (ad 2), .int p0]) ++ List.replicate (2 - (lg_sl ([.ref (ad 2), .int p0])).length) Slot.unset).toArray = ls at hl ⊢
  have hl : lv_has ls 2 [(0, .ref (ad 2)), (1, .int p0)] := hl
  refine lv_aload_n hx hb dX3_stepX_0 rfl (lv_at hl 0 rfl) ?_
  refine lv_iload_n hx hb dX3_stepX_1 rfl (lv_at hl 1 rfl) ?_
  refine lv_iconst (v := 1) hx hb dX3_stepX_2 (by decide) ?_
  refine lv_iadd hx hb dX3_stepX_3 ?_
  refine pcI (va_runV (As := [.int (p0 + 1)]) (rest := []) ⟨hx, hb, hml, hown, hts⟩ (kX3_xOf l D cI cO tt ad g b d X H (p0 + 1) hI) (cwV 1 hts gX3_stepX_X3_xOf rfl rfl rfl (by decide +kernel) ⟨(Nat.le_of_ble_eq_true rfl), (Nat.le_of_ble_eq_true rfl)⟩) (pwV hK hZ hN hP hS (va_recv hK hP (ci := 3) (q0 := 2) rfl rfl)) rfl rfl hl.1 rfl (lv_room (Nat.le_of_ble_eq_true rfl)) dX3_stepX_4 ⟨Nat.zero_le _, Nat.zero_le _⟩) hS (fun locs hS => ?_)
  refine lv_aload_n hx hb dX3_stepX_7 rfl (lv_at hl 0 rfl) ?_
  refine lv_iload_n hx hb dX3_stepX_8 rfl (lv_at hl 1 rfl) ?_
  refine pcI (va_runV (As := [.int p0]) (rest := [.int (rw_ g 1 (p0 + 1))]) ⟨hx, hb, hml, hown, hts⟩ (kX3_xOf l D cI cO tt ad g b d X H p0 hI) (cwV 1 hts gX3_stepX_X3_xOf rfl rfl rfl (by decide +kernel) ⟨(Nat.le_of_ble_eq_true rfl), (Nat.le_of_ble_eq_true rfl)⟩) (pwV hK hZ hN hP hS (va_recv hK hP (ci := 3) (q0 := 2) rfl rfl)) rfl rfl hl.1 rfl (lv_room (Nat.le_of_ble_eq_true rfl)) dX3_stepX_9 ⟨Nat.zero_le _, Nat.zero_le _⟩) hS (fun locs hS => ?_)
  refine lv_isub hx hb dX3_stepX_12 ?_
  refine lv_i2l hx hb dX3_stepX_13 rfl ?_
  exact W.lret (v := ((rw_ g 1 (p0 + 1)) - (rw_ g 1 p0)).toInt64) hx hb hr (fun t ht hW => ⟨⟨((rw_ g 1 (p0 + 1)) - (rw_ g 1 p0)).toInt64, (), rfl, (by rfl), ht⟩, hS.F ht⟩) hS.2.2 dX3_stepX_14
set_option maxHeartbeats 4000000 in
set_option maxRecDepth 100000 in
theorem kX3_stepY (l : Launch) (D : va_G) (cI cO : ClassId) (tt : Nat) (ad : Nat → Nat) (g : Nat → Nat → Int32) (b : Nat → Int32) (d : Nat → Nat → Int64) (X : va_W) (H0 : Heap) (p0 : Int32) (hI : WI g) : MpL l yX3_stepY wsX3_stepY ({ frames := 2, cells := 0, slots := 0, locals := 42 }) D cI cO tt (LW ad cI cO g b d X) H0 [.ref (ad 2), .int p0] ((rw_ g 2 (p0 + 1) - rw_ g 2 p0).toInt64) := by
  refine Met.ofW (cc := cX3_stepY) (maxL := 2) (ret := (some .long)) (by decide) rfl ?_
  intro p e s m args below meth c s₁ B hml hv
  obtain ⟨rfl, rfl, hP, hK, hZ, hN⟩ := hv
  have hx := B.exec
  have hb := B.bytes
  have hr := B.returns
  have hts := atoms_spec (ws := wsX3_stepY) B.pre
  have hown : s.vm.findClass RX3 = some m.cls := findClass_of_methodNamed B.named
  have hlocks := B.notSynchronized
  have hS : va_S (fun _ => False) s.heap s.heap [] := va_S.rf
  have hl := lv_entry ([.ref (ad 2), .int p0]) (n := 2) (Nat.le_of_ble_eq_true rfl)
  rw [lg_entry_eq]
  generalize (lg_sl ([.ref (ad 2), .int p0]) ++ List.replicate (2 - (lg_sl ([.ref (ad 2), .int p0])).length) Slot.unset).toArray = ls at hl ⊢
  have hl : lv_has ls 2 [(0, .ref (ad 2)), (1, .int p0)] := hl
  refine lv_aload_n hx hb dX3_stepY_0 rfl (lv_at hl 0 rfl) ?_
  refine lv_iload_n hx hb dX3_stepY_1 rfl (lv_at hl 1 rfl) ?_
  refine lv_iconst (v := 1) hx hb dX3_stepY_2 (by decide) ?_
  refine lv_iadd hx hb dX3_stepY_3 ?_
  refine pcI (va_runV (As := [.int (p0 + 1)]) (rest := []) ⟨hx, hb, hml, hown, hts⟩ (kX3_yOf l D cI cO tt ad g b d X H (p0 + 1) hI) (cwV 1 hts gX3_stepY_X3_yOf rfl rfl rfl (by decide +kernel) ⟨(Nat.le_of_ble_eq_true rfl), (Nat.le_of_ble_eq_true rfl)⟩) (pwV hK hZ hN hP hS (va_recv hK hP (ci := 3) (q0 := 2) rfl rfl)) rfl rfl hl.1 rfl (lv_room (Nat.le_of_ble_eq_true rfl)) dX3_stepY_4 ⟨Nat.zero_le _, Nat.zero_le _⟩) hS (fun locs hS => ?_)
  refine lv_aload_n hx hb dX3_stepY_7 rfl (lv_at hl 0 rfl) ?_
  refine lv_iload_n hx hb dX3_stepY_8 rfl (lv_at hl 1 rfl) ?_
  refine pcI (va_runV (As := [.int p0]) (rest := [.int (rw_ g 2 (p0 + 1))]) ⟨hx, hb, hml, hown, hts⟩ (kX3_yOf l D cI cO tt ad g b d X H p0 hI) (cwV 1 hts gX3_stepY_X3_yOf rfl rfl rfl (by decide +kernel) ⟨(Nat.le_of_ble_eq_true rfl), (Nat.le_of_ble_eq_true rfl)⟩) (pwV hK hZ hN hP hS (va_recv hK hP (ci := 3) (q0 := 2) rfl rfl)) rfl rfl hl.1 rfl (lv_room (Nat.le_of_ble_eq_true rfl)) dX3_stepY_9 ⟨Nat.zero_le _, Nat.zero_le _⟩) hS (fun locs hS => ?_)
  refine lv_isub hx hb dX3_stepY_12 ?_
  refine lv_i2l hx hb dX3_stepY_13 rfl ?_
  exact W.lret (v := ((rw_ g 2 (p0 + 1)) - (rw_ g 2 p0)).toInt64) hx hb hr (fun t ht hW => ⟨⟨((rw_ g 2 (p0 + 1)) - (rw_ g 2 p0)).toInt64, (), rfl, (by rfl), ht⟩, hS.F ht⟩) hS.2.2 dX3_stepY_14
set_option maxHeartbeats 4000000 in
set_option maxRecDepth 100000 in
theorem kX3_areNear (l : Launch) (D : va_G) (cI cO : ClassId) (tt : Nat) (ad : Nat → Nat) (g : Nat → Nat → Int32) (b : Nat → Int32) (d : Nat → Nat → Int64) (X : va_W) (H0 : Heap) (p0 : Int32) (q0 : Int32) (y0 : Int32) (hI : WI g) : MpI l yX3_areNear wsX3_areNear ({ frames := 2, cells := 0, slots := 0, locals := 42 }) D cI cO tt (LW ad cI cO g b d X) H0 [.ref (ad 2), .int p0, .int q0, .int y0] (bI (ab (rw_ g 1 q0 - rw_ g 1 p0) ≤ y0 ∧ ab (rw_ g 2 q0 - rw_ g 2 p0) ≤ y0)) := by
  refine Met.ofW (cc := cX3_areNear) (maxL := 4) (ret := (some .boolean)) (by decide) rfl ?_
  intro p e s m args below meth c s₁ B hml hv
  obtain ⟨rfl, rfl, hP, hK, hZ, hN⟩ := hv
  have hx := B.exec
  have hb := B.bytes
  have hr := B.returns
  have hts := atoms_spec (ws := wsX3_areNear) B.pre
  have hown : s.vm.findClass RX3 = some m.cls := findClass_of_methodNamed B.named
  have hlocks := B.notSynchronized
  have hS : va_S (fun _ => False) s.heap s.heap [] := va_S.rf
  have hl := lv_entry ([.ref (ad 2), .int p0, .int q0, .int y0]) (n := 4) (Nat.le_of_ble_eq_true rfl)
  rw [lg_entry_eq]
  generalize (lg_sl ([.ref (ad 2), .int p0, .int q0, .int y0]) ++ List.replicate (4 - (lg_sl ([.ref (ad 2), .int p0, .int q0, .int y0])).length) Slot.unset).toArray = ls at hl ⊢
  have hl : lv_has ls 4 [(0, .ref (ad 2)), (1, .int p0), (2, .int q0), (3, .int y0)] := hl
  have hw0 := hts (.methodLink RX3 39 Lib.Math.abs.name) (List.mem_cons_of_mem _ (List.mem_append_left _ (List.mem_of_getElem? (i := 0) rfl)))
  have hw1 := hts (.static Lib.Math.abs.name) (List.mem_cons_of_mem _ (List.mem_append_left _ (List.mem_of_getElem? (i := 1) rfl)))
  have hw2 := hts (.initialized "java/lang/Math") (List.mem_cons_of_mem _ (List.mem_append_left _ (List.mem_of_getElem? (i := 2) rfl)))
  have hw3 := hts (.code Lib.Math.abs.name Lib.Math.abs.code 1 (some .int)) (List.mem_cons_of_mem _ (List.mem_append_left _ (List.mem_of_getElem? (i := 3) rfl)))
  refine lv_aload_n hx hb dX3_areNear_0 rfl (lv_at hl 0 rfl) ?_
  refine lv_iload_n hx hb dX3_areNear_1 rfl (lv_at hl 2 rfl) ?_
  refine pcI (va_runV (As := [.int q0]) (rest := []) ⟨hx, hb, hml, hown, hts⟩ (kX3_xOf l D cI cO tt ad g b d X H q0 hI) (cwV 1 hts gX3_areNear_X3_xOf rfl rfl rfl (by decide +kernel) ⟨(Nat.le_of_ble_eq_true rfl), (Nat.le_of_ble_eq_true rfl)⟩) (pwV hK hZ hN hP hS (va_recv hK hP (ci := 3) (q0 := 2) rfl rfl)) rfl rfl hl.1 rfl (lv_room (Nat.le_of_ble_eq_true rfl)) dX3_areNear_2 ⟨Nat.zero_le _, Nat.zero_le _⟩) hS (fun locs hS => ?_)
  refine lv_aload_n hx hb dX3_areNear_5 rfl (lv_at hl 0 rfl) ?_
  refine lv_iload_n hx hb dX3_areNear_6 rfl (lv_at hl 1 rfl) ?_
  refine pcI (va_runV (As := [.int p0]) (rest := [.int (rw_ g 1 q0)]) ⟨hx, hb, hml, hown, hts⟩ (kX3_xOf l D cI cO tt ad g b d X H p0 hI) (cwV 1 hts gX3_areNear_X3_xOf rfl rfl rfl (by decide +kernel) ⟨(Nat.le_of_ble_eq_true rfl), (Nat.le_of_ble_eq_true rfl)⟩) (pwV hK hZ hN hP hS (va_recv hK hP (ci := 3) (q0 := 2) rfl rfl)) rfl rfl hl.1 rfl (lv_room (Nat.le_of_ble_eq_true rfl)) dX3_areNear_7 ⟨Nat.zero_le _, Nat.zero_le _⟩) hS (fun locs hS => ?_)
  refine lv_isub hx hb dX3_areNear_10 ?_
  refine va_mabs hx hb (hml.trans hl.1.symm) hown hw0 hw1 hw2 hw3 (Nat.le_of_ble_eq_true rfl) (Nat.le_of_ble_eq_true rfl) (Nat.zero_le _) (Nat.zero_le _) dX3_areNear_11 ?_
  refine lv_iload_n hx hb dX3_areNear_14 rfl (lv_at hl 3 rfl) ?_
  refine lv_icmp_gt (tgt := 40) hx hb dX3_areNear_15 (by decide) (fun c_1 => ?_) (fun c_1 => ?_)
  · refine lv_iconst (v := 0) hx hb dX3_areNear_40 (by decide) ?_
    exact W.zret (v := 0) hx hb hr rfl (fun t ht hW => ⟨⟨0, (), rfl, (by grind [bI, ab]), ht⟩, hS.F ht⟩) hS.2.2 dX3_areNear_41
  · refine lv_aload_n hx hb dX3_areNear_18 rfl (lv_at hl 0 rfl) ?_
    refine lv_iload_n hx hb dX3_areNear_19 rfl (lv_at hl 2 rfl) ?_
    refine pcI (va_runV (As := [.int q0]) (rest := []) ⟨hx, hb, hml, hown, hts⟩ (kX3_yOf l D cI cO tt ad g b d X H q0 hI) (cwV 1 hts gX3_areNear_X3_yOf rfl rfl rfl (by decide +kernel) ⟨(Nat.le_of_ble_eq_true rfl), (Nat.le_of_ble_eq_true rfl)⟩) (pwV hK hZ hN hP hS (va_recv hK hP (ci := 3) (q0 := 2) rfl rfl)) rfl rfl hl.1 rfl (lv_room (Nat.le_of_ble_eq_true rfl)) dX3_areNear_20 ⟨Nat.zero_le _, Nat.zero_le _⟩) hS (fun locs hS => ?_)
    refine lv_aload_n hx hb dX3_areNear_23 rfl (lv_at hl 0 rfl) ?_
    refine lv_iload_n hx hb dX3_areNear_24 rfl (lv_at hl 1 rfl) ?_
    refine pcI (va_runV (As := [.int p0]) (rest := [.int (rw_ g 2 q0)]) ⟨hx, hb, hml, hown, hts⟩ (kX3_yOf l D cI cO tt ad g b d X H p0 hI) (cwV 1 hts gX3_areNear_X3_yOf rfl rfl rfl (by decide +kernel) ⟨(Nat.le_of_ble_eq_true rfl), (Nat.le_of_ble_eq_true rfl)⟩) (pwV hK hZ hN hP hS (va_recv hK hP (ci := 3) (q0 := 2) rfl rfl)) rfl rfl hl.1 rfl (lv_room (Nat.le_of_ble_eq_true rfl)) dX3_areNear_25 ⟨Nat.zero_le _, Nat.zero_le _⟩) hS (fun locs hS => ?_)
    refine lv_isub hx hb dX3_areNear_28 ?_
    refine va_mabs hx hb (hml.trans hl.1.symm) hown hw0 hw1 hw2 hw3 (Nat.le_of_ble_eq_true rfl) (Nat.le_of_ble_eq_true rfl) (Nat.zero_le _) (Nat.zero_le _) dX3_areNear_29 ?_
    refine lv_iload_n hx hb dX3_areNear_32 rfl (lv_at hl 3 rfl) ?_
    refine lv_icmp_gt (tgt := 40) hx hb dX3_areNear_33 (by decide) (fun c_2 => ?_) (fun c_2 => ?_)
    · refine lv_iconst (v := 0) hx hb dX3_areNear_40 (by decide) ?_
      exact W.zret (v := 0) hx hb hr rfl (fun t ht hW => ⟨⟨0, (), rfl, (by grind [bI, ab]), ht⟩, hS.F ht⟩) hS.2.2 dX3_areNear_41
    · refine lv_iconst (v := 1) hx hb dX3_areNear_36 (by decide) ?_
      refine lv_goto (tgt := 41) hx hb dX3_areNear_37 (by decide) ?_
      exact W.zret (v := 1) hx hb hr rfl (fun t ht hW => ⟨⟨1, (), rfl, (by grind [bI, ab]), ht⟩, hS.F ht⟩) hS.2.2 dX3_areNear_41
set_option maxHeartbeats 4000000 in
set_option maxRecDepth 100000 in
theorem kX1_east (l : Launch) (D : va_G) (cI cO : ClassId) (tt : Nat) (ad : Nat → Nat) (g : Nat → Nat → Int32) (b : Nat → Int32) (d : Nat → Nat → Int64) (X : va_W) (H0 : Heap) (k : Nat) (t0 : Int32) (hk : k < 4) : MpL l yX1_east wsX1_east ({ frames := 2, cells := 0, slots := 0, locals := 44 }) D cI cO tt (LW ad cI cO g b d X) H0 [.ref (ad (4 + k)), .int t0] (xT (d k 0) (d k 1) t0 + d k 2) := by
  refine Met.ofW (cc := cX1_east) (maxL := 2) (ret := (some .long)) (by decide) rfl ?_
  intro p e s m args below meth c s₁ B hml hv
  obtain ⟨rfl, rfl, hP, hK, hZ, hN⟩ := hv
  have hx := B.exec
  have hb := B.bytes
  have hr := B.returns
  have hts := atoms_spec (ws := wsX1_east) B.pre
  have hown : s.vm.findClass RX1 = some m.cls := findClass_of_methodNamed B.named
  have hlocks := B.notSynchronized
  have hS : va_S (fun _ => False) s.heap s.heap [] := va_S.rf
  have hl := lv_entry ([.ref (ad (4 + k)), .int t0]) (n := 2) (Nat.le_of_ble_eq_true rfl)
  rw [lg_entry_eq]
  generalize (lg_sl ([.ref (ad (4 + k)), .int t0]) ++ List.replicate (2 - (lg_sl ([.ref (ad (4 + k)), .int t0])).length) Slot.unset).toArray = ls at hl ⊢
  have hl : lv_has ls 2 [(0, .ref (ad (4 + k))), (1, .int t0)] := hl
  have hw0 := hts (.fieldLink RX1 7 "LayerSounder$Drift" "swungX" "J") (List.mem_cons_of_mem _ (List.mem_append_left _ (List.mem_of_getElem? (i := 0) rfl)))
  have iX1 : ∀ w ∈ wsX10, w ∈ wsX1_east := fun _ h => List.mem_cons_of_mem _ (List.mem_append_right _ h)
  have hw2 := hts (.fieldLink RX1 13 "LayerSounder$Drift" "swungY" "J") (List.mem_cons_of_mem _ (List.mem_append_left _ (List.mem_of_getElem? (i := 1) rfl)))
  have hw3 := hts (.initialized RX4) (List.mem_cons_of_mem _ (List.mem_append_left _ (List.mem_of_getElem? (i := 4) rfl)))
  have hw4 := hts (.static yX4_xTurned) (List.mem_cons_of_mem _ (List.mem_append_left _ (List.mem_of_getElem? (i := 3) rfl)))
  have hw5 := hts (.fieldLink RX1 16 "LayerSounder$Drift" "heldX" "J") (List.mem_cons_of_mem _ (List.mem_append_left _ (List.mem_of_getElem? (i := 2) rfl)))
  refine lv_aload_n hx hb dX1_east_0 rfl (lv_at hl 0 rfl) ?_
  refine va_get (D := D) (ci := 1) (v := .long (d k 0)) (C := RX1) (T := TX1) (N := 4) hx hb hts iX1 hown hK hP (4 + k) (LW_d hk) rfl 0 (by decide) hw0 (fun _ h9 => h9) rfl dX1_east_1 ?_
  refine lv_aload_n hx hb dX1_east_4 rfl (lv_at hl 0 rfl) ?_
  refine va_get (D := D) (ci := 1) (v := .long (d k 1)) (C := RX1) (T := TX1) (N := 4) hx hb hts iX1 hown hK hP (4 + k) (LW_d hk) rfl 1 (by decide) hw2 (fun _ h9 => h9) rfl dX1_east_5 ?_
  refine lv_iload_n hx hb dX1_east_8 rfl (lv_at hl 1 rfl) ?_
  refine pcL (va_runSN (As := [.long (d k 0), .long (d k 1), .int t0]) (rest := []) ⟨hx, hb, hml, hown, hts⟩ (kX4_xTurned l D cI cO tt (LW ad cI cO g b d X) H (d k 0) (d k 1) t0 ) ⟨va_cnB (host := RX4) 3 hts gX1_east_X4_xTurned_n22 rfl rfl rfl (hN.2 (RX1, 22, yX4_xTurned) (List.mem_of_getElem? (i := 5) rfl)) hw3 (by decide +kernel) ⟨(Nat.le_of_ble_eq_true rfl), (Nat.le_of_ble_eq_true rfl)⟩, hw4, trivial⟩ (pwS hK hZ hN hP hS) rfl rfl hl.1 rfl (lv_room (Nat.le_of_ble_eq_true rfl)) dX1_east_9 ⟨Nat.zero_le _, Nat.zero_le _⟩) hS (fun locs hS => ?_)
  refine lv_aload_n hx hb dX1_east_12 rfl (lv_at hl 0 rfl) ?_
  refine va_get (D := D) (ci := 1) (v := .long (d k 2)) (C := RX1) (T := TX1) (N := 4) hx hb hts iX1 hown hK hP (4 + k) (LW_d hk) rfl 2 (by decide) hw5 (fun _ h9 => h9) rfl dX1_east_13 ?_
  refine lv_ladd hx hb dX1_east_16 ?_
  exact W.lret (v := (xT (d k 0) (d k 1) t0) + (d k 2)) hx hb hr (fun t ht hW => ⟨⟨(xT (d k 0) (d k 1) t0) + (d k 2), (), rfl, (by rfl), ht⟩, hS.F ht⟩) hS.2.2 dX1_east_17
set_option maxHeartbeats 4000000 in
set_option maxRecDepth 100000 in
theorem kX1_north (l : Launch) (D : va_G) (cI cO : ClassId) (tt : Nat) (ad : Nat → Nat) (g : Nat → Nat → Int32) (b : Nat → Int32) (d : Nat → Nat → Int64) (X : va_W) (H0 : Heap) (k : Nat) (t0 : Int32) (hk : k < 4) : MpL l yX1_north wsX1_north ({ frames := 2, cells := 0, slots := 0, locals := 44 }) D cI cO tt (LW ad cI cO g b d X) H0 [.ref (ad (4 + k)), .int t0] (yT (d k 0) (d k 1) t0 + d k 3) := by
  refine Met.ofW (cc := cX1_north) (maxL := 2) (ret := (some .long)) (by decide) rfl ?_
  intro p e s m args below meth c s₁ B hml hv
  obtain ⟨rfl, rfl, hP, hK, hZ, hN⟩ := hv
  have hx := B.exec
  have hb := B.bytes
  have hr := B.returns
  have hts := atoms_spec (ws := wsX1_north) B.pre
  have hown : s.vm.findClass RX1 = some m.cls := findClass_of_methodNamed B.named
  have hlocks := B.notSynchronized
  have hS : va_S (fun _ => False) s.heap s.heap [] := va_S.rf
  have hl := lv_entry ([.ref (ad (4 + k)), .int t0]) (n := 2) (Nat.le_of_ble_eq_true rfl)
  rw [lg_entry_eq]
  generalize (lg_sl ([.ref (ad (4 + k)), .int t0]) ++ List.replicate (2 - (lg_sl ([.ref (ad (4 + k)), .int t0])).length) Slot.unset).toArray = ls at hl ⊢
  have hl : lv_has ls 2 [(0, .ref (ad (4 + k))), (1, .int t0)] := hl
  have hw0 := hts (.fieldLink RX1 7 "LayerSounder$Drift" "swungX" "J") (List.mem_cons_of_mem _ (List.mem_append_left _ (List.mem_of_getElem? (i := 0) rfl)))
  have iX1 : ∀ w ∈ wsX10, w ∈ wsX1_north := fun _ h => List.mem_cons_of_mem _ (List.mem_append_right _ h)
  have hw2 := hts (.fieldLink RX1 13 "LayerSounder$Drift" "swungY" "J") (List.mem_cons_of_mem _ (List.mem_append_left _ (List.mem_of_getElem? (i := 1) rfl)))
  have hw3 := hts (.initialized RX4) (List.mem_cons_of_mem _ (List.mem_append_left _ (List.mem_of_getElem? (i := 4) rfl)))
  have hw4 := hts (.static yX4_yTurned) (List.mem_cons_of_mem _ (List.mem_append_left _ (List.mem_of_getElem? (i := 3) rfl)))
  have hw5 := hts (.fieldLink RX1 19 "LayerSounder$Drift" "heldY" "J") (List.mem_cons_of_mem _ (List.mem_append_left _ (List.mem_of_getElem? (i := 2) rfl)))
  refine lv_aload_n hx hb dX1_north_0 rfl (lv_at hl 0 rfl) ?_
  refine va_get (D := D) (ci := 1) (v := .long (d k 0)) (C := RX1) (T := TX1) (N := 4) hx hb hts iX1 hown hK hP (4 + k) (LW_d hk) rfl 0 (by decide) hw0 (fun _ h9 => h9) rfl dX1_north_1 ?_
  refine lv_aload_n hx hb dX1_north_4 rfl (lv_at hl 0 rfl) ?_
  refine va_get (D := D) (ci := 1) (v := .long (d k 1)) (C := RX1) (T := TX1) (N := 4) hx hb hts iX1 hown hK hP (4 + k) (LW_d hk) rfl 1 (by decide) hw2 (fun _ h9 => h9) rfl dX1_north_5 ?_
  refine lv_iload_n hx hb dX1_north_8 rfl (lv_at hl 1 rfl) ?_
  refine pcL (va_runSN (As := [.long (d k 0), .long (d k 1), .int t0]) (rest := []) ⟨hx, hb, hml, hown, hts⟩ (kX4_yTurned l D cI cO tt (LW ad cI cO g b d X) H (d k 0) (d k 1) t0 ) ⟨va_cnB (host := RX4) 3 hts gX1_north_X4_yTurned_n28 rfl rfl rfl (hN.2 (RX1, 28, yX4_yTurned) (List.mem_of_getElem? (i := 6) rfl)) hw3 (by decide +kernel) ⟨(Nat.le_of_ble_eq_true rfl), (Nat.le_of_ble_eq_true rfl)⟩, hw4, trivial⟩ (pwS hK hZ hN hP hS) rfl rfl hl.1 rfl (lv_room (Nat.le_of_ble_eq_true rfl)) dX1_north_9 ⟨Nat.zero_le _, Nat.zero_le _⟩) hS (fun locs hS => ?_)
  refine lv_aload_n hx hb dX1_north_12 rfl (lv_at hl 0 rfl) ?_
  refine va_get (D := D) (ci := 1) (v := .long (d k 3)) (C := RX1) (T := TX1) (N := 4) hx hb hts iX1 hown hK hP (4 + k) (LW_d hk) rfl 3 (by decide) hw5 (fun _ h9 => h9) rfl dX1_north_13 ?_
  refine lv_ladd hx hb dX1_north_16 ?_
  exact W.lret (v := (yT (d k 0) (d k 1) t0) + (d k 3)) hx hb hr (fun t ht hW => ⟨⟨(yT (d k 0) (d k 1) t0) + (d k 3), (), rfl, (by rfl), ht⟩, hS.F ht⟩) hS.2.2 dX1_north_17
set_option maxHeartbeats 4000000 in
set_option maxRecDepth 100000 in
theorem kX1_part (l : Launch) (D : va_G) (cI cO : ClassId) (tt : Nat) (ad : Nat → Nat) (g : Nat → Nat → Int32) (b : Nat → Int32) (d : Nat → Nat → Int64) (X : va_W) (H0 : Heap) (k : Nat) (t0 : Int32) (y0 : Int32) (hk : k < 4) : MpL l yX1_part wsX1_part ({ frames := 3, cells := 0, slots := 0, locals := 65 }) D cI cO tt (LW ad cI cO g b d X) H0 [.ref (ad (4 + k)), .int t0, .int y0] (if y0 = 0 then xT (d k 0) (d k 1) t0 + d k 2 else yT (d k 0) (d k 1) t0 + d k 3) := by
  refine Met.ofW (cc := cX1_part) (maxL := 3) (ret := (some .long)) (by decide) rfl ?_
  intro p e s m args below meth c s₁ B hml hv
  obtain ⟨rfl, rfl, hP, hK, hZ, hN⟩ := hv
  have hx := B.exec
  have hb := B.bytes
  have hr := B.returns
  have hts := atoms_spec (ws := wsX1_part) B.pre
  have hown : s.vm.findClass RX1 = some m.cls := findClass_of_methodNamed B.named
  have hlocks := B.notSynchronized
  have hS : va_S (fun _ => False) s.heap s.heap [] := va_S.rf
  have hl := lv_entry ([.ref (ad (4 + k)), .int t0, .int y0]) (n := 3) (Nat.le_of_ble_eq_true rfl)
  rw [lg_entry_eq]
  generalize (lg_sl ([.ref (ad (4 + k)), .int t0, .int y0]) ++ List.replicate (3 - (lg_sl ([.ref (ad (4 + k)), .int t0, .int y0])).length) Slot.unset).toArray = ls at hl ⊢
  have hl : lv_has ls 3 [(0, .ref (ad (4 + k))), (1, .int t0), (2, .int y0)] := hl
  refine lv_iload_n hx hb dX1_part_0 rfl (lv_at hl 2 rfl) ?_
  refine lv_if_ne (tgt := 12) hx hb dX1_part_1 (by decide) (fun c_1 => ?_) (fun c_1 => ?_)
  · refine lv_aload_n hx hb dX1_part_12 rfl (lv_at hl 0 rfl) ?_
    refine lv_iload_n hx hb dX1_part_13 rfl (lv_at hl 1 rfl) ?_
    refine pcL (va_runV (As := [.int t0]) (rest := []) ⟨hx, hb, hml, hown, hts⟩ (kX1_north l D cI cO tt ad g b d X H k t0 hk) (cwV 1 hts gX1_part_X1_north rfl rfl rfl (by decide +kernel) ⟨(Nat.le_of_ble_eq_true rfl), (Nat.le_of_ble_eq_true rfl)⟩) (pwV hK hZ hN hP hS (va_recv hK hP (ci := 1) (q0 := (4 + k)) rfl (LW_d hk))) rfl rfl hl.1 rfl (lv_room (Nat.le_of_ble_eq_true rfl)) dX1_part_14 ⟨Nat.zero_le _, Nat.zero_le _⟩) hS (fun locs hS => ?_)
    exact W.lret (v := yT (d k 0) (d k 1) t0 + d k 3) hx hb hr (fun t ht hW => ⟨⟨yT (d k 0) (d k 1) t0 + d k 3, (), rfl, (by grind), ht⟩, hS.F ht⟩) hS.2.2 dX1_part_17
  · refine lv_aload_n hx hb dX1_part_4 rfl (lv_at hl 0 rfl) ?_
    refine lv_iload_n hx hb dX1_part_5 rfl (lv_at hl 1 rfl) ?_
    refine pcL (va_runV (As := [.int t0]) (rest := []) ⟨hx, hb, hml, hown, hts⟩ (kX1_east l D cI cO tt ad g b d X H k t0 hk) (cwV 1 hts gX1_part_X1_east rfl rfl rfl (by decide +kernel) ⟨(Nat.le_of_ble_eq_true rfl), (Nat.le_of_ble_eq_true rfl)⟩) (pwV hK hZ hN hP hS (va_recv hK hP (ci := 1) (q0 := (4 + k)) rfl (LW_d hk))) rfl rfl hl.1 rfl (lv_room (Nat.le_of_ble_eq_true rfl)) dX1_part_6 ⟨Nat.zero_le _, Nat.zero_le _⟩) hS (fun locs hS => ?_)
    refine lv_goto (tgt := 17) hx hb dX1_part_9 (by decide) ?_
    exact W.lret (v := xT (d k 0) (d k 1) t0 + d k 2) hx hb hr (fun t ht hW => ⟨⟨xT (d k 0) (d k 1) t0 + d k 2, (), rfl, (by grind), ht⟩, hS.F ht⟩) hS.2.2 dX1_part_17
end
