section
-- ===== PART A: goes FIRST, ahead of the names: the tables' words, and 'selects' of the private methods out of them =====
/-- a private method of a class that the tables say can be made, by its rows of tables_1 -/
def lw_okq (q : MethodName × Nat) : Prop := (q.1.cls ≠ "java/lang/invoke/MethodHandle" ∧ q.1.cls ≠ "java/lang/invoke/VarHandle") ∧ Cond.instantiable q.1.cls q.2 ∈ tables_1 ∧ Cond.privateMethod q.1 ∈ tables_1 ∧ Cond.instanceMethod q.1 ∈ tables_1
theorem lw_p0 : lw_okq (⟨"java/lang/Throwable", "fillInStackTrace", "(I)Ljava/lang/Throwable;"⟩, 6) := ⟨⟨by decide +kernel, by decide +kernel⟩, List.mem_of_getElem? (i := 319) (by decide +kernel), List.mem_of_getElem? (i := 317) (by decide +kernel), List.mem_of_getElem? (i := 318) (by decide +kernel)⟩
theorem lw_p1 : lw_okq (⟨"CashMachine", "endSession", "()V"⟩, 9) := ⟨⟨by decide +kernel, by decide +kernel⟩, List.mem_of_getElem? (i := 24) (by decide +kernel), List.mem_of_getElem? (i := 433) (by decide +kernel), List.mem_of_getElem? (i := 434) (by decide +kernel)⟩
theorem lw_p2 : lw_okq (⟨"CashMachine$Mix", "rankLastTwo", "(LCashMachine$Cassette;LCashMachine$Cassette;I)V"⟩, 2) := ⟨⟨by decide +kernel, by decide +kernel⟩, List.mem_of_getElem? (i := 110) (by decide +kernel), List.mem_of_getElem? (i := 460) (by decide +kernel), List.mem_of_getElem? (i := 461) (by decide +kernel)⟩
theorem lw_p3 : lw_okq (⟨"CashMachine$Mix", "keep", "(III)V"⟩, 2) := ⟨⟨by decide +kernel, by decide +kernel⟩, List.mem_of_getElem? (i := 110) (by decide +kernel), List.mem_of_getElem? (i := 471) (by decide +kernel), List.mem_of_getElem? (i := 472) (by decide +kernel)⟩
theorem lw_p4 : lw_okq (⟨"CashMachine", "request", "(LCashMachine$Entry;)I"⟩, 9) := ⟨⟨by decide +kernel, by decide +kernel⟩, List.mem_of_getElem? (i := 24) (by decide +kernel), List.mem_of_getElem? (i := 494) (by decide +kernel), List.mem_of_getElem? (i := 495) (by decide +kernel)⟩
theorem lw_p5 : lw_okq (⟨"CashMachine", "failsAt", "(I)Z"⟩, 9) := ⟨⟨by decide +kernel, by decide +kernel⟩, List.mem_of_getElem? (i := 24) (by decide +kernel), List.mem_of_getElem? (i := 498) (by decide +kernel), List.mem_of_getElem? (i := 499) (by decide +kernel)⟩
theorem lw_p6 : lw_okq (⟨"CashMachine", "exchangeRequest", "(LCashMachine$Entry;)I"⟩, 9) := ⟨⟨by decide +kernel, by decide +kernel⟩, List.mem_of_getElem? (i := 24) (by decide +kernel), List.mem_of_getElem? (i := 502) (by decide +kernel), List.mem_of_getElem? (i := 503) (by decide +kernel)⟩
theorem lw_p7 : lw_okq (⟨"CashMachine$Host", "decide", "(ILCashMachine$Account;I)I"⟩, 4) := ⟨⟨by decide +kernel, by decide +kernel⟩, List.mem_of_getElem? (i := 32) (by decide +kernel), List.mem_of_getElem? (i := 517) (by decide +kernel), List.mem_of_getElem? (i := 518) (by decide +kernel)⟩
theorem lw_p8 : lw_okq (⟨"CashMachine", "giveUp", "(LCashMachine$Entry;)V"⟩, 9) := ⟨⟨by decide +kernel, by decide +kernel⟩, List.mem_of_getElem? (i := 24) (by decide +kernel), List.mem_of_getElem? (i := 521) (by decide +kernel), List.mem_of_getElem? (i := 522) (by decide +kernel)⟩
theorem lw_p9 : lw_okq (⟨"CashMachine", "present", "(LCashMachine$Entry;)I"⟩, 9) := ⟨⟨by decide +kernel, by decide +kernel⟩, List.mem_of_getElem? (i := 24) (by decide +kernel), List.mem_of_getElem? (i := 529) (by decide +kernel), List.mem_of_getElem? (i := 530) (by decide +kernel)⟩
theorem lw_p10 : lw_okq (⟨"CashMachine$Dispenser", "nextCassette", "()I"⟩, 6) := ⟨⟨by decide +kernel, by decide +kernel⟩, List.mem_of_getElem? (i := 102) (by decide +kernel), List.mem_of_getElem? (i := 537) (by decide +kernel), List.mem_of_getElem? (i := 538) (by decide +kernel)⟩
theorem lw_p11 : lw_okq (⟨"CashMachine", "finish", "(LCashMachine$Entry;I)V"⟩, 9) := ⟨⟨by decide +kernel, by decide +kernel⟩, List.mem_of_getElem? (i := 24) (by decide +kernel), List.mem_of_getElem? (i := 541) (by decide +kernel), List.mem_of_getElem? (i := 542) (by decide +kernel)⟩
theorem lw_p12 : lw_okq (⟨"CashMachine", "recover", "(LCashMachine$Entry;)V"⟩, 9) := ⟨⟨by decide +kernel, by decide +kernel⟩, List.mem_of_getElem? (i := 24) (by decide +kernel), List.mem_of_getElem? (i := 588) (by decide +kernel), List.mem_of_getElem? (i := 589) (by decide +kernel)⟩
theorem lw_p13 : lw_okq (⟨"CashMachine", "exchangeReversal", "(I)Z"⟩, 9) := ⟨⟨by decide +kernel, by decide +kernel⟩, List.mem_of_getElem? (i := 24) (by decide +kernel), List.mem_of_getElem? (i := 603) (by decide +kernel), List.mem_of_getElem? (i := 604) (by decide +kernel)⟩
theorem lw_p14 : lw_okq (⟨"CashMachineModel", "fail", "(I)I"⟩, 30) := ⟨⟨by decide +kernel, by decide +kernel⟩, List.mem_of_getElem? (i := 655) (by decide +kernel), List.mem_of_getElem? (i := 764) (by decide +kernel), List.mem_of_getElem? (i := 765) (by decide +kernel)⟩
theorem lw_p15 : lw_okq (⟨"CashMachineModel", "mixed", "(I)Z"⟩, 30) := ⟨⟨by decide +kernel, by decide +kernel⟩, List.mem_of_getElem? (i := 655) (by decide +kernel), List.mem_of_getElem? (i := 788) (by decide +kernel), List.mem_of_getElem? (i := 789) (by decide +kernel)⟩
def lw_privs_1 : List (MethodName × Nat) := [(⟨"java/lang/Throwable", "fillInStackTrace", "(I)Ljava/lang/Throwable;"⟩, 6), (⟨"CashMachine", "endSession", "()V"⟩, 9), (⟨"CashMachine$Mix", "rankLastTwo", "(LCashMachine$Cassette;LCashMachine$Cassette;I)V"⟩, 2), (⟨"CashMachine$Mix", "keep", "(III)V"⟩, 2), (⟨"CashMachine", "request", "(LCashMachine$Entry;)I"⟩, 9), (⟨"CashMachine", "failsAt", "(I)Z"⟩, 9), (⟨"CashMachine", "exchangeRequest", "(LCashMachine$Entry;)I"⟩, 9), (⟨"CashMachine$Host", "decide", "(ILCashMachine$Account;I)I"⟩, 4), (⟨"CashMachine", "giveUp", "(LCashMachine$Entry;)V"⟩, 9), (⟨"CashMachine", "present", "(LCashMachine$Entry;)I"⟩, 9), (⟨"CashMachine$Dispenser", "nextCassette", "()I"⟩, 6), (⟨"CashMachine", "finish", "(LCashMachine$Entry;I)V"⟩, 9), (⟨"CashMachine", "recover", "(LCashMachine$Entry;)V"⟩, 9), (⟨"CashMachine", "exchangeReversal", "(I)Z"⟩, 9), (⟨"CashMachineModel", "fail", "(I)I"⟩, 30), (⟨"CashMachineModel", "mixed", "(I)Z"⟩, 30)]
theorem lw_r1 : ∀ q ∈ lw_privs_1, lw_okq q := List.forall_mem_cons.mpr ⟨lw_p0, List.forall_mem_cons.mpr ⟨lw_p1, List.forall_mem_cons.mpr ⟨lw_p2, List.forall_mem_cons.mpr ⟨lw_p3, List.forall_mem_cons.mpr ⟨lw_p4, List.forall_mem_cons.mpr ⟨lw_p5, List.forall_mem_cons.mpr ⟨lw_p6, List.forall_mem_cons.mpr ⟨lw_p7, List.forall_mem_cons.mpr ⟨lw_p8, List.forall_mem_cons.mpr ⟨lw_p9, List.forall_mem_cons.mpr ⟨lw_p10, List.forall_mem_cons.mpr ⟨lw_p11, List.forall_mem_cons.mpr ⟨lw_p12, List.forall_mem_cons.mpr ⟨lw_p13, List.forall_mem_cons.mpr ⟨lw_p14, List.forall_mem_cons.mpr ⟨lw_p15, fun _ h => absurd h List.not_mem_nil⟩⟩⟩⟩⟩⟩⟩⟩⟩⟩⟩⟩⟩⟩⟩⟩
theorem lw_p16 : lw_okq (⟨"CashMachineModel", "thirds", "(IIIZ)Z"⟩, 30) := ⟨⟨by decide +kernel, by decide +kernel⟩, List.mem_of_getElem? (i := 655) (by decide +kernel), List.mem_of_getElem? (i := 792) (by decide +kernel), List.mem_of_getElem? (i := 793) (by decide +kernel)⟩
theorem lw_p17 : lw_okq (⟨"CashMachineModel", "better", "(IIIIZ)Z"⟩, 30) := ⟨⟨by decide +kernel, by decide +kernel⟩, List.mem_of_getElem? (i := 655) (by decide +kernel), List.mem_of_getElem? (i := 796) (by decide +kernel), List.mem_of_getElem? (i := 797) (by decide +kernel)⟩
theorem lw_p18 : lw_okq (⟨"CashMachineModel", "notesOf", "(IIII)I"⟩, 30) := ⟨⟨by decide +kernel, by decide +kernel⟩, List.mem_of_getElem? (i := 655) (by decide +kernel), List.mem_of_getElem? (i := 800) (by decide +kernel), List.mem_of_getElem? (i := 801) (by decide +kernel)⟩
theorem lw_p19 : lw_okq (⟨"CashMachineModel", "give", "(I)I"⟩, 30) := ⟨⟨by decide +kernel, by decide +kernel⟩, List.mem_of_getElem? (i := 655) (by decide +kernel), List.mem_of_getElem? (i := 804) (by decide +kernel), List.mem_of_getElem? (i := 805) (by decide +kernel)⟩
theorem lw_p20 : lw_okq (⟨"CashMachineModel", "cut", "(I)Z"⟩, 30) := ⟨⟨by decide +kernel, by decide +kernel⟩, List.mem_of_getElem? (i := 655) (by decide +kernel), List.mem_of_getElem? (i := 808) (by decide +kernel), List.mem_of_getElem? (i := 809) (by decide +kernel)⟩
theorem lw_p21 : lw_okq (⟨"CashMachineModel", "fate", "()I"⟩, 30) := ⟨⟨by decide +kernel, by decide +kernel⟩, List.mem_of_getElem? (i := 655) (by decide +kernel), List.mem_of_getElem? (i := 812) (by decide +kernel), List.mem_of_getElem? (i := 813) (by decide +kernel)⟩
theorem lw_p22 : lw_okq (⟨"CashMachineModel", "request", "(I)V"⟩, 30) := ⟨⟨by decide +kernel, by decide +kernel⟩, List.mem_of_getElem? (i := 655) (by decide +kernel), List.mem_of_getElem? (i := 816) (by decide +kernel), List.mem_of_getElem? (i := 817) (by decide +kernel)⟩
theorem lw_p23 : lw_okq (⟨"CashMachineModel", "owe", "(II)V"⟩, 30) := ⟨⟨by decide +kernel, by decide +kernel⟩, List.mem_of_getElem? (i := 655) (by decide +kernel), List.mem_of_getElem? (i := 820) (by decide +kernel), List.mem_of_getElem? (i := 821) (by decide +kernel)⟩
theorem lw_p24 : lw_okq (⟨"CashMachineModel", "pay", "(I)V"⟩, 30) := ⟨⟨by decide +kernel, by decide +kernel⟩, List.mem_of_getElem? (i := 655) (by decide +kernel), List.mem_of_getElem? (i := 824) (by decide +kernel), List.mem_of_getElem? (i := 825) (by decide +kernel)⟩
theorem lw_p25 : lw_okq (⟨"CashMachineModel", "greatest", "(I)I"⟩, 30) := ⟨⟨by decide +kernel, by decide +kernel⟩, List.mem_of_getElem? (i := 655) (by decide +kernel), List.mem_of_getElem? (i := 828) (by decide +kernel), List.mem_of_getElem? (i := 829) (by decide +kernel)⟩
theorem lw_p26 : lw_okq (⟨"CashMachineModel", "finish", "(II)V"⟩, 30) := ⟨⟨by decide +kernel, by decide +kernel⟩, List.mem_of_getElem? (i := 655) (by decide +kernel), List.mem_of_getElem? (i := 832) (by decide +kernel), List.mem_of_getElem? (i := 833) (by decide +kernel)⟩
theorem lw_p27 : lw_okq (⟨"CashMachineModel", "reversalCame", "(II)V"⟩, 30) := ⟨⟨by decide +kernel, by decide +kernel⟩, List.mem_of_getElem? (i := 655) (by decide +kernel), List.mem_of_getElem? (i := 860) (by decide +kernel), List.mem_of_getElem? (i := 861) (by decide +kernel)⟩
def lw_privs_2 : List (MethodName × Nat) := [(⟨"CashMachineModel", "thirds", "(IIIZ)Z"⟩, 30), (⟨"CashMachineModel", "better", "(IIIIZ)Z"⟩, 30), (⟨"CashMachineModel", "notesOf", "(IIII)I"⟩, 30), (⟨"CashMachineModel", "give", "(I)I"⟩, 30), (⟨"CashMachineModel", "cut", "(I)Z"⟩, 30), (⟨"CashMachineModel", "fate", "()I"⟩, 30), (⟨"CashMachineModel", "request", "(I)V"⟩, 30), (⟨"CashMachineModel", "owe", "(II)V"⟩, 30), (⟨"CashMachineModel", "pay", "(I)V"⟩, 30), (⟨"CashMachineModel", "greatest", "(I)I"⟩, 30), (⟨"CashMachineModel", "finish", "(II)V"⟩, 30), (⟨"CashMachineModel", "reversalCame", "(II)V"⟩, 30)]
theorem lw_r2 : ∀ q ∈ lw_privs_2, lw_okq q := List.forall_mem_cons.mpr ⟨lw_p16, List.forall_mem_cons.mpr ⟨lw_p17, List.forall_mem_cons.mpr ⟨lw_p18, List.forall_mem_cons.mpr ⟨lw_p19, List.forall_mem_cons.mpr ⟨lw_p20, List.forall_mem_cons.mpr ⟨lw_p21, List.forall_mem_cons.mpr ⟨lw_p22, List.forall_mem_cons.mpr ⟨lw_p23, List.forall_mem_cons.mpr ⟨lw_p24, List.forall_mem_cons.mpr ⟨lw_p25, List.forall_mem_cons.mpr ⟨lw_p26, List.forall_mem_cons.mpr ⟨lw_p27, fun _ h => absurd h List.not_mem_nil⟩⟩⟩⟩⟩⟩⟩⟩⟩⟩⟩⟩
def lw_privs : List (MethodName × Nat) := lw_privs_1 ++ (lw_privs_2)
def lw_tbl : List Cond := k2_sels lw_privs ++ tables_1
theorem lw_privs_ok : ∀ q ∈ lw_privs, lw_okq q := by
  show ∀ q ∈ lw_privs_1 ++ (lw_privs_2), lw_okq q
  exact List.forall_mem_append.mpr ⟨lw_r1, lw_r2⟩
-- ===== end of PART A; then your names; then what follows =====
/-! THE CLAIM OUT OF ONE WALK OF THE LAW'S BODY. Your part is whole_start (and what it stands on); all else here is the same for every law, but numbers. -/
def R_law : String := "CashMachineLaw"
def lw_P (b : Addr) (xs : List Int32) (args : Array Value) (s : State) : Prop := args = #[.ref b] ∧ s.IntsAt b xs ∧ xs.length ≤ 2048 ∧ (Jvm.Cond.and given_1 narrow_1).before args s = true
def lw_Q (_ : Array Value) (s : State) (o : Outcome) (t : State) : Prop := o = .returned (some (.int 1)) ∧ Framed s o t [] 601024 7293034
def lw_Z (below : List Frame) (a : Array Value) (s : State) : State → Prop := fun t => ∃ o, t.status = .running ∧ Ended t below o ∧ lw_Q a s o t
/-- the law's own end, with 1 on the stack, nothing written that was there before, its room as the claim has it -/
theorem lw_ret {p : Program} {l : Launch} {e : Env} {s : State} {m : MethodId} {below : List Frame} {meth : Method} {c : Code} {b : Nat} (hx : p.tables.exec = Jvm.exec) (hb : c.code = code) (hr : meth.sig.returnType = ret) (hlocks : meth.locks = false) {pc : Nat} {H : Heap} {ls : Array Slot} (hdg : decode code pc = .ok (.ireturn, 1)) : W p l e room_1 s m #[Value.ref b] below meth c H [] 601024 7293034 (lw_Z below #[Value.ref b] s) (F0 m pc ls [.int 1]) := by
  intro T hT X
  obtain ⟨fs, hret, hrun, hended, hW, hframe⟩ := X.leave (v := some (.int 1)) (hlocks := hlocks) (fun h => by rw [hr] at h; cases h)
  have hmeth' : T.vm.method? m = some meth := X.method'
  refine ⟨T.setFrames fs, ?_, .returned (some (.int 1)), hrun, hended, rfl, ⟨_, rfl⟩, hW, hframe⟩
  jvm_step X.here [X.here.top, hx, hb, hdg, hmeth', hr, ret, narrow_b1]
  (try refine ⟨rfl, ?_⟩); (try refine ⟨rfl, ?_⟩)
  first | (intro acts; rw [hret _ acts rfl rfl rfl]) | rw [hret _ _ rfl rfl rfl]
  exact Steps.refl _
/-- what holds at the law's entry: the machine, the code, the tables' words (any of lw_tbl by 'hts w (by decide +kernel)'), the script of L ints xs at the cell b, what the Statement gives of the start (any of its parts by flat_of_before) -/
def lw_At (p : Program) (s : State) (m : MethodId) (meth : Method) (c : Code) (b L : Nat) (xs : Nat → Int32) : Prop :=
  p.tables.exec = Jvm.exec ∧ c.code = code ∧ meth.sig.returnType = ret ∧ c.maxLocals = 7 ∧ s.vm.findClass R_law = some m.cls ∧ (∀ w ∈ lw_tbl, w.before #[Value.ref b] s = true) ∧ va_X b L xs s s.heap ∧ b < s.heap.size ∧ meth.locks = false ∧ (Jvm.Cond.and given_1 narrow_1).before #[Value.ref b] s = true
end
section
/-! THE LAYER: a method's frame with its locals as a list (the first entry of a number counts), its world as a predicate of numbers. A row an instruction. -/
def ja_T : List Cond := lw_tbl.filter goodWord
abbrev ja_S : Type := Nat → Nat → Int32
def ja_lk : List (Nat × Value) → Nat → Option Value
  | [], _ => none
  | (j, v) :: t, i => match Nat.beq j i with
    | true => some v
    | false => ja_lk t i
def ja_nd : List (Nat × Value) → List (Nat × Value)
  | [] => []
  | (i, v) :: t => (i, v) :: (ja_nd t).filter (fun q => !(q.1 == i))
def ja_L (ls : Array Slot) (n : Nat) (L : List (Nat × Value)) : Prop := lv_has ls n (ja_nd L) ∧ ∀ q ∈ L, q.2.category = 1
theorem ja_nd_mem : ∀ {L : List (Nat × Value)} {q : Nat × Value}, q ∈ ja_nd L → q ∈ L
  | [], _, h => h
  | (i, v) :: t, q, h => by
    rcases List.mem_cons.mp h with h | h
    · exact h ▸ List.mem_cons_self
    · exact List.mem_cons_of_mem _ (ja_nd_mem ((List.mem_filter.mp h).1))
theorem ja_lk_mem : ∀ {L : List (Nat × Value)} {i : Nat} {v : Value}, ja_lk L i = some v → (i, v) ∈ ja_nd L
  | [], _, _, h => by cases h
  | (j, w) :: t, i, v, h => by
    unfold ja_lk at h
    cases hb : Nat.beq j i with
    | true =>
      rw [hb] at h
      have e1 : j = i := Nat.eq_of_beq_eq_true hb
      have e2 : w = v := Option.some.inj h
      subst e1; subst e2
      exact List.mem_cons_self
    | false =>
      rw [hb] at h
      have e1 : j ≠ i := Nat.ne_of_beq_eq_false hb
      refine List.mem_cons_of_mem _ (List.mem_filter.mpr ⟨ja_lk_mem h, ?_⟩)
      simpa using fun q => e1 q.symm
theorem ja_at {ls : Array Slot} {n i : Nat} {L : List (Nat × Value)} {v : Value} (h : ja_L ls n L) (k : ja_lk L i = some v) : ls[i]? = some (.val v) := h.1.2.2 (i, v) (ja_lk_mem k)
theorem ja_st {ls : Array Slot} {n i : Nat} {L : List (Nat × Value)} {v : Value} (h : ja_L ls n L) : (i, v) :: (ja_nd L).filter (fun q => !(q.1 == i) && !(q.1 + 1 == i && q.2.category == 2)) = ja_nd ((i, v) :: L) := by
  show _ = (i, v) :: (ja_nd L).filter (fun q => !(q.1 == i))
  congr 1
  refine List.filter_congr fun q hq => ?_
  have := h.2 q (ja_nd_mem hq)
  simp [this]
theorem ja_L.cons {ls ls' : Array Slot} {n i : Nat} {L : List (Nat × Value)} {v : Value} (h : ja_L ls n L) (hv : v.category = 1) (h' : lv_has ls' n (ja_nd ((i, v) :: L))) : ja_L ls' n ((i, v) :: L) :=
  ⟨h', fun q hq => by
    rcases List.mem_cons.mp hq with e | e
    · subst e; exact hv
    · exact h.2 q e⟩
/-- fewer locals: each of the new list is what the old one holds -/
def ja_sub (L : List (Nat × Value)) : List (Nat × Value) → Prop
  | [] => True
  | q :: t => ja_lk L q.1 = some q.2 ∧ ja_sub L t
theorem ja_sub_mem {L : List (Nat × Value)} : ∀ {L' : List (Nat × Value)}, ja_sub L L' → ∀ q ∈ L', ja_lk L q.1 = some q.2
  | [], _, _, h => by cases h
  | q :: t, hs, r, hr => by
    rcases List.mem_cons.mp hr with e | e
    · subst e; exact hs.1
    · exact ja_sub_mem hs.2 r e
theorem ja_L.less {ls : Array Slot} {n : Nat} {L L' : List (Nat × Value)} (h : ja_L ls n L) (hs : ja_sub L L') : ja_L ls n L' :=
  ⟨⟨h.1.1, h.1.2.1, fun q hq => h.1.2.2 q (ja_lk_mem (ja_sub_mem hs q (ja_nd_mem hq)))⟩, fun q hq => h.2 q (ja_nd_mem (ja_lk_mem (ja_sub_mem hs q hq)))⟩
section JA
variable {p : Program} {l : Launch} {e : Env} {R : Room} {s : State} {m : MethodId} {args : Array Value} {below : List Frame} {meth : Method} {c : Code} {Wp : ja_S → Heap → Prop} {b0 nL cells slots : Nat} {Q : State → Prop} {S : ja_S} {pc q : Nat} {L : List (Nat × Value)} {st : List Value} {cc : ByteArray} {own : String}
def ja_V (p : Program) (l : Launch) (e : Env) (R : Room) (s : State) (m : MethodId) (args : Array Value) (below : List Frame) (meth : Method) (c : Code) (Wp : ja_S → Heap → Prop) (b0 nL cells slots : Nat) (Q : State → Prop) (S : ja_S) (pc : Nat) (L : List (Nat × Value)) (st : List Value) : Prop :=
  ∀ (ls : Array Slot) (H : Heap) (locs : List Loc), ja_L ls nL L → Wp S H → va_S (fun q => b0 ≤ q) s.heap H locs → W p l e R s m args below meth c H locs cells slots Q (F0 m pc ls st)
theorem ja_less {L' : List (Nat × Value)} (h : ja_sub L L') (k : ja_V p l e R s m args below meth c Wp b0 nL cells slots Q S pc L' st) : ja_V p l e R s m args below meth c Wp b0 nL cells slots Q S pc L st := fun ls H locs hL hP hS => k ls H locs (hL.less h) hP hS
theorem ja_wide {k n : Nat} (h1 : cells ≤ k) (h2 : slots ≤ n) (kk : ja_V p l e R s m args below meth c Wp b0 nL k n Q S pc L st) : ja_V p l e R s m args below meth c Wp b0 nL cells slots Q S pc L st := fun ls H locs hL hP hS => W.widen h1 h2 (kk ls H locs hL hP hS)

theorem ja_iconst {X : Prop} (O : CallFix p m c cc nL s args ja_T own ∧ X) {n : Int} {v : Int32} (hd : decode cc pc = .ok (.iconst n, 1)) (hp : pc + 1 = q) (hv : Int32.ofInt n = v) (k : ja_V p l e R s m args below meth c Wp b0 nL cells slots Q S q L (.int v :: st)) : ja_V p l e R s m args below meth c Wp b0 nL cells slots Q S pc L (st) := by
  subst hp; exact fun ls H locs hL hP hS => lv_iconst O.1.1 O.1.2.1 hd hv (k ls H locs hL hP hS)
theorem ja_bipush {X : Prop} (O : CallFix p m c cc nL s args ja_T own ∧ X) {n : Int} {v : Int32} (hd : decode cc pc = .ok (.bipush n, 2)) (hp : pc + 2 = q) (hv : (Int8.ofInt n).toInt32 = v) (k : ja_V p l e R s m args below meth c Wp b0 nL cells slots Q S q L (.int v :: st)) : ja_V p l e R s m args below meth c Wp b0 nL cells slots Q S pc L (st) := by
  subst hp; exact fun ls H locs hL hP hS => lv_bipush O.1.1 O.1.2.1 hd hv (k ls H locs hL hP hS)
theorem ja_sipush {X : Prop} (O : CallFix p m c cc nL s args ja_T own ∧ X) {n : Int} {v : Int32} (hd : decode cc pc = .ok (.sipush n, 3)) (hp : pc + 3 = q) (hv : (Int16.ofInt n).toInt32 = v) (k : ja_V p l e R s m args below meth c Wp b0 nL cells slots Q S q L (.int v :: st)) : ja_V p l e R s m args below meth c Wp b0 nL cells slots Q S pc L (st) := by
  subst hp; exact fun ls H locs hL hP hS => lv_sipush O.1.1 O.1.2.1 hd hv (k ls H locs hL hP hS)
theorem ja_null {X : Prop} (O : CallFix p m c cc nL s args ja_T own ∧ X)  (hd : decode cc pc = .ok (.aconst_null, 1)) (hp : pc + 1 = q)  (k : ja_V p l e R s m args below meth c Wp b0 nL cells slots Q S q L (.null :: st)) : ja_V p l e R s m args below meth c Wp b0 nL cells slots Q S pc L (st) := by
  subst hp; exact fun ls H locs hL hP hS => lv_null O.1.1 O.1.2.1 hd  (k ls H locs hL hP hS)
theorem ja_ldc {X : Prop} (O : CallFix p m c cc nL s args ja_T own ∧ X) {i : Nat} {v : Int32} (hd : decode cc pc = .ok (.ldc i, 2)) (hp : pc + 2 = q) (hv : Jvm.Cond.constant own i v ∈ ja_T) (k : ja_V p l e R s m args below meth c Wp b0 nL cells slots Q S q L (.int v :: st)) : ja_V p l e R s m args below meth c Wp b0 nL cells slots Q S pc L (st) := by
  subst hp; exact fun ls H locs hL hP hS => lv_ldc O.1.1 O.1.2.1 O.1.2.2.2.1 (O.1.2.2.2.2 _ hv) hd (k ls H locs hL hP hS)
theorem ja_iload_n {X : Prop} (O : CallFix p m c cc nL s args ja_T own ∧ X) {z : Fin 4} {i : Nat} {x : Int32} (hd : decode cc pc = .ok (.iload_n z, 1)) (hp : pc + 1 = q) (hi : (z : Nat) = i) (hl : ja_lk L i = some (.int x)) (k : ja_V p l e R s m args below meth c Wp b0 nL cells slots Q S q L (.int x :: st)) : ja_V p l e R s m args below meth c Wp b0 nL cells slots Q S pc L (st) := by
  subst hp; exact fun ls H locs hL hP hS => lv_iload_n O.1.1 O.1.2.1 hd hi (ja_at hL hl) (k ls H locs hL hP hS)
theorem ja_iload {X : Prop} (O : CallFix p m c cc nL s args ja_T own ∧ X) {i : Nat} {x : Int32} (hd : decode cc pc = .ok (.iload i, 2)) (hp : pc + 2 = q) (hl : ja_lk L i = some (.int x)) (k : ja_V p l e R s m args below meth c Wp b0 nL cells slots Q S q L (.int x :: st)) : ja_V p l e R s m args below meth c Wp b0 nL cells slots Q S pc L (st) := by
  subst hp; exact fun ls H locs hL hP hS => lv_iload O.1.1 O.1.2.1 hd (ja_at hL hl) (k ls H locs hL hP hS)
theorem ja_istore_n {X : Prop} (O : CallFix p m c cc nL s args ja_T own ∧ X) {z : Fin 4} {i : Nat} {x : Int32} (hd : decode cc pc = .ok (.istore_n z, 1)) (hp : pc + 1 = q) (hi : (z : Nat) = i) (hn : i < nL) (k : ja_V p l e R s m args below meth c Wp b0 nL cells slots Q S q ((i, .int x) :: L) st) : ja_V p l e R s m args below meth c Wp b0 nL cells slots Q S pc L (.int x :: st) := by
  subst hp; exact fun ls H locs hL hP hS => lv_istore_n O.1.1 O.1.2.1 hd hi hL.1 hn (ja_st hL) (fun ls' hl => k ls' H locs (hL.cons rfl hl) hP hS)
theorem ja_istore {X : Prop} (O : CallFix p m c cc nL s args ja_T own ∧ X) {i : Nat} {x : Int32} (hd : decode cc pc = .ok (.istore i, 2)) (hp : pc + 2 = q) (hn : i < nL) (k : ja_V p l e R s m args below meth c Wp b0 nL cells slots Q S q ((i, .int x) :: L) st) : ja_V p l e R s m args below meth c Wp b0 nL cells slots Q S pc L (.int x :: st) := by
  subst hp; exact fun ls H locs hL hP hS => lv_istore O.1.1 O.1.2.1 hd hL.1 hn (ja_st hL) (fun ls' hl => k ls' H locs (hL.cons rfl hl) hP hS)
theorem ja_aload_n {X : Prop} (O : CallFix p m c cc nL s args ja_T own ∧ X) {z : Fin 4} {i : Nat} {x : Nat} (hd : decode cc pc = .ok (.aload_n z, 1)) (hp : pc + 1 = q) (hi : (z : Nat) = i) (hl : ja_lk L i = some (.ref x)) (k : ja_V p l e R s m args below meth c Wp b0 nL cells slots Q S q L (.ref x :: st)) : ja_V p l e R s m args below meth c Wp b0 nL cells slots Q S pc L (st) := by
  subst hp; exact fun ls H locs hL hP hS => lv_aload_n O.1.1 O.1.2.1 hd hi (ja_at hL hl) (k ls H locs hL hP hS)
theorem ja_aload {X : Prop} (O : CallFix p m c cc nL s args ja_T own ∧ X) {i : Nat} {x : Nat} (hd : decode cc pc = .ok (.aload i, 2)) (hp : pc + 2 = q) (hl : ja_lk L i = some (.ref x)) (k : ja_V p l e R s m args below meth c Wp b0 nL cells slots Q S q L (.ref x :: st)) : ja_V p l e R s m args below meth c Wp b0 nL cells slots Q S pc L (st) := by
  subst hp; exact fun ls H locs hL hP hS => lv_aload O.1.1 O.1.2.1 hd (ja_at hL hl) (k ls H locs hL hP hS)
theorem ja_astore_n {X : Prop} (O : CallFix p m c cc nL s args ja_T own ∧ X) {z : Fin 4} {i : Nat} {x : Nat} (hd : decode cc pc = .ok (.astore_n z, 1)) (hp : pc + 1 = q) (hi : (z : Nat) = i) (hn : i < nL) (k : ja_V p l e R s m args below meth c Wp b0 nL cells slots Q S q ((i, .ref x) :: L) st) : ja_V p l e R s m args below meth c Wp b0 nL cells slots Q S pc L (.ref x :: st) := by
  subst hp; exact fun ls H locs hL hP hS => lv_astore_n O.1.1 O.1.2.1 hd hi hL.1 hn (ja_st hL) (fun ls' hl => k ls' H locs (hL.cons rfl hl) hP hS)
theorem ja_astore {X : Prop} (O : CallFix p m c cc nL s args ja_T own ∧ X) {i : Nat} {x : Nat} (hd : decode cc pc = .ok (.astore i, 2)) (hp : pc + 2 = q) (hn : i < nL) (k : ja_V p l e R s m args below meth c Wp b0 nL cells slots Q S q ((i, .ref x) :: L) st) : ja_V p l e R s m args below meth c Wp b0 nL cells slots Q S pc L (.ref x :: st) := by
  subst hp; exact fun ls H locs hL hP hS => lv_astore O.1.1 O.1.2.1 hd hL.1 hn (ja_st hL) (fun ls' hl => k ls' H locs (hL.cons rfl hl) hP hS)
theorem ja_iinc {X : Prop} (O : CallFix p m c cc nL s args ja_T own ∧ X) {i : Nat} {n : Int} {x v : Int32} (hd : decode cc pc = .ok (.iinc i n, 3)) (hp : pc + 3 = q) (hl : ja_lk L i = some (.int x)) (hv : x + Int32.ofInt n = v) (hn : i < nL) (k : ja_V p l e R s m args below meth c Wp b0 nL cells slots Q S q ((i, .int v) :: L) st) : ja_V p l e R s m args below meth c Wp b0 nL cells slots Q S pc L st := by
  subst hp; intro ls H locs hL hP hS; obtain ⟨j, hj⟩ := List.getElem?_of_mem (ja_lk_mem hl); exact lv_iinc O.1.1 O.1.2.1 hd hL.1 hj hv hn (ja_st hL) (fun ls' h => k ls' H locs (hL.cons rfl h) hP hS)
theorem ja_iadd {X : Prop} (O : CallFix p m c cc nL s args ja_T own ∧ X) {x y : Int32} (hd : decode cc pc = .ok (.iadd, 1)) (hp : pc + 1 = q)  (k : ja_V p l e R s m args below meth c Wp b0 nL cells slots Q S q L (.int (x + y) :: st)) : ja_V p l e R s m args below meth c Wp b0 nL cells slots Q S pc L (.int y :: .int x :: st) := by
  subst hp; exact fun ls H locs hL hP hS => lv_iadd O.1.1 O.1.2.1 hd  (k ls H locs hL hP hS)
theorem ja_isub {X : Prop} (O : CallFix p m c cc nL s args ja_T own ∧ X) {x y : Int32} (hd : decode cc pc = .ok (.isub, 1)) (hp : pc + 1 = q)  (k : ja_V p l e R s m args below meth c Wp b0 nL cells slots Q S q L (.int (x - y) :: st)) : ja_V p l e R s m args below meth c Wp b0 nL cells slots Q S pc L (.int y :: .int x :: st) := by
  subst hp; exact fun ls H locs hL hP hS => lv_isub O.1.1 O.1.2.1 hd  (k ls H locs hL hP hS)
theorem ja_imul {X : Prop} (O : CallFix p m c cc nL s args ja_T own ∧ X) {x y : Int32} (hd : decode cc pc = .ok (.imul, 1)) (hp : pc + 1 = q)  (k : ja_V p l e R s m args below meth c Wp b0 nL cells slots Q S q L (.int (x * y) :: st)) : ja_V p l e R s m args below meth c Wp b0 nL cells slots Q S pc L (.int y :: .int x :: st) := by
  subst hp; exact fun ls H locs hL hP hS => lv_imul O.1.1 O.1.2.1 hd  (k ls H locs hL hP hS)
theorem ja_iand {X : Prop} (O : CallFix p m c cc nL s args ja_T own ∧ X) {x y : Int32} (hd : decode cc pc = .ok (.iand, 1)) (hp : pc + 1 = q)  (k : ja_V p l e R s m args below meth c Wp b0 nL cells slots Q S q L (.int (x &&& y) :: st)) : ja_V p l e R s m args below meth c Wp b0 nL cells slots Q S pc L (.int y :: .int x :: st) := by
  subst hp; exact fun ls H locs hL hP hS => lv_iand O.1.1 O.1.2.1 hd  (k ls H locs hL hP hS)
theorem ja_ior {X : Prop} (O : CallFix p m c cc nL s args ja_T own ∧ X) {x y : Int32} (hd : decode cc pc = .ok (.ior, 1)) (hp : pc + 1 = q)  (k : ja_V p l e R s m args below meth c Wp b0 nL cells slots Q S q L (.int (x ||| y) :: st)) : ja_V p l e R s m args below meth c Wp b0 nL cells slots Q S pc L (.int y :: .int x :: st) := by
  subst hp; exact fun ls H locs hL hP hS => lv_ior O.1.1 O.1.2.1 hd  (k ls H locs hL hP hS)
theorem ja_ishl {X : Prop} (O : CallFix p m c cc nL s args ja_T own ∧ X) {x y : Int32} (hd : decode cc pc = .ok (.ishl, 1)) (hp : pc + 1 = q)  (k : ja_V p l e R s m args below meth c Wp b0 nL cells slots Q S q L (.int (x <<< (y &&& 31)) :: st)) : ja_V p l e R s m args below meth c Wp b0 nL cells slots Q S pc L (.int y :: .int x :: st) := by
  subst hp; exact fun ls H locs hL hP hS => lv_ishl O.1.1 O.1.2.1 hd  (k ls H locs hL hP hS)
theorem ja_idiv {X : Prop} (O : CallFix p m c cc nL s args ja_T own ∧ X) {x y : Int32} (hd : decode cc pc = .ok (.idiv, 1)) (hp : pc + 1 = q) (hne : ¬ y = 0) (k : ja_V p l e R s m args below meth c Wp b0 nL cells slots Q S q L (.int (x / y) :: st)) : ja_V p l e R s m args below meth c Wp b0 nL cells slots Q S pc L (.int y :: .int x :: st) := by
  subst hp; exact fun ls H locs hL hP hS => lv_idiv O.1.1 O.1.2.1 hd hne (k ls H locs hL hP hS)
theorem ja_irem {X : Prop} (O : CallFix p m c cc nL s args ja_T own ∧ X) {x y : Int32} (hd : decode cc pc = .ok (.irem, 1)) (hp : pc + 1 = q) (hne : ¬ y = 0) (k : ja_V p l e R s m args below meth c Wp b0 nL cells slots Q S q L (.int (x - x / y * y) :: st)) : ja_V p l e R s m args below meth c Wp b0 nL cells slots Q S pc L (.int y :: .int x :: st) := by
  subst hp; exact fun ls H locs hL hP hS => lv_irem O.1.1 O.1.2.1 hd hne (k ls H locs hL hP hS)
theorem ja_ineg {X : Prop} (O : CallFix p m c cc nL s args ja_T own ∧ X) {x : Int32} (hd : decode cc pc = .ok (.ineg, 1)) (hp : pc + 1 = q)  (k : ja_V p l e R s m args below meth c Wp b0 nL cells slots Q S q L (.int (-x) :: st)) : ja_V p l e R s m args below meth c Wp b0 nL cells slots Q S pc L (.int x :: st) := by
  subst hp; exact fun ls H locs hL hP hS => lv_ineg O.1.1 O.1.2.1 hd  (k ls H locs hL hP hS)
theorem ja_dup {X : Prop} (O : CallFix p m c cc nL s args ja_T own ∧ X) {x : Value} (hd : decode cc pc = .ok (.dup, 1)) (hp : pc + 1 = q) (hx : x.category = 1) (k : ja_V p l e R s m args below meth c Wp b0 nL cells slots Q S q L (x :: x :: st)) : ja_V p l e R s m args below meth c Wp b0 nL cells slots Q S pc L (x :: st) := by
  subst hp; exact fun ls H locs hL hP hS => lv_dup O.1.1 O.1.2.1 hd hx (k ls H locs hL hP hS)
theorem ja_pop {X : Prop} (O : CallFix p m c cc nL s args ja_T own ∧ X) {x : Value} (hd : decode cc pc = .ok (.pop, 1)) (hp : pc + 1 = q) (hx : x.category = 1) (k : ja_V p l e R s m args below meth c Wp b0 nL cells slots Q S q L (st)) : ja_V p l e R s m args below meth c Wp b0 nL cells slots Q S pc L (x :: st) := by
  subst hp; exact fun ls H locs hL hP hS => lv_pop O.1.1 O.1.2.1 hd hx (k ls H locs hL hP hS)
theorem ja_dup_x1 {X : Prop} (O : CallFix p m c cc nL s args ja_T own ∧ X) {x y : Value} (hd : decode cc pc = .ok (.dup_x1, 1)) (hp : pc + 1 = q) (hx : x.category = 1) (hy : y.category = 1) (k : ja_V p l e R s m args below meth c Wp b0 nL cells slots Q S q L (x :: y :: x :: st)) : ja_V p l e R s m args below meth c Wp b0 nL cells slots Q S pc L (x :: y :: st) := by
  subst hp; exact fun ls H locs hL hP hS => lv_dup_x1 O.1.1 O.1.2.1 hd hx hy (k ls H locs hL hP hS)
theorem ja_dup_x2 {X : Prop} (O : CallFix p m c cc nL s args ja_T own ∧ X) {x y z : Value} (hd : decode cc pc = .ok (.dup_x2, 1)) (hp : pc + 1 = q) (hx : x.category = 1) (hy : y.category = 1) (hz : z.category = 1) (k : ja_V p l e R s m args below meth c Wp b0 nL cells slots Q S q L (x :: y :: z :: x :: st)) : ja_V p l e R s m args below meth c Wp b0 nL cells slots Q S pc L (x :: y :: z :: st) := by
  subst hp; exact fun ls H locs hL hP hS => lv_dup_x2 O.1.1 O.1.2.1 hd hx hy hz (k ls H locs hL hP hS)
theorem ja_dup2 {X : Prop} (O : CallFix p m c cc nL s args ja_T own ∧ X) {x y : Value} (hd : decode cc pc = .ok (.dup2, 1)) (hp : pc + 1 = q) (hx : x.category = 1) (hy : y.category = 1) (k : ja_V p l e R s m args below meth c Wp b0 nL cells slots Q S q L (x :: y :: x :: y :: st)) : ja_V p l e R s m args below meth c Wp b0 nL cells slots Q S pc L (x :: y :: st) := by
  subst hp; exact fun ls H locs hL hP hS => lv_dup2_11 O.1.1 O.1.2.1 hd hx hy (k ls H locs hL hP hS)
theorem ja_i2l {X : Prop} (O : CallFix p m c cc nL s args ja_T own ∧ X) {x : Int32} (hd : decode cc pc = .ok (.i2l, 1)) (hp : pc + 1 = q)  (k : ja_V p l e R s m args below meth c Wp b0 nL cells slots Q S q L (.long x.toInt64 :: st)) : ja_V p l e R s m args below meth c Wp b0 nL cells slots Q S pc L (.int x :: st) := by
  subst hp; exact fun ls H locs hL hP hS => lv_i2l O.1.1 O.1.2.1 hd rfl (k ls H locs hL hP hS)
theorem ja_lcmp {X : Prop} (O : CallFix p m c cc nL s args ja_T own ∧ X) {x y : Int64} (hd : decode cc pc = .ok (.lcmp, 1)) (hp : pc + 1 = q)  (k : ja_V p l e R s m args below meth c Wp b0 nL cells slots Q S q L (.int (lg_cmp x y) :: st)) : ja_V p l e R s m args below meth c Wp b0 nL cells slots Q S pc L (.long y :: .long x :: st) := by
  subst hp; exact fun ls H locs hL hP hS => W.lcmp O.1.1 O.1.2.1 hd  (k ls H locs hL hP hS)
theorem ja_if_eq {X : Prop} (O : CallFix p m c cc nL s args ja_T own ∧ X) {x : Int32} {off : Int} {g : Nat} (hd : decode cc pc = .ok (.ifCond .eq off, 3)) (ht : (pc : Int) + off = (g : Int)) (hp : pc + 3 = q) (kt : x = 0 → ja_V p l e R s m args below meth c Wp b0 nL cells slots Q S g L st) (kf : ¬ x = 0 → ja_V p l e R s m args below meth c Wp b0 nL cells slots Q S q L st) : ja_V p l e R s m args below meth c Wp b0 nL cells slots Q S pc L (.int x :: st) := by
  subst hp; exact fun ls H locs hL hP hS => lv_if_eq O.1.1 O.1.2.1 hd ht (fun h => kt h ls H locs hL hP hS) (fun h => kf h ls H locs hL hP hS)
theorem ja_if_ne {X : Prop} (O : CallFix p m c cc nL s args ja_T own ∧ X) {x : Int32} {off : Int} {g : Nat} (hd : decode cc pc = .ok (.ifCond .ne off, 3)) (ht : (pc : Int) + off = (g : Int)) (hp : pc + 3 = q) (kt : ¬ x = 0 → ja_V p l e R s m args below meth c Wp b0 nL cells slots Q S g L st) (kf : x = 0 → ja_V p l e R s m args below meth c Wp b0 nL cells slots Q S q L st) : ja_V p l e R s m args below meth c Wp b0 nL cells slots Q S pc L (.int x :: st) := by
  subst hp; exact fun ls H locs hL hP hS => lv_if_ne O.1.1 O.1.2.1 hd ht (fun h => kt h ls H locs hL hP hS) (fun h => kf h ls H locs hL hP hS)
theorem ja_if_lt {X : Prop} (O : CallFix p m c cc nL s args ja_T own ∧ X) {x : Int32} {off : Int} {g : Nat} (hd : decode cc pc = .ok (.ifCond .lt off, 3)) (ht : (pc : Int) + off = (g : Int)) (hp : pc + 3 = q) (kt : x < 0 → ja_V p l e R s m args below meth c Wp b0 nL cells slots Q S g L st) (kf : ¬ x < 0 → ja_V p l e R s m args below meth c Wp b0 nL cells slots Q S q L st) : ja_V p l e R s m args below meth c Wp b0 nL cells slots Q S pc L (.int x :: st) := by
  subst hp; exact fun ls H locs hL hP hS => lv_if_lt O.1.1 O.1.2.1 hd ht (fun h => kt h ls H locs hL hP hS) (fun h => kf h ls H locs hL hP hS)
theorem ja_if_ge {X : Prop} (O : CallFix p m c cc nL s args ja_T own ∧ X) {x : Int32} {off : Int} {g : Nat} (hd : decode cc pc = .ok (.ifCond .ge off, 3)) (ht : (pc : Int) + off = (g : Int)) (hp : pc + 3 = q) (kt : 0 ≤ x → ja_V p l e R s m args below meth c Wp b0 nL cells slots Q S g L st) (kf : ¬ 0 ≤ x → ja_V p l e R s m args below meth c Wp b0 nL cells slots Q S q L st) : ja_V p l e R s m args below meth c Wp b0 nL cells slots Q S pc L (.int x :: st) := by
  subst hp; exact fun ls H locs hL hP hS => lv_if_ge O.1.1 O.1.2.1 hd ht (fun h => kt h ls H locs hL hP hS) (fun h => kf h ls H locs hL hP hS)
theorem ja_if_gt {X : Prop} (O : CallFix p m c cc nL s args ja_T own ∧ X) {x : Int32} {off : Int} {g : Nat} (hd : decode cc pc = .ok (.ifCond .gt off, 3)) (ht : (pc : Int) + off = (g : Int)) (hp : pc + 3 = q) (kt : 0 < x → ja_V p l e R s m args below meth c Wp b0 nL cells slots Q S g L st) (kf : ¬ 0 < x → ja_V p l e R s m args below meth c Wp b0 nL cells slots Q S q L st) : ja_V p l e R s m args below meth c Wp b0 nL cells slots Q S pc L (.int x :: st) := by
  subst hp; exact fun ls H locs hL hP hS => lv_if_gt O.1.1 O.1.2.1 hd ht (fun h => kt h ls H locs hL hP hS) (fun h => kf h ls H locs hL hP hS)
theorem ja_if_le {X : Prop} (O : CallFix p m c cc nL s args ja_T own ∧ X) {x : Int32} {off : Int} {g : Nat} (hd : decode cc pc = .ok (.ifCond .le off, 3)) (ht : (pc : Int) + off = (g : Int)) (hp : pc + 3 = q) (kt : x ≤ 0 → ja_V p l e R s m args below meth c Wp b0 nL cells slots Q S g L st) (kf : ¬ x ≤ 0 → ja_V p l e R s m args below meth c Wp b0 nL cells slots Q S q L st) : ja_V p l e R s m args below meth c Wp b0 nL cells slots Q S pc L (.int x :: st) := by
  subst hp; exact fun ls H locs hL hP hS => lv_if_le O.1.1 O.1.2.1 hd ht (fun h => kt h ls H locs hL hP hS) (fun h => kf h ls H locs hL hP hS)
theorem ja_icmp_eq {X : Prop} (O : CallFix p m c cc nL s args ja_T own ∧ X) {x y : Int32} {off : Int} {g : Nat} (hd : decode cc pc = .ok (.if_icmp .eq off, 3)) (ht : (pc : Int) + off = (g : Int)) (hp : pc + 3 = q) (kt : x = y → ja_V p l e R s m args below meth c Wp b0 nL cells slots Q S g L st) (kf : ¬ x = y → ja_V p l e R s m args below meth c Wp b0 nL cells slots Q S q L st) : ja_V p l e R s m args below meth c Wp b0 nL cells slots Q S pc L (.int y :: .int x :: st) := by
  subst hp; exact fun ls H locs hL hP hS => lv_icmp_eq O.1.1 O.1.2.1 hd ht (fun h => kt h ls H locs hL hP hS) (fun h => kf h ls H locs hL hP hS)
theorem ja_icmp_ne {X : Prop} (O : CallFix p m c cc nL s args ja_T own ∧ X) {x y : Int32} {off : Int} {g : Nat} (hd : decode cc pc = .ok (.if_icmp .ne off, 3)) (ht : (pc : Int) + off = (g : Int)) (hp : pc + 3 = q) (kt : ¬ x = y → ja_V p l e R s m args below meth c Wp b0 nL cells slots Q S g L st) (kf : x = y → ja_V p l e R s m args below meth c Wp b0 nL cells slots Q S q L st) : ja_V p l e R s m args below meth c Wp b0 nL cells slots Q S pc L (.int y :: .int x :: st) := by
  subst hp; exact fun ls H locs hL hP hS => lv_icmp_ne O.1.1 O.1.2.1 hd ht (fun h => kt h ls H locs hL hP hS) (fun h => kf h ls H locs hL hP hS)
theorem ja_icmp_lt {X : Prop} (O : CallFix p m c cc nL s args ja_T own ∧ X) {x y : Int32} {off : Int} {g : Nat} (hd : decode cc pc = .ok (.if_icmp .lt off, 3)) (ht : (pc : Int) + off = (g : Int)) (hp : pc + 3 = q) (kt : x < y → ja_V p l e R s m args below meth c Wp b0 nL cells slots Q S g L st) (kf : ¬ x < y → ja_V p l e R s m args below meth c Wp b0 nL cells slots Q S q L st) : ja_V p l e R s m args below meth c Wp b0 nL cells slots Q S pc L (.int y :: .int x :: st) := by
  subst hp; exact fun ls H locs hL hP hS => lv_icmp_lt O.1.1 O.1.2.1 hd ht (fun h => kt h ls H locs hL hP hS) (fun h => kf h ls H locs hL hP hS)
theorem ja_icmp_ge {X : Prop} (O : CallFix p m c cc nL s args ja_T own ∧ X) {x y : Int32} {off : Int} {g : Nat} (hd : decode cc pc = .ok (.if_icmp .ge off, 3)) (ht : (pc : Int) + off = (g : Int)) (hp : pc + 3 = q) (kt : y ≤ x → ja_V p l e R s m args below meth c Wp b0 nL cells slots Q S g L st) (kf : ¬ y ≤ x → ja_V p l e R s m args below meth c Wp b0 nL cells slots Q S q L st) : ja_V p l e R s m args below meth c Wp b0 nL cells slots Q S pc L (.int y :: .int x :: st) := by
  subst hp; exact fun ls H locs hL hP hS => lv_icmp_ge O.1.1 O.1.2.1 hd ht (fun h => kt h ls H locs hL hP hS) (fun h => kf h ls H locs hL hP hS)
theorem ja_icmp_gt {X : Prop} (O : CallFix p m c cc nL s args ja_T own ∧ X) {x y : Int32} {off : Int} {g : Nat} (hd : decode cc pc = .ok (.if_icmp .gt off, 3)) (ht : (pc : Int) + off = (g : Int)) (hp : pc + 3 = q) (kt : y < x → ja_V p l e R s m args below meth c Wp b0 nL cells slots Q S g L st) (kf : ¬ y < x → ja_V p l e R s m args below meth c Wp b0 nL cells slots Q S q L st) : ja_V p l e R s m args below meth c Wp b0 nL cells slots Q S pc L (.int y :: .int x :: st) := by
  subst hp; exact fun ls H locs hL hP hS => lv_icmp_gt O.1.1 O.1.2.1 hd ht (fun h => kt h ls H locs hL hP hS) (fun h => kf h ls H locs hL hP hS)
theorem ja_icmp_le {X : Prop} (O : CallFix p m c cc nL s args ja_T own ∧ X) {x y : Int32} {off : Int} {g : Nat} (hd : decode cc pc = .ok (.if_icmp .le off, 3)) (ht : (pc : Int) + off = (g : Int)) (hp : pc + 3 = q) (kt : x ≤ y → ja_V p l e R s m args below meth c Wp b0 nL cells slots Q S g L st) (kf : ¬ x ≤ y → ja_V p l e R s m args below meth c Wp b0 nL cells slots Q S q L st) : ja_V p l e R s m args below meth c Wp b0 nL cells slots Q S pc L (.int y :: .int x :: st) := by
  subst hp; exact fun ls H locs hL hP hS => lv_icmp_le O.1.1 O.1.2.1 hd ht (fun h => kt h ls H locs hL hP hS) (fun h => kf h ls H locs hL hP hS)
theorem ja_goto {X : Prop} (O : CallFix p m c cc nL s args ja_T own ∧ X) {off : Int} {g : Nat} (hd : decode cc pc = .ok (.goto off, 3)) (ht : (pc : Int) + off = (g : Int)) (k : ja_V p l e R s m args below meth c Wp b0 nL cells slots Q S g L st) : ja_V p l e R s m args below meth c Wp b0 nL cells slots Q S pc L st := by
  exact fun ls H locs hL hP hS => lv_goto O.1.1 O.1.2.1 hd ht (k ls H locs hL hP hS)
theorem ja_tableOut {X : Prop} (O : CallFix p m c cc nL s args ja_T own ∧ X) {dflt lo hi : Int} {offs : Array Int} {len g : Nat} {x : Int32} (hd : decode cc pc = .ok (.tableswitch dflt lo hi offs, len)) (h : x.toInt < lo ∨ hi < x.toInt) (ht : (pc : Int) + dflt = (g : Int)) (k : ja_V p l e R s m args below meth c Wp b0 nL cells slots Q S g L st) : ja_V p l e R s m args below meth c Wp b0 nL cells slots Q S pc L (.int x :: st) := by
  exact fun ls H locs hL hP hS => lv_tableOut O.1.1 O.1.2.1 hd h ht (k ls H locs hL hP hS)
theorem ja_tableIn {X : Prop} (O : CallFix p m c cc nL s args ja_T own ∧ X) {dflt lo hi off : Int} {offs : Array Int} {len g : Nat} {x : Int32} (hd : decode cc pc = .ok (.tableswitch dflt lo hi offs, len)) (h1 : ¬ x.toInt < lo) (h2 : ¬ hi < x.toInt) (ho : offs[(x.toInt - lo).toNat]? = some off) (ht : (pc : Int) + off = (g : Int)) (k : ja_V p l e R s m args below meth c Wp b0 nL cells slots Q S g L st) : ja_V p l e R s m args below meth c Wp b0 nL cells slots Q S pc L (.int x :: st) := by
  exact fun ls H locs hL hP hS => lv_tableIn O.1.1 O.1.2.1 hd h1 h2 ho ht (k ls H locs hL hP hS)
end JA
end
section
/-! CALLS THAT THROW, AND WHERE THE EXCEPTION IS CAUGHT. The kit's 'Met' is of methods that return; here the same for methods that throw, and the search through a handler table whose classes may be resolved only then. -/
section JTH
def jt_M (l : Launch) (y : MethodName) (ws : List Cond) (rm : Room) (Pc : Array Value → State → Prop) (Qc : Array Value → State → Addr → State → Prop) (mc ms : Nat) (free : Addr → Prop) : Prop :=
  MetFree l y (headSpec ws rm) Pc (fun _ _ _ _ _ => True) (fun a st o t => ∃ x, o = .threw x ∧ Qc a st x t ∧ ∃ L, st.WarmedH t.vm ∧ st.sameButNew ({ t with vm := st.vm } : State) L mc ms ∧ ∀ q ∈ L, free q.base)
variable {p : Program} {l : Launch} {e : Env} {R : Room} {s : State} {m : MethodId} {args : Array Value} {below : List Frame} {meth : Method} {c : Code} {H : Heap} {locs : List Loc} {cells slots : Nat} {Q : State → Prop}
/-- where the walk of a method that throws ends -/
def jt_Q (below : List Frame) (Qc : Array Value → State → Addr → State → Prop) (a : Array Value) (s : State) (mc ms : Nat) (free : Addr → Prop) : State → Prop := fun t =>
  ∃ x, t.status = .running ∧ Ended t below (.threw x) ∧ Qc a s x t ∧ ∃ L, s.WarmedH t.vm ∧ s.sameButNew ({ t with vm := s.vm } : State) L mc ms ∧ ∀ q ∈ L, free q.base
theorem jt_M.ofW {y : MethodName} {ws ws' : List Cond} {rm : Room} {Pc : Array Value → State → Prop} {Qc : Array Value → State → Addr → State → Prop} {mc ms : Nat} {free : Addr → Prop} {cc : ByteArray} {maxL : Nat} {ret : Option FieldType}
    (hy : plainName y.cls = true) (hw : ws = Cond.code y cc maxL ret :: ws')
    (body : ∀ p e s m args below meth c s₁, BodyLoose p l y (headSpec ws rm) cc maxL ret e s m args below meth c s₁ → c.maxLocals = maxL → Pc args s →
      W p l e (headSpec ws rm).room s m args below meth c s.heap [] 0 0 (jt_Q below Qc args s mc ms free) (entryFrame m args maxL)) : jt_M l y ws rm Pc Qc mc ms free := by
  refine MetFree.of_bodyS (code := cc) (maxLocals := maxL) (ret := ret) hy ?_ ?_
  · intro args s m h hn
    obtain ⟨meth, c, h1, h2, h3, h4, h5, h6, -, -⟩ := Cond.code_spec hn (atoms_spec (ws := ws) h _ (by rw [hw]; exact List.mem_cons_self))
    exact ⟨meth, c, h1, h2, h3, h4, h5, h6⟩
  · intro p e s m args below meth c s₁ B hml hP _
    have hh0 : s₁.heap = s.heap := by rw [B.state]; rfl
    obtain ⟨t, a1, x, b1, b2, b3⟩ := body p e s m args below meth c s₁ B hml hP s₁ hh0 (Stand.of_body B)
    exact ⟨t, .threw x, a1, b1, b2, x, rfl, b3⟩
def jt_Run (p : Program) (l : Launch) (e : Env) (R : Room) (s : State) (m : MethodId) (args : Array Value) (below : List Frame) (meth : Method) (c : Code) (H : Heap) (locs : List Loc) (cells slots mc ms : Nat) (g : JFrame) (rest : List Value) (Qa : State → Addr → State → Prop) (free : Addr → Prop) : Prop :=
  ∀ T : State, T.heap = H → Stand p l e R s m args below meth c T locs cells slots → ∃ (x : Addr) (st₀ t T' : State) (L : List Loc), st₀.heap = H ∧ Stand p l e R s m args below meth c T' (locs ++ L) (cells + mc) (slots + ms) ∧ (∀ q ∈ L, free q.base) ∧ T'.heap = t.heap ∧ T'.vm = t.vm ∧ Qa st₀ x t ∧
    ∀ tg, Steps p.tables e below ((T'.setTop { g with stack := rest }).pushFrame (.throwing x)) tg → Steps p.tables e below (T.setTop g) tg
theorem jt_runV {y : MethodName} {bytes cc : ByteArray} {maxL nL mc ms n index : Nat} {ret : Option FieldType} {ws : List Cond} {rm : Room} {Pc : Array Value → State → Prop} {Qc : Array Value → State → Addr → State → Prop} {free : Addr → Prop} {Ts : List Cond} {own C : String} {b : Addr} {As rest : List Value} {g : JFrame}
    (S : CallFix p m c cc nL s args Ts own) (hM : jt_M l y ws rm Pc Qc mc ms free) (cw : CallW R s args own C index y bytes maxL ret ws rm mc ms n) (hp : PreV s H C b Pc As)
    (hg : g.method = m) (hn : As.length = n) (hsize : g.locals.size = nL) (hstack : g.stack = As.reverse ++ .ref b :: rest) (hW : 2 * g.monitorRoom + (rest.map fun v => v.category).sum ≤ 8) (hdg : decode cc g.pc = .ok (.invokevirtual index, 3)) (hf : cells + mc ≤ R.cells ∧ slots + ms ≤ R.slots) :
    jt_Run p l e R s m args below meth c H locs cells slots mc ms g rest (Qc (Value.ref b :: As).toArray) free := by
  obtain ⟨⟨hrc, hrs, hfr, hlo, hws, hcw, hcode, hini, hy, hlen, hl⟩, hinst, hsel⟩ := cw
  obtain ⟨hx, hb, hml, hown, -⟩ := S
  obtain ⟨hblind, ⟨cellB, hcB, hoB, hclB⟩, hPc⟩ := hp
  intro T hT X
  subst hb
  obtain ⟨mk, methM, hnamed, hmethM, hstM, habM⟩ := Cond.instanceMethod_spec hinst
  obtain ⟨methM', cM, hmethM', hcM, -, hlM, -, -, -, hsigM⟩ := Cond.code_spec hnamed hcode
  cases hmethM.symm.trans hmethM'
  obtain ⟨c2, r2, m2, q1, q2, q3, q4, kP, hkP, hkPi⟩ := Cond.selects_spec hsel
  cases hclB.symm.trans q1
  cases (State.methodFound?_of_named hnamed hy).symm.trans q2
  cases hnamed.symm.trans q3
  have hselP : selectMethod e.platform s.vm cellB.cls mk = .method mk := by rw [Launch.admits_selectMethod X.admits]; exact q4
  obtain ⟨vm₁, X₁, hstep₁⟩ := X.invokevirtual hx hown hl hnamed hmethM hstM hkP hkPi hy (a := b) (cell := cellB) (by rw [hT]; exact hcB)
    (fun z h => by rw [h] at hoB; cases hoB) hselP hmethM habM hkP hkPi (g := g) hg (argsL := As) (rest := rest) (hn.trans (hlen _ hsigM)) hstack hdg
  have h : At (T.setVm vm₁) { g with stack := rest }.method c below := by rw [show ({ g with stack := rest } : JFrame).method = m from hg]; exact X₁.here
  have hnamed₁ : (T.setVm vm₁).methodNamed? y = some mk := X₁.named hnamed
  have hcode₁ : (Cond.code y bytes maxL ret).before (Value.ref b :: As).toArray (T.setVm vm₁) = true := hws _ hcw _ _ X₁.warmed
  obtain ⟨methY, cY, hmY, hcY, -, hlY, -, -, -, -⟩ := Cond.code_spec hnamed₁ hcode₁
  obtain ⟨kY, hkY, -⟩ := className_of_methodNamed hnamed₁
  have hini₁ : (Cond.initialized y.cls).before (Value.ref b :: As).toArray (T.setVm vm₁) = true := word_at X₁.warmed (Or.inl (by first | rfl | simp [Cond.onTables, Cond.keeps, Cond.steady])) hini
  have hinitY : kY.init = .initialized := Cond.initialized_spec (findClass_of_methodNamed hnamed₁) hkY hini₁
  have happ : (headSpec ws rm).appliesLoose y e.platform ((T.setVm vm₁).calling { g with stack := rest } mk (Value.ref b :: As).toArray) = true :=
    Spec.appliesLoose_calling (g := { g with stack := rest }) h hdg hnamed₁ hkY hinitY
      (X₁.room_calling (g := { g with stack := rest }) (R' := (headSpec ws rm).room) (hsize.trans hml.symm) hmY hcY hfr (by rw [hlY]; show 2 * g.monitorRoom + (rest.map fun v => v.category).sum + (maxL + 11) + rm.locals ≤ R.locals; omega)
        (by rw [show (headSpec ws rm).room.cells = mc from hrc]; exact hf.1) (by rw [show (headSpec ws rm).room.slots = ms from hrs]; exact hf.2)) (atoms_intro fun w hw => hws w hw _ _ X₁.warmed)
  obtain ⟨mid, hmid⟩ := h.above
  have hfr2 : ((T.setVm vm₁).setTop { g with stack := rest }).frames = (.java { g with stack := rest } :: mid) ++ below := by rw [State.frames_setTop' _ h.top, hmid]; rfl
  have hPre : Pc (Value.ref b :: As).toArray ((T.setVm vm₁).calling { g with stack := rest } mk (Value.ref b :: As).toArray) := hblind _ _ _ _ (hPc (T.setVm vm₁) hT X₁.warmed)
  obtain ⟨o, s₂, hsteps, -, hend, hq⟩ := Steps.callFree hM p X.admits X.cas X.clock (acts := []) hfr2 happ hPre trivial
  obtain ⟨v, rfl, hqc, L, hW₂, hsm, hL⟩ := hq
  have hend' : s₂.frames = .throwing v :: .java { g with stack := rest } :: (T.setVm vm₁).frames.tail := by
    have h9 : s₂.frames = .throwing v :: ((T.setVm vm₁).setTop { g with stack := rest }).frames := hend
    rw [h9, State.frames_setTop' _ h.top]
  generalize hU : T.setVm vm₁ = U at *
  generalize hg' : ({ g with stack := rest } : JFrame) = g' at *
  obtain ⟨e2, q2, q3, q4, q5, q6⟩ := id hsm
  have hsteps' : Steps p.tables e below (doInvoke e (U.setTop g') [] mk (Value.ref b :: As).toArray).1 s₂ := hsteps
  have e3 : s₂ = ({ (U.calling g' mk (Value.ref b :: As).toArray).setFrames s₂.frames with heap := s₂.heap, slotsUsed := s₂.slotsUsed } : State).setVm s₂.vm := by
    have h1 : s₂ = ({ s₂ with vm := (U.calling g' mk (Value.ref b :: As).toArray).vm } : State).setVm s₂.vm := rfl
    have h2 : ({ s₂ with vm := (U.calling g' mk (Value.ref b :: As).toArray).vm } : State) = ({ (U.calling g' mk (Value.ref b :: As).toArray).setFrames s₂.frames with heap := s₂.heap, slotsUsed := s₂.slotsUsed } : State) := e2
    rw [h2] at h1
    exact h1
  have hW' : U.WarmedH s₂.vm := hW₂
  obtain ⟨g₀, hg0⟩ := Option.isSome_iff_exists.mp h.top
  obtain ⟨r, hr⟩ := State.topJava?_eq_some.mp hg0
  have hs₂ : s₂ = ((({ U with heap := s₂.heap, slotsUsed := s₂.slotsUsed } : State).setVm s₂.vm).setTop g').pushFrame (.throwing v) := by
    have hr' : (({ U with heap := s₂.heap, slotsUsed := s₂.slotsUsed } : State).setVm s₂.vm).frames = .java g₀ :: r := hr
    refine e3.trans ?_
    rw [hend', State.calling_eq h.top, State.setFrames_setFrames, State.pushFrame, State.frames_setTop _ hr', State.setTop_of_frames _ hr', State.setFrames_setFrames, hr]
    rfl
  have hsame : U.sameButNew ({ U with heap := s₂.heap, slotsUsed := s₂.slotsUsed } : State) L mc ms := by
    refine ⟨?_, q2, q3, q4, q5, q6⟩
    obtain ⟨t, ht, -⟩ := State.frames_cons hr
    show ({ U with heap := s₂.heap, slotsUsed := s₂.slotsUsed } : State) = { U.setFrames U.frames with heap := s₂.heap, slotsUsed := s₂.slotsUsed }
    rw [State.setFrames_self ht]
  refine ⟨v, U.calling g' mk (Value.ref b :: As).toArray, s₂, ({ U with heap := s₂.heap, slotsUsed := s₂.slotsUsed } : State).setVm s₂.vm, L, by rw [← hT, ← hU]; rfl,
    ⟨X₁.admits, X₁.cas, X₁.clock, X₁.frames, X₁.room, X₁.hears, X₁.method, X₁.code, (X₁.here.setHeapUsed s₂.heap s₂.slotsUsed).setVm hW'.alike, X₁.tail, State.WarmedH.trans X₁.warmed hW', X₁.limits, X₁.bytes, X₁.same.trans (hsame.setVm s.vm)⟩,
    hL, rfl, rfl, hqc, fun tg htg => hstep₁ tg fun acts => ?_⟩
  rw [doInvoke_state]
  refine hsteps'.trans ?_
  rw [hs₂]
  exact htg
/-- the search in a table: an entry that covers the pc and names a class, resolved now or before: it takes the exception if the object's class can be assigned to it -/
theorem jt_go {Q : Handler → Pre} {E : CtlPost} {d : Bool} {acts : List Action} {u : State} {f : JFrame} {a : Addr} {x : ExceptionTableEntry} {t : List ExceptionTableEntry} {k : ClassId} {cell : Cell} {vm' : Vm} (hx : covers x f.pc = true) (h0 : x.catchType ≠ 0)
    (hg : (Jvm.resolveClass f.method.cls x.catchType).Gives e.toSetting u.vm (.ok k) vm') (hsz : vm'.classes.size ≤ u.vm.classes.size) (hcell : u.heap[a]? = some cell) (hobj : ∀ k, cell.vm ≠ .statics k)
    (hk : ∃ k, vm'.classes[cell.cls]? = some k) (hc : ∃ z, vm'.classes[k]? = some z) :
    wp (findHandler.go f a (x :: t)) Q E e d acts u ↔ if vm'.assignable cell.cls k = true then Q (.found x.handlerPc) d acts (u.setVm vm') else wp (findHandler.go f a t) Q E e d acts (u.setVm vm') := by
  simp only [covers] at hx
  obtain ⟨ha, ht⟩ := hg.op (op := VmOp.resolveClass f.method.cls x.catchType) rfl
  cases hfit : vm'.assignable cell.cls k <;>
    simp [findHandler.go, hx, h0, ha, ht, hsz, hcell, hobj, hk, hc, hfit, VmOp.dirties, VmOp.acts]
/-- what the search gives, and the tables behind it -/
def jt_F (e : Env) (u : State) (f : JFrame) (a : Addr) (pc : Nat) (vm' : Vm) : Prop := ∀ (Q : Handler → Pre) (E : CtlPost) (d : Bool) (acts : List Action), wp (findHandler f a) Q E e d acts u ↔ Q (.found pc) d acts (u.setVm vm')
theorem jt_step {u : State} {a : Addr} {f : JFrame} {r : List Frame} {pc : Nat} {vm' : Vm} (hf : jt_F e u f a pc vm') :
    (stepThrowing e u a (.java f :: r)).Is ((u.setVm vm').setFrames (.java { f with pc := pc, stack := [.ref a] } :: r)) [] := by
  simp only [stepThrowing, searchFrame, vmDo]
  generalize hr : Sem.go _ e false [] u = res
  obtain ⟨as, rfl, ha⟩ := Sem.eq_ok_of hr (a := Handler.found pc) (s' := u.setVm vm') (acts' := []) (by simp [hf _ _ _ _])
  exact ⟨rfl, ha⟩
/-- into a handler of the method's own -/
theorem jt_caught {tb : Tables} {u target : State} {g : JFrame} {a : Addr} {pc : Nat} {vm' : Vm} (h : At u g.method c below) (hf : jt_F e ((u.setTop g).pushFrame (.throwing a)) g a pc vm')
    (hrest : Steps tb e below ((u.setVm vm').setTop { g with pc := pc, stack := [.ref a] }) target) :
    Steps tb e below ((u.setTop g).pushFrame (.throwing a)) target := by
  obtain ⟨hgo, hw⟩ := h.throwing a
  refine Steps.head hgo hw ?_
  rw [stepThread_throwing (frames_entered h.top _), (jt_step (u := (u.setTop g).pushFrame (.throwing a)) hf).1]
  obtain ⟨g₀, hg⟩ := Option.isSome_iff_exists.mp h.top
  obtain ⟨r, hr⟩ := State.topJava?_eq_some.mp hg
  have hr' : (u.setVm vm').frames = .java g₀ :: r := hr
  rw [State.setTop_of_frames _ hr'] at hrest
  have e1 : (((u.setTop g).pushFrame (.throwing a)).setVm vm').setFrames (.java { g with pc := pc, stack := [.ref a] } :: u.frames.tail) = (u.setVm vm').setFrames (.java { g with pc := pc, stack := [.ref a] } :: r) := by
    rw [State.pushFrame, State.setTop_of_frames _ hr, hr]
    show ((((u.setFrames _).setFrames _).setVm vm').setFrames _) = _
    rw [State.setFrames_setFrames]
    show (((u.setFrames _).setFrames _).setVm vm') = _
    rw [State.setFrames_setFrames]
    rfl
  rw [e1]
  exact hrest
end JTH
end
section
/-! NAMES, by program (wip/whole/gen/gen_names.py): classes with their fields, methods with their code, words of the tables by their places, rows that decode an instruction -/
def jR_A : String := "CashMachine$Account"
def jF_A : u_T := fun k => match k with
  | 0 => ("CashMachine$Account", "opened", "Z", false)
  | 1 => ("CashMachine$Account", "pin", "I", false)
  | 2 => ("CashMachine$Account", "openedWith", "I", false)
  | 3 => ("CashMachine$Account", "balance", "I", false)
  | 4 => ("CashMachine$Account", "triesLeft", "I", false)
  | _ => ("CashMachine$Account", "blocked", "Z", false)
def jq_A : Nat → FieldType := fun k => match k with
  | 0 => .boolean
  | 1 => .int
  | 2 => .int
  | 3 => .int
  | 4 => .int
  | _ => .boolean
theorem jn_A : ∀ a, a < 6 → ∀ b, b < 6 → a ≠ b → (jF_A a).2.1 ≠ (jF_A b).2.1 := by decide +kernel
theorem jk_A : ∀ k, k < 6 → parseFieldDescriptor (jF_A k).2.2.1 = some (jq_A k) := by decide +kernel
def jR_K : String := "CashMachine$Cassette"
def jF_K : u_T := fun k => match k with
  | 0 => ("CashMachine$Cassette", "value", "I", false)
  | _ => ("CashMachine$Cassette", "notes", "I", false)
def jq_K : Nat → FieldType := fun k => match k with
  | 0 => .int
  | _ => .int
theorem jn_K : ∀ a, a < 2 → ∀ b, b < 2 → a ≠ b → (jF_K a).2.1 ≠ (jF_K b).2.1 := by decide +kernel
theorem jk_K : ∀ k, k < 2 → parseFieldDescriptor (jF_K k).2.2.1 = some (jq_K k) := by decide +kernel
def jR_E : String := "CashMachine$Entry"
def jF_E : u_T := fun k => match k with
  | 0 => ("CashMachine$Entry", "trace", "I", true)
  | 1 => ("CashMachine$Entry", "account", "I", false)
  | 2 => ("CashMachine$Entry", "amount", "I", false)
  | 3 => ("CashMachine$Entry", "state", "I", false)
  | _ => ("CashMachine$Entry", "presented", "I", false)
def jq_E : Nat → FieldType := fun k => match k with
  | 0 => .int
  | 1 => .int
  | 2 => .int
  | 3 => .int
  | _ => .int
theorem jn_E : ∀ a, a < 5 → ∀ b, b < 5 → a ≠ b → (jF_E a).2.1 ≠ (jF_E b).2.1 := by decide +kernel
theorem jk_E : ∀ k, k < 5 → parseFieldDescriptor (jF_E k).2.2.1 = some (jq_E k) := by decide +kernel
def jR_H : String := "CashMachine$Host"
def jF_H : u_T := fun k => match k with
  | 0 => ("CashMachine$Host", "accounts", "[LCashMachine$Account;", true)
  | 1 => ("CashMachine$Host", "answers", "[I", true)
  | 2 => ("CashMachine$Host", "accountOfTrace", "[I", true)
  | _ => ("CashMachine$Host", "reversed", "[Z", true)
def jq_H : Nat → FieldType := fun k => match k with
  | 0 => .array (.object "CashMachine$Account")
  | 1 => .array .int
  | 2 => .array .int
  | _ => .array .boolean
theorem jn_H : ∀ a, a < 4 → ∀ b, b < 4 → a ≠ b → (jF_H a).2.1 ≠ (jF_H b).2.1 := by decide +kernel
theorem jk_H : ∀ k, k < 4 → parseFieldDescriptor (jF_H k).2.2.1 = some (jq_H k) := by decide +kernel
def jR_N : String := "CashMachine$Line"
def jF_N : u_T := fun k => match k with
  | 0 => ("CashMachine$Line", "fates", "[I", true)
  | _ => ("CashMachine$Line", "size", "I", false)
def jq_N : Nat → FieldType := fun k => match k with
  | 0 => .array .int
  | _ => .int
theorem jn_N : ∀ a, a < 2 → ∀ b, b < 2 → a ≠ b → (jF_N a).2.1 ≠ (jF_N b).2.1 := by decide +kernel
theorem jk_N : ∀ k, k < 2 → parseFieldDescriptor (jF_N k).2.2.1 = some (jq_N k) := by decide +kernel
def jR_D : String := "CashMachine$Dispenser"
def jF_D : u_T := fun k => match k with
  | 0 => ("CashMachine$Dispenser", "cassettes", "[LCashMachine$Cassette;", true)
  | 1 => ("CashMachine$Dispenser", "mix", "LCashMachine$Mix;", true)
  | 2 => ("CashMachine$Dispenser", "jam", "I", false)
  | 3 => ("CashMachine$Dispenser", "presentedInAll", "I", false)
  | 4 => ("CashMachine$Dispenser", "lastTrace", "I", false)
  | _ => ("CashMachine$Dispenser", "lastPresented", "I", false)
def jq_D : Nat → FieldType := fun k => match k with
  | 0 => .array (.object "CashMachine$Cassette")
  | 1 => .object "CashMachine$Mix"
  | 2 => .int
  | 3 => .int
  | 4 => .int
  | _ => .int
theorem jn_D : ∀ a, a < 6 → ∀ b, b < 6 → a ≠ b → (jF_D a).2.1 ≠ (jF_D b).2.1 := by decide +kernel
theorem jk_D : ∀ k, k < 6 → parseFieldDescriptor (jF_D k).2.2.1 = some (jq_D k) := by decide +kernel
def jR_J : String := "CashMachine$Journal"
def jF_J : u_T := fun k => match k with
  | 0 => ("CashMachine$Journal", "entries", "[LCashMachine$Entry;", true)
  | _ => ("CashMachine$Journal", "size", "I", false)
def jq_J : Nat → FieldType := fun k => match k with
  | 0 => .array (.object "CashMachine$Entry")
  | _ => .int
theorem jn_J : ∀ a, a < 2 → ∀ b, b < 2 → a ≠ b → (jF_J a).2.1 ≠ (jF_J b).2.1 := by decide +kernel
theorem jk_J : ∀ k, k < 2 → parseFieldDescriptor (jF_J k).2.2.1 = some (jq_J k) := by decide +kernel
def jR_R : String := "CashMachine$Reversals"
def jF_R : u_T := fun k => match k with
  | 0 => ("CashMachine$Reversals", "traces", "[I", true)
  | 1 => ("CashMachine$Reversals", "amounts", "[I", true)
  | _ => ("CashMachine$Reversals", "size", "I", false)
def jq_R : Nat → FieldType := fun k => match k with
  | 0 => .array .int
  | 1 => .array .int
  | _ => .int
theorem jn_R : ∀ a, a < 3 → ∀ b, b < 3 → a ≠ b → (jF_R a).2.1 ≠ (jF_R b).2.1 := by decide +kernel
theorem jk_R : ∀ k, k < 3 → parseFieldDescriptor (jF_R k).2.2.1 = some (jq_R k) := by decide +kernel
def jR_X : String := "CashMachine$Mix"
def jF_X : u_T := fun k => match k with
  | 0 => ("CashMachine$Mix", "taken", "[I", true)
  | _ => ("CashMachine$Mix", "rankOfLastTwo", "[I", true)
def jq_X : Nat → FieldType := fun k => match k with
  | 0 => .array .int
  | _ => .array .int
theorem jn_X : ∀ a, a < 2 → ∀ b, b < 2 → a ≠ b → (jF_X a).2.1 ≠ (jF_X b).2.1 := by decide +kernel
theorem jk_X : ∀ k, k < 2 → parseFieldDescriptor (jF_X k).2.2.1 = some (jq_X k) := by decide +kernel
def jR_C : String := "CashMachine"
def jF_C : u_T := fun k => match k with
  | 0 => ("CashMachine", "host", "LCashMachine$Host;", true)
  | 1 => ("CashMachine", "line", "LCashMachine$Line;", true)
  | 2 => ("CashMachine", "dispenser", "LCashMachine$Dispenser;", true)
  | 3 => ("CashMachine", "journal", "LCashMachine$Journal;", true)
  | 4 => ("CashMachine", "pending", "LCashMachine$Reversals;", true)
  | 5 => ("CashMachine", "on", "Z", false)
  | 6 => ("CashMachine", "session", "I", false)
  | 7 => ("CashMachine", "verified", "Z", false)
  | _ => ("CashMachine", "failurePlace", "I", false)
def jq_C : Nat → FieldType := fun k => match k with
  | 0 => .object "CashMachine$Host"
  | 1 => .object "CashMachine$Line"
  | 2 => .object "CashMachine$Dispenser"
  | 3 => .object "CashMachine$Journal"
  | 4 => .object "CashMachine$Reversals"
  | 5 => .boolean
  | 6 => .int
  | 7 => .boolean
  | _ => .int
theorem jn_C : ∀ a, a < 9 → ∀ b, b < 9 → a ≠ b → (jF_C a).2.1 ≠ (jF_C b).2.1 := by decide +kernel
theorem jk_C : ∀ k, k < 9 → parseFieldDescriptor (jF_C k).2.2.1 = some (jq_C k) := by decide +kernel
def jR_M : String := "CashMachineModel"
def jF_M : u_T := fun k => match k with
  | 0 => ("CashMachineModel", "thrown", "I", false)
  | 1 => ("CashMachineModel", "opened", "[Z", true)
  | 2 => ("CashMachineModel", "pins", "[I", true)
  | 3 => ("CashMachineModel", "first", "[I", true)
  | 4 => ("CashMachineModel", "balances", "[I", true)
  | 5 => ("CashMachineModel", "tries", "[I", true)
  | 6 => ("CashMachineModel", "blocked", "[Z", true)
  | 7 => ("CashMachineModel", "values", "[I", true)
  | 8 => ("CashMachineModel", "counts", "[I", true)
  | 9 => ("CashMachineModel", "best", "[I", true)
  | 10 => ("CashMachineModel", "down", "Z", false)
  | 11 => ("CashMachineModel", "session", "I", false)
  | 12 => ("CashMachineModel", "verified", "Z", false)
  | 13 => ("CashMachineModel", "state", "[I", true)
  | 14 => ("CashMachineModel", "account", "[I", true)
  | 15 => ("CashMachineModel", "amount", "[I", true)
  | 16 => ("CashMachineModel", "presented", "[I", true)
  | 17 => ("CashMachineModel", "known", "[I", true)
  | 18 => ("CashMachineModel", "reversed", "[Z", true)
  | 19 => ("CashMachineModel", "traces", "I", false)
  | 20 => ("CashMachineModel", "pendingTrace", "[I", true)
  | 21 => ("CashMachineModel", "pendingAmount", "[I", true)
  | 22 => ("CashMachineModel", "pending", "I", false)
  | 23 => ("CashMachineModel", "fates", "[I", true)
  | 24 => ("CashMachineModel", "coming", "I", false)
  | 25 => ("CashMachineModel", "jam", "I", false)
  | 26 => ("CashMachineModel", "power", "I", false)
  | 27 => ("CashMachineModel", "paidTrace", "I", false)
  | 28 => ("CashMachineModel", "paidValue", "I", false)
  | _ => ("CashMachineModel", "paidAll", "I", false)
def jq_M : Nat → FieldType := fun k => match k with
  | 0 => .int
  | 1 => .array .boolean
  | 2 => .array .int
  | 3 => .array .int
  | 4 => .array .int
  | 5 => .array .int
  | 6 => .array .boolean
  | 7 => .array .int
  | 8 => .array .int
  | 9 => .array .int
  | 10 => .boolean
  | 11 => .int
  | 12 => .boolean
  | 13 => .array .int
  | 14 => .array .int
  | 15 => .array .int
  | 16 => .array .int
  | 17 => .array .int
  | 18 => .array .boolean
  | 19 => .int
  | 20 => .array .int
  | 21 => .array .int
  | 22 => .int
  | 23 => .array .int
  | 24 => .int
  | 25 => .int
  | 26 => .int
  | 27 => .int
  | 28 => .int
  | _ => .int
theorem jn_M : ∀ a, a < 30 → ∀ b, b < 30 → a ≠ b → (jF_M a).2.1 ≠ (jF_M b).2.1 := by decide +kernel
theorem jk_M : ∀ k, k < 30 → parseFieldDescriptor (jF_M k).2.2.1 = some (jq_M k) := by decide +kernel
abbrev jb_cl : List vw_C := [(jR_A, jF_A, 6), (jR_K, jF_K, 2), (jR_E, jF_E, 5), (jR_H, jF_H, 4), (jR_N, jF_N, 2), (jR_D, jF_D, 6), (jR_J, jF_J, 2), (jR_R, jF_R, 3), (jR_X, jF_X, 2), (jR_C, jF_C, 9), (jR_M, jF_M, 30)]
abbrev jc_C_init : ByteArray := prog_1_method_1_code
def jy_C_init : MethodName := ⟨"CashMachine", "<init>", "()V"⟩
abbrev jc_H_init : ByteArray := prog_6_method_1_code
def jy_H_init : MethodName := ⟨"CashMachine$Host", "<init>", "()V"⟩
abbrev jc_A_init : ByteArray := prog_2_method_1_code
def jy_A_init : MethodName := ⟨"CashMachine$Account", "<init>", "()V"⟩
abbrev jc_N_init : ByteArray := prog_8_method_1_code
def jy_N_init : MethodName := ⟨"CashMachine$Line", "<init>", "()V"⟩
abbrev jc_D_init : ByteArray := prog_4_method_1_code
def jy_D_init : MethodName := ⟨"CashMachine$Dispenser", "<init>", "()V"⟩
abbrev jc_X_init : ByteArray := prog_9_method_1_code
def jy_X_init : MethodName := ⟨"CashMachine$Mix", "<init>", "()V"⟩
abbrev jc_K_init : ByteArray := prog_3_method_1_code
def jy_K_init : MethodName := ⟨"CashMachine$Cassette", "<init>", "()V"⟩
abbrev jc_J_init : ByteArray := prog_7_method_1_code
def jy_J_init : MethodName := ⟨"CashMachine$Journal", "<init>", "()V"⟩
abbrev jc_E_init : ByteArray := prog_5_method_1_code
def jy_E_init : MethodName := ⟨"CashMachine$Entry", "<init>", "(I)V"⟩
abbrev jc_R_init : ByteArray := prog_10_method_1_code
def jy_R_init : MethodName := ⟨"CashMachine$Reversals", "<init>", "()V"⟩
abbrev jc_C_difference : ByteArray := prog_1_method_18_code
def jy_C_difference : MethodName := ⟨"CashMachine", "difference", "()I"⟩
abbrev jc_H_takenFromBalances : ByteArray := prog_6_method_9_code
def jy_H_takenFromBalances : MethodName := ⟨"CashMachine$Host", "takenFromBalances", "()I"⟩
abbrev jc_L_open : ByteArray := method_3_code
def jy_L_open : MethodName := ⟨"CashMachineLaw", "open", "(LCashMachine;III[J)I"⟩
abbrev jc_C_open : ByteArray := prog_1_method_2_code
def jy_C_open : MethodName := ⟨"CashMachine", "open", "(III)I"⟩
abbrev jc_C_isWithin : ByteArray := prog_1_method_20_code
def jy_C_isWithin : MethodName := ⟨"CashMachine", "isWithin", "(III)Z"⟩
abbrev jc_H_isOpen : ByteArray := prog_6_method_2_code
def jy_H_isOpen : MethodName := ⟨"CashMachine$Host", "isOpen", "(I)Z"⟩
abbrev jc_H_openAccount : ByteArray := prog_6_method_3_code
def jy_H_openAccount : MethodName := ⟨"CashMachine$Host", "openAccount", "(III)V"⟩
abbrev jc_H_openAccounts : ByteArray := prog_6_method_7_code
def jy_H_openAccounts : MethodName := ⟨"CashMachine$Host", "openAccounts", "()I"⟩
abbrev jc_L_load : ByteArray := method_4_code
def jy_L_load : MethodName := ⟨"CashMachineLaw", "load", "(LCashMachine;III[J)I"⟩
abbrev jc_C_load : ByteArray := prog_1_method_3_code
def jy_C_load : MethodName := ⟨"CashMachine", "load", "(III)I"⟩
abbrev jc_D_exchangeNotes : ByteArray := prog_4_method_2_code
def jy_D_exchangeNotes : MethodName := ⟨"CashMachine$Dispenser", "exchangeNotes", "(III)I"⟩
abbrev jc_L_insert : ByteArray := method_5_code
def jy_L_insert : MethodName := ⟨"CashMachineLaw", "insert", "(LCashMachine;I[J)I"⟩
abbrev jc_C_insert : ByteArray := prog_1_method_4_code
def jy_C_insert : MethodName := ⟨"CashMachine", "insert", "(I)I"⟩
abbrev jc_L_pin : ByteArray := method_6_code
def jy_L_pin : MethodName := ⟨"CashMachineLaw", "pin", "(LCashMachine;I[J)I"⟩
abbrev jc_C_pin : ByteArray := prog_1_method_5_code
def jy_C_pin : MethodName := ⟨"CashMachine", "pin", "(I)I"⟩
abbrev jc_A_tryPin : ByteArray := prog_2_method_2_code
def jy_A_tryPin : MethodName := ⟨"CashMachine$Account", "tryPin", "(I)Z"⟩
abbrev jc_C_endSession : ByteArray := prog_1_method_21_code
def jy_C_endSession : MethodName := ⟨"CashMachine", "endSession", "()V"⟩
abbrev jc_L_eject : ByteArray := method_7_code
def jy_L_eject : MethodName := ⟨"CashMachineLaw", "eject", "(LCashMachine;[J)I"⟩
abbrev jc_C_eject : ByteArray := prog_1_method_6_code
def jy_C_eject : MethodName := ⟨"CashMachine", "eject", "()I"⟩
abbrev jc_L_withdraw : ByteArray := method_8_code
def jy_L_withdraw : MethodName := ⟨"CashMachineLaw", "withdraw", "(LCashMachine;I[J)I"⟩
abbrev jc_C_withdraw : ByteArray := prog_1_method_7_code
def jy_C_withdraw : MethodName := ⟨"CashMachine", "withdraw", "(I)I"⟩
abbrev jc_D_findMix : ByteArray := prog_4_method_3_code
def jy_D_findMix : MethodName := ⟨"CashMachine$Dispenser", "findMix", "(I)Z"⟩
abbrev jc_X_find : ByteArray := prog_9_method_2_code
def jy_X_find : MethodName := ⟨"CashMachine$Mix", "find", "([LCashMachine$Cassette;I)Z"⟩
abbrev jc_X_rankLastTwo : ByteArray := prog_9_method_3_code
def jy_X_rankLastTwo : MethodName := ⟨"CashMachine$Mix", "rankLastTwo", "(LCashMachine$Cassette;LCashMachine$Cassette;I)V"⟩
abbrev jc_F_fill : ByteArray := prog_22_method_103_code
def jy_F_fill : MethodName := ⟨"java/util/Arrays", "fill", "([II)V"⟩
abbrev jc_X_keep : ByteArray := prog_9_method_4_code
def jy_X_keep : MethodName := ⟨"CashMachine$Mix", "keep", "(III)V"⟩
abbrev jc_J_begin : ByteArray := prog_7_method_2_code
def jy_J_begin : MethodName := ⟨"CashMachine$Journal", "begin", "(II)LCashMachine$Entry;"⟩
abbrev jc_C_request : ByteArray := prog_1_method_22_code
def jy_C_request : MethodName := ⟨"CashMachine", "request", "(LCashMachine$Entry;)I"⟩
abbrev jc_C_failsAt : ByteArray := prog_1_method_24_code
def jy_C_failsAt : MethodName := ⟨"CashMachine", "failsAt", "(I)Z"⟩
abbrev jc_C_exchangeRequest : ByteArray := prog_1_method_28_code
def jy_C_exchangeRequest : MethodName := ⟨"CashMachine", "exchangeRequest", "(LCashMachine$Entry;)I"⟩
abbrev jc_N_takeFirst : ByteArray := prog_8_method_3_code
def jy_N_takeFirst : MethodName := ⟨"CashMachine$Line", "takeFirst", "()I"⟩
abbrev jc_H_receiveRequest : ByteArray := prog_6_method_4_code
def jy_H_receiveRequest : MethodName := ⟨"CashMachine$Host", "receiveRequest", "(III)Z"⟩
abbrev jc_H_decide : ByteArray := prog_6_method_5_code
def jy_H_decide : MethodName := ⟨"CashMachine$Host", "decide", "(ILCashMachine$Account;I)I"⟩
abbrev jc_C_giveUp : ByteArray := prog_1_method_25_code
def jy_C_giveUp : MethodName := ⟨"CashMachine", "giveUp", "(LCashMachine$Entry;)V"⟩
abbrev jc_R_add : ByteArray := prog_10_method_2_code
def jy_R_add : MethodName := ⟨"CashMachine$Reversals", "add", "(II)V"⟩
abbrev jc_C_present : ByteArray := prog_1_method_23_code
def jy_C_present : MethodName := ⟨"CashMachine", "present", "(LCashMachine$Entry;)I"⟩
abbrev jc_D_payMix : ByteArray := prog_4_method_4_code
def jy_D_payMix : MethodName := ⟨"CashMachine$Dispenser", "payMix", "(I)I"⟩
abbrev jc_D_nextCassette : ByteArray := prog_4_method_5_code
def jy_D_nextCassette : MethodName := ⟨"CashMachine$Dispenser", "nextCassette", "()I"⟩
abbrev jc_C_finish : ByteArray := prog_1_method_26_code
def jy_C_finish : MethodName := ⟨"CashMachine", "finish", "(LCashMachine$Entry;I)V"⟩
abbrev jc_L_mix : ByteArray := method_9_code
def jy_L_mix : MethodName := ⟨"CashMachineLaw", "mix", "(LCashMachine;II[J)I"⟩
abbrev jc_C_mix : ByteArray := prog_1_method_8_code
def jy_C_mix : MethodName := ⟨"CashMachine", "mix", "(II)I"⟩
abbrev jc_L_line : ByteArray := method_10_code
def jy_L_line : MethodName := ⟨"CashMachineLaw", "line", "(LCashMachine;I[J)I"⟩
abbrev jc_C_line : ByteArray := prog_1_method_9_code
def jy_C_line : MethodName := ⟨"CashMachine", "line", "(I)I"⟩
abbrev jc_N_add : ByteArray := prog_8_method_2_code
def jy_N_add : MethodName := ⟨"CashMachine$Line", "add", "(I)V"⟩
abbrev jc_L_jam : ByteArray := method_11_code
def jy_L_jam : MethodName := ⟨"CashMachineLaw", "jam", "(LCashMachine;I[J)I"⟩
abbrev jc_C_jam : ByteArray := prog_1_method_10_code
def jy_C_jam : MethodName := ⟨"CashMachine", "jam", "(I)I"⟩
abbrev jc_L_power : ByteArray := method_12_code
def jy_L_power : MethodName := ⟨"CashMachineLaw", "power", "(LCashMachine;I[J)I"⟩
abbrev jc_C_power : ByteArray := prog_1_method_11_code
def jy_C_power : MethodName := ⟨"CashMachine", "power", "(I)I"⟩
abbrev jc_L_boot : ByteArray := method_13_code
def jy_L_boot : MethodName := ⟨"CashMachineLaw", "boot", "(LCashMachine;[J)I"⟩
abbrev jc_C_boot : ByteArray := prog_1_method_12_code
def jy_C_boot : MethodName := ⟨"CashMachine", "boot", "()I"⟩
abbrev jc_J_last : ByteArray := prog_7_method_3_code
def jy_J_last : MethodName := ⟨"CashMachine$Journal", "last", "()LCashMachine$Entry;"⟩
abbrev jc_C_recover : ByteArray := prog_1_method_27_code
def jy_C_recover : MethodName := ⟨"CashMachine", "recover", "(LCashMachine$Entry;)V"⟩
abbrev jc_D_presentedFor : ByteArray := prog_4_method_6_code
def jy_D_presentedFor : MethodName := ⟨"CashMachine$Dispenser", "presentedFor", "(I)I"⟩
abbrev jc_L_settle : ByteArray := method_14_code
def jy_L_settle : MethodName := ⟨"CashMachineLaw", "settle", "(LCashMachine;[J)I"⟩
abbrev jc_C_settle : ByteArray := prog_1_method_13_code
def jy_C_settle : MethodName := ⟨"CashMachine", "settle", "()I"⟩
abbrev jc_C_exchangeReversal : ByteArray := prog_1_method_29_code
def jy_C_exchangeReversal : MethodName := ⟨"CashMachine", "exchangeReversal", "(I)Z"⟩
abbrev jc_H_receiveReversal : ByteArray := prog_6_method_6_code
def jy_H_receiveReversal : MethodName := ⟨"CashMachine$Host", "receiveReversal", "(II)V"⟩
abbrev jc_R_dropFirst : ByteArray := prog_10_method_3_code
def jy_R_dropFirst : MethodName := ⟨"CashMachine$Reversals", "dropFirst", "(I)V"⟩
abbrev jc_L_balance : ByteArray := method_15_code
def jy_L_balance : MethodName := ⟨"CashMachineLaw", "balance", "(LCashMachine;I[J)I"⟩
abbrev jc_C_balance : ByteArray := prog_1_method_14_code
def jy_C_balance : MethodName := ⟨"CashMachine", "balance", "(I)I"⟩
abbrev jc_L_trace : ByteArray := method_16_code
def jy_L_trace : MethodName := ⟨"CashMachineLaw", "trace", "(LCashMachine;II[J)I"⟩
abbrev jc_C_trace : ByteArray := prog_1_method_15_code
def jy_C_trace : MethodName := ⟨"CashMachine", "trace", "(II)I"⟩
abbrev jc_L_reversal : ByteArray := method_17_code
def jy_L_reversal : MethodName := ⟨"CashMachineLaw", "reversal", "(LCashMachine;I[J)I"⟩
abbrev jc_C_reversal : ByteArray := prog_1_method_16_code
def jy_C_reversal : MethodName := ⟨"CashMachine", "reversal", "(I)I"⟩
abbrev jc_L_notes : ByteArray := method_18_code
def jy_L_notes : MethodName := ⟨"CashMachineLaw", "notes", "(LCashMachine;I[J)I"⟩
abbrev jc_C_notes : ByteArray := prog_1_method_17_code
def jy_C_notes : MethodName := ⟨"CashMachine", "notes", "(I)I"⟩
abbrev jc_L_count : ByteArray := method_19_code
def jy_L_count : MethodName := ⟨"CashMachineLaw", "count", "(LCashMachine;I[J)I"⟩
abbrev jc_C_count : ByteArray := prog_1_method_19_code
def jy_C_count : MethodName := ⟨"CashMachine", "count", "(I)I"⟩
abbrev jc_H_blockedAccounts : ByteArray := prog_6_method_8_code
def jy_H_blockedAccounts : MethodName := ⟨"CashMachine$Host", "blockedAccounts", "()I"⟩
abbrev jc_M_init : ByteArray := prog_12_method_1_code
def jy_M_init : MethodName := ⟨"CashMachineModel", "<init>", "()V"⟩
abbrev jc_M_thrown : ByteArray := prog_12_method_2_code
def jy_M_thrown : MethodName := ⟨"CashMachineModel", "thrown", "()I"⟩
abbrev jc_M_open : ByteArray := prog_12_method_5_code
def jy_M_open : MethodName := ⟨"CashMachineModel", "open", "(III)I"⟩
abbrev jc_M_in : ByteArray := prog_12_method_3_code
def jy_M_in : MethodName := ⟨"CashMachineModel", "in", "(III)Z"⟩
abbrev jc_M_fail : ByteArray := prog_12_method_4_code
def jy_M_fail : MethodName := ⟨"CashMachineModel", "fail", "(I)I"⟩
abbrev jc_M_load : ByteArray := prog_12_method_6_code
def jy_M_load : MethodName := ⟨"CashMachineModel", "load", "(III)I"⟩
abbrev jc_M_insert : ByteArray := prog_12_method_7_code
def jy_M_insert : MethodName := ⟨"CashMachineModel", "insert", "(I)I"⟩
abbrev jc_M_pin : ByteArray := prog_12_method_8_code
def jy_M_pin : MethodName := ⟨"CashMachineModel", "pin", "(I)I"⟩
abbrev jc_M_eject : ByteArray := prog_12_method_9_code
def jy_M_eject : MethodName := ⟨"CashMachineModel", "eject", "()I"⟩
abbrev jc_M_withdraw : ByteArray := prog_12_method_23_code
def jy_M_withdraw : MethodName := ⟨"CashMachineModel", "withdraw", "(I)I"⟩
abbrev jc_M_mixed : ByteArray := prog_12_method_13_code
def jy_M_mixed : MethodName := ⟨"CashMachineModel", "mixed", "(I)Z"⟩
abbrev jc_M_thirds : ByteArray := prog_12_method_12_code
def jy_M_thirds : MethodName := ⟨"CashMachineModel", "thirds", "(IIIZ)Z"⟩
abbrev jc_M_better : ByteArray := prog_12_method_11_code
def jy_M_better : MethodName := ⟨"CashMachineModel", "better", "(IIIIZ)Z"⟩
abbrev jc_M_notesOf : ByteArray := prog_12_method_10_code
def jy_M_notesOf : MethodName := ⟨"CashMachineModel", "notesOf", "(IIII)I"⟩
abbrev jc_M_give : ByteArray := prog_12_method_22_code
def jy_M_give : MethodName := ⟨"CashMachineModel", "give", "(I)I"⟩
abbrev jc_M_cut : ByteArray := prog_12_method_18_code
def jy_M_cut : MethodName := ⟨"CashMachineModel", "cut", "(I)Z"⟩
abbrev jc_M_fate : ByteArray := prog_12_method_16_code
def jy_M_fate : MethodName := ⟨"CashMachineModel", "fate", "()I"⟩
abbrev jc_M_request : ByteArray := prog_12_method_14_code
def jy_M_request : MethodName := ⟨"CashMachineModel", "request", "(I)V"⟩
abbrev jc_M_owe : ByteArray := prog_12_method_17_code
def jy_M_owe : MethodName := ⟨"CashMachineModel", "owe", "(II)V"⟩
abbrev jc_M_pay : ByteArray := prog_12_method_20_code
def jy_M_pay : MethodName := ⟨"CashMachineModel", "pay", "(I)V"⟩
abbrev jc_M_greatest : ByteArray := prog_12_method_19_code
def jy_M_greatest : MethodName := ⟨"CashMachineModel", "greatest", "(I)I"⟩
abbrev jc_M_finish : ByteArray := prog_12_method_21_code
def jy_M_finish : MethodName := ⟨"CashMachineModel", "finish", "(II)V"⟩
abbrev jc_M_mix : ByteArray := prog_12_method_24_code
def jy_M_mix : MethodName := ⟨"CashMachineModel", "mix", "(II)I"⟩
abbrev jc_M_line : ByteArray := prog_12_method_25_code
def jy_M_line : MethodName := ⟨"CashMachineModel", "line", "(I)I"⟩
abbrev jc_M_jam : ByteArray := prog_12_method_26_code
def jy_M_jam : MethodName := ⟨"CashMachineModel", "jam", "(I)I"⟩
abbrev jc_M_power : ByteArray := prog_12_method_27_code
def jy_M_power : MethodName := ⟨"CashMachineModel", "power", "(I)I"⟩
abbrev jc_M_boot : ByteArray := prog_12_method_28_code
def jy_M_boot : MethodName := ⟨"CashMachineModel", "boot", "()I"⟩
abbrev jc_M_settle : ByteArray := prog_12_method_29_code
def jy_M_settle : MethodName := ⟨"CashMachineModel", "settle", "()I"⟩
abbrev jc_M_reversalCame : ByteArray := prog_12_method_15_code
def jy_M_reversalCame : MethodName := ⟨"CashMachineModel", "reversalCame", "(II)V"⟩
abbrev jc_M_balance : ByteArray := prog_12_method_30_code
def jy_M_balance : MethodName := ⟨"CashMachineModel", "balance", "(I)I"⟩
abbrev jc_M_trace : ByteArray := prog_12_method_31_code
def jy_M_trace : MethodName := ⟨"CashMachineModel", "trace", "(II)I"⟩
abbrev jc_M_reversal : ByteArray := prog_12_method_32_code
def jy_M_reversal : MethodName := ⟨"CashMachineModel", "reversal", "(I)I"⟩
abbrev jc_M_notes : ByteArray := prog_12_method_33_code
def jy_M_notes : MethodName := ⟨"CashMachineModel", "notes", "(I)I"⟩
abbrev jc_M_difference : ByteArray := prog_12_method_34_code
def jy_M_difference : MethodName := ⟨"CashMachineModel", "difference", "()I"⟩
abbrev jc_M_count : ByteArray := prog_12_method_35_code
def jy_M_count : MethodName := ⟨"CashMachineModel", "count", "(I)I"⟩
abbrev jc_L_law : ByteArray := code
def jy_L_law : MethodName := ⟨"CashMachineLaw", "law", "([I)Z"⟩
theorem ja_g {w : Cond} (h : w ∈ lw_tbl) (g : goodWord w = true) : w ∈ ja_T := List.mem_filter.mpr ⟨h, g⟩
theorem ja_i1 {w : Cond} (h : w ∈ tables_1_1) : w ∈ lw_tbl := List.mem_append_right _ (List.mem_append_left _ h)
theorem ja_i2 {w : Cond} (h : w ∈ tables_1_2) : w ∈ lw_tbl := List.mem_append_right _ (List.mem_append_right _ (List.mem_append_left _ h))
theorem ja_i3 {w : Cond} (h : w ∈ tables_1_3) : w ∈ lw_tbl := List.mem_append_right _ (List.mem_append_right _ (List.mem_append_right _ (List.mem_append_left _ h)))
theorem ja_i4 {w : Cond} (h : w ∈ tables_1_4) : w ∈ lw_tbl := List.mem_append_right _ (List.mem_append_right _ (List.mem_append_right _ (List.mem_append_right _ h)))
theorem jw_0 : (Jvm.Cond.initialized "CashMachineLaw") ∈ ja_T := ja_g (ja_i1 (List.mem_of_getElem? (i := 0) rfl)) rfl
theorem jw_1 : (Jvm.Cond.initialized "CashMachine") ∈ ja_T := ja_g (ja_i1 (List.mem_of_getElem? (i := 1) rfl)) rfl
theorem jw_2 : (Jvm.Cond.initialized "CashMachine$Host") ∈ ja_T := ja_g (ja_i1 (List.mem_of_getElem? (i := 2) rfl)) rfl
theorem jw_3 : (Jvm.Cond.initialized "CashMachine$Account") ∈ ja_T := ja_g (ja_i1 (List.mem_of_getElem? (i := 3) rfl)) rfl
theorem jw_4 : (Jvm.Cond.initialized "CashMachine$Line") ∈ ja_T := ja_g (ja_i1 (List.mem_of_getElem? (i := 4) rfl)) rfl
theorem jw_5 : (Jvm.Cond.initialized "CashMachine$Dispenser") ∈ ja_T := ja_g (ja_i1 (List.mem_of_getElem? (i := 5) rfl)) rfl
theorem jw_6 : (Jvm.Cond.initialized "CashMachine$Mix") ∈ ja_T := ja_g (ja_i1 (List.mem_of_getElem? (i := 6) rfl)) rfl
theorem jw_7 : (Jvm.Cond.initialized "CashMachine$Cassette") ∈ ja_T := ja_g (ja_i1 (List.mem_of_getElem? (i := 7) rfl)) rfl
theorem jw_8 : (Jvm.Cond.initialized "CashMachine$Journal") ∈ ja_T := ja_g (ja_i1 (List.mem_of_getElem? (i := 8) rfl)) rfl
theorem jw_9 : (Jvm.Cond.initialized "CashMachine$Entry") ∈ ja_T := ja_g (ja_i1 (List.mem_of_getElem? (i := 9) rfl)) rfl
theorem jw_10 : (Jvm.Cond.initialized "CashMachine$Reversals") ∈ ja_T := ja_g (ja_i1 (List.mem_of_getElem? (i := 10) rfl)) rfl
theorem jw_11 : (Jvm.Cond.initialized "CashMachineModel") ∈ ja_T := ja_g (ja_i1 (List.mem_of_getElem? (i := 11) rfl)) rfl
theorem jw_12 : (Jvm.Cond.initialized "java/lang/Throwable") ∈ ja_T := ja_g (ja_i1 (List.mem_of_getElem? (i := 12) rfl)) rfl
theorem jw_13 : (Jvm.Cond.initialized "java/lang/Exception") ∈ ja_T := ja_g (ja_i1 (List.mem_of_getElem? (i := 13) rfl)) rfl
theorem jw_14 : (Jvm.Cond.initialized "java/lang/RuntimeException") ∈ ja_T := ja_g (ja_i1 (List.mem_of_getElem? (i := 14) rfl)) rfl
theorem jw_15 : (Jvm.Cond.initialized "java/lang/IllegalArgumentException") ∈ ja_T := ja_g (ja_i1 (List.mem_of_getElem? (i := 15) rfl)) rfl
theorem jw_16 : (Jvm.Cond.initialized "java/lang/IllegalStateException") ∈ ja_T := ja_g (ja_i1 (List.mem_of_getElem? (i := 16) rfl)) rfl
theorem jw_17 : (Jvm.Cond.initialized "java/util/NoSuchElementException") ∈ ja_T := ja_g (ja_i1 (List.mem_of_getElem? (i := 17) rfl)) rfl
theorem jw_18 : (Jvm.Cond.initialized "java/lang/UnsupportedOperationException") ∈ ja_T := ja_g (ja_i1 (List.mem_of_getElem? (i := 18) rfl)) rfl
theorem jw_19 : (Jvm.Cond.initialized "java/util/Arrays") ∈ ja_T := ja_g (ja_i1 (List.mem_of_getElem? (i := 19) rfl)) rfl
theorem jw_20 : (Jvm.Cond.initialized "java/lang/Math") ∈ ja_T := ja_g (ja_i1 (List.mem_of_getElem? (i := 20) rfl)) rfl
theorem jw_21 : (Jvm.Cond.initialized "java/lang/IndexOutOfBoundsException") ∈ ja_T := ja_g (ja_i1 (List.mem_of_getElem? (i := 21) rfl)) rfl
theorem jw_22 : (Jvm.Cond.initialized "java/lang/System") ∈ ja_T := ja_g (ja_i1 (List.mem_of_getElem? (i := 22) rfl)) rfl
theorem jw_23 : (Jvm.Cond.classLink "CashMachineLaw" (8 : Nat) "CashMachine") ∈ ja_T := ja_g (ja_i1 (List.mem_of_getElem? (i := 23) rfl)) rfl
theorem jw_24 : (Jvm.Cond.instantiable "CashMachine" (9 : Nat)) ∈ ja_T := ja_g (ja_i1 (List.mem_of_getElem? (i := 24) rfl)) rfl
theorem jw_25 : (Jvm.Cond.methodLink "CashMachineLaw" (74 : Nat) ({ cls := "CashMachine", name := "<init>", desc := "()V" } : Jvm.MethodName)) ∈ ja_T := ja_g (ja_i1 (List.mem_of_getElem? (i := 25) rfl)) rfl
theorem jw_26 : (Jvm.Cond.instanceMethod ({ cls := "CashMachine", name := "<init>", desc := "()V" } : Jvm.MethodName)) ∈ ja_T := ja_g (ja_i1 (List.mem_of_getElem? (i := 26) rfl)) rfl
theorem jw_27 : (Jvm.Cond.code ({ cls := "CashMachine", name := "<init>", desc := "()V" } : Jvm.MethodName) prog_1_method_1_code (1 : Nat) (Option.none : Option Jvm.ClassFile.FieldType)) ∈ ja_T := ja_g (ja_i1 (List.mem_of_getElem? (i := 27) rfl)) rfl
theorem jw_28 : (Jvm.Cond.methodLink "CashMachine" (1 : Nat) ({ cls := "java/lang/Object", name := "<init>", desc := "()V" } : Jvm.MethodName)) ∈ ja_T := ja_g (ja_i1 (List.mem_of_getElem? (i := 28) rfl)) rfl
theorem jw_29 : (Jvm.Cond.instanceMethod ({ cls := "java/lang/Object", name := "<init>", desc := "()V" } : Jvm.MethodName)) ∈ ja_T := ja_g (ja_i1 (List.mem_of_getElem? (i := 29) rfl)) rfl
theorem jw_30 : (Jvm.Cond.code ({ cls := "java/lang/Object", name := "<init>", desc := "()V" } : Jvm.MethodName) object_method_1_code (1 : Nat) (Option.none : Option Jvm.ClassFile.FieldType)) ∈ ja_T := ja_g (ja_i1 (List.mem_of_getElem? (i := 30) rfl)) rfl
theorem jw_31 : (Jvm.Cond.classLink "CashMachine" (7 : Nat) "CashMachine$Host") ∈ ja_T := ja_g (ja_i1 (List.mem_of_getElem? (i := 31) rfl)) rfl
theorem jw_32 : (Jvm.Cond.instantiable "CashMachine$Host" (4 : Nat)) ∈ ja_T := ja_g (ja_i1 (List.mem_of_getElem? (i := 32) rfl)) rfl
theorem jw_33 : (Jvm.Cond.methodLink "CashMachine" (9 : Nat) ({ cls := "CashMachine$Host", name := "<init>", desc := "()V" } : Jvm.MethodName)) ∈ ja_T := ja_g (ja_i1 (List.mem_of_getElem? (i := 33) rfl)) rfl
theorem jw_34 : (Jvm.Cond.instanceMethod ({ cls := "CashMachine$Host", name := "<init>", desc := "()V" } : Jvm.MethodName)) ∈ ja_T := ja_g (ja_i1 (List.mem_of_getElem? (i := 34) rfl)) rfl
theorem jw_35 : (Jvm.Cond.code ({ cls := "CashMachine$Host", name := "<init>", desc := "()V" } : Jvm.MethodName) prog_6_method_1_code (2 : Nat) (Option.none : Option Jvm.ClassFile.FieldType)) ∈ ja_T := ja_g (ja_i1 (List.mem_of_getElem? (i := 35) rfl)) rfl
theorem jw_36 : (Jvm.Cond.methodLink "CashMachine$Host" (3 : Nat) ({ cls := "java/lang/Object", name := "<init>", desc := "()V" } : Jvm.MethodName)) ∈ ja_T := ja_g (ja_i1 (List.mem_of_getElem? (i := 36) rfl)) rfl
theorem jw_37 : (Jvm.Cond.classLink "CashMachine$Host" (9 : Nat) "CashMachine$Account") ∈ ja_T := ja_g (ja_i1 (List.mem_of_getElem? (i := 37) rfl)) rfl
theorem jv_38 : (Jvm.Cond.arrayOver (Jvm.ClassFile.FieldType.object "CashMachine$Account")) ∈ lw_tbl := ja_i1 (List.mem_of_getElem? (i := 38) rfl)
theorem jw_39 : (Jvm.Cond.instantiable "CashMachine$Account" (6 : Nat)) ∈ ja_T := ja_g (ja_i1 (List.mem_of_getElem? (i := 39) rfl)) rfl
theorem jv_40 : (Jvm.Cond.methodLinkNest "CashMachine$Host" (28 : Nat) ({ cls := "CashMachine$Account", name := "<init>", desc := "()V" } : Jvm.MethodName) "CashMachine") ∈ lw_tbl := ja_i1 (List.mem_of_getElem? (i := 40) rfl)
theorem jw_41 : (Jvm.Cond.instanceMethod ({ cls := "CashMachine$Account", name := "<init>", desc := "()V" } : Jvm.MethodName)) ∈ ja_T := ja_g (ja_i1 (List.mem_of_getElem? (i := 41) rfl)) rfl
theorem jw_42 : (Jvm.Cond.code ({ cls := "CashMachine$Account", name := "<init>", desc := "()V" } : Jvm.MethodName) prog_2_method_1_code (1 : Nat) (Option.none : Option Jvm.ClassFile.FieldType)) ∈ ja_T := ja_g (ja_i1 (List.mem_of_getElem? (i := 42) rfl)) rfl
theorem jw_43 : (Jvm.Cond.methodLink "CashMachine$Account" (3 : Nat) ({ cls := "java/lang/Object", name := "<init>", desc := "()V" } : Jvm.MethodName)) ∈ ja_T := ja_g (ja_i1 (List.mem_of_getElem? (i := 43) rfl)) rfl
theorem jw_44 : (Jvm.Cond.fieldLink "CashMachine$Account" (9 : Nat) "CashMachine$Account" "opened" "Z") ∈ ja_T := ja_g (ja_i1 (List.mem_of_getElem? (i := 44) rfl)) rfl
theorem jw_45 : (Jvm.Cond.fieldLink "CashMachine$Host" (33 : Nat) "CashMachine$Account" "opened" "Z") ∈ ja_T := ja_g (ja_i1 (List.mem_of_getElem? (i := 45) rfl)) rfl
theorem jw_46 : (Jvm.Cond.fieldLink "CashMachine$Account" (15 : Nat) "CashMachine$Account" "pin" "I") ∈ ja_T := ja_g (ja_i1 (List.mem_of_getElem? (i := 46) rfl)) rfl
theorem jw_47 : (Jvm.Cond.fieldLink "CashMachine$Host" (37 : Nat) "CashMachine$Account" "pin" "I") ∈ ja_T := ja_g (ja_i1 (List.mem_of_getElem? (i := 47) rfl)) rfl
theorem jw_48 : (Jvm.Cond.fieldLink "CashMachine$Account" (19 : Nat) "CashMachine$Account" "openedWith" "I") ∈ ja_T := ja_g (ja_i1 (List.mem_of_getElem? (i := 48) rfl)) rfl
theorem jw_49 : (Jvm.Cond.fieldLink "CashMachine$Host" (41 : Nat) "CashMachine$Account" "openedWith" "I") ∈ ja_T := ja_g (ja_i1 (List.mem_of_getElem? (i := 49) rfl)) rfl
theorem jw_50 : (Jvm.Cond.fieldLink "CashMachine$Account" (22 : Nat) "CashMachine$Account" "balance" "I") ∈ ja_T := ja_g (ja_i1 (List.mem_of_getElem? (i := 50) rfl)) rfl
theorem jw_51 : (Jvm.Cond.fieldLink "CashMachine$Host" (44 : Nat) "CashMachine$Account" "balance" "I") ∈ ja_T := ja_g (ja_i1 (List.mem_of_getElem? (i := 51) rfl)) rfl
theorem jw_52 : (Jvm.Cond.fieldLink "CashMachine" (159 : Nat) "CashMachine$Account" "balance" "I") ∈ ja_T := ja_g (ja_i1 (List.mem_of_getElem? (i := 52) rfl)) rfl
theorem jw_53 : (Jvm.Cond.fieldLink "CashMachine$Account" (25 : Nat) "CashMachine$Account" "triesLeft" "I") ∈ ja_T := ja_g (ja_i1 (List.mem_of_getElem? (i := 53) rfl)) rfl
theorem jw_54 : (Jvm.Cond.fieldLink "CashMachine" (100 : Nat) "CashMachine$Account" "triesLeft" "I") ∈ ja_T := ja_g (ja_i1 (List.mem_of_getElem? (i := 54) rfl)) rfl
theorem jw_55 : (Jvm.Cond.fieldLink "CashMachine$Account" (28 : Nat) "CashMachine$Account" "blocked" "Z") ∈ ja_T := ja_g (ja_i1 (List.mem_of_getElem? (i := 55) rfl)) rfl
theorem jw_56 : (Jvm.Cond.fieldLink "CashMachine" (92 : Nat) "CashMachine$Account" "blocked" "Z") ∈ ja_T := ja_g (ja_i1 (List.mem_of_getElem? (i := 56) rfl)) rfl
theorem jw_57 : (Jvm.Cond.fieldLink "CashMachine$Host" (51 : Nat) "CashMachine$Account" "blocked" "Z") ∈ ja_T := ja_g (ja_i1 (List.mem_of_getElem? (i := 57) rfl)) rfl
theorem jw_58 : (Jvm.Cond.lays "CashMachine$Account" "CashMachine$Account" "opened" "Z") ∈ ja_T := ja_g (ja_i1 (List.mem_of_getElem? (i := 58) rfl)) rfl
theorem jw_59 : (Jvm.Cond.soleField "CashMachine$Account" "opened") ∈ ja_T := ja_g (ja_i1 (List.mem_of_getElem? (i := 59) rfl)) rfl
theorem jw_60 : (Jvm.Cond.lays "CashMachine$Account" "CashMachine$Account" "pin" "I") ∈ ja_T := ja_g (ja_i1 (List.mem_of_getElem? (i := 60) rfl)) rfl
theorem jw_61 : (Jvm.Cond.soleField "CashMachine$Account" "pin") ∈ ja_T := ja_g (ja_i1 (List.mem_of_getElem? (i := 61) rfl)) rfl
theorem jw_62 : (Jvm.Cond.lays "CashMachine$Account" "CashMachine$Account" "openedWith" "I") ∈ ja_T := ja_g (ja_i1 (List.mem_of_getElem? (i := 62) rfl)) rfl
theorem jw_63 : (Jvm.Cond.soleField "CashMachine$Account" "openedWith") ∈ ja_T := ja_g (ja_i1 (List.mem_of_getElem? (i := 63) rfl)) rfl
theorem jw_64 : (Jvm.Cond.lays "CashMachine$Account" "CashMachine$Account" "balance" "I") ∈ ja_T := ja_g (ja_i1 (List.mem_of_getElem? (i := 64) rfl)) rfl
theorem jw_65 : (Jvm.Cond.soleField "CashMachine$Account" "balance") ∈ ja_T := ja_g (ja_i1 (List.mem_of_getElem? (i := 65) rfl)) rfl
theorem jw_66 : (Jvm.Cond.lays "CashMachine$Account" "CashMachine$Account" "triesLeft" "I") ∈ ja_T := ja_g (ja_i1 (List.mem_of_getElem? (i := 66) rfl)) rfl
theorem jw_67 : (Jvm.Cond.soleField "CashMachine$Account" "triesLeft") ∈ ja_T := ja_g (ja_i1 (List.mem_of_getElem? (i := 67) rfl)) rfl
theorem jw_68 : (Jvm.Cond.lays "CashMachine$Account" "CashMachine$Account" "blocked" "Z") ∈ ja_T := ja_g (ja_i1 (List.mem_of_getElem? (i := 68) rfl)) rfl
theorem jw_69 : (Jvm.Cond.soleField "CashMachine$Account" "blocked") ∈ ja_T := ja_g (ja_i1 (List.mem_of_getElem? (i := 69) rfl)) rfl
theorem jw_70 : (Jvm.Cond.superclass "CashMachine$Account" "java/lang/Object") ∈ ja_T := ja_g (ja_i1 (List.mem_of_getElem? (i := 70) rfl)) rfl
theorem jw_71 : (Jvm.Cond.arrayClass Jvm.ClassFile.FieldType.int) ∈ ja_T := ja_g (ja_i1 (List.mem_of_getElem? (i := 71) rfl)) rfl
theorem jw_72 : (Jvm.Cond.arrayClass Jvm.ClassFile.FieldType.boolean) ∈ ja_T := ja_g (ja_i1 (List.mem_of_getElem? (i := 72) rfl)) rfl
theorem jw_73 : (Jvm.Cond.fieldLink "CashMachine$Host" (11 : Nat) "CashMachine$Host" "accounts" "[LCashMachine$Account;") ∈ ja_T := ja_g (ja_i1 (List.mem_of_getElem? (i := 73) rfl)) rfl
theorem jw_74 : (Jvm.Cond.fieldLink "CashMachine" (88 : Nat) "CashMachine$Host" "accounts" "[LCashMachine$Account;") ∈ ja_T := ja_g (ja_i1 (List.mem_of_getElem? (i := 74) rfl)) rfl
theorem jw_75 : (Jvm.Cond.fieldLink "CashMachine$Host" (17 : Nat) "CashMachine$Host" "answers" "[I") ∈ ja_T := ja_g (ja_i1 (List.mem_of_getElem? (i := 75) rfl)) rfl
theorem jw_76 : (Jvm.Cond.fieldLink "CashMachine$Host" (21 : Nat) "CashMachine$Host" "accountOfTrace" "[I") ∈ ja_T := ja_g (ja_i1 (List.mem_of_getElem? (i := 76) rfl)) rfl
theorem jw_77 : (Jvm.Cond.fieldLink "CashMachine$Host" (24 : Nat) "CashMachine$Host" "reversed" "[Z") ∈ ja_T := ja_g (ja_i1 (List.mem_of_getElem? (i := 77) rfl)) rfl
theorem jw_78 : (Jvm.Cond.laysFinal "CashMachine$Host" "CashMachine$Host" "accounts" "[LCashMachine$Account;") ∈ ja_T := ja_g (ja_i1 (List.mem_of_getElem? (i := 78) rfl)) rfl
theorem jw_79 : (Jvm.Cond.soleField "CashMachine$Host" "accounts") ∈ ja_T := ja_g (ja_i1 (List.mem_of_getElem? (i := 79) rfl)) rfl
theorem jw_80 : (Jvm.Cond.laysFinal "CashMachine$Host" "CashMachine$Host" "answers" "[I") ∈ ja_T := ja_g (ja_i1 (List.mem_of_getElem? (i := 80) rfl)) rfl
theorem jw_81 : (Jvm.Cond.soleField "CashMachine$Host" "answers") ∈ ja_T := ja_g (ja_i1 (List.mem_of_getElem? (i := 81) rfl)) rfl
theorem jw_82 : (Jvm.Cond.laysFinal "CashMachine$Host" "CashMachine$Host" "accountOfTrace" "[I") ∈ ja_T := ja_g (ja_i1 (List.mem_of_getElem? (i := 82) rfl)) rfl
theorem jw_83 : (Jvm.Cond.soleField "CashMachine$Host" "accountOfTrace") ∈ ja_T := ja_g (ja_i1 (List.mem_of_getElem? (i := 83) rfl)) rfl
theorem jw_84 : (Jvm.Cond.laysFinal "CashMachine$Host" "CashMachine$Host" "reversed" "[Z") ∈ ja_T := ja_g (ja_i1 (List.mem_of_getElem? (i := 84) rfl)) rfl
theorem jw_85 : (Jvm.Cond.soleField "CashMachine$Host" "reversed") ∈ ja_T := ja_g (ja_i1 (List.mem_of_getElem? (i := 85) rfl)) rfl
theorem jw_86 : (Jvm.Cond.superclass "CashMachine$Host" "java/lang/Object") ∈ ja_T := ja_g (ja_i1 (List.mem_of_getElem? (i := 86) rfl)) rfl
theorem jw_87 : (Jvm.Cond.classLink "CashMachine" (16 : Nat) "CashMachine$Line") ∈ ja_T := ja_g (ja_i1 (List.mem_of_getElem? (i := 87) rfl)) rfl
theorem jw_88 : (Jvm.Cond.instantiable "CashMachine$Line" (2 : Nat)) ∈ ja_T := ja_g (ja_i1 (List.mem_of_getElem? (i := 88) rfl)) rfl
theorem jv_89 : (Jvm.Cond.methodLinkNest "CashMachine" (18 : Nat) ({ cls := "CashMachine$Line", name := "<init>", desc := "()V" } : Jvm.MethodName) "CashMachine") ∈ lw_tbl := ja_i1 (List.mem_of_getElem? (i := 89) rfl)
theorem jw_90 : (Jvm.Cond.instanceMethod ({ cls := "CashMachine$Line", name := "<init>", desc := "()V" } : Jvm.MethodName)) ∈ ja_T := ja_g (ja_i1 (List.mem_of_getElem? (i := 90) rfl)) rfl
theorem jw_91 : (Jvm.Cond.code ({ cls := "CashMachine$Line", name := "<init>", desc := "()V" } : Jvm.MethodName) prog_8_method_1_code (1 : Nat) (Option.none : Option Jvm.ClassFile.FieldType)) ∈ ja_T := ja_g (ja_i1 (List.mem_of_getElem? (i := 91) rfl)) rfl
theorem jw_92 : (Jvm.Cond.methodLink "CashMachine$Line" (3 : Nat) ({ cls := "java/lang/Object", name := "<init>", desc := "()V" } : Jvm.MethodName)) ∈ ja_T := ja_g (ja_i1 (List.mem_of_getElem? (i := 92) rfl)) rfl
theorem jw_93 : (Jvm.Cond.fieldLink "CashMachine$Line" (9 : Nat) "CashMachine$Line" "fates" "[I") ∈ ja_T := ja_g (ja_i1 (List.mem_of_getElem? (i := 93) rfl)) rfl
theorem jw_94 : (Jvm.Cond.fieldLink "CashMachine$Line" (15 : Nat) "CashMachine$Line" "size" "I") ∈ ja_T := ja_g (ja_i1 (List.mem_of_getElem? (i := 94) rfl)) rfl
theorem jw_95 : (Jvm.Cond.fieldLink "CashMachine" (136 : Nat) "CashMachine$Line" "size" "I") ∈ ja_T := ja_g (ja_i1 (List.mem_of_getElem? (i := 95) rfl)) rfl
theorem jw_96 : (Jvm.Cond.laysFinal "CashMachine$Line" "CashMachine$Line" "fates" "[I") ∈ ja_T := ja_g (ja_i1 (List.mem_of_getElem? (i := 96) rfl)) rfl
theorem jw_97 : (Jvm.Cond.soleField "CashMachine$Line" "fates") ∈ ja_T := ja_g (ja_i1 (List.mem_of_getElem? (i := 97) rfl)) rfl
theorem jw_98 : (Jvm.Cond.lays "CashMachine$Line" "CashMachine$Line" "size" "I") ∈ ja_T := ja_g (ja_i1 (List.mem_of_getElem? (i := 98) rfl)) rfl
theorem jw_99 : (Jvm.Cond.soleField "CashMachine$Line" "size") ∈ ja_T := ja_g (ja_i1 (List.mem_of_getElem? (i := 99) rfl)) rfl
theorem jw_100 : (Jvm.Cond.superclass "CashMachine$Line" "java/lang/Object") ∈ ja_T := ja_g (ja_i1 (List.mem_of_getElem? (i := 100) rfl)) rfl
theorem jw_101 : (Jvm.Cond.classLink "CashMachine" (23 : Nat) "CashMachine$Dispenser") ∈ ja_T := ja_g (ja_i1 (List.mem_of_getElem? (i := 101) rfl)) rfl
theorem jw_102 : (Jvm.Cond.instantiable "CashMachine$Dispenser" (6 : Nat)) ∈ ja_T := ja_g (ja_i1 (List.mem_of_getElem? (i := 102) rfl)) rfl
theorem jw_103 : (Jvm.Cond.methodLink "CashMachine" (25 : Nat) ({ cls := "CashMachine$Dispenser", name := "<init>", desc := "()V" } : Jvm.MethodName)) ∈ ja_T := ja_g (ja_i1 (List.mem_of_getElem? (i := 103) rfl)) rfl
theorem jw_104 : (Jvm.Cond.instanceMethod ({ cls := "CashMachine$Dispenser", name := "<init>", desc := "()V" } : Jvm.MethodName)) ∈ ja_T := ja_g (ja_i1 (List.mem_of_getElem? (i := 104) rfl)) rfl
theorem jw_105 : (Jvm.Cond.code ({ cls := "CashMachine$Dispenser", name := "<init>", desc := "()V" } : Jvm.MethodName) prog_4_method_1_code (2 : Nat) (Option.none : Option Jvm.ClassFile.FieldType)) ∈ ja_T := ja_g (ja_i1 (List.mem_of_getElem? (i := 105) rfl)) rfl
theorem jw_106 : (Jvm.Cond.methodLink "CashMachine$Dispenser" (3 : Nat) ({ cls := "java/lang/Object", name := "<init>", desc := "()V" } : Jvm.MethodName)) ∈ ja_T := ja_g (ja_i1 (List.mem_of_getElem? (i := 106) rfl)) rfl
theorem jw_107 : (Jvm.Cond.classLink "CashMachine$Dispenser" (9 : Nat) "CashMachine$Cassette") ∈ ja_T := ja_g (ja_i1 (List.mem_of_getElem? (i := 107) rfl)) rfl
theorem jv_108 : (Jvm.Cond.arrayOver (Jvm.ClassFile.FieldType.object "CashMachine$Cassette")) ∈ lw_tbl := ja_i1 (List.mem_of_getElem? (i := 108) rfl)
theorem jw_109 : (Jvm.Cond.classLink "CashMachine$Dispenser" (17 : Nat) "CashMachine$Mix") ∈ ja_T := ja_g (ja_i1 (List.mem_of_getElem? (i := 109) rfl)) rfl
theorem jw_110 : (Jvm.Cond.instantiable "CashMachine$Mix" (2 : Nat)) ∈ ja_T := ja_g (ja_i1 (List.mem_of_getElem? (i := 110) rfl)) rfl
theorem jv_111 : (Jvm.Cond.methodLinkNest "CashMachine$Dispenser" (19 : Nat) ({ cls := "CashMachine$Mix", name := "<init>", desc := "()V" } : Jvm.MethodName) "CashMachine") ∈ lw_tbl := ja_i1 (List.mem_of_getElem? (i := 111) rfl)
theorem jw_112 : (Jvm.Cond.instanceMethod ({ cls := "CashMachine$Mix", name := "<init>", desc := "()V" } : Jvm.MethodName)) ∈ ja_T := ja_g (ja_i1 (List.mem_of_getElem? (i := 112) rfl)) rfl
theorem jw_113 : (Jvm.Cond.code ({ cls := "CashMachine$Mix", name := "<init>", desc := "()V" } : Jvm.MethodName) prog_9_method_1_code (1 : Nat) (Option.none : Option Jvm.ClassFile.FieldType)) ∈ ja_T := ja_g (ja_i1 (List.mem_of_getElem? (i := 113) rfl)) rfl
theorem jw_114 : (Jvm.Cond.methodLink "CashMachine$Mix" (3 : Nat) ({ cls := "java/lang/Object", name := "<init>", desc := "()V" } : Jvm.MethodName)) ∈ ja_T := ja_g (ja_i1 (List.mem_of_getElem? (i := 114) rfl)) rfl
theorem jw_115 : (Jvm.Cond.fieldLink "CashMachine$Mix" (9 : Nat) "CashMachine$Mix" "taken" "[I") ∈ ja_T := ja_g (ja_i1 (List.mem_of_getElem? (i := 115) rfl)) rfl
theorem jw_116 : (Jvm.Cond.fieldLink "CashMachine$Dispenser" (52 : Nat) "CashMachine$Mix" "taken" "[I") ∈ ja_T := ja_g (ja_i1 (List.mem_of_getElem? (i := 116) rfl)) rfl
theorem jw_117 : (Jvm.Cond.fieldLink "CashMachine" (130 : Nat) "CashMachine$Mix" "taken" "[I") ∈ ja_T := ja_g (ja_i1 (List.mem_of_getElem? (i := 117) rfl)) rfl
theorem jw_118 : (Jvm.Cond.fieldLink "CashMachine$Mix" (15 : Nat) "CashMachine$Mix" "rankOfLastTwo" "[I") ∈ ja_T := ja_g (ja_i1 (List.mem_of_getElem? (i := 118) rfl)) rfl
theorem jw_119 : (Jvm.Cond.laysFinal "CashMachine$Mix" "CashMachine$Mix" "taken" "[I") ∈ ja_T := ja_g (ja_i1 (List.mem_of_getElem? (i := 119) rfl)) rfl
theorem jw_120 : (Jvm.Cond.soleField "CashMachine$Mix" "taken") ∈ ja_T := ja_g (ja_i1 (List.mem_of_getElem? (i := 120) rfl)) rfl
theorem jw_121 : (Jvm.Cond.laysFinal "CashMachine$Mix" "CashMachine$Mix" "rankOfLastTwo" "[I") ∈ ja_T := ja_g (ja_i1 (List.mem_of_getElem? (i := 121) rfl)) rfl
theorem jw_122 : (Jvm.Cond.soleField "CashMachine$Mix" "rankOfLastTwo") ∈ ja_T := ja_g (ja_i1 (List.mem_of_getElem? (i := 122) rfl)) rfl
theorem jw_123 : (Jvm.Cond.superclass "CashMachine$Mix" "java/lang/Object") ∈ ja_T := ja_g (ja_i1 (List.mem_of_getElem? (i := 123) rfl)) rfl
theorem jw_124 : (Jvm.Cond.instantiable "CashMachine$Cassette" (2 : Nat)) ∈ ja_T := ja_g (ja_i1 (List.mem_of_getElem? (i := 124) rfl)) rfl
theorem jv_125 : (Jvm.Cond.methodLinkNest "CashMachine$Dispenser" (37 : Nat) ({ cls := "CashMachine$Cassette", name := "<init>", desc := "()V" } : Jvm.MethodName) "CashMachine") ∈ lw_tbl := ja_i1 (List.mem_of_getElem? (i := 125) rfl)
theorem jw_126 : (Jvm.Cond.instanceMethod ({ cls := "CashMachine$Cassette", name := "<init>", desc := "()V" } : Jvm.MethodName)) ∈ ja_T := ja_g (ja_i1 (List.mem_of_getElem? (i := 126) rfl)) rfl
theorem jw_127 : (Jvm.Cond.code ({ cls := "CashMachine$Cassette", name := "<init>", desc := "()V" } : Jvm.MethodName) prog_3_method_1_code (1 : Nat) (Option.none : Option Jvm.ClassFile.FieldType)) ∈ ja_T := ja_g (ja_i1 (List.mem_of_getElem? (i := 127) rfl)) rfl
theorem jw_128 : (Jvm.Cond.methodLink "CashMachine$Cassette" (1 : Nat) ({ cls := "java/lang/Object", name := "<init>", desc := "()V" } : Jvm.MethodName)) ∈ ja_T := ja_g (ja_i1 (List.mem_of_getElem? (i := 128) rfl)) rfl
theorem jw_129 : (Jvm.Cond.fieldLink "CashMachine$Cassette" (7 : Nat) "CashMachine$Cassette" "value" "I") ∈ ja_T := ja_g (ja_i1 (List.mem_of_getElem? (i := 129) rfl)) rfl
theorem jw_130 : (Jvm.Cond.fieldLink "CashMachine$Dispenser" (38 : Nat) "CashMachine$Cassette" "value" "I") ∈ ja_T := ja_g (ja_i1 (List.mem_of_getElem? (i := 130) rfl)) rfl
theorem jw_131 : (Jvm.Cond.fieldLink "CashMachine$Mix" (29 : Nat) "CashMachine$Cassette" "value" "I") ∈ ja_T := ja_g (ja_i1 (List.mem_of_getElem? (i := 131) rfl)) rfl
theorem jw_132 : (Jvm.Cond.fieldLink "CashMachine$Cassette" (13 : Nat) "CashMachine$Cassette" "notes" "I") ∈ ja_T := ja_g (ja_i1 (List.mem_of_getElem? (i := 132) rfl)) rfl
theorem jw_133 : (Jvm.Cond.fieldLink "CashMachine$Dispenser" (41 : Nat) "CashMachine$Cassette" "notes" "I") ∈ ja_T := ja_g (ja_i1 (List.mem_of_getElem? (i := 133) rfl)) rfl
theorem jw_134 : (Jvm.Cond.fieldLink "CashMachine$Mix" (23 : Nat) "CashMachine$Cassette" "notes" "I") ∈ ja_T := ja_g (ja_i1 (List.mem_of_getElem? (i := 134) rfl)) rfl
theorem jw_135 : (Jvm.Cond.fieldLink "CashMachine" (187 : Nat) "CashMachine$Cassette" "notes" "I") ∈ ja_T := ja_g (ja_i1 (List.mem_of_getElem? (i := 135) rfl)) rfl
theorem jw_136 : (Jvm.Cond.lays "CashMachine$Cassette" "CashMachine$Cassette" "value" "I") ∈ ja_T := ja_g (ja_i1 (List.mem_of_getElem? (i := 136) rfl)) rfl
theorem jw_137 : (Jvm.Cond.soleField "CashMachine$Cassette" "value") ∈ ja_T := ja_g (ja_i1 (List.mem_of_getElem? (i := 137) rfl)) rfl
theorem jw_138 : (Jvm.Cond.lays "CashMachine$Cassette" "CashMachine$Cassette" "notes" "I") ∈ ja_T := ja_g (ja_i1 (List.mem_of_getElem? (i := 138) rfl)) rfl
theorem jw_139 : (Jvm.Cond.soleField "CashMachine$Cassette" "notes") ∈ ja_T := ja_g (ja_i1 (List.mem_of_getElem? (i := 139) rfl)) rfl
theorem jw_140 : (Jvm.Cond.superclass "CashMachine$Cassette" "java/lang/Object") ∈ ja_T := ja_g (ja_i1 (List.mem_of_getElem? (i := 140) rfl)) rfl
theorem jw_141 : (Jvm.Cond.fieldLink "CashMachine$Dispenser" (11 : Nat) "CashMachine$Dispenser" "cassettes" "[LCashMachine$Cassette;") ∈ ja_T := ja_g (ja_i1 (List.mem_of_getElem? (i := 141) rfl)) rfl
theorem jw_142 : (Jvm.Cond.fieldLink "CashMachine" (183 : Nat) "CashMachine$Dispenser" "cassettes" "[LCashMachine$Cassette;") ∈ ja_T := ja_g (ja_i1 (List.mem_of_getElem? (i := 142) rfl)) rfl
theorem jw_143 : (Jvm.Cond.fieldLink "CashMachine$Dispenser" (20 : Nat) "CashMachine$Dispenser" "mix" "LCashMachine$Mix;") ∈ ja_T := ja_g (ja_i1 (List.mem_of_getElem? (i := 143) rfl)) rfl
theorem jw_144 : (Jvm.Cond.fieldLink "CashMachine" (126 : Nat) "CashMachine$Dispenser" "mix" "LCashMachine$Mix;") ∈ ja_T := ja_g (ja_i1 (List.mem_of_getElem? (i := 144) rfl)) rfl
theorem jw_145 : (Jvm.Cond.fieldLink "CashMachine$Dispenser" (24 : Nat) "CashMachine$Dispenser" "jam" "I") ∈ ja_T := ja_g (ja_i1 (List.mem_of_getElem? (i := 145) rfl)) rfl
theorem jw_146 : (Jvm.Cond.fieldLink "CashMachine" (141 : Nat) "CashMachine$Dispenser" "jam" "I") ∈ ja_T := ja_g (ja_i1 (List.mem_of_getElem? (i := 146) rfl)) rfl
theorem jw_147 : (Jvm.Cond.fieldLink "CashMachine$Dispenser" (28 : Nat) "CashMachine$Dispenser" "presentedInAll" "I") ∈ ja_T := ja_g (ja_i1 (List.mem_of_getElem? (i := 147) rfl)) rfl
theorem jw_148 : (Jvm.Cond.fieldLink "CashMachine" (195 : Nat) "CashMachine$Dispenser" "presentedInAll" "I") ∈ ja_T := ja_g (ja_i1 (List.mem_of_getElem? (i := 148) rfl)) rfl
theorem jw_149 : (Jvm.Cond.fieldLink "CashMachine$Dispenser" (31 : Nat) "CashMachine$Dispenser" "lastTrace" "I") ∈ ja_T := ja_g (ja_i1 (List.mem_of_getElem? (i := 149) rfl)) rfl
theorem jw_150 : (Jvm.Cond.fieldLink "CashMachine$Dispenser" (34 : Nat) "CashMachine$Dispenser" "lastPresented" "I") ∈ ja_T := ja_g (ja_i1 (List.mem_of_getElem? (i := 150) rfl)) rfl
theorem jw_151 : (Jvm.Cond.laysFinal "CashMachine$Dispenser" "CashMachine$Dispenser" "cassettes" "[LCashMachine$Cassette;") ∈ ja_T := ja_g (ja_i1 (List.mem_of_getElem? (i := 151) rfl)) rfl
theorem jw_152 : (Jvm.Cond.soleField "CashMachine$Dispenser" "cassettes") ∈ ja_T := ja_g (ja_i1 (List.mem_of_getElem? (i := 152) rfl)) rfl
theorem jw_153 : (Jvm.Cond.laysFinal "CashMachine$Dispenser" "CashMachine$Dispenser" "mix" "LCashMachine$Mix;") ∈ ja_T := ja_g (ja_i1 (List.mem_of_getElem? (i := 153) rfl)) rfl
theorem jw_154 : (Jvm.Cond.soleField "CashMachine$Dispenser" "mix") ∈ ja_T := ja_g (ja_i1 (List.mem_of_getElem? (i := 154) rfl)) rfl
theorem jw_155 : (Jvm.Cond.lays "CashMachine$Dispenser" "CashMachine$Dispenser" "jam" "I") ∈ ja_T := ja_g (ja_i1 (List.mem_of_getElem? (i := 155) rfl)) rfl
theorem jw_156 : (Jvm.Cond.soleField "CashMachine$Dispenser" "jam") ∈ ja_T := ja_g (ja_i1 (List.mem_of_getElem? (i := 156) rfl)) rfl
theorem jw_157 : (Jvm.Cond.lays "CashMachine$Dispenser" "CashMachine$Dispenser" "presentedInAll" "I") ∈ ja_T := ja_g (ja_i1 (List.mem_of_getElem? (i := 157) rfl)) rfl
theorem jw_158 : (Jvm.Cond.soleField "CashMachine$Dispenser" "presentedInAll") ∈ ja_T := ja_g (ja_i1 (List.mem_of_getElem? (i := 158) rfl)) rfl
theorem jw_159 : (Jvm.Cond.lays "CashMachine$Dispenser" "CashMachine$Dispenser" "lastTrace" "I") ∈ ja_T := ja_g (ja_i1 (List.mem_of_getElem? (i := 159) rfl)) rfl
theorem jw_160 : (Jvm.Cond.soleField "CashMachine$Dispenser" "lastTrace") ∈ ja_T := ja_g (ja_i1 (List.mem_of_getElem? (i := 160) rfl)) rfl
theorem jw_161 : (Jvm.Cond.lays "CashMachine$Dispenser" "CashMachine$Dispenser" "lastPresented" "I") ∈ ja_T := ja_g (ja_i1 (List.mem_of_getElem? (i := 161) rfl)) rfl
theorem jw_162 : (Jvm.Cond.soleField "CashMachine$Dispenser" "lastPresented") ∈ ja_T := ja_g (ja_i1 (List.mem_of_getElem? (i := 162) rfl)) rfl
theorem jw_163 : (Jvm.Cond.superclass "CashMachine$Dispenser" "java/lang/Object") ∈ ja_T := ja_g (ja_i1 (List.mem_of_getElem? (i := 163) rfl)) rfl
theorem jw_164 : (Jvm.Cond.classLink "CashMachine" (30 : Nat) "CashMachine$Journal") ∈ ja_T := ja_g (ja_i1 (List.mem_of_getElem? (i := 164) rfl)) rfl
theorem jw_165 : (Jvm.Cond.instantiable "CashMachine$Journal" (2 : Nat)) ∈ ja_T := ja_g (ja_i1 (List.mem_of_getElem? (i := 165) rfl)) rfl
theorem jw_166 : (Jvm.Cond.methodLink "CashMachine" (32 : Nat) ({ cls := "CashMachine$Journal", name := "<init>", desc := "()V" } : Jvm.MethodName)) ∈ ja_T := ja_g (ja_i1 (List.mem_of_getElem? (i := 166) rfl)) rfl
theorem jw_167 : (Jvm.Cond.instanceMethod ({ cls := "CashMachine$Journal", name := "<init>", desc := "()V" } : Jvm.MethodName)) ∈ ja_T := ja_g (ja_i1 (List.mem_of_getElem? (i := 167) rfl)) rfl
theorem jw_168 : (Jvm.Cond.code ({ cls := "CashMachine$Journal", name := "<init>", desc := "()V" } : Jvm.MethodName) prog_7_method_1_code (2 : Nat) (Option.none : Option Jvm.ClassFile.FieldType)) ∈ ja_T := ja_g (ja_i1 (List.mem_of_getElem? (i := 168) rfl)) rfl
theorem jw_169 : (Jvm.Cond.methodLink "CashMachine$Journal" (3 : Nat) ({ cls := "java/lang/Object", name := "<init>", desc := "()V" } : Jvm.MethodName)) ∈ ja_T := ja_g (ja_i1 (List.mem_of_getElem? (i := 169) rfl)) rfl
theorem jw_170 : (Jvm.Cond.classLink "CashMachine$Journal" (9 : Nat) "CashMachine$Entry") ∈ ja_T := ja_g (ja_i1 (List.mem_of_getElem? (i := 170) rfl)) rfl
theorem jv_171 : (Jvm.Cond.arrayOver (Jvm.ClassFile.FieldType.object "CashMachine$Entry")) ∈ lw_tbl := ja_i1 (List.mem_of_getElem? (i := 171) rfl)
theorem jw_172 : (Jvm.Cond.instantiable "CashMachine$Entry" (5 : Nat)) ∈ ja_T := ja_g (ja_i1 (List.mem_of_getElem? (i := 172) rfl)) rfl
theorem jw_173 : (Jvm.Cond.methodLink "CashMachine$Journal" (21 : Nat) ({ cls := "CashMachine$Entry", name := "<init>", desc := "(I)V" } : Jvm.MethodName)) ∈ ja_T := ja_g (ja_i1 (List.mem_of_getElem? (i := 173) rfl)) rfl
theorem jw_174 : (Jvm.Cond.instanceMethod ({ cls := "CashMachine$Entry", name := "<init>", desc := "(I)V" } : Jvm.MethodName)) ∈ ja_T := ja_g (ja_i1 (List.mem_of_getElem? (i := 174) rfl)) rfl
theorem jw_175 : (Jvm.Cond.code ({ cls := "CashMachine$Entry", name := "<init>", desc := "(I)V" } : Jvm.MethodName) prog_5_method_1_code (2 : Nat) (Option.none : Option Jvm.ClassFile.FieldType)) ∈ ja_T := ja_g (ja_i1 (List.mem_of_getElem? (i := 175) rfl)) rfl
theorem jw_176 : (Jvm.Cond.methodLink "CashMachine$Entry" (1 : Nat) ({ cls := "java/lang/Object", name := "<init>", desc := "()V" } : Jvm.MethodName)) ∈ ja_T := ja_g (ja_i1 (List.mem_of_getElem? (i := 176) rfl)) rfl
theorem jw_177 : (Jvm.Cond.fieldLink "CashMachine$Entry" (22 : Nat) "CashMachine$Entry" "trace" "I") ∈ ja_T := ja_g (ja_i1 (List.mem_of_getElem? (i := 177) rfl)) rfl
theorem jw_178 : (Jvm.Cond.fieldLink "CashMachine" (213 : Nat) "CashMachine$Entry" "trace" "I") ∈ ja_T := ja_g (ja_i1 (List.mem_of_getElem? (i := 178) rfl)) rfl
theorem jw_179 : (Jvm.Cond.fieldLink "CashMachine$Entry" (7 : Nat) "CashMachine$Entry" "account" "I") ∈ ja_T := ja_g (ja_i1 (List.mem_of_getElem? (i := 179) rfl)) rfl
theorem jw_180 : (Jvm.Cond.fieldLink "CashMachine$Journal" (24 : Nat) "CashMachine$Entry" "account" "I") ∈ ja_T := ja_g (ja_i1 (List.mem_of_getElem? (i := 180) rfl)) rfl
theorem jw_181 : (Jvm.Cond.fieldLink "CashMachine" (171 : Nat) "CashMachine$Entry" "account" "I") ∈ ja_T := ja_g (ja_i1 (List.mem_of_getElem? (i := 181) rfl)) rfl
theorem jw_182 : (Jvm.Cond.fieldLink "CashMachine$Entry" (13 : Nat) "CashMachine$Entry" "amount" "I") ∈ ja_T := ja_g (ja_i1 (List.mem_of_getElem? (i := 182) rfl)) rfl
theorem jw_183 : (Jvm.Cond.fieldLink "CashMachine$Journal" (27 : Nat) "CashMachine$Entry" "amount" "I") ∈ ja_T := ja_g (ja_i1 (List.mem_of_getElem? (i := 183) rfl)) rfl
theorem jw_184 : (Jvm.Cond.fieldLink "CashMachine" (174 : Nat) "CashMachine$Entry" "amount" "I") ∈ ja_T := ja_g (ja_i1 (List.mem_of_getElem? (i := 184) rfl)) rfl
theorem jw_185 : (Jvm.Cond.fieldLink "CashMachine$Entry" (16 : Nat) "CashMachine$Entry" "state" "I") ∈ ja_T := ja_g (ja_i1 (List.mem_of_getElem? (i := 185) rfl)) rfl
theorem jw_186 : (Jvm.Cond.fieldLink "CashMachine$Journal" (30 : Nat) "CashMachine$Entry" "state" "I") ∈ ja_T := ja_g (ja_i1 (List.mem_of_getElem? (i := 186) rfl)) rfl
theorem jw_187 : (Jvm.Cond.fieldLink "CashMachine" (166 : Nat) "CashMachine$Entry" "state" "I") ∈ ja_T := ja_g (ja_i1 (List.mem_of_getElem? (i := 187) rfl)) rfl
theorem jw_188 : (Jvm.Cond.fieldLink "CashMachine$Entry" (19 : Nat) "CashMachine$Entry" "presented" "I") ∈ ja_T := ja_g (ja_i1 (List.mem_of_getElem? (i := 188) rfl)) rfl
theorem jw_189 : (Jvm.Cond.fieldLink "CashMachine" (177 : Nat) "CashMachine$Entry" "presented" "I") ∈ ja_T := ja_g (ja_i1 (List.mem_of_getElem? (i := 189) rfl)) rfl
theorem jw_190 : (Jvm.Cond.laysFinal "CashMachine$Entry" "CashMachine$Entry" "trace" "I") ∈ ja_T := ja_g (ja_i1 (List.mem_of_getElem? (i := 190) rfl)) rfl
theorem jw_191 : (Jvm.Cond.soleField "CashMachine$Entry" "trace") ∈ ja_T := ja_g (ja_i1 (List.mem_of_getElem? (i := 191) rfl)) rfl
theorem jw_192 : (Jvm.Cond.lays "CashMachine$Entry" "CashMachine$Entry" "account" "I") ∈ ja_T := ja_g (ja_i1 (List.mem_of_getElem? (i := 192) rfl)) rfl
theorem jw_193 : (Jvm.Cond.soleField "CashMachine$Entry" "account") ∈ ja_T := ja_g (ja_i1 (List.mem_of_getElem? (i := 193) rfl)) rfl
theorem jw_194 : (Jvm.Cond.lays "CashMachine$Entry" "CashMachine$Entry" "amount" "I") ∈ ja_T := ja_g (ja_i1 (List.mem_of_getElem? (i := 194) rfl)) rfl
theorem jw_195 : (Jvm.Cond.soleField "CashMachine$Entry" "amount") ∈ ja_T := ja_g (ja_i1 (List.mem_of_getElem? (i := 195) rfl)) rfl
theorem jw_196 : (Jvm.Cond.lays "CashMachine$Entry" "CashMachine$Entry" "state" "I") ∈ ja_T := ja_g (ja_i1 (List.mem_of_getElem? (i := 196) rfl)) rfl
theorem jw_197 : (Jvm.Cond.soleField "CashMachine$Entry" "state") ∈ ja_T := ja_g (ja_i1 (List.mem_of_getElem? (i := 197) rfl)) rfl
theorem jw_198 : (Jvm.Cond.lays "CashMachine$Entry" "CashMachine$Entry" "presented" "I") ∈ ja_T := ja_g (ja_i1 (List.mem_of_getElem? (i := 198) rfl)) rfl
theorem jw_199 : (Jvm.Cond.soleField "CashMachine$Entry" "presented") ∈ ja_T := ja_g (ja_i1 (List.mem_of_getElem? (i := 199) rfl)) rfl
theorem jw_200 : (Jvm.Cond.superclass "CashMachine$Entry" "java/lang/Object") ∈ ja_T := ja_g (ja_i1 (List.mem_of_getElem? (i := 200) rfl)) rfl
theorem jw_201 : (Jvm.Cond.fieldLink "CashMachine$Journal" (11 : Nat) "CashMachine$Journal" "entries" "[LCashMachine$Entry;") ∈ ja_T := ja_g (ja_i1 (List.mem_of_getElem? (i := 201) rfl)) rfl
theorem jw_202 : (Jvm.Cond.fieldLink "CashMachine" (162 : Nat) "CashMachine$Journal" "entries" "[LCashMachine$Entry;") ∈ ja_T := ja_g (ja_i1 (List.mem_of_getElem? (i := 202) rfl)) rfl
theorem jw_203 : (Jvm.Cond.fieldLink "CashMachine$Journal" (17 : Nat) "CashMachine$Journal" "size" "I") ∈ ja_T := ja_g (ja_i1 (List.mem_of_getElem? (i := 203) rfl)) rfl
theorem jw_204 : (Jvm.Cond.fieldLink "CashMachine" (112 : Nat) "CashMachine$Journal" "size" "I") ∈ ja_T := ja_g (ja_i1 (List.mem_of_getElem? (i := 204) rfl)) rfl
theorem jw_205 : (Jvm.Cond.laysFinal "CashMachine$Journal" "CashMachine$Journal" "entries" "[LCashMachine$Entry;") ∈ ja_T := ja_g (ja_i1 (List.mem_of_getElem? (i := 205) rfl)) rfl
theorem jw_206 : (Jvm.Cond.soleField "CashMachine$Journal" "entries") ∈ ja_T := ja_g (ja_i1 (List.mem_of_getElem? (i := 206) rfl)) rfl
theorem jw_207 : (Jvm.Cond.lays "CashMachine$Journal" "CashMachine$Journal" "size" "I") ∈ ja_T := ja_g (ja_i1 (List.mem_of_getElem? (i := 207) rfl)) rfl
theorem jw_208 : (Jvm.Cond.soleField "CashMachine$Journal" "size") ∈ ja_T := ja_g (ja_i1 (List.mem_of_getElem? (i := 208) rfl)) rfl
theorem jw_209 : (Jvm.Cond.superclass "CashMachine$Journal" "java/lang/Object") ∈ ja_T := ja_g (ja_i1 (List.mem_of_getElem? (i := 209) rfl)) rfl
theorem jw_210 : (Jvm.Cond.classLink "CashMachine" (37 : Nat) "CashMachine$Reversals") ∈ ja_T := ja_g (ja_i1 (List.mem_of_getElem? (i := 210) rfl)) rfl
theorem jw_211 : (Jvm.Cond.instantiable "CashMachine$Reversals" (3 : Nat)) ∈ ja_T := ja_g (ja_i1 (List.mem_of_getElem? (i := 211) rfl)) rfl
theorem jv_212 : (Jvm.Cond.methodLinkNest "CashMachine" (39 : Nat) ({ cls := "CashMachine$Reversals", name := "<init>", desc := "()V" } : Jvm.MethodName) "CashMachine") ∈ lw_tbl := ja_i1 (List.mem_of_getElem? (i := 212) rfl)
theorem jw_213 : (Jvm.Cond.instanceMethod ({ cls := "CashMachine$Reversals", name := "<init>", desc := "()V" } : Jvm.MethodName)) ∈ ja_T := ja_g (ja_i1 (List.mem_of_getElem? (i := 213) rfl)) rfl
theorem jw_214 : (Jvm.Cond.code ({ cls := "CashMachine$Reversals", name := "<init>", desc := "()V" } : Jvm.MethodName) prog_10_method_1_code (1 : Nat) (Option.none : Option Jvm.ClassFile.FieldType)) ∈ ja_T := ja_g (ja_i1 (List.mem_of_getElem? (i := 214) rfl)) rfl
theorem jw_215 : (Jvm.Cond.methodLink "CashMachine$Reversals" (3 : Nat) ({ cls := "java/lang/Object", name := "<init>", desc := "()V" } : Jvm.MethodName)) ∈ ja_T := ja_g (ja_i1 (List.mem_of_getElem? (i := 215) rfl)) rfl
theorem jw_216 : (Jvm.Cond.fieldLink "CashMachine$Reversals" (9 : Nat) "CashMachine$Reversals" "traces" "[I") ∈ ja_T := ja_g (ja_i1 (List.mem_of_getElem? (i := 216) rfl)) rfl
theorem jw_217 : (Jvm.Cond.fieldLink "CashMachine" (236 : Nat) "CashMachine$Reversals" "traces" "[I") ∈ ja_T := ja_g (ja_i1 (List.mem_of_getElem? (i := 217) rfl)) rfl
theorem jw_218 : (Jvm.Cond.fieldLink "CashMachine$Reversals" (15 : Nat) "CashMachine$Reversals" "amounts" "[I") ∈ ja_T := ja_g (ja_i1 (List.mem_of_getElem? (i := 218) rfl)) rfl
theorem jw_219 : (Jvm.Cond.fieldLink "CashMachine" (180 : Nat) "CashMachine$Reversals" "amounts" "[I") ∈ ja_T := ja_g (ja_i1 (List.mem_of_getElem? (i := 219) rfl)) rfl
theorem jw_220 : (Jvm.Cond.fieldLink "CashMachine$Reversals" (18 : Nat) "CashMachine$Reversals" "size" "I") ∈ ja_T := ja_g (ja_i1 (List.mem_of_getElem? (i := 220) rfl)) rfl
theorem jw_221 : (Jvm.Cond.fieldLink "CashMachine" (152 : Nat) "CashMachine$Reversals" "size" "I") ∈ ja_T := ja_g (ja_i1 (List.mem_of_getElem? (i := 221) rfl)) rfl
theorem jw_222 : (Jvm.Cond.laysFinal "CashMachine$Reversals" "CashMachine$Reversals" "traces" "[I") ∈ ja_T := ja_g (ja_i1 (List.mem_of_getElem? (i := 222) rfl)) rfl
theorem jw_223 : (Jvm.Cond.soleField "CashMachine$Reversals" "traces") ∈ ja_T := ja_g (ja_i1 (List.mem_of_getElem? (i := 223) rfl)) rfl
theorem jw_224 : (Jvm.Cond.laysFinal "CashMachine$Reversals" "CashMachine$Reversals" "amounts" "[I") ∈ ja_T := ja_g (ja_i1 (List.mem_of_getElem? (i := 224) rfl)) rfl
theorem jw_225 : (Jvm.Cond.soleField "CashMachine$Reversals" "amounts") ∈ ja_T := ja_g (ja_i1 (List.mem_of_getElem? (i := 225) rfl)) rfl
theorem jw_226 : (Jvm.Cond.lays "CashMachine$Reversals" "CashMachine$Reversals" "size" "I") ∈ ja_T := ja_g (ja_i1 (List.mem_of_getElem? (i := 226) rfl)) rfl
theorem jw_227 : (Jvm.Cond.soleField "CashMachine$Reversals" "size") ∈ ja_T := ja_g (ja_i1 (List.mem_of_getElem? (i := 227) rfl)) rfl
theorem jw_228 : (Jvm.Cond.superclass "CashMachine$Reversals" "java/lang/Object") ∈ ja_T := ja_g (ja_i1 (List.mem_of_getElem? (i := 228) rfl)) rfl
theorem jw_229 : (Jvm.Cond.fieldLink "CashMachine" (10 : Nat) "CashMachine" "host" "LCashMachine$Host;") ∈ ja_T := ja_g (ja_i1 (List.mem_of_getElem? (i := 229) rfl)) rfl
theorem jw_230 : (Jvm.Cond.fieldLink "CashMachine" (19 : Nat) "CashMachine" "line" "LCashMachine$Line;") ∈ ja_T := ja_g (ja_i1 (List.mem_of_getElem? (i := 230) rfl)) rfl
theorem jw_231 : (Jvm.Cond.fieldLink "CashMachine" (26 : Nat) "CashMachine" "dispenser" "LCashMachine$Dispenser;") ∈ ja_T := ja_g (ja_i1 (List.mem_of_getElem? (i := 231) rfl)) rfl
theorem jw_232 : (Jvm.Cond.fieldLink "CashMachine" (33 : Nat) "CashMachine" "journal" "LCashMachine$Journal;") ∈ ja_T := ja_g (ja_i1 (List.mem_of_getElem? (i := 232) rfl)) rfl
theorem jw_233 : (Jvm.Cond.fieldLink "CashMachine" (40 : Nat) "CashMachine" "pending" "LCashMachine$Reversals;") ∈ ja_T := ja_g (ja_i1 (List.mem_of_getElem? (i := 233) rfl)) rfl
theorem jw_234 : (Jvm.Cond.fieldLink "CashMachine" (44 : Nat) "CashMachine" "on" "Z") ∈ ja_T := ja_g (ja_i1 (List.mem_of_getElem? (i := 234) rfl)) rfl
theorem jw_235 : (Jvm.Cond.fieldLink "CashMachine" (48 : Nat) "CashMachine" "session" "I") ∈ ja_T := ja_g (ja_i1 (List.mem_of_getElem? (i := 235) rfl)) rfl
theorem jw_236 : (Jvm.Cond.fieldLink "CashMachine" (52 : Nat) "CashMachine" "verified" "Z") ∈ ja_T := ja_g (ja_i1 (List.mem_of_getElem? (i := 236) rfl)) rfl
theorem jw_237 : (Jvm.Cond.fieldLink "CashMachine" (55 : Nat) "CashMachine" "failurePlace" "I") ∈ ja_T := ja_g (ja_i1 (List.mem_of_getElem? (i := 237) rfl)) rfl
theorem jw_238 : (Jvm.Cond.laysFinal "CashMachine" "CashMachine" "host" "LCashMachine$Host;") ∈ ja_T := ja_g (ja_i1 (List.mem_of_getElem? (i := 238) rfl)) rfl
theorem jw_239 : (Jvm.Cond.soleField "CashMachine" "host") ∈ ja_T := ja_g (ja_i1 (List.mem_of_getElem? (i := 239) rfl)) rfl
theorem jw_240 : (Jvm.Cond.laysFinal "CashMachine" "CashMachine" "line" "LCashMachine$Line;") ∈ ja_T := ja_g (ja_i2 (List.mem_of_getElem? (i := 0) rfl)) rfl
theorem jw_241 : (Jvm.Cond.soleField "CashMachine" "line") ∈ ja_T := ja_g (ja_i2 (List.mem_of_getElem? (i := 1) rfl)) rfl
theorem jw_242 : (Jvm.Cond.laysFinal "CashMachine" "CashMachine" "dispenser" "LCashMachine$Dispenser;") ∈ ja_T := ja_g (ja_i2 (List.mem_of_getElem? (i := 2) rfl)) rfl
theorem jw_243 : (Jvm.Cond.soleField "CashMachine" "dispenser") ∈ ja_T := ja_g (ja_i2 (List.mem_of_getElem? (i := 3) rfl)) rfl
theorem jw_244 : (Jvm.Cond.laysFinal "CashMachine" "CashMachine" "journal" "LCashMachine$Journal;") ∈ ja_T := ja_g (ja_i2 (List.mem_of_getElem? (i := 4) rfl)) rfl
theorem jw_245 : (Jvm.Cond.soleField "CashMachine" "journal") ∈ ja_T := ja_g (ja_i2 (List.mem_of_getElem? (i := 5) rfl)) rfl
theorem jw_246 : (Jvm.Cond.laysFinal "CashMachine" "CashMachine" "pending" "LCashMachine$Reversals;") ∈ ja_T := ja_g (ja_i2 (List.mem_of_getElem? (i := 6) rfl)) rfl
theorem jw_247 : (Jvm.Cond.soleField "CashMachine" "pending") ∈ ja_T := ja_g (ja_i2 (List.mem_of_getElem? (i := 7) rfl)) rfl
theorem jw_248 : (Jvm.Cond.lays "CashMachine" "CashMachine" "on" "Z") ∈ ja_T := ja_g (ja_i2 (List.mem_of_getElem? (i := 8) rfl)) rfl
theorem jw_249 : (Jvm.Cond.soleField "CashMachine" "on") ∈ ja_T := ja_g (ja_i2 (List.mem_of_getElem? (i := 9) rfl)) rfl
theorem jw_250 : (Jvm.Cond.lays "CashMachine" "CashMachine" "session" "I") ∈ ja_T := ja_g (ja_i2 (List.mem_of_getElem? (i := 10) rfl)) rfl
theorem jw_251 : (Jvm.Cond.soleField "CashMachine" "session") ∈ ja_T := ja_g (ja_i2 (List.mem_of_getElem? (i := 11) rfl)) rfl
theorem jw_252 : (Jvm.Cond.lays "CashMachine" "CashMachine" "verified" "Z") ∈ ja_T := ja_g (ja_i2 (List.mem_of_getElem? (i := 12) rfl)) rfl
theorem jw_253 : (Jvm.Cond.soleField "CashMachine" "verified") ∈ ja_T := ja_g (ja_i2 (List.mem_of_getElem? (i := 13) rfl)) rfl
theorem jw_254 : (Jvm.Cond.lays "CashMachine" "CashMachine" "failurePlace" "I") ∈ ja_T := ja_g (ja_i2 (List.mem_of_getElem? (i := 14) rfl)) rfl
theorem jw_255 : (Jvm.Cond.soleField "CashMachine" "failurePlace") ∈ ja_T := ja_g (ja_i2 (List.mem_of_getElem? (i := 15) rfl)) rfl
theorem jw_256 : (Jvm.Cond.superclass "CashMachine" "java/lang/Object") ∈ ja_T := ja_g (ja_i2 (List.mem_of_getElem? (i := 16) rfl)) rfl
theorem jw_257 : (Jvm.Cond.methodLink "CashMachineLaw" (135 : Nat) ({ cls := "CashMachine", name := "difference", desc := "()I" } : Jvm.MethodName)) ∈ ja_T := ja_g (ja_i2 (List.mem_of_getElem? (i := 17) rfl)) rfl
theorem jw_258 : (Jvm.Cond.instanceMethod ({ cls := "CashMachine", name := "difference", desc := "()I" } : Jvm.MethodName)) ∈ ja_T := ja_g (ja_i2 (List.mem_of_getElem? (i := 18) rfl)) rfl
theorem jw_259 : (Jvm.Cond.selects "CashMachine" ({ cls := "CashMachine", name := "difference", desc := "()I" } : Jvm.MethodName) ({ cls := "CashMachine", name := "difference", desc := "()I" } : Jvm.MethodName)) ∈ ja_T := ja_g (ja_i2 (List.mem_of_getElem? (i := 19) rfl)) rfl
theorem jw_260 : (Jvm.Cond.code ({ cls := "CashMachine", name := "difference", desc := "()I" } : Jvm.MethodName) prog_1_method_18_code (1 : Nat) (Option.some Jvm.ClassFile.FieldType.int)) ∈ ja_T := ja_g (ja_i2 (List.mem_of_getElem? (i := 20) rfl)) rfl
theorem jw_261 : (Jvm.Cond.methodLink "CashMachine" (192 : Nat) ({ cls := "CashMachine$Host", name := "takenFromBalances", desc := "()I" } : Jvm.MethodName)) ∈ ja_T := ja_g (ja_i2 (List.mem_of_getElem? (i := 21) rfl)) rfl
theorem jw_262 : (Jvm.Cond.instanceMethod ({ cls := "CashMachine$Host", name := "takenFromBalances", desc := "()I" } : Jvm.MethodName)) ∈ ja_T := ja_g (ja_i2 (List.mem_of_getElem? (i := 22) rfl)) rfl
theorem jw_263 : (Jvm.Cond.selects "CashMachine$Host" ({ cls := "CashMachine$Host", name := "takenFromBalances", desc := "()I" } : Jvm.MethodName) ({ cls := "CashMachine$Host", name := "takenFromBalances", desc := "()I" } : Jvm.MethodName)) ∈ ja_T := ja_g (ja_i2 (List.mem_of_getElem? (i := 23) rfl)) rfl
theorem jw_264 : (Jvm.Cond.code ({ cls := "CashMachine$Host", name := "takenFromBalances", desc := "()I" } : Jvm.MethodName) prog_6_method_9_code (6 : Nat) (Option.some Jvm.ClassFile.FieldType.int)) ∈ ja_T := ja_g (ja_i2 (List.mem_of_getElem? (i := 24) rfl)) rfl
theorem jw_265 : (Jvm.Cond.methodLink "CashMachineLaw" (78 : Nat) ({ cls := "CashMachineLaw", name := "open", desc := "(LCashMachine;III[J)I" } : Jvm.MethodName)) ∈ ja_T := ja_g (ja_i2 (List.mem_of_getElem? (i := 25) rfl)) rfl
theorem jw_266 : (Jvm.Cond.static ({ cls := "CashMachineLaw", name := "open", desc := "(LCashMachine;III[J)I" } : Jvm.MethodName)) ∈ ja_T := ja_g (ja_i2 (List.mem_of_getElem? (i := 26) rfl)) rfl
theorem jw_267 : (Jvm.Cond.codeWith ({ cls := "CashMachineLaw", name := "open", desc := "(LCashMachine;III[J)I" } : Jvm.MethodName) method_3_code (6 : Nat) (Option.some Jvm.ClassFile.FieldType.int) [((0 : Nat), (12 : Nat), (15 : Nat), (13 : Nat)), ((0 : Nat), (12 : Nat), (19 : Nat), (15 : Nat))]) ∈ ja_T := ja_g (ja_i2 (List.mem_of_getElem? (i := 27) rfl)) rfl
theorem jw_268 : (Jvm.Cond.classLink "CashMachineLaw" (13 : Nat) "java/lang/IllegalArgumentException") ∈ ja_T := ja_g (ja_i2 (List.mem_of_getElem? (i := 28) rfl)) rfl
theorem jw_269 : (Jvm.Cond.classLink "CashMachineLaw" (15 : Nat) "java/lang/IllegalStateException") ∈ ja_T := ja_g (ja_i2 (List.mem_of_getElem? (i := 29) rfl)) rfl
theorem jw_270 : (Jvm.Cond.methodLink "CashMachineLaw" (7 : Nat) ({ cls := "CashMachine", name := "open", desc := "(III)I" } : Jvm.MethodName)) ∈ ja_T := ja_g (ja_i2 (List.mem_of_getElem? (i := 30) rfl)) rfl
theorem jw_271 : (Jvm.Cond.instanceMethod ({ cls := "CashMachine", name := "open", desc := "(III)I" } : Jvm.MethodName)) ∈ ja_T := ja_g (ja_i2 (List.mem_of_getElem? (i := 31) rfl)) rfl
theorem jw_272 : (Jvm.Cond.selects "CashMachine" ({ cls := "CashMachine", name := "open", desc := "(III)I" } : Jvm.MethodName) ({ cls := "CashMachine", name := "open", desc := "(III)I" } : Jvm.MethodName)) ∈ ja_T := ja_g (ja_i2 (List.mem_of_getElem? (i := 32) rfl)) rfl
theorem jw_273 : (Jvm.Cond.code ({ cls := "CashMachine", name := "open", desc := "(III)I" } : Jvm.MethodName) prog_1_method_2_code (4 : Nat) (Option.some Jvm.ClassFile.FieldType.int)) ∈ ja_T := ja_g (ja_i2 (List.mem_of_getElem? (i := 33) rfl)) rfl
theorem jw_274 : (Jvm.Cond.methodLink "CashMachine" (58 : Nat) ({ cls := "CashMachine", name := "isWithin", desc := "(III)Z" } : Jvm.MethodName)) ∈ ja_T := ja_g (ja_i2 (List.mem_of_getElem? (i := 34) rfl)) rfl
theorem jw_275 : (Jvm.Cond.static ({ cls := "CashMachine", name := "isWithin", desc := "(III)Z" } : Jvm.MethodName)) ∈ ja_T := ja_g (ja_i2 (List.mem_of_getElem? (i := 35) rfl)) rfl
theorem jw_276 : (Jvm.Cond.code ({ cls := "CashMachine", name := "isWithin", desc := "(III)Z" } : Jvm.MethodName) prog_1_method_20_code (3 : Nat) (Option.some Jvm.ClassFile.FieldType.boolean)) ∈ ja_T := ja_g (ja_i2 (List.mem_of_getElem? (i := 36) rfl)) rfl
theorem jw_277 : (Jvm.Cond.constant "CashMachine" (62 : Nat) (1000000 : Int32)) ∈ ja_T := ja_g (ja_i2 (List.mem_of_getElem? (i := 37) rfl)) rfl
theorem jw_278 : (Jvm.Cond.classLink "CashMachine" (63 : Nat) "java/lang/IllegalArgumentException") ∈ ja_T := ja_g (ja_i2 (List.mem_of_getElem? (i := 38) rfl)) rfl
theorem jw_279 : (Jvm.Cond.instantiable "java/lang/IllegalArgumentException" (6 : Nat)) ∈ ja_T := ja_g (ja_i2 (List.mem_of_getElem? (i := 39) rfl)) rfl
theorem jv_280 : (Jvm.Cond.castable "java/lang/IllegalArgumentException" "java/lang/IllegalArgumentException") ∈ lw_tbl := ja_i2 (List.mem_of_getElem? (i := 40) rfl)
theorem jv_281 : (Jvm.Cond.declares ({ cls := "java/lang/RuntimeException", name := "<init>", desc := "()V" } : Jvm.MethodName)) ∈ lw_tbl := ja_i2 (List.mem_of_getElem? (i := 41) rfl)
theorem jv_282 : (Jvm.Cond.declares ({ cls := "java/lang/RuntimeException", name := "<init>", desc := "(Ljava/lang/String;)V" } : Jvm.MethodName)) ∈ lw_tbl := ja_i2 (List.mem_of_getElem? (i := 42) rfl)
theorem jv_283 : (Jvm.Cond.declares ({ cls := "java/lang/Exception", name := "<init>", desc := "()V" } : Jvm.MethodName)) ∈ lw_tbl := ja_i2 (List.mem_of_getElem? (i := 43) rfl)
theorem jv_284 : (Jvm.Cond.declares ({ cls := "java/lang/Exception", name := "<init>", desc := "(Ljava/lang/String;)V" } : Jvm.MethodName)) ∈ lw_tbl := ja_i2 (List.mem_of_getElem? (i := 44) rfl)
theorem jv_285 : (Jvm.Cond.declares ({ cls := "java/lang/Throwable", name := "<init>", desc := "()V" } : Jvm.MethodName)) ∈ lw_tbl := ja_i2 (List.mem_of_getElem? (i := 45) rfl)
theorem jv_286 : (Jvm.Cond.declares ({ cls := "java/lang/Throwable", name := "<init>", desc := "(Ljava/lang/String;)V" } : Jvm.MethodName)) ∈ lw_tbl := ja_i2 (List.mem_of_getElem? (i := 46) rfl)
theorem jw_287 : (Jvm.Cond.selects "java/lang/IllegalArgumentException" ({ cls := "java/lang/Throwable", name := "fillInStackTrace", desc := "(I)Ljava/lang/Throwable;" } : Jvm.MethodName) ({ cls := "java/lang/Throwable", name := "fillInStackTrace", desc := "(I)Ljava/lang/Throwable;" } : Jvm.MethodName)) ∈ ja_T := ja_g (ja_i2 (List.mem_of_getElem? (i := 47) rfl)) rfl
theorem jw_288 : (Jvm.Cond.selects "java/lang/IllegalArgumentException" ({ cls := "java/lang/Throwable", name := "fillInStackTrace", desc := "()Ljava/lang/Throwable;" } : Jvm.MethodName) ({ cls := "java/lang/Throwable", name := "fillInStackTrace", desc := "()Ljava/lang/Throwable;" } : Jvm.MethodName)) ∈ ja_T := ja_g (ja_i2 (List.mem_of_getElem? (i := 48) rfl)) rfl
theorem jw_289 : (Jvm.Cond.lays "java/lang/IllegalArgumentException" "java/lang/Throwable" "cause" "Ljava/lang/Throwable;") ∈ ja_T := ja_g (ja_i2 (List.mem_of_getElem? (i := 49) rfl)) rfl
theorem jw_290 : (Jvm.Cond.lays "java/lang/Throwable" "java/lang/Throwable" "cause" "Ljava/lang/Throwable;") ∈ ja_T := ja_g (ja_i2 (List.mem_of_getElem? (i := 50) rfl)) rfl
theorem jw_291 : (Jvm.Cond.lays "java/lang/IllegalArgumentException" "java/lang/Throwable" "stackTrace" "[Ljava/lang/StackTraceElement;") ∈ ja_T := ja_g (ja_i2 (List.mem_of_getElem? (i := 51) rfl)) rfl
theorem jw_292 : (Jvm.Cond.lays "java/lang/Throwable" "java/lang/Throwable" "stackTrace" "[Ljava/lang/StackTraceElement;") ∈ ja_T := ja_g (ja_i2 (List.mem_of_getElem? (i := 52) rfl)) rfl
theorem jw_293 : (Jvm.Cond.lays "java/lang/IllegalArgumentException" "java/lang/Throwable" "suppressedExceptions" "Ljava/util/List;") ∈ ja_T := ja_g (ja_i2 (List.mem_of_getElem? (i := 53) rfl)) rfl
theorem jw_294 : (Jvm.Cond.lays "java/lang/Throwable" "java/lang/Throwable" "suppressedExceptions" "Ljava/util/List;") ∈ ja_T := ja_g (ja_i2 (List.mem_of_getElem? (i := 54) rfl)) rfl
theorem jw_295 : (Jvm.Cond.lays "java/lang/IllegalArgumentException" "java/lang/Throwable" "detailMessage" "Ljava/lang/String;") ∈ ja_T := ja_g (ja_i2 (List.mem_of_getElem? (i := 55) rfl)) rfl
theorem jw_296 : (Jvm.Cond.lays "java/lang/Throwable" "java/lang/Throwable" "detailMessage" "Ljava/lang/String;") ∈ ja_T := ja_g (ja_i2 (List.mem_of_getElem? (i := 56) rfl)) rfl
theorem jw_297 : (Jvm.Cond.lays "java/lang/IllegalArgumentException" "java/lang/Throwable" "backtrace" "Ljava/lang/Object;") ∈ ja_T := ja_g (ja_i2 (List.mem_of_getElem? (i := 57) rfl)) rfl
theorem jw_298 : (Jvm.Cond.lays "java/lang/Throwable" "java/lang/Throwable" "backtrace" "Ljava/lang/Object;") ∈ ja_T := ja_g (ja_i2 (List.mem_of_getElem? (i := 58) rfl)) rfl
theorem jw_299 : (Jvm.Cond.fieldLink "java/lang/Throwable" (198 : Nat) "java/lang/Throwable" "backtrace" "Ljava/lang/Object;") ∈ ja_T := ja_g (ja_i2 (List.mem_of_getElem? (i := 59) rfl)) rfl
theorem jw_300 : (Jvm.Cond.superclass "java/lang/Throwable" "java/lang/Object") ∈ ja_T := ja_g (ja_i2 (List.mem_of_getElem? (i := 60) rfl)) rfl
theorem jw_301 : (Jvm.Cond.instanceMethod ({ cls := "java/lang/Throwable", name := "<init>", desc := "()V" } : Jvm.MethodName)) ∈ ja_T := ja_g (ja_i2 (List.mem_of_getElem? (i := 61) rfl)) rfl
theorem jw_302 : (Jvm.Cond.code ({ cls := "java/lang/Throwable", name := "<init>", desc := "()V" } : Jvm.MethodName) prog_20_method_1_code (1 : Nat) (Option.none : Option Jvm.ClassFile.FieldType)) ∈ ja_T := ja_g (ja_i2 (List.mem_of_getElem? (i := 62) rfl)) rfl
theorem jw_303 : (Jvm.Cond.methodLink "java/lang/Throwable" (1 : Nat) ({ cls := "java/lang/Object", name := "<init>", desc := "()V" } : Jvm.MethodName)) ∈ ja_T := ja_g (ja_i2 (List.mem_of_getElem? (i := 63) rfl)) rfl
theorem jw_304 : (Jvm.Cond.fieldLink "java/lang/Throwable" (13 : Nat) "java/lang/Throwable" "UNASSIGNED_STACK" "[Ljava/lang/StackTraceElement;") ∈ ja_T := ja_g (ja_i2 (List.mem_of_getElem? (i := 64) rfl)) rfl
theorem jv_305 : (Jvm.Cond.laysStatic "java/lang/Throwable" "UNASSIGNED_STACK" "[Ljava/lang/StackTraceElement;") ∈ lw_tbl := ja_i2 (List.mem_of_getElem? (i := 65) rfl)
theorem jw_306 : (Jvm.Cond.fieldLink "java/lang/Throwable" (20 : Nat) "java/lang/Throwable" "SUPPRESSED_SENTINEL" "Ljava/util/List;") ∈ ja_T := ja_g (ja_i2 (List.mem_of_getElem? (i := 66) rfl)) rfl
theorem jv_307 : (Jvm.Cond.laysStatic "java/lang/Throwable" "SUPPRESSED_SENTINEL" "Ljava/util/List;") ∈ lw_tbl := ja_i2 (List.mem_of_getElem? (i := 67) rfl)
theorem jw_308 : (Jvm.Cond.methodLink "java/lang/Throwable" (27 : Nat) ({ cls := "java/lang/Throwable", name := "fillInStackTrace", desc := "()Ljava/lang/Throwable;" } : Jvm.MethodName)) ∈ ja_T := ja_g (ja_i2 (List.mem_of_getElem? (i := 68) rfl)) rfl
theorem jw_309 : (Jvm.Cond.instanceMethod ({ cls := "java/lang/Throwable", name := "fillInStackTrace", desc := "()Ljava/lang/Throwable;" } : Jvm.MethodName)) ∈ ja_T := ja_g (ja_i2 (List.mem_of_getElem? (i := 69) rfl)) rfl
theorem jw_310 : (Jvm.Cond.sameMethod "java/lang/Throwable" "java/lang/Throwable" "fillInStackTrace" "()Ljava/lang/Throwable;") ∈ ja_T := ja_g (ja_i2 (List.mem_of_getElem? (i := 70) rfl)) rfl
theorem jw_311 : (Jvm.Cond.selects "java/lang/IllegalStateException" ({ cls := "java/lang/Throwable", name := "fillInStackTrace", desc := "()Ljava/lang/Throwable;" } : Jvm.MethodName) ({ cls := "java/lang/Throwable", name := "fillInStackTrace", desc := "()Ljava/lang/Throwable;" } : Jvm.MethodName)) ∈ ja_T := ja_g (ja_i2 (List.mem_of_getElem? (i := 71) rfl)) rfl
theorem jw_312 : (Jvm.Cond.selects "java/lang/IndexOutOfBoundsException" ({ cls := "java/lang/Throwable", name := "fillInStackTrace", desc := "()Ljava/lang/Throwable;" } : Jvm.MethodName) ({ cls := "java/lang/Throwable", name := "fillInStackTrace", desc := "()Ljava/lang/Throwable;" } : Jvm.MethodName)) ∈ ja_T := ja_g (ja_i2 (List.mem_of_getElem? (i := 72) rfl)) rfl
theorem jw_313 : (Jvm.Cond.selects "java/lang/UnsupportedOperationException" ({ cls := "java/lang/Throwable", name := "fillInStackTrace", desc := "()Ljava/lang/Throwable;" } : Jvm.MethodName) ({ cls := "java/lang/Throwable", name := "fillInStackTrace", desc := "()Ljava/lang/Throwable;" } : Jvm.MethodName)) ∈ ja_T := ja_g (ja_i2 (List.mem_of_getElem? (i := 73) rfl)) rfl
theorem jw_314 : (Jvm.Cond.selects "java/util/NoSuchElementException" ({ cls := "java/lang/Throwable", name := "fillInStackTrace", desc := "()Ljava/lang/Throwable;" } : Jvm.MethodName) ({ cls := "java/lang/Throwable", name := "fillInStackTrace", desc := "()Ljava/lang/Throwable;" } : Jvm.MethodName)) ∈ ja_T := ja_g (ja_i2 (List.mem_of_getElem? (i := 74) rfl)) rfl
theorem jw_315 : (Jvm.Cond.codeSync ({ cls := "java/lang/Throwable", name := "fillInStackTrace", desc := "()Ljava/lang/Throwable;" } : Jvm.MethodName) prog_20_method_18_code (1 : Nat) (Option.some (Jvm.ClassFile.FieldType.object "java/lang/Throwable"))) ∈ ja_T := ja_g (ja_i2 (List.mem_of_getElem? (i := 75) rfl)) rfl
theorem jw_316 : (Jvm.Cond.methodLink "java/lang/Throwable" (202 : Nat) ({ cls := "java/lang/Throwable", name := "fillInStackTrace", desc := "(I)Ljava/lang/Throwable;" } : Jvm.MethodName)) ∈ ja_T := ja_g (ja_i2 (List.mem_of_getElem? (i := 76) rfl)) rfl
theorem jv_317 : (Jvm.Cond.privateMethod ({ cls := "java/lang/Throwable", name := "fillInStackTrace", desc := "(I)Ljava/lang/Throwable;" } : Jvm.MethodName)) ∈ lw_tbl := ja_i2 (List.mem_of_getElem? (i := 77) rfl)
theorem jw_318 : (Jvm.Cond.instanceMethod ({ cls := "java/lang/Throwable", name := "fillInStackTrace", desc := "(I)Ljava/lang/Throwable;" } : Jvm.MethodName)) ∈ ja_T := ja_g (ja_i2 (List.mem_of_getElem? (i := 78) rfl)) rfl
theorem jw_319 : (Jvm.Cond.instantiable "java/lang/Throwable" (6 : Nat)) ∈ ja_T := ja_g (ja_i2 (List.mem_of_getElem? (i := 79) rfl)) rfl
theorem jw_320 : (Jvm.Cond.native ({ cls := "java/lang/Throwable", name := "fillInStackTrace", desc := "(I)Ljava/lang/Throwable;" } : Jvm.MethodName)) ∈ ja_T := ja_g (ja_i2 (List.mem_of_getElem? (i := 80) rfl)) rfl
theorem jw_321 : (Jvm.Cond.methodLink "CashMachine" (65 : Nat) ({ cls := "java/lang/IllegalArgumentException", name := "<init>", desc := "()V" } : Jvm.MethodName)) ∈ ja_T := ja_g (ja_i2 (List.mem_of_getElem? (i := 81) rfl)) rfl
theorem jw_322 : (Jvm.Cond.instanceMethod ({ cls := "java/lang/IllegalArgumentException", name := "<init>", desc := "()V" } : Jvm.MethodName)) ∈ ja_T := ja_g (ja_i2 (List.mem_of_getElem? (i := 82) rfl)) rfl
theorem jw_323 : (Jvm.Cond.code ({ cls := "java/lang/IllegalArgumentException", name := "<init>", desc := "()V" } : Jvm.MethodName) prog_14_method_1_code (1 : Nat) (Option.none : Option Jvm.ClassFile.FieldType)) ∈ ja_T := ja_g (ja_i2 (List.mem_of_getElem? (i := 83) rfl)) rfl
theorem jw_324 : (Jvm.Cond.methodLink "java/lang/IllegalArgumentException" (1 : Nat) ({ cls := "java/lang/RuntimeException", name := "<init>", desc := "()V" } : Jvm.MethodName)) ∈ ja_T := ja_g (ja_i2 (List.mem_of_getElem? (i := 84) rfl)) rfl
theorem jw_325 : (Jvm.Cond.instanceMethod ({ cls := "java/lang/RuntimeException", name := "<init>", desc := "()V" } : Jvm.MethodName)) ∈ ja_T := ja_g (ja_i2 (List.mem_of_getElem? (i := 85) rfl)) rfl
theorem jw_326 : (Jvm.Cond.code ({ cls := "java/lang/RuntimeException", name := "<init>", desc := "()V" } : Jvm.MethodName) prog_18_method_1_code (1 : Nat) (Option.none : Option Jvm.ClassFile.FieldType)) ∈ ja_T := ja_g (ja_i2 (List.mem_of_getElem? (i := 86) rfl)) rfl
theorem jw_327 : (Jvm.Cond.methodLink "java/lang/RuntimeException" (1 : Nat) ({ cls := "java/lang/Exception", name := "<init>", desc := "()V" } : Jvm.MethodName)) ∈ ja_T := ja_g (ja_i2 (List.mem_of_getElem? (i := 87) rfl)) rfl
theorem jw_328 : (Jvm.Cond.instanceMethod ({ cls := "java/lang/Exception", name := "<init>", desc := "()V" } : Jvm.MethodName)) ∈ ja_T := ja_g (ja_i2 (List.mem_of_getElem? (i := 88) rfl)) rfl
theorem jw_329 : (Jvm.Cond.code ({ cls := "java/lang/Exception", name := "<init>", desc := "()V" } : Jvm.MethodName) prog_13_method_1_code (1 : Nat) (Option.none : Option Jvm.ClassFile.FieldType)) ∈ ja_T := ja_g (ja_i2 (List.mem_of_getElem? (i := 89) rfl)) rfl
theorem jw_330 : (Jvm.Cond.methodLink "java/lang/Exception" (1 : Nat) ({ cls := "java/lang/Throwable", name := "<init>", desc := "()V" } : Jvm.MethodName)) ∈ ja_T := ja_g (ja_i2 (List.mem_of_getElem? (i := 90) rfl)) rfl
theorem jw_331 : (Jvm.Cond.fieldLink "java/lang/Throwable" (198 : Nat) "java/lang/Throwable" "backtrace" "Ljava/lang/Object;") ∈ ja_T := ja_g (ja_i2 (List.mem_of_getElem? (i := 91) rfl)) rfl
theorem jw_332 : (Jvm.Cond.fieldLink "java/lang/Throwable" (7 : Nat) "java/lang/Throwable" "cause" "Ljava/lang/Throwable;") ∈ ja_T := ja_g (ja_i2 (List.mem_of_getElem? (i := 92) rfl)) rfl
theorem jw_333 : (Jvm.Cond.fieldLink "java/lang/Throwable" (17 : Nat) "java/lang/Throwable" "stackTrace" "[Ljava/lang/StackTraceElement;") ∈ ja_T := ja_g (ja_i2 (List.mem_of_getElem? (i := 93) rfl)) rfl
theorem jw_334 : (Jvm.Cond.fieldLink "java/lang/Throwable" (24 : Nat) "java/lang/Throwable" "suppressedExceptions" "Ljava/util/List;") ∈ ja_T := ja_g (ja_i2 (List.mem_of_getElem? (i := 94) rfl)) rfl
theorem jw_335 : (Jvm.Cond.soleField "java/lang/Throwable" "backtrace") ∈ ja_T := ja_g (ja_i2 (List.mem_of_getElem? (i := 95) rfl)) rfl
theorem jw_336 : (Jvm.Cond.soleField "java/lang/Throwable" "detailMessage") ∈ ja_T := ja_g (ja_i2 (List.mem_of_getElem? (i := 96) rfl)) rfl
theorem jw_337 : (Jvm.Cond.soleField "java/lang/Throwable" "cause") ∈ ja_T := ja_g (ja_i2 (List.mem_of_getElem? (i := 97) rfl)) rfl
theorem jw_338 : (Jvm.Cond.soleField "java/lang/Throwable" "stackTrace") ∈ ja_T := ja_g (ja_i2 (List.mem_of_getElem? (i := 98) rfl)) rfl
theorem jw_339 : (Jvm.Cond.lays "java/lang/IllegalArgumentException" "java/lang/Throwable" "depth" "I") ∈ ja_T := ja_g (ja_i2 (List.mem_of_getElem? (i := 99) rfl)) rfl
theorem jw_340 : (Jvm.Cond.soleField "java/lang/Throwable" "depth") ∈ ja_T := ja_g (ja_i2 (List.mem_of_getElem? (i := 100) rfl)) rfl
theorem jw_341 : (Jvm.Cond.soleField "java/lang/Throwable" "suppressedExceptions") ∈ ja_T := ja_g (ja_i2 (List.mem_of_getElem? (i := 101) rfl)) rfl
theorem jw_342 : (Jvm.Cond.superclass "java/lang/IllegalArgumentException" "java/lang/RuntimeException") ∈ ja_T := ja_g (ja_i2 (List.mem_of_getElem? (i := 102) rfl)) rfl
theorem jw_343 : (Jvm.Cond.methodLink "CashMachine" (66 : Nat) ({ cls := "CashMachine$Host", name := "isOpen", desc := "(I)Z" } : Jvm.MethodName)) ∈ ja_T := ja_g (ja_i2 (List.mem_of_getElem? (i := 103) rfl)) rfl
theorem jw_344 : (Jvm.Cond.instanceMethod ({ cls := "CashMachine$Host", name := "isOpen", desc := "(I)Z" } : Jvm.MethodName)) ∈ ja_T := ja_g (ja_i2 (List.mem_of_getElem? (i := 104) rfl)) rfl
theorem jw_345 : (Jvm.Cond.selects "CashMachine$Host" ({ cls := "CashMachine$Host", name := "isOpen", desc := "(I)Z" } : Jvm.MethodName) ({ cls := "CashMachine$Host", name := "isOpen", desc := "(I)Z" } : Jvm.MethodName)) ∈ ja_T := ja_g (ja_i2 (List.mem_of_getElem? (i := 105) rfl)) rfl
theorem jw_346 : (Jvm.Cond.code ({ cls := "CashMachine$Host", name := "isOpen", desc := "(I)Z" } : Jvm.MethodName) prog_6_method_2_code (2 : Nat) (Option.some Jvm.ClassFile.FieldType.boolean)) ∈ ja_T := ja_g (ja_i2 (List.mem_of_getElem? (i := 106) rfl)) rfl
theorem jv_347 : (Jvm.Cond.methodLinkNest "CashMachine$Host" (29 : Nat) ({ cls := "CashMachine", name := "isWithin", desc := "(III)Z" } : Jvm.MethodName) "CashMachine") ∈ lw_tbl := ja_i2 (List.mem_of_getElem? (i := 107) rfl)
theorem jw_348 : (Jvm.Cond.classLink "CashMachine" (70 : Nat) "java/lang/IllegalStateException") ∈ ja_T := ja_g (ja_i2 (List.mem_of_getElem? (i := 108) rfl)) rfl
theorem jw_349 : (Jvm.Cond.instantiable "java/lang/IllegalStateException" (6 : Nat)) ∈ ja_T := ja_g (ja_i2 (List.mem_of_getElem? (i := 109) rfl)) rfl
theorem jv_350 : (Jvm.Cond.castable "java/lang/IllegalStateException" "java/lang/IllegalStateException") ∈ lw_tbl := ja_i2 (List.mem_of_getElem? (i := 110) rfl)
theorem jw_351 : (Jvm.Cond.selects "java/lang/IllegalStateException" ({ cls := "java/lang/Throwable", name := "fillInStackTrace", desc := "(I)Ljava/lang/Throwable;" } : Jvm.MethodName) ({ cls := "java/lang/Throwable", name := "fillInStackTrace", desc := "(I)Ljava/lang/Throwable;" } : Jvm.MethodName)) ∈ ja_T := ja_g (ja_i2 (List.mem_of_getElem? (i := 111) rfl)) rfl
theorem jw_352 : (Jvm.Cond.lays "java/lang/IllegalStateException" "java/lang/Throwable" "cause" "Ljava/lang/Throwable;") ∈ ja_T := ja_g (ja_i2 (List.mem_of_getElem? (i := 112) rfl)) rfl
theorem jw_353 : (Jvm.Cond.lays "java/lang/IllegalStateException" "java/lang/Throwable" "stackTrace" "[Ljava/lang/StackTraceElement;") ∈ ja_T := ja_g (ja_i2 (List.mem_of_getElem? (i := 113) rfl)) rfl
theorem jw_354 : (Jvm.Cond.lays "java/lang/IllegalStateException" "java/lang/Throwable" "suppressedExceptions" "Ljava/util/List;") ∈ ja_T := ja_g (ja_i2 (List.mem_of_getElem? (i := 114) rfl)) rfl
theorem jw_355 : (Jvm.Cond.lays "java/lang/IllegalStateException" "java/lang/Throwable" "detailMessage" "Ljava/lang/String;") ∈ ja_T := ja_g (ja_i2 (List.mem_of_getElem? (i := 115) rfl)) rfl
theorem jw_356 : (Jvm.Cond.lays "java/lang/IllegalStateException" "java/lang/Throwable" "backtrace" "Ljava/lang/Object;") ∈ ja_T := ja_g (ja_i2 (List.mem_of_getElem? (i := 116) rfl)) rfl
theorem jw_357 : (Jvm.Cond.methodLink "CashMachine" (72 : Nat) ({ cls := "java/lang/IllegalStateException", name := "<init>", desc := "()V" } : Jvm.MethodName)) ∈ ja_T := ja_g (ja_i2 (List.mem_of_getElem? (i := 117) rfl)) rfl
theorem jw_358 : (Jvm.Cond.instanceMethod ({ cls := "java/lang/IllegalStateException", name := "<init>", desc := "()V" } : Jvm.MethodName)) ∈ ja_T := ja_g (ja_i2 (List.mem_of_getElem? (i := 118) rfl)) rfl
theorem jw_359 : (Jvm.Cond.code ({ cls := "java/lang/IllegalStateException", name := "<init>", desc := "()V" } : Jvm.MethodName) prog_15_method_1_code (1 : Nat) (Option.none : Option Jvm.ClassFile.FieldType)) ∈ ja_T := ja_g (ja_i2 (List.mem_of_getElem? (i := 119) rfl)) rfl
theorem jw_360 : (Jvm.Cond.methodLink "java/lang/IllegalStateException" (1 : Nat) ({ cls := "java/lang/RuntimeException", name := "<init>", desc := "()V" } : Jvm.MethodName)) ∈ ja_T := ja_g (ja_i2 (List.mem_of_getElem? (i := 120) rfl)) rfl
theorem jw_361 : (Jvm.Cond.lays "java/lang/IllegalStateException" "java/lang/Throwable" "depth" "I") ∈ ja_T := ja_g (ja_i2 (List.mem_of_getElem? (i := 121) rfl)) rfl
theorem jw_362 : (Jvm.Cond.superclass "java/lang/IllegalStateException" "java/lang/RuntimeException") ∈ ja_T := ja_g (ja_i2 (List.mem_of_getElem? (i := 122) rfl)) rfl
theorem jw_363 : (Jvm.Cond.methodLink "CashMachine" (73 : Nat) ({ cls := "CashMachine$Host", name := "openAccount", desc := "(III)V" } : Jvm.MethodName)) ∈ ja_T := ja_g (ja_i2 (List.mem_of_getElem? (i := 123) rfl)) rfl
theorem jw_364 : (Jvm.Cond.instanceMethod ({ cls := "CashMachine$Host", name := "openAccount", desc := "(III)V" } : Jvm.MethodName)) ∈ ja_T := ja_g (ja_i2 (List.mem_of_getElem? (i := 124) rfl)) rfl
theorem jw_365 : (Jvm.Cond.selects "CashMachine$Host" ({ cls := "CashMachine$Host", name := "openAccount", desc := "(III)V" } : Jvm.MethodName) ({ cls := "CashMachine$Host", name := "openAccount", desc := "(III)V" } : Jvm.MethodName)) ∈ ja_T := ja_g (ja_i2 (List.mem_of_getElem? (i := 125) rfl)) rfl
theorem jw_366 : (Jvm.Cond.code ({ cls := "CashMachine$Host", name := "openAccount", desc := "(III)V" } : Jvm.MethodName) prog_6_method_3_code (5 : Nat) (Option.none : Option Jvm.ClassFile.FieldType)) ∈ ja_T := ja_g (ja_i2 (List.mem_of_getElem? (i := 126) rfl)) rfl
theorem jw_367 : (Jvm.Cond.methodLink "CashMachine" (77 : Nat) ({ cls := "CashMachine$Host", name := "openAccounts", desc := "()I" } : Jvm.MethodName)) ∈ ja_T := ja_g (ja_i2 (List.mem_of_getElem? (i := 127) rfl)) rfl
theorem jw_368 : (Jvm.Cond.instanceMethod ({ cls := "CashMachine$Host", name := "openAccounts", desc := "()I" } : Jvm.MethodName)) ∈ ja_T := ja_g (ja_i2 (List.mem_of_getElem? (i := 128) rfl)) rfl
theorem jw_369 : (Jvm.Cond.selects "CashMachine$Host" ({ cls := "CashMachine$Host", name := "openAccounts", desc := "()I" } : Jvm.MethodName) ({ cls := "CashMachine$Host", name := "openAccounts", desc := "()I" } : Jvm.MethodName)) ∈ ja_T := ja_g (ja_i2 (List.mem_of_getElem? (i := 129) rfl)) rfl
theorem jw_370 : (Jvm.Cond.code ({ cls := "CashMachine$Host", name := "openAccounts", desc := "()I" } : Jvm.MethodName) prog_6_method_7_code (6 : Nat) (Option.some Jvm.ClassFile.FieldType.int)) ∈ ja_T := ja_g (ja_i2 (List.mem_of_getElem? (i := 130) rfl)) rfl
theorem jw_371 : (Jvm.Cond.methodLink "CashMachineLaw" (87 : Nat) ({ cls := "CashMachineLaw", name := "load", desc := "(LCashMachine;III[J)I" } : Jvm.MethodName)) ∈ ja_T := ja_g (ja_i2 (List.mem_of_getElem? (i := 131) rfl)) rfl
theorem jw_372 : (Jvm.Cond.static ({ cls := "CashMachineLaw", name := "load", desc := "(LCashMachine;III[J)I" } : Jvm.MethodName)) ∈ ja_T := ja_g (ja_i2 (List.mem_of_getElem? (i := 132) rfl)) rfl
theorem jw_373 : (Jvm.Cond.codeWith ({ cls := "CashMachineLaw", name := "load", desc := "(LCashMachine;III[J)I" } : Jvm.MethodName) method_4_code (6 : Nat) (Option.some Jvm.ClassFile.FieldType.int) [((0 : Nat), (12 : Nat), (15 : Nat), (13 : Nat)), ((0 : Nat), (12 : Nat), (19 : Nat), (15 : Nat))]) ∈ ja_T := ja_g (ja_i2 (List.mem_of_getElem? (i := 133) rfl)) rfl
theorem jw_374 : (Jvm.Cond.methodLink "CashMachineLaw" (17 : Nat) ({ cls := "CashMachine", name := "load", desc := "(III)I" } : Jvm.MethodName)) ∈ ja_T := ja_g (ja_i2 (List.mem_of_getElem? (i := 134) rfl)) rfl
theorem jw_375 : (Jvm.Cond.instanceMethod ({ cls := "CashMachine", name := "load", desc := "(III)I" } : Jvm.MethodName)) ∈ ja_T := ja_g (ja_i2 (List.mem_of_getElem? (i := 135) rfl)) rfl
theorem jw_376 : (Jvm.Cond.selects "CashMachine" ({ cls := "CashMachine", name := "load", desc := "(III)I" } : Jvm.MethodName) ({ cls := "CashMachine", name := "load", desc := "(III)I" } : Jvm.MethodName)) ∈ ja_T := ja_g (ja_i2 (List.mem_of_getElem? (i := 136) rfl)) rfl
theorem jw_377 : (Jvm.Cond.code ({ cls := "CashMachine", name := "load", desc := "(III)I" } : Jvm.MethodName) prog_1_method_3_code (4 : Nat) (Option.some Jvm.ClassFile.FieldType.int)) ∈ ja_T := ja_g (ja_i2 (List.mem_of_getElem? (i := 137) rfl)) rfl
theorem jw_378 : (Jvm.Cond.methodLink "CashMachine" (81 : Nat) ({ cls := "CashMachine$Dispenser", name := "exchangeNotes", desc := "(III)I" } : Jvm.MethodName)) ∈ ja_T := ja_g (ja_i2 (List.mem_of_getElem? (i := 138) rfl)) rfl
theorem jw_379 : (Jvm.Cond.instanceMethod ({ cls := "CashMachine$Dispenser", name := "exchangeNotes", desc := "(III)I" } : Jvm.MethodName)) ∈ ja_T := ja_g (ja_i2 (List.mem_of_getElem? (i := 139) rfl)) rfl
theorem jw_380 : (Jvm.Cond.selects "CashMachine$Dispenser" ({ cls := "CashMachine$Dispenser", name := "exchangeNotes", desc := "(III)I" } : Jvm.MethodName) ({ cls := "CashMachine$Dispenser", name := "exchangeNotes", desc := "(III)I" } : Jvm.MethodName)) ∈ ja_T := ja_g (ja_i2 (List.mem_of_getElem? (i := 140) rfl)) rfl
theorem jw_381 : (Jvm.Cond.code ({ cls := "CashMachine$Dispenser", name := "exchangeNotes", desc := "(III)I" } : Jvm.MethodName) prog_4_method_2_code (6 : Nat) (Option.some Jvm.ClassFile.FieldType.int)) ∈ ja_T := ja_g (ja_i2 (List.mem_of_getElem? (i := 141) rfl)) rfl
theorem jw_382 : (Jvm.Cond.methodLink "CashMachineLaw" (90 : Nat) ({ cls := "CashMachineLaw", name := "insert", desc := "(LCashMachine;I[J)I" } : Jvm.MethodName)) ∈ ja_T := ja_g (ja_i2 (List.mem_of_getElem? (i := 142) rfl)) rfl
theorem jw_383 : (Jvm.Cond.static ({ cls := "CashMachineLaw", name := "insert", desc := "(LCashMachine;I[J)I" } : Jvm.MethodName)) ∈ ja_T := ja_g (ja_i2 (List.mem_of_getElem? (i := 143) rfl)) rfl
theorem jw_384 : (Jvm.Cond.codeWith ({ cls := "CashMachineLaw", name := "insert", desc := "(LCashMachine;I[J)I" } : Jvm.MethodName) method_5_code (4 : Nat) (Option.some Jvm.ClassFile.FieldType.int) [((0 : Nat), (9 : Nat), (12 : Nat), (15 : Nat)), ((0 : Nat), (9 : Nat), (15 : Nat), (24 : Nat)), ((0 : Nat), (9 : Nat), (18 : Nat), (26 : Nat))]) ∈ ja_T := ja_g (ja_i2 (List.mem_of_getElem? (i := 144) rfl)) rfl
theorem jw_385 : (Jvm.Cond.classLink "CashMachineLaw" (24 : Nat) "java/util/NoSuchElementException") ∈ ja_T := ja_g (ja_i2 (List.mem_of_getElem? (i := 145) rfl)) rfl
theorem jw_386 : (Jvm.Cond.classLink "CashMachineLaw" (26 : Nat) "java/lang/UnsupportedOperationException") ∈ ja_T := ja_g (ja_i2 (List.mem_of_getElem? (i := 146) rfl)) rfl
theorem jw_387 : (Jvm.Cond.methodLink "CashMachineLaw" (20 : Nat) ({ cls := "CashMachine", name := "insert", desc := "(I)I" } : Jvm.MethodName)) ∈ ja_T := ja_g (ja_i2 (List.mem_of_getElem? (i := 147) rfl)) rfl
theorem jw_388 : (Jvm.Cond.instanceMethod ({ cls := "CashMachine", name := "insert", desc := "(I)I" } : Jvm.MethodName)) ∈ ja_T := ja_g (ja_i2 (List.mem_of_getElem? (i := 148) rfl)) rfl
theorem jw_389 : (Jvm.Cond.selects "CashMachine" ({ cls := "CashMachine", name := "insert", desc := "(I)I" } : Jvm.MethodName) ({ cls := "CashMachine", name := "insert", desc := "(I)I" } : Jvm.MethodName)) ∈ ja_T := ja_g (ja_i2 (List.mem_of_getElem? (i := 149) rfl)) rfl
theorem jw_390 : (Jvm.Cond.code ({ cls := "CashMachine", name := "insert", desc := "(I)I" } : Jvm.MethodName) prog_1_method_4_code (2 : Nat) (Option.some Jvm.ClassFile.FieldType.int)) ∈ ja_T := ja_g (ja_i2 (List.mem_of_getElem? (i := 150) rfl)) rfl
theorem jw_391 : (Jvm.Cond.classLink "CashMachine" (85 : Nat) "java/util/NoSuchElementException") ∈ ja_T := ja_g (ja_i2 (List.mem_of_getElem? (i := 151) rfl)) rfl
theorem jw_392 : (Jvm.Cond.instantiable "java/util/NoSuchElementException" (6 : Nat)) ∈ ja_T := ja_g (ja_i2 (List.mem_of_getElem? (i := 152) rfl)) rfl
theorem jv_393 : (Jvm.Cond.castable "java/util/NoSuchElementException" "java/util/NoSuchElementException") ∈ lw_tbl := ja_i2 (List.mem_of_getElem? (i := 153) rfl)
theorem jw_394 : (Jvm.Cond.selects "java/util/NoSuchElementException" ({ cls := "java/lang/Throwable", name := "fillInStackTrace", desc := "(I)Ljava/lang/Throwable;" } : Jvm.MethodName) ({ cls := "java/lang/Throwable", name := "fillInStackTrace", desc := "(I)Ljava/lang/Throwable;" } : Jvm.MethodName)) ∈ ja_T := ja_g (ja_i2 (List.mem_of_getElem? (i := 154) rfl)) rfl
theorem jw_395 : (Jvm.Cond.lays "java/util/NoSuchElementException" "java/lang/Throwable" "cause" "Ljava/lang/Throwable;") ∈ ja_T := ja_g (ja_i2 (List.mem_of_getElem? (i := 155) rfl)) rfl
theorem jw_396 : (Jvm.Cond.lays "java/util/NoSuchElementException" "java/lang/Throwable" "stackTrace" "[Ljava/lang/StackTraceElement;") ∈ ja_T := ja_g (ja_i2 (List.mem_of_getElem? (i := 156) rfl)) rfl
theorem jw_397 : (Jvm.Cond.lays "java/util/NoSuchElementException" "java/lang/Throwable" "suppressedExceptions" "Ljava/util/List;") ∈ ja_T := ja_g (ja_i2 (List.mem_of_getElem? (i := 157) rfl)) rfl
theorem jw_398 : (Jvm.Cond.lays "java/util/NoSuchElementException" "java/lang/Throwable" "detailMessage" "Ljava/lang/String;") ∈ ja_T := ja_g (ja_i2 (List.mem_of_getElem? (i := 158) rfl)) rfl
theorem jw_399 : (Jvm.Cond.lays "java/util/NoSuchElementException" "java/lang/Throwable" "backtrace" "Ljava/lang/Object;") ∈ ja_T := ja_g (ja_i2 (List.mem_of_getElem? (i := 159) rfl)) rfl
theorem jw_400 : (Jvm.Cond.methodLink "CashMachine" (87 : Nat) ({ cls := "java/util/NoSuchElementException", name := "<init>", desc := "()V" } : Jvm.MethodName)) ∈ ja_T := ja_g (ja_i2 (List.mem_of_getElem? (i := 160) rfl)) rfl
theorem jw_401 : (Jvm.Cond.instanceMethod ({ cls := "java/util/NoSuchElementException", name := "<init>", desc := "()V" } : Jvm.MethodName)) ∈ ja_T := ja_g (ja_i2 (List.mem_of_getElem? (i := 161) rfl)) rfl
theorem jw_402 : (Jvm.Cond.code ({ cls := "java/util/NoSuchElementException", name := "<init>", desc := "()V" } : Jvm.MethodName) prog_23_method_1_code (1 : Nat) (Option.none : Option Jvm.ClassFile.FieldType)) ∈ ja_T := ja_g (ja_i2 (List.mem_of_getElem? (i := 162) rfl)) rfl
theorem jw_403 : (Jvm.Cond.methodLink "java/util/NoSuchElementException" (1 : Nat) ({ cls := "java/lang/RuntimeException", name := "<init>", desc := "()V" } : Jvm.MethodName)) ∈ ja_T := ja_g (ja_i2 (List.mem_of_getElem? (i := 163) rfl)) rfl
theorem jw_404 : (Jvm.Cond.lays "java/util/NoSuchElementException" "java/lang/Throwable" "depth" "I") ∈ ja_T := ja_g (ja_i2 (List.mem_of_getElem? (i := 164) rfl)) rfl
theorem jw_405 : (Jvm.Cond.superclass "java/util/NoSuchElementException" "java/lang/RuntimeException") ∈ ja_T := ja_g (ja_i2 (List.mem_of_getElem? (i := 165) rfl)) rfl
theorem jw_406 : (Jvm.Cond.classLink "CashMachine" (97 : Nat) "java/lang/UnsupportedOperationException") ∈ ja_T := ja_g (ja_i2 (List.mem_of_getElem? (i := 166) rfl)) rfl
theorem jw_407 : (Jvm.Cond.instantiable "java/lang/UnsupportedOperationException" (6 : Nat)) ∈ ja_T := ja_g (ja_i2 (List.mem_of_getElem? (i := 167) rfl)) rfl
theorem jv_408 : (Jvm.Cond.castable "java/lang/UnsupportedOperationException" "java/lang/UnsupportedOperationException") ∈ lw_tbl := ja_i2 (List.mem_of_getElem? (i := 168) rfl)
theorem jw_409 : (Jvm.Cond.selects "java/lang/UnsupportedOperationException" ({ cls := "java/lang/Throwable", name := "fillInStackTrace", desc := "(I)Ljava/lang/Throwable;" } : Jvm.MethodName) ({ cls := "java/lang/Throwable", name := "fillInStackTrace", desc := "(I)Ljava/lang/Throwable;" } : Jvm.MethodName)) ∈ ja_T := ja_g (ja_i2 (List.mem_of_getElem? (i := 169) rfl)) rfl
theorem jw_410 : (Jvm.Cond.lays "java/lang/UnsupportedOperationException" "java/lang/Throwable" "cause" "Ljava/lang/Throwable;") ∈ ja_T := ja_g (ja_i2 (List.mem_of_getElem? (i := 170) rfl)) rfl
theorem jw_411 : (Jvm.Cond.lays "java/lang/UnsupportedOperationException" "java/lang/Throwable" "stackTrace" "[Ljava/lang/StackTraceElement;") ∈ ja_T := ja_g (ja_i2 (List.mem_of_getElem? (i := 171) rfl)) rfl
theorem jw_412 : (Jvm.Cond.lays "java/lang/UnsupportedOperationException" "java/lang/Throwable" "suppressedExceptions" "Ljava/util/List;") ∈ ja_T := ja_g (ja_i2 (List.mem_of_getElem? (i := 172) rfl)) rfl
theorem jw_413 : (Jvm.Cond.lays "java/lang/UnsupportedOperationException" "java/lang/Throwable" "detailMessage" "Ljava/lang/String;") ∈ ja_T := ja_g (ja_i2 (List.mem_of_getElem? (i := 173) rfl)) rfl
theorem jw_414 : (Jvm.Cond.lays "java/lang/UnsupportedOperationException" "java/lang/Throwable" "backtrace" "Ljava/lang/Object;") ∈ ja_T := ja_g (ja_i2 (List.mem_of_getElem? (i := 174) rfl)) rfl
theorem jw_415 : (Jvm.Cond.methodLink "CashMachine" (99 : Nat) ({ cls := "java/lang/UnsupportedOperationException", name := "<init>", desc := "()V" } : Jvm.MethodName)) ∈ ja_T := ja_g (ja_i2 (List.mem_of_getElem? (i := 175) rfl)) rfl
theorem jw_416 : (Jvm.Cond.instanceMethod ({ cls := "java/lang/UnsupportedOperationException", name := "<init>", desc := "()V" } : Jvm.MethodName)) ∈ ja_T := ja_g (ja_i2 (List.mem_of_getElem? (i := 176) rfl)) rfl
theorem jw_417 : (Jvm.Cond.code ({ cls := "java/lang/UnsupportedOperationException", name := "<init>", desc := "()V" } : Jvm.MethodName) prog_21_method_1_code (1 : Nat) (Option.none : Option Jvm.ClassFile.FieldType)) ∈ ja_T := ja_g (ja_i2 (List.mem_of_getElem? (i := 177) rfl)) rfl
theorem jw_418 : (Jvm.Cond.methodLink "java/lang/UnsupportedOperationException" (1 : Nat) ({ cls := "java/lang/RuntimeException", name := "<init>", desc := "()V" } : Jvm.MethodName)) ∈ ja_T := ja_g (ja_i2 (List.mem_of_getElem? (i := 178) rfl)) rfl
theorem jw_419 : (Jvm.Cond.lays "java/lang/UnsupportedOperationException" "java/lang/Throwable" "depth" "I") ∈ ja_T := ja_g (ja_i2 (List.mem_of_getElem? (i := 179) rfl)) rfl
theorem jw_420 : (Jvm.Cond.superclass "java/lang/UnsupportedOperationException" "java/lang/RuntimeException") ∈ ja_T := ja_g (ja_i2 (List.mem_of_getElem? (i := 180) rfl)) rfl
theorem jw_421 : (Jvm.Cond.methodLink "CashMachineLaw" (94 : Nat) ({ cls := "CashMachineLaw", name := "pin", desc := "(LCashMachine;I[J)I" } : Jvm.MethodName)) ∈ ja_T := ja_g (ja_i2 (List.mem_of_getElem? (i := 181) rfl)) rfl
theorem jw_422 : (Jvm.Cond.static ({ cls := "CashMachineLaw", name := "pin", desc := "(LCashMachine;I[J)I" } : Jvm.MethodName)) ∈ ja_T := ja_g (ja_i2 (List.mem_of_getElem? (i := 182) rfl)) rfl
theorem jw_423 : (Jvm.Cond.codeWith ({ cls := "CashMachineLaw", name := "pin", desc := "(LCashMachine;I[J)I" } : Jvm.MethodName) method_6_code (4 : Nat) (Option.some Jvm.ClassFile.FieldType.int) [((0 : Nat), (9 : Nat), (12 : Nat), (15 : Nat))]) ∈ ja_T := ja_g (ja_i2 (List.mem_of_getElem? (i := 183) rfl)) rfl
theorem jw_424 : (Jvm.Cond.methodLink "CashMachineLaw" (28 : Nat) ({ cls := "CashMachine", name := "pin", desc := "(I)I" } : Jvm.MethodName)) ∈ ja_T := ja_g (ja_i2 (List.mem_of_getElem? (i := 184) rfl)) rfl
theorem jw_425 : (Jvm.Cond.instanceMethod ({ cls := "CashMachine", name := "pin", desc := "(I)I" } : Jvm.MethodName)) ∈ ja_T := ja_g (ja_i2 (List.mem_of_getElem? (i := 185) rfl)) rfl
theorem jw_426 : (Jvm.Cond.selects "CashMachine" ({ cls := "CashMachine", name := "pin", desc := "(I)I" } : Jvm.MethodName) ({ cls := "CashMachine", name := "pin", desc := "(I)I" } : Jvm.MethodName)) ∈ ja_T := ja_g (ja_i2 (List.mem_of_getElem? (i := 186) rfl)) rfl
theorem jw_427 : (Jvm.Cond.code ({ cls := "CashMachine", name := "pin", desc := "(I)I" } : Jvm.MethodName) prog_1_method_5_code (3 : Nat) (Option.some Jvm.ClassFile.FieldType.int)) ∈ ja_T := ja_g (ja_i2 (List.mem_of_getElem? (i := 187) rfl)) rfl
theorem jw_428 : (Jvm.Cond.methodLink "CashMachine" (103 : Nat) ({ cls := "CashMachine$Account", name := "tryPin", desc := "(I)Z" } : Jvm.MethodName)) ∈ ja_T := ja_g (ja_i2 (List.mem_of_getElem? (i := 188) rfl)) rfl
theorem jw_429 : (Jvm.Cond.instanceMethod ({ cls := "CashMachine$Account", name := "tryPin", desc := "(I)Z" } : Jvm.MethodName)) ∈ ja_T := ja_g (ja_i2 (List.mem_of_getElem? (i := 189) rfl)) rfl
theorem jw_430 : (Jvm.Cond.selects "CashMachine$Account" ({ cls := "CashMachine$Account", name := "tryPin", desc := "(I)Z" } : Jvm.MethodName) ({ cls := "CashMachine$Account", name := "tryPin", desc := "(I)Z" } : Jvm.MethodName)) ∈ ja_T := ja_g (ja_i2 (List.mem_of_getElem? (i := 190) rfl)) rfl
theorem jw_431 : (Jvm.Cond.code ({ cls := "CashMachine$Account", name := "tryPin", desc := "(I)Z" } : Jvm.MethodName) prog_2_method_2_code (2 : Nat) (Option.some Jvm.ClassFile.FieldType.boolean)) ∈ ja_T := ja_g (ja_i2 (List.mem_of_getElem? (i := 191) rfl)) rfl
theorem jw_432 : (Jvm.Cond.methodLink "CashMachine" (106 : Nat) ({ cls := "CashMachine", name := "endSession", desc := "()V" } : Jvm.MethodName)) ∈ ja_T := ja_g (ja_i2 (List.mem_of_getElem? (i := 192) rfl)) rfl
theorem jv_433 : (Jvm.Cond.privateMethod ({ cls := "CashMachine", name := "endSession", desc := "()V" } : Jvm.MethodName)) ∈ lw_tbl := ja_i2 (List.mem_of_getElem? (i := 193) rfl)
theorem jw_434 : (Jvm.Cond.instanceMethod ({ cls := "CashMachine", name := "endSession", desc := "()V" } : Jvm.MethodName)) ∈ ja_T := ja_g (ja_i2 (List.mem_of_getElem? (i := 194) rfl)) rfl
theorem jw_435 : (Jvm.Cond.code ({ cls := "CashMachine", name := "endSession", desc := "()V" } : Jvm.MethodName) prog_1_method_21_code (1 : Nat) (Option.none : Option Jvm.ClassFile.FieldType)) ∈ ja_T := ja_g (ja_i2 (List.mem_of_getElem? (i := 195) rfl)) rfl
theorem jw_436 : (Jvm.Cond.methodLink "CashMachineLaw" (97 : Nat) ({ cls := "CashMachineLaw", name := "eject", desc := "(LCashMachine;[J)I" } : Jvm.MethodName)) ∈ ja_T := ja_g (ja_i2 (List.mem_of_getElem? (i := 196) rfl)) rfl
theorem jw_437 : (Jvm.Cond.static ({ cls := "CashMachineLaw", name := "eject", desc := "(LCashMachine;[J)I" } : Jvm.MethodName)) ∈ ja_T := ja_g (ja_i2 (List.mem_of_getElem? (i := 197) rfl)) rfl
theorem jw_438 : (Jvm.Cond.codeWith ({ cls := "CashMachineLaw", name := "eject", desc := "(LCashMachine;[J)I" } : Jvm.MethodName) method_7_code (3 : Nat) (Option.some Jvm.ClassFile.FieldType.int) [((0 : Nat), (8 : Nat), (11 : Nat), (15 : Nat))]) ∈ ja_T := ja_g (ja_i2 (List.mem_of_getElem? (i := 198) rfl)) rfl
theorem jw_439 : (Jvm.Cond.methodLink "CashMachineLaw" (31 : Nat) ({ cls := "CashMachine", name := "eject", desc := "()I" } : Jvm.MethodName)) ∈ ja_T := ja_g (ja_i2 (List.mem_of_getElem? (i := 199) rfl)) rfl
theorem jw_440 : (Jvm.Cond.instanceMethod ({ cls := "CashMachine", name := "eject", desc := "()I" } : Jvm.MethodName)) ∈ ja_T := ja_g (ja_i2 (List.mem_of_getElem? (i := 200) rfl)) rfl
theorem jw_441 : (Jvm.Cond.selects "CashMachine" ({ cls := "CashMachine", name := "eject", desc := "()I" } : Jvm.MethodName) ({ cls := "CashMachine", name := "eject", desc := "()I" } : Jvm.MethodName)) ∈ ja_T := ja_g (ja_i2 (List.mem_of_getElem? (i := 201) rfl)) rfl
theorem jw_442 : (Jvm.Cond.code ({ cls := "CashMachine", name := "eject", desc := "()I" } : Jvm.MethodName) prog_1_method_6_code (2 : Nat) (Option.some Jvm.ClassFile.FieldType.int)) ∈ ja_T := ja_g (ja_i2 (List.mem_of_getElem? (i := 202) rfl)) rfl
theorem jw_443 : (Jvm.Cond.methodLink "CashMachineLaw" (101 : Nat) ({ cls := "CashMachineLaw", name := "withdraw", desc := "(LCashMachine;I[J)I" } : Jvm.MethodName)) ∈ ja_T := ja_g (ja_i2 (List.mem_of_getElem? (i := 203) rfl)) rfl
theorem jw_444 : (Jvm.Cond.static ({ cls := "CashMachineLaw", name := "withdraw", desc := "(LCashMachine;I[J)I" } : Jvm.MethodName)) ∈ ja_T := ja_g (ja_i2 (List.mem_of_getElem? (i := 204) rfl)) rfl
theorem jw_445 : (Jvm.Cond.codeWith ({ cls := "CashMachineLaw", name := "withdraw", desc := "(LCashMachine;I[J)I" } : Jvm.MethodName) method_8_code (4 : Nat) (Option.some Jvm.ClassFile.FieldType.int) [((0 : Nat), (9 : Nat), (12 : Nat), (15 : Nat)), ((0 : Nat), (9 : Nat), (15 : Nat), (13 : Nat)), ((0 : Nat), (9 : Nat), (18 : Nat), (26 : Nat)), ((0 : Nat), (9 : Nat), (21 : Nat), (38 : Nat))]) ∈ ja_T := ja_g (ja_i2 (List.mem_of_getElem? (i := 205) rfl)) rfl
theorem jw_446 : (Jvm.Cond.classLink "CashMachineLaw" (38 : Nat) "java/lang/IndexOutOfBoundsException") ∈ ja_T := ja_g (ja_i2 (List.mem_of_getElem? (i := 206) rfl)) rfl
theorem jw_447 : (Jvm.Cond.methodLink "CashMachineLaw" (35 : Nat) ({ cls := "CashMachine", name := "withdraw", desc := "(I)I" } : Jvm.MethodName)) ∈ ja_T := ja_g (ja_i2 (List.mem_of_getElem? (i := 207) rfl)) rfl
theorem jw_448 : (Jvm.Cond.instanceMethod ({ cls := "CashMachine", name := "withdraw", desc := "(I)I" } : Jvm.MethodName)) ∈ ja_T := ja_g (ja_i2 (List.mem_of_getElem? (i := 208) rfl)) rfl
theorem jw_449 : (Jvm.Cond.selects "CashMachine" ({ cls := "CashMachine", name := "withdraw", desc := "(I)I" } : Jvm.MethodName) ({ cls := "CashMachine", name := "withdraw", desc := "(I)I" } : Jvm.MethodName)) ∈ ja_T := ja_g (ja_i2 (List.mem_of_getElem? (i := 209) rfl)) rfl
theorem jw_450 : (Jvm.Cond.code ({ cls := "CashMachine", name := "withdraw", desc := "(I)I" } : Jvm.MethodName) prog_1_method_7_code (2 : Nat) (Option.some Jvm.ClassFile.FieldType.int)) ∈ ja_T := ja_g (ja_i2 (List.mem_of_getElem? (i := 210) rfl)) rfl
theorem jw_451 : (Jvm.Cond.methodLink "CashMachine" (109 : Nat) ({ cls := "CashMachine$Dispenser", name := "findMix", desc := "(I)Z" } : Jvm.MethodName)) ∈ ja_T := ja_g (ja_i2 (List.mem_of_getElem? (i := 211) rfl)) rfl
theorem jw_452 : (Jvm.Cond.instanceMethod ({ cls := "CashMachine$Dispenser", name := "findMix", desc := "(I)Z" } : Jvm.MethodName)) ∈ ja_T := ja_g (ja_i2 (List.mem_of_getElem? (i := 212) rfl)) rfl
theorem jw_453 : (Jvm.Cond.selects "CashMachine$Dispenser" ({ cls := "CashMachine$Dispenser", name := "findMix", desc := "(I)Z" } : Jvm.MethodName) ({ cls := "CashMachine$Dispenser", name := "findMix", desc := "(I)Z" } : Jvm.MethodName)) ∈ ja_T := ja_g (ja_i2 (List.mem_of_getElem? (i := 213) rfl)) rfl
theorem jw_454 : (Jvm.Cond.code ({ cls := "CashMachine$Dispenser", name := "findMix", desc := "(I)Z" } : Jvm.MethodName) prog_4_method_3_code (2 : Nat) (Option.some Jvm.ClassFile.FieldType.boolean)) ∈ ja_T := ja_g (ja_i2 (List.mem_of_getElem? (i := 214) rfl)) rfl
theorem jw_455 : (Jvm.Cond.methodLink "CashMachine$Dispenser" (44 : Nat) ({ cls := "CashMachine$Mix", name := "find", desc := "([LCashMachine$Cassette;I)Z" } : Jvm.MethodName)) ∈ ja_T := ja_g (ja_i2 (List.mem_of_getElem? (i := 215) rfl)) rfl
theorem jw_456 : (Jvm.Cond.instanceMethod ({ cls := "CashMachine$Mix", name := "find", desc := "([LCashMachine$Cassette;I)Z" } : Jvm.MethodName)) ∈ ja_T := ja_g (ja_i2 (List.mem_of_getElem? (i := 216) rfl)) rfl
theorem jw_457 : (Jvm.Cond.selects "CashMachine$Mix" ({ cls := "CashMachine$Mix", name := "find", desc := "([LCashMachine$Cassette;I)Z" } : Jvm.MethodName) ({ cls := "CashMachine$Mix", name := "find", desc := "([LCashMachine$Cassette;I)Z" } : Jvm.MethodName)) ∈ ja_T := ja_g (ja_i2 (List.mem_of_getElem? (i := 217) rfl)) rfl
theorem jw_458 : (Jvm.Cond.code ({ cls := "CashMachine$Mix", name := "find", desc := "([LCashMachine$Cassette;I)Z" } : Jvm.MethodName) prog_9_method_2_code (10 : Nat) (Option.some Jvm.ClassFile.FieldType.boolean)) ∈ ja_T := ja_g (ja_i2 (List.mem_of_getElem? (i := 218) rfl)) rfl
theorem jw_459 : (Jvm.Cond.methodLink "CashMachine$Mix" (18 : Nat) ({ cls := "CashMachine$Mix", name := "rankLastTwo", desc := "(LCashMachine$Cassette;LCashMachine$Cassette;I)V" } : Jvm.MethodName)) ∈ ja_T := ja_g (ja_i2 (List.mem_of_getElem? (i := 219) rfl)) rfl
theorem jv_460 : (Jvm.Cond.privateMethod ({ cls := "CashMachine$Mix", name := "rankLastTwo", desc := "(LCashMachine$Cassette;LCashMachine$Cassette;I)V" } : Jvm.MethodName)) ∈ lw_tbl := ja_i2 (List.mem_of_getElem? (i := 220) rfl)
theorem jw_461 : (Jvm.Cond.instanceMethod ({ cls := "CashMachine$Mix", name := "rankLastTwo", desc := "(LCashMachine$Cassette;LCashMachine$Cassette;I)V" } : Jvm.MethodName)) ∈ ja_T := ja_g (ja_i2 (List.mem_of_getElem? (i := 221) rfl)) rfl
theorem jw_462 : (Jvm.Cond.code ({ cls := "CashMachine$Mix", name := "rankLastTwo", desc := "(LCashMachine$Cassette;LCashMachine$Cassette;I)V" } : Jvm.MethodName) prog_9_method_3_code (9 : Nat) (Option.none : Option Jvm.ClassFile.FieldType)) ∈ ja_T := ja_g (ja_i2 (List.mem_of_getElem? (i := 222) rfl)) rfl
theorem jw_463 : (Jvm.Cond.constant "CashMachine$Mix" (22 : Nat) (1000000 : Int32)) ∈ ja_T := ja_g (ja_i2 (List.mem_of_getElem? (i := 223) rfl)) rfl
theorem jw_464 : (Jvm.Cond.methodLink "CashMachine$Mix" (36 : Nat) ({ cls := "java/util/Arrays", name := "fill", desc := "([II)V" } : Jvm.MethodName)) ∈ ja_T := ja_g (ja_i2 (List.mem_of_getElem? (i := 224) rfl)) rfl
theorem jw_465 : (Jvm.Cond.static ({ cls := "java/util/Arrays", name := "fill", desc := "([II)V" } : Jvm.MethodName)) ∈ ja_T := ja_g (ja_i2 (List.mem_of_getElem? (i := 225) rfl)) rfl
theorem jw_466 : (Jvm.Cond.code ({ cls := "java/util/Arrays", name := "fill", desc := "([II)V" } : Jvm.MethodName) prog_22_method_103_code (4 : Nat) (Option.none : Option Jvm.ClassFile.FieldType)) ∈ ja_T := ja_g (ja_i2 (List.mem_of_getElem? (i := 226) rfl)) rfl
theorem jw_467 : (Jvm.Cond.methodLink "CashMachine$Mix" (42 : Nat) ({ cls := "java/lang/Math", name := "min", desc := "(II)I" } : Jvm.MethodName)) ∈ ja_T := ja_g (ja_i2 (List.mem_of_getElem? (i := 227) rfl)) rfl
theorem jw_468 : (Jvm.Cond.static ({ cls := "java/lang/Math", name := "min", desc := "(II)I" } : Jvm.MethodName)) ∈ ja_T := ja_g (ja_i2 (List.mem_of_getElem? (i := 228) rfl)) rfl
theorem jw_469 : (Jvm.Cond.code ({ cls := "java/lang/Math", name := "min", desc := "(II)I" } : Jvm.MethodName) prog_17_method_69_code (2 : Nat) (Option.some Jvm.ClassFile.FieldType.int)) ∈ ja_T := ja_g (ja_i2 (List.mem_of_getElem? (i := 229) rfl)) rfl
theorem jw_470 : (Jvm.Cond.methodLink "CashMachine$Mix" (32 : Nat) ({ cls := "CashMachine$Mix", name := "keep", desc := "(III)V" } : Jvm.MethodName)) ∈ ja_T := ja_g (ja_i2 (List.mem_of_getElem? (i := 230) rfl)) rfl
theorem jv_471 : (Jvm.Cond.privateMethod ({ cls := "CashMachine$Mix", name := "keep", desc := "(III)V" } : Jvm.MethodName)) ∈ lw_tbl := ja_i2 (List.mem_of_getElem? (i := 231) rfl)
theorem jw_472 : (Jvm.Cond.instanceMethod ({ cls := "CashMachine$Mix", name := "keep", desc := "(III)V" } : Jvm.MethodName)) ∈ ja_T := ja_g (ja_i2 (List.mem_of_getElem? (i := 232) rfl)) rfl
theorem jw_473 : (Jvm.Cond.code ({ cls := "CashMachine$Mix", name := "keep", desc := "(III)V" } : Jvm.MethodName) prog_9_method_4_code (5 : Nat) (Option.none : Option Jvm.ClassFile.FieldType)) ∈ ja_T := ja_g (ja_i2 (List.mem_of_getElem? (i := 233) rfl)) rfl
theorem jw_474 : (Jvm.Cond.classLink "CashMachine" (115 : Nat) "java/lang/IndexOutOfBoundsException") ∈ ja_T := ja_g (ja_i2 (List.mem_of_getElem? (i := 234) rfl)) rfl
theorem jw_475 : (Jvm.Cond.instantiable "java/lang/IndexOutOfBoundsException" (6 : Nat)) ∈ ja_T := ja_g (ja_i2 (List.mem_of_getElem? (i := 235) rfl)) rfl
theorem jv_476 : (Jvm.Cond.castable "java/lang/IndexOutOfBoundsException" "java/lang/IndexOutOfBoundsException") ∈ lw_tbl := ja_i2 (List.mem_of_getElem? (i := 236) rfl)
theorem jw_477 : (Jvm.Cond.selects "java/lang/IndexOutOfBoundsException" ({ cls := "java/lang/Throwable", name := "fillInStackTrace", desc := "(I)Ljava/lang/Throwable;" } : Jvm.MethodName) ({ cls := "java/lang/Throwable", name := "fillInStackTrace", desc := "(I)Ljava/lang/Throwable;" } : Jvm.MethodName)) ∈ ja_T := ja_g (ja_i2 (List.mem_of_getElem? (i := 237) rfl)) rfl
theorem jw_478 : (Jvm.Cond.lays "java/lang/IndexOutOfBoundsException" "java/lang/Throwable" "cause" "Ljava/lang/Throwable;") ∈ ja_T := ja_g (ja_i2 (List.mem_of_getElem? (i := 238) rfl)) rfl
theorem jw_479 : (Jvm.Cond.lays "java/lang/IndexOutOfBoundsException" "java/lang/Throwable" "stackTrace" "[Ljava/lang/StackTraceElement;") ∈ ja_T := ja_g (ja_i2 (List.mem_of_getElem? (i := 239) rfl)) rfl
theorem jw_480 : (Jvm.Cond.lays "java/lang/IndexOutOfBoundsException" "java/lang/Throwable" "suppressedExceptions" "Ljava/util/List;") ∈ ja_T := ja_g (ja_i3 (List.mem_of_getElem? (i := 0) rfl)) rfl
theorem jw_481 : (Jvm.Cond.lays "java/lang/IndexOutOfBoundsException" "java/lang/Throwable" "detailMessage" "Ljava/lang/String;") ∈ ja_T := ja_g (ja_i3 (List.mem_of_getElem? (i := 1) rfl)) rfl
theorem jw_482 : (Jvm.Cond.lays "java/lang/IndexOutOfBoundsException" "java/lang/Throwable" "backtrace" "Ljava/lang/Object;") ∈ ja_T := ja_g (ja_i3 (List.mem_of_getElem? (i := 2) rfl)) rfl
theorem jw_483 : (Jvm.Cond.methodLink "CashMachine" (117 : Nat) ({ cls := "java/lang/IndexOutOfBoundsException", name := "<init>", desc := "()V" } : Jvm.MethodName)) ∈ ja_T := ja_g (ja_i3 (List.mem_of_getElem? (i := 3) rfl)) rfl
theorem jw_484 : (Jvm.Cond.instanceMethod ({ cls := "java/lang/IndexOutOfBoundsException", name := "<init>", desc := "()V" } : Jvm.MethodName)) ∈ ja_T := ja_g (ja_i3 (List.mem_of_getElem? (i := 4) rfl)) rfl
theorem jw_485 : (Jvm.Cond.code ({ cls := "java/lang/IndexOutOfBoundsException", name := "<init>", desc := "()V" } : Jvm.MethodName) prog_16_method_1_code (1 : Nat) (Option.none : Option Jvm.ClassFile.FieldType)) ∈ ja_T := ja_g (ja_i3 (List.mem_of_getElem? (i := 5) rfl)) rfl
theorem jw_486 : (Jvm.Cond.methodLink "java/lang/IndexOutOfBoundsException" (1 : Nat) ({ cls := "java/lang/RuntimeException", name := "<init>", desc := "()V" } : Jvm.MethodName)) ∈ ja_T := ja_g (ja_i3 (List.mem_of_getElem? (i := 6) rfl)) rfl
theorem jw_487 : (Jvm.Cond.lays "java/lang/IndexOutOfBoundsException" "java/lang/Throwable" "depth" "I") ∈ ja_T := ja_g (ja_i3 (List.mem_of_getElem? (i := 7) rfl)) rfl
theorem jw_488 : (Jvm.Cond.superclass "java/lang/IndexOutOfBoundsException" "java/lang/RuntimeException") ∈ ja_T := ja_g (ja_i3 (List.mem_of_getElem? (i := 8) rfl)) rfl
theorem jw_489 : (Jvm.Cond.methodLink "CashMachine" (118 : Nat) ({ cls := "CashMachine$Journal", name := "begin", desc := "(II)LCashMachine$Entry;" } : Jvm.MethodName)) ∈ ja_T := ja_g (ja_i3 (List.mem_of_getElem? (i := 9) rfl)) rfl
theorem jw_490 : (Jvm.Cond.instanceMethod ({ cls := "CashMachine$Journal", name := "begin", desc := "(II)LCashMachine$Entry;" } : Jvm.MethodName)) ∈ ja_T := ja_g (ja_i3 (List.mem_of_getElem? (i := 10) rfl)) rfl
theorem jw_491 : (Jvm.Cond.selects "CashMachine$Journal" ({ cls := "CashMachine$Journal", name := "begin", desc := "(II)LCashMachine$Entry;" } : Jvm.MethodName) ({ cls := "CashMachine$Journal", name := "begin", desc := "(II)LCashMachine$Entry;" } : Jvm.MethodName)) ∈ ja_T := ja_g (ja_i3 (List.mem_of_getElem? (i := 11) rfl)) rfl
theorem jw_492 : (Jvm.Cond.code ({ cls := "CashMachine$Journal", name := "begin", desc := "(II)LCashMachine$Entry;" } : Jvm.MethodName) prog_7_method_2_code (4 : Nat) (Option.some (Jvm.ClassFile.FieldType.object "CashMachine$Entry"))) ∈ ja_T := ja_g (ja_i3 (List.mem_of_getElem? (i := 12) rfl)) rfl
theorem jw_493 : (Jvm.Cond.methodLink "CashMachine" (122 : Nat) ({ cls := "CashMachine", name := "request", desc := "(LCashMachine$Entry;)I" } : Jvm.MethodName)) ∈ ja_T := ja_g (ja_i3 (List.mem_of_getElem? (i := 13) rfl)) rfl
theorem jv_494 : (Jvm.Cond.privateMethod ({ cls := "CashMachine", name := "request", desc := "(LCashMachine$Entry;)I" } : Jvm.MethodName)) ∈ lw_tbl := ja_i3 (List.mem_of_getElem? (i := 14) rfl)
theorem jw_495 : (Jvm.Cond.instanceMethod ({ cls := "CashMachine", name := "request", desc := "(LCashMachine$Entry;)I" } : Jvm.MethodName)) ∈ ja_T := ja_g (ja_i3 (List.mem_of_getElem? (i := 15) rfl)) rfl
theorem jw_496 : (Jvm.Cond.code ({ cls := "CashMachine", name := "request", desc := "(LCashMachine$Entry;)I" } : Jvm.MethodName) prog_1_method_22_code (3 : Nat) (Option.some Jvm.ClassFile.FieldType.int)) ∈ ja_T := ja_g (ja_i3 (List.mem_of_getElem? (i := 16) rfl)) rfl
theorem jw_497 : (Jvm.Cond.methodLink "CashMachine" (201 : Nat) ({ cls := "CashMachine", name := "failsAt", desc := "(I)Z" } : Jvm.MethodName)) ∈ ja_T := ja_g (ja_i3 (List.mem_of_getElem? (i := 17) rfl)) rfl
theorem jv_498 : (Jvm.Cond.privateMethod ({ cls := "CashMachine", name := "failsAt", desc := "(I)Z" } : Jvm.MethodName)) ∈ lw_tbl := ja_i3 (List.mem_of_getElem? (i := 18) rfl)
theorem jw_499 : (Jvm.Cond.instanceMethod ({ cls := "CashMachine", name := "failsAt", desc := "(I)Z" } : Jvm.MethodName)) ∈ ja_T := ja_g (ja_i3 (List.mem_of_getElem? (i := 19) rfl)) rfl
theorem jw_500 : (Jvm.Cond.code ({ cls := "CashMachine", name := "failsAt", desc := "(I)Z" } : Jvm.MethodName) prog_1_method_24_code (2 : Nat) (Option.some Jvm.ClassFile.FieldType.boolean)) ∈ ja_T := ja_g (ja_i3 (List.mem_of_getElem? (i := 20) rfl)) rfl
theorem jw_501 : (Jvm.Cond.methodLink "CashMachine" (204 : Nat) ({ cls := "CashMachine", name := "exchangeRequest", desc := "(LCashMachine$Entry;)I" } : Jvm.MethodName)) ∈ ja_T := ja_g (ja_i3 (List.mem_of_getElem? (i := 21) rfl)) rfl
theorem jv_502 : (Jvm.Cond.privateMethod ({ cls := "CashMachine", name := "exchangeRequest", desc := "(LCashMachine$Entry;)I" } : Jvm.MethodName)) ∈ lw_tbl := ja_i3 (List.mem_of_getElem? (i := 22) rfl)
theorem jw_503 : (Jvm.Cond.instanceMethod ({ cls := "CashMachine", name := "exchangeRequest", desc := "(LCashMachine$Entry;)I" } : Jvm.MethodName)) ∈ ja_T := ja_g (ja_i3 (List.mem_of_getElem? (i := 23) rfl)) rfl
theorem jw_504 : (Jvm.Cond.code ({ cls := "CashMachine", name := "exchangeRequest", desc := "(LCashMachine$Entry;)I" } : Jvm.MethodName) prog_1_method_28_code (4 : Nat) (Option.some Jvm.ClassFile.FieldType.int)) ∈ ja_T := ja_g (ja_i3 (List.mem_of_getElem? (i := 24) rfl)) rfl
theorem jw_505 : (Jvm.Cond.methodLink "CashMachine" (230 : Nat) ({ cls := "CashMachine$Line", name := "takeFirst", desc := "()I" } : Jvm.MethodName)) ∈ ja_T := ja_g (ja_i3 (List.mem_of_getElem? (i := 25) rfl)) rfl
theorem jw_506 : (Jvm.Cond.instanceMethod ({ cls := "CashMachine$Line", name := "takeFirst", desc := "()I" } : Jvm.MethodName)) ∈ ja_T := ja_g (ja_i3 (List.mem_of_getElem? (i := 26) rfl)) rfl
theorem jw_507 : (Jvm.Cond.selects "CashMachine$Line" ({ cls := "CashMachine$Line", name := "takeFirst", desc := "()I" } : Jvm.MethodName) ({ cls := "CashMachine$Line", name := "takeFirst", desc := "()I" } : Jvm.MethodName)) ∈ ja_T := ja_g (ja_i3 (List.mem_of_getElem? (i := 27) rfl)) rfl
theorem jw_508 : (Jvm.Cond.code ({ cls := "CashMachine$Line", name := "takeFirst", desc := "()I" } : Jvm.MethodName) prog_8_method_3_code (2 : Nat) (Option.some Jvm.ClassFile.FieldType.int)) ∈ ja_T := ja_g (ja_i3 (List.mem_of_getElem? (i := 28) rfl)) rfl
theorem jw_509 : (Jvm.Cond.methodLink "CashMachine$Line" (19 : Nat) ({ cls := "java/lang/System", name := "arraycopy", desc := "(Ljava/lang/Object;ILjava/lang/Object;II)V" } : Jvm.MethodName)) ∈ ja_T := ja_g (ja_i3 (List.mem_of_getElem? (i := 29) rfl)) rfl
theorem jw_510 : (Jvm.Cond.static ({ cls := "java/lang/System", name := "arraycopy", desc := "(Ljava/lang/Object;ILjava/lang/Object;II)V" } : Jvm.MethodName)) ∈ ja_T := ja_g (ja_i3 (List.mem_of_getElem? (i := 30) rfl)) rfl
theorem jw_511 : (Jvm.Cond.native ({ cls := "java/lang/System", name := "arraycopy", desc := "(Ljava/lang/Object;ILjava/lang/Object;II)V" } : Jvm.MethodName)) ∈ ja_T := ja_g (ja_i3 (List.mem_of_getElem? (i := 31) rfl)) rfl
theorem jw_512 : (Jvm.Cond.methodLink "CashMachine" (233 : Nat) ({ cls := "CashMachine$Host", name := "receiveRequest", desc := "(III)Z" } : Jvm.MethodName)) ∈ ja_T := ja_g (ja_i3 (List.mem_of_getElem? (i := 32) rfl)) rfl
theorem jw_513 : (Jvm.Cond.instanceMethod ({ cls := "CashMachine$Host", name := "receiveRequest", desc := "(III)Z" } : Jvm.MethodName)) ∈ ja_T := ja_g (ja_i3 (List.mem_of_getElem? (i := 33) rfl)) rfl
theorem jw_514 : (Jvm.Cond.selects "CashMachine$Host" ({ cls := "CashMachine$Host", name := "receiveRequest", desc := "(III)Z" } : Jvm.MethodName) ({ cls := "CashMachine$Host", name := "receiveRequest", desc := "(III)Z" } : Jvm.MethodName)) ∈ ja_T := ja_g (ja_i3 (List.mem_of_getElem? (i := 34) rfl)) rfl
theorem jw_515 : (Jvm.Cond.code ({ cls := "CashMachine$Host", name := "receiveRequest", desc := "(III)Z" } : Jvm.MethodName) prog_6_method_4_code (4 : Nat) (Option.some Jvm.ClassFile.FieldType.boolean)) ∈ ja_T := ja_g (ja_i3 (List.mem_of_getElem? (i := 35) rfl)) rfl
theorem jw_516 : (Jvm.Cond.methodLink "CashMachine$Host" (47 : Nat) ({ cls := "CashMachine$Host", name := "decide", desc := "(ILCashMachine$Account;I)I" } : Jvm.MethodName)) ∈ ja_T := ja_g (ja_i3 (List.mem_of_getElem? (i := 36) rfl)) rfl
theorem jv_517 : (Jvm.Cond.privateMethod ({ cls := "CashMachine$Host", name := "decide", desc := "(ILCashMachine$Account;I)I" } : Jvm.MethodName)) ∈ lw_tbl := ja_i3 (List.mem_of_getElem? (i := 37) rfl)
theorem jw_518 : (Jvm.Cond.instanceMethod ({ cls := "CashMachine$Host", name := "decide", desc := "(ILCashMachine$Account;I)I" } : Jvm.MethodName)) ∈ ja_T := ja_g (ja_i3 (List.mem_of_getElem? (i := 38) rfl)) rfl
theorem jw_519 : (Jvm.Cond.code ({ cls := "CashMachine$Host", name := "decide", desc := "(ILCashMachine$Account;I)I" } : Jvm.MethodName) prog_6_method_5_code (4 : Nat) (Option.some Jvm.ClassFile.FieldType.int)) ∈ ja_T := ja_g (ja_i3 (List.mem_of_getElem? (i := 39) rfl)) rfl
theorem jw_520 : (Jvm.Cond.methodLink "CashMachine" (207 : Nat) ({ cls := "CashMachine", name := "giveUp", desc := "(LCashMachine$Entry;)V" } : Jvm.MethodName)) ∈ ja_T := ja_g (ja_i3 (List.mem_of_getElem? (i := 40) rfl)) rfl
theorem jv_521 : (Jvm.Cond.privateMethod ({ cls := "CashMachine", name := "giveUp", desc := "(LCashMachine$Entry;)V" } : Jvm.MethodName)) ∈ lw_tbl := ja_i3 (List.mem_of_getElem? (i := 41) rfl)
theorem jw_522 : (Jvm.Cond.instanceMethod ({ cls := "CashMachine", name := "giveUp", desc := "(LCashMachine$Entry;)V" } : Jvm.MethodName)) ∈ ja_T := ja_g (ja_i3 (List.mem_of_getElem? (i := 42) rfl)) rfl
theorem jw_523 : (Jvm.Cond.code ({ cls := "CashMachine", name := "giveUp", desc := "(LCashMachine$Entry;)V" } : Jvm.MethodName) prog_1_method_25_code (2 : Nat) (Option.none : Option Jvm.ClassFile.FieldType)) ∈ ja_T := ja_g (ja_i3 (List.mem_of_getElem? (i := 43) rfl)) rfl
theorem jw_524 : (Jvm.Cond.methodLink "CashMachine" (224 : Nat) ({ cls := "CashMachine$Reversals", name := "add", desc := "(II)V" } : Jvm.MethodName)) ∈ ja_T := ja_g (ja_i3 (List.mem_of_getElem? (i := 44) rfl)) rfl
theorem jw_525 : (Jvm.Cond.instanceMethod ({ cls := "CashMachine$Reversals", name := "add", desc := "(II)V" } : Jvm.MethodName)) ∈ ja_T := ja_g (ja_i3 (List.mem_of_getElem? (i := 45) rfl)) rfl
theorem jw_526 : (Jvm.Cond.selects "CashMachine$Reversals" ({ cls := "CashMachine$Reversals", name := "add", desc := "(II)V" } : Jvm.MethodName) ({ cls := "CashMachine$Reversals", name := "add", desc := "(II)V" } : Jvm.MethodName)) ∈ ja_T := ja_g (ja_i3 (List.mem_of_getElem? (i := 46) rfl)) rfl
theorem jw_527 : (Jvm.Cond.code ({ cls := "CashMachine$Reversals", name := "add", desc := "(II)V" } : Jvm.MethodName) prog_10_method_2_code (3 : Nat) (Option.none : Option Jvm.ClassFile.FieldType)) ∈ ja_T := ja_g (ja_i3 (List.mem_of_getElem? (i := 47) rfl)) rfl
theorem jw_528 : (Jvm.Cond.methodLink "CashMachine" (210 : Nat) ({ cls := "CashMachine", name := "present", desc := "(LCashMachine$Entry;)I" } : Jvm.MethodName)) ∈ ja_T := ja_g (ja_i3 (List.mem_of_getElem? (i := 48) rfl)) rfl
theorem jv_529 : (Jvm.Cond.privateMethod ({ cls := "CashMachine", name := "present", desc := "(LCashMachine$Entry;)I" } : Jvm.MethodName)) ∈ lw_tbl := ja_i3 (List.mem_of_getElem? (i := 49) rfl)
theorem jw_530 : (Jvm.Cond.instanceMethod ({ cls := "CashMachine", name := "present", desc := "(LCashMachine$Entry;)I" } : Jvm.MethodName)) ∈ ja_T := ja_g (ja_i3 (List.mem_of_getElem? (i := 50) rfl)) rfl
theorem jw_531 : (Jvm.Cond.code ({ cls := "CashMachine", name := "present", desc := "(LCashMachine$Entry;)I" } : Jvm.MethodName) prog_1_method_23_code (3 : Nat) (Option.some Jvm.ClassFile.FieldType.int)) ∈ ja_T := ja_g (ja_i3 (List.mem_of_getElem? (i := 51) rfl)) rfl
theorem jw_532 : (Jvm.Cond.methodLink "CashMachine" (216 : Nat) ({ cls := "CashMachine$Dispenser", name := "payMix", desc := "(I)I" } : Jvm.MethodName)) ∈ ja_T := ja_g (ja_i3 (List.mem_of_getElem? (i := 52) rfl)) rfl
theorem jw_533 : (Jvm.Cond.instanceMethod ({ cls := "CashMachine$Dispenser", name := "payMix", desc := "(I)I" } : Jvm.MethodName)) ∈ ja_T := ja_g (ja_i3 (List.mem_of_getElem? (i := 53) rfl)) rfl
theorem jw_534 : (Jvm.Cond.selects "CashMachine$Dispenser" ({ cls := "CashMachine$Dispenser", name := "payMix", desc := "(I)I" } : Jvm.MethodName) ({ cls := "CashMachine$Dispenser", name := "payMix", desc := "(I)I" } : Jvm.MethodName)) ∈ ja_T := ja_g (ja_i3 (List.mem_of_getElem? (i := 54) rfl)) rfl
theorem jw_535 : (Jvm.Cond.code ({ cls := "CashMachine$Dispenser", name := "payMix", desc := "(I)I" } : Jvm.MethodName) prog_4_method_4_code (6 : Nat) (Option.some Jvm.ClassFile.FieldType.int)) ∈ ja_T := ja_g (ja_i3 (List.mem_of_getElem? (i := 55) rfl)) rfl
theorem jw_536 : (Jvm.Cond.methodLink "CashMachine$Dispenser" (48 : Nat) ({ cls := "CashMachine$Dispenser", name := "nextCassette", desc := "()I" } : Jvm.MethodName)) ∈ ja_T := ja_g (ja_i3 (List.mem_of_getElem? (i := 56) rfl)) rfl
theorem jv_537 : (Jvm.Cond.privateMethod ({ cls := "CashMachine$Dispenser", name := "nextCassette", desc := "()I" } : Jvm.MethodName)) ∈ lw_tbl := ja_i3 (List.mem_of_getElem? (i := 57) rfl)
theorem jw_538 : (Jvm.Cond.instanceMethod ({ cls := "CashMachine$Dispenser", name := "nextCassette", desc := "()I" } : Jvm.MethodName)) ∈ ja_T := ja_g (ja_i3 (List.mem_of_getElem? (i := 58) rfl)) rfl
theorem jw_539 : (Jvm.Cond.code ({ cls := "CashMachine$Dispenser", name := "nextCassette", desc := "()I" } : Jvm.MethodName) prog_4_method_5_code (4 : Nat) (Option.some Jvm.ClassFile.FieldType.int)) ∈ ja_T := ja_g (ja_i3 (List.mem_of_getElem? (i := 59) rfl)) rfl
theorem jw_540 : (Jvm.Cond.methodLink "CashMachine" (220 : Nat) ({ cls := "CashMachine", name := "finish", desc := "(LCashMachine$Entry;I)V" } : Jvm.MethodName)) ∈ ja_T := ja_g (ja_i3 (List.mem_of_getElem? (i := 60) rfl)) rfl
theorem jv_541 : (Jvm.Cond.privateMethod ({ cls := "CashMachine", name := "finish", desc := "(LCashMachine$Entry;I)V" } : Jvm.MethodName)) ∈ lw_tbl := ja_i3 (List.mem_of_getElem? (i := 61) rfl)
theorem jw_542 : (Jvm.Cond.instanceMethod ({ cls := "CashMachine", name := "finish", desc := "(LCashMachine$Entry;I)V" } : Jvm.MethodName)) ∈ ja_T := ja_g (ja_i3 (List.mem_of_getElem? (i := 62) rfl)) rfl
theorem jw_543 : (Jvm.Cond.code ({ cls := "CashMachine", name := "finish", desc := "(LCashMachine$Entry;I)V" } : Jvm.MethodName) prog_1_method_26_code (3 : Nat) (Option.none : Option Jvm.ClassFile.FieldType)) ∈ ja_T := ja_g (ja_i3 (List.mem_of_getElem? (i := 63) rfl)) rfl
theorem jw_544 : (Jvm.Cond.methodLink "CashMachineLaw" (104 : Nat) ({ cls := "CashMachineLaw", name := "mix", desc := "(LCashMachine;II[J)I" } : Jvm.MethodName)) ∈ ja_T := ja_g (ja_i3 (List.mem_of_getElem? (i := 64) rfl)) rfl
theorem jw_545 : (Jvm.Cond.static ({ cls := "CashMachineLaw", name := "mix", desc := "(LCashMachine;II[J)I" } : Jvm.MethodName)) ∈ ja_T := ja_g (ja_i3 (List.mem_of_getElem? (i := 65) rfl)) rfl
theorem jw_546 : (Jvm.Cond.codeWith ({ cls := "CashMachineLaw", name := "mix", desc := "(LCashMachine;II[J)I" } : Jvm.MethodName) method_9_code (5 : Nat) (Option.some Jvm.ClassFile.FieldType.int) [((0 : Nat), (10 : Nat), (13 : Nat), (13 : Nat)), ((0 : Nat), (10 : Nat), (17 : Nat), (26 : Nat))]) ∈ ja_T := ja_g (ja_i3 (List.mem_of_getElem? (i := 66) rfl)) rfl
theorem jw_547 : (Jvm.Cond.methodLink "CashMachineLaw" (40 : Nat) ({ cls := "CashMachine", name := "mix", desc := "(II)I" } : Jvm.MethodName)) ∈ ja_T := ja_g (ja_i3 (List.mem_of_getElem? (i := 67) rfl)) rfl
theorem jw_548 : (Jvm.Cond.instanceMethod ({ cls := "CashMachine", name := "mix", desc := "(II)I" } : Jvm.MethodName)) ∈ ja_T := ja_g (ja_i3 (List.mem_of_getElem? (i := 68) rfl)) rfl
theorem jw_549 : (Jvm.Cond.selects "CashMachine" ({ cls := "CashMachine", name := "mix", desc := "(II)I" } : Jvm.MethodName) ({ cls := "CashMachine", name := "mix", desc := "(II)I" } : Jvm.MethodName)) ∈ ja_T := ja_g (ja_i3 (List.mem_of_getElem? (i := 69) rfl)) rfl
theorem jw_550 : (Jvm.Cond.code ({ cls := "CashMachine", name := "mix", desc := "(II)I" } : Jvm.MethodName) prog_1_method_8_code (3 : Nat) (Option.some Jvm.ClassFile.FieldType.int)) ∈ ja_T := ja_g (ja_i3 (List.mem_of_getElem? (i := 70) rfl)) rfl
theorem jw_551 : (Jvm.Cond.methodLink "CashMachineLaw" (108 : Nat) ({ cls := "CashMachineLaw", name := "line", desc := "(LCashMachine;I[J)I" } : Jvm.MethodName)) ∈ ja_T := ja_g (ja_i3 (List.mem_of_getElem? (i := 71) rfl)) rfl
theorem jw_552 : (Jvm.Cond.static ({ cls := "CashMachineLaw", name := "line", desc := "(LCashMachine;I[J)I" } : Jvm.MethodName)) ∈ ja_T := ja_g (ja_i3 (List.mem_of_getElem? (i := 72) rfl)) rfl
theorem jw_553 : (Jvm.Cond.codeWith ({ cls := "CashMachineLaw", name := "line", desc := "(LCashMachine;I[J)I" } : Jvm.MethodName) method_10_code (4 : Nat) (Option.some Jvm.ClassFile.FieldType.int) [((0 : Nat), (9 : Nat), (12 : Nat), (13 : Nat)), ((0 : Nat), (9 : Nat), (15 : Nat), (15 : Nat))]) ∈ ja_T := ja_g (ja_i3 (List.mem_of_getElem? (i := 73) rfl)) rfl
theorem jw_554 : (Jvm.Cond.methodLink "CashMachineLaw" (44 : Nat) ({ cls := "CashMachine", name := "line", desc := "(I)I" } : Jvm.MethodName)) ∈ ja_T := ja_g (ja_i3 (List.mem_of_getElem? (i := 74) rfl)) rfl
theorem jw_555 : (Jvm.Cond.instanceMethod ({ cls := "CashMachine", name := "line", desc := "(I)I" } : Jvm.MethodName)) ∈ ja_T := ja_g (ja_i3 (List.mem_of_getElem? (i := 75) rfl)) rfl
theorem jw_556 : (Jvm.Cond.selects "CashMachine" ({ cls := "CashMachine", name := "line", desc := "(I)I" } : Jvm.MethodName) ({ cls := "CashMachine", name := "line", desc := "(I)I" } : Jvm.MethodName)) ∈ ja_T := ja_g (ja_i3 (List.mem_of_getElem? (i := 76) rfl)) rfl
theorem jw_557 : (Jvm.Cond.code ({ cls := "CashMachine", name := "line", desc := "(I)I" } : Jvm.MethodName) prog_1_method_9_code (2 : Nat) (Option.some Jvm.ClassFile.FieldType.int)) ∈ ja_T := ja_g (ja_i3 (List.mem_of_getElem? (i := 77) rfl)) rfl
theorem jw_558 : (Jvm.Cond.methodLink "CashMachine" (137 : Nat) ({ cls := "CashMachine$Line", name := "add", desc := "(I)V" } : Jvm.MethodName)) ∈ ja_T := ja_g (ja_i3 (List.mem_of_getElem? (i := 78) rfl)) rfl
theorem jw_559 : (Jvm.Cond.instanceMethod ({ cls := "CashMachine$Line", name := "add", desc := "(I)V" } : Jvm.MethodName)) ∈ ja_T := ja_g (ja_i3 (List.mem_of_getElem? (i := 79) rfl)) rfl
theorem jw_560 : (Jvm.Cond.selects "CashMachine$Line" ({ cls := "CashMachine$Line", name := "add", desc := "(I)V" } : Jvm.MethodName) ({ cls := "CashMachine$Line", name := "add", desc := "(I)V" } : Jvm.MethodName)) ∈ ja_T := ja_g (ja_i3 (List.mem_of_getElem? (i := 80) rfl)) rfl
theorem jw_561 : (Jvm.Cond.code ({ cls := "CashMachine$Line", name := "add", desc := "(I)V" } : Jvm.MethodName) prog_8_method_2_code (2 : Nat) (Option.none : Option Jvm.ClassFile.FieldType)) ∈ ja_T := ja_g (ja_i3 (List.mem_of_getElem? (i := 81) rfl)) rfl
theorem jw_562 : (Jvm.Cond.methodLink "CashMachineLaw" (111 : Nat) ({ cls := "CashMachineLaw", name := "jam", desc := "(LCashMachine;I[J)I" } : Jvm.MethodName)) ∈ ja_T := ja_g (ja_i3 (List.mem_of_getElem? (i := 82) rfl)) rfl
theorem jw_563 : (Jvm.Cond.static ({ cls := "CashMachineLaw", name := "jam", desc := "(LCashMachine;I[J)I" } : Jvm.MethodName)) ∈ ja_T := ja_g (ja_i3 (List.mem_of_getElem? (i := 83) rfl)) rfl
theorem jw_564 : (Jvm.Cond.codeWith ({ cls := "CashMachineLaw", name := "jam", desc := "(LCashMachine;I[J)I" } : Jvm.MethodName) method_11_code (4 : Nat) (Option.some Jvm.ClassFile.FieldType.int) [((0 : Nat), (9 : Nat), (12 : Nat), (13 : Nat))]) ∈ ja_T := ja_g (ja_i3 (List.mem_of_getElem? (i := 84) rfl)) rfl
theorem jw_565 : (Jvm.Cond.methodLink "CashMachineLaw" (47 : Nat) ({ cls := "CashMachine", name := "jam", desc := "(I)I" } : Jvm.MethodName)) ∈ ja_T := ja_g (ja_i3 (List.mem_of_getElem? (i := 85) rfl)) rfl
theorem jw_566 : (Jvm.Cond.instanceMethod ({ cls := "CashMachine", name := "jam", desc := "(I)I" } : Jvm.MethodName)) ∈ ja_T := ja_g (ja_i3 (List.mem_of_getElem? (i := 86) rfl)) rfl
theorem jw_567 : (Jvm.Cond.selects "CashMachine" ({ cls := "CashMachine", name := "jam", desc := "(I)I" } : Jvm.MethodName) ({ cls := "CashMachine", name := "jam", desc := "(I)I" } : Jvm.MethodName)) ∈ ja_T := ja_g (ja_i3 (List.mem_of_getElem? (i := 87) rfl)) rfl
theorem jw_568 : (Jvm.Cond.code ({ cls := "CashMachine", name := "jam", desc := "(I)I" } : Jvm.MethodName) prog_1_method_10_code (2 : Nat) (Option.some Jvm.ClassFile.FieldType.int)) ∈ ja_T := ja_g (ja_i3 (List.mem_of_getElem? (i := 88) rfl)) rfl
theorem jw_569 : (Jvm.Cond.methodLink "CashMachineLaw" (114 : Nat) ({ cls := "CashMachineLaw", name := "power", desc := "(LCashMachine;I[J)I" } : Jvm.MethodName)) ∈ ja_T := ja_g (ja_i3 (List.mem_of_getElem? (i := 89) rfl)) rfl
theorem jw_570 : (Jvm.Cond.static ({ cls := "CashMachineLaw", name := "power", desc := "(LCashMachine;I[J)I" } : Jvm.MethodName)) ∈ ja_T := ja_g (ja_i3 (List.mem_of_getElem? (i := 90) rfl)) rfl
theorem jw_571 : (Jvm.Cond.codeWith ({ cls := "CashMachineLaw", name := "power", desc := "(LCashMachine;I[J)I" } : Jvm.MethodName) method_12_code (4 : Nat) (Option.some Jvm.ClassFile.FieldType.int) [((0 : Nat), (9 : Nat), (12 : Nat), (13 : Nat))]) ∈ ja_T := ja_g (ja_i3 (List.mem_of_getElem? (i := 91) rfl)) rfl
theorem jw_572 : (Jvm.Cond.methodLink "CashMachineLaw" (50 : Nat) ({ cls := "CashMachine", name := "power", desc := "(I)I" } : Jvm.MethodName)) ∈ ja_T := ja_g (ja_i3 (List.mem_of_getElem? (i := 92) rfl)) rfl
theorem jw_573 : (Jvm.Cond.instanceMethod ({ cls := "CashMachine", name := "power", desc := "(I)I" } : Jvm.MethodName)) ∈ ja_T := ja_g (ja_i3 (List.mem_of_getElem? (i := 93) rfl)) rfl
theorem jw_574 : (Jvm.Cond.selects "CashMachine" ({ cls := "CashMachine", name := "power", desc := "(I)I" } : Jvm.MethodName) ({ cls := "CashMachine", name := "power", desc := "(I)I" } : Jvm.MethodName)) ∈ ja_T := ja_g (ja_i3 (List.mem_of_getElem? (i := 94) rfl)) rfl
theorem jw_575 : (Jvm.Cond.code ({ cls := "CashMachine", name := "power", desc := "(I)I" } : Jvm.MethodName) prog_1_method_11_code (2 : Nat) (Option.some Jvm.ClassFile.FieldType.int)) ∈ ja_T := ja_g (ja_i3 (List.mem_of_getElem? (i := 95) rfl)) rfl
theorem jw_576 : (Jvm.Cond.methodLink "CashMachineLaw" (117 : Nat) ({ cls := "CashMachineLaw", name := "boot", desc := "(LCashMachine;[J)I" } : Jvm.MethodName)) ∈ ja_T := ja_g (ja_i3 (List.mem_of_getElem? (i := 96) rfl)) rfl
theorem jw_577 : (Jvm.Cond.static ({ cls := "CashMachineLaw", name := "boot", desc := "(LCashMachine;[J)I" } : Jvm.MethodName)) ∈ ja_T := ja_g (ja_i3 (List.mem_of_getElem? (i := 97) rfl)) rfl
theorem jw_578 : (Jvm.Cond.codeWith ({ cls := "CashMachineLaw", name := "boot", desc := "(LCashMachine;[J)I" } : Jvm.MethodName) method_13_code (3 : Nat) (Option.some Jvm.ClassFile.FieldType.int) [((0 : Nat), (8 : Nat), (11 : Nat), (15 : Nat))]) ∈ ja_T := ja_g (ja_i3 (List.mem_of_getElem? (i := 98) rfl)) rfl
theorem jw_579 : (Jvm.Cond.methodLink "CashMachineLaw" (53 : Nat) ({ cls := "CashMachine", name := "boot", desc := "()I" } : Jvm.MethodName)) ∈ ja_T := ja_g (ja_i3 (List.mem_of_getElem? (i := 99) rfl)) rfl
theorem jw_580 : (Jvm.Cond.instanceMethod ({ cls := "CashMachine", name := "boot", desc := "()I" } : Jvm.MethodName)) ∈ ja_T := ja_g (ja_i3 (List.mem_of_getElem? (i := 100) rfl)) rfl
theorem jw_581 : (Jvm.Cond.selects "CashMachine" ({ cls := "CashMachine", name := "boot", desc := "()I" } : Jvm.MethodName) ({ cls := "CashMachine", name := "boot", desc := "()I" } : Jvm.MethodName)) ∈ ja_T := ja_g (ja_i3 (List.mem_of_getElem? (i := 101) rfl)) rfl
theorem jw_582 : (Jvm.Cond.code ({ cls := "CashMachine", name := "boot", desc := "()I" } : Jvm.MethodName) prog_1_method_12_code (1 : Nat) (Option.some Jvm.ClassFile.FieldType.int)) ∈ ja_T := ja_g (ja_i3 (List.mem_of_getElem? (i := 102) rfl)) rfl
theorem jw_583 : (Jvm.Cond.methodLink "CashMachine" (144 : Nat) ({ cls := "CashMachine$Journal", name := "last", desc := "()LCashMachine$Entry;" } : Jvm.MethodName)) ∈ ja_T := ja_g (ja_i3 (List.mem_of_getElem? (i := 103) rfl)) rfl
theorem jw_584 : (Jvm.Cond.instanceMethod ({ cls := "CashMachine$Journal", name := "last", desc := "()LCashMachine$Entry;" } : Jvm.MethodName)) ∈ ja_T := ja_g (ja_i3 (List.mem_of_getElem? (i := 104) rfl)) rfl
theorem jw_585 : (Jvm.Cond.selects "CashMachine$Journal" ({ cls := "CashMachine$Journal", name := "last", desc := "()LCashMachine$Entry;" } : Jvm.MethodName) ({ cls := "CashMachine$Journal", name := "last", desc := "()LCashMachine$Entry;" } : Jvm.MethodName)) ∈ ja_T := ja_g (ja_i3 (List.mem_of_getElem? (i := 105) rfl)) rfl
theorem jw_586 : (Jvm.Cond.code ({ cls := "CashMachine$Journal", name := "last", desc := "()LCashMachine$Entry;" } : Jvm.MethodName) prog_7_method_3_code (1 : Nat) (Option.some (Jvm.ClassFile.FieldType.object "CashMachine$Entry"))) ∈ ja_T := ja_g (ja_i3 (List.mem_of_getElem? (i := 106) rfl)) rfl
theorem jw_587 : (Jvm.Cond.methodLink "CashMachine" (148 : Nat) ({ cls := "CashMachine", name := "recover", desc := "(LCashMachine$Entry;)V" } : Jvm.MethodName)) ∈ ja_T := ja_g (ja_i3 (List.mem_of_getElem? (i := 107) rfl)) rfl
theorem jv_588 : (Jvm.Cond.privateMethod ({ cls := "CashMachine", name := "recover", desc := "(LCashMachine$Entry;)V" } : Jvm.MethodName)) ∈ lw_tbl := ja_i3 (List.mem_of_getElem? (i := 108) rfl)
theorem jw_589 : (Jvm.Cond.instanceMethod ({ cls := "CashMachine", name := "recover", desc := "(LCashMachine$Entry;)V" } : Jvm.MethodName)) ∈ ja_T := ja_g (ja_i3 (List.mem_of_getElem? (i := 109) rfl)) rfl
theorem jw_590 : (Jvm.Cond.code ({ cls := "CashMachine", name := "recover", desc := "(LCashMachine$Entry;)V" } : Jvm.MethodName) prog_1_method_27_code (2 : Nat) (Option.none : Option Jvm.ClassFile.FieldType)) ∈ ja_T := ja_g (ja_i3 (List.mem_of_getElem? (i := 110) rfl)) rfl
theorem jw_591 : (Jvm.Cond.methodLink "CashMachine" (227 : Nat) ({ cls := "CashMachine$Dispenser", name := "presentedFor", desc := "(I)I" } : Jvm.MethodName)) ∈ ja_T := ja_g (ja_i3 (List.mem_of_getElem? (i := 111) rfl)) rfl
theorem jw_592 : (Jvm.Cond.instanceMethod ({ cls := "CashMachine$Dispenser", name := "presentedFor", desc := "(I)I" } : Jvm.MethodName)) ∈ ja_T := ja_g (ja_i3 (List.mem_of_getElem? (i := 112) rfl)) rfl
theorem jw_593 : (Jvm.Cond.selects "CashMachine$Dispenser" ({ cls := "CashMachine$Dispenser", name := "presentedFor", desc := "(I)I" } : Jvm.MethodName) ({ cls := "CashMachine$Dispenser", name := "presentedFor", desc := "(I)I" } : Jvm.MethodName)) ∈ ja_T := ja_g (ja_i3 (List.mem_of_getElem? (i := 113) rfl)) rfl
theorem jw_594 : (Jvm.Cond.code ({ cls := "CashMachine$Dispenser", name := "presentedFor", desc := "(I)I" } : Jvm.MethodName) prog_4_method_6_code (2 : Nat) (Option.some Jvm.ClassFile.FieldType.int)) ∈ ja_T := ja_g (ja_i3 (List.mem_of_getElem? (i := 114) rfl)) rfl
theorem jw_595 : (Jvm.Cond.methodLink "CashMachineLaw" (120 : Nat) ({ cls := "CashMachineLaw", name := "settle", desc := "(LCashMachine;[J)I" } : Jvm.MethodName)) ∈ ja_T := ja_g (ja_i3 (List.mem_of_getElem? (i := 115) rfl)) rfl
theorem jw_596 : (Jvm.Cond.static ({ cls := "CashMachineLaw", name := "settle", desc := "(LCashMachine;[J)I" } : Jvm.MethodName)) ∈ ja_T := ja_g (ja_i3 (List.mem_of_getElem? (i := 116) rfl)) rfl
theorem jw_597 : (Jvm.Cond.codeWith ({ cls := "CashMachineLaw", name := "settle", desc := "(LCashMachine;[J)I" } : Jvm.MethodName) method_14_code (3 : Nat) (Option.some Jvm.ClassFile.FieldType.int) [((0 : Nat), (8 : Nat), (11 : Nat), (15 : Nat))]) ∈ ja_T := ja_g (ja_i3 (List.mem_of_getElem? (i := 117) rfl)) rfl
theorem jw_598 : (Jvm.Cond.methodLink "CashMachineLaw" (56 : Nat) ({ cls := "CashMachine", name := "settle", desc := "()I" } : Jvm.MethodName)) ∈ ja_T := ja_g (ja_i3 (List.mem_of_getElem? (i := 118) rfl)) rfl
theorem jw_599 : (Jvm.Cond.instanceMethod ({ cls := "CashMachine", name := "settle", desc := "()I" } : Jvm.MethodName)) ∈ ja_T := ja_g (ja_i3 (List.mem_of_getElem? (i := 119) rfl)) rfl
theorem jw_600 : (Jvm.Cond.selects "CashMachine" ({ cls := "CashMachine", name := "settle", desc := "()I" } : Jvm.MethodName) ({ cls := "CashMachine", name := "settle", desc := "()I" } : Jvm.MethodName)) ∈ ja_T := ja_g (ja_i3 (List.mem_of_getElem? (i := 120) rfl)) rfl
theorem jw_601 : (Jvm.Cond.code ({ cls := "CashMachine", name := "settle", desc := "()I" } : Jvm.MethodName) prog_1_method_13_code (2 : Nat) (Option.some Jvm.ClassFile.FieldType.int)) ∈ ja_T := ja_g (ja_i3 (List.mem_of_getElem? (i := 121) rfl)) rfl
theorem jw_602 : (Jvm.Cond.methodLink "CashMachine" (153 : Nat) ({ cls := "CashMachine", name := "exchangeReversal", desc := "(I)Z" } : Jvm.MethodName)) ∈ ja_T := ja_g (ja_i3 (List.mem_of_getElem? (i := 122) rfl)) rfl
theorem jv_603 : (Jvm.Cond.privateMethod ({ cls := "CashMachine", name := "exchangeReversal", desc := "(I)Z" } : Jvm.MethodName)) ∈ lw_tbl := ja_i3 (List.mem_of_getElem? (i := 123) rfl)
theorem jw_604 : (Jvm.Cond.instanceMethod ({ cls := "CashMachine", name := "exchangeReversal", desc := "(I)Z" } : Jvm.MethodName)) ∈ ja_T := ja_g (ja_i3 (List.mem_of_getElem? (i := 124) rfl)) rfl
theorem jw_605 : (Jvm.Cond.code ({ cls := "CashMachine", name := "exchangeReversal", desc := "(I)Z" } : Jvm.MethodName) prog_1_method_29_code (3 : Nat) (Option.some Jvm.ClassFile.FieldType.boolean)) ∈ ja_T := ja_g (ja_i3 (List.mem_of_getElem? (i := 125) rfl)) rfl
theorem jw_606 : (Jvm.Cond.methodLink "CashMachine" (239 : Nat) ({ cls := "CashMachine$Host", name := "receiveReversal", desc := "(II)V" } : Jvm.MethodName)) ∈ ja_T := ja_g (ja_i3 (List.mem_of_getElem? (i := 126) rfl)) rfl
theorem jw_607 : (Jvm.Cond.instanceMethod ({ cls := "CashMachine$Host", name := "receiveReversal", desc := "(II)V" } : Jvm.MethodName)) ∈ ja_T := ja_g (ja_i3 (List.mem_of_getElem? (i := 127) rfl)) rfl
theorem jw_608 : (Jvm.Cond.selects "CashMachine$Host" ({ cls := "CashMachine$Host", name := "receiveReversal", desc := "(II)V" } : Jvm.MethodName) ({ cls := "CashMachine$Host", name := "receiveReversal", desc := "(II)V" } : Jvm.MethodName)) ∈ ja_T := ja_g (ja_i3 (List.mem_of_getElem? (i := 128) rfl)) rfl
theorem jw_609 : (Jvm.Cond.code ({ cls := "CashMachine$Host", name := "receiveReversal", desc := "(II)V" } : Jvm.MethodName) prog_6_method_6_code (3 : Nat) (Option.none : Option Jvm.ClassFile.FieldType)) ∈ ja_T := ja_g (ja_i3 (List.mem_of_getElem? (i := 129) rfl)) rfl
theorem jw_610 : (Jvm.Cond.methodLink "CashMachine" (156 : Nat) ({ cls := "CashMachine$Reversals", name := "dropFirst", desc := "(I)V" } : Jvm.MethodName)) ∈ ja_T := ja_g (ja_i3 (List.mem_of_getElem? (i := 130) rfl)) rfl
theorem jw_611 : (Jvm.Cond.instanceMethod ({ cls := "CashMachine$Reversals", name := "dropFirst", desc := "(I)V" } : Jvm.MethodName)) ∈ ja_T := ja_g (ja_i3 (List.mem_of_getElem? (i := 131) rfl)) rfl
theorem jw_612 : (Jvm.Cond.selects "CashMachine$Reversals" ({ cls := "CashMachine$Reversals", name := "dropFirst", desc := "(I)V" } : Jvm.MethodName) ({ cls := "CashMachine$Reversals", name := "dropFirst", desc := "(I)V" } : Jvm.MethodName)) ∈ ja_T := ja_g (ja_i3 (List.mem_of_getElem? (i := 132) rfl)) rfl
theorem jw_613 : (Jvm.Cond.code ({ cls := "CashMachine$Reversals", name := "dropFirst", desc := "(I)V" } : Jvm.MethodName) prog_10_method_3_code (2 : Nat) (Option.none : Option Jvm.ClassFile.FieldType)) ∈ ja_T := ja_g (ja_i3 (List.mem_of_getElem? (i := 133) rfl)) rfl
theorem jw_614 : (Jvm.Cond.methodLink "CashMachine$Reversals" (22 : Nat) ({ cls := "java/lang/System", name := "arraycopy", desc := "(Ljava/lang/Object;ILjava/lang/Object;II)V" } : Jvm.MethodName)) ∈ ja_T := ja_g (ja_i3 (List.mem_of_getElem? (i := 134) rfl)) rfl
theorem jw_615 : (Jvm.Cond.methodLink "CashMachineLaw" (123 : Nat) ({ cls := "CashMachineLaw", name := "balance", desc := "(LCashMachine;I[J)I" } : Jvm.MethodName)) ∈ ja_T := ja_g (ja_i3 (List.mem_of_getElem? (i := 135) rfl)) rfl
theorem jw_616 : (Jvm.Cond.static ({ cls := "CashMachineLaw", name := "balance", desc := "(LCashMachine;I[J)I" } : Jvm.MethodName)) ∈ ja_T := ja_g (ja_i3 (List.mem_of_getElem? (i := 136) rfl)) rfl
theorem jw_617 : (Jvm.Cond.codeWith ({ cls := "CashMachineLaw", name := "balance", desc := "(LCashMachine;I[J)I" } : Jvm.MethodName) method_15_code (4 : Nat) (Option.some Jvm.ClassFile.FieldType.int) [((0 : Nat), (9 : Nat), (12 : Nat), (24 : Nat))]) ∈ ja_T := ja_g (ja_i3 (List.mem_of_getElem? (i := 137) rfl)) rfl
theorem jw_618 : (Jvm.Cond.methodLink "CashMachineLaw" (59 : Nat) ({ cls := "CashMachine", name := "balance", desc := "(I)I" } : Jvm.MethodName)) ∈ ja_T := ja_g (ja_i3 (List.mem_of_getElem? (i := 138) rfl)) rfl
theorem jw_619 : (Jvm.Cond.instanceMethod ({ cls := "CashMachine", name := "balance", desc := "(I)I" } : Jvm.MethodName)) ∈ ja_T := ja_g (ja_i3 (List.mem_of_getElem? (i := 139) rfl)) rfl
theorem jw_620 : (Jvm.Cond.selects "CashMachine" ({ cls := "CashMachine", name := "balance", desc := "(I)I" } : Jvm.MethodName) ({ cls := "CashMachine", name := "balance", desc := "(I)I" } : Jvm.MethodName)) ∈ ja_T := ja_g (ja_i3 (List.mem_of_getElem? (i := 140) rfl)) rfl
theorem jw_621 : (Jvm.Cond.code ({ cls := "CashMachine", name := "balance", desc := "(I)I" } : Jvm.MethodName) prog_1_method_14_code (2 : Nat) (Option.some Jvm.ClassFile.FieldType.int)) ∈ ja_T := ja_g (ja_i3 (List.mem_of_getElem? (i := 141) rfl)) rfl
theorem jw_622 : (Jvm.Cond.methodLink "CashMachineLaw" (126 : Nat) ({ cls := "CashMachineLaw", name := "trace", desc := "(LCashMachine;II[J)I" } : Jvm.MethodName)) ∈ ja_T := ja_g (ja_i3 (List.mem_of_getElem? (i := 142) rfl)) rfl
theorem jw_623 : (Jvm.Cond.static ({ cls := "CashMachineLaw", name := "trace", desc := "(LCashMachine;II[J)I" } : Jvm.MethodName)) ∈ ja_T := ja_g (ja_i3 (List.mem_of_getElem? (i := 143) rfl)) rfl
theorem jw_624 : (Jvm.Cond.codeWith ({ cls := "CashMachineLaw", name := "trace", desc := "(LCashMachine;II[J)I" } : Jvm.MethodName) method_16_code (5 : Nat) (Option.some Jvm.ClassFile.FieldType.int) [((0 : Nat), (10 : Nat), (13 : Nat), (24 : Nat)), ((0 : Nat), (10 : Nat), (17 : Nat), (13 : Nat))]) ∈ ja_T := ja_g (ja_i3 (List.mem_of_getElem? (i := 144) rfl)) rfl
theorem jw_625 : (Jvm.Cond.methodLink "CashMachineLaw" (62 : Nat) ({ cls := "CashMachine", name := "trace", desc := "(II)I" } : Jvm.MethodName)) ∈ ja_T := ja_g (ja_i3 (List.mem_of_getElem? (i := 145) rfl)) rfl
theorem jw_626 : (Jvm.Cond.instanceMethod ({ cls := "CashMachine", name := "trace", desc := "(II)I" } : Jvm.MethodName)) ∈ ja_T := ja_g (ja_i3 (List.mem_of_getElem? (i := 146) rfl)) rfl
theorem jw_627 : (Jvm.Cond.selects "CashMachine" ({ cls := "CashMachine", name := "trace", desc := "(II)I" } : Jvm.MethodName) ({ cls := "CashMachine", name := "trace", desc := "(II)I" } : Jvm.MethodName)) ∈ ja_T := ja_g (ja_i3 (List.mem_of_getElem? (i := 147) rfl)) rfl
theorem jw_628 : (Jvm.Cond.code ({ cls := "CashMachine", name := "trace", desc := "(II)I" } : Jvm.MethodName) prog_1_method_15_code (4 : Nat) (Option.some Jvm.ClassFile.FieldType.int)) ∈ ja_T := ja_g (ja_i3 (List.mem_of_getElem? (i := 148) rfl)) rfl
theorem jw_629 : (Jvm.Cond.methodLink "CashMachineLaw" (129 : Nat) ({ cls := "CashMachineLaw", name := "reversal", desc := "(LCashMachine;I[J)I" } : Jvm.MethodName)) ∈ ja_T := ja_g (ja_i3 (List.mem_of_getElem? (i := 149) rfl)) rfl
theorem jw_630 : (Jvm.Cond.static ({ cls := "CashMachineLaw", name := "reversal", desc := "(LCashMachine;I[J)I" } : Jvm.MethodName)) ∈ ja_T := ja_g (ja_i3 (List.mem_of_getElem? (i := 150) rfl)) rfl
theorem jw_631 : (Jvm.Cond.codeWith ({ cls := "CashMachineLaw", name := "reversal", desc := "(LCashMachine;I[J)I" } : Jvm.MethodName) method_17_code (4 : Nat) (Option.some Jvm.ClassFile.FieldType.int) [((0 : Nat), (9 : Nat), (12 : Nat), (24 : Nat))]) ∈ ja_T := ja_g (ja_i3 (List.mem_of_getElem? (i := 151) rfl)) rfl
theorem jw_632 : (Jvm.Cond.methodLink "CashMachineLaw" (65 : Nat) ({ cls := "CashMachine", name := "reversal", desc := "(I)I" } : Jvm.MethodName)) ∈ ja_T := ja_g (ja_i3 (List.mem_of_getElem? (i := 152) rfl)) rfl
theorem jw_633 : (Jvm.Cond.instanceMethod ({ cls := "CashMachine", name := "reversal", desc := "(I)I" } : Jvm.MethodName)) ∈ ja_T := ja_g (ja_i3 (List.mem_of_getElem? (i := 153) rfl)) rfl
theorem jw_634 : (Jvm.Cond.selects "CashMachine" ({ cls := "CashMachine", name := "reversal", desc := "(I)I" } : Jvm.MethodName) ({ cls := "CashMachine", name := "reversal", desc := "(I)I" } : Jvm.MethodName)) ∈ ja_T := ja_g (ja_i3 (List.mem_of_getElem? (i := 154) rfl)) rfl
theorem jw_635 : (Jvm.Cond.code ({ cls := "CashMachine", name := "reversal", desc := "(I)I" } : Jvm.MethodName) prog_1_method_16_code (2 : Nat) (Option.some Jvm.ClassFile.FieldType.int)) ∈ ja_T := ja_g (ja_i3 (List.mem_of_getElem? (i := 155) rfl)) rfl
theorem jw_636 : (Jvm.Cond.methodLink "CashMachineLaw" (132 : Nat) ({ cls := "CashMachineLaw", name := "notes", desc := "(LCashMachine;I[J)I" } : Jvm.MethodName)) ∈ ja_T := ja_g (ja_i3 (List.mem_of_getElem? (i := 156) rfl)) rfl
theorem jw_637 : (Jvm.Cond.static ({ cls := "CashMachineLaw", name := "notes", desc := "(LCashMachine;I[J)I" } : Jvm.MethodName)) ∈ ja_T := ja_g (ja_i3 (List.mem_of_getElem? (i := 157) rfl)) rfl
theorem jw_638 : (Jvm.Cond.codeWith ({ cls := "CashMachineLaw", name := "notes", desc := "(LCashMachine;I[J)I" } : Jvm.MethodName) method_18_code (4 : Nat) (Option.some Jvm.ClassFile.FieldType.int) [((0 : Nat), (9 : Nat), (12 : Nat), (13 : Nat))]) ∈ ja_T := ja_g (ja_i3 (List.mem_of_getElem? (i := 158) rfl)) rfl
theorem jw_639 : (Jvm.Cond.methodLink "CashMachineLaw" (68 : Nat) ({ cls := "CashMachine", name := "notes", desc := "(I)I" } : Jvm.MethodName)) ∈ ja_T := ja_g (ja_i3 (List.mem_of_getElem? (i := 159) rfl)) rfl
theorem jw_640 : (Jvm.Cond.instanceMethod ({ cls := "CashMachine", name := "notes", desc := "(I)I" } : Jvm.MethodName)) ∈ ja_T := ja_g (ja_i3 (List.mem_of_getElem? (i := 160) rfl)) rfl
theorem jw_641 : (Jvm.Cond.selects "CashMachine" ({ cls := "CashMachine", name := "notes", desc := "(I)I" } : Jvm.MethodName) ({ cls := "CashMachine", name := "notes", desc := "(I)I" } : Jvm.MethodName)) ∈ ja_T := ja_g (ja_i3 (List.mem_of_getElem? (i := 161) rfl)) rfl
theorem jw_642 : (Jvm.Cond.code ({ cls := "CashMachine", name := "notes", desc := "(I)I" } : Jvm.MethodName) prog_1_method_17_code (2 : Nat) (Option.some Jvm.ClassFile.FieldType.int)) ∈ ja_T := ja_g (ja_i3 (List.mem_of_getElem? (i := 162) rfl)) rfl
theorem jw_643 : (Jvm.Cond.methodLink "CashMachineLaw" (139 : Nat) ({ cls := "CashMachineLaw", name := "count", desc := "(LCashMachine;I[J)I" } : Jvm.MethodName)) ∈ ja_T := ja_g (ja_i3 (List.mem_of_getElem? (i := 163) rfl)) rfl
theorem jw_644 : (Jvm.Cond.static ({ cls := "CashMachineLaw", name := "count", desc := "(LCashMachine;I[J)I" } : Jvm.MethodName)) ∈ ja_T := ja_g (ja_i3 (List.mem_of_getElem? (i := 164) rfl)) rfl
theorem jw_645 : (Jvm.Cond.codeWith ({ cls := "CashMachineLaw", name := "count", desc := "(LCashMachine;I[J)I" } : Jvm.MethodName) method_19_code (4 : Nat) (Option.some Jvm.ClassFile.FieldType.int) [((0 : Nat), (9 : Nat), (12 : Nat), (13 : Nat))]) ∈ ja_T := ja_g (ja_i3 (List.mem_of_getElem? (i := 165) rfl)) rfl
theorem jw_646 : (Jvm.Cond.methodLink "CashMachineLaw" (71 : Nat) ({ cls := "CashMachine", name := "count", desc := "(I)I" } : Jvm.MethodName)) ∈ ja_T := ja_g (ja_i3 (List.mem_of_getElem? (i := 166) rfl)) rfl
theorem jw_647 : (Jvm.Cond.instanceMethod ({ cls := "CashMachine", name := "count", desc := "(I)I" } : Jvm.MethodName)) ∈ ja_T := ja_g (ja_i3 (List.mem_of_getElem? (i := 167) rfl)) rfl
theorem jw_648 : (Jvm.Cond.selects "CashMachine" ({ cls := "CashMachine", name := "count", desc := "(I)I" } : Jvm.MethodName) ({ cls := "CashMachine", name := "count", desc := "(I)I" } : Jvm.MethodName)) ∈ ja_T := ja_g (ja_i3 (List.mem_of_getElem? (i := 168) rfl)) rfl
theorem jw_649 : (Jvm.Cond.code ({ cls := "CashMachine", name := "count", desc := "(I)I" } : Jvm.MethodName) prog_1_method_19_code (2 : Nat) (Option.some Jvm.ClassFile.FieldType.int)) ∈ ja_T := ja_g (ja_i3 (List.mem_of_getElem? (i := 169) rfl)) rfl
theorem jw_650 : (Jvm.Cond.methodLink "CashMachine" (198 : Nat) ({ cls := "CashMachine$Host", name := "blockedAccounts", desc := "()I" } : Jvm.MethodName)) ∈ ja_T := ja_g (ja_i3 (List.mem_of_getElem? (i := 170) rfl)) rfl
theorem jw_651 : (Jvm.Cond.instanceMethod ({ cls := "CashMachine$Host", name := "blockedAccounts", desc := "()I" } : Jvm.MethodName)) ∈ ja_T := ja_g (ja_i3 (List.mem_of_getElem? (i := 171) rfl)) rfl
theorem jw_652 : (Jvm.Cond.selects "CashMachine$Host" ({ cls := "CashMachine$Host", name := "blockedAccounts", desc := "()I" } : Jvm.MethodName) ({ cls := "CashMachine$Host", name := "blockedAccounts", desc := "()I" } : Jvm.MethodName)) ∈ ja_T := ja_g (ja_i3 (List.mem_of_getElem? (i := 172) rfl)) rfl
theorem jw_653 : (Jvm.Cond.code ({ cls := "CashMachine$Host", name := "blockedAccounts", desc := "()I" } : Jvm.MethodName) prog_6_method_8_code (6 : Nat) (Option.some Jvm.ClassFile.FieldType.int)) ∈ ja_T := ja_g (ja_i3 (List.mem_of_getElem? (i := 173) rfl)) rfl
theorem jw_654 : (Jvm.Cond.classLink "CashMachineLaw" (75 : Nat) "CashMachineModel") ∈ ja_T := ja_g (ja_i3 (List.mem_of_getElem? (i := 174) rfl)) rfl
theorem jw_655 : (Jvm.Cond.instantiable "CashMachineModel" (30 : Nat)) ∈ ja_T := ja_g (ja_i3 (List.mem_of_getElem? (i := 175) rfl)) rfl
theorem jw_656 : (Jvm.Cond.methodLink "CashMachineLaw" (77 : Nat) ({ cls := "CashMachineModel", name := "<init>", desc := "()V" } : Jvm.MethodName)) ∈ ja_T := ja_g (ja_i3 (List.mem_of_getElem? (i := 176) rfl)) rfl
theorem jw_657 : (Jvm.Cond.instanceMethod ({ cls := "CashMachineModel", name := "<init>", desc := "()V" } : Jvm.MethodName)) ∈ ja_T := ja_g (ja_i3 (List.mem_of_getElem? (i := 177) rfl)) rfl
theorem jw_658 : (Jvm.Cond.code ({ cls := "CashMachineModel", name := "<init>", desc := "()V" } : Jvm.MethodName) prog_12_method_1_code (1 : Nat) (Option.none : Option Jvm.ClassFile.FieldType)) ∈ ja_T := ja_g (ja_i3 (List.mem_of_getElem? (i := 178) rfl)) rfl
theorem jw_659 : (Jvm.Cond.methodLink "CashMachineModel" (1 : Nat) ({ cls := "java/lang/Object", name := "<init>", desc := "()V" } : Jvm.MethodName)) ∈ ja_T := ja_g (ja_i3 (List.mem_of_getElem? (i := 179) rfl)) rfl
theorem jw_660 : (Jvm.Cond.fieldLink "CashMachineModel" (72 : Nat) "CashMachineModel" "thrown" "I") ∈ ja_T := ja_g (ja_i3 (List.mem_of_getElem? (i := 180) rfl)) rfl
theorem jw_661 : (Jvm.Cond.fieldLink "CashMachineModel" (7 : Nat) "CashMachineModel" "opened" "[Z") ∈ ja_T := ja_g (ja_i3 (List.mem_of_getElem? (i := 181) rfl)) rfl
theorem jw_662 : (Jvm.Cond.fieldLink "CashMachineModel" (13 : Nat) "CashMachineModel" "pins" "[I") ∈ ja_T := ja_g (ja_i3 (List.mem_of_getElem? (i := 182) rfl)) rfl
theorem jw_663 : (Jvm.Cond.fieldLink "CashMachineModel" (17 : Nat) "CashMachineModel" "first" "[I") ∈ ja_T := ja_g (ja_i3 (List.mem_of_getElem? (i := 183) rfl)) rfl
theorem jw_664 : (Jvm.Cond.fieldLink "CashMachineModel" (20 : Nat) "CashMachineModel" "balances" "[I") ∈ ja_T := ja_g (ja_i3 (List.mem_of_getElem? (i := 184) rfl)) rfl
theorem jw_665 : (Jvm.Cond.fieldLink "CashMachineModel" (23 : Nat) "CashMachineModel" "tries" "[I") ∈ ja_T := ja_g (ja_i3 (List.mem_of_getElem? (i := 185) rfl)) rfl
theorem jw_666 : (Jvm.Cond.fieldLink "CashMachineModel" (26 : Nat) "CashMachineModel" "blocked" "[Z") ∈ ja_T := ja_g (ja_i3 (List.mem_of_getElem? (i := 186) rfl)) rfl
theorem jw_667 : (Jvm.Cond.fieldLink "CashMachineModel" (29 : Nat) "CashMachineModel" "values" "[I") ∈ ja_T := ja_g (ja_i3 (List.mem_of_getElem? (i := 187) rfl)) rfl
theorem jw_668 : (Jvm.Cond.fieldLink "CashMachineModel" (32 : Nat) "CashMachineModel" "counts" "[I") ∈ ja_T := ja_g (ja_i3 (List.mem_of_getElem? (i := 188) rfl)) rfl
theorem jw_669 : (Jvm.Cond.fieldLink "CashMachineModel" (35 : Nat) "CashMachineModel" "best" "[I") ∈ ja_T := ja_g (ja_i3 (List.mem_of_getElem? (i := 189) rfl)) rfl
theorem jw_670 : (Jvm.Cond.fieldLink "CashMachineModel" (84 : Nat) "CashMachineModel" "down" "Z") ∈ ja_T := ja_g (ja_i3 (List.mem_of_getElem? (i := 190) rfl)) rfl
theorem jw_671 : (Jvm.Cond.fieldLink "CashMachineModel" (38 : Nat) "CashMachineModel" "session" "I") ∈ ja_T := ja_g (ja_i3 (List.mem_of_getElem? (i := 191) rfl)) rfl
theorem jw_672 : (Jvm.Cond.fieldLink "CashMachineModel" (88 : Nat) "CashMachineModel" "verified" "Z") ∈ ja_T := ja_g (ja_i3 (List.mem_of_getElem? (i := 192) rfl)) rfl
theorem jw_673 : (Jvm.Cond.fieldLink "CashMachineModel" (42 : Nat) "CashMachineModel" "state" "[I") ∈ ja_T := ja_g (ja_i3 (List.mem_of_getElem? (i := 193) rfl)) rfl
theorem jw_674 : (Jvm.Cond.fieldLink "CashMachineModel" (45 : Nat) "CashMachineModel" "account" "[I") ∈ ja_T := ja_g (ja_i3 (List.mem_of_getElem? (i := 194) rfl)) rfl
theorem jw_675 : (Jvm.Cond.fieldLink "CashMachineModel" (48 : Nat) "CashMachineModel" "amount" "[I") ∈ ja_T := ja_g (ja_i3 (List.mem_of_getElem? (i := 195) rfl)) rfl
theorem jw_676 : (Jvm.Cond.fieldLink "CashMachineModel" (51 : Nat) "CashMachineModel" "presented" "[I") ∈ ja_T := ja_g (ja_i3 (List.mem_of_getElem? (i := 196) rfl)) rfl
theorem jw_677 : (Jvm.Cond.fieldLink "CashMachineModel" (54 : Nat) "CashMachineModel" "known" "[I") ∈ ja_T := ja_g (ja_i3 (List.mem_of_getElem? (i := 197) rfl)) rfl
theorem jw_678 : (Jvm.Cond.fieldLink "CashMachineModel" (57 : Nat) "CashMachineModel" "reversed" "[Z") ∈ ja_T := ja_g (ja_i3 (List.mem_of_getElem? (i := 198) rfl)) rfl
theorem jw_679 : (Jvm.Cond.fieldLink "CashMachineModel" (149 : Nat) "CashMachineModel" "traces" "I") ∈ ja_T := ja_g (ja_i3 (List.mem_of_getElem? (i := 199) rfl)) rfl
theorem jw_680 : (Jvm.Cond.fieldLink "CashMachineModel" (60 : Nat) "CashMachineModel" "pendingTrace" "[I") ∈ ja_T := ja_g (ja_i3 (List.mem_of_getElem? (i := 200) rfl)) rfl
theorem jw_681 : (Jvm.Cond.fieldLink "CashMachineModel" (63 : Nat) "CashMachineModel" "pendingAmount" "[I") ∈ ja_T := ja_g (ja_i3 (List.mem_of_getElem? (i := 201) rfl)) rfl
theorem jw_682 : (Jvm.Cond.fieldLink "CashMachineModel" (106 : Nat) "CashMachineModel" "pending" "I") ∈ ja_T := ja_g (ja_i3 (List.mem_of_getElem? (i := 202) rfl)) rfl
theorem jw_683 : (Jvm.Cond.fieldLink "CashMachineModel" (66 : Nat) "CashMachineModel" "fates" "[I") ∈ ja_T := ja_g (ja_i3 (List.mem_of_getElem? (i := 203) rfl)) rfl
theorem jw_684 : (Jvm.Cond.fieldLink "CashMachineModel" (103 : Nat) "CashMachineModel" "coming" "I") ∈ ja_T := ja_g (ja_i3 (List.mem_of_getElem? (i := 204) rfl)) rfl
theorem jw_685 : (Jvm.Cond.fieldLink "CashMachineModel" (69 : Nat) "CashMachineModel" "jam" "I") ∈ ja_T := ja_g (ja_i3 (List.mem_of_getElem? (i := 205) rfl)) rfl
theorem jw_686 : (Jvm.Cond.fieldLink "CashMachineModel" (109 : Nat) "CashMachineModel" "power" "I") ∈ ja_T := ja_g (ja_i3 (List.mem_of_getElem? (i := 206) rfl)) rfl
theorem jw_687 : (Jvm.Cond.fieldLink "CashMachineModel" (115 : Nat) "CashMachineModel" "paidTrace" "I") ∈ ja_T := ja_g (ja_i3 (List.mem_of_getElem? (i := 207) rfl)) rfl
theorem jw_688 : (Jvm.Cond.fieldLink "CashMachineModel" (118 : Nat) "CashMachineModel" "paidValue" "I") ∈ ja_T := ja_g (ja_i3 (List.mem_of_getElem? (i := 208) rfl)) rfl
theorem jw_689 : (Jvm.Cond.fieldLink "CashMachineModel" (121 : Nat) "CashMachineModel" "paidAll" "I") ∈ ja_T := ja_g (ja_i3 (List.mem_of_getElem? (i := 209) rfl)) rfl
theorem jw_690 : (Jvm.Cond.lays "CashMachineModel" "CashMachineModel" "thrown" "I") ∈ ja_T := ja_g (ja_i3 (List.mem_of_getElem? (i := 210) rfl)) rfl
theorem jw_691 : (Jvm.Cond.soleField "CashMachineModel" "thrown") ∈ ja_T := ja_g (ja_i3 (List.mem_of_getElem? (i := 211) rfl)) rfl
theorem jw_692 : (Jvm.Cond.laysFinal "CashMachineModel" "CashMachineModel" "opened" "[Z") ∈ ja_T := ja_g (ja_i3 (List.mem_of_getElem? (i := 212) rfl)) rfl
theorem jw_693 : (Jvm.Cond.soleField "CashMachineModel" "opened") ∈ ja_T := ja_g (ja_i3 (List.mem_of_getElem? (i := 213) rfl)) rfl
theorem jw_694 : (Jvm.Cond.laysFinal "CashMachineModel" "CashMachineModel" "pins" "[I") ∈ ja_T := ja_g (ja_i3 (List.mem_of_getElem? (i := 214) rfl)) rfl
theorem jw_695 : (Jvm.Cond.soleField "CashMachineModel" "pins") ∈ ja_T := ja_g (ja_i3 (List.mem_of_getElem? (i := 215) rfl)) rfl
theorem jw_696 : (Jvm.Cond.laysFinal "CashMachineModel" "CashMachineModel" "first" "[I") ∈ ja_T := ja_g (ja_i3 (List.mem_of_getElem? (i := 216) rfl)) rfl
theorem jw_697 : (Jvm.Cond.soleField "CashMachineModel" "first") ∈ ja_T := ja_g (ja_i3 (List.mem_of_getElem? (i := 217) rfl)) rfl
theorem jw_698 : (Jvm.Cond.laysFinal "CashMachineModel" "CashMachineModel" "balances" "[I") ∈ ja_T := ja_g (ja_i3 (List.mem_of_getElem? (i := 218) rfl)) rfl
theorem jw_699 : (Jvm.Cond.soleField "CashMachineModel" "balances") ∈ ja_T := ja_g (ja_i3 (List.mem_of_getElem? (i := 219) rfl)) rfl
theorem jw_700 : (Jvm.Cond.laysFinal "CashMachineModel" "CashMachineModel" "tries" "[I") ∈ ja_T := ja_g (ja_i3 (List.mem_of_getElem? (i := 220) rfl)) rfl
theorem jw_701 : (Jvm.Cond.soleField "CashMachineModel" "tries") ∈ ja_T := ja_g (ja_i3 (List.mem_of_getElem? (i := 221) rfl)) rfl
theorem jw_702 : (Jvm.Cond.laysFinal "CashMachineModel" "CashMachineModel" "blocked" "[Z") ∈ ja_T := ja_g (ja_i3 (List.mem_of_getElem? (i := 222) rfl)) rfl
theorem jw_703 : (Jvm.Cond.soleField "CashMachineModel" "blocked") ∈ ja_T := ja_g (ja_i3 (List.mem_of_getElem? (i := 223) rfl)) rfl
theorem jw_704 : (Jvm.Cond.laysFinal "CashMachineModel" "CashMachineModel" "values" "[I") ∈ ja_T := ja_g (ja_i3 (List.mem_of_getElem? (i := 224) rfl)) rfl
theorem jw_705 : (Jvm.Cond.soleField "CashMachineModel" "values") ∈ ja_T := ja_g (ja_i3 (List.mem_of_getElem? (i := 225) rfl)) rfl
theorem jw_706 : (Jvm.Cond.laysFinal "CashMachineModel" "CashMachineModel" "counts" "[I") ∈ ja_T := ja_g (ja_i3 (List.mem_of_getElem? (i := 226) rfl)) rfl
theorem jw_707 : (Jvm.Cond.soleField "CashMachineModel" "counts") ∈ ja_T := ja_g (ja_i3 (List.mem_of_getElem? (i := 227) rfl)) rfl
theorem jw_708 : (Jvm.Cond.laysFinal "CashMachineModel" "CashMachineModel" "best" "[I") ∈ ja_T := ja_g (ja_i3 (List.mem_of_getElem? (i := 228) rfl)) rfl
theorem jw_709 : (Jvm.Cond.soleField "CashMachineModel" "best") ∈ ja_T := ja_g (ja_i3 (List.mem_of_getElem? (i := 229) rfl)) rfl
theorem jw_710 : (Jvm.Cond.lays "CashMachineModel" "CashMachineModel" "down" "Z") ∈ ja_T := ja_g (ja_i3 (List.mem_of_getElem? (i := 230) rfl)) rfl
theorem jw_711 : (Jvm.Cond.soleField "CashMachineModel" "down") ∈ ja_T := ja_g (ja_i3 (List.mem_of_getElem? (i := 231) rfl)) rfl
theorem jw_712 : (Jvm.Cond.lays "CashMachineModel" "CashMachineModel" "session" "I") ∈ ja_T := ja_g (ja_i3 (List.mem_of_getElem? (i := 232) rfl)) rfl
theorem jw_713 : (Jvm.Cond.soleField "CashMachineModel" "session") ∈ ja_T := ja_g (ja_i3 (List.mem_of_getElem? (i := 233) rfl)) rfl
theorem jw_714 : (Jvm.Cond.lays "CashMachineModel" "CashMachineModel" "verified" "Z") ∈ ja_T := ja_g (ja_i3 (List.mem_of_getElem? (i := 234) rfl)) rfl
theorem jw_715 : (Jvm.Cond.soleField "CashMachineModel" "verified") ∈ ja_T := ja_g (ja_i3 (List.mem_of_getElem? (i := 235) rfl)) rfl
theorem jw_716 : (Jvm.Cond.laysFinal "CashMachineModel" "CashMachineModel" "state" "[I") ∈ ja_T := ja_g (ja_i3 (List.mem_of_getElem? (i := 236) rfl)) rfl
theorem jw_717 : (Jvm.Cond.soleField "CashMachineModel" "state") ∈ ja_T := ja_g (ja_i3 (List.mem_of_getElem? (i := 237) rfl)) rfl
theorem jw_718 : (Jvm.Cond.laysFinal "CashMachineModel" "CashMachineModel" "account" "[I") ∈ ja_T := ja_g (ja_i3 (List.mem_of_getElem? (i := 238) rfl)) rfl
theorem jw_719 : (Jvm.Cond.soleField "CashMachineModel" "account") ∈ ja_T := ja_g (ja_i3 (List.mem_of_getElem? (i := 239) rfl)) rfl
theorem jw_720 : (Jvm.Cond.laysFinal "CashMachineModel" "CashMachineModel" "amount" "[I") ∈ ja_T := ja_g (ja_i4 (List.mem_of_getElem? (i := 0) rfl)) rfl
theorem jw_721 : (Jvm.Cond.soleField "CashMachineModel" "amount") ∈ ja_T := ja_g (ja_i4 (List.mem_of_getElem? (i := 1) rfl)) rfl
theorem jw_722 : (Jvm.Cond.laysFinal "CashMachineModel" "CashMachineModel" "presented" "[I") ∈ ja_T := ja_g (ja_i4 (List.mem_of_getElem? (i := 2) rfl)) rfl
theorem jw_723 : (Jvm.Cond.soleField "CashMachineModel" "presented") ∈ ja_T := ja_g (ja_i4 (List.mem_of_getElem? (i := 3) rfl)) rfl
theorem jw_724 : (Jvm.Cond.laysFinal "CashMachineModel" "CashMachineModel" "known" "[I") ∈ ja_T := ja_g (ja_i4 (List.mem_of_getElem? (i := 4) rfl)) rfl
theorem jw_725 : (Jvm.Cond.soleField "CashMachineModel" "known") ∈ ja_T := ja_g (ja_i4 (List.mem_of_getElem? (i := 5) rfl)) rfl
theorem jw_726 : (Jvm.Cond.laysFinal "CashMachineModel" "CashMachineModel" "reversed" "[Z") ∈ ja_T := ja_g (ja_i4 (List.mem_of_getElem? (i := 6) rfl)) rfl
theorem jw_727 : (Jvm.Cond.soleField "CashMachineModel" "reversed") ∈ ja_T := ja_g (ja_i4 (List.mem_of_getElem? (i := 7) rfl)) rfl
theorem jw_728 : (Jvm.Cond.lays "CashMachineModel" "CashMachineModel" "traces" "I") ∈ ja_T := ja_g (ja_i4 (List.mem_of_getElem? (i := 8) rfl)) rfl
theorem jw_729 : (Jvm.Cond.soleField "CashMachineModel" "traces") ∈ ja_T := ja_g (ja_i4 (List.mem_of_getElem? (i := 9) rfl)) rfl
theorem jw_730 : (Jvm.Cond.laysFinal "CashMachineModel" "CashMachineModel" "pendingTrace" "[I") ∈ ja_T := ja_g (ja_i4 (List.mem_of_getElem? (i := 10) rfl)) rfl
theorem jw_731 : (Jvm.Cond.soleField "CashMachineModel" "pendingTrace") ∈ ja_T := ja_g (ja_i4 (List.mem_of_getElem? (i := 11) rfl)) rfl
theorem jw_732 : (Jvm.Cond.laysFinal "CashMachineModel" "CashMachineModel" "pendingAmount" "[I") ∈ ja_T := ja_g (ja_i4 (List.mem_of_getElem? (i := 12) rfl)) rfl
theorem jw_733 : (Jvm.Cond.soleField "CashMachineModel" "pendingAmount") ∈ ja_T := ja_g (ja_i4 (List.mem_of_getElem? (i := 13) rfl)) rfl
theorem jw_734 : (Jvm.Cond.lays "CashMachineModel" "CashMachineModel" "pending" "I") ∈ ja_T := ja_g (ja_i4 (List.mem_of_getElem? (i := 14) rfl)) rfl
theorem jw_735 : (Jvm.Cond.soleField "CashMachineModel" "pending") ∈ ja_T := ja_g (ja_i4 (List.mem_of_getElem? (i := 15) rfl)) rfl
theorem jw_736 : (Jvm.Cond.laysFinal "CashMachineModel" "CashMachineModel" "fates" "[I") ∈ ja_T := ja_g (ja_i4 (List.mem_of_getElem? (i := 16) rfl)) rfl
theorem jw_737 : (Jvm.Cond.soleField "CashMachineModel" "fates") ∈ ja_T := ja_g (ja_i4 (List.mem_of_getElem? (i := 17) rfl)) rfl
theorem jw_738 : (Jvm.Cond.lays "CashMachineModel" "CashMachineModel" "coming" "I") ∈ ja_T := ja_g (ja_i4 (List.mem_of_getElem? (i := 18) rfl)) rfl
theorem jw_739 : (Jvm.Cond.soleField "CashMachineModel" "coming") ∈ ja_T := ja_g (ja_i4 (List.mem_of_getElem? (i := 19) rfl)) rfl
theorem jw_740 : (Jvm.Cond.lays "CashMachineModel" "CashMachineModel" "jam" "I") ∈ ja_T := ja_g (ja_i4 (List.mem_of_getElem? (i := 20) rfl)) rfl
theorem jw_741 : (Jvm.Cond.soleField "CashMachineModel" "jam") ∈ ja_T := ja_g (ja_i4 (List.mem_of_getElem? (i := 21) rfl)) rfl
theorem jw_742 : (Jvm.Cond.lays "CashMachineModel" "CashMachineModel" "power" "I") ∈ ja_T := ja_g (ja_i4 (List.mem_of_getElem? (i := 22) rfl)) rfl
theorem jw_743 : (Jvm.Cond.soleField "CashMachineModel" "power") ∈ ja_T := ja_g (ja_i4 (List.mem_of_getElem? (i := 23) rfl)) rfl
theorem jw_744 : (Jvm.Cond.lays "CashMachineModel" "CashMachineModel" "paidTrace" "I") ∈ ja_T := ja_g (ja_i4 (List.mem_of_getElem? (i := 24) rfl)) rfl
theorem jw_745 : (Jvm.Cond.soleField "CashMachineModel" "paidTrace") ∈ ja_T := ja_g (ja_i4 (List.mem_of_getElem? (i := 25) rfl)) rfl
theorem jw_746 : (Jvm.Cond.lays "CashMachineModel" "CashMachineModel" "paidValue" "I") ∈ ja_T := ja_g (ja_i4 (List.mem_of_getElem? (i := 26) rfl)) rfl
theorem jw_747 : (Jvm.Cond.soleField "CashMachineModel" "paidValue") ∈ ja_T := ja_g (ja_i4 (List.mem_of_getElem? (i := 27) rfl)) rfl
theorem jw_748 : (Jvm.Cond.lays "CashMachineModel" "CashMachineModel" "paidAll" "I") ∈ ja_T := ja_g (ja_i4 (List.mem_of_getElem? (i := 28) rfl)) rfl
theorem jw_749 : (Jvm.Cond.soleField "CashMachineModel" "paidAll") ∈ ja_T := ja_g (ja_i4 (List.mem_of_getElem? (i := 29) rfl)) rfl
theorem jw_750 : (Jvm.Cond.superclass "CashMachineModel" "java/lang/Object") ∈ ja_T := ja_g (ja_i4 (List.mem_of_getElem? (i := 30) rfl)) rfl
theorem jw_751 : (Jvm.Cond.methodLink "CashMachineLaw" (84 : Nat) ({ cls := "CashMachineModel", name := "thrown", desc := "()I" } : Jvm.MethodName)) ∈ ja_T := ja_g (ja_i4 (List.mem_of_getElem? (i := 31) rfl)) rfl
theorem jw_752 : (Jvm.Cond.instanceMethod ({ cls := "CashMachineModel", name := "thrown", desc := "()I" } : Jvm.MethodName)) ∈ ja_T := ja_g (ja_i4 (List.mem_of_getElem? (i := 32) rfl)) rfl
theorem jw_753 : (Jvm.Cond.selects "CashMachineModel" ({ cls := "CashMachineModel", name := "thrown", desc := "()I" } : Jvm.MethodName) ({ cls := "CashMachineModel", name := "thrown", desc := "()I" } : Jvm.MethodName)) ∈ ja_T := ja_g (ja_i4 (List.mem_of_getElem? (i := 33) rfl)) rfl
theorem jw_754 : (Jvm.Cond.code ({ cls := "CashMachineModel", name := "thrown", desc := "()I" } : Jvm.MethodName) prog_12_method_2_code (1 : Nat) (Option.some Jvm.ClassFile.FieldType.int)) ∈ ja_T := ja_g (ja_i4 (List.mem_of_getElem? (i := 34) rfl)) rfl
theorem jw_755 : (Jvm.Cond.methodLink "CashMachineLaw" (83 : Nat) ({ cls := "CashMachineModel", name := "open", desc := "(III)I" } : Jvm.MethodName)) ∈ ja_T := ja_g (ja_i4 (List.mem_of_getElem? (i := 35) rfl)) rfl
theorem jw_756 : (Jvm.Cond.instanceMethod ({ cls := "CashMachineModel", name := "open", desc := "(III)I" } : Jvm.MethodName)) ∈ ja_T := ja_g (ja_i4 (List.mem_of_getElem? (i := 36) rfl)) rfl
theorem jw_757 : (Jvm.Cond.selects "CashMachineModel" ({ cls := "CashMachineModel", name := "open", desc := "(III)I" } : Jvm.MethodName) ({ cls := "CashMachineModel", name := "open", desc := "(III)I" } : Jvm.MethodName)) ∈ ja_T := ja_g (ja_i4 (List.mem_of_getElem? (i := 37) rfl)) rfl
theorem jw_758 : (Jvm.Cond.code ({ cls := "CashMachineModel", name := "open", desc := "(III)I" } : Jvm.MethodName) prog_12_method_5_code (6 : Nat) (Option.some Jvm.ClassFile.FieldType.int)) ∈ ja_T := ja_g (ja_i4 (List.mem_of_getElem? (i := 38) rfl)) rfl
theorem jw_759 : (Jvm.Cond.methodLink "CashMachineModel" (75 : Nat) ({ cls := "CashMachineModel", name := "in", desc := "(III)Z" } : Jvm.MethodName)) ∈ ja_T := ja_g (ja_i4 (List.mem_of_getElem? (i := 39) rfl)) rfl
theorem jw_760 : (Jvm.Cond.static ({ cls := "CashMachineModel", name := "in", desc := "(III)Z" } : Jvm.MethodName)) ∈ ja_T := ja_g (ja_i4 (List.mem_of_getElem? (i := 40) rfl)) rfl
theorem jw_761 : (Jvm.Cond.code ({ cls := "CashMachineModel", name := "in", desc := "(III)Z" } : Jvm.MethodName) prog_12_method_3_code (3 : Nat) (Option.some Jvm.ClassFile.FieldType.boolean)) ∈ ja_T := ja_g (ja_i4 (List.mem_of_getElem? (i := 41) rfl)) rfl
theorem jw_762 : (Jvm.Cond.constant "CashMachineModel" (79 : Nat) (1000000 : Int32)) ∈ ja_T := ja_g (ja_i4 (List.mem_of_getElem? (i := 42) rfl)) rfl
theorem jw_763 : (Jvm.Cond.methodLink "CashMachineModel" (80 : Nat) ({ cls := "CashMachineModel", name := "fail", desc := "(I)I" } : Jvm.MethodName)) ∈ ja_T := ja_g (ja_i4 (List.mem_of_getElem? (i := 43) rfl)) rfl
theorem jv_764 : (Jvm.Cond.privateMethod ({ cls := "CashMachineModel", name := "fail", desc := "(I)I" } : Jvm.MethodName)) ∈ lw_tbl := ja_i4 (List.mem_of_getElem? (i := 44) rfl)
theorem jw_765 : (Jvm.Cond.instanceMethod ({ cls := "CashMachineModel", name := "fail", desc := "(I)I" } : Jvm.MethodName)) ∈ ja_T := ja_g (ja_i4 (List.mem_of_getElem? (i := 45) rfl)) rfl
theorem jw_766 : (Jvm.Cond.code ({ cls := "CashMachineModel", name := "fail", desc := "(I)I" } : Jvm.MethodName) prog_12_method_4_code (2 : Nat) (Option.some Jvm.ClassFile.FieldType.int)) ∈ ja_T := ja_g (ja_i4 (List.mem_of_getElem? (i := 46) rfl)) rfl
theorem jw_767 : (Jvm.Cond.methodLink "CashMachineLaw" (89 : Nat) ({ cls := "CashMachineModel", name := "load", desc := "(III)I" } : Jvm.MethodName)) ∈ ja_T := ja_g (ja_i4 (List.mem_of_getElem? (i := 47) rfl)) rfl
theorem jw_768 : (Jvm.Cond.instanceMethod ({ cls := "CashMachineModel", name := "load", desc := "(III)I" } : Jvm.MethodName)) ∈ ja_T := ja_g (ja_i4 (List.mem_of_getElem? (i := 48) rfl)) rfl
theorem jw_769 : (Jvm.Cond.selects "CashMachineModel" ({ cls := "CashMachineModel", name := "load", desc := "(III)I" } : Jvm.MethodName) ({ cls := "CashMachineModel", name := "load", desc := "(III)I" } : Jvm.MethodName)) ∈ ja_T := ja_g (ja_i4 (List.mem_of_getElem? (i := 49) rfl)) rfl
theorem jw_770 : (Jvm.Cond.code ({ cls := "CashMachineModel", name := "load", desc := "(III)I" } : Jvm.MethodName) prog_12_method_6_code (5 : Nat) (Option.some Jvm.ClassFile.FieldType.int)) ∈ ja_T := ja_g (ja_i4 (List.mem_of_getElem? (i := 50) rfl)) rfl
theorem jw_771 : (Jvm.Cond.methodLink "CashMachineLaw" (93 : Nat) ({ cls := "CashMachineModel", name := "insert", desc := "(I)I" } : Jvm.MethodName)) ∈ ja_T := ja_g (ja_i4 (List.mem_of_getElem? (i := 51) rfl)) rfl
theorem jw_772 : (Jvm.Cond.instanceMethod ({ cls := "CashMachineModel", name := "insert", desc := "(I)I" } : Jvm.MethodName)) ∈ ja_T := ja_g (ja_i4 (List.mem_of_getElem? (i := 52) rfl)) rfl
theorem jw_773 : (Jvm.Cond.selects "CashMachineModel" ({ cls := "CashMachineModel", name := "insert", desc := "(I)I" } : Jvm.MethodName) ({ cls := "CashMachineModel", name := "insert", desc := "(I)I" } : Jvm.MethodName)) ∈ ja_T := ja_g (ja_i4 (List.mem_of_getElem? (i := 53) rfl)) rfl
theorem jw_774 : (Jvm.Cond.code ({ cls := "CashMachineModel", name := "insert", desc := "(I)I" } : Jvm.MethodName) prog_12_method_7_code (2 : Nat) (Option.some Jvm.ClassFile.FieldType.int)) ∈ ja_T := ja_g (ja_i4 (List.mem_of_getElem? (i := 54) rfl)) rfl
theorem jw_775 : (Jvm.Cond.methodLink "CashMachineLaw" (96 : Nat) ({ cls := "CashMachineModel", name := "pin", desc := "(I)I" } : Jvm.MethodName)) ∈ ja_T := ja_g (ja_i4 (List.mem_of_getElem? (i := 55) rfl)) rfl
theorem jw_776 : (Jvm.Cond.instanceMethod ({ cls := "CashMachineModel", name := "pin", desc := "(I)I" } : Jvm.MethodName)) ∈ ja_T := ja_g (ja_i4 (List.mem_of_getElem? (i := 56) rfl)) rfl
theorem jw_777 : (Jvm.Cond.selects "CashMachineModel" ({ cls := "CashMachineModel", name := "pin", desc := "(I)I" } : Jvm.MethodName) ({ cls := "CashMachineModel", name := "pin", desc := "(I)I" } : Jvm.MethodName)) ∈ ja_T := ja_g (ja_i4 (List.mem_of_getElem? (i := 57) rfl)) rfl
theorem jw_778 : (Jvm.Cond.code ({ cls := "CashMachineModel", name := "pin", desc := "(I)I" } : Jvm.MethodName) prog_12_method_8_code (3 : Nat) (Option.some Jvm.ClassFile.FieldType.int)) ∈ ja_T := ja_g (ja_i4 (List.mem_of_getElem? (i := 58) rfl)) rfl
theorem jw_779 : (Jvm.Cond.methodLink "CashMachineLaw" (100 : Nat) ({ cls := "CashMachineModel", name := "eject", desc := "()I" } : Jvm.MethodName)) ∈ ja_T := ja_g (ja_i4 (List.mem_of_getElem? (i := 59) rfl)) rfl
theorem jw_780 : (Jvm.Cond.instanceMethod ({ cls := "CashMachineModel", name := "eject", desc := "()I" } : Jvm.MethodName)) ∈ ja_T := ja_g (ja_i4 (List.mem_of_getElem? (i := 60) rfl)) rfl
theorem jw_781 : (Jvm.Cond.selects "CashMachineModel" ({ cls := "CashMachineModel", name := "eject", desc := "()I" } : Jvm.MethodName) ({ cls := "CashMachineModel", name := "eject", desc := "()I" } : Jvm.MethodName)) ∈ ja_T := ja_g (ja_i4 (List.mem_of_getElem? (i := 61) rfl)) rfl
theorem jw_782 : (Jvm.Cond.code ({ cls := "CashMachineModel", name := "eject", desc := "()I" } : Jvm.MethodName) prog_12_method_9_code (2 : Nat) (Option.some Jvm.ClassFile.FieldType.int)) ∈ ja_T := ja_g (ja_i4 (List.mem_of_getElem? (i := 62) rfl)) rfl
theorem jw_783 : (Jvm.Cond.methodLink "CashMachineLaw" (103 : Nat) ({ cls := "CashMachineModel", name := "withdraw", desc := "(I)I" } : Jvm.MethodName)) ∈ ja_T := ja_g (ja_i4 (List.mem_of_getElem? (i := 63) rfl)) rfl
theorem jw_784 : (Jvm.Cond.instanceMethod ({ cls := "CashMachineModel", name := "withdraw", desc := "(I)I" } : Jvm.MethodName)) ∈ ja_T := ja_g (ja_i4 (List.mem_of_getElem? (i := 64) rfl)) rfl
theorem jw_785 : (Jvm.Cond.selects "CashMachineModel" ({ cls := "CashMachineModel", name := "withdraw", desc := "(I)I" } : Jvm.MethodName) ({ cls := "CashMachineModel", name := "withdraw", desc := "(I)I" } : Jvm.MethodName)) ∈ ja_T := ja_g (ja_i4 (List.mem_of_getElem? (i := 65) rfl)) rfl
theorem jw_786 : (Jvm.Cond.code ({ cls := "CashMachineModel", name := "withdraw", desc := "(I)I" } : Jvm.MethodName) prog_12_method_23_code (2 : Nat) (Option.some Jvm.ClassFile.FieldType.int)) ∈ ja_T := ja_g (ja_i4 (List.mem_of_getElem? (i := 66) rfl)) rfl
theorem jw_787 : (Jvm.Cond.methodLink "CashMachineModel" (146 : Nat) ({ cls := "CashMachineModel", name := "mixed", desc := "(I)Z" } : Jvm.MethodName)) ∈ ja_T := ja_g (ja_i4 (List.mem_of_getElem? (i := 67) rfl)) rfl
theorem jv_788 : (Jvm.Cond.privateMethod ({ cls := "CashMachineModel", name := "mixed", desc := "(I)Z" } : Jvm.MethodName)) ∈ lw_tbl := ja_i4 (List.mem_of_getElem? (i := 68) rfl)
theorem jw_789 : (Jvm.Cond.instanceMethod ({ cls := "CashMachineModel", name := "mixed", desc := "(I)Z" } : Jvm.MethodName)) ∈ ja_T := ja_g (ja_i4 (List.mem_of_getElem? (i := 69) rfl)) rfl
theorem jw_790 : (Jvm.Cond.code ({ cls := "CashMachineModel", name := "mixed", desc := "(I)Z" } : Jvm.MethodName) prog_12_method_13_code (5 : Nat) (Option.some Jvm.ClassFile.FieldType.boolean)) ∈ ja_T := ja_g (ja_i4 (List.mem_of_getElem? (i := 70) rfl)) rfl
theorem jw_791 : (Jvm.Cond.methodLink "CashMachineModel" (99 : Nat) ({ cls := "CashMachineModel", name := "thirds", desc := "(IIIZ)Z" } : Jvm.MethodName)) ∈ ja_T := ja_g (ja_i4 (List.mem_of_getElem? (i := 71) rfl)) rfl
theorem jv_792 : (Jvm.Cond.privateMethod ({ cls := "CashMachineModel", name := "thirds", desc := "(IIIZ)Z" } : Jvm.MethodName)) ∈ lw_tbl := ja_i4 (List.mem_of_getElem? (i := 72) rfl)
theorem jw_793 : (Jvm.Cond.instanceMethod ({ cls := "CashMachineModel", name := "thirds", desc := "(IIIZ)Z" } : Jvm.MethodName)) ∈ ja_T := ja_g (ja_i4 (List.mem_of_getElem? (i := 73) rfl)) rfl
theorem jw_794 : (Jvm.Cond.code ({ cls := "CashMachineModel", name := "thirds", desc := "(IIIZ)Z" } : Jvm.MethodName) prog_12_method_12_code (7 : Nat) (Option.some Jvm.ClassFile.FieldType.boolean)) ∈ ja_T := ja_g (ja_i4 (List.mem_of_getElem? (i := 74) rfl)) rfl
theorem jw_795 : (Jvm.Cond.methodLink "CashMachineModel" (95 : Nat) ({ cls := "CashMachineModel", name := "better", desc := "(IIIIZ)Z" } : Jvm.MethodName)) ∈ ja_T := ja_g (ja_i4 (List.mem_of_getElem? (i := 75) rfl)) rfl
theorem jv_796 : (Jvm.Cond.privateMethod ({ cls := "CashMachineModel", name := "better", desc := "(IIIIZ)Z" } : Jvm.MethodName)) ∈ lw_tbl := ja_i4 (List.mem_of_getElem? (i := 76) rfl)
theorem jw_797 : (Jvm.Cond.instanceMethod ({ cls := "CashMachineModel", name := "better", desc := "(IIIIZ)Z" } : Jvm.MethodName)) ∈ ja_T := ja_g (ja_i4 (List.mem_of_getElem? (i := 77) rfl)) rfl
theorem jw_798 : (Jvm.Cond.code ({ cls := "CashMachineModel", name := "better", desc := "(IIIIZ)Z" } : Jvm.MethodName) prog_12_method_11_code (8 : Nat) (Option.some Jvm.ClassFile.FieldType.boolean)) ∈ ja_T := ja_g (ja_i4 (List.mem_of_getElem? (i := 78) rfl)) rfl
theorem jw_799 : (Jvm.Cond.methodLink "CashMachineModel" (91 : Nat) ({ cls := "CashMachineModel", name := "notesOf", desc := "(IIII)I" } : Jvm.MethodName)) ∈ ja_T := ja_g (ja_i4 (List.mem_of_getElem? (i := 79) rfl)) rfl
theorem jv_800 : (Jvm.Cond.privateMethod ({ cls := "CashMachineModel", name := "notesOf", desc := "(IIII)I" } : Jvm.MethodName)) ∈ lw_tbl := ja_i4 (List.mem_of_getElem? (i := 80) rfl)
theorem jw_801 : (Jvm.Cond.instanceMethod ({ cls := "CashMachineModel", name := "notesOf", desc := "(IIII)I" } : Jvm.MethodName)) ∈ ja_T := ja_g (ja_i4 (List.mem_of_getElem? (i := 81) rfl)) rfl
theorem jw_802 : (Jvm.Cond.code ({ cls := "CashMachineModel", name := "notesOf", desc := "(IIII)I" } : Jvm.MethodName) prog_12_method_10_code (5 : Nat) (Option.some Jvm.ClassFile.FieldType.int)) ∈ ja_T := ja_g (ja_i4 (List.mem_of_getElem? (i := 82) rfl)) rfl
theorem jw_803 : (Jvm.Cond.methodLink "CashMachineModel" (152 : Nat) ({ cls := "CashMachineModel", name := "give", desc := "(I)I" } : Jvm.MethodName)) ∈ ja_T := ja_g (ja_i4 (List.mem_of_getElem? (i := 83) rfl)) rfl
theorem jv_804 : (Jvm.Cond.privateMethod ({ cls := "CashMachineModel", name := "give", desc := "(I)I" } : Jvm.MethodName)) ∈ lw_tbl := ja_i4 (List.mem_of_getElem? (i := 84) rfl)
theorem jw_805 : (Jvm.Cond.instanceMethod ({ cls := "CashMachineModel", name := "give", desc := "(I)I" } : Jvm.MethodName)) ∈ ja_T := ja_g (ja_i4 (List.mem_of_getElem? (i := 85) rfl)) rfl
theorem jw_806 : (Jvm.Cond.code ({ cls := "CashMachineModel", name := "give", desc := "(I)I" } : Jvm.MethodName) prog_12_method_22_code (3 : Nat) (Option.some Jvm.ClassFile.FieldType.int)) ∈ ja_T := ja_g (ja_i4 (List.mem_of_getElem? (i := 86) rfl)) rfl
theorem jw_807 : (Jvm.Cond.methodLink "CashMachineModel" (128 : Nat) ({ cls := "CashMachineModel", name := "cut", desc := "(I)Z" } : Jvm.MethodName)) ∈ ja_T := ja_g (ja_i4 (List.mem_of_getElem? (i := 87) rfl)) rfl
theorem jv_808 : (Jvm.Cond.privateMethod ({ cls := "CashMachineModel", name := "cut", desc := "(I)Z" } : Jvm.MethodName)) ∈ lw_tbl := ja_i4 (List.mem_of_getElem? (i := 88) rfl)
theorem jw_809 : (Jvm.Cond.instanceMethod ({ cls := "CashMachineModel", name := "cut", desc := "(I)Z" } : Jvm.MethodName)) ∈ ja_T := ja_g (ja_i4 (List.mem_of_getElem? (i := 89) rfl)) rfl
theorem jw_810 : (Jvm.Cond.code ({ cls := "CashMachineModel", name := "cut", desc := "(I)Z" } : Jvm.MethodName) prog_12_method_18_code (2 : Nat) (Option.some Jvm.ClassFile.FieldType.boolean)) ∈ ja_T := ja_g (ja_i4 (List.mem_of_getElem? (i := 90) rfl)) rfl
theorem jw_811 : (Jvm.Cond.methodLink "CashMachineModel" (132 : Nat) ({ cls := "CashMachineModel", name := "fate", desc := "()I" } : Jvm.MethodName)) ∈ ja_T := ja_g (ja_i4 (List.mem_of_getElem? (i := 91) rfl)) rfl
theorem jv_812 : (Jvm.Cond.privateMethod ({ cls := "CashMachineModel", name := "fate", desc := "()I" } : Jvm.MethodName)) ∈ lw_tbl := ja_i4 (List.mem_of_getElem? (i := 92) rfl)
theorem jw_813 : (Jvm.Cond.instanceMethod ({ cls := "CashMachineModel", name := "fate", desc := "()I" } : Jvm.MethodName)) ∈ ja_T := ja_g (ja_i4 (List.mem_of_getElem? (i := 93) rfl)) rfl
theorem jw_814 : (Jvm.Cond.code ({ cls := "CashMachineModel", name := "fate", desc := "()I" } : Jvm.MethodName) prog_12_method_16_code (3 : Nat) (Option.some Jvm.ClassFile.FieldType.int)) ∈ ja_T := ja_g (ja_i4 (List.mem_of_getElem? (i := 94) rfl)) rfl
theorem jw_815 : (Jvm.Cond.methodLink "CashMachineModel" (136 : Nat) ({ cls := "CashMachineModel", name := "request", desc := "(I)V" } : Jvm.MethodName)) ∈ ja_T := ja_g (ja_i4 (List.mem_of_getElem? (i := 95) rfl)) rfl
theorem jv_816 : (Jvm.Cond.privateMethod ({ cls := "CashMachineModel", name := "request", desc := "(I)V" } : Jvm.MethodName)) ∈ lw_tbl := ja_i4 (List.mem_of_getElem? (i := 96) rfl)
theorem jw_817 : (Jvm.Cond.instanceMethod ({ cls := "CashMachineModel", name := "request", desc := "(I)V" } : Jvm.MethodName)) ∈ ja_T := ja_g (ja_i4 (List.mem_of_getElem? (i := 97) rfl)) rfl
theorem jw_818 : (Jvm.Cond.code ({ cls := "CashMachineModel", name := "request", desc := "(I)V" } : Jvm.MethodName) prog_12_method_14_code (3 : Nat) (Option.none : Option Jvm.ClassFile.FieldType)) ∈ ja_T := ja_g (ja_i4 (List.mem_of_getElem? (i := 98) rfl)) rfl
theorem jw_819 : (Jvm.Cond.methodLink "CashMachineModel" (124 : Nat) ({ cls := "CashMachineModel", name := "owe", desc := "(II)V" } : Jvm.MethodName)) ∈ ja_T := ja_g (ja_i4 (List.mem_of_getElem? (i := 99) rfl)) rfl
theorem jv_820 : (Jvm.Cond.privateMethod ({ cls := "CashMachineModel", name := "owe", desc := "(II)V" } : Jvm.MethodName)) ∈ lw_tbl := ja_i4 (List.mem_of_getElem? (i := 100) rfl)
theorem jw_821 : (Jvm.Cond.instanceMethod ({ cls := "CashMachineModel", name := "owe", desc := "(II)V" } : Jvm.MethodName)) ∈ ja_T := ja_g (ja_i4 (List.mem_of_getElem? (i := 101) rfl)) rfl
theorem jw_822 : (Jvm.Cond.code ({ cls := "CashMachineModel", name := "owe", desc := "(II)V" } : Jvm.MethodName) prog_12_method_17_code (3 : Nat) (Option.none : Option Jvm.ClassFile.FieldType)) ∈ ja_T := ja_g (ja_i4 (List.mem_of_getElem? (i := 102) rfl)) rfl
theorem jw_823 : (Jvm.Cond.methodLink "CashMachineModel" (140 : Nat) ({ cls := "CashMachineModel", name := "pay", desc := "(I)V" } : Jvm.MethodName)) ∈ ja_T := ja_g (ja_i4 (List.mem_of_getElem? (i := 103) rfl)) rfl
theorem jv_824 : (Jvm.Cond.privateMethod ({ cls := "CashMachineModel", name := "pay", desc := "(I)V" } : Jvm.MethodName)) ∈ lw_tbl := ja_i4 (List.mem_of_getElem? (i := 104) rfl)
theorem jw_825 : (Jvm.Cond.instanceMethod ({ cls := "CashMachineModel", name := "pay", desc := "(I)V" } : Jvm.MethodName)) ∈ ja_T := ja_g (ja_i4 (List.mem_of_getElem? (i := 105) rfl)) rfl
theorem jw_826 : (Jvm.Cond.code ({ cls := "CashMachineModel", name := "pay", desc := "(I)V" } : Jvm.MethodName) prog_12_method_20_code (8 : Nat) (Option.none : Option Jvm.ClassFile.FieldType)) ∈ ja_T := ja_g (ja_i4 (List.mem_of_getElem? (i := 106) rfl)) rfl
theorem jw_827 : (Jvm.Cond.methodLink "CashMachineModel" (112 : Nat) ({ cls := "CashMachineModel", name := "greatest", desc := "(I)I" } : Jvm.MethodName)) ∈ ja_T := ja_g (ja_i4 (List.mem_of_getElem? (i := 107) rfl)) rfl
theorem jv_828 : (Jvm.Cond.privateMethod ({ cls := "CashMachineModel", name := "greatest", desc := "(I)I" } : Jvm.MethodName)) ∈ lw_tbl := ja_i4 (List.mem_of_getElem? (i := 108) rfl)
theorem jw_829 : (Jvm.Cond.instanceMethod ({ cls := "CashMachineModel", name := "greatest", desc := "(I)I" } : Jvm.MethodName)) ∈ ja_T := ja_g (ja_i4 (List.mem_of_getElem? (i := 109) rfl)) rfl
theorem jw_830 : (Jvm.Cond.code ({ cls := "CashMachineModel", name := "greatest", desc := "(I)I" } : Jvm.MethodName) prog_12_method_19_code (4 : Nat) (Option.some Jvm.ClassFile.FieldType.int)) ∈ ja_T := ja_g (ja_i4 (List.mem_of_getElem? (i := 110) rfl)) rfl
theorem jw_831 : (Jvm.Cond.methodLink "CashMachineModel" (143 : Nat) ({ cls := "CashMachineModel", name := "finish", desc := "(II)V" } : Jvm.MethodName)) ∈ ja_T := ja_g (ja_i4 (List.mem_of_getElem? (i := 111) rfl)) rfl
theorem jv_832 : (Jvm.Cond.privateMethod ({ cls := "CashMachineModel", name := "finish", desc := "(II)V" } : Jvm.MethodName)) ∈ lw_tbl := ja_i4 (List.mem_of_getElem? (i := 112) rfl)
theorem jw_833 : (Jvm.Cond.instanceMethod ({ cls := "CashMachineModel", name := "finish", desc := "(II)V" } : Jvm.MethodName)) ∈ ja_T := ja_g (ja_i4 (List.mem_of_getElem? (i := 113) rfl)) rfl
theorem jw_834 : (Jvm.Cond.code ({ cls := "CashMachineModel", name := "finish", desc := "(II)V" } : Jvm.MethodName) prog_12_method_21_code (3 : Nat) (Option.none : Option Jvm.ClassFile.FieldType)) ∈ ja_T := ja_g (ja_i4 (List.mem_of_getElem? (i := 114) rfl)) rfl
theorem jw_835 : (Jvm.Cond.methodLink "CashMachineLaw" (107 : Nat) ({ cls := "CashMachineModel", name := "mix", desc := "(II)I" } : Jvm.MethodName)) ∈ ja_T := ja_g (ja_i4 (List.mem_of_getElem? (i := 115) rfl)) rfl
theorem jw_836 : (Jvm.Cond.instanceMethod ({ cls := "CashMachineModel", name := "mix", desc := "(II)I" } : Jvm.MethodName)) ∈ ja_T := ja_g (ja_i4 (List.mem_of_getElem? (i := 116) rfl)) rfl
theorem jw_837 : (Jvm.Cond.selects "CashMachineModel" ({ cls := "CashMachineModel", name := "mix", desc := "(II)I" } : Jvm.MethodName) ({ cls := "CashMachineModel", name := "mix", desc := "(II)I" } : Jvm.MethodName)) ∈ ja_T := ja_g (ja_i4 (List.mem_of_getElem? (i := 117) rfl)) rfl
theorem jw_838 : (Jvm.Cond.code ({ cls := "CashMachineModel", name := "mix", desc := "(II)I" } : Jvm.MethodName) prog_12_method_24_code (3 : Nat) (Option.some Jvm.ClassFile.FieldType.int)) ∈ ja_T := ja_g (ja_i4 (List.mem_of_getElem? (i := 118) rfl)) rfl
theorem jw_839 : (Jvm.Cond.methodLink "CashMachineLaw" (110 : Nat) ({ cls := "CashMachineModel", name := "line", desc := "(I)I" } : Jvm.MethodName)) ∈ ja_T := ja_g (ja_i4 (List.mem_of_getElem? (i := 119) rfl)) rfl
theorem jw_840 : (Jvm.Cond.instanceMethod ({ cls := "CashMachineModel", name := "line", desc := "(I)I" } : Jvm.MethodName)) ∈ ja_T := ja_g (ja_i4 (List.mem_of_getElem? (i := 120) rfl)) rfl
theorem jw_841 : (Jvm.Cond.selects "CashMachineModel" ({ cls := "CashMachineModel", name := "line", desc := "(I)I" } : Jvm.MethodName) ({ cls := "CashMachineModel", name := "line", desc := "(I)I" } : Jvm.MethodName)) ∈ ja_T := ja_g (ja_i4 (List.mem_of_getElem? (i := 121) rfl)) rfl
theorem jw_842 : (Jvm.Cond.code ({ cls := "CashMachineModel", name := "line", desc := "(I)I" } : Jvm.MethodName) prog_12_method_25_code (2 : Nat) (Option.some Jvm.ClassFile.FieldType.int)) ∈ ja_T := ja_g (ja_i4 (List.mem_of_getElem? (i := 122) rfl)) rfl
theorem jw_843 : (Jvm.Cond.methodLink "CashMachineLaw" (113 : Nat) ({ cls := "CashMachineModel", name := "jam", desc := "(I)I" } : Jvm.MethodName)) ∈ ja_T := ja_g (ja_i4 (List.mem_of_getElem? (i := 123) rfl)) rfl
theorem jw_844 : (Jvm.Cond.instanceMethod ({ cls := "CashMachineModel", name := "jam", desc := "(I)I" } : Jvm.MethodName)) ∈ ja_T := ja_g (ja_i4 (List.mem_of_getElem? (i := 124) rfl)) rfl
theorem jw_845 : (Jvm.Cond.selects "CashMachineModel" ({ cls := "CashMachineModel", name := "jam", desc := "(I)I" } : Jvm.MethodName) ({ cls := "CashMachineModel", name := "jam", desc := "(I)I" } : Jvm.MethodName)) ∈ ja_T := ja_g (ja_i4 (List.mem_of_getElem? (i := 125) rfl)) rfl
theorem jw_846 : (Jvm.Cond.code ({ cls := "CashMachineModel", name := "jam", desc := "(I)I" } : Jvm.MethodName) prog_12_method_26_code (2 : Nat) (Option.some Jvm.ClassFile.FieldType.int)) ∈ ja_T := ja_g (ja_i4 (List.mem_of_getElem? (i := 126) rfl)) rfl
theorem jw_847 : (Jvm.Cond.methodLink "CashMachineLaw" (116 : Nat) ({ cls := "CashMachineModel", name := "power", desc := "(I)I" } : Jvm.MethodName)) ∈ ja_T := ja_g (ja_i4 (List.mem_of_getElem? (i := 127) rfl)) rfl
theorem jw_848 : (Jvm.Cond.instanceMethod ({ cls := "CashMachineModel", name := "power", desc := "(I)I" } : Jvm.MethodName)) ∈ ja_T := ja_g (ja_i4 (List.mem_of_getElem? (i := 128) rfl)) rfl
theorem jw_849 : (Jvm.Cond.selects "CashMachineModel" ({ cls := "CashMachineModel", name := "power", desc := "(I)I" } : Jvm.MethodName) ({ cls := "CashMachineModel", name := "power", desc := "(I)I" } : Jvm.MethodName)) ∈ ja_T := ja_g (ja_i4 (List.mem_of_getElem? (i := 129) rfl)) rfl
theorem jw_850 : (Jvm.Cond.code ({ cls := "CashMachineModel", name := "power", desc := "(I)I" } : Jvm.MethodName) prog_12_method_27_code (2 : Nat) (Option.some Jvm.ClassFile.FieldType.int)) ∈ ja_T := ja_g (ja_i4 (List.mem_of_getElem? (i := 130) rfl)) rfl
theorem jw_851 : (Jvm.Cond.methodLink "CashMachineLaw" (119 : Nat) ({ cls := "CashMachineModel", name := "boot", desc := "()I" } : Jvm.MethodName)) ∈ ja_T := ja_g (ja_i4 (List.mem_of_getElem? (i := 131) rfl)) rfl
theorem jw_852 : (Jvm.Cond.instanceMethod ({ cls := "CashMachineModel", name := "boot", desc := "()I" } : Jvm.MethodName)) ∈ ja_T := ja_g (ja_i4 (List.mem_of_getElem? (i := 132) rfl)) rfl
theorem jw_853 : (Jvm.Cond.selects "CashMachineModel" ({ cls := "CashMachineModel", name := "boot", desc := "()I" } : Jvm.MethodName) ({ cls := "CashMachineModel", name := "boot", desc := "()I" } : Jvm.MethodName)) ∈ ja_T := ja_g (ja_i4 (List.mem_of_getElem? (i := 133) rfl)) rfl
theorem jw_854 : (Jvm.Cond.code ({ cls := "CashMachineModel", name := "boot", desc := "()I" } : Jvm.MethodName) prog_12_method_28_code (2 : Nat) (Option.some Jvm.ClassFile.FieldType.int)) ∈ ja_T := ja_g (ja_i4 (List.mem_of_getElem? (i := 134) rfl)) rfl
theorem jw_855 : (Jvm.Cond.methodLink "CashMachineLaw" (122 : Nat) ({ cls := "CashMachineModel", name := "settle", desc := "()I" } : Jvm.MethodName)) ∈ ja_T := ja_g (ja_i4 (List.mem_of_getElem? (i := 135) rfl)) rfl
theorem jw_856 : (Jvm.Cond.instanceMethod ({ cls := "CashMachineModel", name := "settle", desc := "()I" } : Jvm.MethodName)) ∈ ja_T := ja_g (ja_i4 (List.mem_of_getElem? (i := 136) rfl)) rfl
theorem jw_857 : (Jvm.Cond.selects "CashMachineModel" ({ cls := "CashMachineModel", name := "settle", desc := "()I" } : Jvm.MethodName) ({ cls := "CashMachineModel", name := "settle", desc := "()I" } : Jvm.MethodName)) ∈ ja_T := ja_g (ja_i4 (List.mem_of_getElem? (i := 137) rfl)) rfl
theorem jw_858 : (Jvm.Cond.code ({ cls := "CashMachineModel", name := "settle", desc := "()I" } : Jvm.MethodName) prog_12_method_29_code (5 : Nat) (Option.some Jvm.ClassFile.FieldType.int)) ∈ ja_T := ja_g (ja_i4 (List.mem_of_getElem? (i := 138) rfl)) rfl
theorem jw_859 : (Jvm.Cond.methodLink "CashMachineModel" (155 : Nat) ({ cls := "CashMachineModel", name := "reversalCame", desc := "(II)V" } : Jvm.MethodName)) ∈ ja_T := ja_g (ja_i4 (List.mem_of_getElem? (i := 139) rfl)) rfl
theorem jv_860 : (Jvm.Cond.privateMethod ({ cls := "CashMachineModel", name := "reversalCame", desc := "(II)V" } : Jvm.MethodName)) ∈ lw_tbl := ja_i4 (List.mem_of_getElem? (i := 140) rfl)
theorem jw_861 : (Jvm.Cond.instanceMethod ({ cls := "CashMachineModel", name := "reversalCame", desc := "(II)V" } : Jvm.MethodName)) ∈ ja_T := ja_g (ja_i4 (List.mem_of_getElem? (i := 141) rfl)) rfl
theorem jw_862 : (Jvm.Cond.code ({ cls := "CashMachineModel", name := "reversalCame", desc := "(II)V" } : Jvm.MethodName) prog_12_method_15_code (3 : Nat) (Option.none : Option Jvm.ClassFile.FieldType)) ∈ ja_T := ja_g (ja_i4 (List.mem_of_getElem? (i := 142) rfl)) rfl
theorem jw_863 : (Jvm.Cond.methodLink "CashMachineLaw" (125 : Nat) ({ cls := "CashMachineModel", name := "balance", desc := "(I)I" } : Jvm.MethodName)) ∈ ja_T := ja_g (ja_i4 (List.mem_of_getElem? (i := 143) rfl)) rfl
theorem jw_864 : (Jvm.Cond.instanceMethod ({ cls := "CashMachineModel", name := "balance", desc := "(I)I" } : Jvm.MethodName)) ∈ ja_T := ja_g (ja_i4 (List.mem_of_getElem? (i := 144) rfl)) rfl
theorem jw_865 : (Jvm.Cond.selects "CashMachineModel" ({ cls := "CashMachineModel", name := "balance", desc := "(I)I" } : Jvm.MethodName) ({ cls := "CashMachineModel", name := "balance", desc := "(I)I" } : Jvm.MethodName)) ∈ ja_T := ja_g (ja_i4 (List.mem_of_getElem? (i := 145) rfl)) rfl
theorem jw_866 : (Jvm.Cond.code ({ cls := "CashMachineModel", name := "balance", desc := "(I)I" } : Jvm.MethodName) prog_12_method_30_code (2 : Nat) (Option.some Jvm.ClassFile.FieldType.int)) ∈ ja_T := ja_g (ja_i4 (List.mem_of_getElem? (i := 146) rfl)) rfl
theorem jw_867 : (Jvm.Cond.methodLink "CashMachineLaw" (128 : Nat) ({ cls := "CashMachineModel", name := "trace", desc := "(II)I" } : Jvm.MethodName)) ∈ ja_T := ja_g (ja_i4 (List.mem_of_getElem? (i := 147) rfl)) rfl
theorem jw_868 : (Jvm.Cond.instanceMethod ({ cls := "CashMachineModel", name := "trace", desc := "(II)I" } : Jvm.MethodName)) ∈ ja_T := ja_g (ja_i4 (List.mem_of_getElem? (i := 148) rfl)) rfl
theorem jw_869 : (Jvm.Cond.selects "CashMachineModel" ({ cls := "CashMachineModel", name := "trace", desc := "(II)I" } : Jvm.MethodName) ({ cls := "CashMachineModel", name := "trace", desc := "(II)I" } : Jvm.MethodName)) ∈ ja_T := ja_g (ja_i4 (List.mem_of_getElem? (i := 149) rfl)) rfl
theorem jw_870 : (Jvm.Cond.code ({ cls := "CashMachineModel", name := "trace", desc := "(II)I" } : Jvm.MethodName) prog_12_method_31_code (3 : Nat) (Option.some Jvm.ClassFile.FieldType.int)) ∈ ja_T := ja_g (ja_i4 (List.mem_of_getElem? (i := 150) rfl)) rfl
theorem jw_871 : (Jvm.Cond.methodLink "CashMachineLaw" (131 : Nat) ({ cls := "CashMachineModel", name := "reversal", desc := "(I)I" } : Jvm.MethodName)) ∈ ja_T := ja_g (ja_i4 (List.mem_of_getElem? (i := 151) rfl)) rfl
theorem jw_872 : (Jvm.Cond.instanceMethod ({ cls := "CashMachineModel", name := "reversal", desc := "(I)I" } : Jvm.MethodName)) ∈ ja_T := ja_g (ja_i4 (List.mem_of_getElem? (i := 152) rfl)) rfl
theorem jw_873 : (Jvm.Cond.selects "CashMachineModel" ({ cls := "CashMachineModel", name := "reversal", desc := "(I)I" } : Jvm.MethodName) ({ cls := "CashMachineModel", name := "reversal", desc := "(I)I" } : Jvm.MethodName)) ∈ ja_T := ja_g (ja_i4 (List.mem_of_getElem? (i := 153) rfl)) rfl
theorem jw_874 : (Jvm.Cond.code ({ cls := "CashMachineModel", name := "reversal", desc := "(I)I" } : Jvm.MethodName) prog_12_method_32_code (2 : Nat) (Option.some Jvm.ClassFile.FieldType.int)) ∈ ja_T := ja_g (ja_i4 (List.mem_of_getElem? (i := 154) rfl)) rfl
theorem jw_875 : (Jvm.Cond.methodLink "CashMachineLaw" (134 : Nat) ({ cls := "CashMachineModel", name := "notes", desc := "(I)I" } : Jvm.MethodName)) ∈ ja_T := ja_g (ja_i4 (List.mem_of_getElem? (i := 155) rfl)) rfl
theorem jw_876 : (Jvm.Cond.instanceMethod ({ cls := "CashMachineModel", name := "notes", desc := "(I)I" } : Jvm.MethodName)) ∈ ja_T := ja_g (ja_i4 (List.mem_of_getElem? (i := 156) rfl)) rfl
theorem jw_877 : (Jvm.Cond.selects "CashMachineModel" ({ cls := "CashMachineModel", name := "notes", desc := "(I)I" } : Jvm.MethodName) ({ cls := "CashMachineModel", name := "notes", desc := "(I)I" } : Jvm.MethodName)) ∈ ja_T := ja_g (ja_i4 (List.mem_of_getElem? (i := 157) rfl)) rfl
theorem jw_878 : (Jvm.Cond.code ({ cls := "CashMachineModel", name := "notes", desc := "(I)I" } : Jvm.MethodName) prog_12_method_33_code (2 : Nat) (Option.some Jvm.ClassFile.FieldType.int)) ∈ ja_T := ja_g (ja_i4 (List.mem_of_getElem? (i := 158) rfl)) rfl
theorem jw_879 : (Jvm.Cond.methodLink "CashMachineLaw" (138 : Nat) ({ cls := "CashMachineModel", name := "difference", desc := "()I" } : Jvm.MethodName)) ∈ ja_T := ja_g (ja_i4 (List.mem_of_getElem? (i := 159) rfl)) rfl
theorem jw_880 : (Jvm.Cond.instanceMethod ({ cls := "CashMachineModel", name := "difference", desc := "()I" } : Jvm.MethodName)) ∈ ja_T := ja_g (ja_i4 (List.mem_of_getElem? (i := 160) rfl)) rfl
theorem jw_881 : (Jvm.Cond.selects "CashMachineModel" ({ cls := "CashMachineModel", name := "difference", desc := "()I" } : Jvm.MethodName) ({ cls := "CashMachineModel", name := "difference", desc := "()I" } : Jvm.MethodName)) ∈ ja_T := ja_g (ja_i4 (List.mem_of_getElem? (i := 161) rfl)) rfl
theorem jw_882 : (Jvm.Cond.code ({ cls := "CashMachineModel", name := "difference", desc := "()I" } : Jvm.MethodName) prog_12_method_34_code (3 : Nat) (Option.some Jvm.ClassFile.FieldType.int)) ∈ ja_T := ja_g (ja_i4 (List.mem_of_getElem? (i := 162) rfl)) rfl
theorem jw_883 : (Jvm.Cond.methodLink "CashMachineLaw" (141 : Nat) ({ cls := "CashMachineModel", name := "count", desc := "(I)I" } : Jvm.MethodName)) ∈ ja_T := ja_g (ja_i4 (List.mem_of_getElem? (i := 163) rfl)) rfl
theorem jw_884 : (Jvm.Cond.instanceMethod ({ cls := "CashMachineModel", name := "count", desc := "(I)I" } : Jvm.MethodName)) ∈ ja_T := ja_g (ja_i4 (List.mem_of_getElem? (i := 164) rfl)) rfl
theorem jw_885 : (Jvm.Cond.selects "CashMachineModel" ({ cls := "CashMachineModel", name := "count", desc := "(I)I" } : Jvm.MethodName) ({ cls := "CashMachineModel", name := "count", desc := "(I)I" } : Jvm.MethodName)) ∈ ja_T := ja_g (ja_i4 (List.mem_of_getElem? (i := 165) rfl)) rfl
theorem jw_886 : (Jvm.Cond.code ({ cls := "CashMachineModel", name := "count", desc := "(I)I" } : Jvm.MethodName) prog_12_method_35_code (4 : Nat) (Option.some Jvm.ClassFile.FieldType.int)) ∈ ja_T := ja_g (ja_i4 (List.mem_of_getElem? (i := 166) rfl)) rfl
theorem jw_887 : (Jvm.Cond.arrayClass Jvm.ClassFile.FieldType.long) ∈ ja_T := ja_g (ja_i4 (List.mem_of_getElem? (i := 167) rfl)) rfl
theorem jw_888 : (Jvm.Cond.sameMethod "java/lang/Throwable" "java/lang/Throwable" "fillInStackTrace" "(I)Ljava/lang/Throwable;") ∈ ja_T := ja_g (ja_i4 (List.mem_of_getElem? (i := 168) rfl)) rfl
theorem jx_A : ∀ w ∈ u_ws jR_A jF_A 6, w ∈ ja_T := by
  show ∀ w ∈ [Jvm.Cond.lays "CashMachine$Account" "CashMachine$Account" "opened" "Z", Jvm.Cond.lays "CashMachine$Account" "CashMachine$Account" "pin" "I", Jvm.Cond.lays "CashMachine$Account" "CashMachine$Account" "openedWith" "I", Jvm.Cond.lays "CashMachine$Account" "CashMachine$Account" "balance" "I", Jvm.Cond.lays "CashMachine$Account" "CashMachine$Account" "triesLeft" "I", Jvm.Cond.lays "CashMachine$Account" "CashMachine$Account" "blocked" "Z"], w ∈ ja_T
  exact List.forall_mem_cons.mpr ⟨jw_58, List.forall_mem_cons.mpr ⟨jw_60, List.forall_mem_cons.mpr ⟨jw_62, List.forall_mem_cons.mpr ⟨jw_64, List.forall_mem_cons.mpr ⟨jw_66, List.forall_mem_cons.mpr ⟨jw_68, fun _ h => absurd h List.not_mem_nil⟩⟩⟩⟩⟩⟩
theorem jx_K : ∀ w ∈ u_ws jR_K jF_K 2, w ∈ ja_T := by
  show ∀ w ∈ [Jvm.Cond.lays "CashMachine$Cassette" "CashMachine$Cassette" "value" "I", Jvm.Cond.lays "CashMachine$Cassette" "CashMachine$Cassette" "notes" "I"], w ∈ ja_T
  exact List.forall_mem_cons.mpr ⟨jw_136, List.forall_mem_cons.mpr ⟨jw_138, fun _ h => absurd h List.not_mem_nil⟩⟩
theorem jx_E : ∀ w ∈ u_ws jR_E jF_E 5, w ∈ ja_T := by
  show ∀ w ∈ [Jvm.Cond.laysFinal "CashMachine$Entry" "CashMachine$Entry" "trace" "I", Jvm.Cond.lays "CashMachine$Entry" "CashMachine$Entry" "account" "I", Jvm.Cond.lays "CashMachine$Entry" "CashMachine$Entry" "amount" "I", Jvm.Cond.lays "CashMachine$Entry" "CashMachine$Entry" "state" "I", Jvm.Cond.lays "CashMachine$Entry" "CashMachine$Entry" "presented" "I"], w ∈ ja_T
  exact List.forall_mem_cons.mpr ⟨jw_190, List.forall_mem_cons.mpr ⟨jw_192, List.forall_mem_cons.mpr ⟨jw_194, List.forall_mem_cons.mpr ⟨jw_196, List.forall_mem_cons.mpr ⟨jw_198, fun _ h => absurd h List.not_mem_nil⟩⟩⟩⟩⟩
theorem jx_H : ∀ w ∈ u_ws jR_H jF_H 4, w ∈ ja_T := by
  show ∀ w ∈ [Jvm.Cond.laysFinal "CashMachine$Host" "CashMachine$Host" "accounts" "[LCashMachine$Account;", Jvm.Cond.laysFinal "CashMachine$Host" "CashMachine$Host" "answers" "[I", Jvm.Cond.laysFinal "CashMachine$Host" "CashMachine$Host" "accountOfTrace" "[I", Jvm.Cond.laysFinal "CashMachine$Host" "CashMachine$Host" "reversed" "[Z"], w ∈ ja_T
  exact List.forall_mem_cons.mpr ⟨jw_78, List.forall_mem_cons.mpr ⟨jw_80, List.forall_mem_cons.mpr ⟨jw_82, List.forall_mem_cons.mpr ⟨jw_84, fun _ h => absurd h List.not_mem_nil⟩⟩⟩⟩
theorem jx_N : ∀ w ∈ u_ws jR_N jF_N 2, w ∈ ja_T := by
  show ∀ w ∈ [Jvm.Cond.laysFinal "CashMachine$Line" "CashMachine$Line" "fates" "[I", Jvm.Cond.lays "CashMachine$Line" "CashMachine$Line" "size" "I"], w ∈ ja_T
  exact List.forall_mem_cons.mpr ⟨jw_96, List.forall_mem_cons.mpr ⟨jw_98, fun _ h => absurd h List.not_mem_nil⟩⟩
theorem jx_D : ∀ w ∈ u_ws jR_D jF_D 6, w ∈ ja_T := by
  show ∀ w ∈ [Jvm.Cond.laysFinal "CashMachine$Dispenser" "CashMachine$Dispenser" "cassettes" "[LCashMachine$Cassette;", Jvm.Cond.laysFinal "CashMachine$Dispenser" "CashMachine$Dispenser" "mix" "LCashMachine$Mix;", Jvm.Cond.lays "CashMachine$Dispenser" "CashMachine$Dispenser" "jam" "I", Jvm.Cond.lays "CashMachine$Dispenser" "CashMachine$Dispenser" "presentedInAll" "I", Jvm.Cond.lays "CashMachine$Dispenser" "CashMachine$Dispenser" "lastTrace" "I", Jvm.Cond.lays "CashMachine$Dispenser" "CashMachine$Dispenser" "lastPresented" "I"], w ∈ ja_T
  exact List.forall_mem_cons.mpr ⟨jw_151, List.forall_mem_cons.mpr ⟨jw_153, List.forall_mem_cons.mpr ⟨jw_155, List.forall_mem_cons.mpr ⟨jw_157, List.forall_mem_cons.mpr ⟨jw_159, List.forall_mem_cons.mpr ⟨jw_161, fun _ h => absurd h List.not_mem_nil⟩⟩⟩⟩⟩⟩
theorem jx_J : ∀ w ∈ u_ws jR_J jF_J 2, w ∈ ja_T := by
  show ∀ w ∈ [Jvm.Cond.laysFinal "CashMachine$Journal" "CashMachine$Journal" "entries" "[LCashMachine$Entry;", Jvm.Cond.lays "CashMachine$Journal" "CashMachine$Journal" "size" "I"], w ∈ ja_T
  exact List.forall_mem_cons.mpr ⟨jw_205, List.forall_mem_cons.mpr ⟨jw_207, fun _ h => absurd h List.not_mem_nil⟩⟩
theorem jx_R : ∀ w ∈ u_ws jR_R jF_R 3, w ∈ ja_T := by
  show ∀ w ∈ [Jvm.Cond.laysFinal "CashMachine$Reversals" "CashMachine$Reversals" "traces" "[I", Jvm.Cond.laysFinal "CashMachine$Reversals" "CashMachine$Reversals" "amounts" "[I", Jvm.Cond.lays "CashMachine$Reversals" "CashMachine$Reversals" "size" "I"], w ∈ ja_T
  exact List.forall_mem_cons.mpr ⟨jw_222, List.forall_mem_cons.mpr ⟨jw_224, List.forall_mem_cons.mpr ⟨jw_226, fun _ h => absurd h List.not_mem_nil⟩⟩⟩
theorem jx_X : ∀ w ∈ u_ws jR_X jF_X 2, w ∈ ja_T := by
  show ∀ w ∈ [Jvm.Cond.laysFinal "CashMachine$Mix" "CashMachine$Mix" "taken" "[I", Jvm.Cond.laysFinal "CashMachine$Mix" "CashMachine$Mix" "rankOfLastTwo" "[I"], w ∈ ja_T
  exact List.forall_mem_cons.mpr ⟨jw_119, List.forall_mem_cons.mpr ⟨jw_121, fun _ h => absurd h List.not_mem_nil⟩⟩
theorem jx_C : ∀ w ∈ u_ws jR_C jF_C 9, w ∈ ja_T := by
  show ∀ w ∈ [Jvm.Cond.laysFinal "CashMachine" "CashMachine" "host" "LCashMachine$Host;", Jvm.Cond.laysFinal "CashMachine" "CashMachine" "line" "LCashMachine$Line;", Jvm.Cond.laysFinal "CashMachine" "CashMachine" "dispenser" "LCashMachine$Dispenser;", Jvm.Cond.laysFinal "CashMachine" "CashMachine" "journal" "LCashMachine$Journal;", Jvm.Cond.laysFinal "CashMachine" "CashMachine" "pending" "LCashMachine$Reversals;", Jvm.Cond.lays "CashMachine" "CashMachine" "on" "Z", Jvm.Cond.lays "CashMachine" "CashMachine" "session" "I", Jvm.Cond.lays "CashMachine" "CashMachine" "verified" "Z", Jvm.Cond.lays "CashMachine" "CashMachine" "failurePlace" "I"], w ∈ ja_T
  exact List.forall_mem_cons.mpr ⟨jw_238, List.forall_mem_cons.mpr ⟨jw_240, List.forall_mem_cons.mpr ⟨jw_242, List.forall_mem_cons.mpr ⟨jw_244, List.forall_mem_cons.mpr ⟨jw_246, List.forall_mem_cons.mpr ⟨jw_248, List.forall_mem_cons.mpr ⟨jw_250, List.forall_mem_cons.mpr ⟨jw_252, List.forall_mem_cons.mpr ⟨jw_254, fun _ h => absurd h List.not_mem_nil⟩⟩⟩⟩⟩⟩⟩⟩⟩
theorem jx_M : ∀ w ∈ u_ws jR_M jF_M 30, w ∈ ja_T := by
  show ∀ w ∈ [Jvm.Cond.lays "CashMachineModel" "CashMachineModel" "thrown" "I", Jvm.Cond.laysFinal "CashMachineModel" "CashMachineModel" "opened" "[Z", Jvm.Cond.laysFinal "CashMachineModel" "CashMachineModel" "pins" "[I", Jvm.Cond.laysFinal "CashMachineModel" "CashMachineModel" "first" "[I", Jvm.Cond.laysFinal "CashMachineModel" "CashMachineModel" "balances" "[I", Jvm.Cond.laysFinal "CashMachineModel" "CashMachineModel" "tries" "[I", Jvm.Cond.laysFinal "CashMachineModel" "CashMachineModel" "blocked" "[Z", Jvm.Cond.laysFinal "CashMachineModel" "CashMachineModel" "values" "[I", Jvm.Cond.laysFinal "CashMachineModel" "CashMachineModel" "counts" "[I", Jvm.Cond.laysFinal "CashMachineModel" "CashMachineModel" "best" "[I", Jvm.Cond.lays "CashMachineModel" "CashMachineModel" "down" "Z", Jvm.Cond.lays "CashMachineModel" "CashMachineModel" "session" "I", Jvm.Cond.lays "CashMachineModel" "CashMachineModel" "verified" "Z", Jvm.Cond.laysFinal "CashMachineModel" "CashMachineModel" "state" "[I", Jvm.Cond.laysFinal "CashMachineModel" "CashMachineModel" "account" "[I", Jvm.Cond.laysFinal "CashMachineModel" "CashMachineModel" "amount" "[I", Jvm.Cond.laysFinal "CashMachineModel" "CashMachineModel" "presented" "[I", Jvm.Cond.laysFinal "CashMachineModel" "CashMachineModel" "known" "[I", Jvm.Cond.laysFinal "CashMachineModel" "CashMachineModel" "reversed" "[Z", Jvm.Cond.lays "CashMachineModel" "CashMachineModel" "traces" "I", Jvm.Cond.laysFinal "CashMachineModel" "CashMachineModel" "pendingTrace" "[I", Jvm.Cond.laysFinal "CashMachineModel" "CashMachineModel" "pendingAmount" "[I", Jvm.Cond.lays "CashMachineModel" "CashMachineModel" "pending" "I", Jvm.Cond.laysFinal "CashMachineModel" "CashMachineModel" "fates" "[I", Jvm.Cond.lays "CashMachineModel" "CashMachineModel" "coming" "I", Jvm.Cond.lays "CashMachineModel" "CashMachineModel" "jam" "I", Jvm.Cond.lays "CashMachineModel" "CashMachineModel" "power" "I", Jvm.Cond.lays "CashMachineModel" "CashMachineModel" "paidTrace" "I", Jvm.Cond.lays "CashMachineModel" "CashMachineModel" "paidValue" "I", Jvm.Cond.lays "CashMachineModel" "CashMachineModel" "paidAll" "I"], w ∈ ja_T
  exact List.forall_mem_cons.mpr ⟨jw_690, List.forall_mem_cons.mpr ⟨jw_692, List.forall_mem_cons.mpr ⟨jw_694, List.forall_mem_cons.mpr ⟨jw_696, List.forall_mem_cons.mpr ⟨jw_698, List.forall_mem_cons.mpr ⟨jw_700, List.forall_mem_cons.mpr ⟨jw_702, List.forall_mem_cons.mpr ⟨jw_704, List.forall_mem_cons.mpr ⟨jw_706, List.forall_mem_cons.mpr ⟨jw_708, List.forall_mem_cons.mpr ⟨jw_710, List.forall_mem_cons.mpr ⟨jw_712, List.forall_mem_cons.mpr ⟨jw_714, List.forall_mem_cons.mpr ⟨jw_716, List.forall_mem_cons.mpr ⟨jw_718, List.forall_mem_cons.mpr ⟨jw_720, List.forall_mem_cons.mpr ⟨jw_722, List.forall_mem_cons.mpr ⟨jw_724, List.forall_mem_cons.mpr ⟨jw_726, List.forall_mem_cons.mpr ⟨jw_728, List.forall_mem_cons.mpr ⟨jw_730, List.forall_mem_cons.mpr ⟨jw_732, List.forall_mem_cons.mpr ⟨jw_734, List.forall_mem_cons.mpr ⟨jw_736, List.forall_mem_cons.mpr ⟨jw_738, List.forall_mem_cons.mpr ⟨jw_740, List.forall_mem_cons.mpr ⟨jw_742, List.forall_mem_cons.mpr ⟨jw_744, List.forall_mem_cons.mpr ⟨jw_746, List.forall_mem_cons.mpr ⟨jw_748, fun _ h => absurd h List.not_mem_nil⟩⟩⟩⟩⟩⟩⟩⟩⟩⟩⟩⟩⟩⟩⟩⟩⟩⟩⟩⟩⟩⟩⟩⟩⟩⟩⟩⟩⟩⟩
end
section
theorem jd_C_init_0 : decode jc_C_init 0 = .ok (.aload_n 0, 1) := by decide +kernel
theorem jd_C_init_1 : decode jc_C_init 1 = .ok (.invokespecial 1, 3) := by decide +kernel
theorem jd_C_init_4 : decode jc_C_init 4 = .ok (.aload_n 0, 1) := by decide +kernel
theorem jd_C_init_5 : decode jc_C_init 5 = .ok (.new 7, 3) := by decide +kernel
theorem jd_C_init_8 : decode jc_C_init 8 = .ok (.dup, 1) := by decide +kernel
theorem jd_C_init_9 : decode jc_C_init 9 = .ok (.invokespecial 9, 3) := by decide +kernel
theorem jd_C_init_12 : decode jc_C_init 12 = .ok (.putfield 10, 3) := by decide +kernel
theorem jd_C_init_15 : decode jc_C_init 15 = .ok (.aload_n 0, 1) := by decide +kernel
theorem jd_C_init_16 : decode jc_C_init 16 = .ok (.new 16, 3) := by decide +kernel
theorem jd_C_init_19 : decode jc_C_init 19 = .ok (.dup, 1) := by decide +kernel
theorem jd_C_init_20 : decode jc_C_init 20 = .ok (.invokespecial 18, 3) := by decide +kernel
theorem jd_C_init_23 : decode jc_C_init 23 = .ok (.putfield 19, 3) := by decide +kernel
theorem jd_C_init_26 : decode jc_C_init 26 = .ok (.aload_n 0, 1) := by decide +kernel
theorem jd_C_init_27 : decode jc_C_init 27 = .ok (.new 23, 3) := by decide +kernel
theorem jd_C_init_30 : decode jc_C_init 30 = .ok (.dup, 1) := by decide +kernel
theorem jd_C_init_31 : decode jc_C_init 31 = .ok (.invokespecial 25, 3) := by decide +kernel
theorem jd_C_init_34 : decode jc_C_init 34 = .ok (.putfield 26, 3) := by decide +kernel
theorem jd_C_init_37 : decode jc_C_init 37 = .ok (.aload_n 0, 1) := by decide +kernel
theorem jd_C_init_38 : decode jc_C_init 38 = .ok (.new 30, 3) := by decide +kernel
theorem jd_C_init_41 : decode jc_C_init 41 = .ok (.dup, 1) := by decide +kernel
theorem jd_C_init_42 : decode jc_C_init 42 = .ok (.invokespecial 32, 3) := by decide +kernel
theorem jd_C_init_45 : decode jc_C_init 45 = .ok (.putfield 33, 3) := by decide +kernel
theorem jd_C_init_48 : decode jc_C_init 48 = .ok (.aload_n 0, 1) := by decide +kernel
theorem jd_C_init_49 : decode jc_C_init 49 = .ok (.new 37, 3) := by decide +kernel
theorem jd_C_init_52 : decode jc_C_init 52 = .ok (.dup, 1) := by decide +kernel
theorem jd_C_init_53 : decode jc_C_init 53 = .ok (.invokespecial 39, 3) := by decide +kernel
theorem jd_C_init_56 : decode jc_C_init 56 = .ok (.putfield 40, 3) := by decide +kernel
theorem jd_C_init_59 : decode jc_C_init 59 = .ok (.aload_n 0, 1) := by decide +kernel
theorem jd_C_init_60 : decode jc_C_init 60 = .ok (.iconst 1, 1) := by decide +kernel
theorem jd_C_init_61 : decode jc_C_init 61 = .ok (.putfield 44, 3) := by decide +kernel
theorem jd_C_init_64 : decode jc_C_init 64 = .ok (.aload_n 0, 1) := by decide +kernel
theorem jd_C_init_65 : decode jc_C_init 65 = .ok (.iconst (-1), 1) := by decide +kernel
theorem jd_C_init_66 : decode jc_C_init 66 = .ok (.putfield 48, 3) := by decide +kernel
theorem jd_C_init_69 : decode jc_C_init 69 = .ok (.aload_n 0, 1) := by decide +kernel
theorem jd_C_init_70 : decode jc_C_init 70 = .ok (.iconst 0, 1) := by decide +kernel
theorem jd_C_init_71 : decode jc_C_init 71 = .ok (.putfield 52, 3) := by decide +kernel
theorem jd_C_init_74 : decode jc_C_init 74 = .ok (.aload_n 0, 1) := by decide +kernel
theorem jd_C_init_75 : decode jc_C_init 75 = .ok (.iconst 0, 1) := by decide +kernel
theorem jd_C_init_76 : decode jc_C_init 76 = .ok (.putfield 55, 3) := by decide +kernel
theorem jd_C_init_79 : decode jc_C_init 79 = .ok (.return_, 1) := by decide +kernel
theorem jd_H_init_0 : decode jc_H_init 0 = .ok (.aload_n 0, 1) := by decide +kernel
theorem jd_H_init_1 : decode jc_H_init 1 = .ok (.invokespecial 3, 3) := by decide +kernel
theorem jd_H_init_4 : decode jc_H_init 4 = .ok (.aload_n 0, 1) := by decide +kernel
theorem jd_H_init_5 : decode jc_H_init 5 = .ok (.bipush 8, 2) := by decide +kernel
theorem jd_H_init_7 : decode jc_H_init 7 = .ok (.anewarray 9, 3) := by decide +kernel
theorem jd_H_init_10 : decode jc_H_init 10 = .ok (.putfield 11, 3) := by decide +kernel
theorem jd_H_init_13 : decode jc_H_init 13 = .ok (.aload_n 0, 1) := by decide +kernel
theorem jd_H_init_14 : decode jc_H_init 14 = .ok (.bipush 41, 2) := by decide +kernel
theorem jd_H_init_16 : decode jc_H_init 16 = .ok (.newarray .int, 2) := by decide +kernel
theorem jd_H_init_18 : decode jc_H_init 18 = .ok (.putfield 17, 3) := by decide +kernel
theorem jd_H_init_21 : decode jc_H_init 21 = .ok (.aload_n 0, 1) := by decide +kernel
theorem jd_H_init_22 : decode jc_H_init 22 = .ok (.bipush 41, 2) := by decide +kernel
theorem jd_H_init_24 : decode jc_H_init 24 = .ok (.newarray .int, 2) := by decide +kernel
theorem jd_H_init_26 : decode jc_H_init 26 = .ok (.putfield 21, 3) := by decide +kernel
theorem jd_H_init_29 : decode jc_H_init 29 = .ok (.aload_n 0, 1) := by decide +kernel
theorem jd_H_init_30 : decode jc_H_init 30 = .ok (.bipush 41, 2) := by decide +kernel
theorem jd_H_init_32 : decode jc_H_init 32 = .ok (.newarray .boolean, 2) := by decide +kernel
theorem jd_H_init_34 : decode jc_H_init 34 = .ok (.putfield 24, 3) := by decide +kernel
theorem jd_H_init_37 : decode jc_H_init 37 = .ok (.iconst 0, 1) := by decide +kernel
theorem jd_H_init_38 : decode jc_H_init 38 = .ok (.istore_n 1, 1) := by decide +kernel
theorem jd_H_init_39 : decode jc_H_init 39 = .ok (.iload_n 1, 1) := by decide +kernel
theorem jd_H_init_40 : decode jc_H_init 40 = .ok (.bipush 8, 2) := by decide +kernel
theorem jd_H_init_42 : decode jc_H_init 42 = .ok (.if_icmp .ge 22, 3) := by decide +kernel
theorem jd_H_init_45 : decode jc_H_init 45 = .ok (.aload_n 0, 1) := by decide +kernel
theorem jd_H_init_46 : decode jc_H_init 46 = .ok (.getfield 11, 3) := by decide +kernel
theorem jd_H_init_49 : decode jc_H_init 49 = .ok (.iload_n 1, 1) := by decide +kernel
theorem jd_H_init_50 : decode jc_H_init 50 = .ok (.new 9, 3) := by decide +kernel
theorem jd_H_init_53 : decode jc_H_init 53 = .ok (.dup, 1) := by decide +kernel
theorem jd_H_init_54 : decode jc_H_init 54 = .ok (.invokespecial 28, 3) := by decide +kernel
theorem jd_H_init_57 : decode jc_H_init 57 = .ok (.aastore, 1) := by decide +kernel
theorem jd_H_init_58 : decode jc_H_init 58 = .ok (.iinc 1 1, 3) := by decide +kernel
theorem jd_H_init_61 : decode jc_H_init 61 = .ok (.goto (-22), 3) := by decide +kernel
theorem jd_H_init_64 : decode jc_H_init 64 = .ok (.return_, 1) := by decide +kernel
theorem jd_A_init_0 : decode jc_A_init 0 = .ok (.aload_n 0, 1) := by decide +kernel
theorem jd_A_init_1 : decode jc_A_init 1 = .ok (.invokespecial 3, 3) := by decide +kernel
theorem jd_A_init_4 : decode jc_A_init 4 = .ok (.aload_n 0, 1) := by decide +kernel
theorem jd_A_init_5 : decode jc_A_init 5 = .ok (.iconst 0, 1) := by decide +kernel
theorem jd_A_init_6 : decode jc_A_init 6 = .ok (.putfield 9, 3) := by decide +kernel
theorem jd_A_init_9 : decode jc_A_init 9 = .ok (.aload_n 0, 1) := by decide +kernel
theorem jd_A_init_10 : decode jc_A_init 10 = .ok (.iconst 0, 1) := by decide +kernel
theorem jd_A_init_11 : decode jc_A_init 11 = .ok (.putfield 15, 3) := by decide +kernel
theorem jd_A_init_14 : decode jc_A_init 14 = .ok (.aload_n 0, 1) := by decide +kernel
theorem jd_A_init_15 : decode jc_A_init 15 = .ok (.iconst 0, 1) := by decide +kernel
theorem jd_A_init_16 : decode jc_A_init 16 = .ok (.putfield 19, 3) := by decide +kernel
theorem jd_A_init_19 : decode jc_A_init 19 = .ok (.aload_n 0, 1) := by decide +kernel
theorem jd_A_init_20 : decode jc_A_init 20 = .ok (.iconst 0, 1) := by decide +kernel
theorem jd_A_init_21 : decode jc_A_init 21 = .ok (.putfield 22, 3) := by decide +kernel
theorem jd_A_init_24 : decode jc_A_init 24 = .ok (.aload_n 0, 1) := by decide +kernel
theorem jd_A_init_25 : decode jc_A_init 25 = .ok (.iconst 3, 1) := by decide +kernel
theorem jd_A_init_26 : decode jc_A_init 26 = .ok (.putfield 25, 3) := by decide +kernel
theorem jd_A_init_29 : decode jc_A_init 29 = .ok (.aload_n 0, 1) := by decide +kernel
theorem jd_A_init_30 : decode jc_A_init 30 = .ok (.iconst 0, 1) := by decide +kernel
theorem jd_A_init_31 : decode jc_A_init 31 = .ok (.putfield 28, 3) := by decide +kernel
theorem jd_A_init_34 : decode jc_A_init 34 = .ok (.return_, 1) := by decide +kernel
theorem jd_N_init_0 : decode jc_N_init 0 = .ok (.aload_n 0, 1) := by decide +kernel
theorem jd_N_init_1 : decode jc_N_init 1 = .ok (.invokespecial 3, 3) := by decide +kernel
theorem jd_N_init_4 : decode jc_N_init 4 = .ok (.aload_n 0, 1) := by decide +kernel
theorem jd_N_init_5 : decode jc_N_init 5 = .ok (.bipush 8, 2) := by decide +kernel
theorem jd_N_init_7 : decode jc_N_init 7 = .ok (.newarray .int, 2) := by decide +kernel
theorem jd_N_init_9 : decode jc_N_init 9 = .ok (.putfield 9, 3) := by decide +kernel
theorem jd_N_init_12 : decode jc_N_init 12 = .ok (.aload_n 0, 1) := by decide +kernel
theorem jd_N_init_13 : decode jc_N_init 13 = .ok (.iconst 0, 1) := by decide +kernel
theorem jd_N_init_14 : decode jc_N_init 14 = .ok (.putfield 15, 3) := by decide +kernel
theorem jd_N_init_17 : decode jc_N_init 17 = .ok (.return_, 1) := by decide +kernel
theorem jd_D_init_0 : decode jc_D_init 0 = .ok (.aload_n 0, 1) := by decide +kernel
theorem jd_D_init_1 : decode jc_D_init 1 = .ok (.invokespecial 3, 3) := by decide +kernel
theorem jd_D_init_4 : decode jc_D_init 4 = .ok (.aload_n 0, 1) := by decide +kernel
theorem jd_D_init_5 : decode jc_D_init 5 = .ok (.iconst 4, 1) := by decide +kernel
theorem jd_D_init_6 : decode jc_D_init 6 = .ok (.anewarray 9, 3) := by decide +kernel
theorem jd_D_init_9 : decode jc_D_init 9 = .ok (.putfield 11, 3) := by decide +kernel
theorem jd_D_init_12 : decode jc_D_init 12 = .ok (.aload_n 0, 1) := by decide +kernel
theorem jd_D_init_13 : decode jc_D_init 13 = .ok (.new 17, 3) := by decide +kernel
theorem jd_D_init_16 : decode jc_D_init 16 = .ok (.dup, 1) := by decide +kernel
theorem jd_D_init_17 : decode jc_D_init 17 = .ok (.invokespecial 19, 3) := by decide +kernel
theorem jd_D_init_20 : decode jc_D_init 20 = .ok (.putfield 20, 3) := by decide +kernel
theorem jd_D_init_23 : decode jc_D_init 23 = .ok (.aload_n 0, 1) := by decide +kernel
theorem jd_D_init_24 : decode jc_D_init 24 = .ok (.iconst (-1), 1) := by decide +kernel
theorem jd_D_init_25 : decode jc_D_init 25 = .ok (.putfield 24, 3) := by decide +kernel
theorem jd_D_init_28 : decode jc_D_init 28 = .ok (.aload_n 0, 1) := by decide +kernel
theorem jd_D_init_29 : decode jc_D_init 29 = .ok (.iconst 0, 1) := by decide +kernel
theorem jd_D_init_30 : decode jc_D_init 30 = .ok (.putfield 28, 3) := by decide +kernel
theorem jd_D_init_33 : decode jc_D_init 33 = .ok (.aload_n 0, 1) := by decide +kernel
theorem jd_D_init_34 : decode jc_D_init 34 = .ok (.iconst 0, 1) := by decide +kernel
theorem jd_D_init_35 : decode jc_D_init 35 = .ok (.putfield 31, 3) := by decide +kernel
theorem jd_D_init_38 : decode jc_D_init 38 = .ok (.aload_n 0, 1) := by decide +kernel
theorem jd_D_init_39 : decode jc_D_init 39 = .ok (.iconst 0, 1) := by decide +kernel
theorem jd_D_init_40 : decode jc_D_init 40 = .ok (.putfield 34, 3) := by decide +kernel
theorem jd_D_init_43 : decode jc_D_init 43 = .ok (.iconst 0, 1) := by decide +kernel
theorem jd_D_init_44 : decode jc_D_init 44 = .ok (.istore_n 1, 1) := by decide +kernel
theorem jd_D_init_45 : decode jc_D_init 45 = .ok (.iload_n 1, 1) := by decide +kernel
theorem jd_D_init_46 : decode jc_D_init 46 = .ok (.iconst 4, 1) := by decide +kernel
theorem jd_D_init_47 : decode jc_D_init 47 = .ok (.if_icmp .ge 22, 3) := by decide +kernel
theorem jd_D_init_50 : decode jc_D_init 50 = .ok (.aload_n 0, 1) := by decide +kernel
theorem jd_D_init_51 : decode jc_D_init 51 = .ok (.getfield 11, 3) := by decide +kernel
theorem jd_D_init_54 : decode jc_D_init 54 = .ok (.iload_n 1, 1) := by decide +kernel
theorem jd_D_init_55 : decode jc_D_init 55 = .ok (.new 9, 3) := by decide +kernel
theorem jd_D_init_58 : decode jc_D_init 58 = .ok (.dup, 1) := by decide +kernel
theorem jd_D_init_59 : decode jc_D_init 59 = .ok (.invokespecial 37, 3) := by decide +kernel
theorem jd_D_init_62 : decode jc_D_init 62 = .ok (.aastore, 1) := by decide +kernel
theorem jd_D_init_63 : decode jc_D_init 63 = .ok (.iinc 1 1, 3) := by decide +kernel
theorem jd_D_init_66 : decode jc_D_init 66 = .ok (.goto (-21), 3) := by decide +kernel
theorem jd_D_init_69 : decode jc_D_init 69 = .ok (.return_, 1) := by decide +kernel
theorem jd_X_init_0 : decode jc_X_init 0 = .ok (.aload_n 0, 1) := by decide +kernel
theorem jd_X_init_1 : decode jc_X_init 1 = .ok (.invokespecial 3, 3) := by decide +kernel
theorem jd_X_init_4 : decode jc_X_init 4 = .ok (.aload_n 0, 1) := by decide +kernel
theorem jd_X_init_5 : decode jc_X_init 5 = .ok (.iconst 4, 1) := by decide +kernel
theorem jd_X_init_6 : decode jc_X_init 6 = .ok (.newarray .int, 2) := by decide +kernel
theorem jd_X_init_8 : decode jc_X_init 8 = .ok (.putfield 9, 3) := by decide +kernel
theorem jd_X_init_11 : decode jc_X_init 11 = .ok (.aload_n 0, 1) := by decide +kernel
theorem jd_X_init_12 : decode jc_X_init 12 = .ok (.sipush 5001, 3) := by decide +kernel
theorem jd_X_init_15 : decode jc_X_init 15 = .ok (.newarray .int, 2) := by decide +kernel
theorem jd_X_init_17 : decode jc_X_init 17 = .ok (.putfield 15, 3) := by decide +kernel
theorem jd_X_init_20 : decode jc_X_init 20 = .ok (.return_, 1) := by decide +kernel
theorem jd_K_init_0 : decode jc_K_init 0 = .ok (.aload_n 0, 1) := by decide +kernel
theorem jd_K_init_1 : decode jc_K_init 1 = .ok (.invokespecial 1, 3) := by decide +kernel
theorem jd_K_init_4 : decode jc_K_init 4 = .ok (.aload_n 0, 1) := by decide +kernel
theorem jd_K_init_5 : decode jc_K_init 5 = .ok (.iconst 1, 1) := by decide +kernel
theorem jd_K_init_6 : decode jc_K_init 6 = .ok (.putfield 7, 3) := by decide +kernel
theorem jd_K_init_9 : decode jc_K_init 9 = .ok (.aload_n 0, 1) := by decide +kernel
theorem jd_K_init_10 : decode jc_K_init 10 = .ok (.iconst 0, 1) := by decide +kernel
theorem jd_K_init_11 : decode jc_K_init 11 = .ok (.putfield 13, 3) := by decide +kernel
theorem jd_K_init_14 : decode jc_K_init 14 = .ok (.return_, 1) := by decide +kernel
theorem jd_J_init_0 : decode jc_J_init 0 = .ok (.aload_n 0, 1) := by decide +kernel
theorem jd_J_init_1 : decode jc_J_init 1 = .ok (.invokespecial 3, 3) := by decide +kernel
theorem jd_J_init_4 : decode jc_J_init 4 = .ok (.aload_n 0, 1) := by decide +kernel
theorem jd_J_init_5 : decode jc_J_init 5 = .ok (.bipush 40, 2) := by decide +kernel
theorem jd_J_init_7 : decode jc_J_init 7 = .ok (.anewarray 9, 3) := by decide +kernel
theorem jd_J_init_10 : decode jc_J_init 10 = .ok (.putfield 11, 3) := by decide +kernel
theorem jd_J_init_13 : decode jc_J_init 13 = .ok (.aload_n 0, 1) := by decide +kernel
theorem jd_J_init_14 : decode jc_J_init 14 = .ok (.iconst 0, 1) := by decide +kernel
theorem jd_J_init_15 : decode jc_J_init 15 = .ok (.putfield 17, 3) := by decide +kernel
theorem jd_J_init_18 : decode jc_J_init 18 = .ok (.iconst 0, 1) := by decide +kernel
theorem jd_J_init_19 : decode jc_J_init 19 = .ok (.istore_n 1, 1) := by decide +kernel
theorem jd_J_init_20 : decode jc_J_init 20 = .ok (.iload_n 1, 1) := by decide +kernel
theorem jd_J_init_21 : decode jc_J_init 21 = .ok (.bipush 40, 2) := by decide +kernel
theorem jd_J_init_23 : decode jc_J_init 23 = .ok (.if_icmp .ge 25, 3) := by decide +kernel
theorem jd_J_init_26 : decode jc_J_init 26 = .ok (.aload_n 0, 1) := by decide +kernel
theorem jd_J_init_27 : decode jc_J_init 27 = .ok (.getfield 11, 3) := by decide +kernel
theorem jd_J_init_30 : decode jc_J_init 30 = .ok (.iload_n 1, 1) := by decide +kernel
theorem jd_J_init_31 : decode jc_J_init 31 = .ok (.new 9, 3) := by decide +kernel
theorem jd_J_init_34 : decode jc_J_init 34 = .ok (.dup, 1) := by decide +kernel
theorem jd_J_init_35 : decode jc_J_init 35 = .ok (.iload_n 1, 1) := by decide +kernel
theorem jd_J_init_36 : decode jc_J_init 36 = .ok (.iconst 1, 1) := by decide +kernel
theorem jd_J_init_37 : decode jc_J_init 37 = .ok (.iadd, 1) := by decide +kernel
theorem jd_J_init_38 : decode jc_J_init 38 = .ok (.invokespecial 21, 3) := by decide +kernel
theorem jd_J_init_41 : decode jc_J_init 41 = .ok (.aastore, 1) := by decide +kernel
theorem jd_J_init_42 : decode jc_J_init 42 = .ok (.iinc 1 1, 3) := by decide +kernel
theorem jd_J_init_45 : decode jc_J_init 45 = .ok (.goto (-25), 3) := by decide +kernel
theorem jd_J_init_48 : decode jc_J_init 48 = .ok (.return_, 1) := by decide +kernel
theorem jd_E_init_0 : decode jc_E_init 0 = .ok (.aload_n 0, 1) := by decide +kernel
theorem jd_E_init_1 : decode jc_E_init 1 = .ok (.invokespecial 1, 3) := by decide +kernel
theorem jd_E_init_4 : decode jc_E_init 4 = .ok (.aload_n 0, 1) := by decide +kernel
theorem jd_E_init_5 : decode jc_E_init 5 = .ok (.iconst 0, 1) := by decide +kernel
theorem jd_E_init_6 : decode jc_E_init 6 = .ok (.putfield 7, 3) := by decide +kernel
theorem jd_E_init_9 : decode jc_E_init 9 = .ok (.aload_n 0, 1) := by decide +kernel
theorem jd_E_init_10 : decode jc_E_init 10 = .ok (.iconst 0, 1) := by decide +kernel
theorem jd_E_init_11 : decode jc_E_init 11 = .ok (.putfield 13, 3) := by decide +kernel
theorem jd_E_init_14 : decode jc_E_init 14 = .ok (.aload_n 0, 1) := by decide +kernel
theorem jd_E_init_15 : decode jc_E_init 15 = .ok (.iconst 0, 1) := by decide +kernel
theorem jd_E_init_16 : decode jc_E_init 16 = .ok (.putfield 16, 3) := by decide +kernel
theorem jd_E_init_19 : decode jc_E_init 19 = .ok (.aload_n 0, 1) := by decide +kernel
theorem jd_E_init_20 : decode jc_E_init 20 = .ok (.iconst 0, 1) := by decide +kernel
theorem jd_E_init_21 : decode jc_E_init 21 = .ok (.putfield 19, 3) := by decide +kernel
theorem jd_E_init_24 : decode jc_E_init 24 = .ok (.aload_n 0, 1) := by decide +kernel
theorem jd_E_init_25 : decode jc_E_init 25 = .ok (.iload_n 1, 1) := by decide +kernel
theorem jd_E_init_26 : decode jc_E_init 26 = .ok (.putfield 22, 3) := by decide +kernel
theorem jd_E_init_29 : decode jc_E_init 29 = .ok (.return_, 1) := by decide +kernel
theorem jd_R_init_0 : decode jc_R_init 0 = .ok (.aload_n 0, 1) := by decide +kernel
theorem jd_R_init_1 : decode jc_R_init 1 = .ok (.invokespecial 3, 3) := by decide +kernel
theorem jd_R_init_4 : decode jc_R_init 4 = .ok (.aload_n 0, 1) := by decide +kernel
theorem jd_R_init_5 : decode jc_R_init 5 = .ok (.bipush 40, 2) := by decide +kernel
theorem jd_R_init_7 : decode jc_R_init 7 = .ok (.newarray .int, 2) := by decide +kernel
theorem jd_R_init_9 : decode jc_R_init 9 = .ok (.putfield 9, 3) := by decide +kernel
theorem jd_R_init_12 : decode jc_R_init 12 = .ok (.aload_n 0, 1) := by decide +kernel
theorem jd_R_init_13 : decode jc_R_init 13 = .ok (.bipush 40, 2) := by decide +kernel
theorem jd_R_init_15 : decode jc_R_init 15 = .ok (.newarray .int, 2) := by decide +kernel
theorem jd_R_init_17 : decode jc_R_init 17 = .ok (.putfield 15, 3) := by decide +kernel
theorem jd_R_init_20 : decode jc_R_init 20 = .ok (.aload_n 0, 1) := by decide +kernel
theorem jd_R_init_21 : decode jc_R_init 21 = .ok (.iconst 0, 1) := by decide +kernel
theorem jd_R_init_22 : decode jc_R_init 22 = .ok (.putfield 18, 3) := by decide +kernel
theorem jd_R_init_25 : decode jc_R_init 25 = .ok (.return_, 1) := by decide +kernel
theorem jd_C_difference_0 : decode jc_C_difference 0 = .ok (.aload_n 0, 1) := by decide +kernel
theorem jd_C_difference_1 : decode jc_C_difference 1 = .ok (.getfield 10, 3) := by decide +kernel
theorem jd_C_difference_4 : decode jc_C_difference 4 = .ok (.invokevirtual 192, 3) := by decide +kernel
theorem jd_C_difference_7 : decode jc_C_difference 7 = .ok (.aload_n 0, 1) := by decide +kernel
theorem jd_C_difference_8 : decode jc_C_difference 8 = .ok (.getfield 26, 3) := by decide +kernel
theorem jd_C_difference_11 : decode jc_C_difference 11 = .ok (.getfield 195, 3) := by decide +kernel
theorem jd_C_difference_14 : decode jc_C_difference 14 = .ok (.isub, 1) := by decide +kernel
theorem jd_C_difference_15 : decode jc_C_difference 15 = .ok (.ireturn, 1) := by decide +kernel
theorem jd_H_takenFromBalances_0 : decode jc_H_takenFromBalances 0 = .ok (.iconst 0, 1) := by decide +kernel
theorem jd_H_takenFromBalances_1 : decode jc_H_takenFromBalances 1 = .ok (.istore_n 1, 1) := by decide +kernel
theorem jd_H_takenFromBalances_2 : decode jc_H_takenFromBalances 2 = .ok (.aload_n 0, 1) := by decide +kernel
theorem jd_H_takenFromBalances_3 : decode jc_H_takenFromBalances 3 = .ok (.getfield 11, 3) := by decide +kernel
theorem jd_H_takenFromBalances_6 : decode jc_H_takenFromBalances 6 = .ok (.astore_n 2, 1) := by decide +kernel
theorem jd_H_takenFromBalances_7 : decode jc_H_takenFromBalances 7 = .ok (.aload_n 2, 1) := by decide +kernel
theorem jd_H_takenFromBalances_8 : decode jc_H_takenFromBalances 8 = .ok (.arraylength, 1) := by decide +kernel
theorem jd_H_takenFromBalances_9 : decode jc_H_takenFromBalances 9 = .ok (.istore_n 3, 1) := by decide +kernel
theorem jd_H_takenFromBalances_10 : decode jc_H_takenFromBalances 10 = .ok (.iconst 0, 1) := by decide +kernel
theorem jd_H_takenFromBalances_11 : decode jc_H_takenFromBalances 11 = .ok (.istore 4, 2) := by decide +kernel
theorem jd_H_takenFromBalances_13 : decode jc_H_takenFromBalances 13 = .ok (.iload 4, 2) := by decide +kernel
theorem jd_H_takenFromBalances_15 : decode jc_H_takenFromBalances 15 = .ok (.iload_n 3, 1) := by decide +kernel
theorem jd_H_takenFromBalances_16 : decode jc_H_takenFromBalances 16 = .ok (.if_icmp .ge 29, 3) := by decide +kernel
theorem jd_H_takenFromBalances_19 : decode jc_H_takenFromBalances 19 = .ok (.aload_n 2, 1) := by decide +kernel
theorem jd_H_takenFromBalances_20 : decode jc_H_takenFromBalances 20 = .ok (.iload 4, 2) := by decide +kernel
theorem jd_H_takenFromBalances_22 : decode jc_H_takenFromBalances 22 = .ok (.aaload, 1) := by decide +kernel
theorem jd_H_takenFromBalances_23 : decode jc_H_takenFromBalances 23 = .ok (.astore 5, 2) := by decide +kernel
theorem jd_H_takenFromBalances_25 : decode jc_H_takenFromBalances 25 = .ok (.iload_n 1, 1) := by decide +kernel
theorem jd_H_takenFromBalances_26 : decode jc_H_takenFromBalances 26 = .ok (.aload 5, 2) := by decide +kernel
theorem jd_H_takenFromBalances_28 : decode jc_H_takenFromBalances 28 = .ok (.getfield 41, 3) := by decide +kernel
theorem jd_H_takenFromBalances_31 : decode jc_H_takenFromBalances 31 = .ok (.aload 5, 2) := by decide +kernel
theorem jd_H_takenFromBalances_33 : decode jc_H_takenFromBalances 33 = .ok (.getfield 44, 3) := by decide +kernel
theorem jd_H_takenFromBalances_36 : decode jc_H_takenFromBalances 36 = .ok (.isub, 1) := by decide +kernel
theorem jd_H_takenFromBalances_37 : decode jc_H_takenFromBalances 37 = .ok (.iadd, 1) := by decide +kernel
theorem jd_H_takenFromBalances_38 : decode jc_H_takenFromBalances 38 = .ok (.istore_n 1, 1) := by decide +kernel
theorem jd_H_takenFromBalances_39 : decode jc_H_takenFromBalances 39 = .ok (.iinc 4 1, 3) := by decide +kernel
theorem jd_H_takenFromBalances_42 : decode jc_H_takenFromBalances 42 = .ok (.goto (-29), 3) := by decide +kernel
theorem jd_H_takenFromBalances_45 : decode jc_H_takenFromBalances 45 = .ok (.iload_n 1, 1) := by decide +kernel
theorem jd_H_takenFromBalances_46 : decode jc_H_takenFromBalances 46 = .ok (.ireturn, 1) := by decide +kernel
theorem jd_L_open_0 : decode jc_L_open 0 = .ok (.aload 4, 2) := by decide +kernel
theorem jd_L_open_2 : decode jc_L_open 2 = .ok (.iconst 0, 1) := by decide +kernel
theorem jd_L_open_3 : decode jc_L_open 3 = .ok (.aload_n 0, 1) := by decide +kernel
theorem jd_L_open_4 : decode jc_L_open 4 = .ok (.iload_n 1, 1) := by decide +kernel
theorem jd_L_open_5 : decode jc_L_open 5 = .ok (.iload_n 2, 1) := by decide +kernel
theorem jd_L_open_6 : decode jc_L_open 6 = .ok (.iload_n 3, 1) := by decide +kernel
theorem jd_L_open_7 : decode jc_L_open 7 = .ok (.invokevirtual 7, 3) := by decide +kernel
theorem jd_L_open_10 : decode jc_L_open 10 = .ok (.i2l, 1) := by decide +kernel
theorem jd_L_open_11 : decode jc_L_open 11 = .ok (.lastore, 1) := by decide +kernel
theorem jd_L_open_12 : decode jc_L_open 12 = .ok (.goto 11, 3) := by decide +kernel
theorem jd_L_open_15 : decode jc_L_open 15 = .ok (.astore 5, 2) := by decide +kernel
theorem jd_L_open_17 : decode jc_L_open 17 = .ok (.iconst 1, 1) := by decide +kernel
theorem jd_L_open_18 : decode jc_L_open 18 = .ok (.ireturn, 1) := by decide +kernel
theorem jd_L_open_19 : decode jc_L_open 19 = .ok (.astore 5, 2) := by decide +kernel
theorem jd_L_open_21 : decode jc_L_open 21 = .ok (.iconst 2, 1) := by decide +kernel
theorem jd_L_open_22 : decode jc_L_open 22 = .ok (.ireturn, 1) := by decide +kernel
theorem jd_L_open_23 : decode jc_L_open 23 = .ok (.iconst 0, 1) := by decide +kernel
theorem jd_L_open_24 : decode jc_L_open 24 = .ok (.ireturn, 1) := by decide +kernel
theorem jd_C_open_0 : decode jc_C_open 0 = .ok (.iload_n 1, 1) := by decide +kernel
theorem jd_C_open_1 : decode jc_C_open 1 = .ok (.iconst 0, 1) := by decide +kernel
theorem jd_C_open_2 : decode jc_C_open 2 = .ok (.bipush 7, 2) := by decide +kernel
theorem jd_C_open_4 : decode jc_C_open 4 = .ok (.invokestatic 58, 3) := by decide +kernel
theorem jd_C_open_7 : decode jc_C_open 7 = .ok (.ifCond .eq 24, 3) := by decide +kernel
theorem jd_C_open_10 : decode jc_C_open 10 = .ok (.iload_n 2, 1) := by decide +kernel
theorem jd_C_open_11 : decode jc_C_open 11 = .ok (.iconst 0, 1) := by decide +kernel
theorem jd_C_open_12 : decode jc_C_open 12 = .ok (.sipush 9999, 3) := by decide +kernel
theorem jd_C_open_15 : decode jc_C_open 15 = .ok (.invokestatic 58, 3) := by decide +kernel
theorem jd_C_open_18 : decode jc_C_open 18 = .ok (.ifCond .eq 13, 3) := by decide +kernel
theorem jd_C_open_21 : decode jc_C_open 21 = .ok (.iload_n 3, 1) := by decide +kernel
theorem jd_C_open_22 : decode jc_C_open 22 = .ok (.iconst 0, 1) := by decide +kernel
theorem jd_C_open_23 : decode jc_C_open 23 = .ok (.ldc 62, 2) := by decide +kernel
theorem jd_C_open_25 : decode jc_C_open 25 = .ok (.invokestatic 58, 3) := by decide +kernel
theorem jd_C_open_28 : decode jc_C_open 28 = .ok (.ifCond .ne 11, 3) := by decide +kernel
theorem jd_C_open_31 : decode jc_C_open 31 = .ok (.new 63, 3) := by decide +kernel
theorem jd_C_open_34 : decode jc_C_open 34 = .ok (.dup, 1) := by decide +kernel
theorem jd_C_open_35 : decode jc_C_open 35 = .ok (.invokespecial 65, 3) := by decide +kernel
theorem jd_C_open_38 : decode jc_C_open 38 = .ok (.athrow, 1) := by decide +kernel
theorem jd_C_open_39 : decode jc_C_open 39 = .ok (.aload_n 0, 1) := by decide +kernel
theorem jd_C_open_40 : decode jc_C_open 40 = .ok (.getfield 10, 3) := by decide +kernel
theorem jd_C_open_43 : decode jc_C_open 43 = .ok (.iload_n 1, 1) := by decide +kernel
theorem jd_C_open_44 : decode jc_C_open 44 = .ok (.invokevirtual 66, 3) := by decide +kernel
theorem jd_C_open_47 : decode jc_C_open 47 = .ok (.ifCond .eq 11, 3) := by decide +kernel
theorem jd_C_open_50 : decode jc_C_open 50 = .ok (.new 70, 3) := by decide +kernel
theorem jd_C_open_53 : decode jc_C_open 53 = .ok (.dup, 1) := by decide +kernel
theorem jd_C_open_54 : decode jc_C_open 54 = .ok (.invokespecial 72, 3) := by decide +kernel
theorem jd_C_open_57 : decode jc_C_open 57 = .ok (.athrow, 1) := by decide +kernel
theorem jd_C_open_58 : decode jc_C_open 58 = .ok (.aload_n 0, 1) := by decide +kernel
theorem jd_C_open_59 : decode jc_C_open 59 = .ok (.getfield 10, 3) := by decide +kernel
theorem jd_C_open_62 : decode jc_C_open 62 = .ok (.iload_n 1, 1) := by decide +kernel
theorem jd_C_open_63 : decode jc_C_open 63 = .ok (.iload_n 2, 1) := by decide +kernel
theorem jd_C_open_64 : decode jc_C_open 64 = .ok (.iload_n 3, 1) := by decide +kernel
theorem jd_C_open_65 : decode jc_C_open 65 = .ok (.invokevirtual 73, 3) := by decide +kernel
theorem jd_C_open_68 : decode jc_C_open 68 = .ok (.aload_n 0, 1) := by decide +kernel
theorem jd_C_open_69 : decode jc_C_open 69 = .ok (.getfield 10, 3) := by decide +kernel
theorem jd_C_open_72 : decode jc_C_open 72 = .ok (.invokevirtual 77, 3) := by decide +kernel
theorem jd_C_open_75 : decode jc_C_open 75 = .ok (.ireturn, 1) := by decide +kernel
theorem jd_C_isWithin_0 : decode jc_C_isWithin 0 = .ok (.iload_n 0, 1) := by decide +kernel
theorem jd_C_isWithin_1 : decode jc_C_isWithin 1 = .ok (.iload_n 1, 1) := by decide +kernel
theorem jd_C_isWithin_2 : decode jc_C_isWithin 2 = .ok (.if_icmp .lt 12, 3) := by decide +kernel
theorem jd_C_isWithin_5 : decode jc_C_isWithin 5 = .ok (.iload_n 0, 1) := by decide +kernel
theorem jd_C_isWithin_6 : decode jc_C_isWithin 6 = .ok (.iload_n 2, 1) := by decide +kernel
theorem jd_C_isWithin_7 : decode jc_C_isWithin 7 = .ok (.if_icmp .gt 7, 3) := by decide +kernel
theorem jd_C_isWithin_10 : decode jc_C_isWithin 10 = .ok (.iconst 1, 1) := by decide +kernel
theorem jd_C_isWithin_11 : decode jc_C_isWithin 11 = .ok (.goto 4, 3) := by decide +kernel
theorem jd_C_isWithin_14 : decode jc_C_isWithin 14 = .ok (.iconst 0, 1) := by decide +kernel
theorem jd_C_isWithin_15 : decode jc_C_isWithin 15 = .ok (.ireturn, 1) := by decide +kernel
theorem jd_H_isOpen_0 : decode jc_H_isOpen 0 = .ok (.iload_n 1, 1) := by decide +kernel
theorem jd_H_isOpen_1 : decode jc_H_isOpen 1 = .ok (.iconst 0, 1) := by decide +kernel
theorem jd_H_isOpen_2 : decode jc_H_isOpen 2 = .ok (.bipush 7, 2) := by decide +kernel
theorem jd_H_isOpen_4 : decode jc_H_isOpen 4 = .ok (.invokestatic 29, 3) := by decide +kernel
theorem jd_H_isOpen_7 : decode jc_H_isOpen 7 = .ok (.ifCond .eq 19, 3) := by decide +kernel
theorem jd_H_isOpen_10 : decode jc_H_isOpen 10 = .ok (.aload_n 0, 1) := by decide +kernel
theorem jd_H_isOpen_11 : decode jc_H_isOpen 11 = .ok (.getfield 11, 3) := by decide +kernel
theorem jd_H_isOpen_14 : decode jc_H_isOpen 14 = .ok (.iload_n 1, 1) := by decide +kernel
theorem jd_H_isOpen_15 : decode jc_H_isOpen 15 = .ok (.aaload, 1) := by decide +kernel
theorem jd_H_isOpen_16 : decode jc_H_isOpen 16 = .ok (.getfield 33, 3) := by decide +kernel
theorem jd_H_isOpen_19 : decode jc_H_isOpen 19 = .ok (.ifCond .eq 7, 3) := by decide +kernel
theorem jd_H_isOpen_22 : decode jc_H_isOpen 22 = .ok (.iconst 1, 1) := by decide +kernel
theorem jd_H_isOpen_23 : decode jc_H_isOpen 23 = .ok (.goto 4, 3) := by decide +kernel
theorem jd_H_isOpen_26 : decode jc_H_isOpen 26 = .ok (.iconst 0, 1) := by decide +kernel
theorem jd_H_isOpen_27 : decode jc_H_isOpen 27 = .ok (.ireturn, 1) := by decide +kernel
theorem jd_H_openAccount_0 : decode jc_H_openAccount 0 = .ok (.aload_n 0, 1) := by decide +kernel
theorem jd_H_openAccount_1 : decode jc_H_openAccount 1 = .ok (.getfield 11, 3) := by decide +kernel
theorem jd_H_openAccount_4 : decode jc_H_openAccount 4 = .ok (.iload_n 1, 1) := by decide +kernel
theorem jd_H_openAccount_5 : decode jc_H_openAccount 5 = .ok (.aaload, 1) := by decide +kernel
theorem jd_H_openAccount_6 : decode jc_H_openAccount 6 = .ok (.astore 4, 2) := by decide +kernel
theorem jd_H_openAccount_8 : decode jc_H_openAccount 8 = .ok (.aload 4, 2) := by decide +kernel
theorem jd_H_openAccount_10 : decode jc_H_openAccount 10 = .ok (.iconst 1, 1) := by decide +kernel
theorem jd_H_openAccount_11 : decode jc_H_openAccount 11 = .ok (.putfield 33, 3) := by decide +kernel
theorem jd_H_openAccount_14 : decode jc_H_openAccount 14 = .ok (.aload 4, 2) := by decide +kernel
theorem jd_H_openAccount_16 : decode jc_H_openAccount 16 = .ok (.iload_n 2, 1) := by decide +kernel
theorem jd_H_openAccount_17 : decode jc_H_openAccount 17 = .ok (.putfield 37, 3) := by decide +kernel
theorem jd_H_openAccount_20 : decode jc_H_openAccount 20 = .ok (.aload 4, 2) := by decide +kernel
theorem jd_H_openAccount_22 : decode jc_H_openAccount 22 = .ok (.iload_n 3, 1) := by decide +kernel
theorem jd_H_openAccount_23 : decode jc_H_openAccount 23 = .ok (.putfield 41, 3) := by decide +kernel
theorem jd_H_openAccount_26 : decode jc_H_openAccount 26 = .ok (.aload 4, 2) := by decide +kernel
theorem jd_H_openAccount_28 : decode jc_H_openAccount 28 = .ok (.iload_n 3, 1) := by decide +kernel
theorem jd_H_openAccount_29 : decode jc_H_openAccount 29 = .ok (.putfield 44, 3) := by decide +kernel
theorem jd_H_openAccount_32 : decode jc_H_openAccount 32 = .ok (.return_, 1) := by decide +kernel
theorem jd_H_openAccounts_0 : decode jc_H_openAccounts 0 = .ok (.iconst 0, 1) := by decide +kernel
theorem jd_H_openAccounts_1 : decode jc_H_openAccounts 1 = .ok (.istore_n 1, 1) := by decide +kernel
theorem jd_H_openAccounts_2 : decode jc_H_openAccounts 2 = .ok (.aload_n 0, 1) := by decide +kernel
theorem jd_H_openAccounts_3 : decode jc_H_openAccounts 3 = .ok (.getfield 11, 3) := by decide +kernel
theorem jd_H_openAccounts_6 : decode jc_H_openAccounts 6 = .ok (.astore_n 2, 1) := by decide +kernel
theorem jd_H_openAccounts_7 : decode jc_H_openAccounts 7 = .ok (.aload_n 2, 1) := by decide +kernel
theorem jd_H_openAccounts_8 : decode jc_H_openAccounts 8 = .ok (.arraylength, 1) := by decide +kernel
theorem jd_H_openAccounts_9 : decode jc_H_openAccounts 9 = .ok (.istore_n 3, 1) := by decide +kernel
theorem jd_H_openAccounts_10 : decode jc_H_openAccounts 10 = .ok (.iconst 0, 1) := by decide +kernel
theorem jd_H_openAccounts_11 : decode jc_H_openAccounts 11 = .ok (.istore 4, 2) := by decide +kernel
theorem jd_H_openAccounts_13 : decode jc_H_openAccounts 13 = .ok (.iload 4, 2) := by decide +kernel
theorem jd_H_openAccounts_15 : decode jc_H_openAccounts 15 = .ok (.iload_n 3, 1) := by decide +kernel
theorem jd_H_openAccounts_16 : decode jc_H_openAccounts 16 = .ok (.if_icmp .ge 31, 3) := by decide +kernel
theorem jd_H_openAccounts_19 : decode jc_H_openAccounts 19 = .ok (.aload_n 2, 1) := by decide +kernel
theorem jd_H_openAccounts_20 : decode jc_H_openAccounts 20 = .ok (.iload 4, 2) := by decide +kernel
theorem jd_H_openAccounts_22 : decode jc_H_openAccounts 22 = .ok (.aaload, 1) := by decide +kernel
theorem jd_H_openAccounts_23 : decode jc_H_openAccounts 23 = .ok (.astore 5, 2) := by decide +kernel
theorem jd_H_openAccounts_25 : decode jc_H_openAccounts 25 = .ok (.iload_n 1, 1) := by decide +kernel
theorem jd_H_openAccounts_26 : decode jc_H_openAccounts 26 = .ok (.aload 5, 2) := by decide +kernel
theorem jd_H_openAccounts_28 : decode jc_H_openAccounts 28 = .ok (.getfield 33, 3) := by decide +kernel
theorem jd_H_openAccounts_31 : decode jc_H_openAccounts 31 = .ok (.ifCond .eq 7, 3) := by decide +kernel
theorem jd_H_openAccounts_34 : decode jc_H_openAccounts 34 = .ok (.iconst 1, 1) := by decide +kernel
theorem jd_H_openAccounts_35 : decode jc_H_openAccounts 35 = .ok (.goto 4, 3) := by decide +kernel
theorem jd_H_openAccounts_38 : decode jc_H_openAccounts 38 = .ok (.iconst 0, 1) := by decide +kernel
theorem jd_H_openAccounts_39 : decode jc_H_openAccounts 39 = .ok (.iadd, 1) := by decide +kernel
theorem jd_H_openAccounts_40 : decode jc_H_openAccounts 40 = .ok (.istore_n 1, 1) := by decide +kernel
theorem jd_H_openAccounts_41 : decode jc_H_openAccounts 41 = .ok (.iinc 4 1, 3) := by decide +kernel
theorem jd_H_openAccounts_44 : decode jc_H_openAccounts 44 = .ok (.goto (-31), 3) := by decide +kernel
theorem jd_H_openAccounts_47 : decode jc_H_openAccounts 47 = .ok (.iload_n 1, 1) := by decide +kernel
theorem jd_H_openAccounts_48 : decode jc_H_openAccounts 48 = .ok (.ireturn, 1) := by decide +kernel
theorem jd_L_load_0 : decode jc_L_load 0 = .ok (.aload 4, 2) := by decide +kernel
theorem jd_L_load_2 : decode jc_L_load 2 = .ok (.iconst 0, 1) := by decide +kernel
theorem jd_L_load_3 : decode jc_L_load 3 = .ok (.aload_n 0, 1) := by decide +kernel
theorem jd_L_load_4 : decode jc_L_load 4 = .ok (.iload_n 1, 1) := by decide +kernel
theorem jd_L_load_5 : decode jc_L_load 5 = .ok (.iload_n 2, 1) := by decide +kernel
theorem jd_L_load_6 : decode jc_L_load 6 = .ok (.iload_n 3, 1) := by decide +kernel
theorem jd_L_load_7 : decode jc_L_load 7 = .ok (.invokevirtual 17, 3) := by decide +kernel
theorem jd_L_load_10 : decode jc_L_load 10 = .ok (.i2l, 1) := by decide +kernel
theorem jd_L_load_11 : decode jc_L_load 11 = .ok (.lastore, 1) := by decide +kernel
theorem jd_L_load_12 : decode jc_L_load 12 = .ok (.goto 11, 3) := by decide +kernel
theorem jd_L_load_15 : decode jc_L_load 15 = .ok (.astore 5, 2) := by decide +kernel
theorem jd_L_load_17 : decode jc_L_load 17 = .ok (.iconst 1, 1) := by decide +kernel
theorem jd_L_load_18 : decode jc_L_load 18 = .ok (.ireturn, 1) := by decide +kernel
theorem jd_L_load_19 : decode jc_L_load 19 = .ok (.astore 5, 2) := by decide +kernel
theorem jd_L_load_21 : decode jc_L_load 21 = .ok (.iconst 2, 1) := by decide +kernel
theorem jd_L_load_22 : decode jc_L_load 22 = .ok (.ireturn, 1) := by decide +kernel
theorem jd_L_load_23 : decode jc_L_load 23 = .ok (.iconst 0, 1) := by decide +kernel
theorem jd_L_load_24 : decode jc_L_load 24 = .ok (.ireturn, 1) := by decide +kernel
theorem jd_C_load_0 : decode jc_C_load 0 = .ok (.iload_n 1, 1) := by decide +kernel
theorem jd_C_load_1 : decode jc_C_load 1 = .ok (.iconst 0, 1) := by decide +kernel
theorem jd_C_load_2 : decode jc_C_load 2 = .ok (.iconst 3, 1) := by decide +kernel
theorem jd_C_load_3 : decode jc_C_load 3 = .ok (.invokestatic 58, 3) := by decide +kernel
theorem jd_C_load_6 : decode jc_C_load 6 = .ok (.ifCond .eq 24, 3) := by decide +kernel
theorem jd_C_load_9 : decode jc_C_load 9 = .ok (.iload_n 2, 1) := by decide +kernel
theorem jd_C_load_10 : decode jc_C_load 10 = .ok (.iconst 1, 1) := by decide +kernel
theorem jd_C_load_11 : decode jc_C_load 11 = .ok (.sipush 500, 3) := by decide +kernel
theorem jd_C_load_14 : decode jc_C_load 14 = .ok (.invokestatic 58, 3) := by decide +kernel
theorem jd_C_load_17 : decode jc_C_load 17 = .ok (.ifCond .eq 13, 3) := by decide +kernel
theorem jd_C_load_20 : decode jc_C_load 20 = .ok (.iload_n 3, 1) := by decide +kernel
theorem jd_C_load_21 : decode jc_C_load 21 = .ok (.iconst 0, 1) := by decide +kernel
theorem jd_C_load_22 : decode jc_C_load 22 = .ok (.bipush 50, 2) := by decide +kernel
theorem jd_C_load_24 : decode jc_C_load 24 = .ok (.invokestatic 58, 3) := by decide +kernel
theorem jd_C_load_27 : decode jc_C_load 27 = .ok (.ifCond .ne 11, 3) := by decide +kernel
theorem jd_C_load_30 : decode jc_C_load 30 = .ok (.new 63, 3) := by decide +kernel
theorem jd_C_load_33 : decode jc_C_load 33 = .ok (.dup, 1) := by decide +kernel
theorem jd_C_load_34 : decode jc_C_load 34 = .ok (.invokespecial 65, 3) := by decide +kernel
theorem jd_C_load_37 : decode jc_C_load 37 = .ok (.athrow, 1) := by decide +kernel
theorem jd_C_load_38 : decode jc_C_load 38 = .ok (.aload_n 0, 1) := by decide +kernel
theorem jd_C_load_39 : decode jc_C_load 39 = .ok (.getfield 48, 3) := by decide +kernel
theorem jd_C_load_42 : decode jc_C_load 42 = .ok (.iconst (-1), 1) := by decide +kernel
theorem jd_C_load_43 : decode jc_C_load 43 = .ok (.if_icmp .eq 11, 3) := by decide +kernel
theorem jd_C_load_46 : decode jc_C_load 46 = .ok (.new 70, 3) := by decide +kernel
theorem jd_C_load_49 : decode jc_C_load 49 = .ok (.dup, 1) := by decide +kernel
theorem jd_C_load_50 : decode jc_C_load 50 = .ok (.invokespecial 72, 3) := by decide +kernel
theorem jd_C_load_53 : decode jc_C_load 53 = .ok (.athrow, 1) := by decide +kernel
theorem jd_C_load_54 : decode jc_C_load 54 = .ok (.aload_n 0, 1) := by decide +kernel
theorem jd_C_load_55 : decode jc_C_load 55 = .ok (.getfield 26, 3) := by decide +kernel
theorem jd_C_load_58 : decode jc_C_load 58 = .ok (.iload_n 1, 1) := by decide +kernel
theorem jd_C_load_59 : decode jc_C_load 59 = .ok (.iload_n 2, 1) := by decide +kernel
theorem jd_C_load_60 : decode jc_C_load 60 = .ok (.iload_n 3, 1) := by decide +kernel
theorem jd_C_load_61 : decode jc_C_load 61 = .ok (.invokevirtual 81, 3) := by decide +kernel
theorem jd_C_load_64 : decode jc_C_load 64 = .ok (.ireturn, 1) := by decide +kernel
theorem jd_D_exchangeNotes_0 : decode jc_D_exchangeNotes 0 = .ok (.aload_n 0, 1) := by decide +kernel
theorem jd_D_exchangeNotes_1 : decode jc_D_exchangeNotes 1 = .ok (.getfield 11, 3) := by decide +kernel
theorem jd_D_exchangeNotes_4 : decode jc_D_exchangeNotes 4 = .ok (.iload_n 1, 1) := by decide +kernel
theorem jd_D_exchangeNotes_5 : decode jc_D_exchangeNotes 5 = .ok (.aaload, 1) := by decide +kernel
theorem jd_D_exchangeNotes_6 : decode jc_D_exchangeNotes 6 = .ok (.astore 4, 2) := by decide +kernel
theorem jd_D_exchangeNotes_8 : decode jc_D_exchangeNotes 8 = .ok (.aload 4, 2) := by decide +kernel
theorem jd_D_exchangeNotes_10 : decode jc_D_exchangeNotes 10 = .ok (.getfield 38, 3) := by decide +kernel
theorem jd_D_exchangeNotes_13 : decode jc_D_exchangeNotes 13 = .ok (.aload 4, 2) := by decide +kernel
theorem jd_D_exchangeNotes_15 : decode jc_D_exchangeNotes 15 = .ok (.getfield 41, 3) := by decide +kernel
theorem jd_D_exchangeNotes_18 : decode jc_D_exchangeNotes 18 = .ok (.imul, 1) := by decide +kernel
theorem jd_D_exchangeNotes_19 : decode jc_D_exchangeNotes 19 = .ok (.istore 5, 2) := by decide +kernel
theorem jd_D_exchangeNotes_21 : decode jc_D_exchangeNotes 21 = .ok (.aload 4, 2) := by decide +kernel
theorem jd_D_exchangeNotes_23 : decode jc_D_exchangeNotes 23 = .ok (.iload_n 2, 1) := by decide +kernel
theorem jd_D_exchangeNotes_24 : decode jc_D_exchangeNotes 24 = .ok (.putfield 38, 3) := by decide +kernel
theorem jd_D_exchangeNotes_27 : decode jc_D_exchangeNotes 27 = .ok (.aload 4, 2) := by decide +kernel
theorem jd_D_exchangeNotes_29 : decode jc_D_exchangeNotes 29 = .ok (.iload_n 3, 1) := by decide +kernel
theorem jd_D_exchangeNotes_30 : decode jc_D_exchangeNotes 30 = .ok (.putfield 41, 3) := by decide +kernel
theorem jd_D_exchangeNotes_33 : decode jc_D_exchangeNotes 33 = .ok (.iload 5, 2) := by decide +kernel
theorem jd_D_exchangeNotes_35 : decode jc_D_exchangeNotes 35 = .ok (.ireturn, 1) := by decide +kernel
theorem jd_L_insert_0 : decode jc_L_insert 0 = .ok (.aload_n 2, 1) := by decide +kernel
theorem jd_L_insert_1 : decode jc_L_insert 1 = .ok (.iconst 0, 1) := by decide +kernel
theorem jd_L_insert_2 : decode jc_L_insert 2 = .ok (.aload_n 0, 1) := by decide +kernel
theorem jd_L_insert_3 : decode jc_L_insert 3 = .ok (.iload_n 1, 1) := by decide +kernel
theorem jd_L_insert_4 : decode jc_L_insert 4 = .ok (.invokevirtual 20, 3) := by decide +kernel
theorem jd_L_insert_7 : decode jc_L_insert 7 = .ok (.i2l, 1) := by decide +kernel
theorem jd_L_insert_8 : decode jc_L_insert 8 = .ok (.lastore, 1) := by decide +kernel
theorem jd_L_insert_9 : decode jc_L_insert 9 = .ok (.goto 12, 3) := by decide +kernel
theorem jd_L_insert_12 : decode jc_L_insert 12 = .ok (.astore_n 3, 1) := by decide +kernel
theorem jd_L_insert_13 : decode jc_L_insert 13 = .ok (.iconst 1, 1) := by decide +kernel
theorem jd_L_insert_14 : decode jc_L_insert 14 = .ok (.ireturn, 1) := by decide +kernel
theorem jd_L_insert_15 : decode jc_L_insert 15 = .ok (.astore_n 3, 1) := by decide +kernel
theorem jd_L_insert_16 : decode jc_L_insert 16 = .ok (.iconst 2, 1) := by decide +kernel
theorem jd_L_insert_17 : decode jc_L_insert 17 = .ok (.ireturn, 1) := by decide +kernel
theorem jd_L_insert_18 : decode jc_L_insert 18 = .ok (.astore_n 3, 1) := by decide +kernel
theorem jd_L_insert_19 : decode jc_L_insert 19 = .ok (.iconst 3, 1) := by decide +kernel
theorem jd_L_insert_20 : decode jc_L_insert 20 = .ok (.ireturn, 1) := by decide +kernel
theorem jd_L_insert_21 : decode jc_L_insert 21 = .ok (.iconst 0, 1) := by decide +kernel
theorem jd_L_insert_22 : decode jc_L_insert 22 = .ok (.ireturn, 1) := by decide +kernel
theorem jd_C_insert_0 : decode jc_C_insert 0 = .ok (.aload_n 0, 1) := by decide +kernel
theorem jd_C_insert_1 : decode jc_C_insert 1 = .ok (.getfield 44, 3) := by decide +kernel
theorem jd_C_insert_4 : decode jc_C_insert 4 = .ok (.ifCond .eq 11, 3) := by decide +kernel
theorem jd_C_insert_7 : decode jc_C_insert 7 = .ok (.aload_n 0, 1) := by decide +kernel
theorem jd_C_insert_8 : decode jc_C_insert 8 = .ok (.getfield 48, 3) := by decide +kernel
theorem jd_C_insert_11 : decode jc_C_insert 11 = .ok (.iconst (-1), 1) := by decide +kernel
theorem jd_C_insert_12 : decode jc_C_insert 12 = .ok (.if_icmp .eq 11, 3) := by decide +kernel
theorem jd_C_insert_15 : decode jc_C_insert 15 = .ok (.new 70, 3) := by decide +kernel
theorem jd_C_insert_18 : decode jc_C_insert 18 = .ok (.dup, 1) := by decide +kernel
theorem jd_C_insert_19 : decode jc_C_insert 19 = .ok (.invokespecial 72, 3) := by decide +kernel
theorem jd_C_insert_22 : decode jc_C_insert 22 = .ok (.athrow, 1) := by decide +kernel
theorem jd_C_insert_23 : decode jc_C_insert 23 = .ok (.aload_n 0, 1) := by decide +kernel
theorem jd_C_insert_24 : decode jc_C_insert 24 = .ok (.getfield 10, 3) := by decide +kernel
theorem jd_C_insert_27 : decode jc_C_insert 27 = .ok (.iload_n 1, 1) := by decide +kernel
theorem jd_C_insert_28 : decode jc_C_insert 28 = .ok (.invokevirtual 66, 3) := by decide +kernel
theorem jd_C_insert_31 : decode jc_C_insert 31 = .ok (.ifCond .ne 11, 3) := by decide +kernel
theorem jd_C_insert_34 : decode jc_C_insert 34 = .ok (.new 85, 3) := by decide +kernel
theorem jd_C_insert_37 : decode jc_C_insert 37 = .ok (.dup, 1) := by decide +kernel
theorem jd_C_insert_38 : decode jc_C_insert 38 = .ok (.invokespecial 87, 3) := by decide +kernel
theorem jd_C_insert_41 : decode jc_C_insert 41 = .ok (.athrow, 1) := by decide +kernel
theorem jd_C_insert_42 : decode jc_C_insert 42 = .ok (.aload_n 0, 1) := by decide +kernel
theorem jd_C_insert_43 : decode jc_C_insert 43 = .ok (.getfield 10, 3) := by decide +kernel
theorem jd_C_insert_46 : decode jc_C_insert 46 = .ok (.getfield 88, 3) := by decide +kernel
theorem jd_C_insert_49 : decode jc_C_insert 49 = .ok (.iload_n 1, 1) := by decide +kernel
theorem jd_C_insert_50 : decode jc_C_insert 50 = .ok (.aaload, 1) := by decide +kernel
theorem jd_C_insert_51 : decode jc_C_insert 51 = .ok (.getfield 92, 3) := by decide +kernel
theorem jd_C_insert_54 : decode jc_C_insert 54 = .ok (.ifCond .eq 11, 3) := by decide +kernel
theorem jd_C_insert_57 : decode jc_C_insert 57 = .ok (.new 97, 3) := by decide +kernel
theorem jd_C_insert_60 : decode jc_C_insert 60 = .ok (.dup, 1) := by decide +kernel
theorem jd_C_insert_61 : decode jc_C_insert 61 = .ok (.invokespecial 99, 3) := by decide +kernel
theorem jd_C_insert_64 : decode jc_C_insert 64 = .ok (.athrow, 1) := by decide +kernel
theorem jd_C_insert_65 : decode jc_C_insert 65 = .ok (.aload_n 0, 1) := by decide +kernel
theorem jd_C_insert_66 : decode jc_C_insert 66 = .ok (.iload_n 1, 1) := by decide +kernel
theorem jd_C_insert_67 : decode jc_C_insert 67 = .ok (.putfield 48, 3) := by decide +kernel
theorem jd_C_insert_70 : decode jc_C_insert 70 = .ok (.aload_n 0, 1) := by decide +kernel
theorem jd_C_insert_71 : decode jc_C_insert 71 = .ok (.iconst 0, 1) := by decide +kernel
theorem jd_C_insert_72 : decode jc_C_insert 72 = .ok (.putfield 52, 3) := by decide +kernel
theorem jd_C_insert_75 : decode jc_C_insert 75 = .ok (.aload_n 0, 1) := by decide +kernel
theorem jd_C_insert_76 : decode jc_C_insert 76 = .ok (.getfield 10, 3) := by decide +kernel
theorem jd_C_insert_79 : decode jc_C_insert 79 = .ok (.getfield 88, 3) := by decide +kernel
theorem jd_C_insert_82 : decode jc_C_insert 82 = .ok (.iload_n 1, 1) := by decide +kernel
theorem jd_C_insert_83 : decode jc_C_insert 83 = .ok (.aaload, 1) := by decide +kernel
theorem jd_C_insert_84 : decode jc_C_insert 84 = .ok (.getfield 100, 3) := by decide +kernel
theorem jd_C_insert_87 : decode jc_C_insert 87 = .ok (.ireturn, 1) := by decide +kernel
theorem jd_L_pin_0 : decode jc_L_pin 0 = .ok (.aload_n 2, 1) := by decide +kernel
theorem jd_L_pin_1 : decode jc_L_pin 1 = .ok (.iconst 0, 1) := by decide +kernel
theorem jd_L_pin_2 : decode jc_L_pin 2 = .ok (.aload_n 0, 1) := by decide +kernel
theorem jd_L_pin_3 : decode jc_L_pin 3 = .ok (.iload_n 1, 1) := by decide +kernel
theorem jd_L_pin_4 : decode jc_L_pin 4 = .ok (.invokevirtual 28, 3) := by decide +kernel
theorem jd_L_pin_7 : decode jc_L_pin 7 = .ok (.i2l, 1) := by decide +kernel
theorem jd_L_pin_8 : decode jc_L_pin 8 = .ok (.lastore, 1) := by decide +kernel
theorem jd_L_pin_9 : decode jc_L_pin 9 = .ok (.goto 6, 3) := by decide +kernel
theorem jd_L_pin_12 : decode jc_L_pin 12 = .ok (.astore_n 3, 1) := by decide +kernel
theorem jd_L_pin_13 : decode jc_L_pin 13 = .ok (.iconst 1, 1) := by decide +kernel
theorem jd_L_pin_14 : decode jc_L_pin 14 = .ok (.ireturn, 1) := by decide +kernel
theorem jd_L_pin_15 : decode jc_L_pin 15 = .ok (.iconst 0, 1) := by decide +kernel
theorem jd_L_pin_16 : decode jc_L_pin 16 = .ok (.ireturn, 1) := by decide +kernel
theorem jd_C_pin_0 : decode jc_C_pin 0 = .ok (.aload_n 0, 1) := by decide +kernel
theorem jd_C_pin_1 : decode jc_C_pin 1 = .ok (.getfield 48, 3) := by decide +kernel
theorem jd_C_pin_4 : decode jc_C_pin 4 = .ok (.iconst (-1), 1) := by decide +kernel
theorem jd_C_pin_5 : decode jc_C_pin 5 = .ok (.if_icmp .eq 10, 3) := by decide +kernel
theorem jd_C_pin_8 : decode jc_C_pin 8 = .ok (.aload_n 0, 1) := by decide +kernel
theorem jd_C_pin_9 : decode jc_C_pin 9 = .ok (.getfield 52, 3) := by decide +kernel
theorem jd_C_pin_12 : decode jc_C_pin 12 = .ok (.ifCond .eq 11, 3) := by decide +kernel
theorem jd_C_pin_15 : decode jc_C_pin 15 = .ok (.new 70, 3) := by decide +kernel
theorem jd_C_pin_18 : decode jc_C_pin 18 = .ok (.dup, 1) := by decide +kernel
theorem jd_C_pin_19 : decode jc_C_pin 19 = .ok (.invokespecial 72, 3) := by decide +kernel
theorem jd_C_pin_22 : decode jc_C_pin 22 = .ok (.athrow, 1) := by decide +kernel
theorem jd_C_pin_23 : decode jc_C_pin 23 = .ok (.aload_n 0, 1) := by decide +kernel
theorem jd_C_pin_24 : decode jc_C_pin 24 = .ok (.getfield 10, 3) := by decide +kernel
theorem jd_C_pin_27 : decode jc_C_pin 27 = .ok (.getfield 88, 3) := by decide +kernel
theorem jd_C_pin_30 : decode jc_C_pin 30 = .ok (.aload_n 0, 1) := by decide +kernel
theorem jd_C_pin_31 : decode jc_C_pin 31 = .ok (.getfield 48, 3) := by decide +kernel
theorem jd_C_pin_34 : decode jc_C_pin 34 = .ok (.aaload, 1) := by decide +kernel
theorem jd_C_pin_35 : decode jc_C_pin 35 = .ok (.astore_n 2, 1) := by decide +kernel
theorem jd_C_pin_36 : decode jc_C_pin 36 = .ok (.aload_n 0, 1) := by decide +kernel
theorem jd_C_pin_37 : decode jc_C_pin 37 = .ok (.aload_n 2, 1) := by decide +kernel
theorem jd_C_pin_38 : decode jc_C_pin 38 = .ok (.iload_n 1, 1) := by decide +kernel
theorem jd_C_pin_39 : decode jc_C_pin 39 = .ok (.invokevirtual 103, 3) := by decide +kernel
theorem jd_C_pin_42 : decode jc_C_pin 42 = .ok (.putfield 52, 3) := by decide +kernel
theorem jd_C_pin_45 : decode jc_C_pin 45 = .ok (.aload_n 2, 1) := by decide +kernel
theorem jd_C_pin_46 : decode jc_C_pin 46 = .ok (.getfield 92, 3) := by decide +kernel
theorem jd_C_pin_49 : decode jc_C_pin 49 = .ok (.ifCond .eq 7, 3) := by decide +kernel
theorem jd_C_pin_52 : decode jc_C_pin 52 = .ok (.aload_n 0, 1) := by decide +kernel
theorem jd_C_pin_53 : decode jc_C_pin 53 = .ok (.invokevirtual 106, 3) := by decide +kernel
theorem jd_C_pin_56 : decode jc_C_pin 56 = .ok (.aload_n 2, 1) := by decide +kernel
theorem jd_C_pin_57 : decode jc_C_pin 57 = .ok (.getfield 100, 3) := by decide +kernel
theorem jd_C_pin_60 : decode jc_C_pin 60 = .ok (.ireturn, 1) := by decide +kernel
theorem jd_A_tryPin_0 : decode jc_A_tryPin 0 = .ok (.iload_n 1, 1) := by decide +kernel
theorem jd_A_tryPin_1 : decode jc_A_tryPin 1 = .ok (.aload_n 0, 1) := by decide +kernel
theorem jd_A_tryPin_2 : decode jc_A_tryPin 2 = .ok (.getfield 15, 3) := by decide +kernel
theorem jd_A_tryPin_5 : decode jc_A_tryPin 5 = .ok (.if_icmp .ne 10, 3) := by decide +kernel
theorem jd_A_tryPin_8 : decode jc_A_tryPin 8 = .ok (.aload_n 0, 1) := by decide +kernel
theorem jd_A_tryPin_9 : decode jc_A_tryPin 9 = .ok (.iconst 3, 1) := by decide +kernel
theorem jd_A_tryPin_10 : decode jc_A_tryPin 10 = .ok (.putfield 25, 3) := by decide +kernel
theorem jd_A_tryPin_13 : decode jc_A_tryPin 13 = .ok (.iconst 1, 1) := by decide +kernel
theorem jd_A_tryPin_14 : decode jc_A_tryPin 14 = .ok (.ireturn, 1) := by decide +kernel
theorem jd_A_tryPin_15 : decode jc_A_tryPin 15 = .ok (.aload_n 0, 1) := by decide +kernel
theorem jd_A_tryPin_16 : decode jc_A_tryPin 16 = .ok (.dup, 1) := by decide +kernel
theorem jd_A_tryPin_17 : decode jc_A_tryPin 17 = .ok (.getfield 25, 3) := by decide +kernel
theorem jd_A_tryPin_20 : decode jc_A_tryPin 20 = .ok (.iconst 1, 1) := by decide +kernel
theorem jd_A_tryPin_21 : decode jc_A_tryPin 21 = .ok (.isub, 1) := by decide +kernel
theorem jd_A_tryPin_22 : decode jc_A_tryPin 22 = .ok (.putfield 25, 3) := by decide +kernel
theorem jd_A_tryPin_25 : decode jc_A_tryPin 25 = .ok (.aload_n 0, 1) := by decide +kernel
theorem jd_A_tryPin_26 : decode jc_A_tryPin 26 = .ok (.aload_n 0, 1) := by decide +kernel
theorem jd_A_tryPin_27 : decode jc_A_tryPin 27 = .ok (.getfield 25, 3) := by decide +kernel
theorem jd_A_tryPin_30 : decode jc_A_tryPin 30 = .ok (.ifCond .gt 7, 3) := by decide +kernel
theorem jd_A_tryPin_33 : decode jc_A_tryPin 33 = .ok (.iconst 1, 1) := by decide +kernel
theorem jd_A_tryPin_34 : decode jc_A_tryPin 34 = .ok (.goto 4, 3) := by decide +kernel
theorem jd_A_tryPin_37 : decode jc_A_tryPin 37 = .ok (.iconst 0, 1) := by decide +kernel
theorem jd_A_tryPin_38 : decode jc_A_tryPin 38 = .ok (.putfield 28, 3) := by decide +kernel
theorem jd_A_tryPin_41 : decode jc_A_tryPin 41 = .ok (.iconst 0, 1) := by decide +kernel
theorem jd_A_tryPin_42 : decode jc_A_tryPin 42 = .ok (.ireturn, 1) := by decide +kernel
theorem jd_C_endSession_0 : decode jc_C_endSession 0 = .ok (.aload_n 0, 1) := by decide +kernel
theorem jd_C_endSession_1 : decode jc_C_endSession 1 = .ok (.iconst (-1), 1) := by decide +kernel
theorem jd_C_endSession_2 : decode jc_C_endSession 2 = .ok (.putfield 48, 3) := by decide +kernel
theorem jd_C_endSession_5 : decode jc_C_endSession 5 = .ok (.aload_n 0, 1) := by decide +kernel
theorem jd_C_endSession_6 : decode jc_C_endSession 6 = .ok (.iconst 0, 1) := by decide +kernel
theorem jd_C_endSession_7 : decode jc_C_endSession 7 = .ok (.putfield 52, 3) := by decide +kernel
theorem jd_C_endSession_10 : decode jc_C_endSession 10 = .ok (.return_, 1) := by decide +kernel
theorem jd_L_eject_0 : decode jc_L_eject 0 = .ok (.aload_n 1, 1) := by decide +kernel
theorem jd_L_eject_1 : decode jc_L_eject 1 = .ok (.iconst 0, 1) := by decide +kernel
theorem jd_L_eject_2 : decode jc_L_eject 2 = .ok (.aload_n 0, 1) := by decide +kernel
theorem jd_L_eject_3 : decode jc_L_eject 3 = .ok (.invokevirtual 31, 3) := by decide +kernel
theorem jd_L_eject_6 : decode jc_L_eject 6 = .ok (.i2l, 1) := by decide +kernel
theorem jd_L_eject_7 : decode jc_L_eject 7 = .ok (.lastore, 1) := by decide +kernel
theorem jd_L_eject_8 : decode jc_L_eject 8 = .ok (.goto 6, 3) := by decide +kernel
theorem jd_L_eject_11 : decode jc_L_eject 11 = .ok (.astore_n 2, 1) := by decide +kernel
theorem jd_L_eject_12 : decode jc_L_eject 12 = .ok (.iconst 1, 1) := by decide +kernel
theorem jd_L_eject_13 : decode jc_L_eject 13 = .ok (.ireturn, 1) := by decide +kernel
theorem jd_L_eject_14 : decode jc_L_eject 14 = .ok (.iconst 0, 1) := by decide +kernel
theorem jd_L_eject_15 : decode jc_L_eject 15 = .ok (.ireturn, 1) := by decide +kernel
theorem jd_C_eject_0 : decode jc_C_eject 0 = .ok (.aload_n 0, 1) := by decide +kernel
theorem jd_C_eject_1 : decode jc_C_eject 1 = .ok (.getfield 48, 3) := by decide +kernel
theorem jd_C_eject_4 : decode jc_C_eject 4 = .ok (.iconst (-1), 1) := by decide +kernel
theorem jd_C_eject_5 : decode jc_C_eject 5 = .ok (.if_icmp .ne 11, 3) := by decide +kernel
theorem jd_C_eject_8 : decode jc_C_eject 8 = .ok (.new 70, 3) := by decide +kernel
theorem jd_C_eject_11 : decode jc_C_eject 11 = .ok (.dup, 1) := by decide +kernel
theorem jd_C_eject_12 : decode jc_C_eject 12 = .ok (.invokespecial 72, 3) := by decide +kernel
theorem jd_C_eject_15 : decode jc_C_eject 15 = .ok (.athrow, 1) := by decide +kernel
theorem jd_C_eject_16 : decode jc_C_eject 16 = .ok (.aload_n 0, 1) := by decide +kernel
theorem jd_C_eject_17 : decode jc_C_eject 17 = .ok (.getfield 48, 3) := by decide +kernel
theorem jd_C_eject_20 : decode jc_C_eject 20 = .ok (.istore_n 1, 1) := by decide +kernel
theorem jd_C_eject_21 : decode jc_C_eject 21 = .ok (.aload_n 0, 1) := by decide +kernel
theorem jd_C_eject_22 : decode jc_C_eject 22 = .ok (.invokevirtual 106, 3) := by decide +kernel
theorem jd_C_eject_25 : decode jc_C_eject 25 = .ok (.iload_n 1, 1) := by decide +kernel
theorem jd_C_eject_26 : decode jc_C_eject 26 = .ok (.ireturn, 1) := by decide +kernel
theorem jd_L_withdraw_0 : decode jc_L_withdraw 0 = .ok (.aload_n 2, 1) := by decide +kernel
theorem jd_L_withdraw_1 : decode jc_L_withdraw 1 = .ok (.iconst 0, 1) := by decide +kernel
theorem jd_L_withdraw_2 : decode jc_L_withdraw 2 = .ok (.aload_n 0, 1) := by decide +kernel
theorem jd_L_withdraw_3 : decode jc_L_withdraw 3 = .ok (.iload_n 1, 1) := by decide +kernel
theorem jd_L_withdraw_4 : decode jc_L_withdraw 4 = .ok (.invokevirtual 35, 3) := by decide +kernel
theorem jd_L_withdraw_7 : decode jc_L_withdraw 7 = .ok (.i2l, 1) := by decide +kernel
theorem jd_L_withdraw_8 : decode jc_L_withdraw 8 = .ok (.lastore, 1) := by decide +kernel
theorem jd_L_withdraw_9 : decode jc_L_withdraw 9 = .ok (.goto 15, 3) := by decide +kernel
theorem jd_L_withdraw_12 : decode jc_L_withdraw 12 = .ok (.astore_n 3, 1) := by decide +kernel
theorem jd_L_withdraw_13 : decode jc_L_withdraw 13 = .ok (.iconst 1, 1) := by decide +kernel
theorem jd_L_withdraw_14 : decode jc_L_withdraw 14 = .ok (.ireturn, 1) := by decide +kernel
theorem jd_L_withdraw_15 : decode jc_L_withdraw 15 = .ok (.astore_n 3, 1) := by decide +kernel
theorem jd_L_withdraw_16 : decode jc_L_withdraw 16 = .ok (.iconst 2, 1) := by decide +kernel
theorem jd_L_withdraw_17 : decode jc_L_withdraw 17 = .ok (.ireturn, 1) := by decide +kernel
theorem jd_L_withdraw_18 : decode jc_L_withdraw 18 = .ok (.astore_n 3, 1) := by decide +kernel
theorem jd_L_withdraw_19 : decode jc_L_withdraw 19 = .ok (.iconst 3, 1) := by decide +kernel
theorem jd_L_withdraw_20 : decode jc_L_withdraw 20 = .ok (.ireturn, 1) := by decide +kernel
theorem jd_L_withdraw_21 : decode jc_L_withdraw 21 = .ok (.astore_n 3, 1) := by decide +kernel
theorem jd_L_withdraw_22 : decode jc_L_withdraw 22 = .ok (.iconst 4, 1) := by decide +kernel
theorem jd_L_withdraw_23 : decode jc_L_withdraw 23 = .ok (.ireturn, 1) := by decide +kernel
theorem jd_L_withdraw_24 : decode jc_L_withdraw 24 = .ok (.iconst 0, 1) := by decide +kernel
theorem jd_L_withdraw_25 : decode jc_L_withdraw 25 = .ok (.ireturn, 1) := by decide +kernel
theorem jd_C_withdraw_0 : decode jc_C_withdraw 0 = .ok (.aload_n 0, 1) := by decide +kernel
theorem jd_C_withdraw_1 : decode jc_C_withdraw 1 = .ok (.getfield 48, 3) := by decide +kernel
theorem jd_C_withdraw_4 : decode jc_C_withdraw 4 = .ok (.iconst (-1), 1) := by decide +kernel
theorem jd_C_withdraw_5 : decode jc_C_withdraw 5 = .ok (.if_icmp .eq 10, 3) := by decide +kernel
theorem jd_C_withdraw_8 : decode jc_C_withdraw 8 = .ok (.aload_n 0, 1) := by decide +kernel
theorem jd_C_withdraw_9 : decode jc_C_withdraw 9 = .ok (.getfield 52, 3) := by decide +kernel
theorem jd_C_withdraw_12 : decode jc_C_withdraw 12 = .ok (.ifCond .ne 11, 3) := by decide +kernel
theorem jd_C_withdraw_15 : decode jc_C_withdraw 15 = .ok (.new 70, 3) := by decide +kernel
theorem jd_C_withdraw_18 : decode jc_C_withdraw 18 = .ok (.dup, 1) := by decide +kernel
theorem jd_C_withdraw_19 : decode jc_C_withdraw 19 = .ok (.invokespecial 72, 3) := by decide +kernel
theorem jd_C_withdraw_22 : decode jc_C_withdraw 22 = .ok (.athrow, 1) := by decide +kernel
theorem jd_C_withdraw_23 : decode jc_C_withdraw 23 = .ok (.iload_n 1, 1) := by decide +kernel
theorem jd_C_withdraw_24 : decode jc_C_withdraw 24 = .ok (.iconst 1, 1) := by decide +kernel
theorem jd_C_withdraw_25 : decode jc_C_withdraw 25 = .ok (.sipush 5000, 3) := by decide +kernel
theorem jd_C_withdraw_28 : decode jc_C_withdraw 28 = .ok (.invokestatic 58, 3) := by decide +kernel
theorem jd_C_withdraw_31 : decode jc_C_withdraw 31 = .ok (.ifCond .ne 11, 3) := by decide +kernel
theorem jd_C_withdraw_34 : decode jc_C_withdraw 34 = .ok (.new 63, 3) := by decide +kernel
theorem jd_C_withdraw_37 : decode jc_C_withdraw 37 = .ok (.dup, 1) := by decide +kernel
theorem jd_C_withdraw_38 : decode jc_C_withdraw 38 = .ok (.invokespecial 65, 3) := by decide +kernel
theorem jd_C_withdraw_41 : decode jc_C_withdraw 41 = .ok (.athrow, 1) := by decide +kernel
theorem jd_C_withdraw_42 : decode jc_C_withdraw 42 = .ok (.aload_n 0, 1) := by decide +kernel
theorem jd_C_withdraw_43 : decode jc_C_withdraw 43 = .ok (.getfield 26, 3) := by decide +kernel
theorem jd_C_withdraw_46 : decode jc_C_withdraw 46 = .ok (.iload_n 1, 1) := by decide +kernel
theorem jd_C_withdraw_47 : decode jc_C_withdraw 47 = .ok (.invokevirtual 109, 3) := by decide +kernel
theorem jd_C_withdraw_50 : decode jc_C_withdraw 50 = .ok (.ifCond .ne 11, 3) := by decide +kernel
theorem jd_C_withdraw_53 : decode jc_C_withdraw 53 = .ok (.new 97, 3) := by decide +kernel
theorem jd_C_withdraw_56 : decode jc_C_withdraw 56 = .ok (.dup, 1) := by decide +kernel
theorem jd_C_withdraw_57 : decode jc_C_withdraw 57 = .ok (.invokespecial 99, 3) := by decide +kernel
theorem jd_C_withdraw_60 : decode jc_C_withdraw 60 = .ok (.athrow, 1) := by decide +kernel
theorem jd_C_withdraw_61 : decode jc_C_withdraw 61 = .ok (.aload_n 0, 1) := by decide +kernel
theorem jd_C_withdraw_62 : decode jc_C_withdraw 62 = .ok (.getfield 33, 3) := by decide +kernel
theorem jd_C_withdraw_65 : decode jc_C_withdraw 65 = .ok (.getfield 112, 3) := by decide +kernel
theorem jd_C_withdraw_68 : decode jc_C_withdraw 68 = .ok (.bipush 40, 2) := by decide +kernel
theorem jd_C_withdraw_70 : decode jc_C_withdraw 70 = .ok (.if_icmp .lt 11, 3) := by decide +kernel
theorem jd_C_withdraw_73 : decode jc_C_withdraw 73 = .ok (.new 115, 3) := by decide +kernel
theorem jd_C_withdraw_76 : decode jc_C_withdraw 76 = .ok (.dup, 1) := by decide +kernel
theorem jd_C_withdraw_77 : decode jc_C_withdraw 77 = .ok (.invokespecial 117, 3) := by decide +kernel
theorem jd_C_withdraw_80 : decode jc_C_withdraw 80 = .ok (.athrow, 1) := by decide +kernel
theorem jd_C_withdraw_81 : decode jc_C_withdraw 81 = .ok (.aload_n 0, 1) := by decide +kernel
theorem jd_C_withdraw_82 : decode jc_C_withdraw 82 = .ok (.aload_n 0, 1) := by decide +kernel
theorem jd_C_withdraw_83 : decode jc_C_withdraw 83 = .ok (.getfield 33, 3) := by decide +kernel
theorem jd_C_withdraw_86 : decode jc_C_withdraw 86 = .ok (.aload_n 0, 1) := by decide +kernel
theorem jd_C_withdraw_87 : decode jc_C_withdraw 87 = .ok (.getfield 48, 3) := by decide +kernel
theorem jd_C_withdraw_90 : decode jc_C_withdraw 90 = .ok (.iload_n 1, 1) := by decide +kernel
theorem jd_C_withdraw_91 : decode jc_C_withdraw 91 = .ok (.invokevirtual 118, 3) := by decide +kernel
theorem jd_C_withdraw_94 : decode jc_C_withdraw 94 = .ok (.invokevirtual 122, 3) := by decide +kernel
theorem jd_C_withdraw_97 : decode jc_C_withdraw 97 = .ok (.ireturn, 1) := by decide +kernel
theorem jd_D_findMix_0 : decode jc_D_findMix 0 = .ok (.aload_n 0, 1) := by decide +kernel
theorem jd_D_findMix_1 : decode jc_D_findMix 1 = .ok (.getfield 20, 3) := by decide +kernel
theorem jd_D_findMix_4 : decode jc_D_findMix 4 = .ok (.aload_n 0, 1) := by decide +kernel
theorem jd_D_findMix_5 : decode jc_D_findMix 5 = .ok (.getfield 11, 3) := by decide +kernel
theorem jd_D_findMix_8 : decode jc_D_findMix 8 = .ok (.iload_n 1, 1) := by decide +kernel
theorem jd_D_findMix_9 : decode jc_D_findMix 9 = .ok (.invokevirtual 44, 3) := by decide +kernel
theorem jd_D_findMix_12 : decode jc_D_findMix 12 = .ok (.ireturn, 1) := by decide +kernel
end
section
theorem jd_X_find_0 : decode jc_X_find 0 = .ok (.aload_n 0, 1) := by decide +kernel
theorem jd_X_find_1 : decode jc_X_find 1 = .ok (.aload_n 1, 1) := by decide +kernel
theorem jd_X_find_2 : decode jc_X_find 2 = .ok (.iconst 2, 1) := by decide +kernel
theorem jd_X_find_3 : decode jc_X_find 3 = .ok (.aaload, 1) := by decide +kernel
theorem jd_X_find_4 : decode jc_X_find 4 = .ok (.aload_n 1, 1) := by decide +kernel
theorem jd_X_find_5 : decode jc_X_find 5 = .ok (.iconst 3, 1) := by decide +kernel
theorem jd_X_find_6 : decode jc_X_find 6 = .ok (.aaload, 1) := by decide +kernel
theorem jd_X_find_7 : decode jc_X_find 7 = .ok (.iload_n 2, 1) := by decide +kernel
theorem jd_X_find_8 : decode jc_X_find 8 = .ok (.invokevirtual 18, 3) := by decide +kernel
theorem jd_X_find_11 : decode jc_X_find 11 = .ok (.aload_n 1, 1) := by decide +kernel
theorem jd_X_find_12 : decode jc_X_find 12 = .ok (.iconst 0, 1) := by decide +kernel
theorem jd_X_find_13 : decode jc_X_find 13 = .ok (.aaload, 1) := by decide +kernel
theorem jd_X_find_14 : decode jc_X_find 14 = .ok (.astore_n 3, 1) := by decide +kernel
theorem jd_X_find_15 : decode jc_X_find 15 = .ok (.aload_n 1, 1) := by decide +kernel
theorem jd_X_find_16 : decode jc_X_find 16 = .ok (.iconst 1, 1) := by decide +kernel
theorem jd_X_find_17 : decode jc_X_find 17 = .ok (.aaload, 1) := by decide +kernel
theorem jd_X_find_18 : decode jc_X_find 18 = .ok (.astore 4, 2) := by decide +kernel
theorem jd_X_find_20 : decode jc_X_find 20 = .ok (.ldc 22, 2) := by decide +kernel
theorem jd_X_find_22 : decode jc_X_find 22 = .ok (.istore 5, 2) := by decide +kernel
theorem jd_X_find_24 : decode jc_X_find 24 = .ok (.iconst 0, 1) := by decide +kernel
theorem jd_X_find_25 : decode jc_X_find 25 = .ok (.istore 6, 2) := by decide +kernel
theorem jd_X_find_27 : decode jc_X_find 27 = .ok (.iload 6, 2) := by decide +kernel
theorem jd_X_find_29 : decode jc_X_find 29 = .ok (.aload_n 3, 1) := by decide +kernel
theorem jd_X_find_30 : decode jc_X_find 30 = .ok (.getfield 23, 3) := by decide +kernel
theorem jd_X_find_33 : decode jc_X_find 33 = .ok (.if_icmp .gt 127, 3) := by decide +kernel
theorem jd_X_find_36 : decode jc_X_find 36 = .ok (.iload 6, 2) := by decide +kernel
theorem jd_X_find_38 : decode jc_X_find 38 = .ok (.aload_n 3, 1) := by decide +kernel
theorem jd_X_find_39 : decode jc_X_find 39 = .ok (.getfield 29, 3) := by decide +kernel
theorem jd_X_find_42 : decode jc_X_find 42 = .ok (.imul, 1) := by decide +kernel
theorem jd_X_find_43 : decode jc_X_find 43 = .ok (.iload_n 2, 1) := by decide +kernel
theorem jd_X_find_44 : decode jc_X_find 44 = .ok (.if_icmp .gt 116, 3) := by decide +kernel
theorem jd_X_find_47 : decode jc_X_find 47 = .ok (.iload_n 2, 1) := by decide +kernel
theorem jd_X_find_48 : decode jc_X_find 48 = .ok (.iload 6, 2) := by decide +kernel
theorem jd_X_find_50 : decode jc_X_find 50 = .ok (.aload_n 3, 1) := by decide +kernel
theorem jd_X_find_51 : decode jc_X_find 51 = .ok (.getfield 29, 3) := by decide +kernel
theorem jd_X_find_54 : decode jc_X_find 54 = .ok (.imul, 1) := by decide +kernel
theorem jd_X_find_55 : decode jc_X_find 55 = .ok (.isub, 1) := by decide +kernel
theorem jd_X_find_56 : decode jc_X_find 56 = .ok (.istore 7, 2) := by decide +kernel
theorem jd_X_find_58 : decode jc_X_find 58 = .ok (.iconst 0, 1) := by decide +kernel
theorem jd_X_find_59 : decode jc_X_find 59 = .ok (.istore 8, 2) := by decide +kernel
theorem jd_X_find_61 : decode jc_X_find 61 = .ok (.iload 8, 2) := by decide +kernel
theorem jd_X_find_63 : decode jc_X_find 63 = .ok (.aload 4, 2) := by decide +kernel
theorem jd_X_find_65 : decode jc_X_find 65 = .ok (.getfield 23, 3) := by decide +kernel
theorem jd_X_find_68 : decode jc_X_find 68 = .ok (.if_icmp .gt 86, 3) := by decide +kernel
theorem jd_X_find_71 : decode jc_X_find 71 = .ok (.iload 8, 2) := by decide +kernel
theorem jd_X_find_73 : decode jc_X_find 73 = .ok (.aload 4, 2) := by decide +kernel
theorem jd_X_find_75 : decode jc_X_find 75 = .ok (.getfield 29, 3) := by decide +kernel
theorem jd_X_find_78 : decode jc_X_find 78 = .ok (.imul, 1) := by decide +kernel
theorem jd_X_find_79 : decode jc_X_find 79 = .ok (.iload 7, 2) := by decide +kernel
theorem jd_X_find_81 : decode jc_X_find 81 = .ok (.if_icmp .gt 73, 3) := by decide +kernel
theorem jd_X_find_84 : decode jc_X_find 84 = .ok (.aload_n 0, 1) := by decide +kernel
theorem jd_X_find_85 : decode jc_X_find 85 = .ok (.getfield 15, 3) := by decide +kernel
theorem jd_X_find_88 : decode jc_X_find 88 = .ok (.iload 7, 2) := by decide +kernel
theorem jd_X_find_90 : decode jc_X_find 90 = .ok (.iload 8, 2) := by decide +kernel
theorem jd_X_find_92 : decode jc_X_find 92 = .ok (.aload 4, 2) := by decide +kernel
theorem jd_X_find_94 : decode jc_X_find 94 = .ok (.getfield 29, 3) := by decide +kernel
theorem jd_X_find_97 : decode jc_X_find 97 = .ok (.imul, 1) := by decide +kernel
theorem jd_X_find_98 : decode jc_X_find 98 = .ok (.isub, 1) := by decide +kernel
theorem jd_X_find_99 : decode jc_X_find 99 = .ok (.iaload, 1) := by decide +kernel
theorem jd_X_find_100 : decode jc_X_find 100 = .ok (.istore 9, 2) := by decide +kernel
theorem jd_X_find_102 : decode jc_X_find 102 = .ok (.iload 9, 2) := by decide +kernel
theorem jd_X_find_104 : decode jc_X_find 104 = .ok (.ldc 22, 2) := by decide +kernel
theorem jd_X_find_106 : decode jc_X_find 106 = .ok (.if_icmp .eq 42, 3) := by decide +kernel
theorem jd_X_find_109 : decode jc_X_find 109 = .ok (.iload 6, 2) := by decide +kernel
theorem jd_X_find_111 : decode jc_X_find 111 = .ok (.iload 8, 2) := by decide +kernel
theorem jd_X_find_113 : decode jc_X_find 113 = .ok (.iadd, 1) := by decide +kernel
theorem jd_X_find_114 : decode jc_X_find 114 = .ok (.iload 9, 2) := by decide +kernel
theorem jd_X_find_116 : decode jc_X_find 116 = .ok (.bipush 51, 2) := by decide +kernel
theorem jd_X_find_118 : decode jc_X_find 118 = .ok (.idiv, 1) := by decide +kernel
theorem jd_X_find_119 : decode jc_X_find 119 = .ok (.iadd, 1) := by decide +kernel
theorem jd_X_find_120 : decode jc_X_find 120 = .ok (.iload 5, 2) := by decide +kernel
theorem jd_X_find_122 : decode jc_X_find 122 = .ok (.if_icmp .gt 26, 3) := by decide +kernel
theorem jd_X_find_125 : decode jc_X_find 125 = .ok (.iload 6, 2) := by decide +kernel
theorem jd_X_find_127 : decode jc_X_find 127 = .ok (.iload 8, 2) := by decide +kernel
theorem jd_X_find_129 : decode jc_X_find 129 = .ok (.iadd, 1) := by decide +kernel
theorem jd_X_find_130 : decode jc_X_find 130 = .ok (.iload 9, 2) := by decide +kernel
theorem jd_X_find_132 : decode jc_X_find 132 = .ok (.bipush 51, 2) := by decide +kernel
theorem jd_X_find_134 : decode jc_X_find 134 = .ok (.idiv, 1) := by decide +kernel
theorem jd_X_find_135 : decode jc_X_find 135 = .ok (.iadd, 1) := by decide +kernel
theorem jd_X_find_136 : decode jc_X_find 136 = .ok (.istore 5, 2) := by decide +kernel
theorem jd_X_find_138 : decode jc_X_find 138 = .ok (.aload_n 0, 1) := by decide +kernel
theorem jd_X_find_139 : decode jc_X_find 139 = .ok (.iload 6, 2) := by decide +kernel
theorem jd_X_find_141 : decode jc_X_find 141 = .ok (.iload 8, 2) := by decide +kernel
theorem jd_X_find_143 : decode jc_X_find 143 = .ok (.iload 9, 2) := by decide +kernel
theorem jd_X_find_145 : decode jc_X_find 145 = .ok (.invokevirtual 32, 3) := by decide +kernel
theorem jd_X_find_148 : decode jc_X_find 148 = .ok (.iinc 8 1, 3) := by decide +kernel
theorem jd_X_find_151 : decode jc_X_find 151 = .ok (.goto (-90), 3) := by decide +kernel
theorem jd_X_find_154 : decode jc_X_find 154 = .ok (.iinc 6 1, 3) := by decide +kernel
theorem jd_X_find_157 : decode jc_X_find 157 = .ok (.goto (-130), 3) := by decide +kernel
theorem jd_X_find_160 : decode jc_X_find 160 = .ok (.iload 5, 2) := by decide +kernel
theorem jd_X_find_162 : decode jc_X_find 162 = .ok (.ldc 22, 2) := by decide +kernel
theorem jd_X_find_164 : decode jc_X_find 164 = .ok (.if_icmp .eq 7, 3) := by decide +kernel
theorem jd_X_find_167 : decode jc_X_find 167 = .ok (.iconst 1, 1) := by decide +kernel
theorem jd_X_find_168 : decode jc_X_find 168 = .ok (.goto 4, 3) := by decide +kernel
theorem jd_X_find_171 : decode jc_X_find 171 = .ok (.iconst 0, 1) := by decide +kernel
theorem jd_X_find_172 : decode jc_X_find 172 = .ok (.ireturn, 1) := by decide +kernel
theorem jd_X_rankLastTwo_0 : decode jc_X_rankLastTwo 0 = .ok (.aload_n 0, 1) := by decide +kernel
theorem jd_X_rankLastTwo_1 : decode jc_X_rankLastTwo 1 = .ok (.getfield 15, 3) := by decide +kernel
theorem jd_X_rankLastTwo_4 : decode jc_X_rankLastTwo 4 = .ok (.ldc 22, 2) := by decide +kernel
theorem jd_X_rankLastTwo_6 : decode jc_X_rankLastTwo 6 = .ok (.invokestatic 36, 3) := by decide +kernel
theorem jd_X_rankLastTwo_9 : decode jc_X_rankLastTwo 9 = .ok (.iconst 0, 1) := by decide +kernel
theorem jd_X_rankLastTwo_10 : decode jc_X_rankLastTwo 10 = .ok (.istore 4, 2) := by decide +kernel
theorem jd_X_rankLastTwo_12 : decode jc_X_rankLastTwo 12 = .ok (.iload 4, 2) := by decide +kernel
theorem jd_X_rankLastTwo_14 : decode jc_X_rankLastTwo 14 = .ok (.aload_n 1, 1) := by decide +kernel
theorem jd_X_rankLastTwo_15 : decode jc_X_rankLastTwo 15 = .ok (.getfield 23, 3) := by decide +kernel
theorem jd_X_rankLastTwo_18 : decode jc_X_rankLastTwo 18 = .ok (.if_icmp .gt 113, 3) := by decide +kernel
theorem jd_X_rankLastTwo_21 : decode jc_X_rankLastTwo 21 = .ok (.iload 4, 2) := by decide +kernel
theorem jd_X_rankLastTwo_23 : decode jc_X_rankLastTwo 23 = .ok (.aload_n 1, 1) := by decide +kernel
theorem jd_X_rankLastTwo_24 : decode jc_X_rankLastTwo 24 = .ok (.getfield 29, 3) := by decide +kernel
theorem jd_X_rankLastTwo_27 : decode jc_X_rankLastTwo 27 = .ok (.imul, 1) := by decide +kernel
theorem jd_X_rankLastTwo_28 : decode jc_X_rankLastTwo 28 = .ok (.iload_n 3, 1) := by decide +kernel
theorem jd_X_rankLastTwo_29 : decode jc_X_rankLastTwo 29 = .ok (.if_icmp .gt 102, 3) := by decide +kernel
theorem jd_X_rankLastTwo_32 : decode jc_X_rankLastTwo 32 = .ok (.iload_n 3, 1) := by decide +kernel
theorem jd_X_rankLastTwo_33 : decode jc_X_rankLastTwo 33 = .ok (.iload 4, 2) := by decide +kernel
theorem jd_X_rankLastTwo_35 : decode jc_X_rankLastTwo 35 = .ok (.aload_n 1, 1) := by decide +kernel
theorem jd_X_rankLastTwo_36 : decode jc_X_rankLastTwo 36 = .ok (.getfield 29, 3) := by decide +kernel
theorem jd_X_rankLastTwo_39 : decode jc_X_rankLastTwo 39 = .ok (.imul, 1) := by decide +kernel
theorem jd_X_rankLastTwo_40 : decode jc_X_rankLastTwo 40 = .ok (.isub, 1) := by decide +kernel
theorem jd_X_rankLastTwo_41 : decode jc_X_rankLastTwo 41 = .ok (.istore 5, 2) := by decide +kernel
theorem jd_X_rankLastTwo_43 : decode jc_X_rankLastTwo 43 = .ok (.iconst 0, 1) := by decide +kernel
theorem jd_X_rankLastTwo_44 : decode jc_X_rankLastTwo 44 = .ok (.istore 6, 2) := by decide +kernel
theorem jd_X_rankLastTwo_46 : decode jc_X_rankLastTwo 46 = .ok (.iload 6, 2) := by decide +kernel
theorem jd_X_rankLastTwo_48 : decode jc_X_rankLastTwo 48 = .ok (.aload_n 2, 1) := by decide +kernel
theorem jd_X_rankLastTwo_49 : decode jc_X_rankLastTwo 49 = .ok (.getfield 23, 3) := by decide +kernel
theorem jd_X_rankLastTwo_52 : decode jc_X_rankLastTwo 52 = .ok (.if_icmp .gt 73, 3) := by decide +kernel
theorem jd_X_rankLastTwo_55 : decode jc_X_rankLastTwo 55 = .ok (.iload 6, 2) := by decide +kernel
theorem jd_X_rankLastTwo_57 : decode jc_X_rankLastTwo 57 = .ok (.aload_n 2, 1) := by decide +kernel
theorem jd_X_rankLastTwo_58 : decode jc_X_rankLastTwo 58 = .ok (.getfield 29, 3) := by decide +kernel
theorem jd_X_rankLastTwo_61 : decode jc_X_rankLastTwo 61 = .ok (.imul, 1) := by decide +kernel
theorem jd_X_rankLastTwo_62 : decode jc_X_rankLastTwo 62 = .ok (.iload 5, 2) := by decide +kernel
theorem jd_X_rankLastTwo_64 : decode jc_X_rankLastTwo 64 = .ok (.if_icmp .gt 61, 3) := by decide +kernel
theorem jd_X_rankLastTwo_67 : decode jc_X_rankLastTwo 67 = .ok (.iload 4, 2) := by decide +kernel
theorem jd_X_rankLastTwo_69 : decode jc_X_rankLastTwo 69 = .ok (.aload_n 1, 1) := by decide +kernel
theorem jd_X_rankLastTwo_70 : decode jc_X_rankLastTwo 70 = .ok (.getfield 29, 3) := by decide +kernel
theorem jd_X_rankLastTwo_73 : decode jc_X_rankLastTwo 73 = .ok (.imul, 1) := by decide +kernel
theorem jd_X_rankLastTwo_74 : decode jc_X_rankLastTwo 74 = .ok (.iload 6, 2) := by decide +kernel
theorem jd_X_rankLastTwo_76 : decode jc_X_rankLastTwo 76 = .ok (.aload_n 2, 1) := by decide +kernel
theorem jd_X_rankLastTwo_77 : decode jc_X_rankLastTwo 77 = .ok (.getfield 29, 3) := by decide +kernel
theorem jd_X_rankLastTwo_80 : decode jc_X_rankLastTwo 80 = .ok (.imul, 1) := by decide +kernel
theorem jd_X_rankLastTwo_81 : decode jc_X_rankLastTwo 81 = .ok (.iadd, 1) := by decide +kernel
theorem jd_X_rankLastTwo_82 : decode jc_X_rankLastTwo 82 = .ok (.istore 7, 2) := by decide +kernel
theorem jd_X_rankLastTwo_84 : decode jc_X_rankLastTwo 84 = .ok (.iload 4, 2) := by decide +kernel
theorem jd_X_rankLastTwo_86 : decode jc_X_rankLastTwo 86 = .ok (.iload 6, 2) := by decide +kernel
theorem jd_X_rankLastTwo_88 : decode jc_X_rankLastTwo 88 = .ok (.iadd, 1) := by decide +kernel
theorem jd_X_rankLastTwo_89 : decode jc_X_rankLastTwo 89 = .ok (.bipush 51, 2) := by decide +kernel
theorem jd_X_rankLastTwo_91 : decode jc_X_rankLastTwo 91 = .ok (.imul, 1) := by decide +kernel
theorem jd_X_rankLastTwo_92 : decode jc_X_rankLastTwo 92 = .ok (.bipush 50, 2) := by decide +kernel
theorem jd_X_rankLastTwo_94 : decode jc_X_rankLastTwo 94 = .ok (.iadd, 1) := by decide +kernel
theorem jd_X_rankLastTwo_95 : decode jc_X_rankLastTwo 95 = .ok (.iload 4, 2) := by decide +kernel
theorem jd_X_rankLastTwo_97 : decode jc_X_rankLastTwo 97 = .ok (.isub, 1) := by decide +kernel
theorem jd_X_rankLastTwo_98 : decode jc_X_rankLastTwo 98 = .ok (.istore 8, 2) := by decide +kernel
theorem jd_X_rankLastTwo_100 : decode jc_X_rankLastTwo 100 = .ok (.aload_n 0, 1) := by decide +kernel
theorem jd_X_rankLastTwo_101 : decode jc_X_rankLastTwo 101 = .ok (.getfield 15, 3) := by decide +kernel
theorem jd_X_rankLastTwo_104 : decode jc_X_rankLastTwo 104 = .ok (.iload 7, 2) := by decide +kernel
theorem jd_X_rankLastTwo_106 : decode jc_X_rankLastTwo 106 = .ok (.aload_n 0, 1) := by decide +kernel
theorem jd_X_rankLastTwo_107 : decode jc_X_rankLastTwo 107 = .ok (.getfield 15, 3) := by decide +kernel
theorem jd_X_rankLastTwo_110 : decode jc_X_rankLastTwo 110 = .ok (.iload 7, 2) := by decide +kernel
theorem jd_X_rankLastTwo_112 : decode jc_X_rankLastTwo 112 = .ok (.iaload, 1) := by decide +kernel
theorem jd_X_rankLastTwo_113 : decode jc_X_rankLastTwo 113 = .ok (.iload 8, 2) := by decide +kernel
theorem jd_X_rankLastTwo_115 : decode jc_X_rankLastTwo 115 = .ok (.invokestatic 42, 3) := by decide +kernel
theorem jd_X_rankLastTwo_118 : decode jc_X_rankLastTwo 118 = .ok (.iastore, 1) := by decide +kernel
theorem jd_X_rankLastTwo_119 : decode jc_X_rankLastTwo 119 = .ok (.iinc 6 1, 3) := by decide +kernel
theorem jd_X_rankLastTwo_122 : decode jc_X_rankLastTwo 122 = .ok (.goto (-76), 3) := by decide +kernel
theorem jd_X_rankLastTwo_125 : decode jc_X_rankLastTwo 125 = .ok (.iinc 4 1, 3) := by decide +kernel
theorem jd_X_rankLastTwo_128 : decode jc_X_rankLastTwo 128 = .ok (.goto (-116), 3) := by decide +kernel
theorem jd_X_rankLastTwo_131 : decode jc_X_rankLastTwo 131 = .ok (.return_, 1) := by decide +kernel
theorem jd_F_fill_0 : decode jc_F_fill 0 = .ok (.iconst 0, 1) := by decide +kernel
theorem jd_F_fill_1 : decode jc_F_fill 1 = .ok (.istore_n 2, 1) := by decide +kernel
theorem jd_F_fill_2 : decode jc_F_fill 2 = .ok (.aload_n 0, 1) := by decide +kernel
theorem jd_F_fill_3 : decode jc_F_fill 3 = .ok (.arraylength, 1) := by decide +kernel
theorem jd_F_fill_4 : decode jc_F_fill 4 = .ok (.istore_n 3, 1) := by decide +kernel
theorem jd_F_fill_5 : decode jc_F_fill 5 = .ok (.iload_n 2, 1) := by decide +kernel
theorem jd_F_fill_6 : decode jc_F_fill 6 = .ok (.iload_n 3, 1) := by decide +kernel
theorem jd_F_fill_7 : decode jc_F_fill 7 = .ok (.if_icmp .ge 13, 3) := by decide +kernel
theorem jd_F_fill_10 : decode jc_F_fill 10 = .ok (.aload_n 0, 1) := by decide +kernel
theorem jd_F_fill_11 : decode jc_F_fill 11 = .ok (.iload_n 2, 1) := by decide +kernel
theorem jd_F_fill_12 : decode jc_F_fill 12 = .ok (.iload_n 1, 1) := by decide +kernel
theorem jd_F_fill_13 : decode jc_F_fill 13 = .ok (.iastore, 1) := by decide +kernel
theorem jd_F_fill_14 : decode jc_F_fill 14 = .ok (.iinc 2 1, 3) := by decide +kernel
theorem jd_F_fill_17 : decode jc_F_fill 17 = .ok (.goto (-12), 3) := by decide +kernel
theorem jd_F_fill_20 : decode jc_F_fill 20 = .ok (.return_, 1) := by decide +kernel
theorem jd_X_keep_0 : decode jc_X_keep 0 = .ok (.bipush 50, 2) := by decide +kernel
theorem jd_X_keep_2 : decode jc_X_keep 2 = .ok (.iload_n 3, 1) := by decide +kernel
theorem jd_X_keep_3 : decode jc_X_keep 3 = .ok (.bipush 51, 2) := by decide +kernel
theorem jd_X_keep_5 : decode jc_X_keep 5 = .ok (.irem, 1) := by decide +kernel
theorem jd_X_keep_6 : decode jc_X_keep 6 = .ok (.isub, 1) := by decide +kernel
theorem jd_X_keep_7 : decode jc_X_keep 7 = .ok (.istore 4, 2) := by decide +kernel
theorem jd_X_keep_9 : decode jc_X_keep 9 = .ok (.aload_n 0, 1) := by decide +kernel
theorem jd_X_keep_10 : decode jc_X_keep 10 = .ok (.getfield 9, 3) := by decide +kernel
theorem jd_X_keep_13 : decode jc_X_keep 13 = .ok (.iconst 0, 1) := by decide +kernel
theorem jd_X_keep_14 : decode jc_X_keep 14 = .ok (.iload_n 1, 1) := by decide +kernel
theorem jd_X_keep_15 : decode jc_X_keep 15 = .ok (.iastore, 1) := by decide +kernel
theorem jd_X_keep_16 : decode jc_X_keep 16 = .ok (.aload_n 0, 1) := by decide +kernel
theorem jd_X_keep_17 : decode jc_X_keep 17 = .ok (.getfield 9, 3) := by decide +kernel
theorem jd_X_keep_20 : decode jc_X_keep 20 = .ok (.iconst 1, 1) := by decide +kernel
theorem jd_X_keep_21 : decode jc_X_keep 21 = .ok (.iload_n 2, 1) := by decide +kernel
theorem jd_X_keep_22 : decode jc_X_keep 22 = .ok (.iastore, 1) := by decide +kernel
theorem jd_X_keep_23 : decode jc_X_keep 23 = .ok (.aload_n 0, 1) := by decide +kernel
theorem jd_X_keep_24 : decode jc_X_keep 24 = .ok (.getfield 9, 3) := by decide +kernel
theorem jd_X_keep_27 : decode jc_X_keep 27 = .ok (.iconst 2, 1) := by decide +kernel
theorem jd_X_keep_28 : decode jc_X_keep 28 = .ok (.iload 4, 2) := by decide +kernel
theorem jd_X_keep_30 : decode jc_X_keep 30 = .ok (.iastore, 1) := by decide +kernel
theorem jd_X_keep_31 : decode jc_X_keep 31 = .ok (.aload_n 0, 1) := by decide +kernel
theorem jd_X_keep_32 : decode jc_X_keep 32 = .ok (.getfield 9, 3) := by decide +kernel
theorem jd_X_keep_35 : decode jc_X_keep 35 = .ok (.iconst 3, 1) := by decide +kernel
theorem jd_X_keep_36 : decode jc_X_keep 36 = .ok (.iload_n 3, 1) := by decide +kernel
theorem jd_X_keep_37 : decode jc_X_keep 37 = .ok (.bipush 51, 2) := by decide +kernel
theorem jd_X_keep_39 : decode jc_X_keep 39 = .ok (.idiv, 1) := by decide +kernel
theorem jd_X_keep_40 : decode jc_X_keep 40 = .ok (.iload 4, 2) := by decide +kernel
theorem jd_X_keep_42 : decode jc_X_keep 42 = .ok (.isub, 1) := by decide +kernel
theorem jd_X_keep_43 : decode jc_X_keep 43 = .ok (.iastore, 1) := by decide +kernel
theorem jd_X_keep_44 : decode jc_X_keep 44 = .ok (.return_, 1) := by decide +kernel
theorem jd_J_begin_0 : decode jc_J_begin 0 = .ok (.aload_n 0, 1) := by decide +kernel
theorem jd_J_begin_1 : decode jc_J_begin 1 = .ok (.getfield 11, 3) := by decide +kernel
theorem jd_J_begin_4 : decode jc_J_begin 4 = .ok (.aload_n 0, 1) := by decide +kernel
theorem jd_J_begin_5 : decode jc_J_begin 5 = .ok (.getfield 17, 3) := by decide +kernel
theorem jd_J_begin_8 : decode jc_J_begin 8 = .ok (.aaload, 1) := by decide +kernel
theorem jd_J_begin_9 : decode jc_J_begin 9 = .ok (.astore_n 3, 1) := by decide +kernel
theorem jd_J_begin_10 : decode jc_J_begin 10 = .ok (.aload_n 0, 1) := by decide +kernel
theorem jd_J_begin_11 : decode jc_J_begin 11 = .ok (.dup, 1) := by decide +kernel
theorem jd_J_begin_12 : decode jc_J_begin 12 = .ok (.getfield 17, 3) := by decide +kernel
theorem jd_J_begin_15 : decode jc_J_begin 15 = .ok (.iconst 1, 1) := by decide +kernel
theorem jd_J_begin_16 : decode jc_J_begin 16 = .ok (.iadd, 1) := by decide +kernel
theorem jd_J_begin_17 : decode jc_J_begin 17 = .ok (.putfield 17, 3) := by decide +kernel
theorem jd_J_begin_20 : decode jc_J_begin 20 = .ok (.aload_n 3, 1) := by decide +kernel
theorem jd_J_begin_21 : decode jc_J_begin 21 = .ok (.iload_n 1, 1) := by decide +kernel
theorem jd_J_begin_22 : decode jc_J_begin 22 = .ok (.putfield 24, 3) := by decide +kernel
theorem jd_J_begin_25 : decode jc_J_begin 25 = .ok (.aload_n 3, 1) := by decide +kernel
theorem jd_J_begin_26 : decode jc_J_begin 26 = .ok (.iload_n 2, 1) := by decide +kernel
theorem jd_J_begin_27 : decode jc_J_begin 27 = .ok (.putfield 27, 3) := by decide +kernel
theorem jd_J_begin_30 : decode jc_J_begin 30 = .ok (.aload_n 3, 1) := by decide +kernel
theorem jd_J_begin_31 : decode jc_J_begin 31 = .ok (.iconst 1, 1) := by decide +kernel
theorem jd_J_begin_32 : decode jc_J_begin 32 = .ok (.putfield 30, 3) := by decide +kernel
theorem jd_J_begin_35 : decode jc_J_begin 35 = .ok (.aload_n 3, 1) := by decide +kernel
theorem jd_J_begin_36 : decode jc_J_begin 36 = .ok (.areturn, 1) := by decide +kernel
theorem jd_C_request_0 : decode jc_C_request 0 = .ok (.aload_n 0, 1) := by decide +kernel
theorem jd_C_request_1 : decode jc_C_request 1 = .ok (.iconst 1, 1) := by decide +kernel
theorem jd_C_request_2 : decode jc_C_request 2 = .ok (.invokevirtual 201, 3) := by decide +kernel
theorem jd_C_request_5 : decode jc_C_request 5 = .ok (.ifCond .eq 6, 3) := by decide +kernel
theorem jd_C_request_8 : decode jc_C_request 8 = .ok (.bipush (-3), 2) := by decide +kernel
theorem jd_C_request_10 : decode jc_C_request 10 = .ok (.ireturn, 1) := by decide +kernel
theorem jd_C_request_11 : decode jc_C_request 11 = .ok (.aload_n 0, 1) := by decide +kernel
theorem jd_C_request_12 : decode jc_C_request 12 = .ok (.aload_n 1, 1) := by decide +kernel
theorem jd_C_request_13 : decode jc_C_request 13 = .ok (.invokevirtual 204, 3) := by decide +kernel
theorem jd_C_request_16 : decode jc_C_request 16 = .ok (.istore_n 2, 1) := by decide +kernel
theorem jd_C_request_17 : decode jc_C_request 17 = .ok (.iload_n 2, 1) := by decide +kernel
theorem jd_C_request_18 : decode jc_C_request 18 = .ok (.bipush (-2), 2) := by decide +kernel
theorem jd_C_request_20 : decode jc_C_request 20 = .ok (.if_icmp .ne 11, 3) := by decide +kernel
theorem jd_C_request_23 : decode jc_C_request 23 = .ok (.aload_n 0, 1) := by decide +kernel
theorem jd_C_request_24 : decode jc_C_request 24 = .ok (.aload_n 1, 1) := by decide +kernel
theorem jd_C_request_25 : decode jc_C_request 25 = .ok (.invokevirtual 207, 3) := by decide +kernel
theorem jd_C_request_28 : decode jc_C_request 28 = .ok (.bipush (-2), 2) := by decide +kernel
theorem jd_C_request_30 : decode jc_C_request 30 = .ok (.ireturn, 1) := by decide +kernel
theorem jd_C_request_31 : decode jc_C_request 31 = .ok (.iload_n 2, 1) := by decide +kernel
theorem jd_C_request_32 : decode jc_C_request 32 = .ok (.iconst (-1), 1) := by decide +kernel
theorem jd_C_request_33 : decode jc_C_request 33 = .ok (.if_icmp .ne 10, 3) := by decide +kernel
theorem jd_C_request_36 : decode jc_C_request 36 = .ok (.aload_n 1, 1) := by decide +kernel
theorem jd_C_request_37 : decode jc_C_request 37 = .ok (.iconst 4, 1) := by decide +kernel
theorem jd_C_request_38 : decode jc_C_request 38 = .ok (.putfield 166, 3) := by decide +kernel
theorem jd_C_request_41 : decode jc_C_request 41 = .ok (.iconst (-1), 1) := by decide +kernel
theorem jd_C_request_42 : decode jc_C_request 42 = .ok (.ireturn, 1) := by decide +kernel
theorem jd_C_request_43 : decode jc_C_request 43 = .ok (.aload_n 0, 1) := by decide +kernel
theorem jd_C_request_44 : decode jc_C_request 44 = .ok (.iconst 2, 1) := by decide +kernel
theorem jd_C_request_45 : decode jc_C_request 45 = .ok (.invokevirtual 201, 3) := by decide +kernel
theorem jd_C_request_48 : decode jc_C_request 48 = .ok (.ifCond .eq 6, 3) := by decide +kernel
theorem jd_C_request_51 : decode jc_C_request 51 = .ok (.bipush (-3), 2) := by decide +kernel
theorem jd_C_request_53 : decode jc_C_request 53 = .ok (.ireturn, 1) := by decide +kernel
theorem jd_C_request_54 : decode jc_C_request 54 = .ok (.aload_n 1, 1) := by decide +kernel
theorem jd_C_request_55 : decode jc_C_request 55 = .ok (.iconst 2, 1) := by decide +kernel
theorem jd_C_request_56 : decode jc_C_request 56 = .ok (.putfield 166, 3) := by decide +kernel
theorem jd_C_request_59 : decode jc_C_request 59 = .ok (.aload_n 0, 1) := by decide +kernel
theorem jd_C_request_60 : decode jc_C_request 60 = .ok (.aload_n 1, 1) := by decide +kernel
theorem jd_C_request_61 : decode jc_C_request 61 = .ok (.invokevirtual 210, 3) := by decide +kernel
theorem jd_C_request_64 : decode jc_C_request 64 = .ok (.ireturn, 1) := by decide +kernel
theorem jd_C_failsAt_0 : decode jc_C_failsAt 0 = .ok (.aload_n 0, 1) := by decide +kernel
theorem jd_C_failsAt_1 : decode jc_C_failsAt 1 = .ok (.getfield 55, 3) := by decide +kernel
theorem jd_C_failsAt_4 : decode jc_C_failsAt 4 = .ok (.iload_n 1, 1) := by decide +kernel
theorem jd_C_failsAt_5 : decode jc_C_failsAt 5 = .ok (.if_icmp .eq 5, 3) := by decide +kernel
theorem jd_C_failsAt_8 : decode jc_C_failsAt 8 = .ok (.iconst 0, 1) := by decide +kernel
theorem jd_C_failsAt_9 : decode jc_C_failsAt 9 = .ok (.ireturn, 1) := by decide +kernel
theorem jd_C_failsAt_10 : decode jc_C_failsAt 10 = .ok (.aload_n 0, 1) := by decide +kernel
theorem jd_C_failsAt_11 : decode jc_C_failsAt 11 = .ok (.iconst 0, 1) := by decide +kernel
theorem jd_C_failsAt_12 : decode jc_C_failsAt 12 = .ok (.putfield 55, 3) := by decide +kernel
theorem jd_C_failsAt_15 : decode jc_C_failsAt 15 = .ok (.aload_n 0, 1) := by decide +kernel
theorem jd_C_failsAt_16 : decode jc_C_failsAt 16 = .ok (.iconst 0, 1) := by decide +kernel
theorem jd_C_failsAt_17 : decode jc_C_failsAt 17 = .ok (.putfield 44, 3) := by decide +kernel
theorem jd_C_failsAt_20 : decode jc_C_failsAt 20 = .ok (.aload_n 0, 1) := by decide +kernel
theorem jd_C_failsAt_21 : decode jc_C_failsAt 21 = .ok (.invokevirtual 106, 3) := by decide +kernel
theorem jd_C_failsAt_24 : decode jc_C_failsAt 24 = .ok (.iconst 1, 1) := by decide +kernel
theorem jd_C_failsAt_25 : decode jc_C_failsAt 25 = .ok (.ireturn, 1) := by decide +kernel
theorem jd_C_exchangeRequest_0 : decode jc_C_exchangeRequest 0 = .ok (.aload_n 0, 1) := by decide +kernel
theorem jd_C_exchangeRequest_1 : decode jc_C_exchangeRequest 1 = .ok (.getfield 19, 3) := by decide +kernel
theorem jd_C_exchangeRequest_4 : decode jc_C_exchangeRequest 4 = .ok (.invokevirtual 230, 3) := by decide +kernel
theorem jd_C_exchangeRequest_7 : decode jc_C_exchangeRequest 7 = .ok (.istore_n 2, 1) := by decide +kernel
theorem jd_C_exchangeRequest_8 : decode jc_C_exchangeRequest 8 = .ok (.iload_n 2, 1) := by decide +kernel
theorem jd_C_exchangeRequest_9 : decode jc_C_exchangeRequest 9 = .ok (.iconst 1, 1) := by decide +kernel
theorem jd_C_exchangeRequest_10 : decode jc_C_exchangeRequest 10 = .ok (.if_icmp .ne 6, 3) := by decide +kernel
theorem jd_C_exchangeRequest_13 : decode jc_C_exchangeRequest 13 = .ok (.bipush (-2), 2) := by decide +kernel
theorem jd_C_exchangeRequest_15 : decode jc_C_exchangeRequest 15 = .ok (.ireturn, 1) := by decide +kernel
theorem jd_C_exchangeRequest_16 : decode jc_C_exchangeRequest 16 = .ok (.aload_n 0, 1) := by decide +kernel
theorem jd_C_exchangeRequest_17 : decode jc_C_exchangeRequest 17 = .ok (.getfield 10, 3) := by decide +kernel
theorem jd_C_exchangeRequest_20 : decode jc_C_exchangeRequest 20 = .ok (.aload_n 1, 1) := by decide +kernel
theorem jd_C_exchangeRequest_21 : decode jc_C_exchangeRequest 21 = .ok (.getfield 213, 3) := by decide +kernel
theorem jd_C_exchangeRequest_24 : decode jc_C_exchangeRequest 24 = .ok (.aload_n 1, 1) := by decide +kernel
theorem jd_C_exchangeRequest_25 : decode jc_C_exchangeRequest 25 = .ok (.getfield 171, 3) := by decide +kernel
theorem jd_C_exchangeRequest_28 : decode jc_C_exchangeRequest 28 = .ok (.aload_n 1, 1) := by decide +kernel
theorem jd_C_exchangeRequest_29 : decode jc_C_exchangeRequest 29 = .ok (.getfield 174, 3) := by decide +kernel
theorem jd_C_exchangeRequest_32 : decode jc_C_exchangeRequest 32 = .ok (.invokevirtual 233, 3) := by decide +kernel
theorem jd_C_exchangeRequest_35 : decode jc_C_exchangeRequest 35 = .ok (.istore_n 3, 1) := by decide +kernel
theorem jd_C_exchangeRequest_36 : decode jc_C_exchangeRequest 36 = .ok (.iload_n 2, 1) := by decide +kernel
theorem jd_C_exchangeRequest_37 : decode jc_C_exchangeRequest 37 = .ok (.iconst 3, 1) := by decide +kernel
theorem jd_C_exchangeRequest_38 : decode jc_C_exchangeRequest 38 = .ok (.if_icmp .ne 23, 3) := by decide +kernel
theorem jd_C_exchangeRequest_41 : decode jc_C_exchangeRequest 41 = .ok (.aload_n 0, 1) := by decide +kernel
theorem jd_C_exchangeRequest_42 : decode jc_C_exchangeRequest 42 = .ok (.getfield 10, 3) := by decide +kernel
theorem jd_C_exchangeRequest_45 : decode jc_C_exchangeRequest 45 = .ok (.aload_n 1, 1) := by decide +kernel
theorem jd_C_exchangeRequest_46 : decode jc_C_exchangeRequest 46 = .ok (.getfield 213, 3) := by decide +kernel
theorem jd_C_exchangeRequest_49 : decode jc_C_exchangeRequest 49 = .ok (.aload_n 1, 1) := by decide +kernel
theorem jd_C_exchangeRequest_50 : decode jc_C_exchangeRequest 50 = .ok (.getfield 171, 3) := by decide +kernel
theorem jd_C_exchangeRequest_53 : decode jc_C_exchangeRequest 53 = .ok (.aload_n 1, 1) := by decide +kernel
theorem jd_C_exchangeRequest_54 : decode jc_C_exchangeRequest 54 = .ok (.getfield 174, 3) := by decide +kernel
theorem jd_C_exchangeRequest_57 : decode jc_C_exchangeRequest 57 = .ok (.invokevirtual 233, 3) := by decide +kernel
theorem jd_C_exchangeRequest_60 : decode jc_C_exchangeRequest 60 = .ok (.pop, 1) := by decide +kernel
theorem jd_C_exchangeRequest_61 : decode jc_C_exchangeRequest 61 = .ok (.iload_n 2, 1) := by decide +kernel
theorem jd_C_exchangeRequest_62 : decode jc_C_exchangeRequest 62 = .ok (.iconst 2, 1) := by decide +kernel
theorem jd_C_exchangeRequest_63 : decode jc_C_exchangeRequest 63 = .ok (.if_icmp .ne 6, 3) := by decide +kernel
theorem jd_C_exchangeRequest_66 : decode jc_C_exchangeRequest 66 = .ok (.bipush (-2), 2) := by decide +kernel
theorem jd_C_exchangeRequest_68 : decode jc_C_exchangeRequest 68 = .ok (.ireturn, 1) := by decide +kernel
theorem jd_C_exchangeRequest_69 : decode jc_C_exchangeRequest 69 = .ok (.iload_n 3, 1) := by decide +kernel
theorem jd_C_exchangeRequest_70 : decode jc_C_exchangeRequest 70 = .ok (.ifCond .eq 7, 3) := by decide +kernel
theorem jd_C_exchangeRequest_73 : decode jc_C_exchangeRequest 73 = .ok (.iconst 2, 1) := by decide +kernel
theorem jd_C_exchangeRequest_74 : decode jc_C_exchangeRequest 74 = .ok (.goto 4, 3) := by decide +kernel
theorem jd_C_exchangeRequest_77 : decode jc_C_exchangeRequest 77 = .ok (.iconst (-1), 1) := by decide +kernel
theorem jd_C_exchangeRequest_78 : decode jc_C_exchangeRequest 78 = .ok (.ireturn, 1) := by decide +kernel
theorem jd_N_takeFirst_0 : decode jc_N_takeFirst 0 = .ok (.aload_n 0, 1) := by decide +kernel
theorem jd_N_takeFirst_1 : decode jc_N_takeFirst 1 = .ok (.getfield 15, 3) := by decide +kernel
theorem jd_N_takeFirst_4 : decode jc_N_takeFirst 4 = .ok (.ifCond .ne 5, 3) := by decide +kernel
theorem jd_N_takeFirst_7 : decode jc_N_takeFirst 7 = .ok (.iconst 0, 1) := by decide +kernel
theorem jd_N_takeFirst_8 : decode jc_N_takeFirst 8 = .ok (.ireturn, 1) := by decide +kernel
theorem jd_N_takeFirst_9 : decode jc_N_takeFirst 9 = .ok (.aload_n 0, 1) := by decide +kernel
theorem jd_N_takeFirst_10 : decode jc_N_takeFirst 10 = .ok (.getfield 9, 3) := by decide +kernel
theorem jd_N_takeFirst_13 : decode jc_N_takeFirst 13 = .ok (.iconst 0, 1) := by decide +kernel
theorem jd_N_takeFirst_14 : decode jc_N_takeFirst 14 = .ok (.iaload, 1) := by decide +kernel
theorem jd_N_takeFirst_15 : decode jc_N_takeFirst 15 = .ok (.istore_n 1, 1) := by decide +kernel
theorem jd_N_takeFirst_16 : decode jc_N_takeFirst 16 = .ok (.aload_n 0, 1) := by decide +kernel
theorem jd_N_takeFirst_17 : decode jc_N_takeFirst 17 = .ok (.dup, 1) := by decide +kernel
theorem jd_N_takeFirst_18 : decode jc_N_takeFirst 18 = .ok (.getfield 15, 3) := by decide +kernel
theorem jd_N_takeFirst_21 : decode jc_N_takeFirst 21 = .ok (.iconst 1, 1) := by decide +kernel
theorem jd_N_takeFirst_22 : decode jc_N_takeFirst 22 = .ok (.isub, 1) := by decide +kernel
theorem jd_N_takeFirst_23 : decode jc_N_takeFirst 23 = .ok (.putfield 15, 3) := by decide +kernel
theorem jd_N_takeFirst_26 : decode jc_N_takeFirst 26 = .ok (.aload_n 0, 1) := by decide +kernel
theorem jd_N_takeFirst_27 : decode jc_N_takeFirst 27 = .ok (.getfield 9, 3) := by decide +kernel
theorem jd_N_takeFirst_30 : decode jc_N_takeFirst 30 = .ok (.iconst 1, 1) := by decide +kernel
theorem jd_N_takeFirst_31 : decode jc_N_takeFirst 31 = .ok (.aload_n 0, 1) := by decide +kernel
theorem jd_N_takeFirst_32 : decode jc_N_takeFirst 32 = .ok (.getfield 9, 3) := by decide +kernel
theorem jd_N_takeFirst_35 : decode jc_N_takeFirst 35 = .ok (.iconst 0, 1) := by decide +kernel
theorem jd_N_takeFirst_36 : decode jc_N_takeFirst 36 = .ok (.aload_n 0, 1) := by decide +kernel
theorem jd_N_takeFirst_37 : decode jc_N_takeFirst 37 = .ok (.getfield 15, 3) := by decide +kernel
theorem jd_N_takeFirst_40 : decode jc_N_takeFirst 40 = .ok (.invokestatic 19, 3) := by decide +kernel
theorem jd_N_takeFirst_43 : decode jc_N_takeFirst 43 = .ok (.iload_n 1, 1) := by decide +kernel
theorem jd_N_takeFirst_44 : decode jc_N_takeFirst 44 = .ok (.ireturn, 1) := by decide +kernel
theorem jd_H_receiveRequest_0 : decode jc_H_receiveRequest 0 = .ok (.aload_n 0, 1) := by decide +kernel
theorem jd_H_receiveRequest_1 : decode jc_H_receiveRequest 1 = .ok (.getfield 17, 3) := by decide +kernel
theorem jd_H_receiveRequest_4 : decode jc_H_receiveRequest 4 = .ok (.iload_n 1, 1) := by decide +kernel
theorem jd_H_receiveRequest_5 : decode jc_H_receiveRequest 5 = .ok (.iaload, 1) := by decide +kernel
theorem jd_H_receiveRequest_6 : decode jc_H_receiveRequest 6 = .ok (.ifCond .ne 28, 3) := by decide +kernel
theorem jd_H_receiveRequest_9 : decode jc_H_receiveRequest 9 = .ok (.aload_n 0, 1) := by decide +kernel
theorem jd_H_receiveRequest_10 : decode jc_H_receiveRequest 10 = .ok (.getfield 17, 3) := by decide +kernel
theorem jd_H_receiveRequest_13 : decode jc_H_receiveRequest 13 = .ok (.iload_n 1, 1) := by decide +kernel
theorem jd_H_receiveRequest_14 : decode jc_H_receiveRequest 14 = .ok (.aload_n 0, 1) := by decide +kernel
theorem jd_H_receiveRequest_15 : decode jc_H_receiveRequest 15 = .ok (.iload_n 1, 1) := by decide +kernel
theorem jd_H_receiveRequest_16 : decode jc_H_receiveRequest 16 = .ok (.aload_n 0, 1) := by decide +kernel
theorem jd_H_receiveRequest_17 : decode jc_H_receiveRequest 17 = .ok (.getfield 11, 3) := by decide +kernel
theorem jd_H_receiveRequest_20 : decode jc_H_receiveRequest 20 = .ok (.iload_n 2, 1) := by decide +kernel
theorem jd_H_receiveRequest_21 : decode jc_H_receiveRequest 21 = .ok (.aaload, 1) := by decide +kernel
theorem jd_H_receiveRequest_22 : decode jc_H_receiveRequest 22 = .ok (.iload_n 3, 1) := by decide +kernel
theorem jd_H_receiveRequest_23 : decode jc_H_receiveRequest 23 = .ok (.invokevirtual 47, 3) := by decide +kernel
theorem jd_H_receiveRequest_26 : decode jc_H_receiveRequest 26 = .ok (.iastore, 1) := by decide +kernel
theorem jd_H_receiveRequest_27 : decode jc_H_receiveRequest 27 = .ok (.aload_n 0, 1) := by decide +kernel
theorem jd_H_receiveRequest_28 : decode jc_H_receiveRequest 28 = .ok (.getfield 21, 3) := by decide +kernel
theorem jd_H_receiveRequest_31 : decode jc_H_receiveRequest 31 = .ok (.iload_n 1, 1) := by decide +kernel
theorem jd_H_receiveRequest_32 : decode jc_H_receiveRequest 32 = .ok (.iload_n 2, 1) := by decide +kernel
theorem jd_H_receiveRequest_33 : decode jc_H_receiveRequest 33 = .ok (.iastore, 1) := by decide +kernel
theorem jd_H_receiveRequest_34 : decode jc_H_receiveRequest 34 = .ok (.aload_n 0, 1) := by decide +kernel
theorem jd_H_receiveRequest_35 : decode jc_H_receiveRequest 35 = .ok (.getfield 17, 3) := by decide +kernel
theorem jd_H_receiveRequest_38 : decode jc_H_receiveRequest 38 = .ok (.iload_n 1, 1) := by decide +kernel
theorem jd_H_receiveRequest_39 : decode jc_H_receiveRequest 39 = .ok (.iaload, 1) := by decide +kernel
theorem jd_H_receiveRequest_40 : decode jc_H_receiveRequest 40 = .ok (.iconst 2, 1) := by decide +kernel
theorem jd_H_receiveRequest_41 : decode jc_H_receiveRequest 41 = .ok (.if_icmp .ne 7, 3) := by decide +kernel
theorem jd_H_receiveRequest_44 : decode jc_H_receiveRequest 44 = .ok (.iconst 1, 1) := by decide +kernel
theorem jd_H_receiveRequest_45 : decode jc_H_receiveRequest 45 = .ok (.goto 4, 3) := by decide +kernel
theorem jd_H_receiveRequest_48 : decode jc_H_receiveRequest 48 = .ok (.iconst 0, 1) := by decide +kernel
theorem jd_H_receiveRequest_49 : decode jc_H_receiveRequest 49 = .ok (.ireturn, 1) := by decide +kernel
theorem jd_H_decide_0 : decode jc_H_decide 0 = .ok (.aload_n 0, 1) := by decide +kernel
theorem jd_H_decide_1 : decode jc_H_decide 1 = .ok (.getfield 24, 3) := by decide +kernel
theorem jd_H_decide_4 : decode jc_H_decide 4 = .ok (.iload_n 1, 1) := by decide +kernel
theorem jd_H_decide_5 : decode jc_H_decide 5 = .ok (.baload, 1) := by decide +kernel
theorem jd_H_decide_6 : decode jc_H_decide 6 = .ok (.ifCond .ne 18, 3) := by decide +kernel
theorem jd_H_decide_9 : decode jc_H_decide 9 = .ok (.aload_n 2, 1) := by decide +kernel
theorem jd_H_decide_10 : decode jc_H_decide 10 = .ok (.getfield 51, 3) := by decide +kernel
theorem jd_H_decide_13 : decode jc_H_decide 13 = .ok (.ifCond .ne 11, 3) := by decide +kernel
theorem jd_H_decide_16 : decode jc_H_decide 16 = .ok (.aload_n 2, 1) := by decide +kernel
theorem jd_H_decide_17 : decode jc_H_decide 17 = .ok (.getfield 44, 3) := by decide +kernel
theorem jd_H_decide_20 : decode jc_H_decide 20 = .ok (.iload_n 3, 1) := by decide +kernel
theorem jd_H_decide_21 : decode jc_H_decide 21 = .ok (.if_icmp .ge 5, 3) := by decide +kernel
theorem jd_H_decide_24 : decode jc_H_decide 24 = .ok (.iconst (-1), 1) := by decide +kernel
theorem jd_H_decide_25 : decode jc_H_decide 25 = .ok (.ireturn, 1) := by decide +kernel
theorem jd_H_decide_26 : decode jc_H_decide 26 = .ok (.aload_n 2, 1) := by decide +kernel
theorem jd_H_decide_27 : decode jc_H_decide 27 = .ok (.dup, 1) := by decide +kernel
theorem jd_H_decide_28 : decode jc_H_decide 28 = .ok (.getfield 44, 3) := by decide +kernel
theorem jd_H_decide_31 : decode jc_H_decide 31 = .ok (.iload_n 3, 1) := by decide +kernel
theorem jd_H_decide_32 : decode jc_H_decide 32 = .ok (.isub, 1) := by decide +kernel
theorem jd_H_decide_33 : decode jc_H_decide 33 = .ok (.putfield 44, 3) := by decide +kernel
theorem jd_H_decide_36 : decode jc_H_decide 36 = .ok (.iconst 2, 1) := by decide +kernel
theorem jd_H_decide_37 : decode jc_H_decide 37 = .ok (.ireturn, 1) := by decide +kernel
theorem jd_C_giveUp_0 : decode jc_C_giveUp 0 = .ok (.aload_n 1, 1) := by decide +kernel
theorem jd_C_giveUp_1 : decode jc_C_giveUp 1 = .ok (.iconst 4, 1) := by decide +kernel
theorem jd_C_giveUp_2 : decode jc_C_giveUp 2 = .ok (.putfield 166, 3) := by decide +kernel
theorem jd_C_giveUp_5 : decode jc_C_giveUp 5 = .ok (.aload_n 0, 1) := by decide +kernel
theorem jd_C_giveUp_6 : decode jc_C_giveUp 6 = .ok (.getfield 40, 3) := by decide +kernel
theorem jd_C_giveUp_9 : decode jc_C_giveUp 9 = .ok (.aload_n 1, 1) := by decide +kernel
theorem jd_C_giveUp_10 : decode jc_C_giveUp 10 = .ok (.getfield 213, 3) := by decide +kernel
theorem jd_C_giveUp_13 : decode jc_C_giveUp 13 = .ok (.aload_n 1, 1) := by decide +kernel
theorem jd_C_giveUp_14 : decode jc_C_giveUp 14 = .ok (.getfield 174, 3) := by decide +kernel
theorem jd_C_giveUp_17 : decode jc_C_giveUp 17 = .ok (.invokevirtual 224, 3) := by decide +kernel
theorem jd_C_giveUp_20 : decode jc_C_giveUp 20 = .ok (.return_, 1) := by decide +kernel
theorem jd_R_add_0 : decode jc_R_add 0 = .ok (.aload_n 0, 1) := by decide +kernel
theorem jd_R_add_1 : decode jc_R_add 1 = .ok (.getfield 18, 3) := by decide +kernel
theorem jd_R_add_4 : decode jc_R_add 4 = .ok (.bipush 40, 2) := by decide +kernel
theorem jd_R_add_6 : decode jc_R_add 6 = .ok (.if_icmp .ge 33, 3) := by decide +kernel
theorem jd_R_add_9 : decode jc_R_add 9 = .ok (.aload_n 0, 1) := by decide +kernel
theorem jd_R_add_10 : decode jc_R_add 10 = .ok (.getfield 9, 3) := by decide +kernel
theorem jd_R_add_13 : decode jc_R_add 13 = .ok (.aload_n 0, 1) := by decide +kernel
theorem jd_R_add_14 : decode jc_R_add 14 = .ok (.getfield 18, 3) := by decide +kernel
theorem jd_R_add_17 : decode jc_R_add 17 = .ok (.iload_n 1, 1) := by decide +kernel
theorem jd_R_add_18 : decode jc_R_add 18 = .ok (.iastore, 1) := by decide +kernel
theorem jd_R_add_19 : decode jc_R_add 19 = .ok (.aload_n 0, 1) := by decide +kernel
theorem jd_R_add_20 : decode jc_R_add 20 = .ok (.getfield 15, 3) := by decide +kernel
theorem jd_R_add_23 : decode jc_R_add 23 = .ok (.aload_n 0, 1) := by decide +kernel
theorem jd_R_add_24 : decode jc_R_add 24 = .ok (.getfield 18, 3) := by decide +kernel
theorem jd_R_add_27 : decode jc_R_add 27 = .ok (.iload_n 2, 1) := by decide +kernel
theorem jd_R_add_28 : decode jc_R_add 28 = .ok (.iastore, 1) := by decide +kernel
theorem jd_R_add_29 : decode jc_R_add 29 = .ok (.aload_n 0, 1) := by decide +kernel
theorem jd_R_add_30 : decode jc_R_add 30 = .ok (.dup, 1) := by decide +kernel
theorem jd_R_add_31 : decode jc_R_add 31 = .ok (.getfield 18, 3) := by decide +kernel
theorem jd_R_add_34 : decode jc_R_add 34 = .ok (.iconst 1, 1) := by decide +kernel
theorem jd_R_add_35 : decode jc_R_add 35 = .ok (.iadd, 1) := by decide +kernel
theorem jd_R_add_36 : decode jc_R_add 36 = .ok (.putfield 18, 3) := by decide +kernel
theorem jd_R_add_39 : decode jc_R_add 39 = .ok (.return_, 1) := by decide +kernel
theorem jd_C_present_0 : decode jc_C_present 0 = .ok (.aload_n 0, 1) := by decide +kernel
theorem jd_C_present_1 : decode jc_C_present 1 = .ok (.iconst 3, 1) := by decide +kernel
theorem jd_C_present_2 : decode jc_C_present 2 = .ok (.invokevirtual 201, 3) := by decide +kernel
theorem jd_C_present_5 : decode jc_C_present 5 = .ok (.ifCond .eq 6, 3) := by decide +kernel
theorem jd_C_present_8 : decode jc_C_present 8 = .ok (.bipush (-3), 2) := by decide +kernel
theorem jd_C_present_10 : decode jc_C_present 10 = .ok (.ireturn, 1) := by decide +kernel
theorem jd_C_present_11 : decode jc_C_present 11 = .ok (.aload_n 0, 1) := by decide +kernel
theorem jd_C_present_12 : decode jc_C_present 12 = .ok (.getfield 26, 3) := by decide +kernel
theorem jd_C_present_15 : decode jc_C_present 15 = .ok (.aload_n 1, 1) := by decide +kernel
theorem jd_C_present_16 : decode jc_C_present 16 = .ok (.getfield 213, 3) := by decide +kernel
theorem jd_C_present_19 : decode jc_C_present 19 = .ok (.invokevirtual 216, 3) := by decide +kernel
theorem jd_C_present_22 : decode jc_C_present 22 = .ok (.istore_n 2, 1) := by decide +kernel
theorem jd_C_present_23 : decode jc_C_present 23 = .ok (.aload_n 0, 1) := by decide +kernel
theorem jd_C_present_24 : decode jc_C_present 24 = .ok (.iconst 4, 1) := by decide +kernel
theorem jd_C_present_25 : decode jc_C_present 25 = .ok (.invokevirtual 201, 3) := by decide +kernel
theorem jd_C_present_28 : decode jc_C_present 28 = .ok (.ifCond .eq 6, 3) := by decide +kernel
theorem jd_C_present_31 : decode jc_C_present 31 = .ok (.bipush (-3), 2) := by decide +kernel
theorem jd_C_present_33 : decode jc_C_present 33 = .ok (.ireturn, 1) := by decide +kernel
theorem jd_C_present_34 : decode jc_C_present 34 = .ok (.aload_n 0, 1) := by decide +kernel
theorem jd_C_present_35 : decode jc_C_present 35 = .ok (.aload_n 1, 1) := by decide +kernel
theorem jd_C_present_36 : decode jc_C_present 36 = .ok (.iload_n 2, 1) := by decide +kernel
theorem jd_C_present_37 : decode jc_C_present 37 = .ok (.invokevirtual 220, 3) := by decide +kernel
theorem jd_C_present_40 : decode jc_C_present 40 = .ok (.iload_n 2, 1) := by decide +kernel
theorem jd_C_present_41 : decode jc_C_present 41 = .ok (.ireturn, 1) := by decide +kernel
theorem jd_D_payMix_0 : decode jc_D_payMix 0 = .ok (.aload_n 0, 1) := by decide +kernel
theorem jd_D_payMix_1 : decode jc_D_payMix 1 = .ok (.getfield 24, 3) := by decide +kernel
theorem jd_D_payMix_4 : decode jc_D_payMix 4 = .ok (.iconst (-1), 1) := by decide +kernel
theorem jd_D_payMix_5 : decode jc_D_payMix 5 = .ok (.if_icmp .ne 9, 3) := by decide +kernel
theorem jd_D_payMix_8 : decode jc_D_payMix 8 = .ok (.sipush 200, 3) := by decide +kernel
theorem jd_D_payMix_11 : decode jc_D_payMix 11 = .ok (.goto 7, 3) := by decide +kernel
theorem jd_D_payMix_14 : decode jc_D_payMix 14 = .ok (.aload_n 0, 1) := by decide +kernel
theorem jd_D_payMix_15 : decode jc_D_payMix 15 = .ok (.getfield 24, 3) := by decide +kernel
theorem jd_D_payMix_18 : decode jc_D_payMix 18 = .ok (.istore_n 2, 1) := by decide +kernel
theorem jd_D_payMix_19 : decode jc_D_payMix 19 = .ok (.aload_n 0, 1) := by decide +kernel
theorem jd_D_payMix_20 : decode jc_D_payMix 20 = .ok (.iconst (-1), 1) := by decide +kernel
theorem jd_D_payMix_21 : decode jc_D_payMix 21 = .ok (.putfield 24, 3) := by decide +kernel
theorem jd_D_payMix_24 : decode jc_D_payMix 24 = .ok (.iconst 0, 1) := by decide +kernel
theorem jd_D_payMix_25 : decode jc_D_payMix 25 = .ok (.istore_n 3, 1) := by decide +kernel
theorem jd_D_payMix_26 : decode jc_D_payMix 26 = .ok (.aload_n 0, 1) := by decide +kernel
theorem jd_D_payMix_27 : decode jc_D_payMix 27 = .ok (.invokevirtual 48, 3) := by decide +kernel
theorem jd_D_payMix_30 : decode jc_D_payMix 30 = .ok (.istore 4, 2) := by decide +kernel
theorem jd_D_payMix_32 : decode jc_D_payMix 32 = .ok (.iconst 0, 1) := by decide +kernel
theorem jd_D_payMix_33 : decode jc_D_payMix 33 = .ok (.istore 5, 2) := by decide +kernel
theorem jd_D_payMix_35 : decode jc_D_payMix 35 = .ok (.iload 5, 2) := by decide +kernel
theorem jd_D_payMix_37 : decode jc_D_payMix 37 = .ok (.iload_n 2, 1) := by decide +kernel
theorem jd_D_payMix_38 : decode jc_D_payMix 38 = .ok (.if_icmp .ge 64, 3) := by decide +kernel
theorem jd_D_payMix_41 : decode jc_D_payMix 41 = .ok (.iload 4, 2) := by decide +kernel
theorem jd_D_payMix_43 : decode jc_D_payMix 43 = .ok (.iconst (-1), 1) := by decide +kernel
theorem jd_D_payMix_44 : decode jc_D_payMix 44 = .ok (.if_icmp .eq 58, 3) := by decide +kernel
theorem jd_D_payMix_47 : decode jc_D_payMix 47 = .ok (.aload_n 0, 1) := by decide +kernel
theorem jd_D_payMix_48 : decode jc_D_payMix 48 = .ok (.getfield 20, 3) := by decide +kernel
theorem jd_D_payMix_51 : decode jc_D_payMix 51 = .ok (.getfield 52, 3) := by decide +kernel
theorem jd_D_payMix_54 : decode jc_D_payMix 54 = .ok (.iload 4, 2) := by decide +kernel
theorem jd_D_payMix_56 : decode jc_D_payMix 56 = .ok (.dup2, 1) := by decide +kernel
theorem jd_D_payMix_57 : decode jc_D_payMix 57 = .ok (.iaload, 1) := by decide +kernel
theorem jd_D_payMix_58 : decode jc_D_payMix 58 = .ok (.iconst 1, 1) := by decide +kernel
theorem jd_D_payMix_59 : decode jc_D_payMix 59 = .ok (.isub, 1) := by decide +kernel
theorem jd_D_payMix_60 : decode jc_D_payMix 60 = .ok (.iastore, 1) := by decide +kernel
theorem jd_D_payMix_61 : decode jc_D_payMix 61 = .ok (.aload_n 0, 1) := by decide +kernel
theorem jd_D_payMix_62 : decode jc_D_payMix 62 = .ok (.getfield 11, 3) := by decide +kernel
theorem jd_D_payMix_65 : decode jc_D_payMix 65 = .ok (.iload 4, 2) := by decide +kernel
theorem jd_D_payMix_67 : decode jc_D_payMix 67 = .ok (.aaload, 1) := by decide +kernel
theorem jd_D_payMix_68 : decode jc_D_payMix 68 = .ok (.dup, 1) := by decide +kernel
theorem jd_D_payMix_69 : decode jc_D_payMix 69 = .ok (.getfield 41, 3) := by decide +kernel
theorem jd_D_payMix_72 : decode jc_D_payMix 72 = .ok (.iconst 1, 1) := by decide +kernel
theorem jd_D_payMix_73 : decode jc_D_payMix 73 = .ok (.isub, 1) := by decide +kernel
theorem jd_D_payMix_74 : decode jc_D_payMix 74 = .ok (.putfield 41, 3) := by decide +kernel
theorem jd_D_payMix_77 : decode jc_D_payMix 77 = .ok (.iload_n 3, 1) := by decide +kernel
theorem jd_D_payMix_78 : decode jc_D_payMix 78 = .ok (.aload_n 0, 1) := by decide +kernel
theorem jd_D_payMix_79 : decode jc_D_payMix 79 = .ok (.getfield 11, 3) := by decide +kernel
theorem jd_D_payMix_82 : decode jc_D_payMix 82 = .ok (.iload 4, 2) := by decide +kernel
theorem jd_D_payMix_84 : decode jc_D_payMix 84 = .ok (.aaload, 1) := by decide +kernel
theorem jd_D_payMix_85 : decode jc_D_payMix 85 = .ok (.getfield 38, 3) := by decide +kernel
theorem jd_D_payMix_88 : decode jc_D_payMix 88 = .ok (.iadd, 1) := by decide +kernel
theorem jd_D_payMix_89 : decode jc_D_payMix 89 = .ok (.istore_n 3, 1) := by decide +kernel
theorem jd_D_payMix_90 : decode jc_D_payMix 90 = .ok (.aload_n 0, 1) := by decide +kernel
theorem jd_D_payMix_91 : decode jc_D_payMix 91 = .ok (.invokevirtual 48, 3) := by decide +kernel
theorem jd_D_payMix_94 : decode jc_D_payMix 94 = .ok (.istore 4, 2) := by decide +kernel
theorem jd_D_payMix_96 : decode jc_D_payMix 96 = .ok (.iinc 5 1, 3) := by decide +kernel
theorem jd_D_payMix_99 : decode jc_D_payMix 99 = .ok (.goto (-64), 3) := by decide +kernel
theorem jd_D_payMix_102 : decode jc_D_payMix 102 = .ok (.aload_n 0, 1) := by decide +kernel
theorem jd_D_payMix_103 : decode jc_D_payMix 103 = .ok (.iload_n 1, 1) := by decide +kernel
theorem jd_D_payMix_104 : decode jc_D_payMix 104 = .ok (.putfield 31, 3) := by decide +kernel
theorem jd_D_payMix_107 : decode jc_D_payMix 107 = .ok (.aload_n 0, 1) := by decide +kernel
theorem jd_D_payMix_108 : decode jc_D_payMix 108 = .ok (.iload_n 3, 1) := by decide +kernel
theorem jd_D_payMix_109 : decode jc_D_payMix 109 = .ok (.putfield 34, 3) := by decide +kernel
theorem jd_D_payMix_112 : decode jc_D_payMix 112 = .ok (.aload_n 0, 1) := by decide +kernel
theorem jd_D_payMix_113 : decode jc_D_payMix 113 = .ok (.dup, 1) := by decide +kernel
theorem jd_D_payMix_114 : decode jc_D_payMix 114 = .ok (.getfield 28, 3) := by decide +kernel
theorem jd_D_payMix_117 : decode jc_D_payMix 117 = .ok (.iload_n 3, 1) := by decide +kernel
theorem jd_D_payMix_118 : decode jc_D_payMix 118 = .ok (.iadd, 1) := by decide +kernel
theorem jd_D_payMix_119 : decode jc_D_payMix 119 = .ok (.putfield 28, 3) := by decide +kernel
theorem jd_D_payMix_122 : decode jc_D_payMix 122 = .ok (.iload_n 3, 1) := by decide +kernel
theorem jd_D_payMix_123 : decode jc_D_payMix 123 = .ok (.ireturn, 1) := by decide +kernel
theorem jd_D_nextCassette_0 : decode jc_D_nextCassette 0 = .ok (.iconst (-1), 1) := by decide +kernel
theorem jd_D_nextCassette_1 : decode jc_D_nextCassette 1 = .ok (.istore_n 1, 1) := by decide +kernel
theorem jd_D_nextCassette_2 : decode jc_D_nextCassette 2 = .ok (.iconst 0, 1) := by decide +kernel
theorem jd_D_nextCassette_3 : decode jc_D_nextCassette 3 = .ok (.istore_n 2, 1) := by decide +kernel
theorem jd_D_nextCassette_4 : decode jc_D_nextCassette 4 = .ok (.iload_n 2, 1) := by decide +kernel
theorem jd_D_nextCassette_5 : decode jc_D_nextCassette 5 = .ok (.iconst 4, 1) := by decide +kernel
theorem jd_D_nextCassette_6 : decode jc_D_nextCassette 6 = .ok (.if_icmp .ge 59, 3) := by decide +kernel
theorem jd_D_nextCassette_9 : decode jc_D_nextCassette 9 = .ok (.aload_n 0, 1) := by decide +kernel
theorem jd_D_nextCassette_10 : decode jc_D_nextCassette 10 = .ok (.getfield 20, 3) := by decide +kernel
theorem jd_D_nextCassette_13 : decode jc_D_nextCassette 13 = .ok (.getfield 52, 3) := by decide +kernel
theorem jd_D_nextCassette_16 : decode jc_D_nextCassette 16 = .ok (.iload_n 2, 1) := by decide +kernel
theorem jd_D_nextCassette_17 : decode jc_D_nextCassette 17 = .ok (.iaload, 1) := by decide +kernel
theorem jd_D_nextCassette_18 : decode jc_D_nextCassette 18 = .ok (.ifCond .le 7, 3) := by decide +kernel
theorem jd_D_nextCassette_21 : decode jc_D_nextCassette 21 = .ok (.iconst 1, 1) := by decide +kernel
theorem jd_D_nextCassette_22 : decode jc_D_nextCassette 22 = .ok (.goto 4, 3) := by decide +kernel
theorem jd_D_nextCassette_25 : decode jc_D_nextCassette 25 = .ok (.iconst 0, 1) := by decide +kernel
theorem jd_D_nextCassette_26 : decode jc_D_nextCassette 26 = .ok (.istore_n 3, 1) := by decide +kernel
theorem jd_D_nextCassette_27 : decode jc_D_nextCassette 27 = .ok (.iload_n 3, 1) := by decide +kernel
theorem jd_D_nextCassette_28 : decode jc_D_nextCassette 28 = .ok (.ifCond .eq 31, 3) := by decide +kernel
theorem jd_D_nextCassette_31 : decode jc_D_nextCassette 31 = .ok (.iload_n 1, 1) := by decide +kernel
theorem jd_D_nextCassette_32 : decode jc_D_nextCassette 32 = .ok (.iconst (-1), 1) := by decide +kernel
theorem jd_D_nextCassette_33 : decode jc_D_nextCassette 33 = .ok (.if_icmp .eq 24, 3) := by decide +kernel
theorem jd_D_nextCassette_36 : decode jc_D_nextCassette 36 = .ok (.aload_n 0, 1) := by decide +kernel
theorem jd_D_nextCassette_37 : decode jc_D_nextCassette 37 = .ok (.getfield 11, 3) := by decide +kernel
theorem jd_D_nextCassette_40 : decode jc_D_nextCassette 40 = .ok (.iload_n 2, 1) := by decide +kernel
theorem jd_D_nextCassette_41 : decode jc_D_nextCassette 41 = .ok (.aaload, 1) := by decide +kernel
theorem jd_D_nextCassette_42 : decode jc_D_nextCassette 42 = .ok (.getfield 38, 3) := by decide +kernel
theorem jd_D_nextCassette_45 : decode jc_D_nextCassette 45 = .ok (.aload_n 0, 1) := by decide +kernel
theorem jd_D_nextCassette_46 : decode jc_D_nextCassette 46 = .ok (.getfield 11, 3) := by decide +kernel
theorem jd_D_nextCassette_49 : decode jc_D_nextCassette 49 = .ok (.iload_n 1, 1) := by decide +kernel
theorem jd_D_nextCassette_50 : decode jc_D_nextCassette 50 = .ok (.aaload, 1) := by decide +kernel
theorem jd_D_nextCassette_51 : decode jc_D_nextCassette 51 = .ok (.getfield 38, 3) := by decide +kernel
theorem jd_D_nextCassette_54 : decode jc_D_nextCassette 54 = .ok (.if_icmp .le 5, 3) := by decide +kernel
theorem jd_D_nextCassette_57 : decode jc_D_nextCassette 57 = .ok (.iload_n 2, 1) := by decide +kernel
theorem jd_D_nextCassette_58 : decode jc_D_nextCassette 58 = .ok (.istore_n 1, 1) := by decide +kernel
theorem jd_D_nextCassette_59 : decode jc_D_nextCassette 59 = .ok (.iinc 2 1, 3) := by decide +kernel
theorem jd_D_nextCassette_62 : decode jc_D_nextCassette 62 = .ok (.goto (-58), 3) := by decide +kernel
theorem jd_D_nextCassette_65 : decode jc_D_nextCassette 65 = .ok (.iload_n 1, 1) := by decide +kernel
theorem jd_D_nextCassette_66 : decode jc_D_nextCassette 66 = .ok (.ireturn, 1) := by decide +kernel
theorem jd_C_finish_0 : decode jc_C_finish 0 = .ok (.aload_n 1, 1) := by decide +kernel
theorem jd_C_finish_1 : decode jc_C_finish 1 = .ok (.iconst 3, 1) := by decide +kernel
theorem jd_C_finish_2 : decode jc_C_finish 2 = .ok (.putfield 166, 3) := by decide +kernel
theorem jd_C_finish_5 : decode jc_C_finish 5 = .ok (.aload_n 1, 1) := by decide +kernel
theorem jd_C_finish_6 : decode jc_C_finish 6 = .ok (.iload_n 2, 1) := by decide +kernel
theorem jd_C_finish_7 : decode jc_C_finish 7 = .ok (.putfield 177, 3) := by decide +kernel
theorem jd_C_finish_10 : decode jc_C_finish 10 = .ok (.iload_n 2, 1) := by decide +kernel
theorem jd_C_finish_11 : decode jc_C_finish 11 = .ok (.aload_n 1, 1) := by decide +kernel
theorem jd_C_finish_12 : decode jc_C_finish 12 = .ok (.getfield 174, 3) := by decide +kernel
theorem jd_C_finish_15 : decode jc_C_finish 15 = .ok (.if_icmp .ge 20, 3) := by decide +kernel
theorem jd_C_finish_18 : decode jc_C_finish 18 = .ok (.aload_n 0, 1) := by decide +kernel
theorem jd_C_finish_19 : decode jc_C_finish 19 = .ok (.getfield 40, 3) := by decide +kernel
theorem jd_C_finish_22 : decode jc_C_finish 22 = .ok (.aload_n 1, 1) := by decide +kernel
theorem jd_C_finish_23 : decode jc_C_finish 23 = .ok (.getfield 213, 3) := by decide +kernel
theorem jd_C_finish_26 : decode jc_C_finish 26 = .ok (.aload_n 1, 1) := by decide +kernel
theorem jd_C_finish_27 : decode jc_C_finish 27 = .ok (.getfield 174, 3) := by decide +kernel
theorem jd_C_finish_30 : decode jc_C_finish 30 = .ok (.iload_n 2, 1) := by decide +kernel
theorem jd_C_finish_31 : decode jc_C_finish 31 = .ok (.isub, 1) := by decide +kernel
theorem jd_C_finish_32 : decode jc_C_finish 32 = .ok (.invokevirtual 224, 3) := by decide +kernel
theorem jd_C_finish_35 : decode jc_C_finish 35 = .ok (.return_, 1) := by decide +kernel
theorem jd_L_mix_0 : decode jc_L_mix 0 = .ok (.aload_n 3, 1) := by decide +kernel
theorem jd_L_mix_1 : decode jc_L_mix 1 = .ok (.iconst 0, 1) := by decide +kernel
theorem jd_L_mix_2 : decode jc_L_mix 2 = .ok (.aload_n 0, 1) := by decide +kernel
theorem jd_L_mix_3 : decode jc_L_mix 3 = .ok (.iload_n 1, 1) := by decide +kernel
theorem jd_L_mix_4 : decode jc_L_mix 4 = .ok (.iload_n 2, 1) := by decide +kernel
theorem jd_L_mix_5 : decode jc_L_mix 5 = .ok (.invokevirtual 40, 3) := by decide +kernel
theorem jd_L_mix_8 : decode jc_L_mix 8 = .ok (.i2l, 1) := by decide +kernel
theorem jd_L_mix_9 : decode jc_L_mix 9 = .ok (.lastore, 1) := by decide +kernel
theorem jd_L_mix_10 : decode jc_L_mix 10 = .ok (.goto 11, 3) := by decide +kernel
theorem jd_L_mix_13 : decode jc_L_mix 13 = .ok (.astore 4, 2) := by decide +kernel
theorem jd_L_mix_15 : decode jc_L_mix 15 = .ok (.iconst 1, 1) := by decide +kernel
theorem jd_L_mix_16 : decode jc_L_mix 16 = .ok (.ireturn, 1) := by decide +kernel
theorem jd_L_mix_17 : decode jc_L_mix 17 = .ok (.astore 4, 2) := by decide +kernel
theorem jd_L_mix_19 : decode jc_L_mix 19 = .ok (.iconst 2, 1) := by decide +kernel
theorem jd_L_mix_20 : decode jc_L_mix 20 = .ok (.ireturn, 1) := by decide +kernel
theorem jd_L_mix_21 : decode jc_L_mix 21 = .ok (.iconst 0, 1) := by decide +kernel
theorem jd_L_mix_22 : decode jc_L_mix 22 = .ok (.ireturn, 1) := by decide +kernel
theorem jd_C_mix_0 : decode jc_C_mix 0 = .ok (.iload_n 1, 1) := by decide +kernel
theorem jd_C_mix_1 : decode jc_C_mix 1 = .ok (.iconst 0, 1) := by decide +kernel
theorem jd_C_mix_2 : decode jc_C_mix 2 = .ok (.iconst 3, 1) := by decide +kernel
theorem jd_C_mix_3 : decode jc_C_mix 3 = .ok (.invokestatic 58, 3) := by decide +kernel
theorem jd_C_mix_6 : decode jc_C_mix 6 = .ok (.ifCond .eq 14, 3) := by decide +kernel
theorem jd_C_mix_9 : decode jc_C_mix 9 = .ok (.iload_n 2, 1) := by decide +kernel
theorem jd_C_mix_10 : decode jc_C_mix 10 = .ok (.iconst 1, 1) := by decide +kernel
theorem jd_C_mix_11 : decode jc_C_mix 11 = .ok (.sipush 5000, 3) := by decide +kernel
theorem jd_C_mix_14 : decode jc_C_mix 14 = .ok (.invokestatic 58, 3) := by decide +kernel
theorem jd_C_mix_17 : decode jc_C_mix 17 = .ok (.ifCond .ne 11, 3) := by decide +kernel
theorem jd_C_mix_20 : decode jc_C_mix 20 = .ok (.new 63, 3) := by decide +kernel
theorem jd_C_mix_23 : decode jc_C_mix 23 = .ok (.dup, 1) := by decide +kernel
theorem jd_C_mix_24 : decode jc_C_mix 24 = .ok (.invokespecial 65, 3) := by decide +kernel
theorem jd_C_mix_27 : decode jc_C_mix 27 = .ok (.athrow, 1) := by decide +kernel
theorem jd_C_mix_28 : decode jc_C_mix 28 = .ok (.aload_n 0, 1) := by decide +kernel
theorem jd_C_mix_29 : decode jc_C_mix 29 = .ok (.getfield 26, 3) := by decide +kernel
theorem jd_C_mix_32 : decode jc_C_mix 32 = .ok (.iload_n 2, 1) := by decide +kernel
theorem jd_C_mix_33 : decode jc_C_mix 33 = .ok (.invokevirtual 109, 3) := by decide +kernel
theorem jd_C_mix_36 : decode jc_C_mix 36 = .ok (.ifCond .ne 11, 3) := by decide +kernel
theorem jd_C_mix_39 : decode jc_C_mix 39 = .ok (.new 97, 3) := by decide +kernel
theorem jd_C_mix_42 : decode jc_C_mix 42 = .ok (.dup, 1) := by decide +kernel
theorem jd_C_mix_43 : decode jc_C_mix 43 = .ok (.invokespecial 99, 3) := by decide +kernel
theorem jd_C_mix_46 : decode jc_C_mix 46 = .ok (.athrow, 1) := by decide +kernel
theorem jd_C_mix_47 : decode jc_C_mix 47 = .ok (.aload_n 0, 1) := by decide +kernel
theorem jd_C_mix_48 : decode jc_C_mix 48 = .ok (.getfield 26, 3) := by decide +kernel
theorem jd_C_mix_51 : decode jc_C_mix 51 = .ok (.getfield 126, 3) := by decide +kernel
theorem jd_C_mix_54 : decode jc_C_mix 54 = .ok (.getfield 130, 3) := by decide +kernel
theorem jd_C_mix_57 : decode jc_C_mix 57 = .ok (.iload_n 1, 1) := by decide +kernel
theorem jd_C_mix_58 : decode jc_C_mix 58 = .ok (.iaload, 1) := by decide +kernel
theorem jd_C_mix_59 : decode jc_C_mix 59 = .ok (.ireturn, 1) := by decide +kernel
theorem jd_L_line_0 : decode jc_L_line 0 = .ok (.aload_n 2, 1) := by decide +kernel
theorem jd_L_line_1 : decode jc_L_line 1 = .ok (.iconst 0, 1) := by decide +kernel
theorem jd_L_line_2 : decode jc_L_line 2 = .ok (.aload_n 0, 1) := by decide +kernel
theorem jd_L_line_3 : decode jc_L_line 3 = .ok (.iload_n 1, 1) := by decide +kernel
theorem jd_L_line_4 : decode jc_L_line 4 = .ok (.invokevirtual 44, 3) := by decide +kernel
theorem jd_L_line_7 : decode jc_L_line 7 = .ok (.i2l, 1) := by decide +kernel
theorem jd_L_line_8 : decode jc_L_line 8 = .ok (.lastore, 1) := by decide +kernel
theorem jd_L_line_9 : decode jc_L_line 9 = .ok (.goto 9, 3) := by decide +kernel
theorem jd_L_line_12 : decode jc_L_line 12 = .ok (.astore_n 3, 1) := by decide +kernel
theorem jd_L_line_13 : decode jc_L_line 13 = .ok (.iconst 1, 1) := by decide +kernel
theorem jd_L_line_14 : decode jc_L_line 14 = .ok (.ireturn, 1) := by decide +kernel
theorem jd_L_line_15 : decode jc_L_line 15 = .ok (.astore_n 3, 1) := by decide +kernel
theorem jd_L_line_16 : decode jc_L_line 16 = .ok (.iconst 2, 1) := by decide +kernel
theorem jd_L_line_17 : decode jc_L_line 17 = .ok (.ireturn, 1) := by decide +kernel
theorem jd_L_line_18 : decode jc_L_line 18 = .ok (.iconst 0, 1) := by decide +kernel
theorem jd_L_line_19 : decode jc_L_line 19 = .ok (.ireturn, 1) := by decide +kernel
theorem jd_C_line_0 : decode jc_C_line 0 = .ok (.iload_n 1, 1) := by decide +kernel
theorem jd_C_line_1 : decode jc_C_line 1 = .ok (.iconst 0, 1) := by decide +kernel
theorem jd_C_line_2 : decode jc_C_line 2 = .ok (.iconst 3, 1) := by decide +kernel
theorem jd_C_line_3 : decode jc_C_line 3 = .ok (.invokestatic 58, 3) := by decide +kernel
theorem jd_C_line_6 : decode jc_C_line 6 = .ok (.ifCond .ne 11, 3) := by decide +kernel
theorem jd_C_line_9 : decode jc_C_line 9 = .ok (.new 63, 3) := by decide +kernel
theorem jd_C_line_12 : decode jc_C_line 12 = .ok (.dup, 1) := by decide +kernel
theorem jd_C_line_13 : decode jc_C_line 13 = .ok (.invokespecial 65, 3) := by decide +kernel
theorem jd_C_line_16 : decode jc_C_line 16 = .ok (.athrow, 1) := by decide +kernel
theorem jd_C_line_17 : decode jc_C_line 17 = .ok (.aload_n 0, 1) := by decide +kernel
theorem jd_C_line_18 : decode jc_C_line 18 = .ok (.getfield 19, 3) := by decide +kernel
theorem jd_C_line_21 : decode jc_C_line 21 = .ok (.getfield 136, 3) := by decide +kernel
theorem jd_C_line_24 : decode jc_C_line 24 = .ok (.bipush 8, 2) := by decide +kernel
theorem jd_C_line_26 : decode jc_C_line 26 = .ok (.if_icmp .lt 11, 3) := by decide +kernel
theorem jd_C_line_29 : decode jc_C_line 29 = .ok (.new 70, 3) := by decide +kernel
theorem jd_C_line_32 : decode jc_C_line 32 = .ok (.dup, 1) := by decide +kernel
theorem jd_C_line_33 : decode jc_C_line 33 = .ok (.invokespecial 72, 3) := by decide +kernel
theorem jd_C_line_36 : decode jc_C_line 36 = .ok (.athrow, 1) := by decide +kernel
theorem jd_C_line_37 : decode jc_C_line 37 = .ok (.aload_n 0, 1) := by decide +kernel
theorem jd_C_line_38 : decode jc_C_line 38 = .ok (.getfield 19, 3) := by decide +kernel
theorem jd_C_line_41 : decode jc_C_line 41 = .ok (.iload_n 1, 1) := by decide +kernel
theorem jd_C_line_42 : decode jc_C_line 42 = .ok (.invokevirtual 137, 3) := by decide +kernel
theorem jd_C_line_45 : decode jc_C_line 45 = .ok (.aload_n 0, 1) := by decide +kernel
theorem jd_C_line_46 : decode jc_C_line 46 = .ok (.getfield 19, 3) := by decide +kernel
theorem jd_C_line_49 : decode jc_C_line 49 = .ok (.getfield 136, 3) := by decide +kernel
theorem jd_C_line_52 : decode jc_C_line 52 = .ok (.ireturn, 1) := by decide +kernel
theorem jd_N_add_0 : decode jc_N_add 0 = .ok (.aload_n 0, 1) := by decide +kernel
theorem jd_N_add_1 : decode jc_N_add 1 = .ok (.getfield 9, 3) := by decide +kernel
theorem jd_N_add_4 : decode jc_N_add 4 = .ok (.aload_n 0, 1) := by decide +kernel
theorem jd_N_add_5 : decode jc_N_add 5 = .ok (.getfield 15, 3) := by decide +kernel
theorem jd_N_add_8 : decode jc_N_add 8 = .ok (.iload_n 1, 1) := by decide +kernel
theorem jd_N_add_9 : decode jc_N_add 9 = .ok (.iastore, 1) := by decide +kernel
theorem jd_N_add_10 : decode jc_N_add 10 = .ok (.aload_n 0, 1) := by decide +kernel
theorem jd_N_add_11 : decode jc_N_add 11 = .ok (.dup, 1) := by decide +kernel
theorem jd_N_add_12 : decode jc_N_add 12 = .ok (.getfield 15, 3) := by decide +kernel
theorem jd_N_add_15 : decode jc_N_add 15 = .ok (.iconst 1, 1) := by decide +kernel
end
section
theorem jd_N_add_16 : decode jc_N_add 16 = .ok (.iadd, 1) := by decide +kernel
theorem jd_N_add_17 : decode jc_N_add 17 = .ok (.putfield 15, 3) := by decide +kernel
theorem jd_N_add_20 : decode jc_N_add 20 = .ok (.return_, 1) := by decide +kernel
theorem jd_L_jam_0 : decode jc_L_jam 0 = .ok (.aload_n 2, 1) := by decide +kernel
theorem jd_L_jam_1 : decode jc_L_jam 1 = .ok (.iconst 0, 1) := by decide +kernel
theorem jd_L_jam_2 : decode jc_L_jam 2 = .ok (.aload_n 0, 1) := by decide +kernel
theorem jd_L_jam_3 : decode jc_L_jam 3 = .ok (.iload_n 1, 1) := by decide +kernel
theorem jd_L_jam_4 : decode jc_L_jam 4 = .ok (.invokevirtual 47, 3) := by decide +kernel
theorem jd_L_jam_7 : decode jc_L_jam 7 = .ok (.i2l, 1) := by decide +kernel
theorem jd_L_jam_8 : decode jc_L_jam 8 = .ok (.lastore, 1) := by decide +kernel
theorem jd_L_jam_9 : decode jc_L_jam 9 = .ok (.goto 6, 3) := by decide +kernel
theorem jd_L_jam_12 : decode jc_L_jam 12 = .ok (.astore_n 3, 1) := by decide +kernel
theorem jd_L_jam_13 : decode jc_L_jam 13 = .ok (.iconst 1, 1) := by decide +kernel
theorem jd_L_jam_14 : decode jc_L_jam 14 = .ok (.ireturn, 1) := by decide +kernel
theorem jd_L_jam_15 : decode jc_L_jam 15 = .ok (.iconst 0, 1) := by decide +kernel
theorem jd_L_jam_16 : decode jc_L_jam 16 = .ok (.ireturn, 1) := by decide +kernel
theorem jd_C_jam_0 : decode jc_C_jam 0 = .ok (.iload_n 1, 1) := by decide +kernel
theorem jd_C_jam_1 : decode jc_C_jam 1 = .ok (.iconst (-1), 1) := by decide +kernel
theorem jd_C_jam_2 : decode jc_C_jam 2 = .ok (.bipush 100, 2) := by decide +kernel
theorem jd_C_jam_4 : decode jc_C_jam 4 = .ok (.invokestatic 58, 3) := by decide +kernel
theorem jd_C_jam_7 : decode jc_C_jam 7 = .ok (.ifCond .ne 11, 3) := by decide +kernel
theorem jd_C_jam_10 : decode jc_C_jam 10 = .ok (.new 63, 3) := by decide +kernel
theorem jd_C_jam_13 : decode jc_C_jam 13 = .ok (.dup, 1) := by decide +kernel
theorem jd_C_jam_14 : decode jc_C_jam 14 = .ok (.invokespecial 65, 3) := by decide +kernel
theorem jd_C_jam_17 : decode jc_C_jam 17 = .ok (.athrow, 1) := by decide +kernel
theorem jd_C_jam_18 : decode jc_C_jam 18 = .ok (.aload_n 0, 1) := by decide +kernel
theorem jd_C_jam_19 : decode jc_C_jam 19 = .ok (.getfield 26, 3) := by decide +kernel
theorem jd_C_jam_22 : decode jc_C_jam 22 = .ok (.iload_n 1, 1) := by decide +kernel
theorem jd_C_jam_23 : decode jc_C_jam 23 = .ok (.putfield 141, 3) := by decide +kernel
theorem jd_C_jam_26 : decode jc_C_jam 26 = .ok (.iload_n 1, 1) := by decide +kernel
theorem jd_C_jam_27 : decode jc_C_jam 27 = .ok (.iconst (-1), 1) := by decide +kernel
theorem jd_C_jam_28 : decode jc_C_jam 28 = .ok (.if_icmp .ne 7, 3) := by decide +kernel
theorem jd_C_jam_31 : decode jc_C_jam 31 = .ok (.iconst 0, 1) := by decide +kernel
theorem jd_C_jam_32 : decode jc_C_jam 32 = .ok (.goto 4, 3) := by decide +kernel
theorem jd_C_jam_35 : decode jc_C_jam 35 = .ok (.iconst 1, 1) := by decide +kernel
theorem jd_C_jam_36 : decode jc_C_jam 36 = .ok (.ireturn, 1) := by decide +kernel
theorem jd_L_power_0 : decode jc_L_power 0 = .ok (.aload_n 2, 1) := by decide +kernel
theorem jd_L_power_1 : decode jc_L_power 1 = .ok (.iconst 0, 1) := by decide +kernel
theorem jd_L_power_2 : decode jc_L_power 2 = .ok (.aload_n 0, 1) := by decide +kernel
theorem jd_L_power_3 : decode jc_L_power 3 = .ok (.iload_n 1, 1) := by decide +kernel
theorem jd_L_power_4 : decode jc_L_power 4 = .ok (.invokevirtual 50, 3) := by decide +kernel
theorem jd_L_power_7 : decode jc_L_power 7 = .ok (.i2l, 1) := by decide +kernel
theorem jd_L_power_8 : decode jc_L_power 8 = .ok (.lastore, 1) := by decide +kernel
theorem jd_L_power_9 : decode jc_L_power 9 = .ok (.goto 6, 3) := by decide +kernel
theorem jd_L_power_12 : decode jc_L_power 12 = .ok (.astore_n 3, 1) := by decide +kernel
theorem jd_L_power_13 : decode jc_L_power 13 = .ok (.iconst 1, 1) := by decide +kernel
theorem jd_L_power_14 : decode jc_L_power 14 = .ok (.ireturn, 1) := by decide +kernel
theorem jd_L_power_15 : decode jc_L_power 15 = .ok (.iconst 0, 1) := by decide +kernel
theorem jd_L_power_16 : decode jc_L_power 16 = .ok (.ireturn, 1) := by decide +kernel
theorem jd_C_power_0 : decode jc_C_power 0 = .ok (.iload_n 1, 1) := by decide +kernel
theorem jd_C_power_1 : decode jc_C_power 1 = .ok (.iconst 0, 1) := by decide +kernel
theorem jd_C_power_2 : decode jc_C_power 2 = .ok (.iconst 4, 1) := by decide +kernel
theorem jd_C_power_3 : decode jc_C_power 3 = .ok (.invokestatic 58, 3) := by decide +kernel
theorem jd_C_power_6 : decode jc_C_power 6 = .ok (.ifCond .ne 11, 3) := by decide +kernel
theorem jd_C_power_9 : decode jc_C_power 9 = .ok (.new 63, 3) := by decide +kernel
theorem jd_C_power_12 : decode jc_C_power 12 = .ok (.dup, 1) := by decide +kernel
theorem jd_C_power_13 : decode jc_C_power 13 = .ok (.invokespecial 65, 3) := by decide +kernel
theorem jd_C_power_16 : decode jc_C_power 16 = .ok (.athrow, 1) := by decide +kernel
theorem jd_C_power_17 : decode jc_C_power 17 = .ok (.aload_n 0, 1) := by decide +kernel
theorem jd_C_power_18 : decode jc_C_power 18 = .ok (.iload_n 1, 1) := by decide +kernel
theorem jd_C_power_19 : decode jc_C_power 19 = .ok (.putfield 55, 3) := by decide +kernel
theorem jd_C_power_22 : decode jc_C_power 22 = .ok (.iload_n 1, 1) := by decide +kernel
theorem jd_C_power_23 : decode jc_C_power 23 = .ok (.ifCond .ne 7, 3) := by decide +kernel
theorem jd_C_power_26 : decode jc_C_power 26 = .ok (.iconst 0, 1) := by decide +kernel
theorem jd_C_power_27 : decode jc_C_power 27 = .ok (.goto 4, 3) := by decide +kernel
theorem jd_C_power_30 : decode jc_C_power 30 = .ok (.iconst 1, 1) := by decide +kernel
theorem jd_C_power_31 : decode jc_C_power 31 = .ok (.ireturn, 1) := by decide +kernel
theorem jd_L_boot_0 : decode jc_L_boot 0 = .ok (.aload_n 1, 1) := by decide +kernel
theorem jd_L_boot_1 : decode jc_L_boot 1 = .ok (.iconst 0, 1) := by decide +kernel
theorem jd_L_boot_2 : decode jc_L_boot 2 = .ok (.aload_n 0, 1) := by decide +kernel
theorem jd_L_boot_3 : decode jc_L_boot 3 = .ok (.invokevirtual 53, 3) := by decide +kernel
theorem jd_L_boot_6 : decode jc_L_boot 6 = .ok (.i2l, 1) := by decide +kernel
theorem jd_L_boot_7 : decode jc_L_boot 7 = .ok (.lastore, 1) := by decide +kernel
theorem jd_L_boot_8 : decode jc_L_boot 8 = .ok (.goto 6, 3) := by decide +kernel
theorem jd_L_boot_11 : decode jc_L_boot 11 = .ok (.astore_n 2, 1) := by decide +kernel
theorem jd_L_boot_12 : decode jc_L_boot 12 = .ok (.iconst 1, 1) := by decide +kernel
theorem jd_L_boot_13 : decode jc_L_boot 13 = .ok (.ireturn, 1) := by decide +kernel
theorem jd_L_boot_14 : decode jc_L_boot 14 = .ok (.iconst 0, 1) := by decide +kernel
theorem jd_L_boot_15 : decode jc_L_boot 15 = .ok (.ireturn, 1) := by decide +kernel
theorem jd_C_boot_0 : decode jc_C_boot 0 = .ok (.aload_n 0, 1) := by decide +kernel
theorem jd_C_boot_1 : decode jc_C_boot 1 = .ok (.getfield 44, 3) := by decide +kernel
theorem jd_C_boot_4 : decode jc_C_boot 4 = .ok (.ifCond .eq 11, 3) := by decide +kernel
theorem jd_C_boot_7 : decode jc_C_boot 7 = .ok (.new 70, 3) := by decide +kernel
theorem jd_C_boot_10 : decode jc_C_boot 10 = .ok (.dup, 1) := by decide +kernel
theorem jd_C_boot_11 : decode jc_C_boot 11 = .ok (.invokespecial 72, 3) := by decide +kernel
theorem jd_C_boot_14 : decode jc_C_boot 14 = .ok (.athrow, 1) := by decide +kernel
theorem jd_C_boot_15 : decode jc_C_boot 15 = .ok (.aload_n 0, 1) := by decide +kernel
theorem jd_C_boot_16 : decode jc_C_boot 16 = .ok (.iconst 1, 1) := by decide +kernel
theorem jd_C_boot_17 : decode jc_C_boot 17 = .ok (.putfield 44, 3) := by decide +kernel
theorem jd_C_boot_20 : decode jc_C_boot 20 = .ok (.aload_n 0, 1) := by decide +kernel
theorem jd_C_boot_21 : decode jc_C_boot 21 = .ok (.getfield 33, 3) := by decide +kernel
theorem jd_C_boot_24 : decode jc_C_boot 24 = .ok (.getfield 112, 3) := by decide +kernel
theorem jd_C_boot_27 : decode jc_C_boot 27 = .ok (.ifCond .le 14, 3) := by decide +kernel
theorem jd_C_boot_30 : decode jc_C_boot 30 = .ok (.aload_n 0, 1) := by decide +kernel
theorem jd_C_boot_31 : decode jc_C_boot 31 = .ok (.aload_n 0, 1) := by decide +kernel
theorem jd_C_boot_32 : decode jc_C_boot 32 = .ok (.getfield 33, 3) := by decide +kernel
theorem jd_C_boot_35 : decode jc_C_boot 35 = .ok (.invokevirtual 144, 3) := by decide +kernel
theorem jd_C_boot_38 : decode jc_C_boot 38 = .ok (.invokevirtual 148, 3) := by decide +kernel
theorem jd_C_boot_41 : decode jc_C_boot 41 = .ok (.aload_n 0, 1) := by decide +kernel
theorem jd_C_boot_42 : decode jc_C_boot 42 = .ok (.getfield 40, 3) := by decide +kernel
theorem jd_C_boot_45 : decode jc_C_boot 45 = .ok (.getfield 152, 3) := by decide +kernel
theorem jd_C_boot_48 : decode jc_C_boot 48 = .ok (.ireturn, 1) := by decide +kernel
theorem jd_J_last_0 : decode jc_J_last 0 = .ok (.aload_n 0, 1) := by decide +kernel
theorem jd_J_last_1 : decode jc_J_last 1 = .ok (.getfield 11, 3) := by decide +kernel
theorem jd_J_last_4 : decode jc_J_last 4 = .ok (.aload_n 0, 1) := by decide +kernel
theorem jd_J_last_5 : decode jc_J_last 5 = .ok (.getfield 17, 3) := by decide +kernel
theorem jd_J_last_8 : decode jc_J_last 8 = .ok (.iconst 1, 1) := by decide +kernel
theorem jd_J_last_9 : decode jc_J_last 9 = .ok (.isub, 1) := by decide +kernel
theorem jd_J_last_10 : decode jc_J_last 10 = .ok (.aaload, 1) := by decide +kernel
theorem jd_J_last_11 : decode jc_J_last 11 = .ok (.areturn, 1) := by decide +kernel
theorem jd_C_recover_0 : decode jc_C_recover 0 = .ok (.aload_n 1, 1) := by decide +kernel
theorem jd_C_recover_1 : decode jc_C_recover 1 = .ok (.getfield 166, 3) := by decide +kernel
theorem jd_C_recover_4 : decode jc_C_recover 4 = .ok (.iconst 1, 1) := by decide +kernel
theorem jd_C_recover_5 : decode jc_C_recover 5 = .ok (.if_icmp .ne 11, 3) := by decide +kernel
theorem jd_C_recover_8 : decode jc_C_recover 8 = .ok (.aload_n 0, 1) := by decide +kernel
theorem jd_C_recover_9 : decode jc_C_recover 9 = .ok (.aload_n 1, 1) := by decide +kernel
theorem jd_C_recover_10 : decode jc_C_recover 10 = .ok (.invokevirtual 207, 3) := by decide +kernel
theorem jd_C_recover_13 : decode jc_C_recover 13 = .ok (.goto 27, 3) := by decide +kernel
theorem jd_C_recover_16 : decode jc_C_recover 16 = .ok (.aload_n 1, 1) := by decide +kernel
theorem jd_C_recover_17 : decode jc_C_recover 17 = .ok (.getfield 166, 3) := by decide +kernel
theorem jd_C_recover_20 : decode jc_C_recover 20 = .ok (.iconst 2, 1) := by decide +kernel
theorem jd_C_recover_21 : decode jc_C_recover 21 = .ok (.if_icmp .ne 19, 3) := by decide +kernel
theorem jd_C_recover_24 : decode jc_C_recover 24 = .ok (.aload_n 0, 1) := by decide +kernel
theorem jd_C_recover_25 : decode jc_C_recover 25 = .ok (.aload_n 1, 1) := by decide +kernel
theorem jd_C_recover_26 : decode jc_C_recover 26 = .ok (.aload_n 0, 1) := by decide +kernel
theorem jd_C_recover_27 : decode jc_C_recover 27 = .ok (.getfield 26, 3) := by decide +kernel
theorem jd_C_recover_30 : decode jc_C_recover 30 = .ok (.aload_n 1, 1) := by decide +kernel
theorem jd_C_recover_31 : decode jc_C_recover 31 = .ok (.getfield 213, 3) := by decide +kernel
theorem jd_C_recover_34 : decode jc_C_recover 34 = .ok (.invokevirtual 227, 3) := by decide +kernel
theorem jd_C_recover_37 : decode jc_C_recover 37 = .ok (.invokevirtual 220, 3) := by decide +kernel
theorem jd_C_recover_40 : decode jc_C_recover 40 = .ok (.return_, 1) := by decide +kernel
theorem jd_D_presentedFor_0 : decode jc_D_presentedFor 0 = .ok (.iload_n 1, 1) := by decide +kernel
theorem jd_D_presentedFor_1 : decode jc_D_presentedFor 1 = .ok (.aload_n 0, 1) := by decide +kernel
theorem jd_D_presentedFor_2 : decode jc_D_presentedFor 2 = .ok (.getfield 31, 3) := by decide +kernel
theorem jd_D_presentedFor_5 : decode jc_D_presentedFor 5 = .ok (.if_icmp .ne 10, 3) := by decide +kernel
theorem jd_D_presentedFor_8 : decode jc_D_presentedFor 8 = .ok (.aload_n 0, 1) := by decide +kernel
theorem jd_D_presentedFor_9 : decode jc_D_presentedFor 9 = .ok (.getfield 34, 3) := by decide +kernel
theorem jd_D_presentedFor_12 : decode jc_D_presentedFor 12 = .ok (.goto 4, 3) := by decide +kernel
theorem jd_D_presentedFor_15 : decode jc_D_presentedFor 15 = .ok (.iconst 0, 1) := by decide +kernel
theorem jd_D_presentedFor_16 : decode jc_D_presentedFor 16 = .ok (.ireturn, 1) := by decide +kernel
theorem jd_L_settle_0 : decode jc_L_settle 0 = .ok (.aload_n 1, 1) := by decide +kernel
theorem jd_L_settle_1 : decode jc_L_settle 1 = .ok (.iconst 0, 1) := by decide +kernel
theorem jd_L_settle_2 : decode jc_L_settle 2 = .ok (.aload_n 0, 1) := by decide +kernel
theorem jd_L_settle_3 : decode jc_L_settle 3 = .ok (.invokevirtual 56, 3) := by decide +kernel
theorem jd_L_settle_6 : decode jc_L_settle 6 = .ok (.i2l, 1) := by decide +kernel
theorem jd_L_settle_7 : decode jc_L_settle 7 = .ok (.lastore, 1) := by decide +kernel
theorem jd_L_settle_8 : decode jc_L_settle 8 = .ok (.goto 6, 3) := by decide +kernel
theorem jd_L_settle_11 : decode jc_L_settle 11 = .ok (.astore_n 2, 1) := by decide +kernel
theorem jd_L_settle_12 : decode jc_L_settle 12 = .ok (.iconst 1, 1) := by decide +kernel
theorem jd_L_settle_13 : decode jc_L_settle 13 = .ok (.ireturn, 1) := by decide +kernel
theorem jd_L_settle_14 : decode jc_L_settle 14 = .ok (.iconst 0, 1) := by decide +kernel
theorem jd_L_settle_15 : decode jc_L_settle 15 = .ok (.ireturn, 1) := by decide +kernel
theorem jd_C_settle_0 : decode jc_C_settle 0 = .ok (.aload_n 0, 1) := by decide +kernel
theorem jd_C_settle_1 : decode jc_C_settle 1 = .ok (.getfield 44, 3) := by decide +kernel
theorem jd_C_settle_4 : decode jc_C_settle 4 = .ok (.ifCond .ne 11, 3) := by decide +kernel
theorem jd_C_settle_7 : decode jc_C_settle 7 = .ok (.new 70, 3) := by decide +kernel
theorem jd_C_settle_10 : decode jc_C_settle 10 = .ok (.dup, 1) := by decide +kernel
theorem jd_C_settle_11 : decode jc_C_settle 11 = .ok (.invokespecial 72, 3) := by decide +kernel
theorem jd_C_settle_14 : decode jc_C_settle 14 = .ok (.athrow, 1) := by decide +kernel
theorem jd_C_settle_15 : decode jc_C_settle 15 = .ok (.iconst 0, 1) := by decide +kernel
theorem jd_C_settle_16 : decode jc_C_settle 16 = .ok (.istore_n 1, 1) := by decide +kernel
theorem jd_C_settle_17 : decode jc_C_settle 17 = .ok (.iload_n 1, 1) := by decide +kernel
theorem jd_C_settle_18 : decode jc_C_settle 18 = .ok (.aload_n 0, 1) := by decide +kernel
theorem jd_C_settle_19 : decode jc_C_settle 19 = .ok (.getfield 40, 3) := by decide +kernel
theorem jd_C_settle_22 : decode jc_C_settle 22 = .ok (.getfield 152, 3) := by decide +kernel
theorem jd_C_settle_25 : decode jc_C_settle 25 = .ok (.if_icmp .ge 17, 3) := by decide +kernel
theorem jd_C_settle_28 : decode jc_C_settle 28 = .ok (.aload_n 0, 1) := by decide +kernel
theorem jd_C_settle_29 : decode jc_C_settle 29 = .ok (.iload_n 1, 1) := by decide +kernel
theorem jd_C_settle_30 : decode jc_C_settle 30 = .ok (.invokevirtual 153, 3) := by decide +kernel
theorem jd_C_settle_33 : decode jc_C_settle 33 = .ok (.ifCond .eq 9, 3) := by decide +kernel
theorem jd_C_settle_36 : decode jc_C_settle 36 = .ok (.iinc 1 1, 3) := by decide +kernel
theorem jd_C_settle_39 : decode jc_C_settle 39 = .ok (.goto (-22), 3) := by decide +kernel
theorem jd_C_settle_42 : decode jc_C_settle 42 = .ok (.aload_n 0, 1) := by decide +kernel
theorem jd_C_settle_43 : decode jc_C_settle 43 = .ok (.getfield 40, 3) := by decide +kernel
theorem jd_C_settle_46 : decode jc_C_settle 46 = .ok (.iload_n 1, 1) := by decide +kernel
theorem jd_C_settle_47 : decode jc_C_settle 47 = .ok (.invokevirtual 156, 3) := by decide +kernel
theorem jd_C_settle_50 : decode jc_C_settle 50 = .ok (.iload_n 1, 1) := by decide +kernel
theorem jd_C_settle_51 : decode jc_C_settle 51 = .ok (.ireturn, 1) := by decide +kernel
theorem jd_C_exchangeReversal_0 : decode jc_C_exchangeReversal 0 = .ok (.aload_n 0, 1) := by decide +kernel
theorem jd_C_exchangeReversal_1 : decode jc_C_exchangeReversal 1 = .ok (.getfield 19, 3) := by decide +kernel
theorem jd_C_exchangeReversal_4 : decode jc_C_exchangeReversal 4 = .ok (.invokevirtual 230, 3) := by decide +kernel
theorem jd_C_exchangeReversal_7 : decode jc_C_exchangeReversal 7 = .ok (.istore_n 2, 1) := by decide +kernel
theorem jd_C_exchangeReversal_8 : decode jc_C_exchangeReversal 8 = .ok (.iload_n 2, 1) := by decide +kernel
theorem jd_C_exchangeReversal_9 : decode jc_C_exchangeReversal 9 = .ok (.iconst 1, 1) := by decide +kernel
theorem jd_C_exchangeReversal_10 : decode jc_C_exchangeReversal 10 = .ok (.if_icmp .ne 5, 3) := by decide +kernel
theorem jd_C_exchangeReversal_13 : decode jc_C_exchangeReversal 13 = .ok (.iconst 0, 1) := by decide +kernel
theorem jd_C_exchangeReversal_14 : decode jc_C_exchangeReversal 14 = .ok (.ireturn, 1) := by decide +kernel
theorem jd_C_exchangeReversal_15 : decode jc_C_exchangeReversal 15 = .ok (.aload_n 0, 1) := by decide +kernel
theorem jd_C_exchangeReversal_16 : decode jc_C_exchangeReversal 16 = .ok (.getfield 10, 3) := by decide +kernel
theorem jd_C_exchangeReversal_19 : decode jc_C_exchangeReversal 19 = .ok (.aload_n 0, 1) := by decide +kernel
theorem jd_C_exchangeReversal_20 : decode jc_C_exchangeReversal 20 = .ok (.getfield 40, 3) := by decide +kernel
theorem jd_C_exchangeReversal_23 : decode jc_C_exchangeReversal 23 = .ok (.getfield 236, 3) := by decide +kernel
theorem jd_C_exchangeReversal_26 : decode jc_C_exchangeReversal 26 = .ok (.iload_n 1, 1) := by decide +kernel
theorem jd_C_exchangeReversal_27 : decode jc_C_exchangeReversal 27 = .ok (.iaload, 1) := by decide +kernel
theorem jd_C_exchangeReversal_28 : decode jc_C_exchangeReversal 28 = .ok (.aload_n 0, 1) := by decide +kernel
theorem jd_C_exchangeReversal_29 : decode jc_C_exchangeReversal 29 = .ok (.getfield 40, 3) := by decide +kernel
theorem jd_C_exchangeReversal_32 : decode jc_C_exchangeReversal 32 = .ok (.getfield 180, 3) := by decide +kernel
theorem jd_C_exchangeReversal_35 : decode jc_C_exchangeReversal 35 = .ok (.iload_n 1, 1) := by decide +kernel
theorem jd_C_exchangeReversal_36 : decode jc_C_exchangeReversal 36 = .ok (.iaload, 1) := by decide +kernel
theorem jd_C_exchangeReversal_37 : decode jc_C_exchangeReversal 37 = .ok (.invokevirtual 239, 3) := by decide +kernel
theorem jd_C_exchangeReversal_40 : decode jc_C_exchangeReversal 40 = .ok (.iload_n 2, 1) := by decide +kernel
theorem jd_C_exchangeReversal_41 : decode jc_C_exchangeReversal 41 = .ok (.iconst 3, 1) := by decide +kernel
theorem jd_C_exchangeReversal_42 : decode jc_C_exchangeReversal 42 = .ok (.if_icmp .ne 28, 3) := by decide +kernel
theorem jd_C_exchangeReversal_45 : decode jc_C_exchangeReversal 45 = .ok (.aload_n 0, 1) := by decide +kernel
theorem jd_C_exchangeReversal_46 : decode jc_C_exchangeReversal 46 = .ok (.getfield 10, 3) := by decide +kernel
theorem jd_C_exchangeReversal_49 : decode jc_C_exchangeReversal 49 = .ok (.aload_n 0, 1) := by decide +kernel
theorem jd_C_exchangeReversal_50 : decode jc_C_exchangeReversal 50 = .ok (.getfield 40, 3) := by decide +kernel
theorem jd_C_exchangeReversal_53 : decode jc_C_exchangeReversal 53 = .ok (.getfield 236, 3) := by decide +kernel
theorem jd_C_exchangeReversal_56 : decode jc_C_exchangeReversal 56 = .ok (.iload_n 1, 1) := by decide +kernel
theorem jd_C_exchangeReversal_57 : decode jc_C_exchangeReversal 57 = .ok (.iaload, 1) := by decide +kernel
theorem jd_C_exchangeReversal_58 : decode jc_C_exchangeReversal 58 = .ok (.aload_n 0, 1) := by decide +kernel
theorem jd_C_exchangeReversal_59 : decode jc_C_exchangeReversal 59 = .ok (.getfield 40, 3) := by decide +kernel
theorem jd_C_exchangeReversal_62 : decode jc_C_exchangeReversal 62 = .ok (.getfield 180, 3) := by decide +kernel
theorem jd_C_exchangeReversal_65 : decode jc_C_exchangeReversal 65 = .ok (.iload_n 1, 1) := by decide +kernel
theorem jd_C_exchangeReversal_66 : decode jc_C_exchangeReversal 66 = .ok (.iaload, 1) := by decide +kernel
theorem jd_C_exchangeReversal_67 : decode jc_C_exchangeReversal 67 = .ok (.invokevirtual 239, 3) := by decide +kernel
theorem jd_C_exchangeReversal_70 : decode jc_C_exchangeReversal 70 = .ok (.iload_n 2, 1) := by decide +kernel
theorem jd_C_exchangeReversal_71 : decode jc_C_exchangeReversal 71 = .ok (.iconst 2, 1) := by decide +kernel
theorem jd_C_exchangeReversal_72 : decode jc_C_exchangeReversal 72 = .ok (.if_icmp .eq 7, 3) := by decide +kernel
theorem jd_C_exchangeReversal_75 : decode jc_C_exchangeReversal 75 = .ok (.iconst 1, 1) := by decide +kernel
theorem jd_C_exchangeReversal_76 : decode jc_C_exchangeReversal 76 = .ok (.goto 4, 3) := by decide +kernel
theorem jd_C_exchangeReversal_79 : decode jc_C_exchangeReversal 79 = .ok (.iconst 0, 1) := by decide +kernel
theorem jd_C_exchangeReversal_80 : decode jc_C_exchangeReversal 80 = .ok (.ireturn, 1) := by decide +kernel
theorem jd_H_receiveReversal_0 : decode jc_H_receiveReversal 0 = .ok (.aload_n 0, 1) := by decide +kernel
theorem jd_H_receiveReversal_1 : decode jc_H_receiveReversal 1 = .ok (.getfield 24, 3) := by decide +kernel
theorem jd_H_receiveReversal_4 : decode jc_H_receiveReversal 4 = .ok (.iload_n 1, 1) := by decide +kernel
theorem jd_H_receiveReversal_5 : decode jc_H_receiveReversal 5 = .ok (.baload, 1) := by decide +kernel
theorem jd_H_receiveReversal_6 : decode jc_H_receiveReversal 6 = .ok (.ifCond .ne 33, 3) := by decide +kernel
theorem jd_H_receiveReversal_9 : decode jc_H_receiveReversal 9 = .ok (.aload_n 0, 1) := by decide +kernel
theorem jd_H_receiveReversal_10 : decode jc_H_receiveReversal 10 = .ok (.getfield 17, 3) := by decide +kernel
theorem jd_H_receiveReversal_13 : decode jc_H_receiveReversal 13 = .ok (.iload_n 1, 1) := by decide +kernel
theorem jd_H_receiveReversal_14 : decode jc_H_receiveReversal 14 = .ok (.iaload, 1) := by decide +kernel
theorem jd_H_receiveReversal_15 : decode jc_H_receiveReversal 15 = .ok (.iconst 2, 1) := by decide +kernel
theorem jd_H_receiveReversal_16 : decode jc_H_receiveReversal 16 = .ok (.if_icmp .ne 23, 3) := by decide +kernel
theorem jd_H_receiveReversal_19 : decode jc_H_receiveReversal 19 = .ok (.aload_n 0, 1) := by decide +kernel
theorem jd_H_receiveReversal_20 : decode jc_H_receiveReversal 20 = .ok (.getfield 11, 3) := by decide +kernel
theorem jd_H_receiveReversal_23 : decode jc_H_receiveReversal 23 = .ok (.aload_n 0, 1) := by decide +kernel
theorem jd_H_receiveReversal_24 : decode jc_H_receiveReversal 24 = .ok (.getfield 21, 3) := by decide +kernel
theorem jd_H_receiveReversal_27 : decode jc_H_receiveReversal 27 = .ok (.iload_n 1, 1) := by decide +kernel
theorem jd_H_receiveReversal_28 : decode jc_H_receiveReversal 28 = .ok (.iaload, 1) := by decide +kernel
theorem jd_H_receiveReversal_29 : decode jc_H_receiveReversal 29 = .ok (.aaload, 1) := by decide +kernel
theorem jd_H_receiveReversal_30 : decode jc_H_receiveReversal 30 = .ok (.dup, 1) := by decide +kernel
theorem jd_H_receiveReversal_31 : decode jc_H_receiveReversal 31 = .ok (.getfield 44, 3) := by decide +kernel
theorem jd_H_receiveReversal_34 : decode jc_H_receiveReversal 34 = .ok (.iload_n 2, 1) := by decide +kernel
theorem jd_H_receiveReversal_35 : decode jc_H_receiveReversal 35 = .ok (.iadd, 1) := by decide +kernel
theorem jd_H_receiveReversal_36 : decode jc_H_receiveReversal 36 = .ok (.putfield 44, 3) := by decide +kernel
theorem jd_H_receiveReversal_39 : decode jc_H_receiveReversal 39 = .ok (.aload_n 0, 1) := by decide +kernel
theorem jd_H_receiveReversal_40 : decode jc_H_receiveReversal 40 = .ok (.getfield 24, 3) := by decide +kernel
theorem jd_H_receiveReversal_43 : decode jc_H_receiveReversal 43 = .ok (.iload_n 1, 1) := by decide +kernel
theorem jd_H_receiveReversal_44 : decode jc_H_receiveReversal 44 = .ok (.iconst 1, 1) := by decide +kernel
theorem jd_H_receiveReversal_45 : decode jc_H_receiveReversal 45 = .ok (.bastore, 1) := by decide +kernel
theorem jd_H_receiveReversal_46 : decode jc_H_receiveReversal 46 = .ok (.return_, 1) := by decide +kernel
theorem jd_R_dropFirst_0 : decode jc_R_dropFirst 0 = .ok (.aload_n 0, 1) := by decide +kernel
theorem jd_R_dropFirst_1 : decode jc_R_dropFirst 1 = .ok (.dup, 1) := by decide +kernel
theorem jd_R_dropFirst_2 : decode jc_R_dropFirst 2 = .ok (.getfield 18, 3) := by decide +kernel
theorem jd_R_dropFirst_5 : decode jc_R_dropFirst 5 = .ok (.iload_n 1, 1) := by decide +kernel
theorem jd_R_dropFirst_6 : decode jc_R_dropFirst 6 = .ok (.isub, 1) := by decide +kernel
theorem jd_R_dropFirst_7 : decode jc_R_dropFirst 7 = .ok (.putfield 18, 3) := by decide +kernel
theorem jd_R_dropFirst_10 : decode jc_R_dropFirst 10 = .ok (.aload_n 0, 1) := by decide +kernel
theorem jd_R_dropFirst_11 : decode jc_R_dropFirst 11 = .ok (.getfield 9, 3) := by decide +kernel
theorem jd_R_dropFirst_14 : decode jc_R_dropFirst 14 = .ok (.iload_n 1, 1) := by decide +kernel
theorem jd_R_dropFirst_15 : decode jc_R_dropFirst 15 = .ok (.aload_n 0, 1) := by decide +kernel
theorem jd_R_dropFirst_16 : decode jc_R_dropFirst 16 = .ok (.getfield 9, 3) := by decide +kernel
theorem jd_R_dropFirst_19 : decode jc_R_dropFirst 19 = .ok (.iconst 0, 1) := by decide +kernel
theorem jd_R_dropFirst_20 : decode jc_R_dropFirst 20 = .ok (.aload_n 0, 1) := by decide +kernel
theorem jd_R_dropFirst_21 : decode jc_R_dropFirst 21 = .ok (.getfield 18, 3) := by decide +kernel
theorem jd_R_dropFirst_24 : decode jc_R_dropFirst 24 = .ok (.invokestatic 22, 3) := by decide +kernel
theorem jd_R_dropFirst_27 : decode jc_R_dropFirst 27 = .ok (.aload_n 0, 1) := by decide +kernel
theorem jd_R_dropFirst_28 : decode jc_R_dropFirst 28 = .ok (.getfield 15, 3) := by decide +kernel
theorem jd_R_dropFirst_31 : decode jc_R_dropFirst 31 = .ok (.iload_n 1, 1) := by decide +kernel
theorem jd_R_dropFirst_32 : decode jc_R_dropFirst 32 = .ok (.aload_n 0, 1) := by decide +kernel
theorem jd_R_dropFirst_33 : decode jc_R_dropFirst 33 = .ok (.getfield 15, 3) := by decide +kernel
theorem jd_R_dropFirst_36 : decode jc_R_dropFirst 36 = .ok (.iconst 0, 1) := by decide +kernel
theorem jd_R_dropFirst_37 : decode jc_R_dropFirst 37 = .ok (.aload_n 0, 1) := by decide +kernel
theorem jd_R_dropFirst_38 : decode jc_R_dropFirst 38 = .ok (.getfield 18, 3) := by decide +kernel
theorem jd_R_dropFirst_41 : decode jc_R_dropFirst 41 = .ok (.invokestatic 22, 3) := by decide +kernel
theorem jd_R_dropFirst_44 : decode jc_R_dropFirst 44 = .ok (.return_, 1) := by decide +kernel
theorem jd_L_balance_0 : decode jc_L_balance 0 = .ok (.aload_n 2, 1) := by decide +kernel
theorem jd_L_balance_1 : decode jc_L_balance 1 = .ok (.iconst 0, 1) := by decide +kernel
theorem jd_L_balance_2 : decode jc_L_balance 2 = .ok (.aload_n 0, 1) := by decide +kernel
theorem jd_L_balance_3 : decode jc_L_balance 3 = .ok (.iload_n 1, 1) := by decide +kernel
theorem jd_L_balance_4 : decode jc_L_balance 4 = .ok (.invokevirtual 59, 3) := by decide +kernel
theorem jd_L_balance_7 : decode jc_L_balance 7 = .ok (.i2l, 1) := by decide +kernel
theorem jd_L_balance_8 : decode jc_L_balance 8 = .ok (.lastore, 1) := by decide +kernel
theorem jd_L_balance_9 : decode jc_L_balance 9 = .ok (.goto 6, 3) := by decide +kernel
theorem jd_L_balance_12 : decode jc_L_balance 12 = .ok (.astore_n 3, 1) := by decide +kernel
theorem jd_L_balance_13 : decode jc_L_balance 13 = .ok (.iconst 1, 1) := by decide +kernel
theorem jd_L_balance_14 : decode jc_L_balance 14 = .ok (.ireturn, 1) := by decide +kernel
theorem jd_L_balance_15 : decode jc_L_balance 15 = .ok (.iconst 0, 1) := by decide +kernel
theorem jd_L_balance_16 : decode jc_L_balance 16 = .ok (.ireturn, 1) := by decide +kernel
theorem jd_C_balance_0 : decode jc_C_balance 0 = .ok (.aload_n 0, 1) := by decide +kernel
theorem jd_C_balance_1 : decode jc_C_balance 1 = .ok (.getfield 10, 3) := by decide +kernel
theorem jd_C_balance_4 : decode jc_C_balance 4 = .ok (.iload_n 1, 1) := by decide +kernel
theorem jd_C_balance_5 : decode jc_C_balance 5 = .ok (.invokevirtual 66, 3) := by decide +kernel
theorem jd_C_balance_8 : decode jc_C_balance 8 = .ok (.ifCond .ne 11, 3) := by decide +kernel
theorem jd_C_balance_11 : decode jc_C_balance 11 = .ok (.new 85, 3) := by decide +kernel
theorem jd_C_balance_14 : decode jc_C_balance 14 = .ok (.dup, 1) := by decide +kernel
theorem jd_C_balance_15 : decode jc_C_balance 15 = .ok (.invokespecial 87, 3) := by decide +kernel
theorem jd_C_balance_18 : decode jc_C_balance 18 = .ok (.athrow, 1) := by decide +kernel
theorem jd_C_balance_19 : decode jc_C_balance 19 = .ok (.aload_n 0, 1) := by decide +kernel
theorem jd_C_balance_20 : decode jc_C_balance 20 = .ok (.getfield 10, 3) := by decide +kernel
theorem jd_C_balance_23 : decode jc_C_balance 23 = .ok (.getfield 88, 3) := by decide +kernel
theorem jd_C_balance_26 : decode jc_C_balance 26 = .ok (.iload_n 1, 1) := by decide +kernel
theorem jd_C_balance_27 : decode jc_C_balance 27 = .ok (.aaload, 1) := by decide +kernel
theorem jd_C_balance_28 : decode jc_C_balance 28 = .ok (.getfield 159, 3) := by decide +kernel
theorem jd_C_balance_31 : decode jc_C_balance 31 = .ok (.ireturn, 1) := by decide +kernel
theorem jd_L_trace_0 : decode jc_L_trace 0 = .ok (.aload_n 3, 1) := by decide +kernel
theorem jd_L_trace_1 : decode jc_L_trace 1 = .ok (.iconst 0, 1) := by decide +kernel
theorem jd_L_trace_2 : decode jc_L_trace 2 = .ok (.aload_n 0, 1) := by decide +kernel
theorem jd_L_trace_3 : decode jc_L_trace 3 = .ok (.iload_n 1, 1) := by decide +kernel
theorem jd_L_trace_4 : decode jc_L_trace 4 = .ok (.iload_n 2, 1) := by decide +kernel
theorem jd_L_trace_5 : decode jc_L_trace 5 = .ok (.invokevirtual 62, 3) := by decide +kernel
theorem jd_L_trace_8 : decode jc_L_trace 8 = .ok (.i2l, 1) := by decide +kernel
theorem jd_L_trace_9 : decode jc_L_trace 9 = .ok (.lastore, 1) := by decide +kernel
theorem jd_L_trace_10 : decode jc_L_trace 10 = .ok (.goto 11, 3) := by decide +kernel
theorem jd_L_trace_13 : decode jc_L_trace 13 = .ok (.astore 4, 2) := by decide +kernel
theorem jd_L_trace_15 : decode jc_L_trace 15 = .ok (.iconst 1, 1) := by decide +kernel
theorem jd_L_trace_16 : decode jc_L_trace 16 = .ok (.ireturn, 1) := by decide +kernel
theorem jd_L_trace_17 : decode jc_L_trace 17 = .ok (.astore 4, 2) := by decide +kernel
theorem jd_L_trace_19 : decode jc_L_trace 19 = .ok (.iconst 2, 1) := by decide +kernel
theorem jd_L_trace_20 : decode jc_L_trace 20 = .ok (.ireturn, 1) := by decide +kernel
theorem jd_L_trace_21 : decode jc_L_trace 21 = .ok (.iconst 0, 1) := by decide +kernel
theorem jd_L_trace_22 : decode jc_L_trace 22 = .ok (.ireturn, 1) := by decide +kernel
theorem jd_C_trace_0 : decode jc_C_trace 0 = .ok (.iload_n 1, 1) := by decide +kernel
theorem jd_C_trace_1 : decode jc_C_trace 1 = .ok (.iconst 1, 1) := by decide +kernel
theorem jd_C_trace_2 : decode jc_C_trace 2 = .ok (.aload_n 0, 1) := by decide +kernel
theorem jd_C_trace_3 : decode jc_C_trace 3 = .ok (.getfield 33, 3) := by decide +kernel
theorem jd_C_trace_6 : decode jc_C_trace 6 = .ok (.getfield 112, 3) := by decide +kernel
theorem jd_C_trace_9 : decode jc_C_trace 9 = .ok (.invokestatic 58, 3) := by decide +kernel
theorem jd_C_trace_12 : decode jc_C_trace 12 = .ok (.ifCond .ne 11, 3) := by decide +kernel
theorem jd_C_trace_15 : decode jc_C_trace 15 = .ok (.new 85, 3) := by decide +kernel
theorem jd_C_trace_18 : decode jc_C_trace 18 = .ok (.dup, 1) := by decide +kernel
theorem jd_C_trace_19 : decode jc_C_trace 19 = .ok (.invokespecial 87, 3) := by decide +kernel
theorem jd_C_trace_22 : decode jc_C_trace 22 = .ok (.athrow, 1) := by decide +kernel
theorem jd_C_trace_23 : decode jc_C_trace 23 = .ok (.aload_n 0, 1) := by decide +kernel
theorem jd_C_trace_24 : decode jc_C_trace 24 = .ok (.getfield 33, 3) := by decide +kernel
theorem jd_C_trace_27 : decode jc_C_trace 27 = .ok (.getfield 162, 3) := by decide +kernel
theorem jd_C_trace_30 : decode jc_C_trace 30 = .ok (.iload_n 1, 1) := by decide +kernel
theorem jd_C_trace_31 : decode jc_C_trace 31 = .ok (.iconst 1, 1) := by decide +kernel
theorem jd_C_trace_32 : decode jc_C_trace 32 = .ok (.isub, 1) := by decide +kernel
theorem jd_C_trace_33 : decode jc_C_trace 33 = .ok (.aaload, 1) := by decide +kernel
theorem jd_C_trace_34 : decode jc_C_trace 34 = .ok (.astore_n 3, 1) := by decide +kernel
theorem jd_C_trace_35 : decode jc_C_trace 35 = .ok (.iload_n 2, 1) := by decide +kernel
theorem jd_C_trace_36 : decode jc_C_trace 36 = .ok (.tableswitch 52 0 3 #[32, 37, 42, 47], 32) := by decide +kernel
theorem jd_C_trace_68 : decode jc_C_trace 68 = .ok (.aload_n 3, 1) := by decide +kernel
theorem jd_C_trace_69 : decode jc_C_trace 69 = .ok (.getfield 166, 3) := by decide +kernel
theorem jd_C_trace_72 : decode jc_C_trace 72 = .ok (.ireturn, 1) := by decide +kernel
theorem jd_C_trace_73 : decode jc_C_trace 73 = .ok (.aload_n 3, 1) := by decide +kernel
theorem jd_C_trace_74 : decode jc_C_trace 74 = .ok (.getfield 171, 3) := by decide +kernel
theorem jd_C_trace_77 : decode jc_C_trace 77 = .ok (.ireturn, 1) := by decide +kernel
theorem jd_C_trace_78 : decode jc_C_trace 78 = .ok (.aload_n 3, 1) := by decide +kernel
theorem jd_C_trace_79 : decode jc_C_trace 79 = .ok (.getfield 174, 3) := by decide +kernel
theorem jd_C_trace_82 : decode jc_C_trace 82 = .ok (.ireturn, 1) := by decide +kernel
theorem jd_C_trace_83 : decode jc_C_trace 83 = .ok (.aload_n 3, 1) := by decide +kernel
theorem jd_C_trace_84 : decode jc_C_trace 84 = .ok (.getfield 177, 3) := by decide +kernel
theorem jd_C_trace_87 : decode jc_C_trace 87 = .ok (.ireturn, 1) := by decide +kernel
theorem jd_C_trace_88 : decode jc_C_trace 88 = .ok (.new 63, 3) := by decide +kernel
theorem jd_C_trace_91 : decode jc_C_trace 91 = .ok (.dup, 1) := by decide +kernel
theorem jd_C_trace_92 : decode jc_C_trace 92 = .ok (.invokespecial 65, 3) := by decide +kernel
theorem jd_C_trace_95 : decode jc_C_trace 95 = .ok (.athrow, 1) := by decide +kernel
theorem jd_L_reversal_0 : decode jc_L_reversal 0 = .ok (.aload_n 2, 1) := by decide +kernel
theorem jd_L_reversal_1 : decode jc_L_reversal 1 = .ok (.iconst 0, 1) := by decide +kernel
theorem jd_L_reversal_2 : decode jc_L_reversal 2 = .ok (.aload_n 0, 1) := by decide +kernel
theorem jd_L_reversal_3 : decode jc_L_reversal 3 = .ok (.iload_n 1, 1) := by decide +kernel
theorem jd_L_reversal_4 : decode jc_L_reversal 4 = .ok (.invokevirtual 65, 3) := by decide +kernel
theorem jd_L_reversal_7 : decode jc_L_reversal 7 = .ok (.i2l, 1) := by decide +kernel
theorem jd_L_reversal_8 : decode jc_L_reversal 8 = .ok (.lastore, 1) := by decide +kernel
theorem jd_L_reversal_9 : decode jc_L_reversal 9 = .ok (.goto 6, 3) := by decide +kernel
theorem jd_L_reversal_12 : decode jc_L_reversal 12 = .ok (.astore_n 3, 1) := by decide +kernel
theorem jd_L_reversal_13 : decode jc_L_reversal 13 = .ok (.iconst 1, 1) := by decide +kernel
theorem jd_L_reversal_14 : decode jc_L_reversal 14 = .ok (.ireturn, 1) := by decide +kernel
theorem jd_L_reversal_15 : decode jc_L_reversal 15 = .ok (.iconst 0, 1) := by decide +kernel
theorem jd_L_reversal_16 : decode jc_L_reversal 16 = .ok (.ireturn, 1) := by decide +kernel
theorem jd_C_reversal_0 : decode jc_C_reversal 0 = .ok (.iload_n 1, 1) := by decide +kernel
theorem jd_C_reversal_1 : decode jc_C_reversal 1 = .ok (.iconst 0, 1) := by decide +kernel
theorem jd_C_reversal_2 : decode jc_C_reversal 2 = .ok (.aload_n 0, 1) := by decide +kernel
theorem jd_C_reversal_3 : decode jc_C_reversal 3 = .ok (.getfield 40, 3) := by decide +kernel
theorem jd_C_reversal_6 : decode jc_C_reversal 6 = .ok (.getfield 152, 3) := by decide +kernel
theorem jd_C_reversal_9 : decode jc_C_reversal 9 = .ok (.iconst 1, 1) := by decide +kernel
theorem jd_C_reversal_10 : decode jc_C_reversal 10 = .ok (.isub, 1) := by decide +kernel
theorem jd_C_reversal_11 : decode jc_C_reversal 11 = .ok (.invokestatic 58, 3) := by decide +kernel
theorem jd_C_reversal_14 : decode jc_C_reversal 14 = .ok (.ifCond .ne 11, 3) := by decide +kernel
theorem jd_C_reversal_17 : decode jc_C_reversal 17 = .ok (.new 85, 3) := by decide +kernel
theorem jd_C_reversal_20 : decode jc_C_reversal 20 = .ok (.dup, 1) := by decide +kernel
theorem jd_C_reversal_21 : decode jc_C_reversal 21 = .ok (.invokespecial 87, 3) := by decide +kernel
theorem jd_C_reversal_24 : decode jc_C_reversal 24 = .ok (.athrow, 1) := by decide +kernel
theorem jd_C_reversal_25 : decode jc_C_reversal 25 = .ok (.aload_n 0, 1) := by decide +kernel
theorem jd_C_reversal_26 : decode jc_C_reversal 26 = .ok (.getfield 40, 3) := by decide +kernel
theorem jd_C_reversal_29 : decode jc_C_reversal 29 = .ok (.getfield 180, 3) := by decide +kernel
theorem jd_C_reversal_32 : decode jc_C_reversal 32 = .ok (.iload_n 1, 1) := by decide +kernel
theorem jd_C_reversal_33 : decode jc_C_reversal 33 = .ok (.iaload, 1) := by decide +kernel
theorem jd_C_reversal_34 : decode jc_C_reversal 34 = .ok (.ireturn, 1) := by decide +kernel
theorem jd_L_notes_0 : decode jc_L_notes 0 = .ok (.aload_n 2, 1) := by decide +kernel
theorem jd_L_notes_1 : decode jc_L_notes 1 = .ok (.iconst 0, 1) := by decide +kernel
theorem jd_L_notes_2 : decode jc_L_notes 2 = .ok (.aload_n 0, 1) := by decide +kernel
theorem jd_L_notes_3 : decode jc_L_notes 3 = .ok (.iload_n 1, 1) := by decide +kernel
theorem jd_L_notes_4 : decode jc_L_notes 4 = .ok (.invokevirtual 68, 3) := by decide +kernel
theorem jd_L_notes_7 : decode jc_L_notes 7 = .ok (.i2l, 1) := by decide +kernel
theorem jd_L_notes_8 : decode jc_L_notes 8 = .ok (.lastore, 1) := by decide +kernel
theorem jd_L_notes_9 : decode jc_L_notes 9 = .ok (.goto 6, 3) := by decide +kernel
theorem jd_L_notes_12 : decode jc_L_notes 12 = .ok (.astore_n 3, 1) := by decide +kernel
theorem jd_L_notes_13 : decode jc_L_notes 13 = .ok (.iconst 1, 1) := by decide +kernel
theorem jd_L_notes_14 : decode jc_L_notes 14 = .ok (.ireturn, 1) := by decide +kernel
theorem jd_L_notes_15 : decode jc_L_notes 15 = .ok (.iconst 0, 1) := by decide +kernel
theorem jd_L_notes_16 : decode jc_L_notes 16 = .ok (.ireturn, 1) := by decide +kernel
theorem jd_C_notes_0 : decode jc_C_notes 0 = .ok (.iload_n 1, 1) := by decide +kernel
theorem jd_C_notes_1 : decode jc_C_notes 1 = .ok (.iconst 0, 1) := by decide +kernel
theorem jd_C_notes_2 : decode jc_C_notes 2 = .ok (.iconst 3, 1) := by decide +kernel
theorem jd_C_notes_3 : decode jc_C_notes 3 = .ok (.invokestatic 58, 3) := by decide +kernel
theorem jd_C_notes_6 : decode jc_C_notes 6 = .ok (.ifCond .ne 11, 3) := by decide +kernel
theorem jd_C_notes_9 : decode jc_C_notes 9 = .ok (.new 63, 3) := by decide +kernel
theorem jd_C_notes_12 : decode jc_C_notes 12 = .ok (.dup, 1) := by decide +kernel
theorem jd_C_notes_13 : decode jc_C_notes 13 = .ok (.invokespecial 65, 3) := by decide +kernel
theorem jd_C_notes_16 : decode jc_C_notes 16 = .ok (.athrow, 1) := by decide +kernel
theorem jd_C_notes_17 : decode jc_C_notes 17 = .ok (.aload_n 0, 1) := by decide +kernel
theorem jd_C_notes_18 : decode jc_C_notes 18 = .ok (.getfield 26, 3) := by decide +kernel
theorem jd_C_notes_21 : decode jc_C_notes 21 = .ok (.getfield 183, 3) := by decide +kernel
theorem jd_C_notes_24 : decode jc_C_notes 24 = .ok (.iload_n 1, 1) := by decide +kernel
theorem jd_C_notes_25 : decode jc_C_notes 25 = .ok (.aaload, 1) := by decide +kernel
theorem jd_C_notes_26 : decode jc_C_notes 26 = .ok (.getfield 187, 3) := by decide +kernel
theorem jd_C_notes_29 : decode jc_C_notes 29 = .ok (.ireturn, 1) := by decide +kernel
theorem jd_L_count_0 : decode jc_L_count 0 = .ok (.aload_n 2, 1) := by decide +kernel
theorem jd_L_count_1 : decode jc_L_count 1 = .ok (.iconst 0, 1) := by decide +kernel
theorem jd_L_count_2 : decode jc_L_count 2 = .ok (.aload_n 0, 1) := by decide +kernel
theorem jd_L_count_3 : decode jc_L_count 3 = .ok (.iload_n 1, 1) := by decide +kernel
theorem jd_L_count_4 : decode jc_L_count 4 = .ok (.invokevirtual 71, 3) := by decide +kernel
theorem jd_L_count_7 : decode jc_L_count 7 = .ok (.i2l, 1) := by decide +kernel
theorem jd_L_count_8 : decode jc_L_count 8 = .ok (.lastore, 1) := by decide +kernel
theorem jd_L_count_9 : decode jc_L_count 9 = .ok (.goto 6, 3) := by decide +kernel
theorem jd_L_count_12 : decode jc_L_count 12 = .ok (.astore_n 3, 1) := by decide +kernel
theorem jd_L_count_13 : decode jc_L_count 13 = .ok (.iconst 1, 1) := by decide +kernel
theorem jd_L_count_14 : decode jc_L_count 14 = .ok (.ireturn, 1) := by decide +kernel
theorem jd_L_count_15 : decode jc_L_count 15 = .ok (.iconst 0, 1) := by decide +kernel
theorem jd_L_count_16 : decode jc_L_count 16 = .ok (.ireturn, 1) := by decide +kernel
theorem jd_C_count_0 : decode jc_C_count 0 = .ok (.iload_n 1, 1) := by decide +kernel
theorem jd_C_count_1 : decode jc_C_count 1 = .ok (.tableswitch 118 0 7 #[47, 55, 63, 71, 84, 89, 102, 110], 47) := by decide +kernel
theorem jd_C_count_48 : decode jc_C_count 48 = .ok (.aload_n 0, 1) := by decide +kernel
theorem jd_C_count_49 : decode jc_C_count 49 = .ok (.getfield 33, 3) := by decide +kernel
theorem jd_C_count_52 : decode jc_C_count 52 = .ok (.getfield 112, 3) := by decide +kernel
theorem jd_C_count_55 : decode jc_C_count 55 = .ok (.ireturn, 1) := by decide +kernel
theorem jd_C_count_56 : decode jc_C_count 56 = .ok (.aload_n 0, 1) := by decide +kernel
theorem jd_C_count_57 : decode jc_C_count 57 = .ok (.getfield 40, 3) := by decide +kernel
theorem jd_C_count_60 : decode jc_C_count 60 = .ok (.getfield 152, 3) := by decide +kernel
theorem jd_C_count_63 : decode jc_C_count 63 = .ok (.ireturn, 1) := by decide +kernel
theorem jd_C_count_64 : decode jc_C_count 64 = .ok (.aload_n 0, 1) := by decide +kernel
theorem jd_C_count_65 : decode jc_C_count 65 = .ok (.getfield 19, 3) := by decide +kernel
theorem jd_C_count_68 : decode jc_C_count 68 = .ok (.getfield 136, 3) := by decide +kernel
theorem jd_C_count_71 : decode jc_C_count 71 = .ok (.ireturn, 1) := by decide +kernel
theorem jd_C_count_72 : decode jc_C_count 72 = .ok (.aload_n 0, 1) := by decide +kernel
theorem jd_C_count_73 : decode jc_C_count 73 = .ok (.getfield 44, 3) := by decide +kernel
theorem jd_C_count_76 : decode jc_C_count 76 = .ok (.ifCond .eq 7, 3) := by decide +kernel
theorem jd_C_count_79 : decode jc_C_count 79 = .ok (.iconst 1, 1) := by decide +kernel
theorem jd_C_count_80 : decode jc_C_count 80 = .ok (.goto 4, 3) := by decide +kernel
theorem jd_C_count_83 : decode jc_C_count 83 = .ok (.iconst 0, 1) := by decide +kernel
theorem jd_C_count_84 : decode jc_C_count 84 = .ok (.ireturn, 1) := by decide +kernel
theorem jd_C_count_85 : decode jc_C_count 85 = .ok (.aload_n 0, 1) := by decide +kernel
theorem jd_C_count_86 : decode jc_C_count 86 = .ok (.getfield 48, 3) := by decide +kernel
theorem jd_C_count_89 : decode jc_C_count 89 = .ok (.ireturn, 1) := by decide +kernel
theorem jd_C_count_90 : decode jc_C_count 90 = .ok (.aload_n 0, 1) := by decide +kernel
theorem jd_C_count_91 : decode jc_C_count 91 = .ok (.getfield 52, 3) := by decide +kernel
theorem jd_C_count_94 : decode jc_C_count 94 = .ok (.ifCond .eq 7, 3) := by decide +kernel
theorem jd_C_count_97 : decode jc_C_count 97 = .ok (.iconst 1, 1) := by decide +kernel
theorem jd_C_count_98 : decode jc_C_count 98 = .ok (.goto 4, 3) := by decide +kernel
theorem jd_C_count_101 : decode jc_C_count 101 = .ok (.iconst 0, 1) := by decide +kernel
theorem jd_C_count_102 : decode jc_C_count 102 = .ok (.ireturn, 1) := by decide +kernel
theorem jd_C_count_103 : decode jc_C_count 103 = .ok (.aload_n 0, 1) := by decide +kernel
theorem jd_C_count_104 : decode jc_C_count 104 = .ok (.getfield 26, 3) := by decide +kernel
theorem jd_C_count_107 : decode jc_C_count 107 = .ok (.getfield 195, 3) := by decide +kernel
theorem jd_C_count_110 : decode jc_C_count 110 = .ok (.ireturn, 1) := by decide +kernel
theorem jd_C_count_111 : decode jc_C_count 111 = .ok (.aload_n 0, 1) := by decide +kernel
theorem jd_C_count_112 : decode jc_C_count 112 = .ok (.getfield 10, 3) := by decide +kernel
theorem jd_C_count_115 : decode jc_C_count 115 = .ok (.invokevirtual 198, 3) := by decide +kernel
theorem jd_C_count_118 : decode jc_C_count 118 = .ok (.ireturn, 1) := by decide +kernel
theorem jd_C_count_119 : decode jc_C_count 119 = .ok (.new 63, 3) := by decide +kernel
theorem jd_C_count_122 : decode jc_C_count 122 = .ok (.dup, 1) := by decide +kernel
theorem jd_C_count_123 : decode jc_C_count 123 = .ok (.invokespecial 65, 3) := by decide +kernel
theorem jd_C_count_126 : decode jc_C_count 126 = .ok (.athrow, 1) := by decide +kernel
theorem jd_H_blockedAccounts_0 : decode jc_H_blockedAccounts 0 = .ok (.iconst 0, 1) := by decide +kernel
theorem jd_H_blockedAccounts_1 : decode jc_H_blockedAccounts 1 = .ok (.istore_n 1, 1) := by decide +kernel
theorem jd_H_blockedAccounts_2 : decode jc_H_blockedAccounts 2 = .ok (.aload_n 0, 1) := by decide +kernel
theorem jd_H_blockedAccounts_3 : decode jc_H_blockedAccounts 3 = .ok (.getfield 11, 3) := by decide +kernel
theorem jd_H_blockedAccounts_6 : decode jc_H_blockedAccounts 6 = .ok (.astore_n 2, 1) := by decide +kernel
theorem jd_H_blockedAccounts_7 : decode jc_H_blockedAccounts 7 = .ok (.aload_n 2, 1) := by decide +kernel
theorem jd_H_blockedAccounts_8 : decode jc_H_blockedAccounts 8 = .ok (.arraylength, 1) := by decide +kernel
theorem jd_H_blockedAccounts_9 : decode jc_H_blockedAccounts 9 = .ok (.istore_n 3, 1) := by decide +kernel
theorem jd_H_blockedAccounts_10 : decode jc_H_blockedAccounts 10 = .ok (.iconst 0, 1) := by decide +kernel
theorem jd_H_blockedAccounts_11 : decode jc_H_blockedAccounts 11 = .ok (.istore 4, 2) := by decide +kernel
theorem jd_H_blockedAccounts_13 : decode jc_H_blockedAccounts 13 = .ok (.iload 4, 2) := by decide +kernel
theorem jd_H_blockedAccounts_15 : decode jc_H_blockedAccounts 15 = .ok (.iload_n 3, 1) := by decide +kernel
theorem jd_H_blockedAccounts_16 : decode jc_H_blockedAccounts 16 = .ok (.if_icmp .ge 31, 3) := by decide +kernel
theorem jd_H_blockedAccounts_19 : decode jc_H_blockedAccounts 19 = .ok (.aload_n 2, 1) := by decide +kernel
theorem jd_H_blockedAccounts_20 : decode jc_H_blockedAccounts 20 = .ok (.iload 4, 2) := by decide +kernel
theorem jd_H_blockedAccounts_22 : decode jc_H_blockedAccounts 22 = .ok (.aaload, 1) := by decide +kernel
theorem jd_H_blockedAccounts_23 : decode jc_H_blockedAccounts 23 = .ok (.astore 5, 2) := by decide +kernel
theorem jd_H_blockedAccounts_25 : decode jc_H_blockedAccounts 25 = .ok (.iload_n 1, 1) := by decide +kernel
theorem jd_H_blockedAccounts_26 : decode jc_H_blockedAccounts 26 = .ok (.aload 5, 2) := by decide +kernel
theorem jd_H_blockedAccounts_28 : decode jc_H_blockedAccounts 28 = .ok (.getfield 51, 3) := by decide +kernel
theorem jd_H_blockedAccounts_31 : decode jc_H_blockedAccounts 31 = .ok (.ifCond .eq 7, 3) := by decide +kernel
theorem jd_H_blockedAccounts_34 : decode jc_H_blockedAccounts 34 = .ok (.iconst 1, 1) := by decide +kernel
theorem jd_H_blockedAccounts_35 : decode jc_H_blockedAccounts 35 = .ok (.goto 4, 3) := by decide +kernel
theorem jd_H_blockedAccounts_38 : decode jc_H_blockedAccounts 38 = .ok (.iconst 0, 1) := by decide +kernel
theorem jd_H_blockedAccounts_39 : decode jc_H_blockedAccounts 39 = .ok (.iadd, 1) := by decide +kernel
theorem jd_H_blockedAccounts_40 : decode jc_H_blockedAccounts 40 = .ok (.istore_n 1, 1) := by decide +kernel
theorem jd_H_blockedAccounts_41 : decode jc_H_blockedAccounts 41 = .ok (.iinc 4 1, 3) := by decide +kernel
theorem jd_H_blockedAccounts_44 : decode jc_H_blockedAccounts 44 = .ok (.goto (-31), 3) := by decide +kernel
theorem jd_H_blockedAccounts_47 : decode jc_H_blockedAccounts 47 = .ok (.iload_n 1, 1) := by decide +kernel
theorem jd_H_blockedAccounts_48 : decode jc_H_blockedAccounts 48 = .ok (.ireturn, 1) := by decide +kernel
theorem jd_M_init_0 : decode jc_M_init 0 = .ok (.aload_n 0, 1) := by decide +kernel
theorem jd_M_init_1 : decode jc_M_init 1 = .ok (.invokespecial 1, 3) := by decide +kernel
theorem jd_M_init_4 : decode jc_M_init 4 = .ok (.aload_n 0, 1) := by decide +kernel
theorem jd_M_init_5 : decode jc_M_init 5 = .ok (.bipush 8, 2) := by decide +kernel
theorem jd_M_init_7 : decode jc_M_init 7 = .ok (.newarray .boolean, 2) := by decide +kernel
theorem jd_M_init_9 : decode jc_M_init 9 = .ok (.putfield 7, 3) := by decide +kernel
theorem jd_M_init_12 : decode jc_M_init 12 = .ok (.aload_n 0, 1) := by decide +kernel
theorem jd_M_init_13 : decode jc_M_init 13 = .ok (.bipush 8, 2) := by decide +kernel
theorem jd_M_init_15 : decode jc_M_init 15 = .ok (.newarray .int, 2) := by decide +kernel
theorem jd_M_init_17 : decode jc_M_init 17 = .ok (.putfield 13, 3) := by decide +kernel
theorem jd_M_init_20 : decode jc_M_init 20 = .ok (.aload_n 0, 1) := by decide +kernel
theorem jd_M_init_21 : decode jc_M_init 21 = .ok (.bipush 8, 2) := by decide +kernel
theorem jd_M_init_23 : decode jc_M_init 23 = .ok (.newarray .int, 2) := by decide +kernel
theorem jd_M_init_25 : decode jc_M_init 25 = .ok (.putfield 17, 3) := by decide +kernel
theorem jd_M_init_28 : decode jc_M_init 28 = .ok (.aload_n 0, 1) := by decide +kernel
theorem jd_M_init_29 : decode jc_M_init 29 = .ok (.bipush 8, 2) := by decide +kernel
theorem jd_M_init_31 : decode jc_M_init 31 = .ok (.newarray .int, 2) := by decide +kernel
theorem jd_M_init_33 : decode jc_M_init 33 = .ok (.putfield 20, 3) := by decide +kernel
theorem jd_M_init_36 : decode jc_M_init 36 = .ok (.aload_n 0, 1) := by decide +kernel
theorem jd_M_init_37 : decode jc_M_init 37 = .ok (.bipush 8, 2) := by decide +kernel
theorem jd_M_init_39 : decode jc_M_init 39 = .ok (.newarray .int, 2) := by decide +kernel
theorem jd_M_init_41 : decode jc_M_init 41 = .ok (.putfield 23, 3) := by decide +kernel
theorem jd_M_init_44 : decode jc_M_init 44 = .ok (.aload_n 0, 1) := by decide +kernel
theorem jd_M_init_45 : decode jc_M_init 45 = .ok (.bipush 8, 2) := by decide +kernel
theorem jd_M_init_47 : decode jc_M_init 47 = .ok (.newarray .boolean, 2) := by decide +kernel
theorem jd_M_init_49 : decode jc_M_init 49 = .ok (.putfield 26, 3) := by decide +kernel
theorem jd_M_init_52 : decode jc_M_init 52 = .ok (.aload_n 0, 1) := by decide +kernel
theorem jd_M_init_53 : decode jc_M_init 53 = .ok (.iconst 4, 1) := by decide +kernel
theorem jd_M_init_54 : decode jc_M_init 54 = .ok (.newarray .int, 2) := by decide +kernel
theorem jd_M_init_56 : decode jc_M_init 56 = .ok (.dup, 1) := by decide +kernel
theorem jd_M_init_57 : decode jc_M_init 57 = .ok (.iconst 0, 1) := by decide +kernel
theorem jd_M_init_58 : decode jc_M_init 58 = .ok (.iconst 1, 1) := by decide +kernel
theorem jd_M_init_59 : decode jc_M_init 59 = .ok (.iastore, 1) := by decide +kernel
theorem jd_M_init_60 : decode jc_M_init 60 = .ok (.dup, 1) := by decide +kernel
theorem jd_M_init_61 : decode jc_M_init 61 = .ok (.iconst 1, 1) := by decide +kernel
theorem jd_M_init_62 : decode jc_M_init 62 = .ok (.iconst 1, 1) := by decide +kernel
theorem jd_M_init_63 : decode jc_M_init 63 = .ok (.iastore, 1) := by decide +kernel
theorem jd_M_init_64 : decode jc_M_init 64 = .ok (.dup, 1) := by decide +kernel
theorem jd_M_init_65 : decode jc_M_init 65 = .ok (.iconst 2, 1) := by decide +kernel
theorem jd_M_init_66 : decode jc_M_init 66 = .ok (.iconst 1, 1) := by decide +kernel
theorem jd_M_init_67 : decode jc_M_init 67 = .ok (.iastore, 1) := by decide +kernel
theorem jd_M_init_68 : decode jc_M_init 68 = .ok (.dup, 1) := by decide +kernel
theorem jd_M_init_69 : decode jc_M_init 69 = .ok (.iconst 3, 1) := by decide +kernel
theorem jd_M_init_70 : decode jc_M_init 70 = .ok (.iconst 1, 1) := by decide +kernel
theorem jd_M_init_71 : decode jc_M_init 71 = .ok (.iastore, 1) := by decide +kernel
theorem jd_M_init_72 : decode jc_M_init 72 = .ok (.putfield 29, 3) := by decide +kernel
theorem jd_M_init_75 : decode jc_M_init 75 = .ok (.aload_n 0, 1) := by decide +kernel
theorem jd_M_init_76 : decode jc_M_init 76 = .ok (.iconst 4, 1) := by decide +kernel
theorem jd_M_init_77 : decode jc_M_init 77 = .ok (.newarray .int, 2) := by decide +kernel
theorem jd_M_init_79 : decode jc_M_init 79 = .ok (.putfield 32, 3) := by decide +kernel
theorem jd_M_init_82 : decode jc_M_init 82 = .ok (.aload_n 0, 1) := by decide +kernel
theorem jd_M_init_83 : decode jc_M_init 83 = .ok (.iconst 4, 1) := by decide +kernel
theorem jd_M_init_84 : decode jc_M_init 84 = .ok (.newarray .int, 2) := by decide +kernel
theorem jd_M_init_86 : decode jc_M_init 86 = .ok (.putfield 35, 3) := by decide +kernel
theorem jd_M_init_89 : decode jc_M_init 89 = .ok (.aload_n 0, 1) := by decide +kernel
theorem jd_M_init_90 : decode jc_M_init 90 = .ok (.iconst (-1), 1) := by decide +kernel
theorem jd_M_init_91 : decode jc_M_init 91 = .ok (.putfield 38, 3) := by decide +kernel
theorem jd_M_init_94 : decode jc_M_init 94 = .ok (.aload_n 0, 1) := by decide +kernel
theorem jd_M_init_95 : decode jc_M_init 95 = .ok (.bipush 41, 2) := by decide +kernel
theorem jd_M_init_97 : decode jc_M_init 97 = .ok (.newarray .int, 2) := by decide +kernel
theorem jd_M_init_99 : decode jc_M_init 99 = .ok (.putfield 42, 3) := by decide +kernel
theorem jd_M_init_102 : decode jc_M_init 102 = .ok (.aload_n 0, 1) := by decide +kernel
theorem jd_M_init_103 : decode jc_M_init 103 = .ok (.bipush 41, 2) := by decide +kernel
theorem jd_M_init_105 : decode jc_M_init 105 = .ok (.newarray .int, 2) := by decide +kernel
theorem jd_M_init_107 : decode jc_M_init 107 = .ok (.putfield 45, 3) := by decide +kernel
theorem jd_M_init_110 : decode jc_M_init 110 = .ok (.aload_n 0, 1) := by decide +kernel
theorem jd_M_init_111 : decode jc_M_init 111 = .ok (.bipush 41, 2) := by decide +kernel
theorem jd_M_init_113 : decode jc_M_init 113 = .ok (.newarray .int, 2) := by decide +kernel
theorem jd_M_init_115 : decode jc_M_init 115 = .ok (.putfield 48, 3) := by decide +kernel
theorem jd_M_init_118 : decode jc_M_init 118 = .ok (.aload_n 0, 1) := by decide +kernel
theorem jd_M_init_119 : decode jc_M_init 119 = .ok (.bipush 41, 2) := by decide +kernel
theorem jd_M_init_121 : decode jc_M_init 121 = .ok (.newarray .int, 2) := by decide +kernel
theorem jd_M_init_123 : decode jc_M_init 123 = .ok (.putfield 51, 3) := by decide +kernel
theorem jd_M_init_126 : decode jc_M_init 126 = .ok (.aload_n 0, 1) := by decide +kernel
theorem jd_M_init_127 : decode jc_M_init 127 = .ok (.bipush 41, 2) := by decide +kernel
theorem jd_M_init_129 : decode jc_M_init 129 = .ok (.newarray .int, 2) := by decide +kernel
theorem jd_M_init_131 : decode jc_M_init 131 = .ok (.putfield 54, 3) := by decide +kernel
theorem jd_M_init_134 : decode jc_M_init 134 = .ok (.aload_n 0, 1) := by decide +kernel
theorem jd_M_init_135 : decode jc_M_init 135 = .ok (.bipush 41, 2) := by decide +kernel
theorem jd_M_init_137 : decode jc_M_init 137 = .ok (.newarray .boolean, 2) := by decide +kernel
theorem jd_M_init_139 : decode jc_M_init 139 = .ok (.putfield 57, 3) := by decide +kernel
theorem jd_M_init_142 : decode jc_M_init 142 = .ok (.aload_n 0, 1) := by decide +kernel
theorem jd_M_init_143 : decode jc_M_init 143 = .ok (.bipush 80, 2) := by decide +kernel
theorem jd_M_init_145 : decode jc_M_init 145 = .ok (.newarray .int, 2) := by decide +kernel
theorem jd_M_init_147 : decode jc_M_init 147 = .ok (.putfield 60, 3) := by decide +kernel
theorem jd_M_init_150 : decode jc_M_init 150 = .ok (.aload_n 0, 1) := by decide +kernel
theorem jd_M_init_151 : decode jc_M_init 151 = .ok (.bipush 80, 2) := by decide +kernel
theorem jd_M_init_153 : decode jc_M_init 153 = .ok (.newarray .int, 2) := by decide +kernel
theorem jd_M_init_155 : decode jc_M_init 155 = .ok (.putfield 63, 3) := by decide +kernel
theorem jd_M_init_158 : decode jc_M_init 158 = .ok (.aload_n 0, 1) := by decide +kernel
theorem jd_M_init_159 : decode jc_M_init 159 = .ok (.bipush 8, 2) := by decide +kernel
theorem jd_M_init_161 : decode jc_M_init 161 = .ok (.newarray .int, 2) := by decide +kernel
theorem jd_M_init_163 : decode jc_M_init 163 = .ok (.putfield 66, 3) := by decide +kernel
theorem jd_M_init_166 : decode jc_M_init 166 = .ok (.aload_n 0, 1) := by decide +kernel
theorem jd_M_init_167 : decode jc_M_init 167 = .ok (.iconst (-1), 1) := by decide +kernel
theorem jd_M_init_168 : decode jc_M_init 168 = .ok (.putfield 69, 3) := by decide +kernel
theorem jd_M_init_171 : decode jc_M_init 171 = .ok (.return_, 1) := by decide +kernel
theorem jd_M_thrown_0 : decode jc_M_thrown 0 = .ok (.aload_n 0, 1) := by decide +kernel
theorem jd_M_thrown_1 : decode jc_M_thrown 1 = .ok (.getfield 72, 3) := by decide +kernel
theorem jd_M_thrown_4 : decode jc_M_thrown 4 = .ok (.ireturn, 1) := by decide +kernel
theorem jd_M_open_0 : decode jc_M_open 0 = .ok (.aload_n 0, 1) := by decide +kernel
theorem jd_M_open_1 : decode jc_M_open 1 = .ok (.iconst 0, 1) := by decide +kernel
theorem jd_M_open_2 : decode jc_M_open 2 = .ok (.putfield 72, 3) := by decide +kernel
theorem jd_M_open_5 : decode jc_M_open 5 = .ok (.iload_n 1, 1) := by decide +kernel
theorem jd_M_open_6 : decode jc_M_open 6 = .ok (.iconst 0, 1) := by decide +kernel
theorem jd_M_open_7 : decode jc_M_open 7 = .ok (.bipush 7, 2) := by decide +kernel
theorem jd_M_open_9 : decode jc_M_open 9 = .ok (.invokestatic 75, 3) := by decide +kernel
theorem jd_M_open_12 : decode jc_M_open 12 = .ok (.ifCond .eq 24, 3) := by decide +kernel
theorem jd_M_open_15 : decode jc_M_open 15 = .ok (.iload_n 2, 1) := by decide +kernel
theorem jd_M_open_16 : decode jc_M_open 16 = .ok (.iconst 0, 1) := by decide +kernel
theorem jd_M_open_17 : decode jc_M_open 17 = .ok (.sipush 9999, 3) := by decide +kernel
theorem jd_M_open_20 : decode jc_M_open 20 = .ok (.invokestatic 75, 3) := by decide +kernel
theorem jd_M_open_23 : decode jc_M_open 23 = .ok (.ifCond .eq 13, 3) := by decide +kernel
theorem jd_M_open_26 : decode jc_M_open 26 = .ok (.iload_n 3, 1) := by decide +kernel
theorem jd_M_open_27 : decode jc_M_open 27 = .ok (.iconst 0, 1) := by decide +kernel
theorem jd_M_open_28 : decode jc_M_open 28 = .ok (.ldc 79, 2) := by decide +kernel
theorem jd_M_open_30 : decode jc_M_open 30 = .ok (.invokestatic 75, 3) := by decide +kernel
theorem jd_M_open_33 : decode jc_M_open 33 = .ok (.ifCond .ne 9, 3) := by decide +kernel
theorem jd_M_open_36 : decode jc_M_open 36 = .ok (.aload_n 0, 1) := by decide +kernel
theorem jd_M_open_37 : decode jc_M_open 37 = .ok (.iconst 1, 1) := by decide +kernel
theorem jd_M_open_38 : decode jc_M_open 38 = .ok (.invokevirtual 80, 3) := by decide +kernel
theorem jd_M_open_41 : decode jc_M_open 41 = .ok (.ireturn, 1) := by decide +kernel
theorem jd_M_open_42 : decode jc_M_open 42 = .ok (.aload_n 0, 1) := by decide +kernel
theorem jd_M_open_43 : decode jc_M_open 43 = .ok (.getfield 7, 3) := by decide +kernel
theorem jd_M_open_46 : decode jc_M_open 46 = .ok (.iload_n 1, 1) := by decide +kernel
theorem jd_M_open_47 : decode jc_M_open 47 = .ok (.baload, 1) := by decide +kernel
theorem jd_M_open_48 : decode jc_M_open 48 = .ok (.ifCond .eq 9, 3) := by decide +kernel
theorem jd_M_open_51 : decode jc_M_open 51 = .ok (.aload_n 0, 1) := by decide +kernel
theorem jd_M_open_52 : decode jc_M_open 52 = .ok (.iconst 2, 1) := by decide +kernel
theorem jd_M_open_53 : decode jc_M_open 53 = .ok (.invokevirtual 80, 3) := by decide +kernel
theorem jd_M_open_56 : decode jc_M_open 56 = .ok (.ireturn, 1) := by decide +kernel
theorem jd_M_open_57 : decode jc_M_open 57 = .ok (.aload_n 0, 1) := by decide +kernel
theorem jd_M_open_58 : decode jc_M_open 58 = .ok (.getfield 7, 3) := by decide +kernel
theorem jd_M_open_61 : decode jc_M_open 61 = .ok (.iload_n 1, 1) := by decide +kernel
theorem jd_M_open_62 : decode jc_M_open 62 = .ok (.iconst 1, 1) := by decide +kernel
theorem jd_M_open_63 : decode jc_M_open 63 = .ok (.bastore, 1) := by decide +kernel
theorem jd_M_open_64 : decode jc_M_open 64 = .ok (.aload_n 0, 1) := by decide +kernel
theorem jd_M_open_65 : decode jc_M_open 65 = .ok (.getfield 13, 3) := by decide +kernel
theorem jd_M_open_68 : decode jc_M_open 68 = .ok (.iload_n 1, 1) := by decide +kernel
theorem jd_M_open_69 : decode jc_M_open 69 = .ok (.iload_n 2, 1) := by decide +kernel
theorem jd_M_open_70 : decode jc_M_open 70 = .ok (.iastore, 1) := by decide +kernel
theorem jd_M_open_71 : decode jc_M_open 71 = .ok (.aload_n 0, 1) := by decide +kernel
theorem jd_M_open_72 : decode jc_M_open 72 = .ok (.getfield 17, 3) := by decide +kernel
theorem jd_M_open_75 : decode jc_M_open 75 = .ok (.iload_n 1, 1) := by decide +kernel
theorem jd_M_open_76 : decode jc_M_open 76 = .ok (.iload_n 3, 1) := by decide +kernel
theorem jd_M_open_77 : decode jc_M_open 77 = .ok (.iastore, 1) := by decide +kernel
theorem jd_M_open_78 : decode jc_M_open 78 = .ok (.aload_n 0, 1) := by decide +kernel
theorem jd_M_open_79 : decode jc_M_open 79 = .ok (.getfield 20, 3) := by decide +kernel
theorem jd_M_open_82 : decode jc_M_open 82 = .ok (.iload_n 1, 1) := by decide +kernel
theorem jd_M_open_83 : decode jc_M_open 83 = .ok (.iload_n 3, 1) := by decide +kernel
theorem jd_M_open_84 : decode jc_M_open 84 = .ok (.iastore, 1) := by decide +kernel
theorem jd_M_open_85 : decode jc_M_open 85 = .ok (.aload_n 0, 1) := by decide +kernel
theorem jd_M_open_86 : decode jc_M_open 86 = .ok (.getfield 23, 3) := by decide +kernel
theorem jd_M_open_89 : decode jc_M_open 89 = .ok (.iload_n 1, 1) := by decide +kernel
theorem jd_M_open_90 : decode jc_M_open 90 = .ok (.iconst 3, 1) := by decide +kernel
theorem jd_M_open_91 : decode jc_M_open 91 = .ok (.iastore, 1) := by decide +kernel
theorem jd_M_open_92 : decode jc_M_open 92 = .ok (.iconst 0, 1) := by decide +kernel
theorem jd_M_open_93 : decode jc_M_open 93 = .ok (.istore 4, 2) := by decide +kernel
theorem jd_M_open_95 : decode jc_M_open 95 = .ok (.iconst 0, 1) := by decide +kernel
theorem jd_M_open_96 : decode jc_M_open 96 = .ok (.istore 5, 2) := by decide +kernel
theorem jd_M_open_98 : decode jc_M_open 98 = .ok (.iload 5, 2) := by decide +kernel
theorem jd_M_open_100 : decode jc_M_open 100 = .ok (.bipush 8, 2) := by decide +kernel
theorem jd_M_open_102 : decode jc_M_open 102 = .ok (.if_icmp .ge 22, 3) := by decide +kernel
theorem jd_M_open_105 : decode jc_M_open 105 = .ok (.aload_n 0, 1) := by decide +kernel
theorem jd_M_open_106 : decode jc_M_open 106 = .ok (.getfield 7, 3) := by decide +kernel
theorem jd_M_open_109 : decode jc_M_open 109 = .ok (.iload 5, 2) := by decide +kernel
theorem jd_M_open_111 : decode jc_M_open 111 = .ok (.baload, 1) := by decide +kernel
theorem jd_M_open_112 : decode jc_M_open 112 = .ok (.ifCond .eq 6, 3) := by decide +kernel
theorem jd_M_open_115 : decode jc_M_open 115 = .ok (.iinc 4 1, 3) := by decide +kernel
theorem jd_M_open_118 : decode jc_M_open 118 = .ok (.iinc 5 1, 3) := by decide +kernel
theorem jd_M_open_121 : decode jc_M_open 121 = .ok (.goto (-23), 3) := by decide +kernel
theorem jd_M_open_124 : decode jc_M_open 124 = .ok (.iload 4, 2) := by decide +kernel
theorem jd_M_open_126 : decode jc_M_open 126 = .ok (.ireturn, 1) := by decide +kernel
theorem jd_M_in_0 : decode jc_M_in 0 = .ok (.iload_n 0, 1) := by decide +kernel
theorem jd_M_in_1 : decode jc_M_in 1 = .ok (.iload_n 1, 1) := by decide +kernel
theorem jd_M_in_2 : decode jc_M_in 2 = .ok (.if_icmp .lt 12, 3) := by decide +kernel
theorem jd_M_in_5 : decode jc_M_in 5 = .ok (.iload_n 0, 1) := by decide +kernel
theorem jd_M_in_6 : decode jc_M_in 6 = .ok (.iload_n 2, 1) := by decide +kernel
theorem jd_M_in_7 : decode jc_M_in 7 = .ok (.if_icmp .gt 7, 3) := by decide +kernel
theorem jd_M_in_10 : decode jc_M_in 10 = .ok (.iconst 1, 1) := by decide +kernel
theorem jd_M_in_11 : decode jc_M_in 11 = .ok (.goto 4, 3) := by decide +kernel
theorem jd_M_in_14 : decode jc_M_in 14 = .ok (.iconst 0, 1) := by decide +kernel
theorem jd_M_in_15 : decode jc_M_in 15 = .ok (.ireturn, 1) := by decide +kernel
theorem jd_M_fail_0 : decode jc_M_fail 0 = .ok (.aload_n 0, 1) := by decide +kernel
theorem jd_M_fail_1 : decode jc_M_fail 1 = .ok (.iload_n 1, 1) := by decide +kernel
theorem jd_M_fail_2 : decode jc_M_fail 2 = .ok (.putfield 72, 3) := by decide +kernel
theorem jd_M_fail_5 : decode jc_M_fail 5 = .ok (.iconst 0, 1) := by decide +kernel
theorem jd_M_fail_6 : decode jc_M_fail 6 = .ok (.ireturn, 1) := by decide +kernel
theorem jd_M_load_0 : decode jc_M_load 0 = .ok (.aload_n 0, 1) := by decide +kernel
theorem jd_M_load_1 : decode jc_M_load 1 = .ok (.iconst 0, 1) := by decide +kernel
theorem jd_M_load_2 : decode jc_M_load 2 = .ok (.putfield 72, 3) := by decide +kernel
theorem jd_M_load_5 : decode jc_M_load 5 = .ok (.iload_n 1, 1) := by decide +kernel
theorem jd_M_load_6 : decode jc_M_load 6 = .ok (.iconst 0, 1) := by decide +kernel
end
section
theorem jd_M_load_7 : decode jc_M_load 7 = .ok (.iconst 3, 1) := by decide +kernel
theorem jd_M_load_8 : decode jc_M_load 8 = .ok (.invokestatic 75, 3) := by decide +kernel
theorem jd_M_load_11 : decode jc_M_load 11 = .ok (.ifCond .eq 24, 3) := by decide +kernel
theorem jd_M_load_14 : decode jc_M_load 14 = .ok (.iload_n 2, 1) := by decide +kernel
theorem jd_M_load_15 : decode jc_M_load 15 = .ok (.iconst 1, 1) := by decide +kernel
theorem jd_M_load_16 : decode jc_M_load 16 = .ok (.sipush 500, 3) := by decide +kernel
theorem jd_M_load_19 : decode jc_M_load 19 = .ok (.invokestatic 75, 3) := by decide +kernel
theorem jd_M_load_22 : decode jc_M_load 22 = .ok (.ifCond .eq 13, 3) := by decide +kernel
theorem jd_M_load_25 : decode jc_M_load 25 = .ok (.iload_n 3, 1) := by decide +kernel
theorem jd_M_load_26 : decode jc_M_load 26 = .ok (.iconst 0, 1) := by decide +kernel
theorem jd_M_load_27 : decode jc_M_load 27 = .ok (.bipush 50, 2) := by decide +kernel
theorem jd_M_load_29 : decode jc_M_load 29 = .ok (.invokestatic 75, 3) := by decide +kernel
theorem jd_M_load_32 : decode jc_M_load 32 = .ok (.ifCond .ne 9, 3) := by decide +kernel
theorem jd_M_load_35 : decode jc_M_load 35 = .ok (.aload_n 0, 1) := by decide +kernel
theorem jd_M_load_36 : decode jc_M_load 36 = .ok (.iconst 1, 1) := by decide +kernel
theorem jd_M_load_37 : decode jc_M_load 37 = .ok (.invokevirtual 80, 3) := by decide +kernel
theorem jd_M_load_40 : decode jc_M_load 40 = .ok (.ireturn, 1) := by decide +kernel
theorem jd_M_load_41 : decode jc_M_load 41 = .ok (.aload_n 0, 1) := by decide +kernel
theorem jd_M_load_42 : decode jc_M_load 42 = .ok (.getfield 38, 3) := by decide +kernel
theorem jd_M_load_45 : decode jc_M_load 45 = .ok (.ifCond .lt 9, 3) := by decide +kernel
theorem jd_M_load_48 : decode jc_M_load 48 = .ok (.aload_n 0, 1) := by decide +kernel
theorem jd_M_load_49 : decode jc_M_load 49 = .ok (.iconst 2, 1) := by decide +kernel
theorem jd_M_load_50 : decode jc_M_load 50 = .ok (.invokevirtual 80, 3) := by decide +kernel
theorem jd_M_load_53 : decode jc_M_load 53 = .ok (.ireturn, 1) := by decide +kernel
theorem jd_M_load_54 : decode jc_M_load 54 = .ok (.aload_n 0, 1) := by decide +kernel
theorem jd_M_load_55 : decode jc_M_load 55 = .ok (.getfield 29, 3) := by decide +kernel
theorem jd_M_load_58 : decode jc_M_load 58 = .ok (.iload_n 1, 1) := by decide +kernel
theorem jd_M_load_59 : decode jc_M_load 59 = .ok (.iaload, 1) := by decide +kernel
theorem jd_M_load_60 : decode jc_M_load 60 = .ok (.aload_n 0, 1) := by decide +kernel
theorem jd_M_load_61 : decode jc_M_load 61 = .ok (.getfield 32, 3) := by decide +kernel
theorem jd_M_load_64 : decode jc_M_load 64 = .ok (.iload_n 1, 1) := by decide +kernel
theorem jd_M_load_65 : decode jc_M_load 65 = .ok (.iaload, 1) := by decide +kernel
theorem jd_M_load_66 : decode jc_M_load 66 = .ok (.imul, 1) := by decide +kernel
theorem jd_M_load_67 : decode jc_M_load 67 = .ok (.istore 4, 2) := by decide +kernel
theorem jd_M_load_69 : decode jc_M_load 69 = .ok (.aload_n 0, 1) := by decide +kernel
theorem jd_M_load_70 : decode jc_M_load 70 = .ok (.getfield 29, 3) := by decide +kernel
theorem jd_M_load_73 : decode jc_M_load 73 = .ok (.iload_n 1, 1) := by decide +kernel
theorem jd_M_load_74 : decode jc_M_load 74 = .ok (.iload_n 2, 1) := by decide +kernel
theorem jd_M_load_75 : decode jc_M_load 75 = .ok (.iastore, 1) := by decide +kernel
theorem jd_M_load_76 : decode jc_M_load 76 = .ok (.aload_n 0, 1) := by decide +kernel
theorem jd_M_load_77 : decode jc_M_load 77 = .ok (.getfield 32, 3) := by decide +kernel
theorem jd_M_load_80 : decode jc_M_load 80 = .ok (.iload_n 1, 1) := by decide +kernel
theorem jd_M_load_81 : decode jc_M_load 81 = .ok (.iload_n 3, 1) := by decide +kernel
theorem jd_M_load_82 : decode jc_M_load 82 = .ok (.iastore, 1) := by decide +kernel
theorem jd_M_load_83 : decode jc_M_load 83 = .ok (.iload 4, 2) := by decide +kernel
theorem jd_M_load_85 : decode jc_M_load 85 = .ok (.ireturn, 1) := by decide +kernel
theorem jd_M_insert_0 : decode jc_M_insert 0 = .ok (.aload_n 0, 1) := by decide +kernel
theorem jd_M_insert_1 : decode jc_M_insert 1 = .ok (.iconst 0, 1) := by decide +kernel
theorem jd_M_insert_2 : decode jc_M_insert 2 = .ok (.putfield 72, 3) := by decide +kernel
theorem jd_M_insert_5 : decode jc_M_insert 5 = .ok (.aload_n 0, 1) := by decide +kernel
theorem jd_M_insert_6 : decode jc_M_insert 6 = .ok (.getfield 84, 3) := by decide +kernel
theorem jd_M_insert_9 : decode jc_M_insert 9 = .ok (.ifCond .ne 10, 3) := by decide +kernel
theorem jd_M_insert_12 : decode jc_M_insert 12 = .ok (.aload_n 0, 1) := by decide +kernel
theorem jd_M_insert_13 : decode jc_M_insert 13 = .ok (.getfield 38, 3) := by decide +kernel
theorem jd_M_insert_16 : decode jc_M_insert 16 = .ok (.ifCond .lt 9, 3) := by decide +kernel
theorem jd_M_insert_19 : decode jc_M_insert 19 = .ok (.aload_n 0, 1) := by decide +kernel
theorem jd_M_insert_20 : decode jc_M_insert 20 = .ok (.iconst 1, 1) := by decide +kernel
theorem jd_M_insert_21 : decode jc_M_insert 21 = .ok (.invokevirtual 80, 3) := by decide +kernel
theorem jd_M_insert_24 : decode jc_M_insert 24 = .ok (.ireturn, 1) := by decide +kernel
theorem jd_M_insert_25 : decode jc_M_insert 25 = .ok (.iload_n 1, 1) := by decide +kernel
theorem jd_M_insert_26 : decode jc_M_insert 26 = .ok (.iconst 0, 1) := by decide +kernel
theorem jd_M_insert_27 : decode jc_M_insert 27 = .ok (.bipush 7, 2) := by decide +kernel
theorem jd_M_insert_29 : decode jc_M_insert 29 = .ok (.invokestatic 75, 3) := by decide +kernel
theorem jd_M_insert_32 : decode jc_M_insert 32 = .ok (.ifCond .eq 12, 3) := by decide +kernel
theorem jd_M_insert_35 : decode jc_M_insert 35 = .ok (.aload_n 0, 1) := by decide +kernel
theorem jd_M_insert_36 : decode jc_M_insert 36 = .ok (.getfield 7, 3) := by decide +kernel
theorem jd_M_insert_39 : decode jc_M_insert 39 = .ok (.iload_n 1, 1) := by decide +kernel
theorem jd_M_insert_40 : decode jc_M_insert 40 = .ok (.baload, 1) := by decide +kernel
theorem jd_M_insert_41 : decode jc_M_insert 41 = .ok (.ifCond .ne 9, 3) := by decide +kernel
theorem jd_M_insert_44 : decode jc_M_insert 44 = .ok (.aload_n 0, 1) := by decide +kernel
theorem jd_M_insert_45 : decode jc_M_insert 45 = .ok (.iconst 2, 1) := by decide +kernel
theorem jd_M_insert_46 : decode jc_M_insert 46 = .ok (.invokevirtual 80, 3) := by decide +kernel
theorem jd_M_insert_49 : decode jc_M_insert 49 = .ok (.ireturn, 1) := by decide +kernel
theorem jd_M_insert_50 : decode jc_M_insert 50 = .ok (.aload_n 0, 1) := by decide +kernel
theorem jd_M_insert_51 : decode jc_M_insert 51 = .ok (.getfield 26, 3) := by decide +kernel
theorem jd_M_insert_54 : decode jc_M_insert 54 = .ok (.iload_n 1, 1) := by decide +kernel
theorem jd_M_insert_55 : decode jc_M_insert 55 = .ok (.baload, 1) := by decide +kernel
theorem jd_M_insert_56 : decode jc_M_insert 56 = .ok (.ifCond .eq 9, 3) := by decide +kernel
theorem jd_M_insert_59 : decode jc_M_insert 59 = .ok (.aload_n 0, 1) := by decide +kernel
theorem jd_M_insert_60 : decode jc_M_insert 60 = .ok (.iconst 3, 1) := by decide +kernel
theorem jd_M_insert_61 : decode jc_M_insert 61 = .ok (.invokevirtual 80, 3) := by decide +kernel
theorem jd_M_insert_64 : decode jc_M_insert 64 = .ok (.ireturn, 1) := by decide +kernel
theorem jd_M_insert_65 : decode jc_M_insert 65 = .ok (.aload_n 0, 1) := by decide +kernel
theorem jd_M_insert_66 : decode jc_M_insert 66 = .ok (.iload_n 1, 1) := by decide +kernel
theorem jd_M_insert_67 : decode jc_M_insert 67 = .ok (.putfield 38, 3) := by decide +kernel
theorem jd_M_insert_70 : decode jc_M_insert 70 = .ok (.aload_n 0, 1) := by decide +kernel
theorem jd_M_insert_71 : decode jc_M_insert 71 = .ok (.iconst 0, 1) := by decide +kernel
theorem jd_M_insert_72 : decode jc_M_insert 72 = .ok (.putfield 88, 3) := by decide +kernel
theorem jd_M_insert_75 : decode jc_M_insert 75 = .ok (.aload_n 0, 1) := by decide +kernel
theorem jd_M_insert_76 : decode jc_M_insert 76 = .ok (.getfield 23, 3) := by decide +kernel
theorem jd_M_insert_79 : decode jc_M_insert 79 = .ok (.iload_n 1, 1) := by decide +kernel
theorem jd_M_insert_80 : decode jc_M_insert 80 = .ok (.iaload, 1) := by decide +kernel
theorem jd_M_insert_81 : decode jc_M_insert 81 = .ok (.ireturn, 1) := by decide +kernel
theorem jd_M_pin_0 : decode jc_M_pin 0 = .ok (.aload_n 0, 1) := by decide +kernel
theorem jd_M_pin_1 : decode jc_M_pin 1 = .ok (.iconst 0, 1) := by decide +kernel
theorem jd_M_pin_2 : decode jc_M_pin 2 = .ok (.putfield 72, 3) := by decide +kernel
theorem jd_M_pin_5 : decode jc_M_pin 5 = .ok (.aload_n 0, 1) := by decide +kernel
theorem jd_M_pin_6 : decode jc_M_pin 6 = .ok (.getfield 38, 3) := by decide +kernel
theorem jd_M_pin_9 : decode jc_M_pin 9 = .ok (.ifCond .lt 10, 3) := by decide +kernel
theorem jd_M_pin_12 : decode jc_M_pin 12 = .ok (.aload_n 0, 1) := by decide +kernel
theorem jd_M_pin_13 : decode jc_M_pin 13 = .ok (.getfield 88, 3) := by decide +kernel
theorem jd_M_pin_16 : decode jc_M_pin 16 = .ok (.ifCond .eq 9, 3) := by decide +kernel
theorem jd_M_pin_19 : decode jc_M_pin 19 = .ok (.aload_n 0, 1) := by decide +kernel
theorem jd_M_pin_20 : decode jc_M_pin 20 = .ok (.iconst 1, 1) := by decide +kernel
theorem jd_M_pin_21 : decode jc_M_pin 21 = .ok (.invokevirtual 80, 3) := by decide +kernel
theorem jd_M_pin_24 : decode jc_M_pin 24 = .ok (.ireturn, 1) := by decide +kernel
theorem jd_M_pin_25 : decode jc_M_pin 25 = .ok (.iload_n 1, 1) := by decide +kernel
theorem jd_M_pin_26 : decode jc_M_pin 26 = .ok (.aload_n 0, 1) := by decide +kernel
theorem jd_M_pin_27 : decode jc_M_pin 27 = .ok (.getfield 13, 3) := by decide +kernel
theorem jd_M_pin_30 : decode jc_M_pin 30 = .ok (.aload_n 0, 1) := by decide +kernel
theorem jd_M_pin_31 : decode jc_M_pin 31 = .ok (.getfield 38, 3) := by decide +kernel
theorem jd_M_pin_34 : decode jc_M_pin 34 = .ok (.iaload, 1) := by decide +kernel
theorem jd_M_pin_35 : decode jc_M_pin 35 = .ok (.if_icmp .ne 20, 3) := by decide +kernel
theorem jd_M_pin_38 : decode jc_M_pin 38 = .ok (.aload_n 0, 1) := by decide +kernel
theorem jd_M_pin_39 : decode jc_M_pin 39 = .ok (.iconst 1, 1) := by decide +kernel
theorem jd_M_pin_40 : decode jc_M_pin 40 = .ok (.putfield 88, 3) := by decide +kernel
theorem jd_M_pin_43 : decode jc_M_pin 43 = .ok (.aload_n 0, 1) := by decide +kernel
theorem jd_M_pin_44 : decode jc_M_pin 44 = .ok (.getfield 23, 3) := by decide +kernel
theorem jd_M_pin_47 : decode jc_M_pin 47 = .ok (.aload_n 0, 1) := by decide +kernel
theorem jd_M_pin_48 : decode jc_M_pin 48 = .ok (.getfield 38, 3) := by decide +kernel
theorem jd_M_pin_51 : decode jc_M_pin 51 = .ok (.iconst 3, 1) := by decide +kernel
theorem jd_M_pin_52 : decode jc_M_pin 52 = .ok (.iastore, 1) := by decide +kernel
theorem jd_M_pin_53 : decode jc_M_pin 53 = .ok (.iconst 3, 1) := by decide +kernel
theorem jd_M_pin_54 : decode jc_M_pin 54 = .ok (.ireturn, 1) := by decide +kernel
theorem jd_M_pin_55 : decode jc_M_pin 55 = .ok (.aload_n 0, 1) := by decide +kernel
theorem jd_M_pin_56 : decode jc_M_pin 56 = .ok (.getfield 23, 3) := by decide +kernel
theorem jd_M_pin_59 : decode jc_M_pin 59 = .ok (.aload_n 0, 1) := by decide +kernel
theorem jd_M_pin_60 : decode jc_M_pin 60 = .ok (.getfield 38, 3) := by decide +kernel
theorem jd_M_pin_63 : decode jc_M_pin 63 = .ok (.dup2, 1) := by decide +kernel
theorem jd_M_pin_64 : decode jc_M_pin 64 = .ok (.iaload, 1) := by decide +kernel
theorem jd_M_pin_65 : decode jc_M_pin 65 = .ok (.iconst 1, 1) := by decide +kernel
theorem jd_M_pin_66 : decode jc_M_pin 66 = .ok (.isub, 1) := by decide +kernel
theorem jd_M_pin_67 : decode jc_M_pin 67 = .ok (.iastore, 1) := by decide +kernel
theorem jd_M_pin_68 : decode jc_M_pin 68 = .ok (.aload_n 0, 1) := by decide +kernel
theorem jd_M_pin_69 : decode jc_M_pin 69 = .ok (.getfield 23, 3) := by decide +kernel
theorem jd_M_pin_72 : decode jc_M_pin 72 = .ok (.aload_n 0, 1) := by decide +kernel
theorem jd_M_pin_73 : decode jc_M_pin 73 = .ok (.getfield 38, 3) := by decide +kernel
theorem jd_M_pin_76 : decode jc_M_pin 76 = .ok (.iaload, 1) := by decide +kernel
theorem jd_M_pin_77 : decode jc_M_pin 77 = .ok (.istore_n 2, 1) := by decide +kernel
theorem jd_M_pin_78 : decode jc_M_pin 78 = .ok (.iload_n 2, 1) := by decide +kernel
theorem jd_M_pin_79 : decode jc_M_pin 79 = .ok (.ifCond .ne 18, 3) := by decide +kernel
theorem jd_M_pin_82 : decode jc_M_pin 82 = .ok (.aload_n 0, 1) := by decide +kernel
theorem jd_M_pin_83 : decode jc_M_pin 83 = .ok (.getfield 26, 3) := by decide +kernel
theorem jd_M_pin_86 : decode jc_M_pin 86 = .ok (.aload_n 0, 1) := by decide +kernel
theorem jd_M_pin_87 : decode jc_M_pin 87 = .ok (.getfield 38, 3) := by decide +kernel
theorem jd_M_pin_90 : decode jc_M_pin 90 = .ok (.iconst 1, 1) := by decide +kernel
theorem jd_M_pin_91 : decode jc_M_pin 91 = .ok (.bastore, 1) := by decide +kernel
theorem jd_M_pin_92 : decode jc_M_pin 92 = .ok (.aload_n 0, 1) := by decide +kernel
theorem jd_M_pin_93 : decode jc_M_pin 93 = .ok (.iconst (-1), 1) := by decide +kernel
theorem jd_M_pin_94 : decode jc_M_pin 94 = .ok (.putfield 38, 3) := by decide +kernel
theorem jd_M_pin_97 : decode jc_M_pin 97 = .ok (.iload_n 2, 1) := by decide +kernel
theorem jd_M_pin_98 : decode jc_M_pin 98 = .ok (.ireturn, 1) := by decide +kernel
theorem jd_M_eject_0 : decode jc_M_eject 0 = .ok (.aload_n 0, 1) := by decide +kernel
theorem jd_M_eject_1 : decode jc_M_eject 1 = .ok (.iconst 0, 1) := by decide +kernel
theorem jd_M_eject_2 : decode jc_M_eject 2 = .ok (.putfield 72, 3) := by decide +kernel
theorem jd_M_eject_5 : decode jc_M_eject 5 = .ok (.aload_n 0, 1) := by decide +kernel
theorem jd_M_eject_6 : decode jc_M_eject 6 = .ok (.getfield 38, 3) := by decide +kernel
theorem jd_M_eject_9 : decode jc_M_eject 9 = .ok (.ifCond .ge 9, 3) := by decide +kernel
theorem jd_M_eject_12 : decode jc_M_eject 12 = .ok (.aload_n 0, 1) := by decide +kernel
theorem jd_M_eject_13 : decode jc_M_eject 13 = .ok (.iconst 1, 1) := by decide +kernel
theorem jd_M_eject_14 : decode jc_M_eject 14 = .ok (.invokevirtual 80, 3) := by decide +kernel
theorem jd_M_eject_17 : decode jc_M_eject 17 = .ok (.ireturn, 1) := by decide +kernel
theorem jd_M_eject_18 : decode jc_M_eject 18 = .ok (.aload_n 0, 1) := by decide +kernel
theorem jd_M_eject_19 : decode jc_M_eject 19 = .ok (.getfield 38, 3) := by decide +kernel
theorem jd_M_eject_22 : decode jc_M_eject 22 = .ok (.istore_n 1, 1) := by decide +kernel
theorem jd_M_eject_23 : decode jc_M_eject 23 = .ok (.aload_n 0, 1) := by decide +kernel
theorem jd_M_eject_24 : decode jc_M_eject 24 = .ok (.iconst (-1), 1) := by decide +kernel
theorem jd_M_eject_25 : decode jc_M_eject 25 = .ok (.putfield 38, 3) := by decide +kernel
theorem jd_M_eject_28 : decode jc_M_eject 28 = .ok (.aload_n 0, 1) := by decide +kernel
theorem jd_M_eject_29 : decode jc_M_eject 29 = .ok (.iconst 0, 1) := by decide +kernel
theorem jd_M_eject_30 : decode jc_M_eject 30 = .ok (.putfield 88, 3) := by decide +kernel
theorem jd_M_eject_33 : decode jc_M_eject 33 = .ok (.iload_n 1, 1) := by decide +kernel
theorem jd_M_eject_34 : decode jc_M_eject 34 = .ok (.ireturn, 1) := by decide +kernel
theorem jd_M_withdraw_0 : decode jc_M_withdraw 0 = .ok (.aload_n 0, 1) := by decide +kernel
theorem jd_M_withdraw_1 : decode jc_M_withdraw 1 = .ok (.iconst 0, 1) := by decide +kernel
theorem jd_M_withdraw_2 : decode jc_M_withdraw 2 = .ok (.putfield 72, 3) := by decide +kernel
theorem jd_M_withdraw_5 : decode jc_M_withdraw 5 = .ok (.aload_n 0, 1) := by decide +kernel
theorem jd_M_withdraw_6 : decode jc_M_withdraw 6 = .ok (.getfield 38, 3) := by decide +kernel
theorem jd_M_withdraw_9 : decode jc_M_withdraw 9 = .ok (.ifCond .lt 10, 3) := by decide +kernel
theorem jd_M_withdraw_12 : decode jc_M_withdraw 12 = .ok (.aload_n 0, 1) := by decide +kernel
theorem jd_M_withdraw_13 : decode jc_M_withdraw 13 = .ok (.getfield 88, 3) := by decide +kernel
theorem jd_M_withdraw_16 : decode jc_M_withdraw 16 = .ok (.ifCond .ne 9, 3) := by decide +kernel
theorem jd_M_withdraw_19 : decode jc_M_withdraw 19 = .ok (.aload_n 0, 1) := by decide +kernel
theorem jd_M_withdraw_20 : decode jc_M_withdraw 20 = .ok (.iconst 1, 1) := by decide +kernel
theorem jd_M_withdraw_21 : decode jc_M_withdraw 21 = .ok (.invokevirtual 80, 3) := by decide +kernel
theorem jd_M_withdraw_24 : decode jc_M_withdraw 24 = .ok (.ireturn, 1) := by decide +kernel
theorem jd_M_withdraw_25 : decode jc_M_withdraw 25 = .ok (.iload_n 1, 1) := by decide +kernel
theorem jd_M_withdraw_26 : decode jc_M_withdraw 26 = .ok (.iconst 1, 1) := by decide +kernel
theorem jd_M_withdraw_27 : decode jc_M_withdraw 27 = .ok (.sipush 5000, 3) := by decide +kernel
theorem jd_M_withdraw_30 : decode jc_M_withdraw 30 = .ok (.invokestatic 75, 3) := by decide +kernel
theorem jd_M_withdraw_33 : decode jc_M_withdraw 33 = .ok (.ifCond .ne 9, 3) := by decide +kernel
theorem jd_M_withdraw_36 : decode jc_M_withdraw 36 = .ok (.aload_n 0, 1) := by decide +kernel
theorem jd_M_withdraw_37 : decode jc_M_withdraw 37 = .ok (.iconst 2, 1) := by decide +kernel
theorem jd_M_withdraw_38 : decode jc_M_withdraw 38 = .ok (.invokevirtual 80, 3) := by decide +kernel
theorem jd_M_withdraw_41 : decode jc_M_withdraw 41 = .ok (.ireturn, 1) := by decide +kernel
theorem jd_M_withdraw_42 : decode jc_M_withdraw 42 = .ok (.aload_n 0, 1) := by decide +kernel
theorem jd_M_withdraw_43 : decode jc_M_withdraw 43 = .ok (.iload_n 1, 1) := by decide +kernel
theorem jd_M_withdraw_44 : decode jc_M_withdraw 44 = .ok (.invokevirtual 146, 3) := by decide +kernel
theorem jd_M_withdraw_47 : decode jc_M_withdraw 47 = .ok (.ifCond .ne 9, 3) := by decide +kernel
theorem jd_M_withdraw_50 : decode jc_M_withdraw 50 = .ok (.aload_n 0, 1) := by decide +kernel
theorem jd_M_withdraw_51 : decode jc_M_withdraw 51 = .ok (.iconst 3, 1) := by decide +kernel
theorem jd_M_withdraw_52 : decode jc_M_withdraw 52 = .ok (.invokevirtual 80, 3) := by decide +kernel
theorem jd_M_withdraw_55 : decode jc_M_withdraw 55 = .ok (.ireturn, 1) := by decide +kernel
theorem jd_M_withdraw_56 : decode jc_M_withdraw 56 = .ok (.aload_n 0, 1) := by decide +kernel
theorem jd_M_withdraw_57 : decode jc_M_withdraw 57 = .ok (.getfield 149, 3) := by decide +kernel
theorem jd_M_withdraw_60 : decode jc_M_withdraw 60 = .ok (.bipush 40, 2) := by decide +kernel
theorem jd_M_withdraw_62 : decode jc_M_withdraw 62 = .ok (.if_icmp .ne 9, 3) := by decide +kernel
theorem jd_M_withdraw_65 : decode jc_M_withdraw 65 = .ok (.aload_n 0, 1) := by decide +kernel
theorem jd_M_withdraw_66 : decode jc_M_withdraw 66 = .ok (.iconst 4, 1) := by decide +kernel
theorem jd_M_withdraw_67 : decode jc_M_withdraw 67 = .ok (.invokevirtual 80, 3) := by decide +kernel
theorem jd_M_withdraw_70 : decode jc_M_withdraw 70 = .ok (.ireturn, 1) := by decide +kernel
theorem jd_M_withdraw_71 : decode jc_M_withdraw 71 = .ok (.aload_n 0, 1) := by decide +kernel
theorem jd_M_withdraw_72 : decode jc_M_withdraw 72 = .ok (.dup, 1) := by decide +kernel
theorem jd_M_withdraw_73 : decode jc_M_withdraw 73 = .ok (.getfield 149, 3) := by decide +kernel
theorem jd_M_withdraw_76 : decode jc_M_withdraw 76 = .ok (.iconst 1, 1) := by decide +kernel
theorem jd_M_withdraw_77 : decode jc_M_withdraw 77 = .ok (.iadd, 1) := by decide +kernel
theorem jd_M_withdraw_78 : decode jc_M_withdraw 78 = .ok (.putfield 149, 3) := by decide +kernel
theorem jd_M_withdraw_81 : decode jc_M_withdraw 81 = .ok (.aload_n 0, 1) := by decide +kernel
theorem jd_M_withdraw_82 : decode jc_M_withdraw 82 = .ok (.getfield 42, 3) := by decide +kernel
theorem jd_M_withdraw_85 : decode jc_M_withdraw 85 = .ok (.aload_n 0, 1) := by decide +kernel
theorem jd_M_withdraw_86 : decode jc_M_withdraw 86 = .ok (.getfield 149, 3) := by decide +kernel
theorem jd_M_withdraw_89 : decode jc_M_withdraw 89 = .ok (.iconst 1, 1) := by decide +kernel
theorem jd_M_withdraw_90 : decode jc_M_withdraw 90 = .ok (.iastore, 1) := by decide +kernel
theorem jd_M_withdraw_91 : decode jc_M_withdraw 91 = .ok (.aload_n 0, 1) := by decide +kernel
theorem jd_M_withdraw_92 : decode jc_M_withdraw 92 = .ok (.getfield 45, 3) := by decide +kernel
theorem jd_M_withdraw_95 : decode jc_M_withdraw 95 = .ok (.aload_n 0, 1) := by decide +kernel
theorem jd_M_withdraw_96 : decode jc_M_withdraw 96 = .ok (.getfield 149, 3) := by decide +kernel
theorem jd_M_withdraw_99 : decode jc_M_withdraw 99 = .ok (.aload_n 0, 1) := by decide +kernel
theorem jd_M_withdraw_100 : decode jc_M_withdraw 100 = .ok (.getfield 38, 3) := by decide +kernel
theorem jd_M_withdraw_103 : decode jc_M_withdraw 103 = .ok (.iastore, 1) := by decide +kernel
theorem jd_M_withdraw_104 : decode jc_M_withdraw 104 = .ok (.aload_n 0, 1) := by decide +kernel
theorem jd_M_withdraw_105 : decode jc_M_withdraw 105 = .ok (.getfield 48, 3) := by decide +kernel
theorem jd_M_withdraw_108 : decode jc_M_withdraw 108 = .ok (.aload_n 0, 1) := by decide +kernel
theorem jd_M_withdraw_109 : decode jc_M_withdraw 109 = .ok (.getfield 149, 3) := by decide +kernel
theorem jd_M_withdraw_112 : decode jc_M_withdraw 112 = .ok (.iload_n 1, 1) := by decide +kernel
theorem jd_M_withdraw_113 : decode jc_M_withdraw 113 = .ok (.iastore, 1) := by decide +kernel
theorem jd_M_withdraw_114 : decode jc_M_withdraw 114 = .ok (.aload_n 0, 1) := by decide +kernel
theorem jd_M_withdraw_115 : decode jc_M_withdraw 115 = .ok (.aload_n 0, 1) := by decide +kernel
theorem jd_M_withdraw_116 : decode jc_M_withdraw 116 = .ok (.getfield 149, 3) := by decide +kernel
theorem jd_M_withdraw_119 : decode jc_M_withdraw 119 = .ok (.invokevirtual 152, 3) := by decide +kernel
theorem jd_M_withdraw_122 : decode jc_M_withdraw 122 = .ok (.ireturn, 1) := by decide +kernel
theorem jd_M_mixed_0 : decode jc_M_mixed 0 = .ok (.iconst 0, 1) := by decide +kernel
theorem jd_M_mixed_1 : decode jc_M_mixed 1 = .ok (.istore_n 2, 1) := by decide +kernel
theorem jd_M_mixed_2 : decode jc_M_mixed 2 = .ok (.iconst 0, 1) := by decide +kernel
theorem jd_M_mixed_3 : decode jc_M_mixed 3 = .ok (.istore_n 3, 1) := by decide +kernel
theorem jd_M_mixed_4 : decode jc_M_mixed 4 = .ok (.iload_n 3, 1) := by decide +kernel
theorem jd_M_mixed_5 : decode jc_M_mixed 5 = .ok (.aload_n 0, 1) := by decide +kernel
theorem jd_M_mixed_6 : decode jc_M_mixed 6 = .ok (.getfield 32, 3) := by decide +kernel
theorem jd_M_mixed_9 : decode jc_M_mixed 9 = .ok (.iconst 0, 1) := by decide +kernel
theorem jd_M_mixed_10 : decode jc_M_mixed 10 = .ok (.iaload, 1) := by decide +kernel
theorem jd_M_mixed_11 : decode jc_M_mixed 11 = .ok (.if_icmp .gt 92, 3) := by decide +kernel
theorem jd_M_mixed_14 : decode jc_M_mixed 14 = .ok (.iload_n 3, 1) := by decide +kernel
theorem jd_M_mixed_15 : decode jc_M_mixed 15 = .ok (.aload_n 0, 1) := by decide +kernel
theorem jd_M_mixed_16 : decode jc_M_mixed 16 = .ok (.getfield 29, 3) := by decide +kernel
theorem jd_M_mixed_19 : decode jc_M_mixed 19 = .ok (.iconst 0, 1) := by decide +kernel
theorem jd_M_mixed_20 : decode jc_M_mixed 20 = .ok (.iaload, 1) := by decide +kernel
theorem jd_M_mixed_21 : decode jc_M_mixed 21 = .ok (.imul, 1) := by decide +kernel
theorem jd_M_mixed_22 : decode jc_M_mixed 22 = .ok (.iload_n 1, 1) := by decide +kernel
theorem jd_M_mixed_23 : decode jc_M_mixed 23 = .ok (.if_icmp .gt 80, 3) := by decide +kernel
theorem jd_M_mixed_26 : decode jc_M_mixed 26 = .ok (.iconst 0, 1) := by decide +kernel
theorem jd_M_mixed_27 : decode jc_M_mixed 27 = .ok (.istore 4, 2) := by decide +kernel
theorem jd_M_mixed_29 : decode jc_M_mixed 29 = .ok (.iload 4, 2) := by decide +kernel
theorem jd_M_mixed_31 : decode jc_M_mixed 31 = .ok (.aload_n 0, 1) := by decide +kernel
theorem jd_M_mixed_32 : decode jc_M_mixed 32 = .ok (.getfield 32, 3) := by decide +kernel
theorem jd_M_mixed_35 : decode jc_M_mixed 35 = .ok (.iconst 1, 1) := by decide +kernel
theorem jd_M_mixed_36 : decode jc_M_mixed 36 = .ok (.iaload, 1) := by decide +kernel
theorem jd_M_mixed_37 : decode jc_M_mixed 37 = .ok (.if_icmp .gt 60, 3) := by decide +kernel
theorem jd_M_mixed_40 : decode jc_M_mixed 40 = .ok (.iload_n 3, 1) := by decide +kernel
theorem jd_M_mixed_41 : decode jc_M_mixed 41 = .ok (.aload_n 0, 1) := by decide +kernel
theorem jd_M_mixed_42 : decode jc_M_mixed 42 = .ok (.getfield 29, 3) := by decide +kernel
theorem jd_M_mixed_45 : decode jc_M_mixed 45 = .ok (.iconst 0, 1) := by decide +kernel
theorem jd_M_mixed_46 : decode jc_M_mixed 46 = .ok (.iaload, 1) := by decide +kernel
theorem jd_M_mixed_47 : decode jc_M_mixed 47 = .ok (.imul, 1) := by decide +kernel
theorem jd_M_mixed_48 : decode jc_M_mixed 48 = .ok (.iload 4, 2) := by decide +kernel
theorem jd_M_mixed_50 : decode jc_M_mixed 50 = .ok (.aload_n 0, 1) := by decide +kernel
theorem jd_M_mixed_51 : decode jc_M_mixed 51 = .ok (.getfield 29, 3) := by decide +kernel
theorem jd_M_mixed_54 : decode jc_M_mixed 54 = .ok (.iconst 1, 1) := by decide +kernel
theorem jd_M_mixed_55 : decode jc_M_mixed 55 = .ok (.iaload, 1) := by decide +kernel
theorem jd_M_mixed_56 : decode jc_M_mixed 56 = .ok (.imul, 1) := by decide +kernel
theorem jd_M_mixed_57 : decode jc_M_mixed 57 = .ok (.iadd, 1) := by decide +kernel
theorem jd_M_mixed_58 : decode jc_M_mixed 58 = .ok (.iload_n 1, 1) := by decide +kernel
theorem jd_M_mixed_59 : decode jc_M_mixed 59 = .ok (.if_icmp .gt 38, 3) := by decide +kernel
theorem jd_M_mixed_62 : decode jc_M_mixed 62 = .ok (.aload_n 0, 1) := by decide +kernel
theorem jd_M_mixed_63 : decode jc_M_mixed 63 = .ok (.iload_n 1, 1) := by decide +kernel
theorem jd_M_mixed_64 : decode jc_M_mixed 64 = .ok (.iload_n 3, 1) := by decide +kernel
theorem jd_M_mixed_65 : decode jc_M_mixed 65 = .ok (.aload_n 0, 1) := by decide +kernel
theorem jd_M_mixed_66 : decode jc_M_mixed 66 = .ok (.getfield 29, 3) := by decide +kernel
theorem jd_M_mixed_69 : decode jc_M_mixed 69 = .ok (.iconst 0, 1) := by decide +kernel
theorem jd_M_mixed_70 : decode jc_M_mixed 70 = .ok (.iaload, 1) := by decide +kernel
theorem jd_M_mixed_71 : decode jc_M_mixed 71 = .ok (.imul, 1) := by decide +kernel
theorem jd_M_mixed_72 : decode jc_M_mixed 72 = .ok (.isub, 1) := by decide +kernel
theorem jd_M_mixed_73 : decode jc_M_mixed 73 = .ok (.iload 4, 2) := by decide +kernel
theorem jd_M_mixed_75 : decode jc_M_mixed 75 = .ok (.aload_n 0, 1) := by decide +kernel
theorem jd_M_mixed_76 : decode jc_M_mixed 76 = .ok (.getfield 29, 3) := by decide +kernel
theorem jd_M_mixed_79 : decode jc_M_mixed 79 = .ok (.iconst 1, 1) := by decide +kernel
theorem jd_M_mixed_80 : decode jc_M_mixed 80 = .ok (.iaload, 1) := by decide +kernel
theorem jd_M_mixed_81 : decode jc_M_mixed 81 = .ok (.imul, 1) := by decide +kernel
theorem jd_M_mixed_82 : decode jc_M_mixed 82 = .ok (.isub, 1) := by decide +kernel
theorem jd_M_mixed_83 : decode jc_M_mixed 83 = .ok (.iload_n 3, 1) := by decide +kernel
theorem jd_M_mixed_84 : decode jc_M_mixed 84 = .ok (.iload 4, 2) := by decide +kernel
theorem jd_M_mixed_86 : decode jc_M_mixed 86 = .ok (.iload_n 2, 1) := by decide +kernel
theorem jd_M_mixed_87 : decode jc_M_mixed 87 = .ok (.invokevirtual 99, 3) := by decide +kernel
theorem jd_M_mixed_90 : decode jc_M_mixed 90 = .ok (.istore_n 2, 1) := by decide +kernel
theorem jd_M_mixed_91 : decode jc_M_mixed 91 = .ok (.iinc 4 1, 3) := by decide +kernel
theorem jd_M_mixed_94 : decode jc_M_mixed 94 = .ok (.goto (-65), 3) := by decide +kernel
theorem jd_M_mixed_97 : decode jc_M_mixed 97 = .ok (.iinc 3 1, 3) := by decide +kernel
theorem jd_M_mixed_100 : decode jc_M_mixed 100 = .ok (.goto (-96), 3) := by decide +kernel
theorem jd_M_mixed_103 : decode jc_M_mixed 103 = .ok (.iload_n 2, 1) := by decide +kernel
theorem jd_M_mixed_104 : decode jc_M_mixed 104 = .ok (.ireturn, 1) := by decide +kernel
theorem jd_M_thirds_0 : decode jc_M_thirds 0 = .ok (.iload 4, 2) := by decide +kernel
theorem jd_M_thirds_2 : decode jc_M_thirds 2 = .ok (.istore 5, 2) := by decide +kernel
theorem jd_M_thirds_4 : decode jc_M_thirds 4 = .ok (.iconst 0, 1) := by decide +kernel
theorem jd_M_thirds_5 : decode jc_M_thirds 5 = .ok (.istore 6, 2) := by decide +kernel
theorem jd_M_thirds_7 : decode jc_M_thirds 7 = .ok (.iload 6, 2) := by decide +kernel
theorem jd_M_thirds_9 : decode jc_M_thirds 9 = .ok (.aload_n 0, 1) := by decide +kernel
theorem jd_M_thirds_10 : decode jc_M_thirds 10 = .ok (.getfield 32, 3) := by decide +kernel
theorem jd_M_thirds_13 : decode jc_M_thirds 13 = .ok (.iconst 2, 1) := by decide +kernel
theorem jd_M_thirds_14 : decode jc_M_thirds 14 = .ok (.iaload, 1) := by decide +kernel
theorem jd_M_thirds_15 : decode jc_M_thirds 15 = .ok (.if_icmp .gt 49, 3) := by decide +kernel
theorem jd_M_thirds_18 : decode jc_M_thirds 18 = .ok (.iload 6, 2) := by decide +kernel
theorem jd_M_thirds_20 : decode jc_M_thirds 20 = .ok (.aload_n 0, 1) := by decide +kernel
theorem jd_M_thirds_21 : decode jc_M_thirds 21 = .ok (.getfield 29, 3) := by decide +kernel
theorem jd_M_thirds_24 : decode jc_M_thirds 24 = .ok (.iconst 2, 1) := by decide +kernel
theorem jd_M_thirds_25 : decode jc_M_thirds 25 = .ok (.iaload, 1) := by decide +kernel
theorem jd_M_thirds_26 : decode jc_M_thirds 26 = .ok (.imul, 1) := by decide +kernel
theorem jd_M_thirds_27 : decode jc_M_thirds 27 = .ok (.iload_n 1, 1) := by decide +kernel
theorem jd_M_thirds_28 : decode jc_M_thirds 28 = .ok (.if_icmp .gt 36, 3) := by decide +kernel
theorem jd_M_thirds_31 : decode jc_M_thirds 31 = .ok (.aload_n 0, 1) := by decide +kernel
theorem jd_M_thirds_32 : decode jc_M_thirds 32 = .ok (.iload_n 1, 1) := by decide +kernel
theorem jd_M_thirds_33 : decode jc_M_thirds 33 = .ok (.iload 6, 2) := by decide +kernel
theorem jd_M_thirds_35 : decode jc_M_thirds 35 = .ok (.aload_n 0, 1) := by decide +kernel
theorem jd_M_thirds_36 : decode jc_M_thirds 36 = .ok (.getfield 29, 3) := by decide +kernel
theorem jd_M_thirds_39 : decode jc_M_thirds 39 = .ok (.iconst 2, 1) := by decide +kernel
theorem jd_M_thirds_40 : decode jc_M_thirds 40 = .ok (.iaload, 1) := by decide +kernel
theorem jd_M_thirds_41 : decode jc_M_thirds 41 = .ok (.imul, 1) := by decide +kernel
theorem jd_M_thirds_42 : decode jc_M_thirds 42 = .ok (.isub, 1) := by decide +kernel
theorem jd_M_thirds_43 : decode jc_M_thirds 43 = .ok (.iload_n 2, 1) := by decide +kernel
theorem jd_M_thirds_44 : decode jc_M_thirds 44 = .ok (.iload_n 3, 1) := by decide +kernel
theorem jd_M_thirds_45 : decode jc_M_thirds 45 = .ok (.iload 6, 2) := by decide +kernel
theorem jd_M_thirds_47 : decode jc_M_thirds 47 = .ok (.iload 5, 2) := by decide +kernel
theorem jd_M_thirds_49 : decode jc_M_thirds 49 = .ok (.invokevirtual 95, 3) := by decide +kernel
theorem jd_M_thirds_52 : decode jc_M_thirds 52 = .ok (.ifCond .eq 6, 3) := by decide +kernel
theorem jd_M_thirds_55 : decode jc_M_thirds 55 = .ok (.iconst 1, 1) := by decide +kernel
theorem jd_M_thirds_56 : decode jc_M_thirds 56 = .ok (.istore 5, 2) := by decide +kernel
theorem jd_M_thirds_58 : decode jc_M_thirds 58 = .ok (.iinc 6 1, 3) := by decide +kernel
theorem jd_M_thirds_61 : decode jc_M_thirds 61 = .ok (.goto (-54), 3) := by decide +kernel
theorem jd_M_thirds_64 : decode jc_M_thirds 64 = .ok (.iload 5, 2) := by decide +kernel
theorem jd_M_thirds_66 : decode jc_M_thirds 66 = .ok (.ireturn, 1) := by decide +kernel
theorem jd_M_better_0 : decode jc_M_better 0 = .ok (.iload_n 1, 1) := by decide +kernel
theorem jd_M_better_1 : decode jc_M_better 1 = .ok (.ifCond .lt 31, 3) := by decide +kernel
theorem jd_M_better_4 : decode jc_M_better 4 = .ok (.iload_n 1, 1) := by decide +kernel
theorem jd_M_better_5 : decode jc_M_better 5 = .ok (.aload_n 0, 1) := by decide +kernel
theorem jd_M_better_6 : decode jc_M_better 6 = .ok (.getfield 29, 3) := by decide +kernel
theorem jd_M_better_9 : decode jc_M_better 9 = .ok (.iconst 3, 1) := by decide +kernel
theorem jd_M_better_10 : decode jc_M_better 10 = .ok (.iaload, 1) := by decide +kernel
theorem jd_M_better_11 : decode jc_M_better 11 = .ok (.irem, 1) := by decide +kernel
theorem jd_M_better_12 : decode jc_M_better 12 = .ok (.ifCond .ne 20, 3) := by decide +kernel
theorem jd_M_better_15 : decode jc_M_better 15 = .ok (.iload_n 1, 1) := by decide +kernel
theorem jd_M_better_16 : decode jc_M_better 16 = .ok (.aload_n 0, 1) := by decide +kernel
theorem jd_M_better_17 : decode jc_M_better 17 = .ok (.getfield 29, 3) := by decide +kernel
theorem jd_M_better_20 : decode jc_M_better 20 = .ok (.iconst 3, 1) := by decide +kernel
theorem jd_M_better_21 : decode jc_M_better 21 = .ok (.iaload, 1) := by decide +kernel
theorem jd_M_better_22 : decode jc_M_better 22 = .ok (.idiv, 1) := by decide +kernel
theorem jd_M_better_23 : decode jc_M_better 23 = .ok (.aload_n 0, 1) := by decide +kernel
theorem jd_M_better_24 : decode jc_M_better 24 = .ok (.getfield 32, 3) := by decide +kernel
theorem jd_M_better_27 : decode jc_M_better 27 = .ok (.iconst 3, 1) := by decide +kernel
theorem jd_M_better_28 : decode jc_M_better 28 = .ok (.iaload, 1) := by decide +kernel
theorem jd_M_better_29 : decode jc_M_better 29 = .ok (.if_icmp .le 5, 3) := by decide +kernel
theorem jd_M_better_32 : decode jc_M_better 32 = .ok (.iconst 0, 1) := by decide +kernel
theorem jd_M_better_33 : decode jc_M_better 33 = .ok (.ireturn, 1) := by decide +kernel
theorem jd_M_better_34 : decode jc_M_better 34 = .ok (.aload_n 0, 1) := by decide +kernel
theorem jd_M_better_35 : decode jc_M_better 35 = .ok (.iload_n 2, 1) := by decide +kernel
theorem jd_M_better_36 : decode jc_M_better 36 = .ok (.iload_n 3, 1) := by decide +kernel
theorem jd_M_better_37 : decode jc_M_better 37 = .ok (.iload 4, 2) := by decide +kernel
theorem jd_M_better_39 : decode jc_M_better 39 = .ok (.iload_n 1, 1) := by decide +kernel
theorem jd_M_better_40 : decode jc_M_better 40 = .ok (.aload_n 0, 1) := by decide +kernel
theorem jd_M_better_41 : decode jc_M_better 41 = .ok (.getfield 29, 3) := by decide +kernel
theorem jd_M_better_44 : decode jc_M_better 44 = .ok (.iconst 3, 1) := by decide +kernel
theorem jd_M_better_45 : decode jc_M_better 45 = .ok (.iaload, 1) := by decide +kernel
theorem jd_M_better_46 : decode jc_M_better 46 = .ok (.idiv, 1) := by decide +kernel
theorem jd_M_better_47 : decode jc_M_better 47 = .ok (.invokevirtual 91, 3) := by decide +kernel
theorem jd_M_better_50 : decode jc_M_better 50 = .ok (.istore 6, 2) := by decide +kernel
theorem jd_M_better_52 : decode jc_M_better 52 = .ok (.aload_n 0, 1) := by decide +kernel
theorem jd_M_better_53 : decode jc_M_better 53 = .ok (.aload_n 0, 1) := by decide +kernel
theorem jd_M_better_54 : decode jc_M_better 54 = .ok (.getfield 35, 3) := by decide +kernel
theorem jd_M_better_57 : decode jc_M_better 57 = .ok (.iconst 0, 1) := by decide +kernel
theorem jd_M_better_58 : decode jc_M_better 58 = .ok (.iaload, 1) := by decide +kernel
theorem jd_M_better_59 : decode jc_M_better 59 = .ok (.aload_n 0, 1) := by decide +kernel
theorem jd_M_better_60 : decode jc_M_better 60 = .ok (.getfield 35, 3) := by decide +kernel
theorem jd_M_better_63 : decode jc_M_better 63 = .ok (.iconst 1, 1) := by decide +kernel
theorem jd_M_better_64 : decode jc_M_better 64 = .ok (.iaload, 1) := by decide +kernel
theorem jd_M_better_65 : decode jc_M_better 65 = .ok (.aload_n 0, 1) := by decide +kernel
theorem jd_M_better_66 : decode jc_M_better 66 = .ok (.getfield 35, 3) := by decide +kernel
theorem jd_M_better_69 : decode jc_M_better 69 = .ok (.iconst 2, 1) := by decide +kernel
theorem jd_M_better_70 : decode jc_M_better 70 = .ok (.iaload, 1) := by decide +kernel
theorem jd_M_better_71 : decode jc_M_better 71 = .ok (.aload_n 0, 1) := by decide +kernel
theorem jd_M_better_72 : decode jc_M_better 72 = .ok (.getfield 35, 3) := by decide +kernel
theorem jd_M_better_75 : decode jc_M_better 75 = .ok (.iconst 3, 1) := by decide +kernel
theorem jd_M_better_76 : decode jc_M_better 76 = .ok (.iaload, 1) := by decide +kernel
theorem jd_M_better_77 : decode jc_M_better 77 = .ok (.invokevirtual 91, 3) := by decide +kernel
theorem jd_M_better_80 : decode jc_M_better 80 = .ok (.istore 7, 2) := by decide +kernel
theorem jd_M_better_82 : decode jc_M_better 82 = .ok (.iload 5, 2) := by decide +kernel
theorem jd_M_better_84 : decode jc_M_better 84 = .ok (.ifCond .eq 12, 3) := by decide +kernel
theorem jd_M_better_87 : decode jc_M_better 87 = .ok (.iload 6, 2) := by decide +kernel
theorem jd_M_better_89 : decode jc_M_better 89 = .ok (.iload 7, 2) := by decide +kernel
theorem jd_M_better_91 : decode jc_M_better 91 = .ok (.if_icmp .le 5, 3) := by decide +kernel
theorem jd_M_better_94 : decode jc_M_better 94 = .ok (.iconst 0, 1) := by decide +kernel
theorem jd_M_better_95 : decode jc_M_better 95 = .ok (.ireturn, 1) := by decide +kernel
theorem jd_M_better_96 : decode jc_M_better 96 = .ok (.iload 5, 2) := by decide +kernel
theorem jd_M_better_98 : decode jc_M_better 98 = .ok (.ifCond .eq 69, 3) := by decide +kernel
theorem jd_M_better_101 : decode jc_M_better 101 = .ok (.iload 6, 2) := by decide +kernel
theorem jd_M_better_103 : decode jc_M_better 103 = .ok (.iload 7, 2) := by decide +kernel
theorem jd_M_better_105 : decode jc_M_better 105 = .ok (.if_icmp .ne 62, 3) := by decide +kernel
theorem jd_M_better_108 : decode jc_M_better 108 = .ok (.iload_n 2, 1) := by decide +kernel
theorem jd_M_better_109 : decode jc_M_better 109 = .ok (.aload_n 0, 1) := by decide +kernel
theorem jd_M_better_110 : decode jc_M_better 110 = .ok (.getfield 35, 3) := by decide +kernel
theorem jd_M_better_113 : decode jc_M_better 113 = .ok (.iconst 0, 1) := by decide +kernel
theorem jd_M_better_114 : decode jc_M_better 114 = .ok (.iaload, 1) := by decide +kernel
theorem jd_M_better_115 : decode jc_M_better 115 = .ok (.if_icmp .eq 16, 3) := by decide +kernel
theorem jd_M_better_118 : decode jc_M_better 118 = .ok (.iload_n 2, 1) := by decide +kernel
theorem jd_M_better_119 : decode jc_M_better 119 = .ok (.aload_n 0, 1) := by decide +kernel
theorem jd_M_better_120 : decode jc_M_better 120 = .ok (.getfield 35, 3) := by decide +kernel
theorem jd_M_better_123 : decode jc_M_better 123 = .ok (.iconst 0, 1) := by decide +kernel
theorem jd_M_better_124 : decode jc_M_better 124 = .ok (.iaload, 1) := by decide +kernel
theorem jd_M_better_125 : decode jc_M_better 125 = .ok (.if_icmp .ge 42, 3) := by decide +kernel
theorem jd_M_better_128 : decode jc_M_better 128 = .ok (.goto 37, 3) := by decide +kernel
theorem jd_M_better_131 : decode jc_M_better 131 = .ok (.iload_n 3, 1) := by decide +kernel
theorem jd_M_better_132 : decode jc_M_better 132 = .ok (.aload_n 0, 1) := by decide +kernel
theorem jd_M_better_133 : decode jc_M_better 133 = .ok (.getfield 35, 3) := by decide +kernel
theorem jd_M_better_136 : decode jc_M_better 136 = .ok (.iconst 1, 1) := by decide +kernel
theorem jd_M_better_137 : decode jc_M_better 137 = .ok (.iaload, 1) := by decide +kernel
theorem jd_M_better_138 : decode jc_M_better 138 = .ok (.if_icmp .eq 16, 3) := by decide +kernel
theorem jd_M_better_141 : decode jc_M_better 141 = .ok (.iload_n 3, 1) := by decide +kernel
theorem jd_M_better_142 : decode jc_M_better 142 = .ok (.aload_n 0, 1) := by decide +kernel
theorem jd_M_better_143 : decode jc_M_better 143 = .ok (.getfield 35, 3) := by decide +kernel
theorem jd_M_better_146 : decode jc_M_better 146 = .ok (.iconst 1, 1) := by decide +kernel
theorem jd_M_better_147 : decode jc_M_better 147 = .ok (.iaload, 1) := by decide +kernel
theorem jd_M_better_148 : decode jc_M_better 148 = .ok (.if_icmp .ge 19, 3) := by decide +kernel
theorem jd_M_better_151 : decode jc_M_better 151 = .ok (.goto 14, 3) := by decide +kernel
theorem jd_M_better_154 : decode jc_M_better 154 = .ok (.iload 4, 2) := by decide +kernel
theorem jd_M_better_156 : decode jc_M_better 156 = .ok (.aload_n 0, 1) := by decide +kernel
theorem jd_M_better_157 : decode jc_M_better 157 = .ok (.getfield 35, 3) := by decide +kernel
theorem jd_M_better_160 : decode jc_M_better 160 = .ok (.iconst 2, 1) := by decide +kernel
theorem jd_M_better_161 : decode jc_M_better 161 = .ok (.iaload, 1) := by decide +kernel
theorem jd_M_better_162 : decode jc_M_better 162 = .ok (.if_icmp .gt 5, 3) := by decide +kernel
theorem jd_M_better_165 : decode jc_M_better 165 = .ok (.iconst 0, 1) := by decide +kernel
theorem jd_M_better_166 : decode jc_M_better 166 = .ok (.ireturn, 1) := by decide +kernel
theorem jd_M_better_167 : decode jc_M_better 167 = .ok (.aload_n 0, 1) := by decide +kernel
theorem jd_M_better_168 : decode jc_M_better 168 = .ok (.getfield 35, 3) := by decide +kernel
theorem jd_M_better_171 : decode jc_M_better 171 = .ok (.iconst 0, 1) := by decide +kernel
theorem jd_M_better_172 : decode jc_M_better 172 = .ok (.iload_n 2, 1) := by decide +kernel
theorem jd_M_better_173 : decode jc_M_better 173 = .ok (.iastore, 1) := by decide +kernel
theorem jd_M_better_174 : decode jc_M_better 174 = .ok (.aload_n 0, 1) := by decide +kernel
theorem jd_M_better_175 : decode jc_M_better 175 = .ok (.getfield 35, 3) := by decide +kernel
theorem jd_M_better_178 : decode jc_M_better 178 = .ok (.iconst 1, 1) := by decide +kernel
theorem jd_M_better_179 : decode jc_M_better 179 = .ok (.iload_n 3, 1) := by decide +kernel
theorem jd_M_better_180 : decode jc_M_better 180 = .ok (.iastore, 1) := by decide +kernel
theorem jd_M_better_181 : decode jc_M_better 181 = .ok (.aload_n 0, 1) := by decide +kernel
theorem jd_M_better_182 : decode jc_M_better 182 = .ok (.getfield 35, 3) := by decide +kernel
theorem jd_M_better_185 : decode jc_M_better 185 = .ok (.iconst 2, 1) := by decide +kernel
theorem jd_M_better_186 : decode jc_M_better 186 = .ok (.iload 4, 2) := by decide +kernel
theorem jd_M_better_188 : decode jc_M_better 188 = .ok (.iastore, 1) := by decide +kernel
theorem jd_M_better_189 : decode jc_M_better 189 = .ok (.aload_n 0, 1) := by decide +kernel
theorem jd_M_better_190 : decode jc_M_better 190 = .ok (.getfield 35, 3) := by decide +kernel
theorem jd_M_better_193 : decode jc_M_better 193 = .ok (.iconst 3, 1) := by decide +kernel
theorem jd_M_better_194 : decode jc_M_better 194 = .ok (.iload_n 1, 1) := by decide +kernel
theorem jd_M_better_195 : decode jc_M_better 195 = .ok (.aload_n 0, 1) := by decide +kernel
theorem jd_M_better_196 : decode jc_M_better 196 = .ok (.getfield 29, 3) := by decide +kernel
theorem jd_M_better_199 : decode jc_M_better 199 = .ok (.iconst 3, 1) := by decide +kernel
theorem jd_M_better_200 : decode jc_M_better 200 = .ok (.iaload, 1) := by decide +kernel
theorem jd_M_better_201 : decode jc_M_better 201 = .ok (.idiv, 1) := by decide +kernel
theorem jd_M_better_202 : decode jc_M_better 202 = .ok (.iastore, 1) := by decide +kernel
theorem jd_M_better_203 : decode jc_M_better 203 = .ok (.iconst 1, 1) := by decide +kernel
theorem jd_M_better_204 : decode jc_M_better 204 = .ok (.ireturn, 1) := by decide +kernel
theorem jd_M_notesOf_0 : decode jc_M_notesOf 0 = .ok (.iload_n 1, 1) := by decide +kernel
theorem jd_M_notesOf_1 : decode jc_M_notesOf 1 = .ok (.iload_n 2, 1) := by decide +kernel
theorem jd_M_notesOf_2 : decode jc_M_notesOf 2 = .ok (.iadd, 1) := by decide +kernel
theorem jd_M_notesOf_3 : decode jc_M_notesOf 3 = .ok (.iload_n 3, 1) := by decide +kernel
theorem jd_M_notesOf_4 : decode jc_M_notesOf 4 = .ok (.iadd, 1) := by decide +kernel
theorem jd_M_notesOf_5 : decode jc_M_notesOf 5 = .ok (.iload 4, 2) := by decide +kernel
theorem jd_M_notesOf_7 : decode jc_M_notesOf 7 = .ok (.iadd, 1) := by decide +kernel
theorem jd_M_notesOf_8 : decode jc_M_notesOf 8 = .ok (.ireturn, 1) := by decide +kernel
theorem jd_M_give_0 : decode jc_M_give 0 = .ok (.aload_n 0, 1) := by decide +kernel
theorem jd_M_give_1 : decode jc_M_give 1 = .ok (.iconst 1, 1) := by decide +kernel
theorem jd_M_give_2 : decode jc_M_give 2 = .ok (.invokevirtual 128, 3) := by decide +kernel
theorem jd_M_give_5 : decode jc_M_give 5 = .ok (.ifCond .eq 6, 3) := by decide +kernel
theorem jd_M_give_8 : decode jc_M_give 8 = .ok (.bipush (-3), 2) := by decide +kernel
theorem jd_M_give_10 : decode jc_M_give 10 = .ok (.ireturn, 1) := by decide +kernel
theorem jd_M_give_11 : decode jc_M_give 11 = .ok (.aload_n 0, 1) := by decide +kernel
theorem jd_M_give_12 : decode jc_M_give 12 = .ok (.invokevirtual 132, 3) := by decide +kernel
theorem jd_M_give_15 : decode jc_M_give 15 = .ok (.istore_n 2, 1) := by decide +kernel
theorem jd_M_give_16 : decode jc_M_give 16 = .ok (.iload_n 2, 1) := by decide +kernel
theorem jd_M_give_17 : decode jc_M_give 17 = .ok (.iconst 1, 1) := by decide +kernel
theorem jd_M_give_18 : decode jc_M_give 18 = .ok (.if_icmp .eq 8, 3) := by decide +kernel
theorem jd_M_give_21 : decode jc_M_give 21 = .ok (.aload_n 0, 1) := by decide +kernel
theorem jd_M_give_22 : decode jc_M_give 22 = .ok (.iload_n 1, 1) := by decide +kernel
theorem jd_M_give_23 : decode jc_M_give 23 = .ok (.invokevirtual 136, 3) := by decide +kernel
theorem jd_M_give_26 : decode jc_M_give 26 = .ok (.iload_n 2, 1) := by decide +kernel
theorem jd_M_give_27 : decode jc_M_give 27 = .ok (.iconst 1, 1) := by decide +kernel
theorem jd_M_give_28 : decode jc_M_give 28 = .ok (.if_icmp .eq 8, 3) := by decide +kernel
theorem jd_M_give_31 : decode jc_M_give 31 = .ok (.iload_n 2, 1) := by decide +kernel
theorem jd_M_give_32 : decode jc_M_give 32 = .ok (.iconst 2, 1) := by decide +kernel
theorem jd_M_give_33 : decode jc_M_give 33 = .ok (.if_icmp .ne 24, 3) := by decide +kernel
theorem jd_M_give_36 : decode jc_M_give 36 = .ok (.aload_n 0, 1) := by decide +kernel
theorem jd_M_give_37 : decode jc_M_give 37 = .ok (.getfield 42, 3) := by decide +kernel
theorem jd_M_give_40 : decode jc_M_give 40 = .ok (.iload_n 1, 1) := by decide +kernel
theorem jd_M_give_41 : decode jc_M_give 41 = .ok (.iconst 4, 1) := by decide +kernel
theorem jd_M_give_42 : decode jc_M_give 42 = .ok (.iastore, 1) := by decide +kernel
theorem jd_M_give_43 : decode jc_M_give 43 = .ok (.aload_n 0, 1) := by decide +kernel
theorem jd_M_give_44 : decode jc_M_give 44 = .ok (.iload_n 1, 1) := by decide +kernel
theorem jd_M_give_45 : decode jc_M_give 45 = .ok (.aload_n 0, 1) := by decide +kernel
theorem jd_M_give_46 : decode jc_M_give 46 = .ok (.getfield 48, 3) := by decide +kernel
theorem jd_M_give_49 : decode jc_M_give 49 = .ok (.iload_n 1, 1) := by decide +kernel
theorem jd_M_give_50 : decode jc_M_give 50 = .ok (.iaload, 1) := by decide +kernel
theorem jd_M_give_51 : decode jc_M_give 51 = .ok (.invokevirtual 124, 3) := by decide +kernel
theorem jd_M_give_54 : decode jc_M_give 54 = .ok (.bipush (-2), 2) := by decide +kernel
theorem jd_M_give_56 : decode jc_M_give 56 = .ok (.ireturn, 1) := by decide +kernel
theorem jd_M_give_57 : decode jc_M_give 57 = .ok (.aload_n 0, 1) := by decide +kernel
theorem jd_M_give_58 : decode jc_M_give 58 = .ok (.getfield 54, 3) := by decide +kernel
theorem jd_M_give_61 : decode jc_M_give 61 = .ok (.iload_n 1, 1) := by decide +kernel
theorem jd_M_give_62 : decode jc_M_give 62 = .ok (.iaload, 1) := by decide +kernel
theorem jd_M_give_63 : decode jc_M_give 63 = .ok (.iconst 2, 1) := by decide +kernel
theorem jd_M_give_64 : decode jc_M_give 64 = .ok (.if_icmp .ne 12, 3) := by decide +kernel
theorem jd_M_give_67 : decode jc_M_give 67 = .ok (.aload_n 0, 1) := by decide +kernel
theorem jd_M_give_68 : decode jc_M_give 68 = .ok (.getfield 42, 3) := by decide +kernel
theorem jd_M_give_71 : decode jc_M_give 71 = .ok (.iload_n 1, 1) := by decide +kernel
theorem jd_M_give_72 : decode jc_M_give 72 = .ok (.iconst 4, 1) := by decide +kernel
theorem jd_M_give_73 : decode jc_M_give 73 = .ok (.iastore, 1) := by decide +kernel
theorem jd_M_give_74 : decode jc_M_give 74 = .ok (.iconst (-1), 1) := by decide +kernel
theorem jd_M_give_75 : decode jc_M_give 75 = .ok (.ireturn, 1) := by decide +kernel
theorem jd_M_give_76 : decode jc_M_give 76 = .ok (.aload_n 0, 1) := by decide +kernel
theorem jd_M_give_77 : decode jc_M_give 77 = .ok (.iconst 2, 1) := by decide +kernel
theorem jd_M_give_78 : decode jc_M_give 78 = .ok (.invokevirtual 128, 3) := by decide +kernel
theorem jd_M_give_81 : decode jc_M_give 81 = .ok (.ifCond .eq 6, 3) := by decide +kernel
theorem jd_M_give_84 : decode jc_M_give 84 = .ok (.bipush (-3), 2) := by decide +kernel
theorem jd_M_give_86 : decode jc_M_give 86 = .ok (.ireturn, 1) := by decide +kernel
theorem jd_M_give_87 : decode jc_M_give 87 = .ok (.aload_n 0, 1) := by decide +kernel
theorem jd_M_give_88 : decode jc_M_give 88 = .ok (.getfield 42, 3) := by decide +kernel
theorem jd_M_give_91 : decode jc_M_give 91 = .ok (.iload_n 1, 1) := by decide +kernel
theorem jd_M_give_92 : decode jc_M_give 92 = .ok (.iconst 2, 1) := by decide +kernel
theorem jd_M_give_93 : decode jc_M_give 93 = .ok (.iastore, 1) := by decide +kernel
theorem jd_M_give_94 : decode jc_M_give 94 = .ok (.aload_n 0, 1) := by decide +kernel
theorem jd_M_give_95 : decode jc_M_give 95 = .ok (.iconst 3, 1) := by decide +kernel
theorem jd_M_give_96 : decode jc_M_give 96 = .ok (.invokevirtual 128, 3) := by decide +kernel
theorem jd_M_give_99 : decode jc_M_give 99 = .ok (.ifCond .eq 6, 3) := by decide +kernel
theorem jd_M_give_102 : decode jc_M_give 102 = .ok (.bipush (-3), 2) := by decide +kernel
theorem jd_M_give_104 : decode jc_M_give 104 = .ok (.ireturn, 1) := by decide +kernel
theorem jd_M_give_105 : decode jc_M_give 105 = .ok (.aload_n 0, 1) := by decide +kernel
theorem jd_M_give_106 : decode jc_M_give 106 = .ok (.iload_n 1, 1) := by decide +kernel
theorem jd_M_give_107 : decode jc_M_give 107 = .ok (.invokevirtual 140, 3) := by decide +kernel
theorem jd_M_give_110 : decode jc_M_give 110 = .ok (.aload_n 0, 1) := by decide +kernel
theorem jd_M_give_111 : decode jc_M_give 111 = .ok (.iconst 4, 1) := by decide +kernel
theorem jd_M_give_112 : decode jc_M_give 112 = .ok (.invokevirtual 128, 3) := by decide +kernel
theorem jd_M_give_115 : decode jc_M_give 115 = .ok (.ifCond .eq 6, 3) := by decide +kernel
theorem jd_M_give_118 : decode jc_M_give 118 = .ok (.bipush (-3), 2) := by decide +kernel
theorem jd_M_give_120 : decode jc_M_give 120 = .ok (.ireturn, 1) := by decide +kernel
theorem jd_M_give_121 : decode jc_M_give 121 = .ok (.aload_n 0, 1) := by decide +kernel
theorem jd_M_give_122 : decode jc_M_give 122 = .ok (.iload_n 1, 1) := by decide +kernel
theorem jd_M_give_123 : decode jc_M_give 123 = .ok (.aload_n 0, 1) := by decide +kernel
theorem jd_M_give_124 : decode jc_M_give 124 = .ok (.getfield 118, 3) := by decide +kernel
theorem jd_M_give_127 : decode jc_M_give 127 = .ok (.invokevirtual 143, 3) := by decide +kernel
theorem jd_M_give_130 : decode jc_M_give 130 = .ok (.aload_n 0, 1) := by decide +kernel
theorem jd_M_give_131 : decode jc_M_give 131 = .ok (.getfield 118, 3) := by decide +kernel
theorem jd_M_give_134 : decode jc_M_give 134 = .ok (.ireturn, 1) := by decide +kernel
theorem jd_M_cut_0 : decode jc_M_cut 0 = .ok (.aload_n 0, 1) := by decide +kernel
theorem jd_M_cut_1 : decode jc_M_cut 1 = .ok (.getfield 109, 3) := by decide +kernel
theorem jd_M_cut_4 : decode jc_M_cut 4 = .ok (.iload_n 1, 1) := by decide +kernel
theorem jd_M_cut_5 : decode jc_M_cut 5 = .ok (.if_icmp .eq 5, 3) := by decide +kernel
theorem jd_M_cut_8 : decode jc_M_cut 8 = .ok (.iconst 0, 1) := by decide +kernel
theorem jd_M_cut_9 : decode jc_M_cut 9 = .ok (.ireturn, 1) := by decide +kernel
theorem jd_M_cut_10 : decode jc_M_cut 10 = .ok (.aload_n 0, 1) := by decide +kernel
theorem jd_M_cut_11 : decode jc_M_cut 11 = .ok (.iconst 0, 1) := by decide +kernel
theorem jd_M_cut_12 : decode jc_M_cut 12 = .ok (.putfield 109, 3) := by decide +kernel
theorem jd_M_cut_15 : decode jc_M_cut 15 = .ok (.aload_n 0, 1) := by decide +kernel
theorem jd_M_cut_16 : decode jc_M_cut 16 = .ok (.iconst 1, 1) := by decide +kernel
theorem jd_M_cut_17 : decode jc_M_cut 17 = .ok (.putfield 84, 3) := by decide +kernel
theorem jd_M_cut_20 : decode jc_M_cut 20 = .ok (.aload_n 0, 1) := by decide +kernel
theorem jd_M_cut_21 : decode jc_M_cut 21 = .ok (.iconst (-1), 1) := by decide +kernel
theorem jd_M_cut_22 : decode jc_M_cut 22 = .ok (.putfield 38, 3) := by decide +kernel
theorem jd_M_cut_25 : decode jc_M_cut 25 = .ok (.aload_n 0, 1) := by decide +kernel
theorem jd_M_cut_26 : decode jc_M_cut 26 = .ok (.iconst 0, 1) := by decide +kernel
theorem jd_M_cut_27 : decode jc_M_cut 27 = .ok (.putfield 88, 3) := by decide +kernel
theorem jd_M_cut_30 : decode jc_M_cut 30 = .ok (.iconst 1, 1) := by decide +kernel
theorem jd_M_cut_31 : decode jc_M_cut 31 = .ok (.ireturn, 1) := by decide +kernel
theorem jd_M_fate_0 : decode jc_M_fate 0 = .ok (.aload_n 0, 1) := by decide +kernel
theorem jd_M_fate_1 : decode jc_M_fate 1 = .ok (.getfield 103, 3) := by decide +kernel
theorem jd_M_fate_4 : decode jc_M_fate 4 = .ok (.ifCond .ne 5, 3) := by decide +kernel
theorem jd_M_fate_7 : decode jc_M_fate 7 = .ok (.iconst 0, 1) := by decide +kernel
theorem jd_M_fate_8 : decode jc_M_fate 8 = .ok (.ireturn, 1) := by decide +kernel
theorem jd_M_fate_9 : decode jc_M_fate 9 = .ok (.aload_n 0, 1) := by decide +kernel
theorem jd_M_fate_10 : decode jc_M_fate 10 = .ok (.getfield 66, 3) := by decide +kernel
theorem jd_M_fate_13 : decode jc_M_fate 13 = .ok (.iconst 0, 1) := by decide +kernel
theorem jd_M_fate_14 : decode jc_M_fate 14 = .ok (.iaload, 1) := by decide +kernel
theorem jd_M_fate_15 : decode jc_M_fate 15 = .ok (.istore_n 1, 1) := by decide +kernel
theorem jd_M_fate_16 : decode jc_M_fate 16 = .ok (.aload_n 0, 1) := by decide +kernel
theorem jd_M_fate_17 : decode jc_M_fate 17 = .ok (.dup, 1) := by decide +kernel
theorem jd_M_fate_18 : decode jc_M_fate 18 = .ok (.getfield 103, 3) := by decide +kernel
theorem jd_M_fate_21 : decode jc_M_fate 21 = .ok (.iconst 1, 1) := by decide +kernel
theorem jd_M_fate_22 : decode jc_M_fate 22 = .ok (.isub, 1) := by decide +kernel
theorem jd_M_fate_23 : decode jc_M_fate 23 = .ok (.putfield 103, 3) := by decide +kernel
theorem jd_M_fate_26 : decode jc_M_fate 26 = .ok (.iconst 0, 1) := by decide +kernel
theorem jd_M_fate_27 : decode jc_M_fate 27 = .ok (.istore_n 2, 1) := by decide +kernel
theorem jd_M_fate_28 : decode jc_M_fate 28 = .ok (.iload_n 2, 1) := by decide +kernel
theorem jd_M_fate_29 : decode jc_M_fate 29 = .ok (.aload_n 0, 1) := by decide +kernel
theorem jd_M_fate_30 : decode jc_M_fate 30 = .ok (.getfield 103, 3) := by decide +kernel
theorem jd_M_fate_33 : decode jc_M_fate 33 = .ok (.if_icmp .ge 23, 3) := by decide +kernel
theorem jd_M_fate_36 : decode jc_M_fate 36 = .ok (.aload_n 0, 1) := by decide +kernel
theorem jd_M_fate_37 : decode jc_M_fate 37 = .ok (.getfield 66, 3) := by decide +kernel
theorem jd_M_fate_40 : decode jc_M_fate 40 = .ok (.iload_n 2, 1) := by decide +kernel
theorem jd_M_fate_41 : decode jc_M_fate 41 = .ok (.aload_n 0, 1) := by decide +kernel
theorem jd_M_fate_42 : decode jc_M_fate 42 = .ok (.getfield 66, 3) := by decide +kernel
theorem jd_M_fate_45 : decode jc_M_fate 45 = .ok (.iload_n 2, 1) := by decide +kernel
theorem jd_M_fate_46 : decode jc_M_fate 46 = .ok (.iconst 1, 1) := by decide +kernel
theorem jd_M_fate_47 : decode jc_M_fate 47 = .ok (.iadd, 1) := by decide +kernel
theorem jd_M_fate_48 : decode jc_M_fate 48 = .ok (.iaload, 1) := by decide +kernel
theorem jd_M_fate_49 : decode jc_M_fate 49 = .ok (.iastore, 1) := by decide +kernel
theorem jd_M_fate_50 : decode jc_M_fate 50 = .ok (.iinc 2 1, 3) := by decide +kernel
theorem jd_M_fate_53 : decode jc_M_fate 53 = .ok (.goto (-25), 3) := by decide +kernel
theorem jd_M_fate_56 : decode jc_M_fate 56 = .ok (.iload_n 1, 1) := by decide +kernel
theorem jd_M_fate_57 : decode jc_M_fate 57 = .ok (.ireturn, 1) := by decide +kernel
theorem jd_M_request_0 : decode jc_M_request 0 = .ok (.aload_n 0, 1) := by decide +kernel
theorem jd_M_request_1 : decode jc_M_request 1 = .ok (.getfield 54, 3) := by decide +kernel
theorem jd_M_request_4 : decode jc_M_request 4 = .ok (.iload_n 1, 1) := by decide +kernel
theorem jd_M_request_5 : decode jc_M_request 5 = .ok (.iaload, 1) := by decide +kernel
theorem jd_M_request_6 : decode jc_M_request 6 = .ok (.ifCond .eq 4, 3) := by decide +kernel
theorem jd_M_request_9 : decode jc_M_request 9 = .ok (.return_, 1) := by decide +kernel
theorem jd_M_request_10 : decode jc_M_request 10 = .ok (.aload_n 0, 1) := by decide +kernel
theorem jd_M_request_11 : decode jc_M_request 11 = .ok (.getfield 45, 3) := by decide +kernel
theorem jd_M_request_14 : decode jc_M_request 14 = .ok (.iload_n 1, 1) := by decide +kernel
theorem jd_M_request_15 : decode jc_M_request 15 = .ok (.iaload, 1) := by decide +kernel
theorem jd_M_request_16 : decode jc_M_request 16 = .ok (.istore_n 2, 1) := by decide +kernel
theorem jd_M_request_17 : decode jc_M_request 17 = .ok (.aload_n 0, 1) := by decide +kernel
theorem jd_M_request_18 : decode jc_M_request 18 = .ok (.getfield 57, 3) := by decide +kernel
theorem jd_M_request_21 : decode jc_M_request 21 = .ok (.iload_n 1, 1) := by decide +kernel
theorem jd_M_request_22 : decode jc_M_request 22 = .ok (.baload, 1) := by decide +kernel
theorem jd_M_request_23 : decode jc_M_request 23 = .ok (.ifCond .ne 27, 3) := by decide +kernel
theorem jd_M_request_26 : decode jc_M_request 26 = .ok (.aload_n 0, 1) := by decide +kernel
theorem jd_M_request_27 : decode jc_M_request 27 = .ok (.getfield 26, 3) := by decide +kernel
theorem jd_M_request_30 : decode jc_M_request 30 = .ok (.iload_n 2, 1) := by decide +kernel
theorem jd_M_request_31 : decode jc_M_request 31 = .ok (.baload, 1) := by decide +kernel
theorem jd_M_request_32 : decode jc_M_request 32 = .ok (.ifCond .ne 18, 3) := by decide +kernel
theorem jd_M_request_35 : decode jc_M_request 35 = .ok (.aload_n 0, 1) := by decide +kernel
theorem jd_M_request_36 : decode jc_M_request 36 = .ok (.getfield 20, 3) := by decide +kernel
theorem jd_M_request_39 : decode jc_M_request 39 = .ok (.iload_n 2, 1) := by decide +kernel
theorem jd_M_request_40 : decode jc_M_request 40 = .ok (.iaload, 1) := by decide +kernel
theorem jd_M_request_41 : decode jc_M_request 41 = .ok (.aload_n 0, 1) := by decide +kernel
theorem jd_M_request_42 : decode jc_M_request 42 = .ok (.getfield 48, 3) := by decide +kernel
theorem jd_M_request_45 : decode jc_M_request 45 = .ok (.iload_n 1, 1) := by decide +kernel
theorem jd_M_request_46 : decode jc_M_request 46 = .ok (.iaload, 1) := by decide +kernel
theorem jd_M_request_47 : decode jc_M_request 47 = .ok (.if_icmp .ge 13, 3) := by decide +kernel
theorem jd_M_request_50 : decode jc_M_request 50 = .ok (.aload_n 0, 1) := by decide +kernel
theorem jd_M_request_51 : decode jc_M_request 51 = .ok (.getfield 54, 3) := by decide +kernel
theorem jd_M_request_54 : decode jc_M_request 54 = .ok (.iload_n 1, 1) := by decide +kernel
theorem jd_M_request_55 : decode jc_M_request 55 = .ok (.iconst 2, 1) := by decide +kernel
theorem jd_M_request_56 : decode jc_M_request 56 = .ok (.iastore, 1) := by decide +kernel
theorem jd_M_request_57 : decode jc_M_request 57 = .ok (.goto 25, 3) := by decide +kernel
theorem jd_M_request_60 : decode jc_M_request 60 = .ok (.aload_n 0, 1) := by decide +kernel
theorem jd_M_request_61 : decode jc_M_request 61 = .ok (.getfield 54, 3) := by decide +kernel
theorem jd_M_request_64 : decode jc_M_request 64 = .ok (.iload_n 1, 1) := by decide +kernel
theorem jd_M_request_65 : decode jc_M_request 65 = .ok (.iconst 1, 1) := by decide +kernel
theorem jd_M_request_66 : decode jc_M_request 66 = .ok (.iastore, 1) := by decide +kernel
theorem jd_M_request_67 : decode jc_M_request 67 = .ok (.aload_n 0, 1) := by decide +kernel
theorem jd_M_request_68 : decode jc_M_request 68 = .ok (.getfield 20, 3) := by decide +kernel
theorem jd_M_request_71 : decode jc_M_request 71 = .ok (.iload_n 2, 1) := by decide +kernel
theorem jd_M_request_72 : decode jc_M_request 72 = .ok (.dup2, 1) := by decide +kernel
theorem jd_M_request_73 : decode jc_M_request 73 = .ok (.iaload, 1) := by decide +kernel
theorem jd_M_request_74 : decode jc_M_request 74 = .ok (.aload_n 0, 1) := by decide +kernel
theorem jd_M_request_75 : decode jc_M_request 75 = .ok (.getfield 48, 3) := by decide +kernel
theorem jd_M_request_78 : decode jc_M_request 78 = .ok (.iload_n 1, 1) := by decide +kernel
theorem jd_M_request_79 : decode jc_M_request 79 = .ok (.iaload, 1) := by decide +kernel
theorem jd_M_request_80 : decode jc_M_request 80 = .ok (.isub, 1) := by decide +kernel
theorem jd_M_request_81 : decode jc_M_request 81 = .ok (.iastore, 1) := by decide +kernel
theorem jd_M_request_82 : decode jc_M_request 82 = .ok (.return_, 1) := by decide +kernel
theorem jd_M_owe_0 : decode jc_M_owe 0 = .ok (.aload_n 0, 1) := by decide +kernel
theorem jd_M_owe_1 : decode jc_M_owe 1 = .ok (.getfield 60, 3) := by decide +kernel
theorem jd_M_owe_4 : decode jc_M_owe 4 = .ok (.aload_n 0, 1) := by decide +kernel
theorem jd_M_owe_5 : decode jc_M_owe 5 = .ok (.getfield 106, 3) := by decide +kernel
theorem jd_M_owe_8 : decode jc_M_owe 8 = .ok (.iload_n 1, 1) := by decide +kernel
theorem jd_M_owe_9 : decode jc_M_owe 9 = .ok (.iastore, 1) := by decide +kernel
theorem jd_M_owe_10 : decode jc_M_owe 10 = .ok (.aload_n 0, 1) := by decide +kernel
theorem jd_M_owe_11 : decode jc_M_owe 11 = .ok (.getfield 63, 3) := by decide +kernel
theorem jd_M_owe_14 : decode jc_M_owe 14 = .ok (.aload_n 0, 1) := by decide +kernel
theorem jd_M_owe_15 : decode jc_M_owe 15 = .ok (.getfield 106, 3) := by decide +kernel
theorem jd_M_owe_18 : decode jc_M_owe 18 = .ok (.iload_n 2, 1) := by decide +kernel
theorem jd_M_owe_19 : decode jc_M_owe 19 = .ok (.iastore, 1) := by decide +kernel
theorem jd_M_owe_20 : decode jc_M_owe 20 = .ok (.aload_n 0, 1) := by decide +kernel
theorem jd_M_owe_21 : decode jc_M_owe 21 = .ok (.dup, 1) := by decide +kernel
theorem jd_M_owe_22 : decode jc_M_owe 22 = .ok (.getfield 106, 3) := by decide +kernel
theorem jd_M_owe_25 : decode jc_M_owe 25 = .ok (.iconst 1, 1) := by decide +kernel
theorem jd_M_owe_26 : decode jc_M_owe 26 = .ok (.iadd, 1) := by decide +kernel
theorem jd_M_owe_27 : decode jc_M_owe 27 = .ok (.putfield 106, 3) := by decide +kernel
theorem jd_M_owe_30 : decode jc_M_owe 30 = .ok (.return_, 1) := by decide +kernel
theorem jd_M_pay_0 : decode jc_M_pay 0 = .ok (.aload_n 0, 1) := by decide +kernel
theorem jd_M_pay_1 : decode jc_M_pay 1 = .ok (.getfield 69, 3) := by decide +kernel
theorem jd_M_pay_4 : decode jc_M_pay 4 = .ok (.ifCond .ge 9, 3) := by decide +kernel
theorem jd_M_pay_7 : decode jc_M_pay 7 = .ok (.sipush 1000, 3) := by decide +kernel
theorem jd_M_pay_10 : decode jc_M_pay 10 = .ok (.goto 7, 3) := by decide +kernel
theorem jd_M_pay_13 : decode jc_M_pay 13 = .ok (.aload_n 0, 1) := by decide +kernel
theorem jd_M_pay_14 : decode jc_M_pay 14 = .ok (.getfield 69, 3) := by decide +kernel
theorem jd_M_pay_17 : decode jc_M_pay 17 = .ok (.istore_n 2, 1) := by decide +kernel
end
section
theorem jd_M_pay_18 : decode jc_M_pay 18 = .ok (.aload_n 0, 1) := by decide +kernel
theorem jd_M_pay_19 : decode jc_M_pay 19 = .ok (.iconst (-1), 1) := by decide +kernel
theorem jd_M_pay_20 : decode jc_M_pay 20 = .ok (.putfield 69, 3) := by decide +kernel
theorem jd_M_pay_23 : decode jc_M_pay 23 = .ok (.iconst 0, 1) := by decide +kernel
theorem jd_M_pay_24 : decode jc_M_pay 24 = .ok (.istore_n 3, 1) := by decide +kernel
theorem jd_M_pay_25 : decode jc_M_pay 25 = .ok (.iconst 0, 1) := by decide +kernel
theorem jd_M_pay_26 : decode jc_M_pay 26 = .ok (.istore 4, 2) := by decide +kernel
theorem jd_M_pay_28 : decode jc_M_pay 28 = .ok (.iconst 0, 1) := by decide +kernel
theorem jd_M_pay_29 : decode jc_M_pay 29 = .ok (.istore 5, 2) := by decide +kernel
theorem jd_M_pay_31 : decode jc_M_pay 31 = .ok (.iload 5, 2) := by decide +kernel
theorem jd_M_pay_33 : decode jc_M_pay 33 = .ok (.iconst 4, 1) := by decide +kernel
theorem jd_M_pay_34 : decode jc_M_pay 34 = .ok (.if_icmp .ge 80, 3) := by decide +kernel
theorem jd_M_pay_37 : decode jc_M_pay 37 = .ok (.aload_n 0, 1) := by decide +kernel
theorem jd_M_pay_38 : decode jc_M_pay 38 = .ok (.iload 4, 2) := by decide +kernel
theorem jd_M_pay_40 : decode jc_M_pay 40 = .ok (.invokevirtual 112, 3) := by decide +kernel
theorem jd_M_pay_43 : decode jc_M_pay 43 = .ok (.istore 6, 2) := by decide +kernel
theorem jd_M_pay_45 : decode jc_M_pay 45 = .ok (.iload 4, 2) := by decide +kernel
theorem jd_M_pay_47 : decode jc_M_pay 47 = .ok (.iconst 1, 1) := by decide +kernel
theorem jd_M_pay_48 : decode jc_M_pay 48 = .ok (.iload 6, 2) := by decide +kernel
theorem jd_M_pay_50 : decode jc_M_pay 50 = .ok (.ishl, 1) := by decide +kernel
theorem jd_M_pay_51 : decode jc_M_pay 51 = .ok (.ior, 1) := by decide +kernel
theorem jd_M_pay_52 : decode jc_M_pay 52 = .ok (.istore 4, 2) := by decide +kernel
theorem jd_M_pay_54 : decode jc_M_pay 54 = .ok (.aload_n 0, 1) := by decide +kernel
theorem jd_M_pay_55 : decode jc_M_pay 55 = .ok (.getfield 35, 3) := by decide +kernel
theorem jd_M_pay_58 : decode jc_M_pay 58 = .ok (.iload 6, 2) := by decide +kernel
theorem jd_M_pay_60 : decode jc_M_pay 60 = .ok (.iaload, 1) := by decide +kernel
theorem jd_M_pay_61 : decode jc_M_pay 61 = .ok (.iload_n 2, 1) := by decide +kernel
theorem jd_M_pay_62 : decode jc_M_pay 62 = .ok (.if_icmp .ge 13, 3) := by decide +kernel
theorem jd_M_pay_65 : decode jc_M_pay 65 = .ok (.aload_n 0, 1) := by decide +kernel
theorem jd_M_pay_66 : decode jc_M_pay 66 = .ok (.getfield 35, 3) := by decide +kernel
theorem jd_M_pay_69 : decode jc_M_pay 69 = .ok (.iload 6, 2) := by decide +kernel
theorem jd_M_pay_71 : decode jc_M_pay 71 = .ok (.iaload, 1) := by decide +kernel
theorem jd_M_pay_72 : decode jc_M_pay 72 = .ok (.goto 4, 3) := by decide +kernel
theorem jd_M_pay_75 : decode jc_M_pay 75 = .ok (.iload_n 2, 1) := by decide +kernel
theorem jd_M_pay_76 : decode jc_M_pay 76 = .ok (.istore 7, 2) := by decide +kernel
theorem jd_M_pay_78 : decode jc_M_pay 78 = .ok (.iload_n 2, 1) := by decide +kernel
theorem jd_M_pay_79 : decode jc_M_pay 79 = .ok (.iload 7, 2) := by decide +kernel
theorem jd_M_pay_81 : decode jc_M_pay 81 = .ok (.isub, 1) := by decide +kernel
theorem jd_M_pay_82 : decode jc_M_pay 82 = .ok (.istore_n 2, 1) := by decide +kernel
theorem jd_M_pay_83 : decode jc_M_pay 83 = .ok (.aload_n 0, 1) := by decide +kernel
theorem jd_M_pay_84 : decode jc_M_pay 84 = .ok (.getfield 32, 3) := by decide +kernel
theorem jd_M_pay_87 : decode jc_M_pay 87 = .ok (.iload 6, 2) := by decide +kernel
theorem jd_M_pay_89 : decode jc_M_pay 89 = .ok (.dup2, 1) := by decide +kernel
theorem jd_M_pay_90 : decode jc_M_pay 90 = .ok (.iaload, 1) := by decide +kernel
theorem jd_M_pay_91 : decode jc_M_pay 91 = .ok (.iload 7, 2) := by decide +kernel
theorem jd_M_pay_93 : decode jc_M_pay 93 = .ok (.isub, 1) := by decide +kernel
theorem jd_M_pay_94 : decode jc_M_pay 94 = .ok (.iastore, 1) := by decide +kernel
theorem jd_M_pay_95 : decode jc_M_pay 95 = .ok (.iload_n 3, 1) := by decide +kernel
theorem jd_M_pay_96 : decode jc_M_pay 96 = .ok (.iload 7, 2) := by decide +kernel
theorem jd_M_pay_98 : decode jc_M_pay 98 = .ok (.aload_n 0, 1) := by decide +kernel
theorem jd_M_pay_99 : decode jc_M_pay 99 = .ok (.getfield 29, 3) := by decide +kernel
theorem jd_M_pay_102 : decode jc_M_pay 102 = .ok (.iload 6, 2) := by decide +kernel
theorem jd_M_pay_104 : decode jc_M_pay 104 = .ok (.iaload, 1) := by decide +kernel
theorem jd_M_pay_105 : decode jc_M_pay 105 = .ok (.imul, 1) := by decide +kernel
theorem jd_M_pay_106 : decode jc_M_pay 106 = .ok (.iadd, 1) := by decide +kernel
theorem jd_M_pay_107 : decode jc_M_pay 107 = .ok (.istore_n 3, 1) := by decide +kernel
theorem jd_M_pay_108 : decode jc_M_pay 108 = .ok (.iinc 5 1, 3) := by decide +kernel
theorem jd_M_pay_111 : decode jc_M_pay 111 = .ok (.goto (-80), 3) := by decide +kernel
theorem jd_M_pay_114 : decode jc_M_pay 114 = .ok (.aload_n 0, 1) := by decide +kernel
theorem jd_M_pay_115 : decode jc_M_pay 115 = .ok (.iload_n 1, 1) := by decide +kernel
theorem jd_M_pay_116 : decode jc_M_pay 116 = .ok (.putfield 115, 3) := by decide +kernel
theorem jd_M_pay_119 : decode jc_M_pay 119 = .ok (.aload_n 0, 1) := by decide +kernel
theorem jd_M_pay_120 : decode jc_M_pay 120 = .ok (.iload_n 3, 1) := by decide +kernel
theorem jd_M_pay_121 : decode jc_M_pay 121 = .ok (.putfield 118, 3) := by decide +kernel
theorem jd_M_pay_124 : decode jc_M_pay 124 = .ok (.aload_n 0, 1) := by decide +kernel
theorem jd_M_pay_125 : decode jc_M_pay 125 = .ok (.dup, 1) := by decide +kernel
theorem jd_M_pay_126 : decode jc_M_pay 126 = .ok (.getfield 121, 3) := by decide +kernel
theorem jd_M_pay_129 : decode jc_M_pay 129 = .ok (.iload_n 3, 1) := by decide +kernel
theorem jd_M_pay_130 : decode jc_M_pay 130 = .ok (.iadd, 1) := by decide +kernel
theorem jd_M_pay_131 : decode jc_M_pay 131 = .ok (.putfield 121, 3) := by decide +kernel
theorem jd_M_pay_134 : decode jc_M_pay 134 = .ok (.return_, 1) := by decide +kernel
theorem jd_M_greatest_0 : decode jc_M_greatest 0 = .ok (.iconst (-1), 1) := by decide +kernel
theorem jd_M_greatest_1 : decode jc_M_greatest 1 = .ok (.istore_n 2, 1) := by decide +kernel
theorem jd_M_greatest_2 : decode jc_M_greatest 2 = .ok (.iconst 0, 1) := by decide +kernel
theorem jd_M_greatest_3 : decode jc_M_greatest 3 = .ok (.istore_n 3, 1) := by decide +kernel
theorem jd_M_greatest_4 : decode jc_M_greatest 4 = .ok (.iload_n 3, 1) := by decide +kernel
theorem jd_M_greatest_5 : decode jc_M_greatest 5 = .ok (.iconst 4, 1) := by decide +kernel
theorem jd_M_greatest_6 : decode jc_M_greatest 6 = .ok (.if_icmp .ge 38, 3) := by decide +kernel
theorem jd_M_greatest_9 : decode jc_M_greatest 9 = .ok (.iload_n 1, 1) := by decide +kernel
theorem jd_M_greatest_10 : decode jc_M_greatest 10 = .ok (.iconst 1, 1) := by decide +kernel
theorem jd_M_greatest_11 : decode jc_M_greatest 11 = .ok (.iload_n 3, 1) := by decide +kernel
theorem jd_M_greatest_12 : decode jc_M_greatest 12 = .ok (.ishl, 1) := by decide +kernel
theorem jd_M_greatest_13 : decode jc_M_greatest 13 = .ok (.iand, 1) := by decide +kernel
theorem jd_M_greatest_14 : decode jc_M_greatest 14 = .ok (.ifCond .ne 24, 3) := by decide +kernel
theorem jd_M_greatest_17 : decode jc_M_greatest 17 = .ok (.iload_n 2, 1) := by decide +kernel
theorem jd_M_greatest_18 : decode jc_M_greatest 18 = .ok (.ifCond .lt 18, 3) := by decide +kernel
theorem jd_M_greatest_21 : decode jc_M_greatest 21 = .ok (.aload_n 0, 1) := by decide +kernel
theorem jd_M_greatest_22 : decode jc_M_greatest 22 = .ok (.getfield 29, 3) := by decide +kernel
theorem jd_M_greatest_25 : decode jc_M_greatest 25 = .ok (.iload_n 3, 1) := by decide +kernel
theorem jd_M_greatest_26 : decode jc_M_greatest 26 = .ok (.iaload, 1) := by decide +kernel
theorem jd_M_greatest_27 : decode jc_M_greatest 27 = .ok (.aload_n 0, 1) := by decide +kernel
theorem jd_M_greatest_28 : decode jc_M_greatest 28 = .ok (.getfield 29, 3) := by decide +kernel
theorem jd_M_greatest_31 : decode jc_M_greatest 31 = .ok (.iload_n 2, 1) := by decide +kernel
theorem jd_M_greatest_32 : decode jc_M_greatest 32 = .ok (.iaload, 1) := by decide +kernel
theorem jd_M_greatest_33 : decode jc_M_greatest 33 = .ok (.if_icmp .le 5, 3) := by decide +kernel
theorem jd_M_greatest_36 : decode jc_M_greatest 36 = .ok (.iload_n 3, 1) := by decide +kernel
theorem jd_M_greatest_37 : decode jc_M_greatest 37 = .ok (.istore_n 2, 1) := by decide +kernel
theorem jd_M_greatest_38 : decode jc_M_greatest 38 = .ok (.iinc 3 1, 3) := by decide +kernel
theorem jd_M_greatest_41 : decode jc_M_greatest 41 = .ok (.goto (-37), 3) := by decide +kernel
theorem jd_M_greatest_44 : decode jc_M_greatest 44 = .ok (.iload_n 2, 1) := by decide +kernel
theorem jd_M_greatest_45 : decode jc_M_greatest 45 = .ok (.ireturn, 1) := by decide +kernel
theorem jd_M_finish_0 : decode jc_M_finish 0 = .ok (.aload_n 0, 1) := by decide +kernel
theorem jd_M_finish_1 : decode jc_M_finish 1 = .ok (.getfield 42, 3) := by decide +kernel
theorem jd_M_finish_4 : decode jc_M_finish 4 = .ok (.iload_n 1, 1) := by decide +kernel
theorem jd_M_finish_5 : decode jc_M_finish 5 = .ok (.iconst 3, 1) := by decide +kernel
theorem jd_M_finish_6 : decode jc_M_finish 6 = .ok (.iastore, 1) := by decide +kernel
theorem jd_M_finish_7 : decode jc_M_finish 7 = .ok (.aload_n 0, 1) := by decide +kernel
theorem jd_M_finish_8 : decode jc_M_finish 8 = .ok (.getfield 51, 3) := by decide +kernel
theorem jd_M_finish_11 : decode jc_M_finish 11 = .ok (.iload_n 1, 1) := by decide +kernel
theorem jd_M_finish_12 : decode jc_M_finish 12 = .ok (.iload_n 2, 1) := by decide +kernel
theorem jd_M_finish_13 : decode jc_M_finish 13 = .ok (.iastore, 1) := by decide +kernel
theorem jd_M_finish_14 : decode jc_M_finish 14 = .ok (.iload_n 2, 1) := by decide +kernel
theorem jd_M_finish_15 : decode jc_M_finish 15 = .ok (.aload_n 0, 1) := by decide +kernel
theorem jd_M_finish_16 : decode jc_M_finish 16 = .ok (.getfield 48, 3) := by decide +kernel
theorem jd_M_finish_19 : decode jc_M_finish 19 = .ok (.iload_n 1, 1) := by decide +kernel
theorem jd_M_finish_20 : decode jc_M_finish 20 = .ok (.iaload, 1) := by decide +kernel
theorem jd_M_finish_21 : decode jc_M_finish 21 = .ok (.if_icmp .ge 16, 3) := by decide +kernel
theorem jd_M_finish_24 : decode jc_M_finish 24 = .ok (.aload_n 0, 1) := by decide +kernel
theorem jd_M_finish_25 : decode jc_M_finish 25 = .ok (.iload_n 1, 1) := by decide +kernel
theorem jd_M_finish_26 : decode jc_M_finish 26 = .ok (.aload_n 0, 1) := by decide +kernel
theorem jd_M_finish_27 : decode jc_M_finish 27 = .ok (.getfield 48, 3) := by decide +kernel
theorem jd_M_finish_30 : decode jc_M_finish 30 = .ok (.iload_n 1, 1) := by decide +kernel
theorem jd_M_finish_31 : decode jc_M_finish 31 = .ok (.iaload, 1) := by decide +kernel
theorem jd_M_finish_32 : decode jc_M_finish 32 = .ok (.iload_n 2, 1) := by decide +kernel
theorem jd_M_finish_33 : decode jc_M_finish 33 = .ok (.isub, 1) := by decide +kernel
theorem jd_M_finish_34 : decode jc_M_finish 34 = .ok (.invokevirtual 124, 3) := by decide +kernel
theorem jd_M_finish_37 : decode jc_M_finish 37 = .ok (.return_, 1) := by decide +kernel
theorem jd_M_mix_0 : decode jc_M_mix 0 = .ok (.aload_n 0, 1) := by decide +kernel
theorem jd_M_mix_1 : decode jc_M_mix 1 = .ok (.iconst 0, 1) := by decide +kernel
theorem jd_M_mix_2 : decode jc_M_mix 2 = .ok (.putfield 72, 3) := by decide +kernel
theorem jd_M_mix_5 : decode jc_M_mix 5 = .ok (.iload_n 1, 1) := by decide +kernel
theorem jd_M_mix_6 : decode jc_M_mix 6 = .ok (.iconst 0, 1) := by decide +kernel
theorem jd_M_mix_7 : decode jc_M_mix 7 = .ok (.iconst 3, 1) := by decide +kernel
theorem jd_M_mix_8 : decode jc_M_mix 8 = .ok (.invokestatic 75, 3) := by decide +kernel
theorem jd_M_mix_11 : decode jc_M_mix 11 = .ok (.ifCond .eq 14, 3) := by decide +kernel
theorem jd_M_mix_14 : decode jc_M_mix 14 = .ok (.iload_n 2, 1) := by decide +kernel
theorem jd_M_mix_15 : decode jc_M_mix 15 = .ok (.iconst 1, 1) := by decide +kernel
theorem jd_M_mix_16 : decode jc_M_mix 16 = .ok (.sipush 5000, 3) := by decide +kernel
theorem jd_M_mix_19 : decode jc_M_mix 19 = .ok (.invokestatic 75, 3) := by decide +kernel
theorem jd_M_mix_22 : decode jc_M_mix 22 = .ok (.ifCond .ne 9, 3) := by decide +kernel
theorem jd_M_mix_25 : decode jc_M_mix 25 = .ok (.aload_n 0, 1) := by decide +kernel
theorem jd_M_mix_26 : decode jc_M_mix 26 = .ok (.iconst 1, 1) := by decide +kernel
theorem jd_M_mix_27 : decode jc_M_mix 27 = .ok (.invokevirtual 80, 3) := by decide +kernel
theorem jd_M_mix_30 : decode jc_M_mix 30 = .ok (.ireturn, 1) := by decide +kernel
theorem jd_M_mix_31 : decode jc_M_mix 31 = .ok (.aload_n 0, 1) := by decide +kernel
theorem jd_M_mix_32 : decode jc_M_mix 32 = .ok (.iload_n 2, 1) := by decide +kernel
theorem jd_M_mix_33 : decode jc_M_mix 33 = .ok (.invokevirtual 146, 3) := by decide +kernel
theorem jd_M_mix_36 : decode jc_M_mix 36 = .ok (.ifCond .eq 12, 3) := by decide +kernel
theorem jd_M_mix_39 : decode jc_M_mix 39 = .ok (.aload_n 0, 1) := by decide +kernel
theorem jd_M_mix_40 : decode jc_M_mix 40 = .ok (.getfield 35, 3) := by decide +kernel
theorem jd_M_mix_43 : decode jc_M_mix 43 = .ok (.iload_n 1, 1) := by decide +kernel
theorem jd_M_mix_44 : decode jc_M_mix 44 = .ok (.iaload, 1) := by decide +kernel
theorem jd_M_mix_45 : decode jc_M_mix 45 = .ok (.goto 8, 3) := by decide +kernel
theorem jd_M_mix_48 : decode jc_M_mix 48 = .ok (.aload_n 0, 1) := by decide +kernel
theorem jd_M_mix_49 : decode jc_M_mix 49 = .ok (.iconst 2, 1) := by decide +kernel
theorem jd_M_mix_50 : decode jc_M_mix 50 = .ok (.invokevirtual 80, 3) := by decide +kernel
theorem jd_M_mix_53 : decode jc_M_mix 53 = .ok (.ireturn, 1) := by decide +kernel
theorem jd_M_line_0 : decode jc_M_line 0 = .ok (.aload_n 0, 1) := by decide +kernel
theorem jd_M_line_1 : decode jc_M_line 1 = .ok (.iconst 0, 1) := by decide +kernel
theorem jd_M_line_2 : decode jc_M_line 2 = .ok (.putfield 72, 3) := by decide +kernel
theorem jd_M_line_5 : decode jc_M_line 5 = .ok (.iload_n 1, 1) := by decide +kernel
theorem jd_M_line_6 : decode jc_M_line 6 = .ok (.iconst 0, 1) := by decide +kernel
theorem jd_M_line_7 : decode jc_M_line 7 = .ok (.iconst 3, 1) := by decide +kernel
theorem jd_M_line_8 : decode jc_M_line 8 = .ok (.invokestatic 75, 3) := by decide +kernel
theorem jd_M_line_11 : decode jc_M_line 11 = .ok (.ifCond .ne 9, 3) := by decide +kernel
theorem jd_M_line_14 : decode jc_M_line 14 = .ok (.aload_n 0, 1) := by decide +kernel
theorem jd_M_line_15 : decode jc_M_line 15 = .ok (.iconst 1, 1) := by decide +kernel
theorem jd_M_line_16 : decode jc_M_line 16 = .ok (.invokevirtual 80, 3) := by decide +kernel
theorem jd_M_line_19 : decode jc_M_line 19 = .ok (.ireturn, 1) := by decide +kernel
theorem jd_M_line_20 : decode jc_M_line 20 = .ok (.aload_n 0, 1) := by decide +kernel
theorem jd_M_line_21 : decode jc_M_line 21 = .ok (.getfield 103, 3) := by decide +kernel
theorem jd_M_line_24 : decode jc_M_line 24 = .ok (.bipush 8, 2) := by decide +kernel
theorem jd_M_line_26 : decode jc_M_line 26 = .ok (.if_icmp .ne 9, 3) := by decide +kernel
theorem jd_M_line_29 : decode jc_M_line 29 = .ok (.aload_n 0, 1) := by decide +kernel
theorem jd_M_line_30 : decode jc_M_line 30 = .ok (.iconst 2, 1) := by decide +kernel
theorem jd_M_line_31 : decode jc_M_line 31 = .ok (.invokevirtual 80, 3) := by decide +kernel
theorem jd_M_line_34 : decode jc_M_line 34 = .ok (.ireturn, 1) := by decide +kernel
theorem jd_M_line_35 : decode jc_M_line 35 = .ok (.aload_n 0, 1) := by decide +kernel
theorem jd_M_line_36 : decode jc_M_line 36 = .ok (.getfield 66, 3) := by decide +kernel
theorem jd_M_line_39 : decode jc_M_line 39 = .ok (.aload_n 0, 1) := by decide +kernel
theorem jd_M_line_40 : decode jc_M_line 40 = .ok (.getfield 103, 3) := by decide +kernel
theorem jd_M_line_43 : decode jc_M_line 43 = .ok (.iload_n 1, 1) := by decide +kernel
theorem jd_M_line_44 : decode jc_M_line 44 = .ok (.iastore, 1) := by decide +kernel
theorem jd_M_line_45 : decode jc_M_line 45 = .ok (.aload_n 0, 1) := by decide +kernel
theorem jd_M_line_46 : decode jc_M_line 46 = .ok (.dup, 1) := by decide +kernel
theorem jd_M_line_47 : decode jc_M_line 47 = .ok (.getfield 103, 3) := by decide +kernel
theorem jd_M_line_50 : decode jc_M_line 50 = .ok (.iconst 1, 1) := by decide +kernel
theorem jd_M_line_51 : decode jc_M_line 51 = .ok (.iadd, 1) := by decide +kernel
theorem jd_M_line_52 : decode jc_M_line 52 = .ok (.putfield 103, 3) := by decide +kernel
theorem jd_M_line_55 : decode jc_M_line 55 = .ok (.aload_n 0, 1) := by decide +kernel
theorem jd_M_line_56 : decode jc_M_line 56 = .ok (.getfield 103, 3) := by decide +kernel
theorem jd_M_line_59 : decode jc_M_line 59 = .ok (.ireturn, 1) := by decide +kernel
theorem jd_M_jam_0 : decode jc_M_jam 0 = .ok (.aload_n 0, 1) := by decide +kernel
theorem jd_M_jam_1 : decode jc_M_jam 1 = .ok (.iconst 0, 1) := by decide +kernel
theorem jd_M_jam_2 : decode jc_M_jam 2 = .ok (.putfield 72, 3) := by decide +kernel
theorem jd_M_jam_5 : decode jc_M_jam 5 = .ok (.iload_n 1, 1) := by decide +kernel
theorem jd_M_jam_6 : decode jc_M_jam 6 = .ok (.iconst (-1), 1) := by decide +kernel
theorem jd_M_jam_7 : decode jc_M_jam 7 = .ok (.bipush 100, 2) := by decide +kernel
theorem jd_M_jam_9 : decode jc_M_jam 9 = .ok (.invokestatic 75, 3) := by decide +kernel
theorem jd_M_jam_12 : decode jc_M_jam 12 = .ok (.ifCond .ne 9, 3) := by decide +kernel
theorem jd_M_jam_15 : decode jc_M_jam 15 = .ok (.aload_n 0, 1) := by decide +kernel
theorem jd_M_jam_16 : decode jc_M_jam 16 = .ok (.iconst 1, 1) := by decide +kernel
theorem jd_M_jam_17 : decode jc_M_jam 17 = .ok (.invokevirtual 80, 3) := by decide +kernel
theorem jd_M_jam_20 : decode jc_M_jam 20 = .ok (.ireturn, 1) := by decide +kernel
theorem jd_M_jam_21 : decode jc_M_jam 21 = .ok (.aload_n 0, 1) := by decide +kernel
theorem jd_M_jam_22 : decode jc_M_jam 22 = .ok (.iload_n 1, 1) := by decide +kernel
theorem jd_M_jam_23 : decode jc_M_jam 23 = .ok (.putfield 69, 3) := by decide +kernel
theorem jd_M_jam_26 : decode jc_M_jam 26 = .ok (.iload_n 1, 1) := by decide +kernel
theorem jd_M_jam_27 : decode jc_M_jam 27 = .ok (.ifCond .ge 7, 3) := by decide +kernel
theorem jd_M_jam_30 : decode jc_M_jam 30 = .ok (.iconst 0, 1) := by decide +kernel
theorem jd_M_jam_31 : decode jc_M_jam 31 = .ok (.goto 4, 3) := by decide +kernel
theorem jd_M_jam_34 : decode jc_M_jam 34 = .ok (.iconst 1, 1) := by decide +kernel
theorem jd_M_jam_35 : decode jc_M_jam 35 = .ok (.ireturn, 1) := by decide +kernel
theorem jd_M_power_0 : decode jc_M_power 0 = .ok (.aload_n 0, 1) := by decide +kernel
theorem jd_M_power_1 : decode jc_M_power 1 = .ok (.iconst 0, 1) := by decide +kernel
theorem jd_M_power_2 : decode jc_M_power 2 = .ok (.putfield 72, 3) := by decide +kernel
theorem jd_M_power_5 : decode jc_M_power 5 = .ok (.iload_n 1, 1) := by decide +kernel
theorem jd_M_power_6 : decode jc_M_power 6 = .ok (.iconst 0, 1) := by decide +kernel
theorem jd_M_power_7 : decode jc_M_power 7 = .ok (.iconst 4, 1) := by decide +kernel
theorem jd_M_power_8 : decode jc_M_power 8 = .ok (.invokestatic 75, 3) := by decide +kernel
theorem jd_M_power_11 : decode jc_M_power 11 = .ok (.ifCond .ne 9, 3) := by decide +kernel
theorem jd_M_power_14 : decode jc_M_power 14 = .ok (.aload_n 0, 1) := by decide +kernel
theorem jd_M_power_15 : decode jc_M_power 15 = .ok (.iconst 1, 1) := by decide +kernel
theorem jd_M_power_16 : decode jc_M_power 16 = .ok (.invokevirtual 80, 3) := by decide +kernel
theorem jd_M_power_19 : decode jc_M_power 19 = .ok (.ireturn, 1) := by decide +kernel
theorem jd_M_power_20 : decode jc_M_power 20 = .ok (.aload_n 0, 1) := by decide +kernel
theorem jd_M_power_21 : decode jc_M_power 21 = .ok (.iload_n 1, 1) := by decide +kernel
theorem jd_M_power_22 : decode jc_M_power 22 = .ok (.putfield 109, 3) := by decide +kernel
theorem jd_M_power_25 : decode jc_M_power 25 = .ok (.iload_n 1, 1) := by decide +kernel
theorem jd_M_power_26 : decode jc_M_power 26 = .ok (.ifCond .ne 7, 3) := by decide +kernel
theorem jd_M_power_29 : decode jc_M_power 29 = .ok (.iconst 0, 1) := by decide +kernel
theorem jd_M_power_30 : decode jc_M_power 30 = .ok (.goto 4, 3) := by decide +kernel
theorem jd_M_power_33 : decode jc_M_power 33 = .ok (.iconst 1, 1) := by decide +kernel
theorem jd_M_power_34 : decode jc_M_power 34 = .ok (.ireturn, 1) := by decide +kernel
theorem jd_M_boot_0 : decode jc_M_boot 0 = .ok (.aload_n 0, 1) := by decide +kernel
theorem jd_M_boot_1 : decode jc_M_boot 1 = .ok (.iconst 0, 1) := by decide +kernel
theorem jd_M_boot_2 : decode jc_M_boot 2 = .ok (.putfield 72, 3) := by decide +kernel
theorem jd_M_boot_5 : decode jc_M_boot 5 = .ok (.aload_n 0, 1) := by decide +kernel
theorem jd_M_boot_6 : decode jc_M_boot 6 = .ok (.getfield 84, 3) := by decide +kernel
theorem jd_M_boot_9 : decode jc_M_boot 9 = .ok (.ifCond .ne 9, 3) := by decide +kernel
theorem jd_M_boot_12 : decode jc_M_boot 12 = .ok (.aload_n 0, 1) := by decide +kernel
theorem jd_M_boot_13 : decode jc_M_boot 13 = .ok (.iconst 1, 1) := by decide +kernel
theorem jd_M_boot_14 : decode jc_M_boot 14 = .ok (.invokevirtual 80, 3) := by decide +kernel
theorem jd_M_boot_17 : decode jc_M_boot 17 = .ok (.ireturn, 1) := by decide +kernel
theorem jd_M_boot_18 : decode jc_M_boot 18 = .ok (.aload_n 0, 1) := by decide +kernel
theorem jd_M_boot_19 : decode jc_M_boot 19 = .ok (.iconst 0, 1) := by decide +kernel
theorem jd_M_boot_20 : decode jc_M_boot 20 = .ok (.putfield 84, 3) := by decide +kernel
theorem jd_M_boot_23 : decode jc_M_boot 23 = .ok (.aload_n 0, 1) := by decide +kernel
theorem jd_M_boot_24 : decode jc_M_boot 24 = .ok (.getfield 149, 3) := by decide +kernel
theorem jd_M_boot_27 : decode jc_M_boot 27 = .ok (.istore_n 1, 1) := by decide +kernel
theorem jd_M_boot_28 : decode jc_M_boot 28 = .ok (.iload_n 1, 1) := by decide +kernel
theorem jd_M_boot_29 : decode jc_M_boot 29 = .ok (.ifCond .le 34, 3) := by decide +kernel
theorem jd_M_boot_32 : decode jc_M_boot 32 = .ok (.aload_n 0, 1) := by decide +kernel
theorem jd_M_boot_33 : decode jc_M_boot 33 = .ok (.getfield 42, 3) := by decide +kernel
theorem jd_M_boot_36 : decode jc_M_boot 36 = .ok (.iload_n 1, 1) := by decide +kernel
theorem jd_M_boot_37 : decode jc_M_boot 37 = .ok (.iaload, 1) := by decide +kernel
theorem jd_M_boot_38 : decode jc_M_boot 38 = .ok (.iconst 1, 1) := by decide +kernel
theorem jd_M_boot_39 : decode jc_M_boot 39 = .ok (.if_icmp .ne 24, 3) := by decide +kernel
theorem jd_M_boot_42 : decode jc_M_boot 42 = .ok (.aload_n 0, 1) := by decide +kernel
theorem jd_M_boot_43 : decode jc_M_boot 43 = .ok (.getfield 42, 3) := by decide +kernel
theorem jd_M_boot_46 : decode jc_M_boot 46 = .ok (.iload_n 1, 1) := by decide +kernel
theorem jd_M_boot_47 : decode jc_M_boot 47 = .ok (.iconst 4, 1) := by decide +kernel
theorem jd_M_boot_48 : decode jc_M_boot 48 = .ok (.iastore, 1) := by decide +kernel
theorem jd_M_boot_49 : decode jc_M_boot 49 = .ok (.aload_n 0, 1) := by decide +kernel
theorem jd_M_boot_50 : decode jc_M_boot 50 = .ok (.iload_n 1, 1) := by decide +kernel
theorem jd_M_boot_51 : decode jc_M_boot 51 = .ok (.aload_n 0, 1) := by decide +kernel
theorem jd_M_boot_52 : decode jc_M_boot 52 = .ok (.getfield 48, 3) := by decide +kernel
theorem jd_M_boot_55 : decode jc_M_boot 55 = .ok (.iload_n 1, 1) := by decide +kernel
theorem jd_M_boot_56 : decode jc_M_boot 56 = .ok (.iaload, 1) := by decide +kernel
theorem jd_M_boot_57 : decode jc_M_boot 57 = .ok (.invokevirtual 124, 3) := by decide +kernel
theorem jd_M_boot_60 : decode jc_M_boot 60 = .ok (.goto 38, 3) := by decide +kernel
theorem jd_M_boot_63 : decode jc_M_boot 63 = .ok (.iload_n 1, 1) := by decide +kernel
theorem jd_M_boot_64 : decode jc_M_boot 64 = .ok (.ifCond .le 34, 3) := by decide +kernel
theorem jd_M_boot_67 : decode jc_M_boot 67 = .ok (.aload_n 0, 1) := by decide +kernel
theorem jd_M_boot_68 : decode jc_M_boot 68 = .ok (.getfield 42, 3) := by decide +kernel
theorem jd_M_boot_71 : decode jc_M_boot 71 = .ok (.iload_n 1, 1) := by decide +kernel
theorem jd_M_boot_72 : decode jc_M_boot 72 = .ok (.iaload, 1) := by decide +kernel
theorem jd_M_boot_73 : decode jc_M_boot 73 = .ok (.iconst 2, 1) := by decide +kernel
theorem jd_M_boot_74 : decode jc_M_boot 74 = .ok (.if_icmp .ne 24, 3) := by decide +kernel
theorem jd_M_boot_77 : decode jc_M_boot 77 = .ok (.aload_n 0, 1) := by decide +kernel
theorem jd_M_boot_78 : decode jc_M_boot 78 = .ok (.iload_n 1, 1) := by decide +kernel
theorem jd_M_boot_79 : decode jc_M_boot 79 = .ok (.aload_n 0, 1) := by decide +kernel
theorem jd_M_boot_80 : decode jc_M_boot 80 = .ok (.getfield 115, 3) := by decide +kernel
theorem jd_M_boot_83 : decode jc_M_boot 83 = .ok (.iload_n 1, 1) := by decide +kernel
theorem jd_M_boot_84 : decode jc_M_boot 84 = .ok (.if_icmp .ne 10, 3) := by decide +kernel
theorem jd_M_boot_87 : decode jc_M_boot 87 = .ok (.aload_n 0, 1) := by decide +kernel
theorem jd_M_boot_88 : decode jc_M_boot 88 = .ok (.getfield 118, 3) := by decide +kernel
theorem jd_M_boot_91 : decode jc_M_boot 91 = .ok (.goto 4, 3) := by decide +kernel
theorem jd_M_boot_94 : decode jc_M_boot 94 = .ok (.iconst 0, 1) := by decide +kernel
theorem jd_M_boot_95 : decode jc_M_boot 95 = .ok (.invokevirtual 143, 3) := by decide +kernel
theorem jd_M_boot_98 : decode jc_M_boot 98 = .ok (.aload_n 0, 1) := by decide +kernel
theorem jd_M_boot_99 : decode jc_M_boot 99 = .ok (.getfield 106, 3) := by decide +kernel
theorem jd_M_boot_102 : decode jc_M_boot 102 = .ok (.ireturn, 1) := by decide +kernel
theorem jd_M_settle_0 : decode jc_M_settle 0 = .ok (.aload_n 0, 1) := by decide +kernel
theorem jd_M_settle_1 : decode jc_M_settle 1 = .ok (.iconst 0, 1) := by decide +kernel
theorem jd_M_settle_2 : decode jc_M_settle 2 = .ok (.putfield 72, 3) := by decide +kernel
theorem jd_M_settle_5 : decode jc_M_settle 5 = .ok (.aload_n 0, 1) := by decide +kernel
theorem jd_M_settle_6 : decode jc_M_settle 6 = .ok (.getfield 84, 3) := by decide +kernel
theorem jd_M_settle_9 : decode jc_M_settle 9 = .ok (.ifCond .eq 9, 3) := by decide +kernel
theorem jd_M_settle_12 : decode jc_M_settle 12 = .ok (.aload_n 0, 1) := by decide +kernel
theorem jd_M_settle_13 : decode jc_M_settle 13 = .ok (.iconst 1, 1) := by decide +kernel
theorem jd_M_settle_14 : decode jc_M_settle 14 = .ok (.invokevirtual 80, 3) := by decide +kernel
theorem jd_M_settle_17 : decode jc_M_settle 17 = .ok (.ireturn, 1) := by decide +kernel
theorem jd_M_settle_18 : decode jc_M_settle 18 = .ok (.iconst 0, 1) := by decide +kernel
theorem jd_M_settle_19 : decode jc_M_settle 19 = .ok (.istore_n 1, 1) := by decide +kernel
theorem jd_M_settle_20 : decode jc_M_settle 20 = .ok (.iconst 1, 1) := by decide +kernel
theorem jd_M_settle_21 : decode jc_M_settle 21 = .ok (.istore_n 2, 1) := by decide +kernel
theorem jd_M_settle_22 : decode jc_M_settle 22 = .ok (.iload_n 2, 1) := by decide +kernel
theorem jd_M_settle_23 : decode jc_M_settle 23 = .ok (.ifCond .eq 123, 3) := by decide +kernel
theorem jd_M_settle_26 : decode jc_M_settle 26 = .ok (.aload_n 0, 1) := by decide +kernel
theorem jd_M_settle_27 : decode jc_M_settle 27 = .ok (.getfield 106, 3) := by decide +kernel
theorem jd_M_settle_30 : decode jc_M_settle 30 = .ok (.ifCond .le 116, 3) := by decide +kernel
theorem jd_M_settle_33 : decode jc_M_settle 33 = .ok (.aload_n 0, 1) := by decide +kernel
theorem jd_M_settle_34 : decode jc_M_settle 34 = .ok (.invokevirtual 132, 3) := by decide +kernel
theorem jd_M_settle_37 : decode jc_M_settle 37 = .ok (.istore_n 3, 1) := by decide +kernel
theorem jd_M_settle_38 : decode jc_M_settle 38 = .ok (.iload_n 3, 1) := by decide +kernel
theorem jd_M_settle_39 : decode jc_M_settle 39 = .ok (.iconst 1, 1) := by decide +kernel
theorem jd_M_settle_40 : decode jc_M_settle 40 = .ok (.if_icmp .eq 19, 3) := by decide +kernel
theorem jd_M_settle_43 : decode jc_M_settle 43 = .ok (.aload_n 0, 1) := by decide +kernel
theorem jd_M_settle_44 : decode jc_M_settle 44 = .ok (.aload_n 0, 1) := by decide +kernel
theorem jd_M_settle_45 : decode jc_M_settle 45 = .ok (.getfield 60, 3) := by decide +kernel
theorem jd_M_settle_48 : decode jc_M_settle 48 = .ok (.iconst 0, 1) := by decide +kernel
theorem jd_M_settle_49 : decode jc_M_settle 49 = .ok (.iaload, 1) := by decide +kernel
theorem jd_M_settle_50 : decode jc_M_settle 50 = .ok (.aload_n 0, 1) := by decide +kernel
theorem jd_M_settle_51 : decode jc_M_settle 51 = .ok (.getfield 63, 3) := by decide +kernel
theorem jd_M_settle_54 : decode jc_M_settle 54 = .ok (.iconst 0, 1) := by decide +kernel
theorem jd_M_settle_55 : decode jc_M_settle 55 = .ok (.iaload, 1) := by decide +kernel
theorem jd_M_settle_56 : decode jc_M_settle 56 = .ok (.invokevirtual 155, 3) := by decide +kernel
theorem jd_M_settle_59 : decode jc_M_settle 59 = .ok (.iload_n 3, 1) := by decide +kernel
theorem jd_M_settle_60 : decode jc_M_settle 60 = .ok (.ifCond .eq 8, 3) := by decide +kernel
theorem jd_M_settle_63 : decode jc_M_settle 63 = .ok (.iload_n 3, 1) := by decide +kernel
theorem jd_M_settle_64 : decode jc_M_settle 64 = .ok (.iconst 3, 1) := by decide +kernel
theorem jd_M_settle_65 : decode jc_M_settle 65 = .ok (.if_icmp .ne 7, 3) := by decide +kernel
theorem jd_M_settle_68 : decode jc_M_settle 68 = .ok (.iconst 1, 1) := by decide +kernel
theorem jd_M_settle_69 : decode jc_M_settle 69 = .ok (.goto 4, 3) := by decide +kernel
theorem jd_M_settle_72 : decode jc_M_settle 72 = .ok (.iconst 0, 1) := by decide +kernel
theorem jd_M_settle_73 : decode jc_M_settle 73 = .ok (.istore_n 2, 1) := by decide +kernel
theorem jd_M_settle_74 : decode jc_M_settle 74 = .ok (.iload_n 2, 1) := by decide +kernel
theorem jd_M_settle_75 : decode jc_M_settle 75 = .ok (.ifCond .ne 5, 3) := by decide +kernel
theorem jd_M_settle_78 : decode jc_M_settle 78 = .ok (.iload_n 1, 1) := by decide +kernel
theorem jd_M_settle_79 : decode jc_M_settle 79 = .ok (.ireturn, 1) := by decide +kernel
theorem jd_M_settle_80 : decode jc_M_settle 80 = .ok (.iinc 1 1, 3) := by decide +kernel
theorem jd_M_settle_83 : decode jc_M_settle 83 = .ok (.aload_n 0, 1) := by decide +kernel
theorem jd_M_settle_84 : decode jc_M_settle 84 = .ok (.dup, 1) := by decide +kernel
theorem jd_M_settle_85 : decode jc_M_settle 85 = .ok (.getfield 106, 3) := by decide +kernel
theorem jd_M_settle_88 : decode jc_M_settle 88 = .ok (.iconst 1, 1) := by decide +kernel
theorem jd_M_settle_89 : decode jc_M_settle 89 = .ok (.isub, 1) := by decide +kernel
theorem jd_M_settle_90 : decode jc_M_settle 90 = .ok (.putfield 106, 3) := by decide +kernel
theorem jd_M_settle_93 : decode jc_M_settle 93 = .ok (.iconst 0, 1) := by decide +kernel
theorem jd_M_settle_94 : decode jc_M_settle 94 = .ok (.istore 4, 2) := by decide +kernel
theorem jd_M_settle_96 : decode jc_M_settle 96 = .ok (.iload 4, 2) := by decide +kernel
theorem jd_M_settle_98 : decode jc_M_settle 98 = .ok (.aload_n 0, 1) := by decide +kernel
theorem jd_M_settle_99 : decode jc_M_settle 99 = .ok (.getfield 106, 3) := by decide +kernel
theorem jd_M_settle_102 : decode jc_M_settle 102 = .ok (.if_icmp .ge 41, 3) := by decide +kernel
theorem jd_M_settle_105 : decode jc_M_settle 105 = .ok (.aload_n 0, 1) := by decide +kernel
theorem jd_M_settle_106 : decode jc_M_settle 106 = .ok (.getfield 60, 3) := by decide +kernel
theorem jd_M_settle_109 : decode jc_M_settle 109 = .ok (.iload 4, 2) := by decide +kernel
theorem jd_M_settle_111 : decode jc_M_settle 111 = .ok (.aload_n 0, 1) := by decide +kernel
theorem jd_M_settle_112 : decode jc_M_settle 112 = .ok (.getfield 60, 3) := by decide +kernel
theorem jd_M_settle_115 : decode jc_M_settle 115 = .ok (.iload 4, 2) := by decide +kernel
theorem jd_M_settle_117 : decode jc_M_settle 117 = .ok (.iconst 1, 1) := by decide +kernel
theorem jd_M_settle_118 : decode jc_M_settle 118 = .ok (.iadd, 1) := by decide +kernel
theorem jd_M_settle_119 : decode jc_M_settle 119 = .ok (.iaload, 1) := by decide +kernel
theorem jd_M_settle_120 : decode jc_M_settle 120 = .ok (.iastore, 1) := by decide +kernel
theorem jd_M_settle_121 : decode jc_M_settle 121 = .ok (.aload_n 0, 1) := by decide +kernel
theorem jd_M_settle_122 : decode jc_M_settle 122 = .ok (.getfield 63, 3) := by decide +kernel
theorem jd_M_settle_125 : decode jc_M_settle 125 = .ok (.iload 4, 2) := by decide +kernel
theorem jd_M_settle_127 : decode jc_M_settle 127 = .ok (.aload_n 0, 1) := by decide +kernel
theorem jd_M_settle_128 : decode jc_M_settle 128 = .ok (.getfield 63, 3) := by decide +kernel
theorem jd_M_settle_131 : decode jc_M_settle 131 = .ok (.iload 4, 2) := by decide +kernel
theorem jd_M_settle_133 : decode jc_M_settle 133 = .ok (.iconst 1, 1) := by decide +kernel
theorem jd_M_settle_134 : decode jc_M_settle 134 = .ok (.iadd, 1) := by decide +kernel
theorem jd_M_settle_135 : decode jc_M_settle 135 = .ok (.iaload, 1) := by decide +kernel
theorem jd_M_settle_136 : decode jc_M_settle 136 = .ok (.iastore, 1) := by decide +kernel
theorem jd_M_settle_137 : decode jc_M_settle 137 = .ok (.iinc 4 1, 3) := by decide +kernel
theorem jd_M_settle_140 : decode jc_M_settle 140 = .ok (.goto (-44), 3) := by decide +kernel
theorem jd_M_settle_143 : decode jc_M_settle 143 = .ok (.goto (-121), 3) := by decide +kernel
theorem jd_M_settle_146 : decode jc_M_settle 146 = .ok (.iload_n 1, 1) := by decide +kernel
theorem jd_M_settle_147 : decode jc_M_settle 147 = .ok (.ireturn, 1) := by decide +kernel
theorem jd_M_reversalCame_0 : decode jc_M_reversalCame 0 = .ok (.aload_n 0, 1) := by decide +kernel
theorem jd_M_reversalCame_1 : decode jc_M_reversalCame 1 = .ok (.getfield 57, 3) := by decide +kernel
theorem jd_M_reversalCame_4 : decode jc_M_reversalCame 4 = .ok (.iload_n 1, 1) := by decide +kernel
theorem jd_M_reversalCame_5 : decode jc_M_reversalCame 5 = .ok (.baload, 1) := by decide +kernel
theorem jd_M_reversalCame_6 : decode jc_M_reversalCame 6 = .ok (.ifCond .ne 28, 3) := by decide +kernel
theorem jd_M_reversalCame_9 : decode jc_M_reversalCame 9 = .ok (.aload_n 0, 1) := by decide +kernel
theorem jd_M_reversalCame_10 : decode jc_M_reversalCame 10 = .ok (.getfield 54, 3) := by decide +kernel
theorem jd_M_reversalCame_13 : decode jc_M_reversalCame 13 = .ok (.iload_n 1, 1) := by decide +kernel
theorem jd_M_reversalCame_14 : decode jc_M_reversalCame 14 = .ok (.iaload, 1) := by decide +kernel
theorem jd_M_reversalCame_15 : decode jc_M_reversalCame 15 = .ok (.iconst 1, 1) := by decide +kernel
theorem jd_M_reversalCame_16 : decode jc_M_reversalCame 16 = .ok (.if_icmp .ne 18, 3) := by decide +kernel
theorem jd_M_reversalCame_19 : decode jc_M_reversalCame 19 = .ok (.aload_n 0, 1) := by decide +kernel
theorem jd_M_reversalCame_20 : decode jc_M_reversalCame 20 = .ok (.getfield 20, 3) := by decide +kernel
theorem jd_M_reversalCame_23 : decode jc_M_reversalCame 23 = .ok (.aload_n 0, 1) := by decide +kernel
theorem jd_M_reversalCame_24 : decode jc_M_reversalCame 24 = .ok (.getfield 45, 3) := by decide +kernel
theorem jd_M_reversalCame_27 : decode jc_M_reversalCame 27 = .ok (.iload_n 1, 1) := by decide +kernel
theorem jd_M_reversalCame_28 : decode jc_M_reversalCame 28 = .ok (.iaload, 1) := by decide +kernel
theorem jd_M_reversalCame_29 : decode jc_M_reversalCame 29 = .ok (.dup2, 1) := by decide +kernel
theorem jd_M_reversalCame_30 : decode jc_M_reversalCame 30 = .ok (.iaload, 1) := by decide +kernel
theorem jd_M_reversalCame_31 : decode jc_M_reversalCame 31 = .ok (.iload_n 2, 1) := by decide +kernel
theorem jd_M_reversalCame_32 : decode jc_M_reversalCame 32 = .ok (.iadd, 1) := by decide +kernel
theorem jd_M_reversalCame_33 : decode jc_M_reversalCame 33 = .ok (.iastore, 1) := by decide +kernel
theorem jd_M_reversalCame_34 : decode jc_M_reversalCame 34 = .ok (.aload_n 0, 1) := by decide +kernel
theorem jd_M_reversalCame_35 : decode jc_M_reversalCame 35 = .ok (.getfield 57, 3) := by decide +kernel
theorem jd_M_reversalCame_38 : decode jc_M_reversalCame 38 = .ok (.iload_n 1, 1) := by decide +kernel
theorem jd_M_reversalCame_39 : decode jc_M_reversalCame 39 = .ok (.iconst 1, 1) := by decide +kernel
theorem jd_M_reversalCame_40 : decode jc_M_reversalCame 40 = .ok (.bastore, 1) := by decide +kernel
theorem jd_M_reversalCame_41 : decode jc_M_reversalCame 41 = .ok (.return_, 1) := by decide +kernel
theorem jd_M_balance_0 : decode jc_M_balance 0 = .ok (.aload_n 0, 1) := by decide +kernel
theorem jd_M_balance_1 : decode jc_M_balance 1 = .ok (.iconst 0, 1) := by decide +kernel
theorem jd_M_balance_2 : decode jc_M_balance 2 = .ok (.putfield 72, 3) := by decide +kernel
theorem jd_M_balance_5 : decode jc_M_balance 5 = .ok (.iload_n 1, 1) := by decide +kernel
theorem jd_M_balance_6 : decode jc_M_balance 6 = .ok (.iconst 0, 1) := by decide +kernel
theorem jd_M_balance_7 : decode jc_M_balance 7 = .ok (.bipush 7, 2) := by decide +kernel
theorem jd_M_balance_9 : decode jc_M_balance 9 = .ok (.invokestatic 75, 3) := by decide +kernel
theorem jd_M_balance_12 : decode jc_M_balance 12 = .ok (.ifCond .eq 21, 3) := by decide +kernel
theorem jd_M_balance_15 : decode jc_M_balance 15 = .ok (.aload_n 0, 1) := by decide +kernel
theorem jd_M_balance_16 : decode jc_M_balance 16 = .ok (.getfield 7, 3) := by decide +kernel
theorem jd_M_balance_19 : decode jc_M_balance 19 = .ok (.iload_n 1, 1) := by decide +kernel
theorem jd_M_balance_20 : decode jc_M_balance 20 = .ok (.baload, 1) := by decide +kernel
theorem jd_M_balance_21 : decode jc_M_balance 21 = .ok (.ifCond .eq 12, 3) := by decide +kernel
theorem jd_M_balance_24 : decode jc_M_balance 24 = .ok (.aload_n 0, 1) := by decide +kernel
theorem jd_M_balance_25 : decode jc_M_balance 25 = .ok (.getfield 20, 3) := by decide +kernel
theorem jd_M_balance_28 : decode jc_M_balance 28 = .ok (.iload_n 1, 1) := by decide +kernel
theorem jd_M_balance_29 : decode jc_M_balance 29 = .ok (.iaload, 1) := by decide +kernel
theorem jd_M_balance_30 : decode jc_M_balance 30 = .ok (.goto 8, 3) := by decide +kernel
theorem jd_M_balance_33 : decode jc_M_balance 33 = .ok (.aload_n 0, 1) := by decide +kernel
theorem jd_M_balance_34 : decode jc_M_balance 34 = .ok (.iconst 1, 1) := by decide +kernel
theorem jd_M_balance_35 : decode jc_M_balance 35 = .ok (.invokevirtual 80, 3) := by decide +kernel
theorem jd_M_balance_38 : decode jc_M_balance 38 = .ok (.ireturn, 1) := by decide +kernel
theorem jd_M_trace_0 : decode jc_M_trace 0 = .ok (.aload_n 0, 1) := by decide +kernel
theorem jd_M_trace_1 : decode jc_M_trace 1 = .ok (.iconst 0, 1) := by decide +kernel
theorem jd_M_trace_2 : decode jc_M_trace 2 = .ok (.putfield 72, 3) := by decide +kernel
theorem jd_M_trace_5 : decode jc_M_trace 5 = .ok (.iload_n 1, 1) := by decide +kernel
theorem jd_M_trace_6 : decode jc_M_trace 6 = .ok (.iconst 1, 1) := by decide +kernel
theorem jd_M_trace_7 : decode jc_M_trace 7 = .ok (.aload_n 0, 1) := by decide +kernel
theorem jd_M_trace_8 : decode jc_M_trace 8 = .ok (.getfield 149, 3) := by decide +kernel
theorem jd_M_trace_11 : decode jc_M_trace 11 = .ok (.invokestatic 75, 3) := by decide +kernel
theorem jd_M_trace_14 : decode jc_M_trace 14 = .ok (.ifCond .ne 9, 3) := by decide +kernel
theorem jd_M_trace_17 : decode jc_M_trace 17 = .ok (.aload_n 0, 1) := by decide +kernel
theorem jd_M_trace_18 : decode jc_M_trace 18 = .ok (.iconst 1, 1) := by decide +kernel
theorem jd_M_trace_19 : decode jc_M_trace 19 = .ok (.invokevirtual 80, 3) := by decide +kernel
theorem jd_M_trace_22 : decode jc_M_trace 22 = .ok (.ireturn, 1) := by decide +kernel
theorem jd_M_trace_23 : decode jc_M_trace 23 = .ok (.iload_n 2, 1) := by decide +kernel
theorem jd_M_trace_24 : decode jc_M_trace 24 = .ok (.tableswitch 60 0 3 #[32, 39, 46, 53], 32) := by decide +kernel
theorem jd_M_trace_56 : decode jc_M_trace 56 = .ok (.aload_n 0, 1) := by decide +kernel
theorem jd_M_trace_57 : decode jc_M_trace 57 = .ok (.getfield 42, 3) := by decide +kernel
theorem jd_M_trace_60 : decode jc_M_trace 60 = .ok (.iload_n 1, 1) := by decide +kernel
theorem jd_M_trace_61 : decode jc_M_trace 61 = .ok (.iaload, 1) := by decide +kernel
theorem jd_M_trace_62 : decode jc_M_trace 62 = .ok (.ireturn, 1) := by decide +kernel
theorem jd_M_trace_63 : decode jc_M_trace 63 = .ok (.aload_n 0, 1) := by decide +kernel
theorem jd_M_trace_64 : decode jc_M_trace 64 = .ok (.getfield 45, 3) := by decide +kernel
theorem jd_M_trace_67 : decode jc_M_trace 67 = .ok (.iload_n 1, 1) := by decide +kernel
theorem jd_M_trace_68 : decode jc_M_trace 68 = .ok (.iaload, 1) := by decide +kernel
theorem jd_M_trace_69 : decode jc_M_trace 69 = .ok (.ireturn, 1) := by decide +kernel
theorem jd_M_trace_70 : decode jc_M_trace 70 = .ok (.aload_n 0, 1) := by decide +kernel
theorem jd_M_trace_71 : decode jc_M_trace 71 = .ok (.getfield 48, 3) := by decide +kernel
theorem jd_M_trace_74 : decode jc_M_trace 74 = .ok (.iload_n 1, 1) := by decide +kernel
theorem jd_M_trace_75 : decode jc_M_trace 75 = .ok (.iaload, 1) := by decide +kernel
theorem jd_M_trace_76 : decode jc_M_trace 76 = .ok (.ireturn, 1) := by decide +kernel
theorem jd_M_trace_77 : decode jc_M_trace 77 = .ok (.aload_n 0, 1) := by decide +kernel
theorem jd_M_trace_78 : decode jc_M_trace 78 = .ok (.getfield 51, 3) := by decide +kernel
theorem jd_M_trace_81 : decode jc_M_trace 81 = .ok (.iload_n 1, 1) := by decide +kernel
theorem jd_M_trace_82 : decode jc_M_trace 82 = .ok (.iaload, 1) := by decide +kernel
theorem jd_M_trace_83 : decode jc_M_trace 83 = .ok (.ireturn, 1) := by decide +kernel
theorem jd_M_trace_84 : decode jc_M_trace 84 = .ok (.aload_n 0, 1) := by decide +kernel
theorem jd_M_trace_85 : decode jc_M_trace 85 = .ok (.iconst 2, 1) := by decide +kernel
theorem jd_M_trace_86 : decode jc_M_trace 86 = .ok (.invokevirtual 80, 3) := by decide +kernel
theorem jd_M_trace_89 : decode jc_M_trace 89 = .ok (.ireturn, 1) := by decide +kernel
theorem jd_M_reversal_0 : decode jc_M_reversal 0 = .ok (.aload_n 0, 1) := by decide +kernel
theorem jd_M_reversal_1 : decode jc_M_reversal 1 = .ok (.iconst 0, 1) := by decide +kernel
theorem jd_M_reversal_2 : decode jc_M_reversal 2 = .ok (.putfield 72, 3) := by decide +kernel
theorem jd_M_reversal_5 : decode jc_M_reversal 5 = .ok (.iload_n 1, 1) := by decide +kernel
theorem jd_M_reversal_6 : decode jc_M_reversal 6 = .ok (.ifCond .lt 20, 3) := by decide +kernel
theorem jd_M_reversal_9 : decode jc_M_reversal 9 = .ok (.iload_n 1, 1) := by decide +kernel
theorem jd_M_reversal_10 : decode jc_M_reversal 10 = .ok (.aload_n 0, 1) := by decide +kernel
theorem jd_M_reversal_11 : decode jc_M_reversal 11 = .ok (.getfield 106, 3) := by decide +kernel
theorem jd_M_reversal_14 : decode jc_M_reversal 14 = .ok (.if_icmp .ge 12, 3) := by decide +kernel
theorem jd_M_reversal_17 : decode jc_M_reversal 17 = .ok (.aload_n 0, 1) := by decide +kernel
theorem jd_M_reversal_18 : decode jc_M_reversal 18 = .ok (.getfield 63, 3) := by decide +kernel
theorem jd_M_reversal_21 : decode jc_M_reversal 21 = .ok (.iload_n 1, 1) := by decide +kernel
theorem jd_M_reversal_22 : decode jc_M_reversal 22 = .ok (.iaload, 1) := by decide +kernel
theorem jd_M_reversal_23 : decode jc_M_reversal 23 = .ok (.goto 8, 3) := by decide +kernel
theorem jd_M_reversal_26 : decode jc_M_reversal 26 = .ok (.aload_n 0, 1) := by decide +kernel
theorem jd_M_reversal_27 : decode jc_M_reversal 27 = .ok (.iconst 1, 1) := by decide +kernel
theorem jd_M_reversal_28 : decode jc_M_reversal 28 = .ok (.invokevirtual 80, 3) := by decide +kernel
theorem jd_M_reversal_31 : decode jc_M_reversal 31 = .ok (.ireturn, 1) := by decide +kernel
theorem jd_M_notes_0 : decode jc_M_notes 0 = .ok (.aload_n 0, 1) := by decide +kernel
theorem jd_M_notes_1 : decode jc_M_notes 1 = .ok (.iconst 0, 1) := by decide +kernel
theorem jd_M_notes_2 : decode jc_M_notes 2 = .ok (.putfield 72, 3) := by decide +kernel
theorem jd_M_notes_5 : decode jc_M_notes 5 = .ok (.iload_n 1, 1) := by decide +kernel
theorem jd_M_notes_6 : decode jc_M_notes 6 = .ok (.iconst 0, 1) := by decide +kernel
theorem jd_M_notes_7 : decode jc_M_notes 7 = .ok (.iconst 3, 1) := by decide +kernel
theorem jd_M_notes_8 : decode jc_M_notes 8 = .ok (.invokestatic 75, 3) := by decide +kernel
theorem jd_M_notes_11 : decode jc_M_notes 11 = .ok (.ifCond .eq 12, 3) := by decide +kernel
theorem jd_M_notes_14 : decode jc_M_notes 14 = .ok (.aload_n 0, 1) := by decide +kernel
theorem jd_M_notes_15 : decode jc_M_notes 15 = .ok (.getfield 32, 3) := by decide +kernel
theorem jd_M_notes_18 : decode jc_M_notes 18 = .ok (.iload_n 1, 1) := by decide +kernel
theorem jd_M_notes_19 : decode jc_M_notes 19 = .ok (.iaload, 1) := by decide +kernel
theorem jd_M_notes_20 : decode jc_M_notes 20 = .ok (.goto 8, 3) := by decide +kernel
theorem jd_M_notes_23 : decode jc_M_notes 23 = .ok (.aload_n 0, 1) := by decide +kernel
theorem jd_M_notes_24 : decode jc_M_notes 24 = .ok (.iconst 1, 1) := by decide +kernel
theorem jd_M_notes_25 : decode jc_M_notes 25 = .ok (.invokevirtual 80, 3) := by decide +kernel
theorem jd_M_notes_28 : decode jc_M_notes 28 = .ok (.ireturn, 1) := by decide +kernel
theorem jd_M_difference_0 : decode jc_M_difference 0 = .ok (.aload_n 0, 1) := by decide +kernel
theorem jd_M_difference_1 : decode jc_M_difference 1 = .ok (.iconst 0, 1) := by decide +kernel
theorem jd_M_difference_2 : decode jc_M_difference 2 = .ok (.putfield 72, 3) := by decide +kernel
theorem jd_M_difference_5 : decode jc_M_difference 5 = .ok (.aload_n 0, 1) := by decide +kernel
theorem jd_M_difference_6 : decode jc_M_difference 6 = .ok (.getfield 121, 3) := by decide +kernel
theorem jd_M_difference_9 : decode jc_M_difference 9 = .ok (.ineg, 1) := by decide +kernel
theorem jd_M_difference_10 : decode jc_M_difference 10 = .ok (.istore_n 1, 1) := by decide +kernel
theorem jd_M_difference_11 : decode jc_M_difference 11 = .ok (.iconst 0, 1) := by decide +kernel
theorem jd_M_difference_12 : decode jc_M_difference 12 = .ok (.istore_n 2, 1) := by decide +kernel
theorem jd_M_difference_13 : decode jc_M_difference 13 = .ok (.iload_n 2, 1) := by decide +kernel
theorem jd_M_difference_14 : decode jc_M_difference 14 = .ok (.bipush 8, 2) := by decide +kernel
theorem jd_M_difference_16 : decode jc_M_difference 16 = .ok (.if_icmp .ge 25, 3) := by decide +kernel
theorem jd_M_difference_19 : decode jc_M_difference 19 = .ok (.iload_n 1, 1) := by decide +kernel
theorem jd_M_difference_20 : decode jc_M_difference 20 = .ok (.aload_n 0, 1) := by decide +kernel
theorem jd_M_difference_21 : decode jc_M_difference 21 = .ok (.getfield 17, 3) := by decide +kernel
theorem jd_M_difference_24 : decode jc_M_difference 24 = .ok (.iload_n 2, 1) := by decide +kernel
theorem jd_M_difference_25 : decode jc_M_difference 25 = .ok (.iaload, 1) := by decide +kernel
theorem jd_M_difference_26 : decode jc_M_difference 26 = .ok (.aload_n 0, 1) := by decide +kernel
theorem jd_M_difference_27 : decode jc_M_difference 27 = .ok (.getfield 20, 3) := by decide +kernel
theorem jd_M_difference_30 : decode jc_M_difference 30 = .ok (.iload_n 2, 1) := by decide +kernel
theorem jd_M_difference_31 : decode jc_M_difference 31 = .ok (.iaload, 1) := by decide +kernel
theorem jd_M_difference_32 : decode jc_M_difference 32 = .ok (.isub, 1) := by decide +kernel
theorem jd_M_difference_33 : decode jc_M_difference 33 = .ok (.iadd, 1) := by decide +kernel
theorem jd_M_difference_34 : decode jc_M_difference 34 = .ok (.istore_n 1, 1) := by decide +kernel
theorem jd_M_difference_35 : decode jc_M_difference 35 = .ok (.iinc 2 1, 3) := by decide +kernel
theorem jd_M_difference_38 : decode jc_M_difference 38 = .ok (.goto (-25), 3) := by decide +kernel
theorem jd_M_difference_41 : decode jc_M_difference 41 = .ok (.iload_n 1, 1) := by decide +kernel
theorem jd_M_difference_42 : decode jc_M_difference 42 = .ok (.ireturn, 1) := by decide +kernel
theorem jd_M_count_0 : decode jc_M_count 0 = .ok (.aload_n 0, 1) := by decide +kernel
theorem jd_M_count_1 : decode jc_M_count 1 = .ok (.iconst 0, 1) := by decide +kernel
theorem jd_M_count_2 : decode jc_M_count 2 = .ok (.putfield 72, 3) := by decide +kernel
theorem jd_M_count_5 : decode jc_M_count 5 = .ok (.iconst 0, 1) := by decide +kernel
theorem jd_M_count_6 : decode jc_M_count 6 = .ok (.istore_n 2, 1) := by decide +kernel
theorem jd_M_count_7 : decode jc_M_count 7 = .ok (.iload_n 1, 1) := by decide +kernel
theorem jd_M_count_8 : decode jc_M_count 8 = .ok (.tableswitch 134 0 7 #[48, 53, 58, 63, 76, 81, 101, 106], 48) := by decide +kernel
theorem jd_M_count_56 : decode jc_M_count 56 = .ok (.aload_n 0, 1) := by decide +kernel
theorem jd_M_count_57 : decode jc_M_count 57 = .ok (.getfield 149, 3) := by decide +kernel
theorem jd_M_count_60 : decode jc_M_count 60 = .ok (.ireturn, 1) := by decide +kernel
theorem jd_M_count_61 : decode jc_M_count 61 = .ok (.aload_n 0, 1) := by decide +kernel
theorem jd_M_count_62 : decode jc_M_count 62 = .ok (.getfield 106, 3) := by decide +kernel
theorem jd_M_count_65 : decode jc_M_count 65 = .ok (.ireturn, 1) := by decide +kernel
theorem jd_M_count_66 : decode jc_M_count 66 = .ok (.aload_n 0, 1) := by decide +kernel
theorem jd_M_count_67 : decode jc_M_count 67 = .ok (.getfield 103, 3) := by decide +kernel
theorem jd_M_count_70 : decode jc_M_count 70 = .ok (.ireturn, 1) := by decide +kernel
theorem jd_M_count_71 : decode jc_M_count 71 = .ok (.aload_n 0, 1) := by decide +kernel
theorem jd_M_count_72 : decode jc_M_count 72 = .ok (.getfield 84, 3) := by decide +kernel
theorem jd_M_count_75 : decode jc_M_count 75 = .ok (.ifCond .eq 7, 3) := by decide +kernel
theorem jd_M_count_78 : decode jc_M_count 78 = .ok (.iconst 0, 1) := by decide +kernel
theorem jd_M_count_79 : decode jc_M_count 79 = .ok (.goto 4, 3) := by decide +kernel
theorem jd_M_count_82 : decode jc_M_count 82 = .ok (.iconst 1, 1) := by decide +kernel
theorem jd_M_count_83 : decode jc_M_count 83 = .ok (.ireturn, 1) := by decide +kernel
theorem jd_M_count_84 : decode jc_M_count 84 = .ok (.aload_n 0, 1) := by decide +kernel
theorem jd_M_count_85 : decode jc_M_count 85 = .ok (.getfield 38, 3) := by decide +kernel
theorem jd_M_count_88 : decode jc_M_count 88 = .ok (.ireturn, 1) := by decide +kernel
theorem jd_M_count_89 : decode jc_M_count 89 = .ok (.aload_n 0, 1) := by decide +kernel
theorem jd_M_count_90 : decode jc_M_count 90 = .ok (.getfield 38, 3) := by decide +kernel
theorem jd_M_count_93 : decode jc_M_count 93 = .ok (.ifCond .lt 14, 3) := by decide +kernel
theorem jd_M_count_96 : decode jc_M_count 96 = .ok (.aload_n 0, 1) := by decide +kernel
theorem jd_M_count_97 : decode jc_M_count 97 = .ok (.getfield 88, 3) := by decide +kernel
theorem jd_M_count_100 : decode jc_M_count 100 = .ok (.ifCond .eq 7, 3) := by decide +kernel
theorem jd_M_count_103 : decode jc_M_count 103 = .ok (.iconst 1, 1) := by decide +kernel
theorem jd_M_count_104 : decode jc_M_count 104 = .ok (.goto 4, 3) := by decide +kernel
theorem jd_M_count_107 : decode jc_M_count 107 = .ok (.iconst 0, 1) := by decide +kernel
theorem jd_M_count_108 : decode jc_M_count 108 = .ok (.ireturn, 1) := by decide +kernel
theorem jd_M_count_109 : decode jc_M_count 109 = .ok (.aload_n 0, 1) := by decide +kernel
theorem jd_M_count_110 : decode jc_M_count 110 = .ok (.getfield 121, 3) := by decide +kernel
theorem jd_M_count_113 : decode jc_M_count 113 = .ok (.ireturn, 1) := by decide +kernel
theorem jd_M_count_114 : decode jc_M_count 114 = .ok (.iconst 0, 1) := by decide +kernel
theorem jd_M_count_115 : decode jc_M_count 115 = .ok (.istore_n 3, 1) := by decide +kernel
theorem jd_M_count_116 : decode jc_M_count 116 = .ok (.iload_n 3, 1) := by decide +kernel
theorem jd_M_count_117 : decode jc_M_count 117 = .ok (.bipush 8, 2) := by decide +kernel
theorem jd_M_count_119 : decode jc_M_count 119 = .ok (.if_icmp .ge 21, 3) := by decide +kernel
theorem jd_M_count_122 : decode jc_M_count 122 = .ok (.aload_n 0, 1) := by decide +kernel
theorem jd_M_count_123 : decode jc_M_count 123 = .ok (.getfield 26, 3) := by decide +kernel
theorem jd_M_count_126 : decode jc_M_count 126 = .ok (.iload_n 3, 1) := by decide +kernel
theorem jd_M_count_127 : decode jc_M_count 127 = .ok (.baload, 1) := by decide +kernel
theorem jd_M_count_128 : decode jc_M_count 128 = .ok (.ifCond .eq 6, 3) := by decide +kernel
theorem jd_M_count_131 : decode jc_M_count 131 = .ok (.iinc 2 1, 3) := by decide +kernel
theorem jd_M_count_134 : decode jc_M_count 134 = .ok (.iinc 3 1, 3) := by decide +kernel
theorem jd_M_count_137 : decode jc_M_count 137 = .ok (.goto (-21), 3) := by decide +kernel
theorem jd_M_count_140 : decode jc_M_count 140 = .ok (.iload_n 2, 1) := by decide +kernel
theorem jd_M_count_141 : decode jc_M_count 141 = .ok (.ireturn, 1) := by decide +kernel
theorem jd_M_count_142 : decode jc_M_count 142 = .ok (.aload_n 0, 1) := by decide +kernel
theorem jd_M_count_143 : decode jc_M_count 143 = .ok (.iconst 1, 1) := by decide +kernel
theorem jd_M_count_144 : decode jc_M_count 144 = .ok (.invokevirtual 80, 3) := by decide +kernel
theorem jd_M_count_147 : decode jc_M_count 147 = .ok (.ireturn, 1) := by decide +kernel
theorem jd_L_law_0 : decode jc_L_law 0 = .ok (.new 8, 3) := by decide +kernel
theorem jd_L_law_3 : decode jc_L_law 3 = .ok (.dup, 1) := by decide +kernel
theorem jd_L_law_4 : decode jc_L_law 4 = .ok (.invokespecial 74, 3) := by decide +kernel
theorem jd_L_law_7 : decode jc_L_law 7 = .ok (.astore_n 1, 1) := by decide +kernel
theorem jd_L_law_8 : decode jc_L_law 8 = .ok (.new 75, 3) := by decide +kernel
theorem jd_L_law_11 : decode jc_L_law 11 = .ok (.dup, 1) := by decide +kernel
theorem jd_L_law_12 : decode jc_L_law 12 = .ok (.invokespecial 77, 3) := by decide +kernel
theorem jd_L_law_15 : decode jc_L_law 15 = .ok (.astore_n 2, 1) := by decide +kernel
theorem jd_L_law_16 : decode jc_L_law 16 = .ok (.iconst 1, 1) := by decide +kernel
theorem jd_L_law_17 : decode jc_L_law 17 = .ok (.newarray .long, 2) := by decide +kernel
theorem jd_L_law_19 : decode jc_L_law 19 = .ok (.astore_n 3, 1) := by decide +kernel
theorem jd_L_law_20 : decode jc_L_law 20 = .ok (.iconst 0, 1) := by decide +kernel
theorem jd_L_law_21 : decode jc_L_law 21 = .ok (.istore 4, 2) := by decide +kernel
theorem jd_L_law_23 : decode jc_L_law 23 = .ok (.iload 4, 2) := by decide +kernel
theorem jd_L_law_25 : decode jc_L_law 25 = .ok (.aload_n 0, 1) := by decide +kernel
theorem jd_L_law_26 : decode jc_L_law 26 = .ok (.arraylength, 1) := by decide +kernel
theorem jd_L_law_27 : decode jc_L_law 27 = .ok (.iconst 4, 1) := by decide +kernel
theorem jd_L_law_28 : decode jc_L_law 28 = .ok (.isub, 1) := by decide +kernel
theorem jd_L_law_29 : decode jc_L_law 29 = .ok (.if_icmp .gt 1102, 3) := by decide +kernel
theorem jd_L_law_32 : decode jc_L_law 32 = .ok (.aload_n 0, 1) := by decide +kernel
theorem jd_L_law_33 : decode jc_L_law 33 = .ok (.iload 4, 2) := by decide +kernel
theorem jd_L_law_35 : decode jc_L_law 35 = .ok (.iaload, 1) := by decide +kernel
theorem jd_L_law_36 : decode jc_L_law 36 = .ok (.bipush 31, 2) := by decide +kernel
theorem jd_L_law_38 : decode jc_L_law 38 = .ok (.iand, 1) := by decide +kernel
theorem jd_L_law_39 : decode jc_L_law 39 = .ok (.tableswitch 1086 0 17 #[85, 165, 245, 301, 357, 401, 457, 525, 581, 637, 693, 737, 781, 837, 905, 961, 1017, 1030], 85) := by decide +kernel
theorem jd_L_law_124 : decode jc_L_law 124 = .ok (.aload_n 1, 1) := by decide +kernel
theorem jd_L_law_125 : decode jc_L_law 125 = .ok (.aload_n 0, 1) := by decide +kernel
theorem jd_L_law_126 : decode jc_L_law 126 = .ok (.iload 4, 2) := by decide +kernel
theorem jd_L_law_128 : decode jc_L_law 128 = .ok (.iconst 1, 1) := by decide +kernel
theorem jd_L_law_129 : decode jc_L_law 129 = .ok (.iadd, 1) := by decide +kernel
theorem jd_L_law_130 : decode jc_L_law 130 = .ok (.iaload, 1) := by decide +kernel
theorem jd_L_law_131 : decode jc_L_law 131 = .ok (.aload_n 0, 1) := by decide +kernel
theorem jd_L_law_132 : decode jc_L_law 132 = .ok (.iload 4, 2) := by decide +kernel
theorem jd_L_law_134 : decode jc_L_law 134 = .ok (.iconst 2, 1) := by decide +kernel
theorem jd_L_law_135 : decode jc_L_law 135 = .ok (.iadd, 1) := by decide +kernel
theorem jd_L_law_136 : decode jc_L_law 136 = .ok (.iaload, 1) := by decide +kernel
theorem jd_L_law_137 : decode jc_L_law 137 = .ok (.aload_n 0, 1) := by decide +kernel
theorem jd_L_law_138 : decode jc_L_law 138 = .ok (.iload 4, 2) := by decide +kernel
theorem jd_L_law_140 : decode jc_L_law 140 = .ok (.iconst 3, 1) := by decide +kernel
theorem jd_L_law_141 : decode jc_L_law 141 = .ok (.iadd, 1) := by decide +kernel
theorem jd_L_law_142 : decode jc_L_law 142 = .ok (.iaload, 1) := by decide +kernel
theorem jd_L_law_143 : decode jc_L_law 143 = .ok (.aload_n 3, 1) := by decide +kernel
theorem jd_L_law_144 : decode jc_L_law 144 = .ok (.invokestatic 78, 3) := by decide +kernel
theorem jd_L_law_147 : decode jc_L_law 147 = .ok (.istore 5, 2) := by decide +kernel
theorem jd_L_law_149 : decode jc_L_law 149 = .ok (.aload_n 2, 1) := by decide +kernel
theorem jd_L_law_150 : decode jc_L_law 150 = .ok (.aload_n 0, 1) := by decide +kernel
theorem jd_L_law_151 : decode jc_L_law 151 = .ok (.iload 4, 2) := by decide +kernel
theorem jd_L_law_153 : decode jc_L_law 153 = .ok (.iconst 1, 1) := by decide +kernel
theorem jd_L_law_154 : decode jc_L_law 154 = .ok (.iadd, 1) := by decide +kernel
theorem jd_L_law_155 : decode jc_L_law 155 = .ok (.iaload, 1) := by decide +kernel
theorem jd_L_law_156 : decode jc_L_law 156 = .ok (.aload_n 0, 1) := by decide +kernel
theorem jd_L_law_157 : decode jc_L_law 157 = .ok (.iload 4, 2) := by decide +kernel
theorem jd_L_law_159 : decode jc_L_law 159 = .ok (.iconst 2, 1) := by decide +kernel
theorem jd_L_law_160 : decode jc_L_law 160 = .ok (.iadd, 1) := by decide +kernel
theorem jd_L_law_161 : decode jc_L_law 161 = .ok (.iaload, 1) := by decide +kernel
theorem jd_L_law_162 : decode jc_L_law 162 = .ok (.aload_n 0, 1) := by decide +kernel
theorem jd_L_law_163 : decode jc_L_law 163 = .ok (.iload 4, 2) := by decide +kernel
theorem jd_L_law_165 : decode jc_L_law 165 = .ok (.iconst 3, 1) := by decide +kernel
theorem jd_L_law_166 : decode jc_L_law 166 = .ok (.iadd, 1) := by decide +kernel
theorem jd_L_law_167 : decode jc_L_law 167 = .ok (.iaload, 1) := by decide +kernel
theorem jd_L_law_168 : decode jc_L_law 168 = .ok (.invokevirtual 83, 3) := by decide +kernel
theorem jd_L_law_171 : decode jc_L_law 171 = .ok (.istore 6, 2) := by decide +kernel
theorem jd_L_law_173 : decode jc_L_law 173 = .ok (.aload_n 2, 1) := by decide +kernel
theorem jd_L_law_174 : decode jc_L_law 174 = .ok (.invokevirtual 84, 3) := by decide +kernel
theorem jd_L_law_177 : decode jc_L_law 177 = .ok (.iload 5, 2) := by decide +kernel
theorem jd_L_law_179 : decode jc_L_law 179 = .ok (.if_icmp .eq 5, 3) := by decide +kernel
theorem jd_L_law_182 : decode jc_L_law 182 = .ok (.iconst 0, 1) := by decide +kernel
theorem jd_L_law_183 : decode jc_L_law 183 = .ok (.ireturn, 1) := by decide +kernel
theorem jd_L_law_184 : decode jc_L_law 184 = .ok (.iload 5, 2) := by decide +kernel
theorem jd_L_law_186 : decode jc_L_law 186 = .ok (.ifCond .ne 15, 3) := by decide +kernel
theorem jd_L_law_189 : decode jc_L_law 189 = .ok (.aload_n 3, 1) := by decide +kernel
theorem jd_L_law_190 : decode jc_L_law 190 = .ok (.iconst 0, 1) := by decide +kernel
theorem jd_L_law_191 : decode jc_L_law 191 = .ok (.laload, 1) := by decide +kernel
theorem jd_L_law_192 : decode jc_L_law 192 = .ok (.iload 6, 2) := by decide +kernel
theorem jd_L_law_194 : decode jc_L_law 194 = .ok (.i2l, 1) := by decide +kernel
theorem jd_L_law_195 : decode jc_L_law 195 = .ok (.lcmp, 1) := by decide +kernel
theorem jd_L_law_196 : decode jc_L_law 196 = .ok (.ifCond .eq 5, 3) := by decide +kernel
theorem jd_L_law_199 : decode jc_L_law 199 = .ok (.iconst 0, 1) := by decide +kernel
theorem jd_L_law_200 : decode jc_L_law 200 = .ok (.ireturn, 1) := by decide +kernel
theorem jd_L_law_201 : decode jc_L_law 201 = .ok (.goto 924, 3) := by decide +kernel
theorem jd_L_law_204 : decode jc_L_law 204 = .ok (.aload_n 1, 1) := by decide +kernel
theorem jd_L_law_205 : decode jc_L_law 205 = .ok (.aload_n 0, 1) := by decide +kernel
theorem jd_L_law_206 : decode jc_L_law 206 = .ok (.iload 4, 2) := by decide +kernel
theorem jd_L_law_208 : decode jc_L_law 208 = .ok (.iconst 1, 1) := by decide +kernel
theorem jd_L_law_209 : decode jc_L_law 209 = .ok (.iadd, 1) := by decide +kernel
theorem jd_L_law_210 : decode jc_L_law 210 = .ok (.iaload, 1) := by decide +kernel
theorem jd_L_law_211 : decode jc_L_law 211 = .ok (.aload_n 0, 1) := by decide +kernel
theorem jd_L_law_212 : decode jc_L_law 212 = .ok (.iload 4, 2) := by decide +kernel
theorem jd_L_law_214 : decode jc_L_law 214 = .ok (.iconst 2, 1) := by decide +kernel
theorem jd_L_law_215 : decode jc_L_law 215 = .ok (.iadd, 1) := by decide +kernel
theorem jd_L_law_216 : decode jc_L_law 216 = .ok (.iaload, 1) := by decide +kernel
theorem jd_L_law_217 : decode jc_L_law 217 = .ok (.aload_n 0, 1) := by decide +kernel
theorem jd_L_law_218 : decode jc_L_law 218 = .ok (.iload 4, 2) := by decide +kernel
theorem jd_L_law_220 : decode jc_L_law 220 = .ok (.iconst 3, 1) := by decide +kernel
theorem jd_L_law_221 : decode jc_L_law 221 = .ok (.iadd, 1) := by decide +kernel
theorem jd_L_law_222 : decode jc_L_law 222 = .ok (.iaload, 1) := by decide +kernel
theorem jd_L_law_223 : decode jc_L_law 223 = .ok (.aload_n 3, 1) := by decide +kernel
theorem jd_L_law_224 : decode jc_L_law 224 = .ok (.invokestatic 87, 3) := by decide +kernel
theorem jd_L_law_227 : decode jc_L_law 227 = .ok (.istore 5, 2) := by decide +kernel
theorem jd_L_law_229 : decode jc_L_law 229 = .ok (.aload_n 2, 1) := by decide +kernel
theorem jd_L_law_230 : decode jc_L_law 230 = .ok (.aload_n 0, 1) := by decide +kernel
theorem jd_L_law_231 : decode jc_L_law 231 = .ok (.iload 4, 2) := by decide +kernel
theorem jd_L_law_233 : decode jc_L_law 233 = .ok (.iconst 1, 1) := by decide +kernel
theorem jd_L_law_234 : decode jc_L_law 234 = .ok (.iadd, 1) := by decide +kernel
theorem jd_L_law_235 : decode jc_L_law 235 = .ok (.iaload, 1) := by decide +kernel
theorem jd_L_law_236 : decode jc_L_law 236 = .ok (.aload_n 0, 1) := by decide +kernel
theorem jd_L_law_237 : decode jc_L_law 237 = .ok (.iload 4, 2) := by decide +kernel
theorem jd_L_law_239 : decode jc_L_law 239 = .ok (.iconst 2, 1) := by decide +kernel
theorem jd_L_law_240 : decode jc_L_law 240 = .ok (.iadd, 1) := by decide +kernel
theorem jd_L_law_241 : decode jc_L_law 241 = .ok (.iaload, 1) := by decide +kernel
theorem jd_L_law_242 : decode jc_L_law 242 = .ok (.aload_n 0, 1) := by decide +kernel
end
section
theorem jd_L_law_243 : decode jc_L_law 243 = .ok (.iload 4, 2) := by decide +kernel
theorem jd_L_law_245 : decode jc_L_law 245 = .ok (.iconst 3, 1) := by decide +kernel
theorem jd_L_law_246 : decode jc_L_law 246 = .ok (.iadd, 1) := by decide +kernel
theorem jd_L_law_247 : decode jc_L_law 247 = .ok (.iaload, 1) := by decide +kernel
theorem jd_L_law_248 : decode jc_L_law 248 = .ok (.invokevirtual 89, 3) := by decide +kernel
theorem jd_L_law_251 : decode jc_L_law 251 = .ok (.istore 6, 2) := by decide +kernel
theorem jd_L_law_253 : decode jc_L_law 253 = .ok (.aload_n 2, 1) := by decide +kernel
theorem jd_L_law_254 : decode jc_L_law 254 = .ok (.invokevirtual 84, 3) := by decide +kernel
theorem jd_L_law_257 : decode jc_L_law 257 = .ok (.iload 5, 2) := by decide +kernel
theorem jd_L_law_259 : decode jc_L_law 259 = .ok (.if_icmp .eq 5, 3) := by decide +kernel
theorem jd_L_law_262 : decode jc_L_law 262 = .ok (.iconst 0, 1) := by decide +kernel
theorem jd_L_law_263 : decode jc_L_law 263 = .ok (.ireturn, 1) := by decide +kernel
theorem jd_L_law_264 : decode jc_L_law 264 = .ok (.iload 5, 2) := by decide +kernel
theorem jd_L_law_266 : decode jc_L_law 266 = .ok (.ifCond .ne 15, 3) := by decide +kernel
theorem jd_L_law_269 : decode jc_L_law 269 = .ok (.aload_n 3, 1) := by decide +kernel
theorem jd_L_law_270 : decode jc_L_law 270 = .ok (.iconst 0, 1) := by decide +kernel
theorem jd_L_law_271 : decode jc_L_law 271 = .ok (.laload, 1) := by decide +kernel
theorem jd_L_law_272 : decode jc_L_law 272 = .ok (.iload 6, 2) := by decide +kernel
theorem jd_L_law_274 : decode jc_L_law 274 = .ok (.i2l, 1) := by decide +kernel
theorem jd_L_law_275 : decode jc_L_law 275 = .ok (.lcmp, 1) := by decide +kernel
theorem jd_L_law_276 : decode jc_L_law 276 = .ok (.ifCond .eq 5, 3) := by decide +kernel
theorem jd_L_law_279 : decode jc_L_law 279 = .ok (.iconst 0, 1) := by decide +kernel
theorem jd_L_law_280 : decode jc_L_law 280 = .ok (.ireturn, 1) := by decide +kernel
theorem jd_L_law_281 : decode jc_L_law 281 = .ok (.goto 844, 3) := by decide +kernel
theorem jd_L_law_284 : decode jc_L_law 284 = .ok (.aload_n 1, 1) := by decide +kernel
theorem jd_L_law_285 : decode jc_L_law 285 = .ok (.aload_n 0, 1) := by decide +kernel
theorem jd_L_law_286 : decode jc_L_law 286 = .ok (.iload 4, 2) := by decide +kernel
theorem jd_L_law_288 : decode jc_L_law 288 = .ok (.iconst 1, 1) := by decide +kernel
theorem jd_L_law_289 : decode jc_L_law 289 = .ok (.iadd, 1) := by decide +kernel
theorem jd_L_law_290 : decode jc_L_law 290 = .ok (.iaload, 1) := by decide +kernel
theorem jd_L_law_291 : decode jc_L_law 291 = .ok (.aload_n 3, 1) := by decide +kernel
theorem jd_L_law_292 : decode jc_L_law 292 = .ok (.invokestatic 90, 3) := by decide +kernel
theorem jd_L_law_295 : decode jc_L_law 295 = .ok (.istore 5, 2) := by decide +kernel
theorem jd_L_law_297 : decode jc_L_law 297 = .ok (.aload_n 2, 1) := by decide +kernel
theorem jd_L_law_298 : decode jc_L_law 298 = .ok (.aload_n 0, 1) := by decide +kernel
theorem jd_L_law_299 : decode jc_L_law 299 = .ok (.iload 4, 2) := by decide +kernel
theorem jd_L_law_301 : decode jc_L_law 301 = .ok (.iconst 1, 1) := by decide +kernel
theorem jd_L_law_302 : decode jc_L_law 302 = .ok (.iadd, 1) := by decide +kernel
theorem jd_L_law_303 : decode jc_L_law 303 = .ok (.iaload, 1) := by decide +kernel
theorem jd_L_law_304 : decode jc_L_law 304 = .ok (.invokevirtual 93, 3) := by decide +kernel
theorem jd_L_law_307 : decode jc_L_law 307 = .ok (.istore 6, 2) := by decide +kernel
theorem jd_L_law_309 : decode jc_L_law 309 = .ok (.aload_n 2, 1) := by decide +kernel
theorem jd_L_law_310 : decode jc_L_law 310 = .ok (.invokevirtual 84, 3) := by decide +kernel
theorem jd_L_law_313 : decode jc_L_law 313 = .ok (.iload 5, 2) := by decide +kernel
theorem jd_L_law_315 : decode jc_L_law 315 = .ok (.if_icmp .eq 5, 3) := by decide +kernel
theorem jd_L_law_318 : decode jc_L_law 318 = .ok (.iconst 0, 1) := by decide +kernel
theorem jd_L_law_319 : decode jc_L_law 319 = .ok (.ireturn, 1) := by decide +kernel
theorem jd_L_law_320 : decode jc_L_law 320 = .ok (.iload 5, 2) := by decide +kernel
theorem jd_L_law_322 : decode jc_L_law 322 = .ok (.ifCond .ne 15, 3) := by decide +kernel
theorem jd_L_law_325 : decode jc_L_law 325 = .ok (.aload_n 3, 1) := by decide +kernel
theorem jd_L_law_326 : decode jc_L_law 326 = .ok (.iconst 0, 1) := by decide +kernel
theorem jd_L_law_327 : decode jc_L_law 327 = .ok (.laload, 1) := by decide +kernel
theorem jd_L_law_328 : decode jc_L_law 328 = .ok (.iload 6, 2) := by decide +kernel
theorem jd_L_law_330 : decode jc_L_law 330 = .ok (.i2l, 1) := by decide +kernel
theorem jd_L_law_331 : decode jc_L_law 331 = .ok (.lcmp, 1) := by decide +kernel
theorem jd_L_law_332 : decode jc_L_law 332 = .ok (.ifCond .eq 5, 3) := by decide +kernel
theorem jd_L_law_335 : decode jc_L_law 335 = .ok (.iconst 0, 1) := by decide +kernel
theorem jd_L_law_336 : decode jc_L_law 336 = .ok (.ireturn, 1) := by decide +kernel
theorem jd_L_law_337 : decode jc_L_law 337 = .ok (.goto 788, 3) := by decide +kernel
theorem jd_L_law_340 : decode jc_L_law 340 = .ok (.aload_n 1, 1) := by decide +kernel
theorem jd_L_law_341 : decode jc_L_law 341 = .ok (.aload_n 0, 1) := by decide +kernel
theorem jd_L_law_342 : decode jc_L_law 342 = .ok (.iload 4, 2) := by decide +kernel
theorem jd_L_law_344 : decode jc_L_law 344 = .ok (.iconst 1, 1) := by decide +kernel
theorem jd_L_law_345 : decode jc_L_law 345 = .ok (.iadd, 1) := by decide +kernel
theorem jd_L_law_346 : decode jc_L_law 346 = .ok (.iaload, 1) := by decide +kernel
theorem jd_L_law_347 : decode jc_L_law 347 = .ok (.aload_n 3, 1) := by decide +kernel
theorem jd_L_law_348 : decode jc_L_law 348 = .ok (.invokestatic 94, 3) := by decide +kernel
theorem jd_L_law_351 : decode jc_L_law 351 = .ok (.istore 5, 2) := by decide +kernel
theorem jd_L_law_353 : decode jc_L_law 353 = .ok (.aload_n 2, 1) := by decide +kernel
theorem jd_L_law_354 : decode jc_L_law 354 = .ok (.aload_n 0, 1) := by decide +kernel
theorem jd_L_law_355 : decode jc_L_law 355 = .ok (.iload 4, 2) := by decide +kernel
theorem jd_L_law_357 : decode jc_L_law 357 = .ok (.iconst 1, 1) := by decide +kernel
theorem jd_L_law_358 : decode jc_L_law 358 = .ok (.iadd, 1) := by decide +kernel
theorem jd_L_law_359 : decode jc_L_law 359 = .ok (.iaload, 1) := by decide +kernel
theorem jd_L_law_360 : decode jc_L_law 360 = .ok (.invokevirtual 96, 3) := by decide +kernel
theorem jd_L_law_363 : decode jc_L_law 363 = .ok (.istore 6, 2) := by decide +kernel
theorem jd_L_law_365 : decode jc_L_law 365 = .ok (.aload_n 2, 1) := by decide +kernel
theorem jd_L_law_366 : decode jc_L_law 366 = .ok (.invokevirtual 84, 3) := by decide +kernel
theorem jd_L_law_369 : decode jc_L_law 369 = .ok (.iload 5, 2) := by decide +kernel
theorem jd_L_law_371 : decode jc_L_law 371 = .ok (.if_icmp .eq 5, 3) := by decide +kernel
theorem jd_L_law_374 : decode jc_L_law 374 = .ok (.iconst 0, 1) := by decide +kernel
theorem jd_L_law_375 : decode jc_L_law 375 = .ok (.ireturn, 1) := by decide +kernel
theorem jd_L_law_376 : decode jc_L_law 376 = .ok (.iload 5, 2) := by decide +kernel
theorem jd_L_law_378 : decode jc_L_law 378 = .ok (.ifCond .ne 15, 3) := by decide +kernel
theorem jd_L_law_381 : decode jc_L_law 381 = .ok (.aload_n 3, 1) := by decide +kernel
theorem jd_L_law_382 : decode jc_L_law 382 = .ok (.iconst 0, 1) := by decide +kernel
theorem jd_L_law_383 : decode jc_L_law 383 = .ok (.laload, 1) := by decide +kernel
theorem jd_L_law_384 : decode jc_L_law 384 = .ok (.iload 6, 2) := by decide +kernel
theorem jd_L_law_386 : decode jc_L_law 386 = .ok (.i2l, 1) := by decide +kernel
theorem jd_L_law_387 : decode jc_L_law 387 = .ok (.lcmp, 1) := by decide +kernel
theorem jd_L_law_388 : decode jc_L_law 388 = .ok (.ifCond .eq 5, 3) := by decide +kernel
theorem jd_L_law_391 : decode jc_L_law 391 = .ok (.iconst 0, 1) := by decide +kernel
theorem jd_L_law_392 : decode jc_L_law 392 = .ok (.ireturn, 1) := by decide +kernel
theorem jd_L_law_393 : decode jc_L_law 393 = .ok (.goto 732, 3) := by decide +kernel
theorem jd_L_law_396 : decode jc_L_law 396 = .ok (.aload_n 1, 1) := by decide +kernel
theorem jd_L_law_397 : decode jc_L_law 397 = .ok (.aload_n 3, 1) := by decide +kernel
theorem jd_L_law_398 : decode jc_L_law 398 = .ok (.invokestatic 97, 3) := by decide +kernel
theorem jd_L_law_401 : decode jc_L_law 401 = .ok (.istore 5, 2) := by decide +kernel
theorem jd_L_law_403 : decode jc_L_law 403 = .ok (.aload_n 2, 1) := by decide +kernel
theorem jd_L_law_404 : decode jc_L_law 404 = .ok (.invokevirtual 100, 3) := by decide +kernel
theorem jd_L_law_407 : decode jc_L_law 407 = .ok (.istore 6, 2) := by decide +kernel
theorem jd_L_law_409 : decode jc_L_law 409 = .ok (.aload_n 2, 1) := by decide +kernel
theorem jd_L_law_410 : decode jc_L_law 410 = .ok (.invokevirtual 84, 3) := by decide +kernel
theorem jd_L_law_413 : decode jc_L_law 413 = .ok (.iload 5, 2) := by decide +kernel
theorem jd_L_law_415 : decode jc_L_law 415 = .ok (.if_icmp .eq 5, 3) := by decide +kernel
theorem jd_L_law_418 : decode jc_L_law 418 = .ok (.iconst 0, 1) := by decide +kernel
theorem jd_L_law_419 : decode jc_L_law 419 = .ok (.ireturn, 1) := by decide +kernel
theorem jd_L_law_420 : decode jc_L_law 420 = .ok (.iload 5, 2) := by decide +kernel
theorem jd_L_law_422 : decode jc_L_law 422 = .ok (.ifCond .ne 15, 3) := by decide +kernel
theorem jd_L_law_425 : decode jc_L_law 425 = .ok (.aload_n 3, 1) := by decide +kernel
theorem jd_L_law_426 : decode jc_L_law 426 = .ok (.iconst 0, 1) := by decide +kernel
theorem jd_L_law_427 : decode jc_L_law 427 = .ok (.laload, 1) := by decide +kernel
theorem jd_L_law_428 : decode jc_L_law 428 = .ok (.iload 6, 2) := by decide +kernel
theorem jd_L_law_430 : decode jc_L_law 430 = .ok (.i2l, 1) := by decide +kernel
theorem jd_L_law_431 : decode jc_L_law 431 = .ok (.lcmp, 1) := by decide +kernel
theorem jd_L_law_432 : decode jc_L_law 432 = .ok (.ifCond .eq 5, 3) := by decide +kernel
theorem jd_L_law_435 : decode jc_L_law 435 = .ok (.iconst 0, 1) := by decide +kernel
theorem jd_L_law_436 : decode jc_L_law 436 = .ok (.ireturn, 1) := by decide +kernel
theorem jd_L_law_437 : decode jc_L_law 437 = .ok (.goto 688, 3) := by decide +kernel
theorem jd_L_law_440 : decode jc_L_law 440 = .ok (.aload_n 1, 1) := by decide +kernel
theorem jd_L_law_441 : decode jc_L_law 441 = .ok (.aload_n 0, 1) := by decide +kernel
theorem jd_L_law_442 : decode jc_L_law 442 = .ok (.iload 4, 2) := by decide +kernel
theorem jd_L_law_444 : decode jc_L_law 444 = .ok (.iconst 1, 1) := by decide +kernel
theorem jd_L_law_445 : decode jc_L_law 445 = .ok (.iadd, 1) := by decide +kernel
theorem jd_L_law_446 : decode jc_L_law 446 = .ok (.iaload, 1) := by decide +kernel
theorem jd_L_law_447 : decode jc_L_law 447 = .ok (.aload_n 3, 1) := by decide +kernel
theorem jd_L_law_448 : decode jc_L_law 448 = .ok (.invokestatic 101, 3) := by decide +kernel
theorem jd_L_law_451 : decode jc_L_law 451 = .ok (.istore 5, 2) := by decide +kernel
theorem jd_L_law_453 : decode jc_L_law 453 = .ok (.aload_n 2, 1) := by decide +kernel
theorem jd_L_law_454 : decode jc_L_law 454 = .ok (.aload_n 0, 1) := by decide +kernel
theorem jd_L_law_455 : decode jc_L_law 455 = .ok (.iload 4, 2) := by decide +kernel
theorem jd_L_law_457 : decode jc_L_law 457 = .ok (.iconst 1, 1) := by decide +kernel
theorem jd_L_law_458 : decode jc_L_law 458 = .ok (.iadd, 1) := by decide +kernel
theorem jd_L_law_459 : decode jc_L_law 459 = .ok (.iaload, 1) := by decide +kernel
theorem jd_L_law_460 : decode jc_L_law 460 = .ok (.invokevirtual 103, 3) := by decide +kernel
theorem jd_L_law_463 : decode jc_L_law 463 = .ok (.istore 6, 2) := by decide +kernel
theorem jd_L_law_465 : decode jc_L_law 465 = .ok (.aload_n 2, 1) := by decide +kernel
theorem jd_L_law_466 : decode jc_L_law 466 = .ok (.invokevirtual 84, 3) := by decide +kernel
theorem jd_L_law_469 : decode jc_L_law 469 = .ok (.iload 5, 2) := by decide +kernel
theorem jd_L_law_471 : decode jc_L_law 471 = .ok (.if_icmp .eq 5, 3) := by decide +kernel
theorem jd_L_law_474 : decode jc_L_law 474 = .ok (.iconst 0, 1) := by decide +kernel
theorem jd_L_law_475 : decode jc_L_law 475 = .ok (.ireturn, 1) := by decide +kernel
theorem jd_L_law_476 : decode jc_L_law 476 = .ok (.iload 5, 2) := by decide +kernel
theorem jd_L_law_478 : decode jc_L_law 478 = .ok (.ifCond .ne 15, 3) := by decide +kernel
theorem jd_L_law_481 : decode jc_L_law 481 = .ok (.aload_n 3, 1) := by decide +kernel
theorem jd_L_law_482 : decode jc_L_law 482 = .ok (.iconst 0, 1) := by decide +kernel
theorem jd_L_law_483 : decode jc_L_law 483 = .ok (.laload, 1) := by decide +kernel
theorem jd_L_law_484 : decode jc_L_law 484 = .ok (.iload 6, 2) := by decide +kernel
theorem jd_L_law_486 : decode jc_L_law 486 = .ok (.i2l, 1) := by decide +kernel
theorem jd_L_law_487 : decode jc_L_law 487 = .ok (.lcmp, 1) := by decide +kernel
theorem jd_L_law_488 : decode jc_L_law 488 = .ok (.ifCond .eq 5, 3) := by decide +kernel
theorem jd_L_law_491 : decode jc_L_law 491 = .ok (.iconst 0, 1) := by decide +kernel
theorem jd_L_law_492 : decode jc_L_law 492 = .ok (.ireturn, 1) := by decide +kernel
theorem jd_L_law_493 : decode jc_L_law 493 = .ok (.goto 632, 3) := by decide +kernel
theorem jd_L_law_496 : decode jc_L_law 496 = .ok (.aload_n 1, 1) := by decide +kernel
theorem jd_L_law_497 : decode jc_L_law 497 = .ok (.aload_n 0, 1) := by decide +kernel
theorem jd_L_law_498 : decode jc_L_law 498 = .ok (.iload 4, 2) := by decide +kernel
theorem jd_L_law_500 : decode jc_L_law 500 = .ok (.iconst 1, 1) := by decide +kernel
theorem jd_L_law_501 : decode jc_L_law 501 = .ok (.iadd, 1) := by decide +kernel
theorem jd_L_law_502 : decode jc_L_law 502 = .ok (.iaload, 1) := by decide +kernel
theorem jd_L_law_503 : decode jc_L_law 503 = .ok (.aload_n 0, 1) := by decide +kernel
theorem jd_L_law_504 : decode jc_L_law 504 = .ok (.iload 4, 2) := by decide +kernel
theorem jd_L_law_506 : decode jc_L_law 506 = .ok (.iconst 2, 1) := by decide +kernel
theorem jd_L_law_507 : decode jc_L_law 507 = .ok (.iadd, 1) := by decide +kernel
theorem jd_L_law_508 : decode jc_L_law 508 = .ok (.iaload, 1) := by decide +kernel
theorem jd_L_law_509 : decode jc_L_law 509 = .ok (.aload_n 3, 1) := by decide +kernel
theorem jd_L_law_510 : decode jc_L_law 510 = .ok (.invokestatic 104, 3) := by decide +kernel
theorem jd_L_law_513 : decode jc_L_law 513 = .ok (.istore 5, 2) := by decide +kernel
theorem jd_L_law_515 : decode jc_L_law 515 = .ok (.aload_n 2, 1) := by decide +kernel
theorem jd_L_law_516 : decode jc_L_law 516 = .ok (.aload_n 0, 1) := by decide +kernel
theorem jd_L_law_517 : decode jc_L_law 517 = .ok (.iload 4, 2) := by decide +kernel
theorem jd_L_law_519 : decode jc_L_law 519 = .ok (.iconst 1, 1) := by decide +kernel
theorem jd_L_law_520 : decode jc_L_law 520 = .ok (.iadd, 1) := by decide +kernel
theorem jd_L_law_521 : decode jc_L_law 521 = .ok (.iaload, 1) := by decide +kernel
theorem jd_L_law_522 : decode jc_L_law 522 = .ok (.aload_n 0, 1) := by decide +kernel
theorem jd_L_law_523 : decode jc_L_law 523 = .ok (.iload 4, 2) := by decide +kernel
theorem jd_L_law_525 : decode jc_L_law 525 = .ok (.iconst 2, 1) := by decide +kernel
theorem jd_L_law_526 : decode jc_L_law 526 = .ok (.iadd, 1) := by decide +kernel
theorem jd_L_law_527 : decode jc_L_law 527 = .ok (.iaload, 1) := by decide +kernel
theorem jd_L_law_528 : decode jc_L_law 528 = .ok (.invokevirtual 107, 3) := by decide +kernel
theorem jd_L_law_531 : decode jc_L_law 531 = .ok (.istore 6, 2) := by decide +kernel
theorem jd_L_law_533 : decode jc_L_law 533 = .ok (.aload_n 2, 1) := by decide +kernel
theorem jd_L_law_534 : decode jc_L_law 534 = .ok (.invokevirtual 84, 3) := by decide +kernel
theorem jd_L_law_537 : decode jc_L_law 537 = .ok (.iload 5, 2) := by decide +kernel
theorem jd_L_law_539 : decode jc_L_law 539 = .ok (.if_icmp .eq 5, 3) := by decide +kernel
theorem jd_L_law_542 : decode jc_L_law 542 = .ok (.iconst 0, 1) := by decide +kernel
theorem jd_L_law_543 : decode jc_L_law 543 = .ok (.ireturn, 1) := by decide +kernel
theorem jd_L_law_544 : decode jc_L_law 544 = .ok (.iload 5, 2) := by decide +kernel
theorem jd_L_law_546 : decode jc_L_law 546 = .ok (.ifCond .ne 15, 3) := by decide +kernel
theorem jd_L_law_549 : decode jc_L_law 549 = .ok (.aload_n 3, 1) := by decide +kernel
theorem jd_L_law_550 : decode jc_L_law 550 = .ok (.iconst 0, 1) := by decide +kernel
theorem jd_L_law_551 : decode jc_L_law 551 = .ok (.laload, 1) := by decide +kernel
theorem jd_L_law_552 : decode jc_L_law 552 = .ok (.iload 6, 2) := by decide +kernel
theorem jd_L_law_554 : decode jc_L_law 554 = .ok (.i2l, 1) := by decide +kernel
theorem jd_L_law_555 : decode jc_L_law 555 = .ok (.lcmp, 1) := by decide +kernel
theorem jd_L_law_556 : decode jc_L_law 556 = .ok (.ifCond .eq 5, 3) := by decide +kernel
theorem jd_L_law_559 : decode jc_L_law 559 = .ok (.iconst 0, 1) := by decide +kernel
theorem jd_L_law_560 : decode jc_L_law 560 = .ok (.ireturn, 1) := by decide +kernel
theorem jd_L_law_561 : decode jc_L_law 561 = .ok (.goto 564, 3) := by decide +kernel
theorem jd_L_law_564 : decode jc_L_law 564 = .ok (.aload_n 1, 1) := by decide +kernel
theorem jd_L_law_565 : decode jc_L_law 565 = .ok (.aload_n 0, 1) := by decide +kernel
theorem jd_L_law_566 : decode jc_L_law 566 = .ok (.iload 4, 2) := by decide +kernel
theorem jd_L_law_568 : decode jc_L_law 568 = .ok (.iconst 1, 1) := by decide +kernel
theorem jd_L_law_569 : decode jc_L_law 569 = .ok (.iadd, 1) := by decide +kernel
theorem jd_L_law_570 : decode jc_L_law 570 = .ok (.iaload, 1) := by decide +kernel
theorem jd_L_law_571 : decode jc_L_law 571 = .ok (.aload_n 3, 1) := by decide +kernel
theorem jd_L_law_572 : decode jc_L_law 572 = .ok (.invokestatic 108, 3) := by decide +kernel
theorem jd_L_law_575 : decode jc_L_law 575 = .ok (.istore 5, 2) := by decide +kernel
theorem jd_L_law_577 : decode jc_L_law 577 = .ok (.aload_n 2, 1) := by decide +kernel
theorem jd_L_law_578 : decode jc_L_law 578 = .ok (.aload_n 0, 1) := by decide +kernel
theorem jd_L_law_579 : decode jc_L_law 579 = .ok (.iload 4, 2) := by decide +kernel
theorem jd_L_law_581 : decode jc_L_law 581 = .ok (.iconst 1, 1) := by decide +kernel
theorem jd_L_law_582 : decode jc_L_law 582 = .ok (.iadd, 1) := by decide +kernel
theorem jd_L_law_583 : decode jc_L_law 583 = .ok (.iaload, 1) := by decide +kernel
theorem jd_L_law_584 : decode jc_L_law 584 = .ok (.invokevirtual 110, 3) := by decide +kernel
theorem jd_L_law_587 : decode jc_L_law 587 = .ok (.istore 6, 2) := by decide +kernel
theorem jd_L_law_589 : decode jc_L_law 589 = .ok (.aload_n 2, 1) := by decide +kernel
theorem jd_L_law_590 : decode jc_L_law 590 = .ok (.invokevirtual 84, 3) := by decide +kernel
theorem jd_L_law_593 : decode jc_L_law 593 = .ok (.iload 5, 2) := by decide +kernel
theorem jd_L_law_595 : decode jc_L_law 595 = .ok (.if_icmp .eq 5, 3) := by decide +kernel
theorem jd_L_law_598 : decode jc_L_law 598 = .ok (.iconst 0, 1) := by decide +kernel
theorem jd_L_law_599 : decode jc_L_law 599 = .ok (.ireturn, 1) := by decide +kernel
theorem jd_L_law_600 : decode jc_L_law 600 = .ok (.iload 5, 2) := by decide +kernel
theorem jd_L_law_602 : decode jc_L_law 602 = .ok (.ifCond .ne 15, 3) := by decide +kernel
theorem jd_L_law_605 : decode jc_L_law 605 = .ok (.aload_n 3, 1) := by decide +kernel
theorem jd_L_law_606 : decode jc_L_law 606 = .ok (.iconst 0, 1) := by decide +kernel
theorem jd_L_law_607 : decode jc_L_law 607 = .ok (.laload, 1) := by decide +kernel
theorem jd_L_law_608 : decode jc_L_law 608 = .ok (.iload 6, 2) := by decide +kernel
theorem jd_L_law_610 : decode jc_L_law 610 = .ok (.i2l, 1) := by decide +kernel
theorem jd_L_law_611 : decode jc_L_law 611 = .ok (.lcmp, 1) := by decide +kernel
theorem jd_L_law_612 : decode jc_L_law 612 = .ok (.ifCond .eq 5, 3) := by decide +kernel
theorem jd_L_law_615 : decode jc_L_law 615 = .ok (.iconst 0, 1) := by decide +kernel
theorem jd_L_law_616 : decode jc_L_law 616 = .ok (.ireturn, 1) := by decide +kernel
theorem jd_L_law_617 : decode jc_L_law 617 = .ok (.goto 508, 3) := by decide +kernel
theorem jd_L_law_620 : decode jc_L_law 620 = .ok (.aload_n 1, 1) := by decide +kernel
theorem jd_L_law_621 : decode jc_L_law 621 = .ok (.aload_n 0, 1) := by decide +kernel
theorem jd_L_law_622 : decode jc_L_law 622 = .ok (.iload 4, 2) := by decide +kernel
theorem jd_L_law_624 : decode jc_L_law 624 = .ok (.iconst 1, 1) := by decide +kernel
theorem jd_L_law_625 : decode jc_L_law 625 = .ok (.iadd, 1) := by decide +kernel
theorem jd_L_law_626 : decode jc_L_law 626 = .ok (.iaload, 1) := by decide +kernel
theorem jd_L_law_627 : decode jc_L_law 627 = .ok (.aload_n 3, 1) := by decide +kernel
theorem jd_L_law_628 : decode jc_L_law 628 = .ok (.invokestatic 111, 3) := by decide +kernel
theorem jd_L_law_631 : decode jc_L_law 631 = .ok (.istore 5, 2) := by decide +kernel
theorem jd_L_law_633 : decode jc_L_law 633 = .ok (.aload_n 2, 1) := by decide +kernel
theorem jd_L_law_634 : decode jc_L_law 634 = .ok (.aload_n 0, 1) := by decide +kernel
theorem jd_L_law_635 : decode jc_L_law 635 = .ok (.iload 4, 2) := by decide +kernel
theorem jd_L_law_637 : decode jc_L_law 637 = .ok (.iconst 1, 1) := by decide +kernel
theorem jd_L_law_638 : decode jc_L_law 638 = .ok (.iadd, 1) := by decide +kernel
theorem jd_L_law_639 : decode jc_L_law 639 = .ok (.iaload, 1) := by decide +kernel
theorem jd_L_law_640 : decode jc_L_law 640 = .ok (.invokevirtual 113, 3) := by decide +kernel
theorem jd_L_law_643 : decode jc_L_law 643 = .ok (.istore 6, 2) := by decide +kernel
theorem jd_L_law_645 : decode jc_L_law 645 = .ok (.aload_n 2, 1) := by decide +kernel
theorem jd_L_law_646 : decode jc_L_law 646 = .ok (.invokevirtual 84, 3) := by decide +kernel
theorem jd_L_law_649 : decode jc_L_law 649 = .ok (.iload 5, 2) := by decide +kernel
theorem jd_L_law_651 : decode jc_L_law 651 = .ok (.if_icmp .eq 5, 3) := by decide +kernel
theorem jd_L_law_654 : decode jc_L_law 654 = .ok (.iconst 0, 1) := by decide +kernel
theorem jd_L_law_655 : decode jc_L_law 655 = .ok (.ireturn, 1) := by decide +kernel
theorem jd_L_law_656 : decode jc_L_law 656 = .ok (.iload 5, 2) := by decide +kernel
theorem jd_L_law_658 : decode jc_L_law 658 = .ok (.ifCond .ne 15, 3) := by decide +kernel
theorem jd_L_law_661 : decode jc_L_law 661 = .ok (.aload_n 3, 1) := by decide +kernel
theorem jd_L_law_662 : decode jc_L_law 662 = .ok (.iconst 0, 1) := by decide +kernel
theorem jd_L_law_663 : decode jc_L_law 663 = .ok (.laload, 1) := by decide +kernel
theorem jd_L_law_664 : decode jc_L_law 664 = .ok (.iload 6, 2) := by decide +kernel
theorem jd_L_law_666 : decode jc_L_law 666 = .ok (.i2l, 1) := by decide +kernel
theorem jd_L_law_667 : decode jc_L_law 667 = .ok (.lcmp, 1) := by decide +kernel
theorem jd_L_law_668 : decode jc_L_law 668 = .ok (.ifCond .eq 5, 3) := by decide +kernel
theorem jd_L_law_671 : decode jc_L_law 671 = .ok (.iconst 0, 1) := by decide +kernel
theorem jd_L_law_672 : decode jc_L_law 672 = .ok (.ireturn, 1) := by decide +kernel
theorem jd_L_law_673 : decode jc_L_law 673 = .ok (.goto 452, 3) := by decide +kernel
theorem jd_L_law_676 : decode jc_L_law 676 = .ok (.aload_n 1, 1) := by decide +kernel
theorem jd_L_law_677 : decode jc_L_law 677 = .ok (.aload_n 0, 1) := by decide +kernel
theorem jd_L_law_678 : decode jc_L_law 678 = .ok (.iload 4, 2) := by decide +kernel
theorem jd_L_law_680 : decode jc_L_law 680 = .ok (.iconst 1, 1) := by decide +kernel
theorem jd_L_law_681 : decode jc_L_law 681 = .ok (.iadd, 1) := by decide +kernel
theorem jd_L_law_682 : decode jc_L_law 682 = .ok (.iaload, 1) := by decide +kernel
theorem jd_L_law_683 : decode jc_L_law 683 = .ok (.aload_n 3, 1) := by decide +kernel
theorem jd_L_law_684 : decode jc_L_law 684 = .ok (.invokestatic 114, 3) := by decide +kernel
theorem jd_L_law_687 : decode jc_L_law 687 = .ok (.istore 5, 2) := by decide +kernel
theorem jd_L_law_689 : decode jc_L_law 689 = .ok (.aload_n 2, 1) := by decide +kernel
theorem jd_L_law_690 : decode jc_L_law 690 = .ok (.aload_n 0, 1) := by decide +kernel
theorem jd_L_law_691 : decode jc_L_law 691 = .ok (.iload 4, 2) := by decide +kernel
theorem jd_L_law_693 : decode jc_L_law 693 = .ok (.iconst 1, 1) := by decide +kernel
theorem jd_L_law_694 : decode jc_L_law 694 = .ok (.iadd, 1) := by decide +kernel
theorem jd_L_law_695 : decode jc_L_law 695 = .ok (.iaload, 1) := by decide +kernel
theorem jd_L_law_696 : decode jc_L_law 696 = .ok (.invokevirtual 116, 3) := by decide +kernel
theorem jd_L_law_699 : decode jc_L_law 699 = .ok (.istore 6, 2) := by decide +kernel
theorem jd_L_law_701 : decode jc_L_law 701 = .ok (.aload_n 2, 1) := by decide +kernel
theorem jd_L_law_702 : decode jc_L_law 702 = .ok (.invokevirtual 84, 3) := by decide +kernel
theorem jd_L_law_705 : decode jc_L_law 705 = .ok (.iload 5, 2) := by decide +kernel
theorem jd_L_law_707 : decode jc_L_law 707 = .ok (.if_icmp .eq 5, 3) := by decide +kernel
theorem jd_L_law_710 : decode jc_L_law 710 = .ok (.iconst 0, 1) := by decide +kernel
theorem jd_L_law_711 : decode jc_L_law 711 = .ok (.ireturn, 1) := by decide +kernel
theorem jd_L_law_712 : decode jc_L_law 712 = .ok (.iload 5, 2) := by decide +kernel
theorem jd_L_law_714 : decode jc_L_law 714 = .ok (.ifCond .ne 15, 3) := by decide +kernel
theorem jd_L_law_717 : decode jc_L_law 717 = .ok (.aload_n 3, 1) := by decide +kernel
theorem jd_L_law_718 : decode jc_L_law 718 = .ok (.iconst 0, 1) := by decide +kernel
theorem jd_L_law_719 : decode jc_L_law 719 = .ok (.laload, 1) := by decide +kernel
theorem jd_L_law_720 : decode jc_L_law 720 = .ok (.iload 6, 2) := by decide +kernel
theorem jd_L_law_722 : decode jc_L_law 722 = .ok (.i2l, 1) := by decide +kernel
theorem jd_L_law_723 : decode jc_L_law 723 = .ok (.lcmp, 1) := by decide +kernel
theorem jd_L_law_724 : decode jc_L_law 724 = .ok (.ifCond .eq 5, 3) := by decide +kernel
theorem jd_L_law_727 : decode jc_L_law 727 = .ok (.iconst 0, 1) := by decide +kernel
theorem jd_L_law_728 : decode jc_L_law 728 = .ok (.ireturn, 1) := by decide +kernel
theorem jd_L_law_729 : decode jc_L_law 729 = .ok (.goto 396, 3) := by decide +kernel
theorem jd_L_law_732 : decode jc_L_law 732 = .ok (.aload_n 1, 1) := by decide +kernel
theorem jd_L_law_733 : decode jc_L_law 733 = .ok (.aload_n 3, 1) := by decide +kernel
theorem jd_L_law_734 : decode jc_L_law 734 = .ok (.invokestatic 117, 3) := by decide +kernel
theorem jd_L_law_737 : decode jc_L_law 737 = .ok (.istore 5, 2) := by decide +kernel
theorem jd_L_law_739 : decode jc_L_law 739 = .ok (.aload_n 2, 1) := by decide +kernel
theorem jd_L_law_740 : decode jc_L_law 740 = .ok (.invokevirtual 119, 3) := by decide +kernel
theorem jd_L_law_743 : decode jc_L_law 743 = .ok (.istore 6, 2) := by decide +kernel
theorem jd_L_law_745 : decode jc_L_law 745 = .ok (.aload_n 2, 1) := by decide +kernel
theorem jd_L_law_746 : decode jc_L_law 746 = .ok (.invokevirtual 84, 3) := by decide +kernel
theorem jd_L_law_749 : decode jc_L_law 749 = .ok (.iload 5, 2) := by decide +kernel
theorem jd_L_law_751 : decode jc_L_law 751 = .ok (.if_icmp .eq 5, 3) := by decide +kernel
theorem jd_L_law_754 : decode jc_L_law 754 = .ok (.iconst 0, 1) := by decide +kernel
theorem jd_L_law_755 : decode jc_L_law 755 = .ok (.ireturn, 1) := by decide +kernel
theorem jd_L_law_756 : decode jc_L_law 756 = .ok (.iload 5, 2) := by decide +kernel
theorem jd_L_law_758 : decode jc_L_law 758 = .ok (.ifCond .ne 15, 3) := by decide +kernel
theorem jd_L_law_761 : decode jc_L_law 761 = .ok (.aload_n 3, 1) := by decide +kernel
theorem jd_L_law_762 : decode jc_L_law 762 = .ok (.iconst 0, 1) := by decide +kernel
theorem jd_L_law_763 : decode jc_L_law 763 = .ok (.laload, 1) := by decide +kernel
theorem jd_L_law_764 : decode jc_L_law 764 = .ok (.iload 6, 2) := by decide +kernel
theorem jd_L_law_766 : decode jc_L_law 766 = .ok (.i2l, 1) := by decide +kernel
theorem jd_L_law_767 : decode jc_L_law 767 = .ok (.lcmp, 1) := by decide +kernel
theorem jd_L_law_768 : decode jc_L_law 768 = .ok (.ifCond .eq 5, 3) := by decide +kernel
theorem jd_L_law_771 : decode jc_L_law 771 = .ok (.iconst 0, 1) := by decide +kernel
theorem jd_L_law_772 : decode jc_L_law 772 = .ok (.ireturn, 1) := by decide +kernel
theorem jd_L_law_773 : decode jc_L_law 773 = .ok (.goto 352, 3) := by decide +kernel
theorem jd_L_law_776 : decode jc_L_law 776 = .ok (.aload_n 1, 1) := by decide +kernel
theorem jd_L_law_777 : decode jc_L_law 777 = .ok (.aload_n 3, 1) := by decide +kernel
theorem jd_L_law_778 : decode jc_L_law 778 = .ok (.invokestatic 120, 3) := by decide +kernel
theorem jd_L_law_781 : decode jc_L_law 781 = .ok (.istore 5, 2) := by decide +kernel
theorem jd_L_law_783 : decode jc_L_law 783 = .ok (.aload_n 2, 1) := by decide +kernel
theorem jd_L_law_784 : decode jc_L_law 784 = .ok (.invokevirtual 122, 3) := by decide +kernel
theorem jd_L_law_787 : decode jc_L_law 787 = .ok (.istore 6, 2) := by decide +kernel
theorem jd_L_law_789 : decode jc_L_law 789 = .ok (.aload_n 2, 1) := by decide +kernel
theorem jd_L_law_790 : decode jc_L_law 790 = .ok (.invokevirtual 84, 3) := by decide +kernel
theorem jd_L_law_793 : decode jc_L_law 793 = .ok (.iload 5, 2) := by decide +kernel
theorem jd_L_law_795 : decode jc_L_law 795 = .ok (.if_icmp .eq 5, 3) := by decide +kernel
theorem jd_L_law_798 : decode jc_L_law 798 = .ok (.iconst 0, 1) := by decide +kernel
theorem jd_L_law_799 : decode jc_L_law 799 = .ok (.ireturn, 1) := by decide +kernel
theorem jd_L_law_800 : decode jc_L_law 800 = .ok (.iload 5, 2) := by decide +kernel
theorem jd_L_law_802 : decode jc_L_law 802 = .ok (.ifCond .ne 15, 3) := by decide +kernel
theorem jd_L_law_805 : decode jc_L_law 805 = .ok (.aload_n 3, 1) := by decide +kernel
theorem jd_L_law_806 : decode jc_L_law 806 = .ok (.iconst 0, 1) := by decide +kernel
theorem jd_L_law_807 : decode jc_L_law 807 = .ok (.laload, 1) := by decide +kernel
theorem jd_L_law_808 : decode jc_L_law 808 = .ok (.iload 6, 2) := by decide +kernel
theorem jd_L_law_810 : decode jc_L_law 810 = .ok (.i2l, 1) := by decide +kernel
theorem jd_L_law_811 : decode jc_L_law 811 = .ok (.lcmp, 1) := by decide +kernel
theorem jd_L_law_812 : decode jc_L_law 812 = .ok (.ifCond .eq 5, 3) := by decide +kernel
theorem jd_L_law_815 : decode jc_L_law 815 = .ok (.iconst 0, 1) := by decide +kernel
theorem jd_L_law_816 : decode jc_L_law 816 = .ok (.ireturn, 1) := by decide +kernel
theorem jd_L_law_817 : decode jc_L_law 817 = .ok (.goto 308, 3) := by decide +kernel
theorem jd_L_law_820 : decode jc_L_law 820 = .ok (.aload_n 1, 1) := by decide +kernel
theorem jd_L_law_821 : decode jc_L_law 821 = .ok (.aload_n 0, 1) := by decide +kernel
theorem jd_L_law_822 : decode jc_L_law 822 = .ok (.iload 4, 2) := by decide +kernel
theorem jd_L_law_824 : decode jc_L_law 824 = .ok (.iconst 1, 1) := by decide +kernel
theorem jd_L_law_825 : decode jc_L_law 825 = .ok (.iadd, 1) := by decide +kernel
theorem jd_L_law_826 : decode jc_L_law 826 = .ok (.iaload, 1) := by decide +kernel
theorem jd_L_law_827 : decode jc_L_law 827 = .ok (.aload_n 3, 1) := by decide +kernel
theorem jd_L_law_828 : decode jc_L_law 828 = .ok (.invokestatic 123, 3) := by decide +kernel
theorem jd_L_law_831 : decode jc_L_law 831 = .ok (.istore 5, 2) := by decide +kernel
theorem jd_L_law_833 : decode jc_L_law 833 = .ok (.aload_n 2, 1) := by decide +kernel
theorem jd_L_law_834 : decode jc_L_law 834 = .ok (.aload_n 0, 1) := by decide +kernel
theorem jd_L_law_835 : decode jc_L_law 835 = .ok (.iload 4, 2) := by decide +kernel
theorem jd_L_law_837 : decode jc_L_law 837 = .ok (.iconst 1, 1) := by decide +kernel
theorem jd_L_law_838 : decode jc_L_law 838 = .ok (.iadd, 1) := by decide +kernel
theorem jd_L_law_839 : decode jc_L_law 839 = .ok (.iaload, 1) := by decide +kernel
theorem jd_L_law_840 : decode jc_L_law 840 = .ok (.invokevirtual 125, 3) := by decide +kernel
theorem jd_L_law_843 : decode jc_L_law 843 = .ok (.istore 6, 2) := by decide +kernel
theorem jd_L_law_845 : decode jc_L_law 845 = .ok (.aload_n 2, 1) := by decide +kernel
theorem jd_L_law_846 : decode jc_L_law 846 = .ok (.invokevirtual 84, 3) := by decide +kernel
theorem jd_L_law_849 : decode jc_L_law 849 = .ok (.iload 5, 2) := by decide +kernel
theorem jd_L_law_851 : decode jc_L_law 851 = .ok (.if_icmp .eq 5, 3) := by decide +kernel
theorem jd_L_law_854 : decode jc_L_law 854 = .ok (.iconst 0, 1) := by decide +kernel
theorem jd_L_law_855 : decode jc_L_law 855 = .ok (.ireturn, 1) := by decide +kernel
theorem jd_L_law_856 : decode jc_L_law 856 = .ok (.iload 5, 2) := by decide +kernel
theorem jd_L_law_858 : decode jc_L_law 858 = .ok (.ifCond .ne 15, 3) := by decide +kernel
theorem jd_L_law_861 : decode jc_L_law 861 = .ok (.aload_n 3, 1) := by decide +kernel
theorem jd_L_law_862 : decode jc_L_law 862 = .ok (.iconst 0, 1) := by decide +kernel
theorem jd_L_law_863 : decode jc_L_law 863 = .ok (.laload, 1) := by decide +kernel
theorem jd_L_law_864 : decode jc_L_law 864 = .ok (.iload 6, 2) := by decide +kernel
theorem jd_L_law_866 : decode jc_L_law 866 = .ok (.i2l, 1) := by decide +kernel
theorem jd_L_law_867 : decode jc_L_law 867 = .ok (.lcmp, 1) := by decide +kernel
theorem jd_L_law_868 : decode jc_L_law 868 = .ok (.ifCond .eq 5, 3) := by decide +kernel
theorem jd_L_law_871 : decode jc_L_law 871 = .ok (.iconst 0, 1) := by decide +kernel
theorem jd_L_law_872 : decode jc_L_law 872 = .ok (.ireturn, 1) := by decide +kernel
theorem jd_L_law_873 : decode jc_L_law 873 = .ok (.goto 252, 3) := by decide +kernel
theorem jd_L_law_876 : decode jc_L_law 876 = .ok (.aload_n 1, 1) := by decide +kernel
theorem jd_L_law_877 : decode jc_L_law 877 = .ok (.aload_n 0, 1) := by decide +kernel
theorem jd_L_law_878 : decode jc_L_law 878 = .ok (.iload 4, 2) := by decide +kernel
theorem jd_L_law_880 : decode jc_L_law 880 = .ok (.iconst 1, 1) := by decide +kernel
theorem jd_L_law_881 : decode jc_L_law 881 = .ok (.iadd, 1) := by decide +kernel
theorem jd_L_law_882 : decode jc_L_law 882 = .ok (.iaload, 1) := by decide +kernel
theorem jd_L_law_883 : decode jc_L_law 883 = .ok (.aload_n 0, 1) := by decide +kernel
theorem jd_L_law_884 : decode jc_L_law 884 = .ok (.iload 4, 2) := by decide +kernel
theorem jd_L_law_886 : decode jc_L_law 886 = .ok (.iconst 2, 1) := by decide +kernel
theorem jd_L_law_887 : decode jc_L_law 887 = .ok (.iadd, 1) := by decide +kernel
theorem jd_L_law_888 : decode jc_L_law 888 = .ok (.iaload, 1) := by decide +kernel
theorem jd_L_law_889 : decode jc_L_law 889 = .ok (.aload_n 3, 1) := by decide +kernel
theorem jd_L_law_890 : decode jc_L_law 890 = .ok (.invokestatic 126, 3) := by decide +kernel
theorem jd_L_law_893 : decode jc_L_law 893 = .ok (.istore 5, 2) := by decide +kernel
theorem jd_L_law_895 : decode jc_L_law 895 = .ok (.aload_n 2, 1) := by decide +kernel
theorem jd_L_law_896 : decode jc_L_law 896 = .ok (.aload_n 0, 1) := by decide +kernel
theorem jd_L_law_897 : decode jc_L_law 897 = .ok (.iload 4, 2) := by decide +kernel
theorem jd_L_law_899 : decode jc_L_law 899 = .ok (.iconst 1, 1) := by decide +kernel
theorem jd_L_law_900 : decode jc_L_law 900 = .ok (.iadd, 1) := by decide +kernel
theorem jd_L_law_901 : decode jc_L_law 901 = .ok (.iaload, 1) := by decide +kernel
theorem jd_L_law_902 : decode jc_L_law 902 = .ok (.aload_n 0, 1) := by decide +kernel
theorem jd_L_law_903 : decode jc_L_law 903 = .ok (.iload 4, 2) := by decide +kernel
theorem jd_L_law_905 : decode jc_L_law 905 = .ok (.iconst 2, 1) := by decide +kernel
theorem jd_L_law_906 : decode jc_L_law 906 = .ok (.iadd, 1) := by decide +kernel
theorem jd_L_law_907 : decode jc_L_law 907 = .ok (.iaload, 1) := by decide +kernel
theorem jd_L_law_908 : decode jc_L_law 908 = .ok (.invokevirtual 128, 3) := by decide +kernel
theorem jd_L_law_911 : decode jc_L_law 911 = .ok (.istore 6, 2) := by decide +kernel
theorem jd_L_law_913 : decode jc_L_law 913 = .ok (.aload_n 2, 1) := by decide +kernel
theorem jd_L_law_914 : decode jc_L_law 914 = .ok (.invokevirtual 84, 3) := by decide +kernel
theorem jd_L_law_917 : decode jc_L_law 917 = .ok (.iload 5, 2) := by decide +kernel
theorem jd_L_law_919 : decode jc_L_law 919 = .ok (.if_icmp .eq 5, 3) := by decide +kernel
theorem jd_L_law_922 : decode jc_L_law 922 = .ok (.iconst 0, 1) := by decide +kernel
theorem jd_L_law_923 : decode jc_L_law 923 = .ok (.ireturn, 1) := by decide +kernel
theorem jd_L_law_924 : decode jc_L_law 924 = .ok (.iload 5, 2) := by decide +kernel
theorem jd_L_law_926 : decode jc_L_law 926 = .ok (.ifCond .ne 15, 3) := by decide +kernel
theorem jd_L_law_929 : decode jc_L_law 929 = .ok (.aload_n 3, 1) := by decide +kernel
theorem jd_L_law_930 : decode jc_L_law 930 = .ok (.iconst 0, 1) := by decide +kernel
theorem jd_L_law_931 : decode jc_L_law 931 = .ok (.laload, 1) := by decide +kernel
theorem jd_L_law_932 : decode jc_L_law 932 = .ok (.iload 6, 2) := by decide +kernel
theorem jd_L_law_934 : decode jc_L_law 934 = .ok (.i2l, 1) := by decide +kernel
theorem jd_L_law_935 : decode jc_L_law 935 = .ok (.lcmp, 1) := by decide +kernel
theorem jd_L_law_936 : decode jc_L_law 936 = .ok (.ifCond .eq 5, 3) := by decide +kernel
theorem jd_L_law_939 : decode jc_L_law 939 = .ok (.iconst 0, 1) := by decide +kernel
theorem jd_L_law_940 : decode jc_L_law 940 = .ok (.ireturn, 1) := by decide +kernel
theorem jd_L_law_941 : decode jc_L_law 941 = .ok (.goto 184, 3) := by decide +kernel
theorem jd_L_law_944 : decode jc_L_law 944 = .ok (.aload_n 1, 1) := by decide +kernel
theorem jd_L_law_945 : decode jc_L_law 945 = .ok (.aload_n 0, 1) := by decide +kernel
theorem jd_L_law_946 : decode jc_L_law 946 = .ok (.iload 4, 2) := by decide +kernel
theorem jd_L_law_948 : decode jc_L_law 948 = .ok (.iconst 1, 1) := by decide +kernel
theorem jd_L_law_949 : decode jc_L_law 949 = .ok (.iadd, 1) := by decide +kernel
theorem jd_L_law_950 : decode jc_L_law 950 = .ok (.iaload, 1) := by decide +kernel
theorem jd_L_law_951 : decode jc_L_law 951 = .ok (.aload_n 3, 1) := by decide +kernel
theorem jd_L_law_952 : decode jc_L_law 952 = .ok (.invokestatic 129, 3) := by decide +kernel
theorem jd_L_law_955 : decode jc_L_law 955 = .ok (.istore 5, 2) := by decide +kernel
theorem jd_L_law_957 : decode jc_L_law 957 = .ok (.aload_n 2, 1) := by decide +kernel
theorem jd_L_law_958 : decode jc_L_law 958 = .ok (.aload_n 0, 1) := by decide +kernel
theorem jd_L_law_959 : decode jc_L_law 959 = .ok (.iload 4, 2) := by decide +kernel
theorem jd_L_law_961 : decode jc_L_law 961 = .ok (.iconst 1, 1) := by decide +kernel
theorem jd_L_law_962 : decode jc_L_law 962 = .ok (.iadd, 1) := by decide +kernel
theorem jd_L_law_963 : decode jc_L_law 963 = .ok (.iaload, 1) := by decide +kernel
theorem jd_L_law_964 : decode jc_L_law 964 = .ok (.invokevirtual 131, 3) := by decide +kernel
theorem jd_L_law_967 : decode jc_L_law 967 = .ok (.istore 6, 2) := by decide +kernel
theorem jd_L_law_969 : decode jc_L_law 969 = .ok (.aload_n 2, 1) := by decide +kernel
theorem jd_L_law_970 : decode jc_L_law 970 = .ok (.invokevirtual 84, 3) := by decide +kernel
theorem jd_L_law_973 : decode jc_L_law 973 = .ok (.iload 5, 2) := by decide +kernel
theorem jd_L_law_975 : decode jc_L_law 975 = .ok (.if_icmp .eq 5, 3) := by decide +kernel
theorem jd_L_law_978 : decode jc_L_law 978 = .ok (.iconst 0, 1) := by decide +kernel
theorem jd_L_law_979 : decode jc_L_law 979 = .ok (.ireturn, 1) := by decide +kernel
theorem jd_L_law_980 : decode jc_L_law 980 = .ok (.iload 5, 2) := by decide +kernel
theorem jd_L_law_982 : decode jc_L_law 982 = .ok (.ifCond .ne 15, 3) := by decide +kernel
theorem jd_L_law_985 : decode jc_L_law 985 = .ok (.aload_n 3, 1) := by decide +kernel
theorem jd_L_law_986 : decode jc_L_law 986 = .ok (.iconst 0, 1) := by decide +kernel
theorem jd_L_law_987 : decode jc_L_law 987 = .ok (.laload, 1) := by decide +kernel
theorem jd_L_law_988 : decode jc_L_law 988 = .ok (.iload 6, 2) := by decide +kernel
theorem jd_L_law_990 : decode jc_L_law 990 = .ok (.i2l, 1) := by decide +kernel
theorem jd_L_law_991 : decode jc_L_law 991 = .ok (.lcmp, 1) := by decide +kernel
theorem jd_L_law_992 : decode jc_L_law 992 = .ok (.ifCond .eq 5, 3) := by decide +kernel
theorem jd_L_law_995 : decode jc_L_law 995 = .ok (.iconst 0, 1) := by decide +kernel
theorem jd_L_law_996 : decode jc_L_law 996 = .ok (.ireturn, 1) := by decide +kernel
theorem jd_L_law_997 : decode jc_L_law 997 = .ok (.goto 128, 3) := by decide +kernel
theorem jd_L_law_1000 : decode jc_L_law 1000 = .ok (.aload_n 1, 1) := by decide +kernel
theorem jd_L_law_1001 : decode jc_L_law 1001 = .ok (.aload_n 0, 1) := by decide +kernel
theorem jd_L_law_1002 : decode jc_L_law 1002 = .ok (.iload 4, 2) := by decide +kernel
theorem jd_L_law_1004 : decode jc_L_law 1004 = .ok (.iconst 1, 1) := by decide +kernel
theorem jd_L_law_1005 : decode jc_L_law 1005 = .ok (.iadd, 1) := by decide +kernel
theorem jd_L_law_1006 : decode jc_L_law 1006 = .ok (.iaload, 1) := by decide +kernel
theorem jd_L_law_1007 : decode jc_L_law 1007 = .ok (.aload_n 3, 1) := by decide +kernel
theorem jd_L_law_1008 : decode jc_L_law 1008 = .ok (.invokestatic 132, 3) := by decide +kernel
theorem jd_L_law_1011 : decode jc_L_law 1011 = .ok (.istore 5, 2) := by decide +kernel
theorem jd_L_law_1013 : decode jc_L_law 1013 = .ok (.aload_n 2, 1) := by decide +kernel
theorem jd_L_law_1014 : decode jc_L_law 1014 = .ok (.aload_n 0, 1) := by decide +kernel
theorem jd_L_law_1015 : decode jc_L_law 1015 = .ok (.iload 4, 2) := by decide +kernel
theorem jd_L_law_1017 : decode jc_L_law 1017 = .ok (.iconst 1, 1) := by decide +kernel
theorem jd_L_law_1018 : decode jc_L_law 1018 = .ok (.iadd, 1) := by decide +kernel
theorem jd_L_law_1019 : decode jc_L_law 1019 = .ok (.iaload, 1) := by decide +kernel
theorem jd_L_law_1020 : decode jc_L_law 1020 = .ok (.invokevirtual 134, 3) := by decide +kernel
theorem jd_L_law_1023 : decode jc_L_law 1023 = .ok (.istore 6, 2) := by decide +kernel
theorem jd_L_law_1025 : decode jc_L_law 1025 = .ok (.aload_n 2, 1) := by decide +kernel
theorem jd_L_law_1026 : decode jc_L_law 1026 = .ok (.invokevirtual 84, 3) := by decide +kernel
theorem jd_L_law_1029 : decode jc_L_law 1029 = .ok (.iload 5, 2) := by decide +kernel
theorem jd_L_law_1031 : decode jc_L_law 1031 = .ok (.if_icmp .eq 5, 3) := by decide +kernel
theorem jd_L_law_1034 : decode jc_L_law 1034 = .ok (.iconst 0, 1) := by decide +kernel
theorem jd_L_law_1035 : decode jc_L_law 1035 = .ok (.ireturn, 1) := by decide +kernel
theorem jd_L_law_1036 : decode jc_L_law 1036 = .ok (.iload 5, 2) := by decide +kernel
theorem jd_L_law_1038 : decode jc_L_law 1038 = .ok (.ifCond .ne 15, 3) := by decide +kernel
theorem jd_L_law_1041 : decode jc_L_law 1041 = .ok (.aload_n 3, 1) := by decide +kernel
theorem jd_L_law_1042 : decode jc_L_law 1042 = .ok (.iconst 0, 1) := by decide +kernel
theorem jd_L_law_1043 : decode jc_L_law 1043 = .ok (.laload, 1) := by decide +kernel
theorem jd_L_law_1044 : decode jc_L_law 1044 = .ok (.iload 6, 2) := by decide +kernel
theorem jd_L_law_1046 : decode jc_L_law 1046 = .ok (.i2l, 1) := by decide +kernel
theorem jd_L_law_1047 : decode jc_L_law 1047 = .ok (.lcmp, 1) := by decide +kernel
theorem jd_L_law_1048 : decode jc_L_law 1048 = .ok (.ifCond .eq 5, 3) := by decide +kernel
theorem jd_L_law_1051 : decode jc_L_law 1051 = .ok (.iconst 0, 1) := by decide +kernel
theorem jd_L_law_1052 : decode jc_L_law 1052 = .ok (.ireturn, 1) := by decide +kernel
theorem jd_L_law_1053 : decode jc_L_law 1053 = .ok (.goto 72, 3) := by decide +kernel
theorem jd_L_law_1056 : decode jc_L_law 1056 = .ok (.aload_n 1, 1) := by decide +kernel
theorem jd_L_law_1057 : decode jc_L_law 1057 = .ok (.invokevirtual 135, 3) := by decide +kernel
theorem jd_L_law_1060 : decode jc_L_law 1060 = .ok (.aload_n 2, 1) := by decide +kernel
theorem jd_L_law_1061 : decode jc_L_law 1061 = .ok (.invokevirtual 138, 3) := by decide +kernel
theorem jd_L_law_1064 : decode jc_L_law 1064 = .ok (.if_icmp .eq 61, 3) := by decide +kernel
theorem jd_L_law_1067 : decode jc_L_law 1067 = .ok (.iconst 0, 1) := by decide +kernel
theorem jd_L_law_1068 : decode jc_L_law 1068 = .ok (.ireturn, 1) := by decide +kernel
theorem jd_L_law_1069 : decode jc_L_law 1069 = .ok (.aload_n 1, 1) := by decide +kernel
theorem jd_L_law_1070 : decode jc_L_law 1070 = .ok (.aload_n 0, 1) := by decide +kernel
theorem jd_L_law_1071 : decode jc_L_law 1071 = .ok (.iload 4, 2) := by decide +kernel
theorem jd_L_law_1073 : decode jc_L_law 1073 = .ok (.iconst 1, 1) := by decide +kernel
theorem jd_L_law_1074 : decode jc_L_law 1074 = .ok (.iadd, 1) := by decide +kernel
theorem jd_L_law_1075 : decode jc_L_law 1075 = .ok (.iaload, 1) := by decide +kernel
theorem jd_L_law_1076 : decode jc_L_law 1076 = .ok (.aload_n 3, 1) := by decide +kernel
theorem jd_L_law_1077 : decode jc_L_law 1077 = .ok (.invokestatic 139, 3) := by decide +kernel
theorem jd_L_law_1080 : decode jc_L_law 1080 = .ok (.istore 5, 2) := by decide +kernel
theorem jd_L_law_1082 : decode jc_L_law 1082 = .ok (.aload_n 2, 1) := by decide +kernel
theorem jd_L_law_1083 : decode jc_L_law 1083 = .ok (.aload_n 0, 1) := by decide +kernel
theorem jd_L_law_1084 : decode jc_L_law 1084 = .ok (.iload 4, 2) := by decide +kernel
theorem jd_L_law_1086 : decode jc_L_law 1086 = .ok (.iconst 1, 1) := by decide +kernel
theorem jd_L_law_1087 : decode jc_L_law 1087 = .ok (.iadd, 1) := by decide +kernel
theorem jd_L_law_1088 : decode jc_L_law 1088 = .ok (.iaload, 1) := by decide +kernel
theorem jd_L_law_1089 : decode jc_L_law 1089 = .ok (.invokevirtual 141, 3) := by decide +kernel
theorem jd_L_law_1092 : decode jc_L_law 1092 = .ok (.istore 6, 2) := by decide +kernel
theorem jd_L_law_1094 : decode jc_L_law 1094 = .ok (.aload_n 2, 1) := by decide +kernel
theorem jd_L_law_1095 : decode jc_L_law 1095 = .ok (.invokevirtual 84, 3) := by decide +kernel
theorem jd_L_law_1098 : decode jc_L_law 1098 = .ok (.iload 5, 2) := by decide +kernel
theorem jd_L_law_1100 : decode jc_L_law 1100 = .ok (.if_icmp .eq 5, 3) := by decide +kernel
theorem jd_L_law_1103 : decode jc_L_law 1103 = .ok (.iconst 0, 1) := by decide +kernel
theorem jd_L_law_1104 : decode jc_L_law 1104 = .ok (.ireturn, 1) := by decide +kernel
theorem jd_L_law_1105 : decode jc_L_law 1105 = .ok (.iload 5, 2) := by decide +kernel
theorem jd_L_law_1107 : decode jc_L_law 1107 = .ok (.ifCond .ne 15, 3) := by decide +kernel
theorem jd_L_law_1110 : decode jc_L_law 1110 = .ok (.aload_n 3, 1) := by decide +kernel
theorem jd_L_law_1111 : decode jc_L_law 1111 = .ok (.iconst 0, 1) := by decide +kernel
theorem jd_L_law_1112 : decode jc_L_law 1112 = .ok (.laload, 1) := by decide +kernel
theorem jd_L_law_1113 : decode jc_L_law 1113 = .ok (.iload 6, 2) := by decide +kernel
theorem jd_L_law_1115 : decode jc_L_law 1115 = .ok (.i2l, 1) := by decide +kernel
theorem jd_L_law_1116 : decode jc_L_law 1116 = .ok (.lcmp, 1) := by decide +kernel
theorem jd_L_law_1117 : decode jc_L_law 1117 = .ok (.ifCond .eq 5, 3) := by decide +kernel
theorem jd_L_law_1120 : decode jc_L_law 1120 = .ok (.iconst 0, 1) := by decide +kernel
theorem jd_L_law_1121 : decode jc_L_law 1121 = .ok (.ireturn, 1) := by decide +kernel
theorem jd_L_law_1122 : decode jc_L_law 1122 = .ok (.goto 3, 3) := by decide +kernel
theorem jd_L_law_1125 : decode jc_L_law 1125 = .ok (.iinc 4 4, 3) := by decide +kernel
theorem jd_L_law_1128 : decode jc_L_law 1128 = .ok (.goto (-1105), 3) := by decide +kernel
theorem jd_L_law_1131 : decode jc_L_law 1131 = .ok (.iconst 1, 1) := by decide +kernel
theorem jd_L_law_1132 : decode jc_L_law 1132 = .ok (.ireturn, 1) := by decide +kernel
end
section
/-! THE WORLD, by program (wip/whole/gen/gen_world.py): 90 cells at the addresses ad 0 .. ad 89; what they hold are the numbers S v j -/
def jb_sv (S : ja_S) (v : Nat) (f : Nat → Int32) : ja_S := fun w => cond (Nat.beq w v) f (S w)
abbrev jb_u (S : ja_S) (v j : Nat) (x : Int32) : ja_S := jb_sv S v (upd (S v) j x)
abbrev jb_Gt : Type := va_G × (Nat → ClassId)
abbrev jb_ty (dA : Nat → ClassId) : List (ClassId × FieldType) := [(dA 0, .int), (dA 1, .boolean), (dA 2, .long), (dA 3, .object "CashMachine$Account"), (dA 4, .object "CashMachine$Cassette"), (dA 5, .object "CashMachine$Entry")]
def jb_fx (G : jb_Gt) (ad : Nat → Nat) (S : ja_S) : va_W := [(ad 0, .inr (9, [.ref (ad 1), .ref (ad 2), .ref (ad 3), .ref (ad 4), .ref (ad 5), .int (S 0 0), .int (S 1 0), .int (S 2 0), .int (S 3 0)])),
  (ad 1, .inr (3, [.ref (ad 8), .ref (ad 9), .ref (ad 10), .ref (ad 11)])),
  (ad 2, .inr (4, [.ref (ad 12), .int (S 4 0)])),
  (ad 3, .inr (5, [.ref (ad 13), .ref (ad 6), .int (S 5 0), .int (S 6 0), .int (S 7 0), .int (S 8 0)])),
  (ad 4, .inr (6, [.ref (ad 16), .int (S 9 0)])),
  (ad 5, .inr (7, [.ref (ad 17), .ref (ad 18), .int (S 10 0)])),
  (ad 6, .inr (8, [.ref (ad 14), .ref (ad 15)])),
  (ad 7, .inr (10, [.int (S 32 0), .ref (ad 19), .ref (ad 20), .ref (ad 21), .ref (ad 22), .ref (ad 23), .ref (ad 24), .ref (ad 25), .ref (ad 26), .ref (ad 27), .int (S 33 0), .int (S 34 0), .int (S 35 0), .ref (ad 28), .ref (ad 29), .ref (ad 30), .ref (ad 31), .ref (ad 32), .ref (ad 33), .int (S 36 0), .ref (ad 34), .ref (ad 35), .int (S 37 0), .ref (ad 36), .int (S 38 0), .int (S 39 0), .int (S 40 0), .int (S 41 0), .int (S 42 0), .int (S 43 0)])),
  (ad 8, .inl (G.2 3, 8, .inr (.inr (.inr (.inr (fun i => some (ad (38 + i)))))))),
  (ad 9, .inl (G.2 0, 41, .inl (S 24))),
  (ad 10, .inl (G.2 0, 41, .inl (S 25))),
  (ad 11, .inl (G.2 1, 41, .inl (S 26))),
  (ad 12, .inl (G.2 0, 8, .inl (S 27))),
  (ad 13, .inl (G.2 4, 4, .inr (.inr (.inr (.inr (fun i => some (ad (46 + i)))))))),
  (ad 14, .inl (G.2 0, 4, .inl (S 28))),
  (ad 15, .inl (G.2 0, 5001, .inl (S 29))),
  (ad 16, .inl (G.2 5, 40, .inr (.inr (.inr (.inr (fun i => some (ad (50 + i)))))))),
  (ad 17, .inl (G.2 0, 40, .inl (S 30))),
  (ad 18, .inl (G.2 0, 40, .inl (S 31))),
  (ad 19, .inl (G.2 1, 8, .inl (S 44))),
  (ad 20, .inl (G.2 0, 8, .inl (S 45))),
  (ad 21, .inl (G.2 0, 8, .inl (S 46))),
  (ad 22, .inl (G.2 0, 8, .inl (S 47))),
  (ad 23, .inl (G.2 0, 8, .inl (S 48))),
  (ad 24, .inl (G.2 1, 8, .inl (S 49))),
  (ad 25, .inl (G.2 0, 4, .inl (S 50))),
  (ad 26, .inl (G.2 0, 4, .inl (S 51))),
  (ad 27, .inl (G.2 0, 4, .inl (S 52))),
  (ad 28, .inl (G.2 0, 41, .inl (S 53))),
  (ad 29, .inl (G.2 0, 41, .inl (S 54))),
  (ad 30, .inl (G.2 0, 41, .inl (S 55))),
  (ad 31, .inl (G.2 0, 41, .inl (S 56))),
  (ad 32, .inl (G.2 0, 41, .inl (S 57))),
  (ad 33, .inl (G.2 1, 41, .inl (S 58))),
  (ad 34, .inl (G.2 0, 80, .inl (S 59))),
  (ad 35, .inl (G.2 0, 80, .inl (S 60))),
  (ad 36, .inl (G.2 0, 8, .inl (S 61))),
  (ad 37, .inl (G.2 2, 1, .inr (.inl (fun i => (S 62 i).toInt64))))]
def jb_pA (ad : Nat → Nat) (S : ja_S) (j : Nat) : Nat × va_E := (ad (38 + j), .inr (0, [.int (S 11 j), .int (S 12 j), .int (S 13 j), .int (S 14 j), .int (S 15 j), .int (S 16 j)]))
def jb_pK (ad : Nat → Nat) (S : ja_S) (j : Nat) : Nat × va_E := (ad (46 + j), .inr (1, [.int (S 17 j), .int (S 18 j)]))
def jb_pE (ad : Nat → Nat) (S : ja_S) (j : Nat) : Nat × va_E := (ad (50 + j), .inr (2, [.int (S 19 j), .int (S 20 j), .int (S 21 j), .int (S 22 j), .int (S 23 j)]))
def jb_en (G : jb_Gt) (ad : Nat → Nat) (S : ja_S) : va_W := jb_fx G ad S ++ ((List.range 8).map (jb_pA ad S) ++ ((List.range 4).map (jb_pK ad S) ++ (List.range 40).map (jb_pE ad S)))
theorem jb_adr (G : jb_Gt) (ad : Nat → Nat) (S : ja_S) : (jb_en G ad S).map (·.1) = (List.range 90).map ad := rfl
theorem jb_at {G : jb_Gt} {ad : Nat → Nat} {S : ja_S} {k : Nat} {q : Nat × va_E} (h : (jb_en G ad S)[k]? = some q) : k < 90 ∧ q.1 = ad k := by
  have h1 : ((jb_en G ad S).map (·.1))[k]? = some q.1 := by rw [List.getElem?_map, h]; rfl
  rw [jb_adr, List.getElem?_map] at h1
  have hk : k < 90 := by
    rcases Nat.lt_or_ge k 90 with z | z
    · exact z
    · rw [List.getElem?_eq_none (by simpa using z)] at h1; cases h1
  rw [List.getElem?_range hk] at h1
  exact ⟨hk, (Option.some.inj h1).symm⟩
/-- the addresses are apart, and none is older than the law's entry -/
def jb_D (b0 : Nat) (ad : Nat → Nat) : Prop := (∀ i j, i < 90 → j < 90 → ad i = ad j → i = j) ∧ ∀ i, i < 90 → b0 ≤ ad i
theorem jb_D.va {b0 : Nat} {G : jb_Gt} {ad : Nat → Nat} (h : jb_D b0 ad) (S : ja_S) : va_D (fun q => b0 ≤ q) (jb_en G ad S) :=
  ⟨fun i j p q hp hq e => h.1 i j (jb_at hp).1 (jb_at hq).1 (by rw [← (jb_at hp).2, ← (jb_at hq).2]; exact e), fun k q hq => by rw [(jb_at hq).2]; exact h.2 k (jb_at hq).1⟩
theorem jb_kA (G : jb_Gt) (ad : Nat → Nat) (S : ja_S) {j : Nat} (h : j < 8) : (jb_en G ad S)[38 + j]? = some (jb_pA ad S j) := by
  unfold jb_en
  rw [List.getElem?_append_right (by show 38 ≤ 38 + j; omega), show 38 + j - (jb_fx G ad S).length = j from by show 38 + j - 38 = j; omega, List.getElem?_append_left (by simpa using h), List.getElem?_map, List.getElem?_range h]; rfl
theorem jb_kK (G : jb_Gt) (ad : Nat → Nat) (S : ja_S) {j : Nat} (h : j < 4) : (jb_en G ad S)[46 + j]? = some (jb_pK ad S j) := by
  unfold jb_en
  rw [List.getElem?_append_right (by show 38 ≤ 46 + j; omega), show 46 + j - (jb_fx G ad S).length = 8 + j from by show 46 + j - 38 = 8 + j; omega, List.getElem?_append_right (by simp), show 8 + j - ((List.range 8).map (jb_pA ad S)).length = j from by simp, List.getElem?_append_left (by simpa using h), List.getElem?_map, List.getElem?_range h]; rfl
theorem jb_kE (G : jb_Gt) (ad : Nat → Nat) (S : ja_S) {j : Nat} (h : j < 40) : (jb_en G ad S)[50 + j]? = some (jb_pE ad S j) := by
  unfold jb_en
  rw [List.getElem?_append_right (by show 38 ≤ 50 + j; omega), show 50 + j - (jb_fx G ad S).length = 12 + j from by show 50 + j - 38 = 12 + j; omega, List.getElem?_append_right (by simp; omega), show 12 + j - ((List.range 8).map (jb_pA ad S)).length = 4 + j from by simp; omega, List.getElem?_append_right (by simp), show 4 + j - ((List.range 4).map (jb_pK ad S)).length = j from by simp, List.getElem?_map, List.getElem?_range h]; rfl
theorem jb_setr {α : Type} {n j : Nat} {f g : Nat → α} {y : α} (hj : g j = y) (h : ∀ i, i ≠ j → g i = f i) : ((List.range n).map f).set j y = (List.range n).map g := by
  apply List.ext_getElem (by simp)
  intro i h1 h2
  rw [List.getElem_set]
  simp only [List.getElem_map, List.getElem_range]
  split
  · rename_i e; subst e; exact hj.symm
  · rename_i e; exact (h i (fun z => e z.symm)).symm

theorem jb_s0 (G : jb_Gt) (ad : Nat → Nat) (S : ja_S) (x : Int32) : (jb_en G ad S).set 0 (ad 0, .inr (9, [.ref (ad 1), .ref (ad 2), .ref (ad 3), .ref (ad 4), .ref (ad 5), .int x, .int (S 1 0), .int (S 2 0), .int (S 3 0)])) = jb_en G ad (jb_u S 0 0 x) := rfl
theorem jb_s1 (G : jb_Gt) (ad : Nat → Nat) (S : ja_S) (x : Int32) : (jb_en G ad S).set 0 (ad 0, .inr (9, [.ref (ad 1), .ref (ad 2), .ref (ad 3), .ref (ad 4), .ref (ad 5), .int (S 0 0), .int x, .int (S 2 0), .int (S 3 0)])) = jb_en G ad (jb_u S 1 0 x) := rfl
theorem jb_s2 (G : jb_Gt) (ad : Nat → Nat) (S : ja_S) (x : Int32) : (jb_en G ad S).set 0 (ad 0, .inr (9, [.ref (ad 1), .ref (ad 2), .ref (ad 3), .ref (ad 4), .ref (ad 5), .int (S 0 0), .int (S 1 0), .int x, .int (S 3 0)])) = jb_en G ad (jb_u S 2 0 x) := rfl
theorem jb_s3 (G : jb_Gt) (ad : Nat → Nat) (S : ja_S) (x : Int32) : (jb_en G ad S).set 0 (ad 0, .inr (9, [.ref (ad 1), .ref (ad 2), .ref (ad 3), .ref (ad 4), .ref (ad 5), .int (S 0 0), .int (S 1 0), .int (S 2 0), .int x])) = jb_en G ad (jb_u S 3 0 x) := rfl
theorem jb_s4 (G : jb_Gt) (ad : Nat → Nat) (S : ja_S) (x : Int32) : (jb_en G ad S).set 2 (ad 2, .inr (4, [.ref (ad 12), .int x])) = jb_en G ad (jb_u S 4 0 x) := rfl
theorem jb_s5 (G : jb_Gt) (ad : Nat → Nat) (S : ja_S) (x : Int32) : (jb_en G ad S).set 3 (ad 3, .inr (5, [.ref (ad 13), .ref (ad 6), .int x, .int (S 6 0), .int (S 7 0), .int (S 8 0)])) = jb_en G ad (jb_u S 5 0 x) := rfl
theorem jb_s6 (G : jb_Gt) (ad : Nat → Nat) (S : ja_S) (x : Int32) : (jb_en G ad S).set 3 (ad 3, .inr (5, [.ref (ad 13), .ref (ad 6), .int (S 5 0), .int x, .int (S 7 0), .int (S 8 0)])) = jb_en G ad (jb_u S 6 0 x) := rfl
theorem jb_s7 (G : jb_Gt) (ad : Nat → Nat) (S : ja_S) (x : Int32) : (jb_en G ad S).set 3 (ad 3, .inr (5, [.ref (ad 13), .ref (ad 6), .int (S 5 0), .int (S 6 0), .int x, .int (S 8 0)])) = jb_en G ad (jb_u S 7 0 x) := rfl
theorem jb_s8 (G : jb_Gt) (ad : Nat → Nat) (S : ja_S) (x : Int32) : (jb_en G ad S).set 3 (ad 3, .inr (5, [.ref (ad 13), .ref (ad 6), .int (S 5 0), .int (S 6 0), .int (S 7 0), .int x])) = jb_en G ad (jb_u S 8 0 x) := rfl
theorem jb_s9 (G : jb_Gt) (ad : Nat → Nat) (S : ja_S) (x : Int32) : (jb_en G ad S).set 4 (ad 4, .inr (6, [.ref (ad 16), .int x])) = jb_en G ad (jb_u S 9 0 x) := rfl
theorem jb_s10 (G : jb_Gt) (ad : Nat → Nat) (S : ja_S) (x : Int32) : (jb_en G ad S).set 5 (ad 5, .inr (7, [.ref (ad 17), .ref (ad 18), .int x])) = jb_en G ad (jb_u S 10 0 x) := rfl
theorem jb_s44 (G : jb_Gt) (ad : Nat → Nat) (S : ja_S) (f : Nat → Int32) : (jb_en G ad S).set 19 (ad 19, .inl (G.2 1, 8, .inl f)) = jb_en G ad (jb_sv S 44 f) := rfl
theorem jb_s45 (G : jb_Gt) (ad : Nat → Nat) (S : ja_S) (f : Nat → Int32) : (jb_en G ad S).set 20 (ad 20, .inl (G.2 0, 8, .inl f)) = jb_en G ad (jb_sv S 45 f) := rfl
theorem jb_s46 (G : jb_Gt) (ad : Nat → Nat) (S : ja_S) (f : Nat → Int32) : (jb_en G ad S).set 21 (ad 21, .inl (G.2 0, 8, .inl f)) = jb_en G ad (jb_sv S 46 f) := rfl
theorem jb_s47 (G : jb_Gt) (ad : Nat → Nat) (S : ja_S) (f : Nat → Int32) : (jb_en G ad S).set 22 (ad 22, .inl (G.2 0, 8, .inl f)) = jb_en G ad (jb_sv S 47 f) := rfl
theorem jb_s48 (G : jb_Gt) (ad : Nat → Nat) (S : ja_S) (f : Nat → Int32) : (jb_en G ad S).set 23 (ad 23, .inl (G.2 0, 8, .inl f)) = jb_en G ad (jb_sv S 48 f) := rfl
theorem jb_s49 (G : jb_Gt) (ad : Nat → Nat) (S : ja_S) (f : Nat → Int32) : (jb_en G ad S).set 24 (ad 24, .inl (G.2 1, 8, .inl f)) = jb_en G ad (jb_sv S 49 f) := rfl
theorem jb_s50 (G : jb_Gt) (ad : Nat → Nat) (S : ja_S) (f : Nat → Int32) : (jb_en G ad S).set 25 (ad 25, .inl (G.2 0, 4, .inl f)) = jb_en G ad (jb_sv S 50 f) := rfl
theorem jb_s51 (G : jb_Gt) (ad : Nat → Nat) (S : ja_S) (f : Nat → Int32) : (jb_en G ad S).set 26 (ad 26, .inl (G.2 0, 4, .inl f)) = jb_en G ad (jb_sv S 51 f) := rfl
theorem jb_s52 (G : jb_Gt) (ad : Nat → Nat) (S : ja_S) (f : Nat → Int32) : (jb_en G ad S).set 27 (ad 27, .inl (G.2 0, 4, .inl f)) = jb_en G ad (jb_sv S 52 f) := rfl
theorem jb_s53 (G : jb_Gt) (ad : Nat → Nat) (S : ja_S) (f : Nat → Int32) : (jb_en G ad S).set 28 (ad 28, .inl (G.2 0, 41, .inl f)) = jb_en G ad (jb_sv S 53 f) := rfl
theorem jb_s54 (G : jb_Gt) (ad : Nat → Nat) (S : ja_S) (f : Nat → Int32) : (jb_en G ad S).set 29 (ad 29, .inl (G.2 0, 41, .inl f)) = jb_en G ad (jb_sv S 54 f) := rfl
theorem jb_s55 (G : jb_Gt) (ad : Nat → Nat) (S : ja_S) (f : Nat → Int32) : (jb_en G ad S).set 30 (ad 30, .inl (G.2 0, 41, .inl f)) = jb_en G ad (jb_sv S 55 f) := rfl
theorem jb_s56 (G : jb_Gt) (ad : Nat → Nat) (S : ja_S) (f : Nat → Int32) : (jb_en G ad S).set 31 (ad 31, .inl (G.2 0, 41, .inl f)) = jb_en G ad (jb_sv S 56 f) := rfl
theorem jb_s57 (G : jb_Gt) (ad : Nat → Nat) (S : ja_S) (f : Nat → Int32) : (jb_en G ad S).set 32 (ad 32, .inl (G.2 0, 41, .inl f)) = jb_en G ad (jb_sv S 57 f) := rfl
theorem jb_s58 (G : jb_Gt) (ad : Nat → Nat) (S : ja_S) (f : Nat → Int32) : (jb_en G ad S).set 33 (ad 33, .inl (G.2 1, 41, .inl f)) = jb_en G ad (jb_sv S 58 f) := rfl
theorem jb_s59 (G : jb_Gt) (ad : Nat → Nat) (S : ja_S) (f : Nat → Int32) : (jb_en G ad S).set 34 (ad 34, .inl (G.2 0, 80, .inl f)) = jb_en G ad (jb_sv S 59 f) := rfl
theorem jb_s60 (G : jb_Gt) (ad : Nat → Nat) (S : ja_S) (f : Nat → Int32) : (jb_en G ad S).set 35 (ad 35, .inl (G.2 0, 80, .inl f)) = jb_en G ad (jb_sv S 60 f) := rfl
theorem jb_s61 (G : jb_Gt) (ad : Nat → Nat) (S : ja_S) (f : Nat → Int32) : (jb_en G ad S).set 36 (ad 36, .inl (G.2 0, 8, .inl f)) = jb_en G ad (jb_sv S 61 f) := rfl
theorem jb_s32 (G : jb_Gt) (ad : Nat → Nat) (S : ja_S) (x : Int32) : (jb_en G ad S).set 7 (ad 7, .inr (10, [.int x, .ref (ad 19), .ref (ad 20), .ref (ad 21), .ref (ad 22), .ref (ad 23), .ref (ad 24), .ref (ad 25), .ref (ad 26), .ref (ad 27), .int (S 33 0), .int (S 34 0), .int (S 35 0), .ref (ad 28), .ref (ad 29), .ref (ad 30), .ref (ad 31), .ref (ad 32), .ref (ad 33), .int (S 36 0), .ref (ad 34), .ref (ad 35), .int (S 37 0), .ref (ad 36), .int (S 38 0), .int (S 39 0), .int (S 40 0), .int (S 41 0), .int (S 42 0), .int (S 43 0)])) = jb_en G ad (jb_u S 32 0 x) := rfl
theorem jb_s33 (G : jb_Gt) (ad : Nat → Nat) (S : ja_S) (x : Int32) : (jb_en G ad S).set 7 (ad 7, .inr (10, [.int (S 32 0), .ref (ad 19), .ref (ad 20), .ref (ad 21), .ref (ad 22), .ref (ad 23), .ref (ad 24), .ref (ad 25), .ref (ad 26), .ref (ad 27), .int x, .int (S 34 0), .int (S 35 0), .ref (ad 28), .ref (ad 29), .ref (ad 30), .ref (ad 31), .ref (ad 32), .ref (ad 33), .int (S 36 0), .ref (ad 34), .ref (ad 35), .int (S 37 0), .ref (ad 36), .int (S 38 0), .int (S 39 0), .int (S 40 0), .int (S 41 0), .int (S 42 0), .int (S 43 0)])) = jb_en G ad (jb_u S 33 0 x) := rfl
theorem jb_s34 (G : jb_Gt) (ad : Nat → Nat) (S : ja_S) (x : Int32) : (jb_en G ad S).set 7 (ad 7, .inr (10, [.int (S 32 0), .ref (ad 19), .ref (ad 20), .ref (ad 21), .ref (ad 22), .ref (ad 23), .ref (ad 24), .ref (ad 25), .ref (ad 26), .ref (ad 27), .int (S 33 0), .int x, .int (S 35 0), .ref (ad 28), .ref (ad 29), .ref (ad 30), .ref (ad 31), .ref (ad 32), .ref (ad 33), .int (S 36 0), .ref (ad 34), .ref (ad 35), .int (S 37 0), .ref (ad 36), .int (S 38 0), .int (S 39 0), .int (S 40 0), .int (S 41 0), .int (S 42 0), .int (S 43 0)])) = jb_en G ad (jb_u S 34 0 x) := rfl
theorem jb_s35 (G : jb_Gt) (ad : Nat → Nat) (S : ja_S) (x : Int32) : (jb_en G ad S).set 7 (ad 7, .inr (10, [.int (S 32 0), .ref (ad 19), .ref (ad 20), .ref (ad 21), .ref (ad 22), .ref (ad 23), .ref (ad 24), .ref (ad 25), .ref (ad 26), .ref (ad 27), .int (S 33 0), .int (S 34 0), .int x, .ref (ad 28), .ref (ad 29), .ref (ad 30), .ref (ad 31), .ref (ad 32), .ref (ad 33), .int (S 36 0), .ref (ad 34), .ref (ad 35), .int (S 37 0), .ref (ad 36), .int (S 38 0), .int (S 39 0), .int (S 40 0), .int (S 41 0), .int (S 42 0), .int (S 43 0)])) = jb_en G ad (jb_u S 35 0 x) := rfl
theorem jb_s36 (G : jb_Gt) (ad : Nat → Nat) (S : ja_S) (x : Int32) : (jb_en G ad S).set 7 (ad 7, .inr (10, [.int (S 32 0), .ref (ad 19), .ref (ad 20), .ref (ad 21), .ref (ad 22), .ref (ad 23), .ref (ad 24), .ref (ad 25), .ref (ad 26), .ref (ad 27), .int (S 33 0), .int (S 34 0), .int (S 35 0), .ref (ad 28), .ref (ad 29), .ref (ad 30), .ref (ad 31), .ref (ad 32), .ref (ad 33), .int x, .ref (ad 34), .ref (ad 35), .int (S 37 0), .ref (ad 36), .int (S 38 0), .int (S 39 0), .int (S 40 0), .int (S 41 0), .int (S 42 0), .int (S 43 0)])) = jb_en G ad (jb_u S 36 0 x) := rfl
theorem jb_s37 (G : jb_Gt) (ad : Nat → Nat) (S : ja_S) (x : Int32) : (jb_en G ad S).set 7 (ad 7, .inr (10, [.int (S 32 0), .ref (ad 19), .ref (ad 20), .ref (ad 21), .ref (ad 22), .ref (ad 23), .ref (ad 24), .ref (ad 25), .ref (ad 26), .ref (ad 27), .int (S 33 0), .int (S 34 0), .int (S 35 0), .ref (ad 28), .ref (ad 29), .ref (ad 30), .ref (ad 31), .ref (ad 32), .ref (ad 33), .int (S 36 0), .ref (ad 34), .ref (ad 35), .int x, .ref (ad 36), .int (S 38 0), .int (S 39 0), .int (S 40 0), .int (S 41 0), .int (S 42 0), .int (S 43 0)])) = jb_en G ad (jb_u S 37 0 x) := rfl
theorem jb_s38 (G : jb_Gt) (ad : Nat → Nat) (S : ja_S) (x : Int32) : (jb_en G ad S).set 7 (ad 7, .inr (10, [.int (S 32 0), .ref (ad 19), .ref (ad 20), .ref (ad 21), .ref (ad 22), .ref (ad 23), .ref (ad 24), .ref (ad 25), .ref (ad 26), .ref (ad 27), .int (S 33 0), .int (S 34 0), .int (S 35 0), .ref (ad 28), .ref (ad 29), .ref (ad 30), .ref (ad 31), .ref (ad 32), .ref (ad 33), .int (S 36 0), .ref (ad 34), .ref (ad 35), .int (S 37 0), .ref (ad 36), .int x, .int (S 39 0), .int (S 40 0), .int (S 41 0), .int (S 42 0), .int (S 43 0)])) = jb_en G ad (jb_u S 38 0 x) := rfl
theorem jb_s39 (G : jb_Gt) (ad : Nat → Nat) (S : ja_S) (x : Int32) : (jb_en G ad S).set 7 (ad 7, .inr (10, [.int (S 32 0), .ref (ad 19), .ref (ad 20), .ref (ad 21), .ref (ad 22), .ref (ad 23), .ref (ad 24), .ref (ad 25), .ref (ad 26), .ref (ad 27), .int (S 33 0), .int (S 34 0), .int (S 35 0), .ref (ad 28), .ref (ad 29), .ref (ad 30), .ref (ad 31), .ref (ad 32), .ref (ad 33), .int (S 36 0), .ref (ad 34), .ref (ad 35), .int (S 37 0), .ref (ad 36), .int (S 38 0), .int x, .int (S 40 0), .int (S 41 0), .int (S 42 0), .int (S 43 0)])) = jb_en G ad (jb_u S 39 0 x) := rfl
theorem jb_s40 (G : jb_Gt) (ad : Nat → Nat) (S : ja_S) (x : Int32) : (jb_en G ad S).set 7 (ad 7, .inr (10, [.int (S 32 0), .ref (ad 19), .ref (ad 20), .ref (ad 21), .ref (ad 22), .ref (ad 23), .ref (ad 24), .ref (ad 25), .ref (ad 26), .ref (ad 27), .int (S 33 0), .int (S 34 0), .int (S 35 0), .ref (ad 28), .ref (ad 29), .ref (ad 30), .ref (ad 31), .ref (ad 32), .ref (ad 33), .int (S 36 0), .ref (ad 34), .ref (ad 35), .int (S 37 0), .ref (ad 36), .int (S 38 0), .int (S 39 0), .int x, .int (S 41 0), .int (S 42 0), .int (S 43 0)])) = jb_en G ad (jb_u S 40 0 x) := rfl
theorem jb_s41 (G : jb_Gt) (ad : Nat → Nat) (S : ja_S) (x : Int32) : (jb_en G ad S).set 7 (ad 7, .inr (10, [.int (S 32 0), .ref (ad 19), .ref (ad 20), .ref (ad 21), .ref (ad 22), .ref (ad 23), .ref (ad 24), .ref (ad 25), .ref (ad 26), .ref (ad 27), .int (S 33 0), .int (S 34 0), .int (S 35 0), .ref (ad 28), .ref (ad 29), .ref (ad 30), .ref (ad 31), .ref (ad 32), .ref (ad 33), .int (S 36 0), .ref (ad 34), .ref (ad 35), .int (S 37 0), .ref (ad 36), .int (S 38 0), .int (S 39 0), .int (S 40 0), .int x, .int (S 42 0), .int (S 43 0)])) = jb_en G ad (jb_u S 41 0 x) := rfl
theorem jb_s42 (G : jb_Gt) (ad : Nat → Nat) (S : ja_S) (x : Int32) : (jb_en G ad S).set 7 (ad 7, .inr (10, [.int (S 32 0), .ref (ad 19), .ref (ad 20), .ref (ad 21), .ref (ad 22), .ref (ad 23), .ref (ad 24), .ref (ad 25), .ref (ad 26), .ref (ad 27), .int (S 33 0), .int (S 34 0), .int (S 35 0), .ref (ad 28), .ref (ad 29), .ref (ad 30), .ref (ad 31), .ref (ad 32), .ref (ad 33), .int (S 36 0), .ref (ad 34), .ref (ad 35), .int (S 37 0), .ref (ad 36), .int (S 38 0), .int (S 39 0), .int (S 40 0), .int (S 41 0), .int x, .int (S 43 0)])) = jb_en G ad (jb_u S 42 0 x) := rfl
theorem jb_s43 (G : jb_Gt) (ad : Nat → Nat) (S : ja_S) (x : Int32) : (jb_en G ad S).set 7 (ad 7, .inr (10, [.int (S 32 0), .ref (ad 19), .ref (ad 20), .ref (ad 21), .ref (ad 22), .ref (ad 23), .ref (ad 24), .ref (ad 25), .ref (ad 26), .ref (ad 27), .int (S 33 0), .int (S 34 0), .int (S 35 0), .ref (ad 28), .ref (ad 29), .ref (ad 30), .ref (ad 31), .ref (ad 32), .ref (ad 33), .int (S 36 0), .ref (ad 34), .ref (ad 35), .int (S 37 0), .ref (ad 36), .int (S 38 0), .int (S 39 0), .int (S 40 0), .int (S 41 0), .int (S 42 0), .int x])) = jb_en G ad (jb_u S 43 0 x) := rfl
theorem jb_s24 (G : jb_Gt) (ad : Nat → Nat) (S : ja_S) (f : Nat → Int32) : (jb_en G ad S).set 9 (ad 9, .inl (G.2 0, 41, .inl f)) = jb_en G ad (jb_sv S 24 f) := rfl
theorem jb_s25 (G : jb_Gt) (ad : Nat → Nat) (S : ja_S) (f : Nat → Int32) : (jb_en G ad S).set 10 (ad 10, .inl (G.2 0, 41, .inl f)) = jb_en G ad (jb_sv S 25 f) := rfl
theorem jb_s26 (G : jb_Gt) (ad : Nat → Nat) (S : ja_S) (f : Nat → Int32) : (jb_en G ad S).set 11 (ad 11, .inl (G.2 1, 41, .inl f)) = jb_en G ad (jb_sv S 26 f) := rfl
theorem jb_s27 (G : jb_Gt) (ad : Nat → Nat) (S : ja_S) (f : Nat → Int32) : (jb_en G ad S).set 12 (ad 12, .inl (G.2 0, 8, .inl f)) = jb_en G ad (jb_sv S 27 f) := rfl
theorem jb_s28 (G : jb_Gt) (ad : Nat → Nat) (S : ja_S) (f : Nat → Int32) : (jb_en G ad S).set 14 (ad 14, .inl (G.2 0, 4, .inl f)) = jb_en G ad (jb_sv S 28 f) := rfl
theorem jb_s29 (G : jb_Gt) (ad : Nat → Nat) (S : ja_S) (f : Nat → Int32) : (jb_en G ad S).set 15 (ad 15, .inl (G.2 0, 5001, .inl f)) = jb_en G ad (jb_sv S 29 f) := rfl
theorem jb_s30 (G : jb_Gt) (ad : Nat → Nat) (S : ja_S) (f : Nat → Int32) : (jb_en G ad S).set 17 (ad 17, .inl (G.2 0, 40, .inl f)) = jb_en G ad (jb_sv S 30 f) := rfl
theorem jb_s31 (G : jb_Gt) (ad : Nat → Nat) (S : ja_S) (f : Nat → Int32) : (jb_en G ad S).set 18 (ad 18, .inl (G.2 0, 40, .inl f)) = jb_en G ad (jb_sv S 31 f) := rfl
theorem jb_s11 (G : jb_Gt) (ad : Nat → Nat) (S : ja_S) {j : Nat} (hj : j < 8) (x : Int32) : (jb_en G ad S).set (38 + j) (ad (38 + j), .inr (0, [.int x, .int (S 12 j), .int (S 13 j), .int (S 14 j), .int (S 15 j), .int (S 16 j)])) = jb_en G ad (jb_u S 11 j x) := by
  unfold jb_en
  rw [List.set_append_right _ _ (by show 38 ≤ 38 + j; omega), show 38 + j - (jb_fx G ad S).length = j from by show 38 + j - 38 = j; omega]
  rw [List.set_append_left _ _ (by simpa using hj), jb_setr (g := jb_pA ad (jb_u S 11 j x)) ?_ ?_]
  · rfl
  · show ((ad (38 + j), .inr (0, [.int (upd (S 11) j x j), .int (S 12 j), .int (S 13 j), .int (S 14 j), .int (S 15 j), .int (S 16 j)])) : Nat × va_E) = _
    rw [pk_us]
  · intro i hi
    show ((ad (38 + i), .inr (0, [.int (upd (S 11) j x i), .int (S 12 i), .int (S 13 i), .int (S 14 i), .int (S 15 i), .int (S 16 i)])) : Nat × va_E) = _
    rw [pk_un hi]
    rfl
theorem jb_s12 (G : jb_Gt) (ad : Nat → Nat) (S : ja_S) {j : Nat} (hj : j < 8) (x : Int32) : (jb_en G ad S).set (38 + j) (ad (38 + j), .inr (0, [.int (S 11 j), .int x, .int (S 13 j), .int (S 14 j), .int (S 15 j), .int (S 16 j)])) = jb_en G ad (jb_u S 12 j x) := by
  unfold jb_en
  rw [List.set_append_right _ _ (by show 38 ≤ 38 + j; omega), show 38 + j - (jb_fx G ad S).length = j from by show 38 + j - 38 = j; omega]
  rw [List.set_append_left _ _ (by simpa using hj), jb_setr (g := jb_pA ad (jb_u S 12 j x)) ?_ ?_]
  · rfl
  · show ((ad (38 + j), .inr (0, [.int (S 11 j), .int (upd (S 12) j x j), .int (S 13 j), .int (S 14 j), .int (S 15 j), .int (S 16 j)])) : Nat × va_E) = _
    rw [pk_us]
  · intro i hi
    show ((ad (38 + i), .inr (0, [.int (S 11 i), .int (upd (S 12) j x i), .int (S 13 i), .int (S 14 i), .int (S 15 i), .int (S 16 i)])) : Nat × va_E) = _
    rw [pk_un hi]
    rfl
theorem jb_s13 (G : jb_Gt) (ad : Nat → Nat) (S : ja_S) {j : Nat} (hj : j < 8) (x : Int32) : (jb_en G ad S).set (38 + j) (ad (38 + j), .inr (0, [.int (S 11 j), .int (S 12 j), .int x, .int (S 14 j), .int (S 15 j), .int (S 16 j)])) = jb_en G ad (jb_u S 13 j x) := by
  unfold jb_en
  rw [List.set_append_right _ _ (by show 38 ≤ 38 + j; omega), show 38 + j - (jb_fx G ad S).length = j from by show 38 + j - 38 = j; omega]
  rw [List.set_append_left _ _ (by simpa using hj), jb_setr (g := jb_pA ad (jb_u S 13 j x)) ?_ ?_]
  · rfl
  · show ((ad (38 + j), .inr (0, [.int (S 11 j), .int (S 12 j), .int (upd (S 13) j x j), .int (S 14 j), .int (S 15 j), .int (S 16 j)])) : Nat × va_E) = _
    rw [pk_us]
  · intro i hi
    show ((ad (38 + i), .inr (0, [.int (S 11 i), .int (S 12 i), .int (upd (S 13) j x i), .int (S 14 i), .int (S 15 i), .int (S 16 i)])) : Nat × va_E) = _
    rw [pk_un hi]
    rfl
theorem jb_s14 (G : jb_Gt) (ad : Nat → Nat) (S : ja_S) {j : Nat} (hj : j < 8) (x : Int32) : (jb_en G ad S).set (38 + j) (ad (38 + j), .inr (0, [.int (S 11 j), .int (S 12 j), .int (S 13 j), .int x, .int (S 15 j), .int (S 16 j)])) = jb_en G ad (jb_u S 14 j x) := by
  unfold jb_en
  rw [List.set_append_right _ _ (by show 38 ≤ 38 + j; omega), show 38 + j - (jb_fx G ad S).length = j from by show 38 + j - 38 = j; omega]
  rw [List.set_append_left _ _ (by simpa using hj), jb_setr (g := jb_pA ad (jb_u S 14 j x)) ?_ ?_]
  · rfl
  · show ((ad (38 + j), .inr (0, [.int (S 11 j), .int (S 12 j), .int (S 13 j), .int (upd (S 14) j x j), .int (S 15 j), .int (S 16 j)])) : Nat × va_E) = _
    rw [pk_us]
  · intro i hi
    show ((ad (38 + i), .inr (0, [.int (S 11 i), .int (S 12 i), .int (S 13 i), .int (upd (S 14) j x i), .int (S 15 i), .int (S 16 i)])) : Nat × va_E) = _
    rw [pk_un hi]
    rfl
theorem jb_s15 (G : jb_Gt) (ad : Nat → Nat) (S : ja_S) {j : Nat} (hj : j < 8) (x : Int32) : (jb_en G ad S).set (38 + j) (ad (38 + j), .inr (0, [.int (S 11 j), .int (S 12 j), .int (S 13 j), .int (S 14 j), .int x, .int (S 16 j)])) = jb_en G ad (jb_u S 15 j x) := by
  unfold jb_en
  rw [List.set_append_right _ _ (by show 38 ≤ 38 + j; omega), show 38 + j - (jb_fx G ad S).length = j from by show 38 + j - 38 = j; omega]
  rw [List.set_append_left _ _ (by simpa using hj), jb_setr (g := jb_pA ad (jb_u S 15 j x)) ?_ ?_]
  · rfl
  · show ((ad (38 + j), .inr (0, [.int (S 11 j), .int (S 12 j), .int (S 13 j), .int (S 14 j), .int (upd (S 15) j x j), .int (S 16 j)])) : Nat × va_E) = _
    rw [pk_us]
  · intro i hi
    show ((ad (38 + i), .inr (0, [.int (S 11 i), .int (S 12 i), .int (S 13 i), .int (S 14 i), .int (upd (S 15) j x i), .int (S 16 i)])) : Nat × va_E) = _
    rw [pk_un hi]
    rfl
theorem jb_s16 (G : jb_Gt) (ad : Nat → Nat) (S : ja_S) {j : Nat} (hj : j < 8) (x : Int32) : (jb_en G ad S).set (38 + j) (ad (38 + j), .inr (0, [.int (S 11 j), .int (S 12 j), .int (S 13 j), .int (S 14 j), .int (S 15 j), .int x])) = jb_en G ad (jb_u S 16 j x) := by
  unfold jb_en
  rw [List.set_append_right _ _ (by show 38 ≤ 38 + j; omega), show 38 + j - (jb_fx G ad S).length = j from by show 38 + j - 38 = j; omega]
  rw [List.set_append_left _ _ (by simpa using hj), jb_setr (g := jb_pA ad (jb_u S 16 j x)) ?_ ?_]
  · rfl
  · show ((ad (38 + j), .inr (0, [.int (S 11 j), .int (S 12 j), .int (S 13 j), .int (S 14 j), .int (S 15 j), .int (upd (S 16) j x j)])) : Nat × va_E) = _
    rw [pk_us]
  · intro i hi
    show ((ad (38 + i), .inr (0, [.int (S 11 i), .int (S 12 i), .int (S 13 i), .int (S 14 i), .int (S 15 i), .int (upd (S 16) j x i)])) : Nat × va_E) = _
    rw [pk_un hi]
    rfl
theorem jb_s17 (G : jb_Gt) (ad : Nat → Nat) (S : ja_S) {j : Nat} (hj : j < 4) (x : Int32) : (jb_en G ad S).set (46 + j) (ad (46 + j), .inr (1, [.int x, .int (S 18 j)])) = jb_en G ad (jb_u S 17 j x) := by
  unfold jb_en
  rw [List.set_append_right _ _ (by show 38 ≤ 46 + j; omega), show 46 + j - (jb_fx G ad S).length = 8 + j from by show 46 + j - 38 = 8 + j; omega]
  rw [List.set_append_right _ _ (by simp), show 8 + j - ((List.range 8).map (jb_pA ad S)).length = j from by simp, List.set_append_left _ _ (by simpa using hj), jb_setr (g := jb_pK ad (jb_u S 17 j x)) ?_ ?_]
  · rfl
  · show ((ad (46 + j), .inr (1, [.int (upd (S 17) j x j), .int (S 18 j)])) : Nat × va_E) = _
    rw [pk_us]
  · intro i hi
    show ((ad (46 + i), .inr (1, [.int (upd (S 17) j x i), .int (S 18 i)])) : Nat × va_E) = _
    rw [pk_un hi]
    rfl
theorem jb_s18 (G : jb_Gt) (ad : Nat → Nat) (S : ja_S) {j : Nat} (hj : j < 4) (x : Int32) : (jb_en G ad S).set (46 + j) (ad (46 + j), .inr (1, [.int (S 17 j), .int x])) = jb_en G ad (jb_u S 18 j x) := by
  unfold jb_en
  rw [List.set_append_right _ _ (by show 38 ≤ 46 + j; omega), show 46 + j - (jb_fx G ad S).length = 8 + j from by show 46 + j - 38 = 8 + j; omega]
  rw [List.set_append_right _ _ (by simp), show 8 + j - ((List.range 8).map (jb_pA ad S)).length = j from by simp, List.set_append_left _ _ (by simpa using hj), jb_setr (g := jb_pK ad (jb_u S 18 j x)) ?_ ?_]
  · rfl
  · show ((ad (46 + j), .inr (1, [.int (S 17 j), .int (upd (S 18) j x j)])) : Nat × va_E) = _
    rw [pk_us]
  · intro i hi
    show ((ad (46 + i), .inr (1, [.int (S 17 i), .int (upd (S 18) j x i)])) : Nat × va_E) = _
    rw [pk_un hi]
    rfl
theorem jb_s19 (G : jb_Gt) (ad : Nat → Nat) (S : ja_S) {j : Nat} (hj : j < 40) (x : Int32) : (jb_en G ad S).set (50 + j) (ad (50 + j), .inr (2, [.int x, .int (S 20 j), .int (S 21 j), .int (S 22 j), .int (S 23 j)])) = jb_en G ad (jb_u S 19 j x) := by
  unfold jb_en
  rw [List.set_append_right _ _ (by show 38 ≤ 50 + j; omega), show 50 + j - (jb_fx G ad S).length = 12 + j from by show 50 + j - 38 = 12 + j; omega]
  rw [List.set_append_right _ _ (by simp; omega), show 12 + j - ((List.range 8).map (jb_pA ad S)).length = 4 + j from by simp; omega, List.set_append_right _ _ (by simp), show 4 + j - ((List.range 4).map (jb_pK ad S)).length = j from by simp, jb_setr (g := jb_pE ad (jb_u S 19 j x)) ?_ ?_]
  · rfl
  · show ((ad (50 + j), .inr (2, [.int (upd (S 19) j x j), .int (S 20 j), .int (S 21 j), .int (S 22 j), .int (S 23 j)])) : Nat × va_E) = _
    rw [pk_us]
  · intro i hi
    show ((ad (50 + i), .inr (2, [.int (upd (S 19) j x i), .int (S 20 i), .int (S 21 i), .int (S 22 i), .int (S 23 i)])) : Nat × va_E) = _
    rw [pk_un hi]
    rfl
theorem jb_s20 (G : jb_Gt) (ad : Nat → Nat) (S : ja_S) {j : Nat} (hj : j < 40) (x : Int32) : (jb_en G ad S).set (50 + j) (ad (50 + j), .inr (2, [.int (S 19 j), .int x, .int (S 21 j), .int (S 22 j), .int (S 23 j)])) = jb_en G ad (jb_u S 20 j x) := by
  unfold jb_en
  rw [List.set_append_right _ _ (by show 38 ≤ 50 + j; omega), show 50 + j - (jb_fx G ad S).length = 12 + j from by show 50 + j - 38 = 12 + j; omega]
  rw [List.set_append_right _ _ (by simp; omega), show 12 + j - ((List.range 8).map (jb_pA ad S)).length = 4 + j from by simp; omega, List.set_append_right _ _ (by simp), show 4 + j - ((List.range 4).map (jb_pK ad S)).length = j from by simp, jb_setr (g := jb_pE ad (jb_u S 20 j x)) ?_ ?_]
  · rfl
  · show ((ad (50 + j), .inr (2, [.int (S 19 j), .int (upd (S 20) j x j), .int (S 21 j), .int (S 22 j), .int (S 23 j)])) : Nat × va_E) = _
    rw [pk_us]
  · intro i hi
    show ((ad (50 + i), .inr (2, [.int (S 19 i), .int (upd (S 20) j x i), .int (S 21 i), .int (S 22 i), .int (S 23 i)])) : Nat × va_E) = _
    rw [pk_un hi]
    rfl
theorem jb_s21 (G : jb_Gt) (ad : Nat → Nat) (S : ja_S) {j : Nat} (hj : j < 40) (x : Int32) : (jb_en G ad S).set (50 + j) (ad (50 + j), .inr (2, [.int (S 19 j), .int (S 20 j), .int x, .int (S 22 j), .int (S 23 j)])) = jb_en G ad (jb_u S 21 j x) := by
  unfold jb_en
  rw [List.set_append_right _ _ (by show 38 ≤ 50 + j; omega), show 50 + j - (jb_fx G ad S).length = 12 + j from by show 50 + j - 38 = 12 + j; omega]
  rw [List.set_append_right _ _ (by simp; omega), show 12 + j - ((List.range 8).map (jb_pA ad S)).length = 4 + j from by simp; omega, List.set_append_right _ _ (by simp), show 4 + j - ((List.range 4).map (jb_pK ad S)).length = j from by simp, jb_setr (g := jb_pE ad (jb_u S 21 j x)) ?_ ?_]
  · rfl
  · show ((ad (50 + j), .inr (2, [.int (S 19 j), .int (S 20 j), .int (upd (S 21) j x j), .int (S 22 j), .int (S 23 j)])) : Nat × va_E) = _
    rw [pk_us]
  · intro i hi
    show ((ad (50 + i), .inr (2, [.int (S 19 i), .int (S 20 i), .int (upd (S 21) j x i), .int (S 22 i), .int (S 23 i)])) : Nat × va_E) = _
    rw [pk_un hi]
    rfl
theorem jb_s22 (G : jb_Gt) (ad : Nat → Nat) (S : ja_S) {j : Nat} (hj : j < 40) (x : Int32) : (jb_en G ad S).set (50 + j) (ad (50 + j), .inr (2, [.int (S 19 j), .int (S 20 j), .int (S 21 j), .int x, .int (S 23 j)])) = jb_en G ad (jb_u S 22 j x) := by
  unfold jb_en
  rw [List.set_append_right _ _ (by show 38 ≤ 50 + j; omega), show 50 + j - (jb_fx G ad S).length = 12 + j from by show 50 + j - 38 = 12 + j; omega]
  rw [List.set_append_right _ _ (by simp; omega), show 12 + j - ((List.range 8).map (jb_pA ad S)).length = 4 + j from by simp; omega, List.set_append_right _ _ (by simp), show 4 + j - ((List.range 4).map (jb_pK ad S)).length = j from by simp, jb_setr (g := jb_pE ad (jb_u S 22 j x)) ?_ ?_]
  · rfl
  · show ((ad (50 + j), .inr (2, [.int (S 19 j), .int (S 20 j), .int (S 21 j), .int (upd (S 22) j x j), .int (S 23 j)])) : Nat × va_E) = _
    rw [pk_us]
  · intro i hi
    show ((ad (50 + i), .inr (2, [.int (S 19 i), .int (S 20 i), .int (S 21 i), .int (upd (S 22) j x i), .int (S 23 i)])) : Nat × va_E) = _
    rw [pk_un hi]
    rfl
theorem jb_s23 (G : jb_Gt) (ad : Nat → Nat) (S : ja_S) {j : Nat} (hj : j < 40) (x : Int32) : (jb_en G ad S).set (50 + j) (ad (50 + j), .inr (2, [.int (S 19 j), .int (S 20 j), .int (S 21 j), .int (S 22 j), .int x])) = jb_en G ad (jb_u S 23 j x) := by
  unfold jb_en
  rw [List.set_append_right _ _ (by show 38 ≤ 50 + j; omega), show 50 + j - (jb_fx G ad S).length = 12 + j from by show 50 + j - 38 = 12 + j; omega]
  rw [List.set_append_right _ _ (by simp; omega), show 12 + j - ((List.range 8).map (jb_pA ad S)).length = 4 + j from by simp; omega, List.set_append_right _ _ (by simp), show 4 + j - ((List.range 4).map (jb_pK ad S)).length = j from by simp, jb_setr (g := jb_pE ad (jb_u S 23 j x)) ?_ ?_]
  · rfl
  · show ((ad (50 + j), .inr (2, [.int (S 19 j), .int (S 20 j), .int (S 21 j), .int (S 22 j), .int (upd (S 23) j x j)])) : Nat × va_E) = _
    rw [pk_us]
  · intro i hi
    show ((ad (50 + i), .inr (2, [.int (S 19 i), .int (S 20 i), .int (S 21 i), .int (S 22 i), .int (upd (S 23) j x i)])) : Nat × va_E) = _
    rw [pk_un hi]
    rfl
def jb_W (G : jb_Gt) (ad : Nat → Nat) : ja_S → Heap → Prop := fun S H => va_P G.1 jb_cl (jb_en G ad S) H
/-- what a method's entry s knows of the law's entry s0: the tables are warmer, the old cells are as they were -/
def jb_X (s0 s : State) (G : jb_Gt) (ad : Nat → Nat) : Prop := s0.WarmedH s.vm ∧ va_K G.1 jb_cl (jb_ty G.2) s ∧ jb_D s0.heap.size ad ∧ s0.heap.size ≤ s.heap.size ∧ ∀ q, q < s0.heap.size → s.heap[q]? = s0.heap[q]?
section JB
variable {p : Program} {l : Launch} {e : Env} {R : Room} {s s0 : State} {m : MethodId} {args : Array Value} {below : List Frame} {meth : Method} {c : Code} {G : jb_Gt} {ad : Nat → Nat} {nL cells slots : Nat} {Q : State → Prop} {S : ja_S} {pc q : Nat} {L : List (Nat × Value)} {st : List Value} {cc : ByteArray} {own : String}
theorem jb_get (O : CallFix p m c cc nL s args ja_T own ∧ jb_X s0 s G ad) {i ci k N index : Nat} {C : String} {T : u_T} {fs : List Value} {v : Value} (he : (jb_en G ad S)[i]? = some (ad i, .inr (ci, fs))) (hc : jb_cl[ci]? = some (C, T, N)) (hin : ∀ w ∈ u_ws C T N, w ∈ ja_T) (hk : k < N) (hl : Cond.fieldLink own index (T k).1 (T k).2.1 (T k).2.2.1 ∈ ja_T) (hv : fs[k]? = some v)
    (hd : decode cc pc = .ok (.getfield index, 3)) (hp : pc + 3 = q) (kk : ja_V p l e R s m args below meth c (jb_W G ad) s0.heap.size nL cells slots Q S q L (v :: st)) : ja_V p l e R s m args below meth c (jb_W G ad) s0.heap.size nL cells slots Q S pc L (.ref (ad i) :: st) := by
  subst hp
  exact fun ls H locs hL hP hS => va_get O.1.1 O.1.2.1 O.1.2.2.2.2 hin O.1.2.2.2.1 O.2.2.1 hP i he hc k hk (O.1.2.2.2.2 _ hl) (fun _ h => h) hv hd (kk ls H locs hL hP hS)
theorem jb_put (O : CallFix p m c cc nL s args ja_T own ∧ jb_X s0 s G ad) {i ci k N index : Nat} {C : String} {T : u_T} {fs : List Value} {v : Value} {S' : ja_S} {ty : FieldType} (he : (jb_en G ad S)[i]? = some (ad i, .inr (ci, fs))) (hc : jb_cl[ci]? = some (C, T, N)) (hin : ∀ w ∈ u_ws C T N, w ∈ ja_T) (ty0 : Nat → FieldType) (hty : ∀ k, k < N → parseFieldDescriptor (T k).2.2.1 = some (ty0 k)) (hnm : ∀ a, a < N → ∀ b, b < N → a ≠ b → (T a).2.1 ≠ (T b).2.1) (hk : k < N) (hl : Cond.fieldLink own index (T k).1 (T k).2.1 (T k).2.2.1 ∈ ja_T) (hf : (T k).2.2.2 = false) (hd0 : parseFieldDescriptor (T k).2.2.1 = some ty) (hn : narrow ty v = v) (hfit : fits ty v = true) (hlen : k < fs.length) (hset : (jb_en G ad S).set i (ad i, .inr (ci, fs.set k v)) = jb_en G ad S')
    (hd : decode cc pc = .ok (.putfield index, 3)) (hp : pc + 3 = q) (kk : ja_V p l e R s m args below meth c (jb_W G ad) s0.heap.size nL cells slots Q S' q L st) : ja_V p l e R s m args below meth c (jb_W G ad) s0.heap.size nL cells slots Q S pc L (v :: .ref (ad i) :: st) := by
  subst hp
  exact fun ls H locs hL hP hS => va_put O.1.1 O.1.2.1 O.1.2.2.2.2 hin ty0 hty hnm O.1.2.2.2.1 O.2.2.1 hP (O.2.2.2.1.va S) hS i he hc k hk (O.1.2.2.2.2 _ hl) (fun _ h => h) hf hd0 hn hfit hlen hd (fun H1 locs1 hP1 _ hS1 => kk ls H1 locs1 hL (show va_P G.1 jb_cl (jb_en G ad S') H1 by rw [← hset]; exact hP1) hS1)
theorem jb_nb {x : Int32} (h : x = 0 ∨ x = 1) : narrow .boolean (.int x) = .int x := by rcases h with rfl | rfl <;> rfl
theorem jb_fb {x : Int32} (h : x = 0 ∨ x = 1) : fits .boolean (.int x) = true := by rcases h with rfl | rfl <;> decide
theorem jb_vb {x : Int32} (h : x = 0 ∨ x = 1) : vp_nar .boolean x = x := by rcases h with rfl | rfl <;> rfl
theorem jg_A_9 (O : CallFix p m c cc nL s args ja_T "CashMachine$Account" ∧ jb_X s0 s G ad) {j : Nat} (hj : j < 8) (hd : decode cc pc = .ok (.getfield 9, 3)) (hp : pc + 3 = q) (kk : ja_V p l e R s m args below meth c (jb_W G ad) s0.heap.size nL cells slots Q S q L (.int (S 11 j) :: st)) : ja_V p l e R s m args below meth c (jb_W G ad) s0.heap.size nL cells slots Q S pc L (.ref (ad (38 + j)) :: st) :=
  jb_get O (k := 0) (jb_kA G ad S hj) rfl jx_A (by decide) jw_44 rfl hd hp kk
theorem jp_A_9 (O : CallFix p m c cc nL s args ja_T "CashMachine$Account" ∧ jb_X s0 s G ad) {j : Nat} (hj : j < 8) {x : Int32} (hx : x = 0 ∨ x = 1) (hd : decode cc pc = .ok (.putfield 9, 3)) (hp : pc + 3 = q) (kk : ja_V p l e R s m args below meth c (jb_W G ad) s0.heap.size nL cells slots Q (jb_u S 11 j x) q L st) : ja_V p l e R s m args below meth c (jb_W G ad) s0.heap.size nL cells slots Q S pc L (.int x :: .ref (ad (38 + j)) :: st) :=
  jb_put O (k := 0) (ty := .boolean) (jb_kA G ad S hj) rfl jx_A jq_A jk_A jn_A (by decide) jw_44 rfl (by decide +kernel) (jb_nb hx) (jb_fb hx) (Nat.le_of_ble_eq_true rfl) (jb_s11 G ad S hj x) hd hp kk
theorem jg_H_33 (O : CallFix p m c cc nL s args ja_T "CashMachine$Host" ∧ jb_X s0 s G ad) {j : Nat} (hj : j < 8) (hd : decode cc pc = .ok (.getfield 33, 3)) (hp : pc + 3 = q) (kk : ja_V p l e R s m args below meth c (jb_W G ad) s0.heap.size nL cells slots Q S q L (.int (S 11 j) :: st)) : ja_V p l e R s m args below meth c (jb_W G ad) s0.heap.size nL cells slots Q S pc L (.ref (ad (38 + j)) :: st) :=
  jb_get O (k := 0) (jb_kA G ad S hj) rfl jx_A (by decide) jw_45 rfl hd hp kk
theorem jp_H_33 (O : CallFix p m c cc nL s args ja_T "CashMachine$Host" ∧ jb_X s0 s G ad) {j : Nat} (hj : j < 8) {x : Int32} (hx : x = 0 ∨ x = 1) (hd : decode cc pc = .ok (.putfield 33, 3)) (hp : pc + 3 = q) (kk : ja_V p l e R s m args below meth c (jb_W G ad) s0.heap.size nL cells slots Q (jb_u S 11 j x) q L st) : ja_V p l e R s m args below meth c (jb_W G ad) s0.heap.size nL cells slots Q S pc L (.int x :: .ref (ad (38 + j)) :: st) :=
  jb_put O (k := 0) (ty := .boolean) (jb_kA G ad S hj) rfl jx_A jq_A jk_A jn_A (by decide) jw_45 rfl (by decide +kernel) (jb_nb hx) (jb_fb hx) (Nat.le_of_ble_eq_true rfl) (jb_s11 G ad S hj x) hd hp kk
theorem jg_A_15 (O : CallFix p m c cc nL s args ja_T "CashMachine$Account" ∧ jb_X s0 s G ad) {j : Nat} (hj : j < 8) (hd : decode cc pc = .ok (.getfield 15, 3)) (hp : pc + 3 = q) (kk : ja_V p l e R s m args below meth c (jb_W G ad) s0.heap.size nL cells slots Q S q L (.int (S 12 j) :: st)) : ja_V p l e R s m args below meth c (jb_W G ad) s0.heap.size nL cells slots Q S pc L (.ref (ad (38 + j)) :: st) :=
  jb_get O (k := 1) (jb_kA G ad S hj) rfl jx_A (by decide) jw_46 rfl hd hp kk
theorem jp_A_15 (O : CallFix p m c cc nL s args ja_T "CashMachine$Account" ∧ jb_X s0 s G ad) {j : Nat} (hj : j < 8) {x : Int32} (hd : decode cc pc = .ok (.putfield 15, 3)) (hp : pc + 3 = q) (kk : ja_V p l e R s m args below meth c (jb_W G ad) s0.heap.size nL cells slots Q (jb_u S 12 j x) q L st) : ja_V p l e R s m args below meth c (jb_W G ad) s0.heap.size nL cells slots Q S pc L (.int x :: .ref (ad (38 + j)) :: st) :=
  jb_put O (k := 1) (ty := .int) (jb_kA G ad S hj) rfl jx_A jq_A jk_A jn_A (by decide) jw_46 rfl (by decide +kernel) rfl rfl (Nat.le_of_ble_eq_true rfl) (jb_s12 G ad S hj x) hd hp kk
theorem jg_H_37 (O : CallFix p m c cc nL s args ja_T "CashMachine$Host" ∧ jb_X s0 s G ad) {j : Nat} (hj : j < 8) (hd : decode cc pc = .ok (.getfield 37, 3)) (hp : pc + 3 = q) (kk : ja_V p l e R s m args below meth c (jb_W G ad) s0.heap.size nL cells slots Q S q L (.int (S 12 j) :: st)) : ja_V p l e R s m args below meth c (jb_W G ad) s0.heap.size nL cells slots Q S pc L (.ref (ad (38 + j)) :: st) :=
  jb_get O (k := 1) (jb_kA G ad S hj) rfl jx_A (by decide) jw_47 rfl hd hp kk
theorem jp_H_37 (O : CallFix p m c cc nL s args ja_T "CashMachine$Host" ∧ jb_X s0 s G ad) {j : Nat} (hj : j < 8) {x : Int32} (hd : decode cc pc = .ok (.putfield 37, 3)) (hp : pc + 3 = q) (kk : ja_V p l e R s m args below meth c (jb_W G ad) s0.heap.size nL cells slots Q (jb_u S 12 j x) q L st) : ja_V p l e R s m args below meth c (jb_W G ad) s0.heap.size nL cells slots Q S pc L (.int x :: .ref (ad (38 + j)) :: st) :=
  jb_put O (k := 1) (ty := .int) (jb_kA G ad S hj) rfl jx_A jq_A jk_A jn_A (by decide) jw_47 rfl (by decide +kernel) rfl rfl (Nat.le_of_ble_eq_true rfl) (jb_s12 G ad S hj x) hd hp kk
theorem jg_A_19 (O : CallFix p m c cc nL s args ja_T "CashMachine$Account" ∧ jb_X s0 s G ad) {j : Nat} (hj : j < 8) (hd : decode cc pc = .ok (.getfield 19, 3)) (hp : pc + 3 = q) (kk : ja_V p l e R s m args below meth c (jb_W G ad) s0.heap.size nL cells slots Q S q L (.int (S 13 j) :: st)) : ja_V p l e R s m args below meth c (jb_W G ad) s0.heap.size nL cells slots Q S pc L (.ref (ad (38 + j)) :: st) :=
  jb_get O (k := 2) (jb_kA G ad S hj) rfl jx_A (by decide) jw_48 rfl hd hp kk
theorem jp_A_19 (O : CallFix p m c cc nL s args ja_T "CashMachine$Account" ∧ jb_X s0 s G ad) {j : Nat} (hj : j < 8) {x : Int32} (hd : decode cc pc = .ok (.putfield 19, 3)) (hp : pc + 3 = q) (kk : ja_V p l e R s m args below meth c (jb_W G ad) s0.heap.size nL cells slots Q (jb_u S 13 j x) q L st) : ja_V p l e R s m args below meth c (jb_W G ad) s0.heap.size nL cells slots Q S pc L (.int x :: .ref (ad (38 + j)) :: st) :=
  jb_put O (k := 2) (ty := .int) (jb_kA G ad S hj) rfl jx_A jq_A jk_A jn_A (by decide) jw_48 rfl (by decide +kernel) rfl rfl (Nat.le_of_ble_eq_true rfl) (jb_s13 G ad S hj x) hd hp kk
theorem jg_H_41 (O : CallFix p m c cc nL s args ja_T "CashMachine$Host" ∧ jb_X s0 s G ad) {j : Nat} (hj : j < 8) (hd : decode cc pc = .ok (.getfield 41, 3)) (hp : pc + 3 = q) (kk : ja_V p l e R s m args below meth c (jb_W G ad) s0.heap.size nL cells slots Q S q L (.int (S 13 j) :: st)) : ja_V p l e R s m args below meth c (jb_W G ad) s0.heap.size nL cells slots Q S pc L (.ref (ad (38 + j)) :: st) :=
  jb_get O (k := 2) (jb_kA G ad S hj) rfl jx_A (by decide) jw_49 rfl hd hp kk
theorem jp_H_41 (O : CallFix p m c cc nL s args ja_T "CashMachine$Host" ∧ jb_X s0 s G ad) {j : Nat} (hj : j < 8) {x : Int32} (hd : decode cc pc = .ok (.putfield 41, 3)) (hp : pc + 3 = q) (kk : ja_V p l e R s m args below meth c (jb_W G ad) s0.heap.size nL cells slots Q (jb_u S 13 j x) q L st) : ja_V p l e R s m args below meth c (jb_W G ad) s0.heap.size nL cells slots Q S pc L (.int x :: .ref (ad (38 + j)) :: st) :=
  jb_put O (k := 2) (ty := .int) (jb_kA G ad S hj) rfl jx_A jq_A jk_A jn_A (by decide) jw_49 rfl (by decide +kernel) rfl rfl (Nat.le_of_ble_eq_true rfl) (jb_s13 G ad S hj x) hd hp kk
theorem jg_A_22 (O : CallFix p m c cc nL s args ja_T "CashMachine$Account" ∧ jb_X s0 s G ad) {j : Nat} (hj : j < 8) (hd : decode cc pc = .ok (.getfield 22, 3)) (hp : pc + 3 = q) (kk : ja_V p l e R s m args below meth c (jb_W G ad) s0.heap.size nL cells slots Q S q L (.int (S 14 j) :: st)) : ja_V p l e R s m args below meth c (jb_W G ad) s0.heap.size nL cells slots Q S pc L (.ref (ad (38 + j)) :: st) :=
  jb_get O (k := 3) (jb_kA G ad S hj) rfl jx_A (by decide) jw_50 rfl hd hp kk
theorem jp_A_22 (O : CallFix p m c cc nL s args ja_T "CashMachine$Account" ∧ jb_X s0 s G ad) {j : Nat} (hj : j < 8) {x : Int32} (hd : decode cc pc = .ok (.putfield 22, 3)) (hp : pc + 3 = q) (kk : ja_V p l e R s m args below meth c (jb_W G ad) s0.heap.size nL cells slots Q (jb_u S 14 j x) q L st) : ja_V p l e R s m args below meth c (jb_W G ad) s0.heap.size nL cells slots Q S pc L (.int x :: .ref (ad (38 + j)) :: st) :=
  jb_put O (k := 3) (ty := .int) (jb_kA G ad S hj) rfl jx_A jq_A jk_A jn_A (by decide) jw_50 rfl (by decide +kernel) rfl rfl (Nat.le_of_ble_eq_true rfl) (jb_s14 G ad S hj x) hd hp kk
theorem jg_H_44 (O : CallFix p m c cc nL s args ja_T "CashMachine$Host" ∧ jb_X s0 s G ad) {j : Nat} (hj : j < 8) (hd : decode cc pc = .ok (.getfield 44, 3)) (hp : pc + 3 = q) (kk : ja_V p l e R s m args below meth c (jb_W G ad) s0.heap.size nL cells slots Q S q L (.int (S 14 j) :: st)) : ja_V p l e R s m args below meth c (jb_W G ad) s0.heap.size nL cells slots Q S pc L (.ref (ad (38 + j)) :: st) :=
  jb_get O (k := 3) (jb_kA G ad S hj) rfl jx_A (by decide) jw_51 rfl hd hp kk
theorem jp_H_44 (O : CallFix p m c cc nL s args ja_T "CashMachine$Host" ∧ jb_X s0 s G ad) {j : Nat} (hj : j < 8) {x : Int32} (hd : decode cc pc = .ok (.putfield 44, 3)) (hp : pc + 3 = q) (kk : ja_V p l e R s m args below meth c (jb_W G ad) s0.heap.size nL cells slots Q (jb_u S 14 j x) q L st) : ja_V p l e R s m args below meth c (jb_W G ad) s0.heap.size nL cells slots Q S pc L (.int x :: .ref (ad (38 + j)) :: st) :=
  jb_put O (k := 3) (ty := .int) (jb_kA G ad S hj) rfl jx_A jq_A jk_A jn_A (by decide) jw_51 rfl (by decide +kernel) rfl rfl (Nat.le_of_ble_eq_true rfl) (jb_s14 G ad S hj x) hd hp kk
theorem jg_C_159 (O : CallFix p m c cc nL s args ja_T "CashMachine" ∧ jb_X s0 s G ad) {j : Nat} (hj : j < 8) (hd : decode cc pc = .ok (.getfield 159, 3)) (hp : pc + 3 = q) (kk : ja_V p l e R s m args below meth c (jb_W G ad) s0.heap.size nL cells slots Q S q L (.int (S 14 j) :: st)) : ja_V p l e R s m args below meth c (jb_W G ad) s0.heap.size nL cells slots Q S pc L (.ref (ad (38 + j)) :: st) :=
  jb_get O (k := 3) (jb_kA G ad S hj) rfl jx_A (by decide) jw_52 rfl hd hp kk
theorem jp_C_159 (O : CallFix p m c cc nL s args ja_T "CashMachine" ∧ jb_X s0 s G ad) {j : Nat} (hj : j < 8) {x : Int32} (hd : decode cc pc = .ok (.putfield 159, 3)) (hp : pc + 3 = q) (kk : ja_V p l e R s m args below meth c (jb_W G ad) s0.heap.size nL cells slots Q (jb_u S 14 j x) q L st) : ja_V p l e R s m args below meth c (jb_W G ad) s0.heap.size nL cells slots Q S pc L (.int x :: .ref (ad (38 + j)) :: st) :=
  jb_put O (k := 3) (ty := .int) (jb_kA G ad S hj) rfl jx_A jq_A jk_A jn_A (by decide) jw_52 rfl (by decide +kernel) rfl rfl (Nat.le_of_ble_eq_true rfl) (jb_s14 G ad S hj x) hd hp kk
theorem jg_A_25 (O : CallFix p m c cc nL s args ja_T "CashMachine$Account" ∧ jb_X s0 s G ad) {j : Nat} (hj : j < 8) (hd : decode cc pc = .ok (.getfield 25, 3)) (hp : pc + 3 = q) (kk : ja_V p l e R s m args below meth c (jb_W G ad) s0.heap.size nL cells slots Q S q L (.int (S 15 j) :: st)) : ja_V p l e R s m args below meth c (jb_W G ad) s0.heap.size nL cells slots Q S pc L (.ref (ad (38 + j)) :: st) :=
  jb_get O (k := 4) (jb_kA G ad S hj) rfl jx_A (by decide) jw_53 rfl hd hp kk
theorem jp_A_25 (O : CallFix p m c cc nL s args ja_T "CashMachine$Account" ∧ jb_X s0 s G ad) {j : Nat} (hj : j < 8) {x : Int32} (hd : decode cc pc = .ok (.putfield 25, 3)) (hp : pc + 3 = q) (kk : ja_V p l e R s m args below meth c (jb_W G ad) s0.heap.size nL cells slots Q (jb_u S 15 j x) q L st) : ja_V p l e R s m args below meth c (jb_W G ad) s0.heap.size nL cells slots Q S pc L (.int x :: .ref (ad (38 + j)) :: st) :=
  jb_put O (k := 4) (ty := .int) (jb_kA G ad S hj) rfl jx_A jq_A jk_A jn_A (by decide) jw_53 rfl (by decide +kernel) rfl rfl (Nat.le_of_ble_eq_true rfl) (jb_s15 G ad S hj x) hd hp kk
theorem jg_C_100 (O : CallFix p m c cc nL s args ja_T "CashMachine" ∧ jb_X s0 s G ad) {j : Nat} (hj : j < 8) (hd : decode cc pc = .ok (.getfield 100, 3)) (hp : pc + 3 = q) (kk : ja_V p l e R s m args below meth c (jb_W G ad) s0.heap.size nL cells slots Q S q L (.int (S 15 j) :: st)) : ja_V p l e R s m args below meth c (jb_W G ad) s0.heap.size nL cells slots Q S pc L (.ref (ad (38 + j)) :: st) :=
  jb_get O (k := 4) (jb_kA G ad S hj) rfl jx_A (by decide) jw_54 rfl hd hp kk
theorem jp_C_100 (O : CallFix p m c cc nL s args ja_T "CashMachine" ∧ jb_X s0 s G ad) {j : Nat} (hj : j < 8) {x : Int32} (hd : decode cc pc = .ok (.putfield 100, 3)) (hp : pc + 3 = q) (kk : ja_V p l e R s m args below meth c (jb_W G ad) s0.heap.size nL cells slots Q (jb_u S 15 j x) q L st) : ja_V p l e R s m args below meth c (jb_W G ad) s0.heap.size nL cells slots Q S pc L (.int x :: .ref (ad (38 + j)) :: st) :=
  jb_put O (k := 4) (ty := .int) (jb_kA G ad S hj) rfl jx_A jq_A jk_A jn_A (by decide) jw_54 rfl (by decide +kernel) rfl rfl (Nat.le_of_ble_eq_true rfl) (jb_s15 G ad S hj x) hd hp kk
theorem jg_A_28 (O : CallFix p m c cc nL s args ja_T "CashMachine$Account" ∧ jb_X s0 s G ad) {j : Nat} (hj : j < 8) (hd : decode cc pc = .ok (.getfield 28, 3)) (hp : pc + 3 = q) (kk : ja_V p l e R s m args below meth c (jb_W G ad) s0.heap.size nL cells slots Q S q L (.int (S 16 j) :: st)) : ja_V p l e R s m args below meth c (jb_W G ad) s0.heap.size nL cells slots Q S pc L (.ref (ad (38 + j)) :: st) :=
  jb_get O (k := 5) (jb_kA G ad S hj) rfl jx_A (by decide) jw_55 rfl hd hp kk
theorem jp_A_28 (O : CallFix p m c cc nL s args ja_T "CashMachine$Account" ∧ jb_X s0 s G ad) {j : Nat} (hj : j < 8) {x : Int32} (hx : x = 0 ∨ x = 1) (hd : decode cc pc = .ok (.putfield 28, 3)) (hp : pc + 3 = q) (kk : ja_V p l e R s m args below meth c (jb_W G ad) s0.heap.size nL cells slots Q (jb_u S 16 j x) q L st) : ja_V p l e R s m args below meth c (jb_W G ad) s0.heap.size nL cells slots Q S pc L (.int x :: .ref (ad (38 + j)) :: st) :=
  jb_put O (k := 5) (ty := .boolean) (jb_kA G ad S hj) rfl jx_A jq_A jk_A jn_A (by decide) jw_55 rfl (by decide +kernel) (jb_nb hx) (jb_fb hx) (Nat.le_of_ble_eq_true rfl) (jb_s16 G ad S hj x) hd hp kk
theorem jg_C_92 (O : CallFix p m c cc nL s args ja_T "CashMachine" ∧ jb_X s0 s G ad) {j : Nat} (hj : j < 8) (hd : decode cc pc = .ok (.getfield 92, 3)) (hp : pc + 3 = q) (kk : ja_V p l e R s m args below meth c (jb_W G ad) s0.heap.size nL cells slots Q S q L (.int (S 16 j) :: st)) : ja_V p l e R s m args below meth c (jb_W G ad) s0.heap.size nL cells slots Q S pc L (.ref (ad (38 + j)) :: st) :=
  jb_get O (k := 5) (jb_kA G ad S hj) rfl jx_A (by decide) jw_56 rfl hd hp kk
theorem jp_C_92 (O : CallFix p m c cc nL s args ja_T "CashMachine" ∧ jb_X s0 s G ad) {j : Nat} (hj : j < 8) {x : Int32} (hx : x = 0 ∨ x = 1) (hd : decode cc pc = .ok (.putfield 92, 3)) (hp : pc + 3 = q) (kk : ja_V p l e R s m args below meth c (jb_W G ad) s0.heap.size nL cells slots Q (jb_u S 16 j x) q L st) : ja_V p l e R s m args below meth c (jb_W G ad) s0.heap.size nL cells slots Q S pc L (.int x :: .ref (ad (38 + j)) :: st) :=
  jb_put O (k := 5) (ty := .boolean) (jb_kA G ad S hj) rfl jx_A jq_A jk_A jn_A (by decide) jw_56 rfl (by decide +kernel) (jb_nb hx) (jb_fb hx) (Nat.le_of_ble_eq_true rfl) (jb_s16 G ad S hj x) hd hp kk
theorem jg_H_51 (O : CallFix p m c cc nL s args ja_T "CashMachine$Host" ∧ jb_X s0 s G ad) {j : Nat} (hj : j < 8) (hd : decode cc pc = .ok (.getfield 51, 3)) (hp : pc + 3 = q) (kk : ja_V p l e R s m args below meth c (jb_W G ad) s0.heap.size nL cells slots Q S q L (.int (S 16 j) :: st)) : ja_V p l e R s m args below meth c (jb_W G ad) s0.heap.size nL cells slots Q S pc L (.ref (ad (38 + j)) :: st) :=
  jb_get O (k := 5) (jb_kA G ad S hj) rfl jx_A (by decide) jw_57 rfl hd hp kk
theorem jp_H_51 (O : CallFix p m c cc nL s args ja_T "CashMachine$Host" ∧ jb_X s0 s G ad) {j : Nat} (hj : j < 8) {x : Int32} (hx : x = 0 ∨ x = 1) (hd : decode cc pc = .ok (.putfield 51, 3)) (hp : pc + 3 = q) (kk : ja_V p l e R s m args below meth c (jb_W G ad) s0.heap.size nL cells slots Q (jb_u S 16 j x) q L st) : ja_V p l e R s m args below meth c (jb_W G ad) s0.heap.size nL cells slots Q S pc L (.int x :: .ref (ad (38 + j)) :: st) :=
  jb_put O (k := 5) (ty := .boolean) (jb_kA G ad S hj) rfl jx_A jq_A jk_A jn_A (by decide) jw_57 rfl (by decide +kernel) (jb_nb hx) (jb_fb hx) (Nat.le_of_ble_eq_true rfl) (jb_s16 G ad S hj x) hd hp kk
theorem jg_H_11 (O : CallFix p m c cc nL s args ja_T "CashMachine$Host" ∧ jb_X s0 s G ad) (hd : decode cc pc = .ok (.getfield 11, 3)) (hp : pc + 3 = q) (kk : ja_V p l e R s m args below meth c (jb_W G ad) s0.heap.size nL cells slots Q S q L (.ref (ad 8) :: st)) : ja_V p l e R s m args below meth c (jb_W G ad) s0.heap.size nL cells slots Q S pc L (.ref (ad (1)) :: st) :=
  jb_get O (k := 0) rfl rfl jx_H (by decide) jw_73 rfl hd hp kk
theorem jg_C_88 (O : CallFix p m c cc nL s args ja_T "CashMachine" ∧ jb_X s0 s G ad) (hd : decode cc pc = .ok (.getfield 88, 3)) (hp : pc + 3 = q) (kk : ja_V p l e R s m args below meth c (jb_W G ad) s0.heap.size nL cells slots Q S q L (.ref (ad 8) :: st)) : ja_V p l e R s m args below meth c (jb_W G ad) s0.heap.size nL cells slots Q S pc L (.ref (ad (1)) :: st) :=
  jb_get O (k := 0) rfl rfl jx_H (by decide) jw_74 rfl hd hp kk
theorem jg_H_17 (O : CallFix p m c cc nL s args ja_T "CashMachine$Host" ∧ jb_X s0 s G ad) (hd : decode cc pc = .ok (.getfield 17, 3)) (hp : pc + 3 = q) (kk : ja_V p l e R s m args below meth c (jb_W G ad) s0.heap.size nL cells slots Q S q L (.ref (ad 9) :: st)) : ja_V p l e R s m args below meth c (jb_W G ad) s0.heap.size nL cells slots Q S pc L (.ref (ad (1)) :: st) :=
  jb_get O (k := 1) rfl rfl jx_H (by decide) jw_75 rfl hd hp kk
theorem jg_H_21 (O : CallFix p m c cc nL s args ja_T "CashMachine$Host" ∧ jb_X s0 s G ad) (hd : decode cc pc = .ok (.getfield 21, 3)) (hp : pc + 3 = q) (kk : ja_V p l e R s m args below meth c (jb_W G ad) s0.heap.size nL cells slots Q S q L (.ref (ad 10) :: st)) : ja_V p l e R s m args below meth c (jb_W G ad) s0.heap.size nL cells slots Q S pc L (.ref (ad (1)) :: st) :=
  jb_get O (k := 2) rfl rfl jx_H (by decide) jw_76 rfl hd hp kk
theorem jg_H_24 (O : CallFix p m c cc nL s args ja_T "CashMachine$Host" ∧ jb_X s0 s G ad) (hd : decode cc pc = .ok (.getfield 24, 3)) (hp : pc + 3 = q) (kk : ja_V p l e R s m args below meth c (jb_W G ad) s0.heap.size nL cells slots Q S q L (.ref (ad 11) :: st)) : ja_V p l e R s m args below meth c (jb_W G ad) s0.heap.size nL cells slots Q S pc L (.ref (ad (1)) :: st) :=
  jb_get O (k := 3) rfl rfl jx_H (by decide) jw_77 rfl hd hp kk
theorem jg_N_9 (O : CallFix p m c cc nL s args ja_T "CashMachine$Line" ∧ jb_X s0 s G ad) (hd : decode cc pc = .ok (.getfield 9, 3)) (hp : pc + 3 = q) (kk : ja_V p l e R s m args below meth c (jb_W G ad) s0.heap.size nL cells slots Q S q L (.ref (ad 12) :: st)) : ja_V p l e R s m args below meth c (jb_W G ad) s0.heap.size nL cells slots Q S pc L (.ref (ad (2)) :: st) :=
  jb_get O (k := 0) rfl rfl jx_N (by decide) jw_93 rfl hd hp kk
theorem jg_N_15 (O : CallFix p m c cc nL s args ja_T "CashMachine$Line" ∧ jb_X s0 s G ad) (hd : decode cc pc = .ok (.getfield 15, 3)) (hp : pc + 3 = q) (kk : ja_V p l e R s m args below meth c (jb_W G ad) s0.heap.size nL cells slots Q S q L (.int (S 4 0) :: st)) : ja_V p l e R s m args below meth c (jb_W G ad) s0.heap.size nL cells slots Q S pc L (.ref (ad (2)) :: st) :=
  jb_get O (k := 1) rfl rfl jx_N (by decide) jw_94 rfl hd hp kk
theorem jp_N_15 (O : CallFix p m c cc nL s args ja_T "CashMachine$Line" ∧ jb_X s0 s G ad) {x : Int32} (hd : decode cc pc = .ok (.putfield 15, 3)) (hp : pc + 3 = q) (kk : ja_V p l e R s m args below meth c (jb_W G ad) s0.heap.size nL cells slots Q (jb_u S 4 0 x) q L st) : ja_V p l e R s m args below meth c (jb_W G ad) s0.heap.size nL cells slots Q S pc L (.int x :: .ref (ad (2)) :: st) :=
  jb_put O (k := 1) (ty := .int) rfl rfl jx_N jq_N jk_N jn_N (by decide) jw_94 rfl (by decide +kernel) rfl rfl (Nat.le_of_ble_eq_true rfl) (jb_s4 G ad S x) hd hp kk
theorem jg_C_136 (O : CallFix p m c cc nL s args ja_T "CashMachine" ∧ jb_X s0 s G ad) (hd : decode cc pc = .ok (.getfield 136, 3)) (hp : pc + 3 = q) (kk : ja_V p l e R s m args below meth c (jb_W G ad) s0.heap.size nL cells slots Q S q L (.int (S 4 0) :: st)) : ja_V p l e R s m args below meth c (jb_W G ad) s0.heap.size nL cells slots Q S pc L (.ref (ad (2)) :: st) :=
  jb_get O (k := 1) rfl rfl jx_N (by decide) jw_95 rfl hd hp kk
theorem jp_C_136 (O : CallFix p m c cc nL s args ja_T "CashMachine" ∧ jb_X s0 s G ad) {x : Int32} (hd : decode cc pc = .ok (.putfield 136, 3)) (hp : pc + 3 = q) (kk : ja_V p l e R s m args below meth c (jb_W G ad) s0.heap.size nL cells slots Q (jb_u S 4 0 x) q L st) : ja_V p l e R s m args below meth c (jb_W G ad) s0.heap.size nL cells slots Q S pc L (.int x :: .ref (ad (2)) :: st) :=
  jb_put O (k := 1) (ty := .int) rfl rfl jx_N jq_N jk_N jn_N (by decide) jw_95 rfl (by decide +kernel) rfl rfl (Nat.le_of_ble_eq_true rfl) (jb_s4 G ad S x) hd hp kk
theorem jg_X_9 (O : CallFix p m c cc nL s args ja_T "CashMachine$Mix" ∧ jb_X s0 s G ad) (hd : decode cc pc = .ok (.getfield 9, 3)) (hp : pc + 3 = q) (kk : ja_V p l e R s m args below meth c (jb_W G ad) s0.heap.size nL cells slots Q S q L (.ref (ad 14) :: st)) : ja_V p l e R s m args below meth c (jb_W G ad) s0.heap.size nL cells slots Q S pc L (.ref (ad (6)) :: st) :=
  jb_get O (k := 0) rfl rfl jx_X (by decide) jw_115 rfl hd hp kk
theorem jg_D_52 (O : CallFix p m c cc nL s args ja_T "CashMachine$Dispenser" ∧ jb_X s0 s G ad) (hd : decode cc pc = .ok (.getfield 52, 3)) (hp : pc + 3 = q) (kk : ja_V p l e R s m args below meth c (jb_W G ad) s0.heap.size nL cells slots Q S q L (.ref (ad 14) :: st)) : ja_V p l e R s m args below meth c (jb_W G ad) s0.heap.size nL cells slots Q S pc L (.ref (ad (6)) :: st) :=
  jb_get O (k := 0) rfl rfl jx_X (by decide) jw_116 rfl hd hp kk
theorem jg_C_130 (O : CallFix p m c cc nL s args ja_T "CashMachine" ∧ jb_X s0 s G ad) (hd : decode cc pc = .ok (.getfield 130, 3)) (hp : pc + 3 = q) (kk : ja_V p l e R s m args below meth c (jb_W G ad) s0.heap.size nL cells slots Q S q L (.ref (ad 14) :: st)) : ja_V p l e R s m args below meth c (jb_W G ad) s0.heap.size nL cells slots Q S pc L (.ref (ad (6)) :: st) :=
  jb_get O (k := 0) rfl rfl jx_X (by decide) jw_117 rfl hd hp kk
theorem jg_X_15 (O : CallFix p m c cc nL s args ja_T "CashMachine$Mix" ∧ jb_X s0 s G ad) (hd : decode cc pc = .ok (.getfield 15, 3)) (hp : pc + 3 = q) (kk : ja_V p l e R s m args below meth c (jb_W G ad) s0.heap.size nL cells slots Q S q L (.ref (ad 15) :: st)) : ja_V p l e R s m args below meth c (jb_W G ad) s0.heap.size nL cells slots Q S pc L (.ref (ad (6)) :: st) :=
  jb_get O (k := 1) rfl rfl jx_X (by decide) jw_118 rfl hd hp kk
theorem jg_K_7 (O : CallFix p m c cc nL s args ja_T "CashMachine$Cassette" ∧ jb_X s0 s G ad) {j : Nat} (hj : j < 4) (hd : decode cc pc = .ok (.getfield 7, 3)) (hp : pc + 3 = q) (kk : ja_V p l e R s m args below meth c (jb_W G ad) s0.heap.size nL cells slots Q S q L (.int (S 17 j) :: st)) : ja_V p l e R s m args below meth c (jb_W G ad) s0.heap.size nL cells slots Q S pc L (.ref (ad (46 + j)) :: st) :=
  jb_get O (k := 0) (jb_kK G ad S hj) rfl jx_K (by decide) jw_129 rfl hd hp kk
theorem jp_K_7 (O : CallFix p m c cc nL s args ja_T "CashMachine$Cassette" ∧ jb_X s0 s G ad) {j : Nat} (hj : j < 4) {x : Int32} (hd : decode cc pc = .ok (.putfield 7, 3)) (hp : pc + 3 = q) (kk : ja_V p l e R s m args below meth c (jb_W G ad) s0.heap.size nL cells slots Q (jb_u S 17 j x) q L st) : ja_V p l e R s m args below meth c (jb_W G ad) s0.heap.size nL cells slots Q S pc L (.int x :: .ref (ad (46 + j)) :: st) :=
  jb_put O (k := 0) (ty := .int) (jb_kK G ad S hj) rfl jx_K jq_K jk_K jn_K (by decide) jw_129 rfl (by decide +kernel) rfl rfl (Nat.le_of_ble_eq_true rfl) (jb_s17 G ad S hj x) hd hp kk
theorem jg_D_38 (O : CallFix p m c cc nL s args ja_T "CashMachine$Dispenser" ∧ jb_X s0 s G ad) {j : Nat} (hj : j < 4) (hd : decode cc pc = .ok (.getfield 38, 3)) (hp : pc + 3 = q) (kk : ja_V p l e R s m args below meth c (jb_W G ad) s0.heap.size nL cells slots Q S q L (.int (S 17 j) :: st)) : ja_V p l e R s m args below meth c (jb_W G ad) s0.heap.size nL cells slots Q S pc L (.ref (ad (46 + j)) :: st) :=
  jb_get O (k := 0) (jb_kK G ad S hj) rfl jx_K (by decide) jw_130 rfl hd hp kk
theorem jp_D_38 (O : CallFix p m c cc nL s args ja_T "CashMachine$Dispenser" ∧ jb_X s0 s G ad) {j : Nat} (hj : j < 4) {x : Int32} (hd : decode cc pc = .ok (.putfield 38, 3)) (hp : pc + 3 = q) (kk : ja_V p l e R s m args below meth c (jb_W G ad) s0.heap.size nL cells slots Q (jb_u S 17 j x) q L st) : ja_V p l e R s m args below meth c (jb_W G ad) s0.heap.size nL cells slots Q S pc L (.int x :: .ref (ad (46 + j)) :: st) :=
  jb_put O (k := 0) (ty := .int) (jb_kK G ad S hj) rfl jx_K jq_K jk_K jn_K (by decide) jw_130 rfl (by decide +kernel) rfl rfl (Nat.le_of_ble_eq_true rfl) (jb_s17 G ad S hj x) hd hp kk
theorem jg_X_29 (O : CallFix p m c cc nL s args ja_T "CashMachine$Mix" ∧ jb_X s0 s G ad) {j : Nat} (hj : j < 4) (hd : decode cc pc = .ok (.getfield 29, 3)) (hp : pc + 3 = q) (kk : ja_V p l e R s m args below meth c (jb_W G ad) s0.heap.size nL cells slots Q S q L (.int (S 17 j) :: st)) : ja_V p l e R s m args below meth c (jb_W G ad) s0.heap.size nL cells slots Q S pc L (.ref (ad (46 + j)) :: st) :=
  jb_get O (k := 0) (jb_kK G ad S hj) rfl jx_K (by decide) jw_131 rfl hd hp kk
theorem jp_X_29 (O : CallFix p m c cc nL s args ja_T "CashMachine$Mix" ∧ jb_X s0 s G ad) {j : Nat} (hj : j < 4) {x : Int32} (hd : decode cc pc = .ok (.putfield 29, 3)) (hp : pc + 3 = q) (kk : ja_V p l e R s m args below meth c (jb_W G ad) s0.heap.size nL cells slots Q (jb_u S 17 j x) q L st) : ja_V p l e R s m args below meth c (jb_W G ad) s0.heap.size nL cells slots Q S pc L (.int x :: .ref (ad (46 + j)) :: st) :=
  jb_put O (k := 0) (ty := .int) (jb_kK G ad S hj) rfl jx_K jq_K jk_K jn_K (by decide) jw_131 rfl (by decide +kernel) rfl rfl (Nat.le_of_ble_eq_true rfl) (jb_s17 G ad S hj x) hd hp kk
theorem jg_K_13 (O : CallFix p m c cc nL s args ja_T "CashMachine$Cassette" ∧ jb_X s0 s G ad) {j : Nat} (hj : j < 4) (hd : decode cc pc = .ok (.getfield 13, 3)) (hp : pc + 3 = q) (kk : ja_V p l e R s m args below meth c (jb_W G ad) s0.heap.size nL cells slots Q S q L (.int (S 18 j) :: st)) : ja_V p l e R s m args below meth c (jb_W G ad) s0.heap.size nL cells slots Q S pc L (.ref (ad (46 + j)) :: st) :=
  jb_get O (k := 1) (jb_kK G ad S hj) rfl jx_K (by decide) jw_132 rfl hd hp kk
theorem jp_K_13 (O : CallFix p m c cc nL s args ja_T "CashMachine$Cassette" ∧ jb_X s0 s G ad) {j : Nat} (hj : j < 4) {x : Int32} (hd : decode cc pc = .ok (.putfield 13, 3)) (hp : pc + 3 = q) (kk : ja_V p l e R s m args below meth c (jb_W G ad) s0.heap.size nL cells slots Q (jb_u S 18 j x) q L st) : ja_V p l e R s m args below meth c (jb_W G ad) s0.heap.size nL cells slots Q S pc L (.int x :: .ref (ad (46 + j)) :: st) :=
  jb_put O (k := 1) (ty := .int) (jb_kK G ad S hj) rfl jx_K jq_K jk_K jn_K (by decide) jw_132 rfl (by decide +kernel) rfl rfl (Nat.le_of_ble_eq_true rfl) (jb_s18 G ad S hj x) hd hp kk
theorem jg_D_41 (O : CallFix p m c cc nL s args ja_T "CashMachine$Dispenser" ∧ jb_X s0 s G ad) {j : Nat} (hj : j < 4) (hd : decode cc pc = .ok (.getfield 41, 3)) (hp : pc + 3 = q) (kk : ja_V p l e R s m args below meth c (jb_W G ad) s0.heap.size nL cells slots Q S q L (.int (S 18 j) :: st)) : ja_V p l e R s m args below meth c (jb_W G ad) s0.heap.size nL cells slots Q S pc L (.ref (ad (46 + j)) :: st) :=
  jb_get O (k := 1) (jb_kK G ad S hj) rfl jx_K (by decide) jw_133 rfl hd hp kk
theorem jp_D_41 (O : CallFix p m c cc nL s args ja_T "CashMachine$Dispenser" ∧ jb_X s0 s G ad) {j : Nat} (hj : j < 4) {x : Int32} (hd : decode cc pc = .ok (.putfield 41, 3)) (hp : pc + 3 = q) (kk : ja_V p l e R s m args below meth c (jb_W G ad) s0.heap.size nL cells slots Q (jb_u S 18 j x) q L st) : ja_V p l e R s m args below meth c (jb_W G ad) s0.heap.size nL cells slots Q S pc L (.int x :: .ref (ad (46 + j)) :: st) :=
  jb_put O (k := 1) (ty := .int) (jb_kK G ad S hj) rfl jx_K jq_K jk_K jn_K (by decide) jw_133 rfl (by decide +kernel) rfl rfl (Nat.le_of_ble_eq_true rfl) (jb_s18 G ad S hj x) hd hp kk
theorem jg_X_23 (O : CallFix p m c cc nL s args ja_T "CashMachine$Mix" ∧ jb_X s0 s G ad) {j : Nat} (hj : j < 4) (hd : decode cc pc = .ok (.getfield 23, 3)) (hp : pc + 3 = q) (kk : ja_V p l e R s m args below meth c (jb_W G ad) s0.heap.size nL cells slots Q S q L (.int (S 18 j) :: st)) : ja_V p l e R s m args below meth c (jb_W G ad) s0.heap.size nL cells slots Q S pc L (.ref (ad (46 + j)) :: st) :=
  jb_get O (k := 1) (jb_kK G ad S hj) rfl jx_K (by decide) jw_134 rfl hd hp kk
theorem jp_X_23 (O : CallFix p m c cc nL s args ja_T "CashMachine$Mix" ∧ jb_X s0 s G ad) {j : Nat} (hj : j < 4) {x : Int32} (hd : decode cc pc = .ok (.putfield 23, 3)) (hp : pc + 3 = q) (kk : ja_V p l e R s m args below meth c (jb_W G ad) s0.heap.size nL cells slots Q (jb_u S 18 j x) q L st) : ja_V p l e R s m args below meth c (jb_W G ad) s0.heap.size nL cells slots Q S pc L (.int x :: .ref (ad (46 + j)) :: st) :=
  jb_put O (k := 1) (ty := .int) (jb_kK G ad S hj) rfl jx_K jq_K jk_K jn_K (by decide) jw_134 rfl (by decide +kernel) rfl rfl (Nat.le_of_ble_eq_true rfl) (jb_s18 G ad S hj x) hd hp kk
theorem jg_C_187 (O : CallFix p m c cc nL s args ja_T "CashMachine" ∧ jb_X s0 s G ad) {j : Nat} (hj : j < 4) (hd : decode cc pc = .ok (.getfield 187, 3)) (hp : pc + 3 = q) (kk : ja_V p l e R s m args below meth c (jb_W G ad) s0.heap.size nL cells slots Q S q L (.int (S 18 j) :: st)) : ja_V p l e R s m args below meth c (jb_W G ad) s0.heap.size nL cells slots Q S pc L (.ref (ad (46 + j)) :: st) :=
  jb_get O (k := 1) (jb_kK G ad S hj) rfl jx_K (by decide) jw_135 rfl hd hp kk
theorem jp_C_187 (O : CallFix p m c cc nL s args ja_T "CashMachine" ∧ jb_X s0 s G ad) {j : Nat} (hj : j < 4) {x : Int32} (hd : decode cc pc = .ok (.putfield 187, 3)) (hp : pc + 3 = q) (kk : ja_V p l e R s m args below meth c (jb_W G ad) s0.heap.size nL cells slots Q (jb_u S 18 j x) q L st) : ja_V p l e R s m args below meth c (jb_W G ad) s0.heap.size nL cells slots Q S pc L (.int x :: .ref (ad (46 + j)) :: st) :=
  jb_put O (k := 1) (ty := .int) (jb_kK G ad S hj) rfl jx_K jq_K jk_K jn_K (by decide) jw_135 rfl (by decide +kernel) rfl rfl (Nat.le_of_ble_eq_true rfl) (jb_s18 G ad S hj x) hd hp kk
theorem jg_D_11 (O : CallFix p m c cc nL s args ja_T "CashMachine$Dispenser" ∧ jb_X s0 s G ad) (hd : decode cc pc = .ok (.getfield 11, 3)) (hp : pc + 3 = q) (kk : ja_V p l e R s m args below meth c (jb_W G ad) s0.heap.size nL cells slots Q S q L (.ref (ad 13) :: st)) : ja_V p l e R s m args below meth c (jb_W G ad) s0.heap.size nL cells slots Q S pc L (.ref (ad (3)) :: st) :=
  jb_get O (k := 0) rfl rfl jx_D (by decide) jw_141 rfl hd hp kk
theorem jg_C_183 (O : CallFix p m c cc nL s args ja_T "CashMachine" ∧ jb_X s0 s G ad) (hd : decode cc pc = .ok (.getfield 183, 3)) (hp : pc + 3 = q) (kk : ja_V p l e R s m args below meth c (jb_W G ad) s0.heap.size nL cells slots Q S q L (.ref (ad 13) :: st)) : ja_V p l e R s m args below meth c (jb_W G ad) s0.heap.size nL cells slots Q S pc L (.ref (ad (3)) :: st) :=
  jb_get O (k := 0) rfl rfl jx_D (by decide) jw_142 rfl hd hp kk
theorem jg_D_20 (O : CallFix p m c cc nL s args ja_T "CashMachine$Dispenser" ∧ jb_X s0 s G ad) (hd : decode cc pc = .ok (.getfield 20, 3)) (hp : pc + 3 = q) (kk : ja_V p l e R s m args below meth c (jb_W G ad) s0.heap.size nL cells slots Q S q L (.ref (ad 6) :: st)) : ja_V p l e R s m args below meth c (jb_W G ad) s0.heap.size nL cells slots Q S pc L (.ref (ad (3)) :: st) :=
  jb_get O (k := 1) rfl rfl jx_D (by decide) jw_143 rfl hd hp kk
theorem jg_C_126 (O : CallFix p m c cc nL s args ja_T "CashMachine" ∧ jb_X s0 s G ad) (hd : decode cc pc = .ok (.getfield 126, 3)) (hp : pc + 3 = q) (kk : ja_V p l e R s m args below meth c (jb_W G ad) s0.heap.size nL cells slots Q S q L (.ref (ad 6) :: st)) : ja_V p l e R s m args below meth c (jb_W G ad) s0.heap.size nL cells slots Q S pc L (.ref (ad (3)) :: st) :=
  jb_get O (k := 1) rfl rfl jx_D (by decide) jw_144 rfl hd hp kk
theorem jg_D_24 (O : CallFix p m c cc nL s args ja_T "CashMachine$Dispenser" ∧ jb_X s0 s G ad) (hd : decode cc pc = .ok (.getfield 24, 3)) (hp : pc + 3 = q) (kk : ja_V p l e R s m args below meth c (jb_W G ad) s0.heap.size nL cells slots Q S q L (.int (S 5 0) :: st)) : ja_V p l e R s m args below meth c (jb_W G ad) s0.heap.size nL cells slots Q S pc L (.ref (ad (3)) :: st) :=
  jb_get O (k := 2) rfl rfl jx_D (by decide) jw_145 rfl hd hp kk
theorem jp_D_24 (O : CallFix p m c cc nL s args ja_T "CashMachine$Dispenser" ∧ jb_X s0 s G ad) {x : Int32} (hd : decode cc pc = .ok (.putfield 24, 3)) (hp : pc + 3 = q) (kk : ja_V p l e R s m args below meth c (jb_W G ad) s0.heap.size nL cells slots Q (jb_u S 5 0 x) q L st) : ja_V p l e R s m args below meth c (jb_W G ad) s0.heap.size nL cells slots Q S pc L (.int x :: .ref (ad (3)) :: st) :=
  jb_put O (k := 2) (ty := .int) rfl rfl jx_D jq_D jk_D jn_D (by decide) jw_145 rfl (by decide +kernel) rfl rfl (Nat.le_of_ble_eq_true rfl) (jb_s5 G ad S x) hd hp kk
theorem jg_C_141 (O : CallFix p m c cc nL s args ja_T "CashMachine" ∧ jb_X s0 s G ad) (hd : decode cc pc = .ok (.getfield 141, 3)) (hp : pc + 3 = q) (kk : ja_V p l e R s m args below meth c (jb_W G ad) s0.heap.size nL cells slots Q S q L (.int (S 5 0) :: st)) : ja_V p l e R s m args below meth c (jb_W G ad) s0.heap.size nL cells slots Q S pc L (.ref (ad (3)) :: st) :=
  jb_get O (k := 2) rfl rfl jx_D (by decide) jw_146 rfl hd hp kk
theorem jp_C_141 (O : CallFix p m c cc nL s args ja_T "CashMachine" ∧ jb_X s0 s G ad) {x : Int32} (hd : decode cc pc = .ok (.putfield 141, 3)) (hp : pc + 3 = q) (kk : ja_V p l e R s m args below meth c (jb_W G ad) s0.heap.size nL cells slots Q (jb_u S 5 0 x) q L st) : ja_V p l e R s m args below meth c (jb_W G ad) s0.heap.size nL cells slots Q S pc L (.int x :: .ref (ad (3)) :: st) :=
  jb_put O (k := 2) (ty := .int) rfl rfl jx_D jq_D jk_D jn_D (by decide) jw_146 rfl (by decide +kernel) rfl rfl (Nat.le_of_ble_eq_true rfl) (jb_s5 G ad S x) hd hp kk
theorem jg_D_28 (O : CallFix p m c cc nL s args ja_T "CashMachine$Dispenser" ∧ jb_X s0 s G ad) (hd : decode cc pc = .ok (.getfield 28, 3)) (hp : pc + 3 = q) (kk : ja_V p l e R s m args below meth c (jb_W G ad) s0.heap.size nL cells slots Q S q L (.int (S 6 0) :: st)) : ja_V p l e R s m args below meth c (jb_W G ad) s0.heap.size nL cells slots Q S pc L (.ref (ad (3)) :: st) :=
  jb_get O (k := 3) rfl rfl jx_D (by decide) jw_147 rfl hd hp kk
theorem jp_D_28 (O : CallFix p m c cc nL s args ja_T "CashMachine$Dispenser" ∧ jb_X s0 s G ad) {x : Int32} (hd : decode cc pc = .ok (.putfield 28, 3)) (hp : pc + 3 = q) (kk : ja_V p l e R s m args below meth c (jb_W G ad) s0.heap.size nL cells slots Q (jb_u S 6 0 x) q L st) : ja_V p l e R s m args below meth c (jb_W G ad) s0.heap.size nL cells slots Q S pc L (.int x :: .ref (ad (3)) :: st) :=
  jb_put O (k := 3) (ty := .int) rfl rfl jx_D jq_D jk_D jn_D (by decide) jw_147 rfl (by decide +kernel) rfl rfl (Nat.le_of_ble_eq_true rfl) (jb_s6 G ad S x) hd hp kk
theorem jg_C_195 (O : CallFix p m c cc nL s args ja_T "CashMachine" ∧ jb_X s0 s G ad) (hd : decode cc pc = .ok (.getfield 195, 3)) (hp : pc + 3 = q) (kk : ja_V p l e R s m args below meth c (jb_W G ad) s0.heap.size nL cells slots Q S q L (.int (S 6 0) :: st)) : ja_V p l e R s m args below meth c (jb_W G ad) s0.heap.size nL cells slots Q S pc L (.ref (ad (3)) :: st) :=
  jb_get O (k := 3) rfl rfl jx_D (by decide) jw_148 rfl hd hp kk
theorem jp_C_195 (O : CallFix p m c cc nL s args ja_T "CashMachine" ∧ jb_X s0 s G ad) {x : Int32} (hd : decode cc pc = .ok (.putfield 195, 3)) (hp : pc + 3 = q) (kk : ja_V p l e R s m args below meth c (jb_W G ad) s0.heap.size nL cells slots Q (jb_u S 6 0 x) q L st) : ja_V p l e R s m args below meth c (jb_W G ad) s0.heap.size nL cells slots Q S pc L (.int x :: .ref (ad (3)) :: st) :=
  jb_put O (k := 3) (ty := .int) rfl rfl jx_D jq_D jk_D jn_D (by decide) jw_148 rfl (by decide +kernel) rfl rfl (Nat.le_of_ble_eq_true rfl) (jb_s6 G ad S x) hd hp kk
theorem jg_D_31 (O : CallFix p m c cc nL s args ja_T "CashMachine$Dispenser" ∧ jb_X s0 s G ad) (hd : decode cc pc = .ok (.getfield 31, 3)) (hp : pc + 3 = q) (kk : ja_V p l e R s m args below meth c (jb_W G ad) s0.heap.size nL cells slots Q S q L (.int (S 7 0) :: st)) : ja_V p l e R s m args below meth c (jb_W G ad) s0.heap.size nL cells slots Q S pc L (.ref (ad (3)) :: st) :=
  jb_get O (k := 4) rfl rfl jx_D (by decide) jw_149 rfl hd hp kk
theorem jp_D_31 (O : CallFix p m c cc nL s args ja_T "CashMachine$Dispenser" ∧ jb_X s0 s G ad) {x : Int32} (hd : decode cc pc = .ok (.putfield 31, 3)) (hp : pc + 3 = q) (kk : ja_V p l e R s m args below meth c (jb_W G ad) s0.heap.size nL cells slots Q (jb_u S 7 0 x) q L st) : ja_V p l e R s m args below meth c (jb_W G ad) s0.heap.size nL cells slots Q S pc L (.int x :: .ref (ad (3)) :: st) :=
  jb_put O (k := 4) (ty := .int) rfl rfl jx_D jq_D jk_D jn_D (by decide) jw_149 rfl (by decide +kernel) rfl rfl (Nat.le_of_ble_eq_true rfl) (jb_s7 G ad S x) hd hp kk
theorem jg_D_34 (O : CallFix p m c cc nL s args ja_T "CashMachine$Dispenser" ∧ jb_X s0 s G ad) (hd : decode cc pc = .ok (.getfield 34, 3)) (hp : pc + 3 = q) (kk : ja_V p l e R s m args below meth c (jb_W G ad) s0.heap.size nL cells slots Q S q L (.int (S 8 0) :: st)) : ja_V p l e R s m args below meth c (jb_W G ad) s0.heap.size nL cells slots Q S pc L (.ref (ad (3)) :: st) :=
  jb_get O (k := 5) rfl rfl jx_D (by decide) jw_150 rfl hd hp kk
theorem jp_D_34 (O : CallFix p m c cc nL s args ja_T "CashMachine$Dispenser" ∧ jb_X s0 s G ad) {x : Int32} (hd : decode cc pc = .ok (.putfield 34, 3)) (hp : pc + 3 = q) (kk : ja_V p l e R s m args below meth c (jb_W G ad) s0.heap.size nL cells slots Q (jb_u S 8 0 x) q L st) : ja_V p l e R s m args below meth c (jb_W G ad) s0.heap.size nL cells slots Q S pc L (.int x :: .ref (ad (3)) :: st) :=
  jb_put O (k := 5) (ty := .int) rfl rfl jx_D jq_D jk_D jn_D (by decide) jw_150 rfl (by decide +kernel) rfl rfl (Nat.le_of_ble_eq_true rfl) (jb_s8 G ad S x) hd hp kk
theorem jg_E_22 (O : CallFix p m c cc nL s args ja_T "CashMachine$Entry" ∧ jb_X s0 s G ad) {j : Nat} (hj : j < 40) (hd : decode cc pc = .ok (.getfield 22, 3)) (hp : pc + 3 = q) (kk : ja_V p l e R s m args below meth c (jb_W G ad) s0.heap.size nL cells slots Q S q L (.int (S 19 j) :: st)) : ja_V p l e R s m args below meth c (jb_W G ad) s0.heap.size nL cells slots Q S pc L (.ref (ad (50 + j)) :: st) :=
  jb_get O (k := 0) (jb_kE G ad S hj) rfl jx_E (by decide) jw_177 rfl hd hp kk
theorem jg_C_213 (O : CallFix p m c cc nL s args ja_T "CashMachine" ∧ jb_X s0 s G ad) {j : Nat} (hj : j < 40) (hd : decode cc pc = .ok (.getfield 213, 3)) (hp : pc + 3 = q) (kk : ja_V p l e R s m args below meth c (jb_W G ad) s0.heap.size nL cells slots Q S q L (.int (S 19 j) :: st)) : ja_V p l e R s m args below meth c (jb_W G ad) s0.heap.size nL cells slots Q S pc L (.ref (ad (50 + j)) :: st) :=
  jb_get O (k := 0) (jb_kE G ad S hj) rfl jx_E (by decide) jw_178 rfl hd hp kk
theorem jg_E_7 (O : CallFix p m c cc nL s args ja_T "CashMachine$Entry" ∧ jb_X s0 s G ad) {j : Nat} (hj : j < 40) (hd : decode cc pc = .ok (.getfield 7, 3)) (hp : pc + 3 = q) (kk : ja_V p l e R s m args below meth c (jb_W G ad) s0.heap.size nL cells slots Q S q L (.int (S 20 j) :: st)) : ja_V p l e R s m args below meth c (jb_W G ad) s0.heap.size nL cells slots Q S pc L (.ref (ad (50 + j)) :: st) :=
  jb_get O (k := 1) (jb_kE G ad S hj) rfl jx_E (by decide) jw_179 rfl hd hp kk
theorem jp_E_7 (O : CallFix p m c cc nL s args ja_T "CashMachine$Entry" ∧ jb_X s0 s G ad) {j : Nat} (hj : j < 40) {x : Int32} (hd : decode cc pc = .ok (.putfield 7, 3)) (hp : pc + 3 = q) (kk : ja_V p l e R s m args below meth c (jb_W G ad) s0.heap.size nL cells slots Q (jb_u S 20 j x) q L st) : ja_V p l e R s m args below meth c (jb_W G ad) s0.heap.size nL cells slots Q S pc L (.int x :: .ref (ad (50 + j)) :: st) :=
  jb_put O (k := 1) (ty := .int) (jb_kE G ad S hj) rfl jx_E jq_E jk_E jn_E (by decide) jw_179 rfl (by decide +kernel) rfl rfl (Nat.le_of_ble_eq_true rfl) (jb_s20 G ad S hj x) hd hp kk
theorem jg_J_24 (O : CallFix p m c cc nL s args ja_T "CashMachine$Journal" ∧ jb_X s0 s G ad) {j : Nat} (hj : j < 40) (hd : decode cc pc = .ok (.getfield 24, 3)) (hp : pc + 3 = q) (kk : ja_V p l e R s m args below meth c (jb_W G ad) s0.heap.size nL cells slots Q S q L (.int (S 20 j) :: st)) : ja_V p l e R s m args below meth c (jb_W G ad) s0.heap.size nL cells slots Q S pc L (.ref (ad (50 + j)) :: st) :=
  jb_get O (k := 1) (jb_kE G ad S hj) rfl jx_E (by decide) jw_180 rfl hd hp kk
theorem jp_J_24 (O : CallFix p m c cc nL s args ja_T "CashMachine$Journal" ∧ jb_X s0 s G ad) {j : Nat} (hj : j < 40) {x : Int32} (hd : decode cc pc = .ok (.putfield 24, 3)) (hp : pc + 3 = q) (kk : ja_V p l e R s m args below meth c (jb_W G ad) s0.heap.size nL cells slots Q (jb_u S 20 j x) q L st) : ja_V p l e R s m args below meth c (jb_W G ad) s0.heap.size nL cells slots Q S pc L (.int x :: .ref (ad (50 + j)) :: st) :=
  jb_put O (k := 1) (ty := .int) (jb_kE G ad S hj) rfl jx_E jq_E jk_E jn_E (by decide) jw_180 rfl (by decide +kernel) rfl rfl (Nat.le_of_ble_eq_true rfl) (jb_s20 G ad S hj x) hd hp kk
theorem jg_C_171 (O : CallFix p m c cc nL s args ja_T "CashMachine" ∧ jb_X s0 s G ad) {j : Nat} (hj : j < 40) (hd : decode cc pc = .ok (.getfield 171, 3)) (hp : pc + 3 = q) (kk : ja_V p l e R s m args below meth c (jb_W G ad) s0.heap.size nL cells slots Q S q L (.int (S 20 j) :: st)) : ja_V p l e R s m args below meth c (jb_W G ad) s0.heap.size nL cells slots Q S pc L (.ref (ad (50 + j)) :: st) :=
  jb_get O (k := 1) (jb_kE G ad S hj) rfl jx_E (by decide) jw_181 rfl hd hp kk
theorem jp_C_171 (O : CallFix p m c cc nL s args ja_T "CashMachine" ∧ jb_X s0 s G ad) {j : Nat} (hj : j < 40) {x : Int32} (hd : decode cc pc = .ok (.putfield 171, 3)) (hp : pc + 3 = q) (kk : ja_V p l e R s m args below meth c (jb_W G ad) s0.heap.size nL cells slots Q (jb_u S 20 j x) q L st) : ja_V p l e R s m args below meth c (jb_W G ad) s0.heap.size nL cells slots Q S pc L (.int x :: .ref (ad (50 + j)) :: st) :=
  jb_put O (k := 1) (ty := .int) (jb_kE G ad S hj) rfl jx_E jq_E jk_E jn_E (by decide) jw_181 rfl (by decide +kernel) rfl rfl (Nat.le_of_ble_eq_true rfl) (jb_s20 G ad S hj x) hd hp kk
theorem jg_E_13 (O : CallFix p m c cc nL s args ja_T "CashMachine$Entry" ∧ jb_X s0 s G ad) {j : Nat} (hj : j < 40) (hd : decode cc pc = .ok (.getfield 13, 3)) (hp : pc + 3 = q) (kk : ja_V p l e R s m args below meth c (jb_W G ad) s0.heap.size nL cells slots Q S q L (.int (S 21 j) :: st)) : ja_V p l e R s m args below meth c (jb_W G ad) s0.heap.size nL cells slots Q S pc L (.ref (ad (50 + j)) :: st) :=
  jb_get O (k := 2) (jb_kE G ad S hj) rfl jx_E (by decide) jw_182 rfl hd hp kk
theorem jp_E_13 (O : CallFix p m c cc nL s args ja_T "CashMachine$Entry" ∧ jb_X s0 s G ad) {j : Nat} (hj : j < 40) {x : Int32} (hd : decode cc pc = .ok (.putfield 13, 3)) (hp : pc + 3 = q) (kk : ja_V p l e R s m args below meth c (jb_W G ad) s0.heap.size nL cells slots Q (jb_u S 21 j x) q L st) : ja_V p l e R s m args below meth c (jb_W G ad) s0.heap.size nL cells slots Q S pc L (.int x :: .ref (ad (50 + j)) :: st) :=
  jb_put O (k := 2) (ty := .int) (jb_kE G ad S hj) rfl jx_E jq_E jk_E jn_E (by decide) jw_182 rfl (by decide +kernel) rfl rfl (Nat.le_of_ble_eq_true rfl) (jb_s21 G ad S hj x) hd hp kk
theorem jg_J_27 (O : CallFix p m c cc nL s args ja_T "CashMachine$Journal" ∧ jb_X s0 s G ad) {j : Nat} (hj : j < 40) (hd : decode cc pc = .ok (.getfield 27, 3)) (hp : pc + 3 = q) (kk : ja_V p l e R s m args below meth c (jb_W G ad) s0.heap.size nL cells slots Q S q L (.int (S 21 j) :: st)) : ja_V p l e R s m args below meth c (jb_W G ad) s0.heap.size nL cells slots Q S pc L (.ref (ad (50 + j)) :: st) :=
  jb_get O (k := 2) (jb_kE G ad S hj) rfl jx_E (by decide) jw_183 rfl hd hp kk
theorem jp_J_27 (O : CallFix p m c cc nL s args ja_T "CashMachine$Journal" ∧ jb_X s0 s G ad) {j : Nat} (hj : j < 40) {x : Int32} (hd : decode cc pc = .ok (.putfield 27, 3)) (hp : pc + 3 = q) (kk : ja_V p l e R s m args below meth c (jb_W G ad) s0.heap.size nL cells slots Q (jb_u S 21 j x) q L st) : ja_V p l e R s m args below meth c (jb_W G ad) s0.heap.size nL cells slots Q S pc L (.int x :: .ref (ad (50 + j)) :: st) :=
  jb_put O (k := 2) (ty := .int) (jb_kE G ad S hj) rfl jx_E jq_E jk_E jn_E (by decide) jw_183 rfl (by decide +kernel) rfl rfl (Nat.le_of_ble_eq_true rfl) (jb_s21 G ad S hj x) hd hp kk
theorem jg_C_174 (O : CallFix p m c cc nL s args ja_T "CashMachine" ∧ jb_X s0 s G ad) {j : Nat} (hj : j < 40) (hd : decode cc pc = .ok (.getfield 174, 3)) (hp : pc + 3 = q) (kk : ja_V p l e R s m args below meth c (jb_W G ad) s0.heap.size nL cells slots Q S q L (.int (S 21 j) :: st)) : ja_V p l e R s m args below meth c (jb_W G ad) s0.heap.size nL cells slots Q S pc L (.ref (ad (50 + j)) :: st) :=
  jb_get O (k := 2) (jb_kE G ad S hj) rfl jx_E (by decide) jw_184 rfl hd hp kk
theorem jp_C_174 (O : CallFix p m c cc nL s args ja_T "CashMachine" ∧ jb_X s0 s G ad) {j : Nat} (hj : j < 40) {x : Int32} (hd : decode cc pc = .ok (.putfield 174, 3)) (hp : pc + 3 = q) (kk : ja_V p l e R s m args below meth c (jb_W G ad) s0.heap.size nL cells slots Q (jb_u S 21 j x) q L st) : ja_V p l e R s m args below meth c (jb_W G ad) s0.heap.size nL cells slots Q S pc L (.int x :: .ref (ad (50 + j)) :: st) :=
  jb_put O (k := 2) (ty := .int) (jb_kE G ad S hj) rfl jx_E jq_E jk_E jn_E (by decide) jw_184 rfl (by decide +kernel) rfl rfl (Nat.le_of_ble_eq_true rfl) (jb_s21 G ad S hj x) hd hp kk
theorem jg_E_16 (O : CallFix p m c cc nL s args ja_T "CashMachine$Entry" ∧ jb_X s0 s G ad) {j : Nat} (hj : j < 40) (hd : decode cc pc = .ok (.getfield 16, 3)) (hp : pc + 3 = q) (kk : ja_V p l e R s m args below meth c (jb_W G ad) s0.heap.size nL cells slots Q S q L (.int (S 22 j) :: st)) : ja_V p l e R s m args below meth c (jb_W G ad) s0.heap.size nL cells slots Q S pc L (.ref (ad (50 + j)) :: st) :=
  jb_get O (k := 3) (jb_kE G ad S hj) rfl jx_E (by decide) jw_185 rfl hd hp kk
theorem jp_E_16 (O : CallFix p m c cc nL s args ja_T "CashMachine$Entry" ∧ jb_X s0 s G ad) {j : Nat} (hj : j < 40) {x : Int32} (hd : decode cc pc = .ok (.putfield 16, 3)) (hp : pc + 3 = q) (kk : ja_V p l e R s m args below meth c (jb_W G ad) s0.heap.size nL cells slots Q (jb_u S 22 j x) q L st) : ja_V p l e R s m args below meth c (jb_W G ad) s0.heap.size nL cells slots Q S pc L (.int x :: .ref (ad (50 + j)) :: st) :=
  jb_put O (k := 3) (ty := .int) (jb_kE G ad S hj) rfl jx_E jq_E jk_E jn_E (by decide) jw_185 rfl (by decide +kernel) rfl rfl (Nat.le_of_ble_eq_true rfl) (jb_s22 G ad S hj x) hd hp kk
theorem jg_J_30 (O : CallFix p m c cc nL s args ja_T "CashMachine$Journal" ∧ jb_X s0 s G ad) {j : Nat} (hj : j < 40) (hd : decode cc pc = .ok (.getfield 30, 3)) (hp : pc + 3 = q) (kk : ja_V p l e R s m args below meth c (jb_W G ad) s0.heap.size nL cells slots Q S q L (.int (S 22 j) :: st)) : ja_V p l e R s m args below meth c (jb_W G ad) s0.heap.size nL cells slots Q S pc L (.ref (ad (50 + j)) :: st) :=
  jb_get O (k := 3) (jb_kE G ad S hj) rfl jx_E (by decide) jw_186 rfl hd hp kk
theorem jp_J_30 (O : CallFix p m c cc nL s args ja_T "CashMachine$Journal" ∧ jb_X s0 s G ad) {j : Nat} (hj : j < 40) {x : Int32} (hd : decode cc pc = .ok (.putfield 30, 3)) (hp : pc + 3 = q) (kk : ja_V p l e R s m args below meth c (jb_W G ad) s0.heap.size nL cells slots Q (jb_u S 22 j x) q L st) : ja_V p l e R s m args below meth c (jb_W G ad) s0.heap.size nL cells slots Q S pc L (.int x :: .ref (ad (50 + j)) :: st) :=
  jb_put O (k := 3) (ty := .int) (jb_kE G ad S hj) rfl jx_E jq_E jk_E jn_E (by decide) jw_186 rfl (by decide +kernel) rfl rfl (Nat.le_of_ble_eq_true rfl) (jb_s22 G ad S hj x) hd hp kk
theorem jg_C_166 (O : CallFix p m c cc nL s args ja_T "CashMachine" ∧ jb_X s0 s G ad) {j : Nat} (hj : j < 40) (hd : decode cc pc = .ok (.getfield 166, 3)) (hp : pc + 3 = q) (kk : ja_V p l e R s m args below meth c (jb_W G ad) s0.heap.size nL cells slots Q S q L (.int (S 22 j) :: st)) : ja_V p l e R s m args below meth c (jb_W G ad) s0.heap.size nL cells slots Q S pc L (.ref (ad (50 + j)) :: st) :=
  jb_get O (k := 3) (jb_kE G ad S hj) rfl jx_E (by decide) jw_187 rfl hd hp kk
theorem jp_C_166 (O : CallFix p m c cc nL s args ja_T "CashMachine" ∧ jb_X s0 s G ad) {j : Nat} (hj : j < 40) {x : Int32} (hd : decode cc pc = .ok (.putfield 166, 3)) (hp : pc + 3 = q) (kk : ja_V p l e R s m args below meth c (jb_W G ad) s0.heap.size nL cells slots Q (jb_u S 22 j x) q L st) : ja_V p l e R s m args below meth c (jb_W G ad) s0.heap.size nL cells slots Q S pc L (.int x :: .ref (ad (50 + j)) :: st) :=
  jb_put O (k := 3) (ty := .int) (jb_kE G ad S hj) rfl jx_E jq_E jk_E jn_E (by decide) jw_187 rfl (by decide +kernel) rfl rfl (Nat.le_of_ble_eq_true rfl) (jb_s22 G ad S hj x) hd hp kk
theorem jg_E_19 (O : CallFix p m c cc nL s args ja_T "CashMachine$Entry" ∧ jb_X s0 s G ad) {j : Nat} (hj : j < 40) (hd : decode cc pc = .ok (.getfield 19, 3)) (hp : pc + 3 = q) (kk : ja_V p l e R s m args below meth c (jb_W G ad) s0.heap.size nL cells slots Q S q L (.int (S 23 j) :: st)) : ja_V p l e R s m args below meth c (jb_W G ad) s0.heap.size nL cells slots Q S pc L (.ref (ad (50 + j)) :: st) :=
  jb_get O (k := 4) (jb_kE G ad S hj) rfl jx_E (by decide) jw_188 rfl hd hp kk
theorem jp_E_19 (O : CallFix p m c cc nL s args ja_T "CashMachine$Entry" ∧ jb_X s0 s G ad) {j : Nat} (hj : j < 40) {x : Int32} (hd : decode cc pc = .ok (.putfield 19, 3)) (hp : pc + 3 = q) (kk : ja_V p l e R s m args below meth c (jb_W G ad) s0.heap.size nL cells slots Q (jb_u S 23 j x) q L st) : ja_V p l e R s m args below meth c (jb_W G ad) s0.heap.size nL cells slots Q S pc L (.int x :: .ref (ad (50 + j)) :: st) :=
  jb_put O (k := 4) (ty := .int) (jb_kE G ad S hj) rfl jx_E jq_E jk_E jn_E (by decide) jw_188 rfl (by decide +kernel) rfl rfl (Nat.le_of_ble_eq_true rfl) (jb_s23 G ad S hj x) hd hp kk
theorem jg_C_177 (O : CallFix p m c cc nL s args ja_T "CashMachine" ∧ jb_X s0 s G ad) {j : Nat} (hj : j < 40) (hd : decode cc pc = .ok (.getfield 177, 3)) (hp : pc + 3 = q) (kk : ja_V p l e R s m args below meth c (jb_W G ad) s0.heap.size nL cells slots Q S q L (.int (S 23 j) :: st)) : ja_V p l e R s m args below meth c (jb_W G ad) s0.heap.size nL cells slots Q S pc L (.ref (ad (50 + j)) :: st) :=
  jb_get O (k := 4) (jb_kE G ad S hj) rfl jx_E (by decide) jw_189 rfl hd hp kk
theorem jp_C_177 (O : CallFix p m c cc nL s args ja_T "CashMachine" ∧ jb_X s0 s G ad) {j : Nat} (hj : j < 40) {x : Int32} (hd : decode cc pc = .ok (.putfield 177, 3)) (hp : pc + 3 = q) (kk : ja_V p l e R s m args below meth c (jb_W G ad) s0.heap.size nL cells slots Q (jb_u S 23 j x) q L st) : ja_V p l e R s m args below meth c (jb_W G ad) s0.heap.size nL cells slots Q S pc L (.int x :: .ref (ad (50 + j)) :: st) :=
  jb_put O (k := 4) (ty := .int) (jb_kE G ad S hj) rfl jx_E jq_E jk_E jn_E (by decide) jw_189 rfl (by decide +kernel) rfl rfl (Nat.le_of_ble_eq_true rfl) (jb_s23 G ad S hj x) hd hp kk
theorem jg_J_11 (O : CallFix p m c cc nL s args ja_T "CashMachine$Journal" ∧ jb_X s0 s G ad) (hd : decode cc pc = .ok (.getfield 11, 3)) (hp : pc + 3 = q) (kk : ja_V p l e R s m args below meth c (jb_W G ad) s0.heap.size nL cells slots Q S q L (.ref (ad 16) :: st)) : ja_V p l e R s m args below meth c (jb_W G ad) s0.heap.size nL cells slots Q S pc L (.ref (ad (4)) :: st) :=
  jb_get O (k := 0) rfl rfl jx_J (by decide) jw_201 rfl hd hp kk
theorem jg_C_162 (O : CallFix p m c cc nL s args ja_T "CashMachine" ∧ jb_X s0 s G ad) (hd : decode cc pc = .ok (.getfield 162, 3)) (hp : pc + 3 = q) (kk : ja_V p l e R s m args below meth c (jb_W G ad) s0.heap.size nL cells slots Q S q L (.ref (ad 16) :: st)) : ja_V p l e R s m args below meth c (jb_W G ad) s0.heap.size nL cells slots Q S pc L (.ref (ad (4)) :: st) :=
  jb_get O (k := 0) rfl rfl jx_J (by decide) jw_202 rfl hd hp kk
theorem jg_J_17 (O : CallFix p m c cc nL s args ja_T "CashMachine$Journal" ∧ jb_X s0 s G ad) (hd : decode cc pc = .ok (.getfield 17, 3)) (hp : pc + 3 = q) (kk : ja_V p l e R s m args below meth c (jb_W G ad) s0.heap.size nL cells slots Q S q L (.int (S 9 0) :: st)) : ja_V p l e R s m args below meth c (jb_W G ad) s0.heap.size nL cells slots Q S pc L (.ref (ad (4)) :: st) :=
  jb_get O (k := 1) rfl rfl jx_J (by decide) jw_203 rfl hd hp kk
theorem jp_J_17 (O : CallFix p m c cc nL s args ja_T "CashMachine$Journal" ∧ jb_X s0 s G ad) {x : Int32} (hd : decode cc pc = .ok (.putfield 17, 3)) (hp : pc + 3 = q) (kk : ja_V p l e R s m args below meth c (jb_W G ad) s0.heap.size nL cells slots Q (jb_u S 9 0 x) q L st) : ja_V p l e R s m args below meth c (jb_W G ad) s0.heap.size nL cells slots Q S pc L (.int x :: .ref (ad (4)) :: st) :=
  jb_put O (k := 1) (ty := .int) rfl rfl jx_J jq_J jk_J jn_J (by decide) jw_203 rfl (by decide +kernel) rfl rfl (Nat.le_of_ble_eq_true rfl) (jb_s9 G ad S x) hd hp kk
theorem jg_C_112 (O : CallFix p m c cc nL s args ja_T "CashMachine" ∧ jb_X s0 s G ad) (hd : decode cc pc = .ok (.getfield 112, 3)) (hp : pc + 3 = q) (kk : ja_V p l e R s m args below meth c (jb_W G ad) s0.heap.size nL cells slots Q S q L (.int (S 9 0) :: st)) : ja_V p l e R s m args below meth c (jb_W G ad) s0.heap.size nL cells slots Q S pc L (.ref (ad (4)) :: st) :=
  jb_get O (k := 1) rfl rfl jx_J (by decide) jw_204 rfl hd hp kk
theorem jp_C_112 (O : CallFix p m c cc nL s args ja_T "CashMachine" ∧ jb_X s0 s G ad) {x : Int32} (hd : decode cc pc = .ok (.putfield 112, 3)) (hp : pc + 3 = q) (kk : ja_V p l e R s m args below meth c (jb_W G ad) s0.heap.size nL cells slots Q (jb_u S 9 0 x) q L st) : ja_V p l e R s m args below meth c (jb_W G ad) s0.heap.size nL cells slots Q S pc L (.int x :: .ref (ad (4)) :: st) :=
  jb_put O (k := 1) (ty := .int) rfl rfl jx_J jq_J jk_J jn_J (by decide) jw_204 rfl (by decide +kernel) rfl rfl (Nat.le_of_ble_eq_true rfl) (jb_s9 G ad S x) hd hp kk
theorem jg_R_9 (O : CallFix p m c cc nL s args ja_T "CashMachine$Reversals" ∧ jb_X s0 s G ad) (hd : decode cc pc = .ok (.getfield 9, 3)) (hp : pc + 3 = q) (kk : ja_V p l e R s m args below meth c (jb_W G ad) s0.heap.size nL cells slots Q S q L (.ref (ad 17) :: st)) : ja_V p l e R s m args below meth c (jb_W G ad) s0.heap.size nL cells slots Q S pc L (.ref (ad (5)) :: st) :=
  jb_get O (k := 0) rfl rfl jx_R (by decide) jw_216 rfl hd hp kk
theorem jg_C_236 (O : CallFix p m c cc nL s args ja_T "CashMachine" ∧ jb_X s0 s G ad) (hd : decode cc pc = .ok (.getfield 236, 3)) (hp : pc + 3 = q) (kk : ja_V p l e R s m args below meth c (jb_W G ad) s0.heap.size nL cells slots Q S q L (.ref (ad 17) :: st)) : ja_V p l e R s m args below meth c (jb_W G ad) s0.heap.size nL cells slots Q S pc L (.ref (ad (5)) :: st) :=
  jb_get O (k := 0) rfl rfl jx_R (by decide) jw_217 rfl hd hp kk
theorem jg_R_15 (O : CallFix p m c cc nL s args ja_T "CashMachine$Reversals" ∧ jb_X s0 s G ad) (hd : decode cc pc = .ok (.getfield 15, 3)) (hp : pc + 3 = q) (kk : ja_V p l e R s m args below meth c (jb_W G ad) s0.heap.size nL cells slots Q S q L (.ref (ad 18) :: st)) : ja_V p l e R s m args below meth c (jb_W G ad) s0.heap.size nL cells slots Q S pc L (.ref (ad (5)) :: st) :=
  jb_get O (k := 1) rfl rfl jx_R (by decide) jw_218 rfl hd hp kk
theorem jg_C_180 (O : CallFix p m c cc nL s args ja_T "CashMachine" ∧ jb_X s0 s G ad) (hd : decode cc pc = .ok (.getfield 180, 3)) (hp : pc + 3 = q) (kk : ja_V p l e R s m args below meth c (jb_W G ad) s0.heap.size nL cells slots Q S q L (.ref (ad 18) :: st)) : ja_V p l e R s m args below meth c (jb_W G ad) s0.heap.size nL cells slots Q S pc L (.ref (ad (5)) :: st) :=
  jb_get O (k := 1) rfl rfl jx_R (by decide) jw_219 rfl hd hp kk
theorem jg_R_18 (O : CallFix p m c cc nL s args ja_T "CashMachine$Reversals" ∧ jb_X s0 s G ad) (hd : decode cc pc = .ok (.getfield 18, 3)) (hp : pc + 3 = q) (kk : ja_V p l e R s m args below meth c (jb_W G ad) s0.heap.size nL cells slots Q S q L (.int (S 10 0) :: st)) : ja_V p l e R s m args below meth c (jb_W G ad) s0.heap.size nL cells slots Q S pc L (.ref (ad (5)) :: st) :=
  jb_get O (k := 2) rfl rfl jx_R (by decide) jw_220 rfl hd hp kk
theorem jp_R_18 (O : CallFix p m c cc nL s args ja_T "CashMachine$Reversals" ∧ jb_X s0 s G ad) {x : Int32} (hd : decode cc pc = .ok (.putfield 18, 3)) (hp : pc + 3 = q) (kk : ja_V p l e R s m args below meth c (jb_W G ad) s0.heap.size nL cells slots Q (jb_u S 10 0 x) q L st) : ja_V p l e R s m args below meth c (jb_W G ad) s0.heap.size nL cells slots Q S pc L (.int x :: .ref (ad (5)) :: st) :=
  jb_put O (k := 2) (ty := .int) rfl rfl jx_R jq_R jk_R jn_R (by decide) jw_220 rfl (by decide +kernel) rfl rfl (Nat.le_of_ble_eq_true rfl) (jb_s10 G ad S x) hd hp kk
theorem jg_C_152 (O : CallFix p m c cc nL s args ja_T "CashMachine" ∧ jb_X s0 s G ad) (hd : decode cc pc = .ok (.getfield 152, 3)) (hp : pc + 3 = q) (kk : ja_V p l e R s m args below meth c (jb_W G ad) s0.heap.size nL cells slots Q S q L (.int (S 10 0) :: st)) : ja_V p l e R s m args below meth c (jb_W G ad) s0.heap.size nL cells slots Q S pc L (.ref (ad (5)) :: st) :=
  jb_get O (k := 2) rfl rfl jx_R (by decide) jw_221 rfl hd hp kk
theorem jp_C_152 (O : CallFix p m c cc nL s args ja_T "CashMachine" ∧ jb_X s0 s G ad) {x : Int32} (hd : decode cc pc = .ok (.putfield 152, 3)) (hp : pc + 3 = q) (kk : ja_V p l e R s m args below meth c (jb_W G ad) s0.heap.size nL cells slots Q (jb_u S 10 0 x) q L st) : ja_V p l e R s m args below meth c (jb_W G ad) s0.heap.size nL cells slots Q S pc L (.int x :: .ref (ad (5)) :: st) :=
  jb_put O (k := 2) (ty := .int) rfl rfl jx_R jq_R jk_R jn_R (by decide) jw_221 rfl (by decide +kernel) rfl rfl (Nat.le_of_ble_eq_true rfl) (jb_s10 G ad S x) hd hp kk
theorem jg_C_10 (O : CallFix p m c cc nL s args ja_T "CashMachine" ∧ jb_X s0 s G ad) (hd : decode cc pc = .ok (.getfield 10, 3)) (hp : pc + 3 = q) (kk : ja_V p l e R s m args below meth c (jb_W G ad) s0.heap.size nL cells slots Q S q L (.ref (ad 1) :: st)) : ja_V p l e R s m args below meth c (jb_W G ad) s0.heap.size nL cells slots Q S pc L (.ref (ad (0)) :: st) :=
  jb_get O (k := 0) rfl rfl jx_C (by decide) jw_229 rfl hd hp kk
theorem jg_C_19 (O : CallFix p m c cc nL s args ja_T "CashMachine" ∧ jb_X s0 s G ad) (hd : decode cc pc = .ok (.getfield 19, 3)) (hp : pc + 3 = q) (kk : ja_V p l e R s m args below meth c (jb_W G ad) s0.heap.size nL cells slots Q S q L (.ref (ad 2) :: st)) : ja_V p l e R s m args below meth c (jb_W G ad) s0.heap.size nL cells slots Q S pc L (.ref (ad (0)) :: st) :=
  jb_get O (k := 1) rfl rfl jx_C (by decide) jw_230 rfl hd hp kk
theorem jg_C_26 (O : CallFix p m c cc nL s args ja_T "CashMachine" ∧ jb_X s0 s G ad) (hd : decode cc pc = .ok (.getfield 26, 3)) (hp : pc + 3 = q) (kk : ja_V p l e R s m args below meth c (jb_W G ad) s0.heap.size nL cells slots Q S q L (.ref (ad 3) :: st)) : ja_V p l e R s m args below meth c (jb_W G ad) s0.heap.size nL cells slots Q S pc L (.ref (ad (0)) :: st) :=
  jb_get O (k := 2) rfl rfl jx_C (by decide) jw_231 rfl hd hp kk
theorem jg_C_33 (O : CallFix p m c cc nL s args ja_T "CashMachine" ∧ jb_X s0 s G ad) (hd : decode cc pc = .ok (.getfield 33, 3)) (hp : pc + 3 = q) (kk : ja_V p l e R s m args below meth c (jb_W G ad) s0.heap.size nL cells slots Q S q L (.ref (ad 4) :: st)) : ja_V p l e R s m args below meth c (jb_W G ad) s0.heap.size nL cells slots Q S pc L (.ref (ad (0)) :: st) :=
  jb_get O (k := 3) rfl rfl jx_C (by decide) jw_232 rfl hd hp kk
theorem jg_C_40 (O : CallFix p m c cc nL s args ja_T "CashMachine" ∧ jb_X s0 s G ad) (hd : decode cc pc = .ok (.getfield 40, 3)) (hp : pc + 3 = q) (kk : ja_V p l e R s m args below meth c (jb_W G ad) s0.heap.size nL cells slots Q S q L (.ref (ad 5) :: st)) : ja_V p l e R s m args below meth c (jb_W G ad) s0.heap.size nL cells slots Q S pc L (.ref (ad (0)) :: st) :=
  jb_get O (k := 4) rfl rfl jx_C (by decide) jw_233 rfl hd hp kk
theorem jg_C_44 (O : CallFix p m c cc nL s args ja_T "CashMachine" ∧ jb_X s0 s G ad) (hd : decode cc pc = .ok (.getfield 44, 3)) (hp : pc + 3 = q) (kk : ja_V p l e R s m args below meth c (jb_W G ad) s0.heap.size nL cells slots Q S q L (.int (S 0 0) :: st)) : ja_V p l e R s m args below meth c (jb_W G ad) s0.heap.size nL cells slots Q S pc L (.ref (ad (0)) :: st) :=
  jb_get O (k := 5) rfl rfl jx_C (by decide) jw_234 rfl hd hp kk
theorem jp_C_44 (O : CallFix p m c cc nL s args ja_T "CashMachine" ∧ jb_X s0 s G ad) {x : Int32} (hx : x = 0 ∨ x = 1) (hd : decode cc pc = .ok (.putfield 44, 3)) (hp : pc + 3 = q) (kk : ja_V p l e R s m args below meth c (jb_W G ad) s0.heap.size nL cells slots Q (jb_u S 0 0 x) q L st) : ja_V p l e R s m args below meth c (jb_W G ad) s0.heap.size nL cells slots Q S pc L (.int x :: .ref (ad (0)) :: st) :=
  jb_put O (k := 5) (ty := .boolean) rfl rfl jx_C jq_C jk_C jn_C (by decide) jw_234 rfl (by decide +kernel) (jb_nb hx) (jb_fb hx) (Nat.le_of_ble_eq_true rfl) (jb_s0 G ad S x) hd hp kk
theorem jg_C_48 (O : CallFix p m c cc nL s args ja_T "CashMachine" ∧ jb_X s0 s G ad) (hd : decode cc pc = .ok (.getfield 48, 3)) (hp : pc + 3 = q) (kk : ja_V p l e R s m args below meth c (jb_W G ad) s0.heap.size nL cells slots Q S q L (.int (S 1 0) :: st)) : ja_V p l e R s m args below meth c (jb_W G ad) s0.heap.size nL cells slots Q S pc L (.ref (ad (0)) :: st) :=
  jb_get O (k := 6) rfl rfl jx_C (by decide) jw_235 rfl hd hp kk
theorem jp_C_48 (O : CallFix p m c cc nL s args ja_T "CashMachine" ∧ jb_X s0 s G ad) {x : Int32} (hd : decode cc pc = .ok (.putfield 48, 3)) (hp : pc + 3 = q) (kk : ja_V p l e R s m args below meth c (jb_W G ad) s0.heap.size nL cells slots Q (jb_u S 1 0 x) q L st) : ja_V p l e R s m args below meth c (jb_W G ad) s0.heap.size nL cells slots Q S pc L (.int x :: .ref (ad (0)) :: st) :=
  jb_put O (k := 6) (ty := .int) rfl rfl jx_C jq_C jk_C jn_C (by decide) jw_235 rfl (by decide +kernel) rfl rfl (Nat.le_of_ble_eq_true rfl) (jb_s1 G ad S x) hd hp kk
theorem jg_C_52 (O : CallFix p m c cc nL s args ja_T "CashMachine" ∧ jb_X s0 s G ad) (hd : decode cc pc = .ok (.getfield 52, 3)) (hp : pc + 3 = q) (kk : ja_V p l e R s m args below meth c (jb_W G ad) s0.heap.size nL cells slots Q S q L (.int (S 2 0) :: st)) : ja_V p l e R s m args below meth c (jb_W G ad) s0.heap.size nL cells slots Q S pc L (.ref (ad (0)) :: st) :=
  jb_get O (k := 7) rfl rfl jx_C (by decide) jw_236 rfl hd hp kk
theorem jp_C_52 (O : CallFix p m c cc nL s args ja_T "CashMachine" ∧ jb_X s0 s G ad) {x : Int32} (hx : x = 0 ∨ x = 1) (hd : decode cc pc = .ok (.putfield 52, 3)) (hp : pc + 3 = q) (kk : ja_V p l e R s m args below meth c (jb_W G ad) s0.heap.size nL cells slots Q (jb_u S 2 0 x) q L st) : ja_V p l e R s m args below meth c (jb_W G ad) s0.heap.size nL cells slots Q S pc L (.int x :: .ref (ad (0)) :: st) :=
  jb_put O (k := 7) (ty := .boolean) rfl rfl jx_C jq_C jk_C jn_C (by decide) jw_236 rfl (by decide +kernel) (jb_nb hx) (jb_fb hx) (Nat.le_of_ble_eq_true rfl) (jb_s2 G ad S x) hd hp kk
theorem jg_C_55 (O : CallFix p m c cc nL s args ja_T "CashMachine" ∧ jb_X s0 s G ad) (hd : decode cc pc = .ok (.getfield 55, 3)) (hp : pc + 3 = q) (kk : ja_V p l e R s m args below meth c (jb_W G ad) s0.heap.size nL cells slots Q S q L (.int (S 3 0) :: st)) : ja_V p l e R s m args below meth c (jb_W G ad) s0.heap.size nL cells slots Q S pc L (.ref (ad (0)) :: st) :=
  jb_get O (k := 8) rfl rfl jx_C (by decide) jw_237 rfl hd hp kk
theorem jp_C_55 (O : CallFix p m c cc nL s args ja_T "CashMachine" ∧ jb_X s0 s G ad) {x : Int32} (hd : decode cc pc = .ok (.putfield 55, 3)) (hp : pc + 3 = q) (kk : ja_V p l e R s m args below meth c (jb_W G ad) s0.heap.size nL cells slots Q (jb_u S 3 0 x) q L st) : ja_V p l e R s m args below meth c (jb_W G ad) s0.heap.size nL cells slots Q S pc L (.int x :: .ref (ad (0)) :: st) :=
  jb_put O (k := 8) (ty := .int) rfl rfl jx_C jq_C jk_C jn_C (by decide) jw_237 rfl (by decide +kernel) rfl rfl (Nat.le_of_ble_eq_true rfl) (jb_s3 G ad S x) hd hp kk
theorem jg_M_72 (O : CallFix p m c cc nL s args ja_T "CashMachineModel" ∧ jb_X s0 s G ad) (hd : decode cc pc = .ok (.getfield 72, 3)) (hp : pc + 3 = q) (kk : ja_V p l e R s m args below meth c (jb_W G ad) s0.heap.size nL cells slots Q S q L (.int (S 32 0) :: st)) : ja_V p l e R s m args below meth c (jb_W G ad) s0.heap.size nL cells slots Q S pc L (.ref (ad (7)) :: st) :=
  jb_get O (k := 0) rfl rfl jx_M (by decide) jw_660 rfl hd hp kk
theorem jp_M_72 (O : CallFix p m c cc nL s args ja_T "CashMachineModel" ∧ jb_X s0 s G ad) {x : Int32} (hd : decode cc pc = .ok (.putfield 72, 3)) (hp : pc + 3 = q) (kk : ja_V p l e R s m args below meth c (jb_W G ad) s0.heap.size nL cells slots Q (jb_u S 32 0 x) q L st) : ja_V p l e R s m args below meth c (jb_W G ad) s0.heap.size nL cells slots Q S pc L (.int x :: .ref (ad (7)) :: st) :=
  jb_put O (k := 0) (ty := .int) rfl rfl jx_M jq_M jk_M jn_M (by decide) jw_660 rfl (by decide +kernel) rfl rfl (Nat.le_of_ble_eq_true rfl) (jb_s32 G ad S x) hd hp kk
theorem jg_M_7 (O : CallFix p m c cc nL s args ja_T "CashMachineModel" ∧ jb_X s0 s G ad) (hd : decode cc pc = .ok (.getfield 7, 3)) (hp : pc + 3 = q) (kk : ja_V p l e R s m args below meth c (jb_W G ad) s0.heap.size nL cells slots Q S q L (.ref (ad 19) :: st)) : ja_V p l e R s m args below meth c (jb_W G ad) s0.heap.size nL cells slots Q S pc L (.ref (ad (7)) :: st) :=
  jb_get O (k := 1) rfl rfl jx_M (by decide) jw_661 rfl hd hp kk
theorem jg_M_13 (O : CallFix p m c cc nL s args ja_T "CashMachineModel" ∧ jb_X s0 s G ad) (hd : decode cc pc = .ok (.getfield 13, 3)) (hp : pc + 3 = q) (kk : ja_V p l e R s m args below meth c (jb_W G ad) s0.heap.size nL cells slots Q S q L (.ref (ad 20) :: st)) : ja_V p l e R s m args below meth c (jb_W G ad) s0.heap.size nL cells slots Q S pc L (.ref (ad (7)) :: st) :=
  jb_get O (k := 2) rfl rfl jx_M (by decide) jw_662 rfl hd hp kk
theorem jg_M_17 (O : CallFix p m c cc nL s args ja_T "CashMachineModel" ∧ jb_X s0 s G ad) (hd : decode cc pc = .ok (.getfield 17, 3)) (hp : pc + 3 = q) (kk : ja_V p l e R s m args below meth c (jb_W G ad) s0.heap.size nL cells slots Q S q L (.ref (ad 21) :: st)) : ja_V p l e R s m args below meth c (jb_W G ad) s0.heap.size nL cells slots Q S pc L (.ref (ad (7)) :: st) :=
  jb_get O (k := 3) rfl rfl jx_M (by decide) jw_663 rfl hd hp kk
theorem jg_M_20 (O : CallFix p m c cc nL s args ja_T "CashMachineModel" ∧ jb_X s0 s G ad) (hd : decode cc pc = .ok (.getfield 20, 3)) (hp : pc + 3 = q) (kk : ja_V p l e R s m args below meth c (jb_W G ad) s0.heap.size nL cells slots Q S q L (.ref (ad 22) :: st)) : ja_V p l e R s m args below meth c (jb_W G ad) s0.heap.size nL cells slots Q S pc L (.ref (ad (7)) :: st) :=
  jb_get O (k := 4) rfl rfl jx_M (by decide) jw_664 rfl hd hp kk
theorem jg_M_23 (O : CallFix p m c cc nL s args ja_T "CashMachineModel" ∧ jb_X s0 s G ad) (hd : decode cc pc = .ok (.getfield 23, 3)) (hp : pc + 3 = q) (kk : ja_V p l e R s m args below meth c (jb_W G ad) s0.heap.size nL cells slots Q S q L (.ref (ad 23) :: st)) : ja_V p l e R s m args below meth c (jb_W G ad) s0.heap.size nL cells slots Q S pc L (.ref (ad (7)) :: st) :=
  jb_get O (k := 5) rfl rfl jx_M (by decide) jw_665 rfl hd hp kk
theorem jg_M_26 (O : CallFix p m c cc nL s args ja_T "CashMachineModel" ∧ jb_X s0 s G ad) (hd : decode cc pc = .ok (.getfield 26, 3)) (hp : pc + 3 = q) (kk : ja_V p l e R s m args below meth c (jb_W G ad) s0.heap.size nL cells slots Q S q L (.ref (ad 24) :: st)) : ja_V p l e R s m args below meth c (jb_W G ad) s0.heap.size nL cells slots Q S pc L (.ref (ad (7)) :: st) :=
  jb_get O (k := 6) rfl rfl jx_M (by decide) jw_666 rfl hd hp kk
theorem jg_M_29 (O : CallFix p m c cc nL s args ja_T "CashMachineModel" ∧ jb_X s0 s G ad) (hd : decode cc pc = .ok (.getfield 29, 3)) (hp : pc + 3 = q) (kk : ja_V p l e R s m args below meth c (jb_W G ad) s0.heap.size nL cells slots Q S q L (.ref (ad 25) :: st)) : ja_V p l e R s m args below meth c (jb_W G ad) s0.heap.size nL cells slots Q S pc L (.ref (ad (7)) :: st) :=
  jb_get O (k := 7) rfl rfl jx_M (by decide) jw_667 rfl hd hp kk
theorem jg_M_32 (O : CallFix p m c cc nL s args ja_T "CashMachineModel" ∧ jb_X s0 s G ad) (hd : decode cc pc = .ok (.getfield 32, 3)) (hp : pc + 3 = q) (kk : ja_V p l e R s m args below meth c (jb_W G ad) s0.heap.size nL cells slots Q S q L (.ref (ad 26) :: st)) : ja_V p l e R s m args below meth c (jb_W G ad) s0.heap.size nL cells slots Q S pc L (.ref (ad (7)) :: st) :=
  jb_get O (k := 8) rfl rfl jx_M (by decide) jw_668 rfl hd hp kk
theorem jg_M_35 (O : CallFix p m c cc nL s args ja_T "CashMachineModel" ∧ jb_X s0 s G ad) (hd : decode cc pc = .ok (.getfield 35, 3)) (hp : pc + 3 = q) (kk : ja_V p l e R s m args below meth c (jb_W G ad) s0.heap.size nL cells slots Q S q L (.ref (ad 27) :: st)) : ja_V p l e R s m args below meth c (jb_W G ad) s0.heap.size nL cells slots Q S pc L (.ref (ad (7)) :: st) :=
  jb_get O (k := 9) rfl rfl jx_M (by decide) jw_669 rfl hd hp kk
theorem jg_M_84 (O : CallFix p m c cc nL s args ja_T "CashMachineModel" ∧ jb_X s0 s G ad) (hd : decode cc pc = .ok (.getfield 84, 3)) (hp : pc + 3 = q) (kk : ja_V p l e R s m args below meth c (jb_W G ad) s0.heap.size nL cells slots Q S q L (.int (S 33 0) :: st)) : ja_V p l e R s m args below meth c (jb_W G ad) s0.heap.size nL cells slots Q S pc L (.ref (ad (7)) :: st) :=
  jb_get O (k := 10) rfl rfl jx_M (by decide) jw_670 rfl hd hp kk
theorem jp_M_84 (O : CallFix p m c cc nL s args ja_T "CashMachineModel" ∧ jb_X s0 s G ad) {x : Int32} (hx : x = 0 ∨ x = 1) (hd : decode cc pc = .ok (.putfield 84, 3)) (hp : pc + 3 = q) (kk : ja_V p l e R s m args below meth c (jb_W G ad) s0.heap.size nL cells slots Q (jb_u S 33 0 x) q L st) : ja_V p l e R s m args below meth c (jb_W G ad) s0.heap.size nL cells slots Q S pc L (.int x :: .ref (ad (7)) :: st) :=
  jb_put O (k := 10) (ty := .boolean) rfl rfl jx_M jq_M jk_M jn_M (by decide) jw_670 rfl (by decide +kernel) (jb_nb hx) (jb_fb hx) (Nat.le_of_ble_eq_true rfl) (jb_s33 G ad S x) hd hp kk
theorem jg_M_38 (O : CallFix p m c cc nL s args ja_T "CashMachineModel" ∧ jb_X s0 s G ad) (hd : decode cc pc = .ok (.getfield 38, 3)) (hp : pc + 3 = q) (kk : ja_V p l e R s m args below meth c (jb_W G ad) s0.heap.size nL cells slots Q S q L (.int (S 34 0) :: st)) : ja_V p l e R s m args below meth c (jb_W G ad) s0.heap.size nL cells slots Q S pc L (.ref (ad (7)) :: st) :=
  jb_get O (k := 11) rfl rfl jx_M (by decide) jw_671 rfl hd hp kk
theorem jp_M_38 (O : CallFix p m c cc nL s args ja_T "CashMachineModel" ∧ jb_X s0 s G ad) {x : Int32} (hd : decode cc pc = .ok (.putfield 38, 3)) (hp : pc + 3 = q) (kk : ja_V p l e R s m args below meth c (jb_W G ad) s0.heap.size nL cells slots Q (jb_u S 34 0 x) q L st) : ja_V p l e R s m args below meth c (jb_W G ad) s0.heap.size nL cells slots Q S pc L (.int x :: .ref (ad (7)) :: st) :=
  jb_put O (k := 11) (ty := .int) rfl rfl jx_M jq_M jk_M jn_M (by decide) jw_671 rfl (by decide +kernel) rfl rfl (Nat.le_of_ble_eq_true rfl) (jb_s34 G ad S x) hd hp kk
theorem jg_M_88 (O : CallFix p m c cc nL s args ja_T "CashMachineModel" ∧ jb_X s0 s G ad) (hd : decode cc pc = .ok (.getfield 88, 3)) (hp : pc + 3 = q) (kk : ja_V p l e R s m args below meth c (jb_W G ad) s0.heap.size nL cells slots Q S q L (.int (S 35 0) :: st)) : ja_V p l e R s m args below meth c (jb_W G ad) s0.heap.size nL cells slots Q S pc L (.ref (ad (7)) :: st) :=
  jb_get O (k := 12) rfl rfl jx_M (by decide) jw_672 rfl hd hp kk
theorem jp_M_88 (O : CallFix p m c cc nL s args ja_T "CashMachineModel" ∧ jb_X s0 s G ad) {x : Int32} (hx : x = 0 ∨ x = 1) (hd : decode cc pc = .ok (.putfield 88, 3)) (hp : pc + 3 = q) (kk : ja_V p l e R s m args below meth c (jb_W G ad) s0.heap.size nL cells slots Q (jb_u S 35 0 x) q L st) : ja_V p l e R s m args below meth c (jb_W G ad) s0.heap.size nL cells slots Q S pc L (.int x :: .ref (ad (7)) :: st) :=
  jb_put O (k := 12) (ty := .boolean) rfl rfl jx_M jq_M jk_M jn_M (by decide) jw_672 rfl (by decide +kernel) (jb_nb hx) (jb_fb hx) (Nat.le_of_ble_eq_true rfl) (jb_s35 G ad S x) hd hp kk
theorem jg_M_42 (O : CallFix p m c cc nL s args ja_T "CashMachineModel" ∧ jb_X s0 s G ad) (hd : decode cc pc = .ok (.getfield 42, 3)) (hp : pc + 3 = q) (kk : ja_V p l e R s m args below meth c (jb_W G ad) s0.heap.size nL cells slots Q S q L (.ref (ad 28) :: st)) : ja_V p l e R s m args below meth c (jb_W G ad) s0.heap.size nL cells slots Q S pc L (.ref (ad (7)) :: st) :=
  jb_get O (k := 13) rfl rfl jx_M (by decide) jw_673 rfl hd hp kk
theorem jg_M_45 (O : CallFix p m c cc nL s args ja_T "CashMachineModel" ∧ jb_X s0 s G ad) (hd : decode cc pc = .ok (.getfield 45, 3)) (hp : pc + 3 = q) (kk : ja_V p l e R s m args below meth c (jb_W G ad) s0.heap.size nL cells slots Q S q L (.ref (ad 29) :: st)) : ja_V p l e R s m args below meth c (jb_W G ad) s0.heap.size nL cells slots Q S pc L (.ref (ad (7)) :: st) :=
  jb_get O (k := 14) rfl rfl jx_M (by decide) jw_674 rfl hd hp kk
theorem jg_M_48 (O : CallFix p m c cc nL s args ja_T "CashMachineModel" ∧ jb_X s0 s G ad) (hd : decode cc pc = .ok (.getfield 48, 3)) (hp : pc + 3 = q) (kk : ja_V p l e R s m args below meth c (jb_W G ad) s0.heap.size nL cells slots Q S q L (.ref (ad 30) :: st)) : ja_V p l e R s m args below meth c (jb_W G ad) s0.heap.size nL cells slots Q S pc L (.ref (ad (7)) :: st) :=
  jb_get O (k := 15) rfl rfl jx_M (by decide) jw_675 rfl hd hp kk
theorem jg_M_51 (O : CallFix p m c cc nL s args ja_T "CashMachineModel" ∧ jb_X s0 s G ad) (hd : decode cc pc = .ok (.getfield 51, 3)) (hp : pc + 3 = q) (kk : ja_V p l e R s m args below meth c (jb_W G ad) s0.heap.size nL cells slots Q S q L (.ref (ad 31) :: st)) : ja_V p l e R s m args below meth c (jb_W G ad) s0.heap.size nL cells slots Q S pc L (.ref (ad (7)) :: st) :=
  jb_get O (k := 16) rfl rfl jx_M (by decide) jw_676 rfl hd hp kk
theorem jg_M_54 (O : CallFix p m c cc nL s args ja_T "CashMachineModel" ∧ jb_X s0 s G ad) (hd : decode cc pc = .ok (.getfield 54, 3)) (hp : pc + 3 = q) (kk : ja_V p l e R s m args below meth c (jb_W G ad) s0.heap.size nL cells slots Q S q L (.ref (ad 32) :: st)) : ja_V p l e R s m args below meth c (jb_W G ad) s0.heap.size nL cells slots Q S pc L (.ref (ad (7)) :: st) :=
  jb_get O (k := 17) rfl rfl jx_M (by decide) jw_677 rfl hd hp kk
theorem jg_M_57 (O : CallFix p m c cc nL s args ja_T "CashMachineModel" ∧ jb_X s0 s G ad) (hd : decode cc pc = .ok (.getfield 57, 3)) (hp : pc + 3 = q) (kk : ja_V p l e R s m args below meth c (jb_W G ad) s0.heap.size nL cells slots Q S q L (.ref (ad 33) :: st)) : ja_V p l e R s m args below meth c (jb_W G ad) s0.heap.size nL cells slots Q S pc L (.ref (ad (7)) :: st) :=
  jb_get O (k := 18) rfl rfl jx_M (by decide) jw_678 rfl hd hp kk
theorem jg_M_149 (O : CallFix p m c cc nL s args ja_T "CashMachineModel" ∧ jb_X s0 s G ad) (hd : decode cc pc = .ok (.getfield 149, 3)) (hp : pc + 3 = q) (kk : ja_V p l e R s m args below meth c (jb_W G ad) s0.heap.size nL cells slots Q S q L (.int (S 36 0) :: st)) : ja_V p l e R s m args below meth c (jb_W G ad) s0.heap.size nL cells slots Q S pc L (.ref (ad (7)) :: st) :=
  jb_get O (k := 19) rfl rfl jx_M (by decide) jw_679 rfl hd hp kk
theorem jp_M_149 (O : CallFix p m c cc nL s args ja_T "CashMachineModel" ∧ jb_X s0 s G ad) {x : Int32} (hd : decode cc pc = .ok (.putfield 149, 3)) (hp : pc + 3 = q) (kk : ja_V p l e R s m args below meth c (jb_W G ad) s0.heap.size nL cells slots Q (jb_u S 36 0 x) q L st) : ja_V p l e R s m args below meth c (jb_W G ad) s0.heap.size nL cells slots Q S pc L (.int x :: .ref (ad (7)) :: st) :=
  jb_put O (k := 19) (ty := .int) rfl rfl jx_M jq_M jk_M jn_M (by decide) jw_679 rfl (by decide +kernel) rfl rfl (Nat.le_of_ble_eq_true rfl) (jb_s36 G ad S x) hd hp kk
theorem jg_M_60 (O : CallFix p m c cc nL s args ja_T "CashMachineModel" ∧ jb_X s0 s G ad) (hd : decode cc pc = .ok (.getfield 60, 3)) (hp : pc + 3 = q) (kk : ja_V p l e R s m args below meth c (jb_W G ad) s0.heap.size nL cells slots Q S q L (.ref (ad 34) :: st)) : ja_V p l e R s m args below meth c (jb_W G ad) s0.heap.size nL cells slots Q S pc L (.ref (ad (7)) :: st) :=
  jb_get O (k := 20) rfl rfl jx_M (by decide) jw_680 rfl hd hp kk
theorem jg_M_63 (O : CallFix p m c cc nL s args ja_T "CashMachineModel" ∧ jb_X s0 s G ad) (hd : decode cc pc = .ok (.getfield 63, 3)) (hp : pc + 3 = q) (kk : ja_V p l e R s m args below meth c (jb_W G ad) s0.heap.size nL cells slots Q S q L (.ref (ad 35) :: st)) : ja_V p l e R s m args below meth c (jb_W G ad) s0.heap.size nL cells slots Q S pc L (.ref (ad (7)) :: st) :=
  jb_get O (k := 21) rfl rfl jx_M (by decide) jw_681 rfl hd hp kk
theorem jg_M_106 (O : CallFix p m c cc nL s args ja_T "CashMachineModel" ∧ jb_X s0 s G ad) (hd : decode cc pc = .ok (.getfield 106, 3)) (hp : pc + 3 = q) (kk : ja_V p l e R s m args below meth c (jb_W G ad) s0.heap.size nL cells slots Q S q L (.int (S 37 0) :: st)) : ja_V p l e R s m args below meth c (jb_W G ad) s0.heap.size nL cells slots Q S pc L (.ref (ad (7)) :: st) :=
  jb_get O (k := 22) rfl rfl jx_M (by decide) jw_682 rfl hd hp kk
theorem jp_M_106 (O : CallFix p m c cc nL s args ja_T "CashMachineModel" ∧ jb_X s0 s G ad) {x : Int32} (hd : decode cc pc = .ok (.putfield 106, 3)) (hp : pc + 3 = q) (kk : ja_V p l e R s m args below meth c (jb_W G ad) s0.heap.size nL cells slots Q (jb_u S 37 0 x) q L st) : ja_V p l e R s m args below meth c (jb_W G ad) s0.heap.size nL cells slots Q S pc L (.int x :: .ref (ad (7)) :: st) :=
  jb_put O (k := 22) (ty := .int) rfl rfl jx_M jq_M jk_M jn_M (by decide) jw_682 rfl (by decide +kernel) rfl rfl (Nat.le_of_ble_eq_true rfl) (jb_s37 G ad S x) hd hp kk
theorem jg_M_66 (O : CallFix p m c cc nL s args ja_T "CashMachineModel" ∧ jb_X s0 s G ad) (hd : decode cc pc = .ok (.getfield 66, 3)) (hp : pc + 3 = q) (kk : ja_V p l e R s m args below meth c (jb_W G ad) s0.heap.size nL cells slots Q S q L (.ref (ad 36) :: st)) : ja_V p l e R s m args below meth c (jb_W G ad) s0.heap.size nL cells slots Q S pc L (.ref (ad (7)) :: st) :=
  jb_get O (k := 23) rfl rfl jx_M (by decide) jw_683 rfl hd hp kk
theorem jg_M_103 (O : CallFix p m c cc nL s args ja_T "CashMachineModel" ∧ jb_X s0 s G ad) (hd : decode cc pc = .ok (.getfield 103, 3)) (hp : pc + 3 = q) (kk : ja_V p l e R s m args below meth c (jb_W G ad) s0.heap.size nL cells slots Q S q L (.int (S 38 0) :: st)) : ja_V p l e R s m args below meth c (jb_W G ad) s0.heap.size nL cells slots Q S pc L (.ref (ad (7)) :: st) :=
  jb_get O (k := 24) rfl rfl jx_M (by decide) jw_684 rfl hd hp kk
theorem jp_M_103 (O : CallFix p m c cc nL s args ja_T "CashMachineModel" ∧ jb_X s0 s G ad) {x : Int32} (hd : decode cc pc = .ok (.putfield 103, 3)) (hp : pc + 3 = q) (kk : ja_V p l e R s m args below meth c (jb_W G ad) s0.heap.size nL cells slots Q (jb_u S 38 0 x) q L st) : ja_V p l e R s m args below meth c (jb_W G ad) s0.heap.size nL cells slots Q S pc L (.int x :: .ref (ad (7)) :: st) :=
  jb_put O (k := 24) (ty := .int) rfl rfl jx_M jq_M jk_M jn_M (by decide) jw_684 rfl (by decide +kernel) rfl rfl (Nat.le_of_ble_eq_true rfl) (jb_s38 G ad S x) hd hp kk
theorem jg_M_69 (O : CallFix p m c cc nL s args ja_T "CashMachineModel" ∧ jb_X s0 s G ad) (hd : decode cc pc = .ok (.getfield 69, 3)) (hp : pc + 3 = q) (kk : ja_V p l e R s m args below meth c (jb_W G ad) s0.heap.size nL cells slots Q S q L (.int (S 39 0) :: st)) : ja_V p l e R s m args below meth c (jb_W G ad) s0.heap.size nL cells slots Q S pc L (.ref (ad (7)) :: st) :=
  jb_get O (k := 25) rfl rfl jx_M (by decide) jw_685 rfl hd hp kk
theorem jp_M_69 (O : CallFix p m c cc nL s args ja_T "CashMachineModel" ∧ jb_X s0 s G ad) {x : Int32} (hd : decode cc pc = .ok (.putfield 69, 3)) (hp : pc + 3 = q) (kk : ja_V p l e R s m args below meth c (jb_W G ad) s0.heap.size nL cells slots Q (jb_u S 39 0 x) q L st) : ja_V p l e R s m args below meth c (jb_W G ad) s0.heap.size nL cells slots Q S pc L (.int x :: .ref (ad (7)) :: st) :=
  jb_put O (k := 25) (ty := .int) rfl rfl jx_M jq_M jk_M jn_M (by decide) jw_685 rfl (by decide +kernel) rfl rfl (Nat.le_of_ble_eq_true rfl) (jb_s39 G ad S x) hd hp kk
theorem jg_M_109 (O : CallFix p m c cc nL s args ja_T "CashMachineModel" ∧ jb_X s0 s G ad) (hd : decode cc pc = .ok (.getfield 109, 3)) (hp : pc + 3 = q) (kk : ja_V p l e R s m args below meth c (jb_W G ad) s0.heap.size nL cells slots Q S q L (.int (S 40 0) :: st)) : ja_V p l e R s m args below meth c (jb_W G ad) s0.heap.size nL cells slots Q S pc L (.ref (ad (7)) :: st) :=
  jb_get O (k := 26) rfl rfl jx_M (by decide) jw_686 rfl hd hp kk
theorem jp_M_109 (O : CallFix p m c cc nL s args ja_T "CashMachineModel" ∧ jb_X s0 s G ad) {x : Int32} (hd : decode cc pc = .ok (.putfield 109, 3)) (hp : pc + 3 = q) (kk : ja_V p l e R s m args below meth c (jb_W G ad) s0.heap.size nL cells slots Q (jb_u S 40 0 x) q L st) : ja_V p l e R s m args below meth c (jb_W G ad) s0.heap.size nL cells slots Q S pc L (.int x :: .ref (ad (7)) :: st) :=
  jb_put O (k := 26) (ty := .int) rfl rfl jx_M jq_M jk_M jn_M (by decide) jw_686 rfl (by decide +kernel) rfl rfl (Nat.le_of_ble_eq_true rfl) (jb_s40 G ad S x) hd hp kk
theorem jg_M_115 (O : CallFix p m c cc nL s args ja_T "CashMachineModel" ∧ jb_X s0 s G ad) (hd : decode cc pc = .ok (.getfield 115, 3)) (hp : pc + 3 = q) (kk : ja_V p l e R s m args below meth c (jb_W G ad) s0.heap.size nL cells slots Q S q L (.int (S 41 0) :: st)) : ja_V p l e R s m args below meth c (jb_W G ad) s0.heap.size nL cells slots Q S pc L (.ref (ad (7)) :: st) :=
  jb_get O (k := 27) rfl rfl jx_M (by decide) jw_687 rfl hd hp kk
theorem jp_M_115 (O : CallFix p m c cc nL s args ja_T "CashMachineModel" ∧ jb_X s0 s G ad) {x : Int32} (hd : decode cc pc = .ok (.putfield 115, 3)) (hp : pc + 3 = q) (kk : ja_V p l e R s m args below meth c (jb_W G ad) s0.heap.size nL cells slots Q (jb_u S 41 0 x) q L st) : ja_V p l e R s m args below meth c (jb_W G ad) s0.heap.size nL cells slots Q S pc L (.int x :: .ref (ad (7)) :: st) :=
  jb_put O (k := 27) (ty := .int) rfl rfl jx_M jq_M jk_M jn_M (by decide) jw_687 rfl (by decide +kernel) rfl rfl (Nat.le_of_ble_eq_true rfl) (jb_s41 G ad S x) hd hp kk
theorem jg_M_118 (O : CallFix p m c cc nL s args ja_T "CashMachineModel" ∧ jb_X s0 s G ad) (hd : decode cc pc = .ok (.getfield 118, 3)) (hp : pc + 3 = q) (kk : ja_V p l e R s m args below meth c (jb_W G ad) s0.heap.size nL cells slots Q S q L (.int (S 42 0) :: st)) : ja_V p l e R s m args below meth c (jb_W G ad) s0.heap.size nL cells slots Q S pc L (.ref (ad (7)) :: st) :=
  jb_get O (k := 28) rfl rfl jx_M (by decide) jw_688 rfl hd hp kk
theorem jp_M_118 (O : CallFix p m c cc nL s args ja_T "CashMachineModel" ∧ jb_X s0 s G ad) {x : Int32} (hd : decode cc pc = .ok (.putfield 118, 3)) (hp : pc + 3 = q) (kk : ja_V p l e R s m args below meth c (jb_W G ad) s0.heap.size nL cells slots Q (jb_u S 42 0 x) q L st) : ja_V p l e R s m args below meth c (jb_W G ad) s0.heap.size nL cells slots Q S pc L (.int x :: .ref (ad (7)) :: st) :=
  jb_put O (k := 28) (ty := .int) rfl rfl jx_M jq_M jk_M jn_M (by decide) jw_688 rfl (by decide +kernel) rfl rfl (Nat.le_of_ble_eq_true rfl) (jb_s42 G ad S x) hd hp kk
theorem jg_M_121 (O : CallFix p m c cc nL s args ja_T "CashMachineModel" ∧ jb_X s0 s G ad) (hd : decode cc pc = .ok (.getfield 121, 3)) (hp : pc + 3 = q) (kk : ja_V p l e R s m args below meth c (jb_W G ad) s0.heap.size nL cells slots Q S q L (.int (S 43 0) :: st)) : ja_V p l e R s m args below meth c (jb_W G ad) s0.heap.size nL cells slots Q S pc L (.ref (ad (7)) :: st) :=
  jb_get O (k := 29) rfl rfl jx_M (by decide) jw_689 rfl hd hp kk
theorem jp_M_121 (O : CallFix p m c cc nL s args ja_T "CashMachineModel" ∧ jb_X s0 s G ad) {x : Int32} (hd : decode cc pc = .ok (.putfield 121, 3)) (hp : pc + 3 = q) (kk : ja_V p l e R s m args below meth c (jb_W G ad) s0.heap.size nL cells slots Q (jb_u S 43 0 x) q L st) : ja_V p l e R s m args below meth c (jb_W G ad) s0.heap.size nL cells slots Q S pc L (.int x :: .ref (ad (7)) :: st) :=
  jb_put O (k := 29) (ty := .int) rfl rfl jx_M jq_M jk_M jn_M (by decide) jw_689 rfl (by decide +kernel) rfl rfl (Nat.le_of_ble_eq_true rfl) (jb_s43 G ad S x) hd hp kk
theorem jl_8 (O : CallFix p m c cc nL s args ja_T own ∧ jb_X s0 s G ad) {k : Nat} {x : Int32} (hx : x = nI k) (hk : k < 8) (hd : decode cc pc = .ok (.aaload, 1)) (hp : pc + 1 = q) (kk : ja_V p l e R s m args below meth c (jb_W G ad) s0.heap.size nL cells slots Q S q L (.ref (ad (38 + k)) :: st)) : ja_V p l e R s m args below meth c (jb_W G ad) s0.heap.size nL cells slots Q S pc L (.int x :: .ref (ad 8) :: st) := by
  subst hp; subst hx
  intro ls H locs hL hP hS
  refine va_aldq O.1.1 O.1.2.1 O.2.2.1 hP 8 3 rfl rfl (vp_in_nI hk (by decide)) hd ?_
  rw [nI_clamp (show k < 2 ^ 31 by omega)]
  exact kk ls H locs hL hP hS
theorem jn_8 (O : CallFix p m c cc nL s args ja_T own ∧ jb_X s0 s G ad) (hd : decode cc pc = .ok (.arraylength, 1)) (hp : pc + 1 = q) (kk : ja_V p l e R s m args below meth c (jb_W G ad) s0.heap.size nL cells slots Q S q L (.int (nI 8) :: st)) : ja_V p l e R s m args below meth c (jb_W G ad) s0.heap.size nL cells slots Q S pc L (.ref (ad 8) :: st) := by
  subst hp
  exact fun ls H locs hL hP hS => va_alen O.1.1 O.1.2.1 O.2.2.1 hP 8 3 rfl rfl rfl hd (kk ls H locs hL hP hS)
theorem jl_9 (O : CallFix p m c cc nL s args ja_T own ∧ jb_X s0 s G ad) {k : Nat} {x : Int32} (hx : x = nI k) (hk : k < 41) (hd : decode cc pc = .ok (.iaload, 1)) (hp : pc + 1 = q) (kk : ja_V p l e R s m args below meth c (jb_W G ad) s0.heap.size nL cells slots Q S q L (.int (S 24 k) :: st)) : ja_V p l e R s m args below meth c (jb_W G ad) s0.heap.size nL cells slots Q S pc L (.int x :: .ref (ad 9) :: st) := by
  subst hp; subst hx
  intro ls H locs hL hP hS
  refine va_iald O.1.1 O.1.2.1 O.2.2.1 hP 9 0 rfl rfl (vp_in_nI hk (by decide)) hd ?_
  rw [nI_clamp (show k < 2 ^ 31 by omega)]
  exact kk ls H locs hL hP hS
theorem jn_9 (O : CallFix p m c cc nL s args ja_T own ∧ jb_X s0 s G ad) (hd : decode cc pc = .ok (.arraylength, 1)) (hp : pc + 1 = q) (kk : ja_V p l e R s m args below meth c (jb_W G ad) s0.heap.size nL cells slots Q S q L (.int (nI 41) :: st)) : ja_V p l e R s m args below meth c (jb_W G ad) s0.heap.size nL cells slots Q S pc L (.ref (ad 9) :: st) := by
  subst hp
  exact fun ls H locs hL hP hS => va_alen O.1.1 O.1.2.1 O.2.2.1 hP 9 0 rfl rfl rfl hd (kk ls H locs hL hP hS)
theorem js_9 (O : CallFix p m c cc nL s args ja_T own ∧ jb_X s0 s G ad) {k : Nat} {x y : Int32} (hx : x = nI k) (hk : k < 41) (hd : decode cc pc = .ok (.iastore, 1)) (hp : pc + 1 = q) (kk : ja_V p l e R s m args below meth c (jb_W G ad) s0.heap.size nL cells slots Q (jb_u S 24 k y) q L st) : ja_V p l e R s m args below meth c (jb_W G ad) s0.heap.size nL cells slots Q S pc L (.int y :: .int x :: .ref (ad 9) :: st) := by
  subst hp; subst hx
  intro ls H locs hL hP hS
  refine va_iast O.1.1 O.1.2.1 O.2.2.1 hP (O.2.2.2.1.va S) hS 9 0 rfl rfl (vp_in_nI hk (by decide)) hd (fun H1 locs1 hP1 _ hS1 => ?_)
  rw [nI_clamp (show k < 2 ^ 31 by omega)] at hP1
  exact kk ls H1 locs1 hL (show va_P G.1 jb_cl (jb_en G ad _) H1 by rw [← jb_s24]; exact hP1) hS1
theorem jl_10 (O : CallFix p m c cc nL s args ja_T own ∧ jb_X s0 s G ad) {k : Nat} {x : Int32} (hx : x = nI k) (hk : k < 41) (hd : decode cc pc = .ok (.iaload, 1)) (hp : pc + 1 = q) (kk : ja_V p l e R s m args below meth c (jb_W G ad) s0.heap.size nL cells slots Q S q L (.int (S 25 k) :: st)) : ja_V p l e R s m args below meth c (jb_W G ad) s0.heap.size nL cells slots Q S pc L (.int x :: .ref (ad 10) :: st) := by
  subst hp; subst hx
  intro ls H locs hL hP hS
  refine va_iald O.1.1 O.1.2.1 O.2.2.1 hP 10 0 rfl rfl (vp_in_nI hk (by decide)) hd ?_
  rw [nI_clamp (show k < 2 ^ 31 by omega)]
  exact kk ls H locs hL hP hS
theorem jn_10 (O : CallFix p m c cc nL s args ja_T own ∧ jb_X s0 s G ad) (hd : decode cc pc = .ok (.arraylength, 1)) (hp : pc + 1 = q) (kk : ja_V p l e R s m args below meth c (jb_W G ad) s0.heap.size nL cells slots Q S q L (.int (nI 41) :: st)) : ja_V p l e R s m args below meth c (jb_W G ad) s0.heap.size nL cells slots Q S pc L (.ref (ad 10) :: st) := by
  subst hp
  exact fun ls H locs hL hP hS => va_alen O.1.1 O.1.2.1 O.2.2.1 hP 10 0 rfl rfl rfl hd (kk ls H locs hL hP hS)
theorem js_10 (O : CallFix p m c cc nL s args ja_T own ∧ jb_X s0 s G ad) {k : Nat} {x y : Int32} (hx : x = nI k) (hk : k < 41) (hd : decode cc pc = .ok (.iastore, 1)) (hp : pc + 1 = q) (kk : ja_V p l e R s m args below meth c (jb_W G ad) s0.heap.size nL cells slots Q (jb_u S 25 k y) q L st) : ja_V p l e R s m args below meth c (jb_W G ad) s0.heap.size nL cells slots Q S pc L (.int y :: .int x :: .ref (ad 10) :: st) := by
  subst hp; subst hx
  intro ls H locs hL hP hS
  refine va_iast O.1.1 O.1.2.1 O.2.2.1 hP (O.2.2.2.1.va S) hS 10 0 rfl rfl (vp_in_nI hk (by decide)) hd (fun H1 locs1 hP1 _ hS1 => ?_)
  rw [nI_clamp (show k < 2 ^ 31 by omega)] at hP1
  exact kk ls H1 locs1 hL (show va_P G.1 jb_cl (jb_en G ad _) H1 by rw [← jb_s25]; exact hP1) hS1
theorem jl_11 (O : CallFix p m c cc nL s args ja_T own ∧ jb_X s0 s G ad) {k : Nat} {x : Int32} (hx : x = nI k) (hk : k < 41) (hd : decode cc pc = .ok (.baload, 1)) (hp : pc + 1 = q) (kk : ja_V p l e R s m args below meth c (jb_W G ad) s0.heap.size nL cells slots Q S q L (.int (S 26 k) :: st)) : ja_V p l e R s m args below meth c (jb_W G ad) s0.heap.size nL cells slots Q S pc L (.int x :: .ref (ad 11) :: st) := by
  subst hp; subst hx
  intro ls H locs hL hP hS
  refine va_zald O.1.1 O.1.2.1 O.2.2.1 hP 11 1 rfl rfl (vp_in_nI hk (by decide)) hd ?_
  rw [nI_clamp (show k < 2 ^ 31 by omega)]
  exact kk ls H locs hL hP hS
theorem jn_11 (O : CallFix p m c cc nL s args ja_T own ∧ jb_X s0 s G ad) (hd : decode cc pc = .ok (.arraylength, 1)) (hp : pc + 1 = q) (kk : ja_V p l e R s m args below meth c (jb_W G ad) s0.heap.size nL cells slots Q S q L (.int (nI 41) :: st)) : ja_V p l e R s m args below meth c (jb_W G ad) s0.heap.size nL cells slots Q S pc L (.ref (ad 11) :: st) := by
  subst hp
  exact fun ls H locs hL hP hS => va_alen O.1.1 O.1.2.1 O.2.2.1 hP 11 1 rfl rfl rfl hd (kk ls H locs hL hP hS)
theorem js_11 (O : CallFix p m c cc nL s args ja_T own ∧ jb_X s0 s G ad) {k : Nat} {x y : Int32} (hx : x = nI k) (hk : k < 41) (hy : y = 0 ∨ y = 1) (hd : decode cc pc = .ok (.bastore, 1)) (hp : pc + 1 = q) (kk : ja_V p l e R s m args below meth c (jb_W G ad) s0.heap.size nL cells slots Q (jb_u S 26 k y) q L st) : ja_V p l e R s m args below meth c (jb_W G ad) s0.heap.size nL cells slots Q S pc L (.int y :: .int x :: .ref (ad 11) :: st) := by
  subst hp; subst hx
  intro ls H locs hL hP hS
  refine va_zast O.1.1 O.1.2.1 O.2.2.1 hP (O.2.2.2.1.va S) hS 11 1 rfl rfl (vp_in_nI hk (by decide)) hd (fun H1 locs1 hP1 _ hS1 => ?_)
  rw [nI_clamp (show k < 2 ^ 31 by omega), jb_vb hy] at hP1
  exact kk ls H1 locs1 hL (show va_P G.1 jb_cl (jb_en G ad _) H1 by rw [← jb_s26]; exact hP1) hS1
theorem jl_12 (O : CallFix p m c cc nL s args ja_T own ∧ jb_X s0 s G ad) {k : Nat} {x : Int32} (hx : x = nI k) (hk : k < 8) (hd : decode cc pc = .ok (.iaload, 1)) (hp : pc + 1 = q) (kk : ja_V p l e R s m args below meth c (jb_W G ad) s0.heap.size nL cells slots Q S q L (.int (S 27 k) :: st)) : ja_V p l e R s m args below meth c (jb_W G ad) s0.heap.size nL cells slots Q S pc L (.int x :: .ref (ad 12) :: st) := by
  subst hp; subst hx
  intro ls H locs hL hP hS
  refine va_iald O.1.1 O.1.2.1 O.2.2.1 hP 12 0 rfl rfl (vp_in_nI hk (by decide)) hd ?_
  rw [nI_clamp (show k < 2 ^ 31 by omega)]
  exact kk ls H locs hL hP hS
theorem jn_12 (O : CallFix p m c cc nL s args ja_T own ∧ jb_X s0 s G ad) (hd : decode cc pc = .ok (.arraylength, 1)) (hp : pc + 1 = q) (kk : ja_V p l e R s m args below meth c (jb_W G ad) s0.heap.size nL cells slots Q S q L (.int (nI 8) :: st)) : ja_V p l e R s m args below meth c (jb_W G ad) s0.heap.size nL cells slots Q S pc L (.ref (ad 12) :: st) := by
  subst hp
  exact fun ls H locs hL hP hS => va_alen O.1.1 O.1.2.1 O.2.2.1 hP 12 0 rfl rfl rfl hd (kk ls H locs hL hP hS)
theorem js_12 (O : CallFix p m c cc nL s args ja_T own ∧ jb_X s0 s G ad) {k : Nat} {x y : Int32} (hx : x = nI k) (hk : k < 8) (hd : decode cc pc = .ok (.iastore, 1)) (hp : pc + 1 = q) (kk : ja_V p l e R s m args below meth c (jb_W G ad) s0.heap.size nL cells slots Q (jb_u S 27 k y) q L st) : ja_V p l e R s m args below meth c (jb_W G ad) s0.heap.size nL cells slots Q S pc L (.int y :: .int x :: .ref (ad 12) :: st) := by
  subst hp; subst hx
  intro ls H locs hL hP hS
  refine va_iast O.1.1 O.1.2.1 O.2.2.1 hP (O.2.2.2.1.va S) hS 12 0 rfl rfl (vp_in_nI hk (by decide)) hd (fun H1 locs1 hP1 _ hS1 => ?_)
  rw [nI_clamp (show k < 2 ^ 31 by omega)] at hP1
  exact kk ls H1 locs1 hL (show va_P G.1 jb_cl (jb_en G ad _) H1 by rw [← jb_s27]; exact hP1) hS1
theorem jl_13 (O : CallFix p m c cc nL s args ja_T own ∧ jb_X s0 s G ad) {k : Nat} {x : Int32} (hx : x = nI k) (hk : k < 4) (hd : decode cc pc = .ok (.aaload, 1)) (hp : pc + 1 = q) (kk : ja_V p l e R s m args below meth c (jb_W G ad) s0.heap.size nL cells slots Q S q L (.ref (ad (46 + k)) :: st)) : ja_V p l e R s m args below meth c (jb_W G ad) s0.heap.size nL cells slots Q S pc L (.int x :: .ref (ad 13) :: st) := by
  subst hp; subst hx
  intro ls H locs hL hP hS
  refine va_aldq O.1.1 O.1.2.1 O.2.2.1 hP 13 4 rfl rfl (vp_in_nI hk (by decide)) hd ?_
  rw [nI_clamp (show k < 2 ^ 31 by omega)]
  exact kk ls H locs hL hP hS
theorem jn_13 (O : CallFix p m c cc nL s args ja_T own ∧ jb_X s0 s G ad) (hd : decode cc pc = .ok (.arraylength, 1)) (hp : pc + 1 = q) (kk : ja_V p l e R s m args below meth c (jb_W G ad) s0.heap.size nL cells slots Q S q L (.int (nI 4) :: st)) : ja_V p l e R s m args below meth c (jb_W G ad) s0.heap.size nL cells slots Q S pc L (.ref (ad 13) :: st) := by
  subst hp
  exact fun ls H locs hL hP hS => va_alen O.1.1 O.1.2.1 O.2.2.1 hP 13 4 rfl rfl rfl hd (kk ls H locs hL hP hS)
theorem jl_14 (O : CallFix p m c cc nL s args ja_T own ∧ jb_X s0 s G ad) {k : Nat} {x : Int32} (hx : x = nI k) (hk : k < 4) (hd : decode cc pc = .ok (.iaload, 1)) (hp : pc + 1 = q) (kk : ja_V p l e R s m args below meth c (jb_W G ad) s0.heap.size nL cells slots Q S q L (.int (S 28 k) :: st)) : ja_V p l e R s m args below meth c (jb_W G ad) s0.heap.size nL cells slots Q S pc L (.int x :: .ref (ad 14) :: st) := by
  subst hp; subst hx
  intro ls H locs hL hP hS
  refine va_iald O.1.1 O.1.2.1 O.2.2.1 hP 14 0 rfl rfl (vp_in_nI hk (by decide)) hd ?_
  rw [nI_clamp (show k < 2 ^ 31 by omega)]
  exact kk ls H locs hL hP hS
theorem jn_14 (O : CallFix p m c cc nL s args ja_T own ∧ jb_X s0 s G ad) (hd : decode cc pc = .ok (.arraylength, 1)) (hp : pc + 1 = q) (kk : ja_V p l e R s m args below meth c (jb_W G ad) s0.heap.size nL cells slots Q S q L (.int (nI 4) :: st)) : ja_V p l e R s m args below meth c (jb_W G ad) s0.heap.size nL cells slots Q S pc L (.ref (ad 14) :: st) := by
  subst hp
  exact fun ls H locs hL hP hS => va_alen O.1.1 O.1.2.1 O.2.2.1 hP 14 0 rfl rfl rfl hd (kk ls H locs hL hP hS)
theorem js_14 (O : CallFix p m c cc nL s args ja_T own ∧ jb_X s0 s G ad) {k : Nat} {x y : Int32} (hx : x = nI k) (hk : k < 4) (hd : decode cc pc = .ok (.iastore, 1)) (hp : pc + 1 = q) (kk : ja_V p l e R s m args below meth c (jb_W G ad) s0.heap.size nL cells slots Q (jb_u S 28 k y) q L st) : ja_V p l e R s m args below meth c (jb_W G ad) s0.heap.size nL cells slots Q S pc L (.int y :: .int x :: .ref (ad 14) :: st) := by
  subst hp; subst hx
  intro ls H locs hL hP hS
  refine va_iast O.1.1 O.1.2.1 O.2.2.1 hP (O.2.2.2.1.va S) hS 14 0 rfl rfl (vp_in_nI hk (by decide)) hd (fun H1 locs1 hP1 _ hS1 => ?_)
  rw [nI_clamp (show k < 2 ^ 31 by omega)] at hP1
  exact kk ls H1 locs1 hL (show va_P G.1 jb_cl (jb_en G ad _) H1 by rw [← jb_s28]; exact hP1) hS1
theorem jl_15 (O : CallFix p m c cc nL s args ja_T own ∧ jb_X s0 s G ad) {k : Nat} {x : Int32} (hx : x = nI k) (hk : k < 5001) (hd : decode cc pc = .ok (.iaload, 1)) (hp : pc + 1 = q) (kk : ja_V p l e R s m args below meth c (jb_W G ad) s0.heap.size nL cells slots Q S q L (.int (S 29 k) :: st)) : ja_V p l e R s m args below meth c (jb_W G ad) s0.heap.size nL cells slots Q S pc L (.int x :: .ref (ad 15) :: st) := by
  subst hp; subst hx
  intro ls H locs hL hP hS
  refine va_iald O.1.1 O.1.2.1 O.2.2.1 hP 15 0 rfl rfl (vp_in_nI hk (by decide)) hd ?_
  rw [nI_clamp (show k < 2 ^ 31 by omega)]
  exact kk ls H locs hL hP hS
theorem jn_15 (O : CallFix p m c cc nL s args ja_T own ∧ jb_X s0 s G ad) (hd : decode cc pc = .ok (.arraylength, 1)) (hp : pc + 1 = q) (kk : ja_V p l e R s m args below meth c (jb_W G ad) s0.heap.size nL cells slots Q S q L (.int (nI 5001) :: st)) : ja_V p l e R s m args below meth c (jb_W G ad) s0.heap.size nL cells slots Q S pc L (.ref (ad 15) :: st) := by
  subst hp
  exact fun ls H locs hL hP hS => va_alen O.1.1 O.1.2.1 O.2.2.1 hP 15 0 rfl rfl rfl hd (kk ls H locs hL hP hS)
theorem js_15 (O : CallFix p m c cc nL s args ja_T own ∧ jb_X s0 s G ad) {k : Nat} {x y : Int32} (hx : x = nI k) (hk : k < 5001) (hd : decode cc pc = .ok (.iastore, 1)) (hp : pc + 1 = q) (kk : ja_V p l e R s m args below meth c (jb_W G ad) s0.heap.size nL cells slots Q (jb_u S 29 k y) q L st) : ja_V p l e R s m args below meth c (jb_W G ad) s0.heap.size nL cells slots Q S pc L (.int y :: .int x :: .ref (ad 15) :: st) := by
  subst hp; subst hx
  intro ls H locs hL hP hS
  refine va_iast O.1.1 O.1.2.1 O.2.2.1 hP (O.2.2.2.1.va S) hS 15 0 rfl rfl (vp_in_nI hk (by decide)) hd (fun H1 locs1 hP1 _ hS1 => ?_)
  rw [nI_clamp (show k < 2 ^ 31 by omega)] at hP1
  exact kk ls H1 locs1 hL (show va_P G.1 jb_cl (jb_en G ad _) H1 by rw [← jb_s29]; exact hP1) hS1
theorem jl_16 (O : CallFix p m c cc nL s args ja_T own ∧ jb_X s0 s G ad) {k : Nat} {x : Int32} (hx : x = nI k) (hk : k < 40) (hd : decode cc pc = .ok (.aaload, 1)) (hp : pc + 1 = q) (kk : ja_V p l e R s m args below meth c (jb_W G ad) s0.heap.size nL cells slots Q S q L (.ref (ad (50 + k)) :: st)) : ja_V p l e R s m args below meth c (jb_W G ad) s0.heap.size nL cells slots Q S pc L (.int x :: .ref (ad 16) :: st) := by
  subst hp; subst hx
  intro ls H locs hL hP hS
  refine va_aldq O.1.1 O.1.2.1 O.2.2.1 hP 16 5 rfl rfl (vp_in_nI hk (by decide)) hd ?_
  rw [nI_clamp (show k < 2 ^ 31 by omega)]
  exact kk ls H locs hL hP hS
theorem jn_16 (O : CallFix p m c cc nL s args ja_T own ∧ jb_X s0 s G ad) (hd : decode cc pc = .ok (.arraylength, 1)) (hp : pc + 1 = q) (kk : ja_V p l e R s m args below meth c (jb_W G ad) s0.heap.size nL cells slots Q S q L (.int (nI 40) :: st)) : ja_V p l e R s m args below meth c (jb_W G ad) s0.heap.size nL cells slots Q S pc L (.ref (ad 16) :: st) := by
  subst hp
  exact fun ls H locs hL hP hS => va_alen O.1.1 O.1.2.1 O.2.2.1 hP 16 5 rfl rfl rfl hd (kk ls H locs hL hP hS)
theorem jl_17 (O : CallFix p m c cc nL s args ja_T own ∧ jb_X s0 s G ad) {k : Nat} {x : Int32} (hx : x = nI k) (hk : k < 40) (hd : decode cc pc = .ok (.iaload, 1)) (hp : pc + 1 = q) (kk : ja_V p l e R s m args below meth c (jb_W G ad) s0.heap.size nL cells slots Q S q L (.int (S 30 k) :: st)) : ja_V p l e R s m args below meth c (jb_W G ad) s0.heap.size nL cells slots Q S pc L (.int x :: .ref (ad 17) :: st) := by
  subst hp; subst hx
  intro ls H locs hL hP hS
  refine va_iald O.1.1 O.1.2.1 O.2.2.1 hP 17 0 rfl rfl (vp_in_nI hk (by decide)) hd ?_
  rw [nI_clamp (show k < 2 ^ 31 by omega)]
  exact kk ls H locs hL hP hS
theorem jn_17 (O : CallFix p m c cc nL s args ja_T own ∧ jb_X s0 s G ad) (hd : decode cc pc = .ok (.arraylength, 1)) (hp : pc + 1 = q) (kk : ja_V p l e R s m args below meth c (jb_W G ad) s0.heap.size nL cells slots Q S q L (.int (nI 40) :: st)) : ja_V p l e R s m args below meth c (jb_W G ad) s0.heap.size nL cells slots Q S pc L (.ref (ad 17) :: st) := by
  subst hp
  exact fun ls H locs hL hP hS => va_alen O.1.1 O.1.2.1 O.2.2.1 hP 17 0 rfl rfl rfl hd (kk ls H locs hL hP hS)
theorem js_17 (O : CallFix p m c cc nL s args ja_T own ∧ jb_X s0 s G ad) {k : Nat} {x y : Int32} (hx : x = nI k) (hk : k < 40) (hd : decode cc pc = .ok (.iastore, 1)) (hp : pc + 1 = q) (kk : ja_V p l e R s m args below meth c (jb_W G ad) s0.heap.size nL cells slots Q (jb_u S 30 k y) q L st) : ja_V p l e R s m args below meth c (jb_W G ad) s0.heap.size nL cells slots Q S pc L (.int y :: .int x :: .ref (ad 17) :: st) := by
  subst hp; subst hx
  intro ls H locs hL hP hS
  refine va_iast O.1.1 O.1.2.1 O.2.2.1 hP (O.2.2.2.1.va S) hS 17 0 rfl rfl (vp_in_nI hk (by decide)) hd (fun H1 locs1 hP1 _ hS1 => ?_)
  rw [nI_clamp (show k < 2 ^ 31 by omega)] at hP1
  exact kk ls H1 locs1 hL (show va_P G.1 jb_cl (jb_en G ad _) H1 by rw [← jb_s30]; exact hP1) hS1
theorem jl_18 (O : CallFix p m c cc nL s args ja_T own ∧ jb_X s0 s G ad) {k : Nat} {x : Int32} (hx : x = nI k) (hk : k < 40) (hd : decode cc pc = .ok (.iaload, 1)) (hp : pc + 1 = q) (kk : ja_V p l e R s m args below meth c (jb_W G ad) s0.heap.size nL cells slots Q S q L (.int (S 31 k) :: st)) : ja_V p l e R s m args below meth c (jb_W G ad) s0.heap.size nL cells slots Q S pc L (.int x :: .ref (ad 18) :: st) := by
  subst hp; subst hx
  intro ls H locs hL hP hS
  refine va_iald O.1.1 O.1.2.1 O.2.2.1 hP 18 0 rfl rfl (vp_in_nI hk (by decide)) hd ?_
  rw [nI_clamp (show k < 2 ^ 31 by omega)]
  exact kk ls H locs hL hP hS
theorem jn_18 (O : CallFix p m c cc nL s args ja_T own ∧ jb_X s0 s G ad) (hd : decode cc pc = .ok (.arraylength, 1)) (hp : pc + 1 = q) (kk : ja_V p l e R s m args below meth c (jb_W G ad) s0.heap.size nL cells slots Q S q L (.int (nI 40) :: st)) : ja_V p l e R s m args below meth c (jb_W G ad) s0.heap.size nL cells slots Q S pc L (.ref (ad 18) :: st) := by
  subst hp
  exact fun ls H locs hL hP hS => va_alen O.1.1 O.1.2.1 O.2.2.1 hP 18 0 rfl rfl rfl hd (kk ls H locs hL hP hS)
theorem js_18 (O : CallFix p m c cc nL s args ja_T own ∧ jb_X s0 s G ad) {k : Nat} {x y : Int32} (hx : x = nI k) (hk : k < 40) (hd : decode cc pc = .ok (.iastore, 1)) (hp : pc + 1 = q) (kk : ja_V p l e R s m args below meth c (jb_W G ad) s0.heap.size nL cells slots Q (jb_u S 31 k y) q L st) : ja_V p l e R s m args below meth c (jb_W G ad) s0.heap.size nL cells slots Q S pc L (.int y :: .int x :: .ref (ad 18) :: st) := by
  subst hp; subst hx
  intro ls H locs hL hP hS
  refine va_iast O.1.1 O.1.2.1 O.2.2.1 hP (O.2.2.2.1.va S) hS 18 0 rfl rfl (vp_in_nI hk (by decide)) hd (fun H1 locs1 hP1 _ hS1 => ?_)
  rw [nI_clamp (show k < 2 ^ 31 by omega)] at hP1
  exact kk ls H1 locs1 hL (show va_P G.1 jb_cl (jb_en G ad _) H1 by rw [← jb_s31]; exact hP1) hS1
theorem jl_19 (O : CallFix p m c cc nL s args ja_T own ∧ jb_X s0 s G ad) {k : Nat} {x : Int32} (hx : x = nI k) (hk : k < 8) (hd : decode cc pc = .ok (.baload, 1)) (hp : pc + 1 = q) (kk : ja_V p l e R s m args below meth c (jb_W G ad) s0.heap.size nL cells slots Q S q L (.int (S 44 k) :: st)) : ja_V p l e R s m args below meth c (jb_W G ad) s0.heap.size nL cells slots Q S pc L (.int x :: .ref (ad 19) :: st) := by
  subst hp; subst hx
  intro ls H locs hL hP hS
  refine va_zald O.1.1 O.1.2.1 O.2.2.1 hP 19 1 rfl rfl (vp_in_nI hk (by decide)) hd ?_
  rw [nI_clamp (show k < 2 ^ 31 by omega)]
  exact kk ls H locs hL hP hS
theorem jn_19 (O : CallFix p m c cc nL s args ja_T own ∧ jb_X s0 s G ad) (hd : decode cc pc = .ok (.arraylength, 1)) (hp : pc + 1 = q) (kk : ja_V p l e R s m args below meth c (jb_W G ad) s0.heap.size nL cells slots Q S q L (.int (nI 8) :: st)) : ja_V p l e R s m args below meth c (jb_W G ad) s0.heap.size nL cells slots Q S pc L (.ref (ad 19) :: st) := by
  subst hp
  exact fun ls H locs hL hP hS => va_alen O.1.1 O.1.2.1 O.2.2.1 hP 19 1 rfl rfl rfl hd (kk ls H locs hL hP hS)
theorem js_19 (O : CallFix p m c cc nL s args ja_T own ∧ jb_X s0 s G ad) {k : Nat} {x y : Int32} (hx : x = nI k) (hk : k < 8) (hy : y = 0 ∨ y = 1) (hd : decode cc pc = .ok (.bastore, 1)) (hp : pc + 1 = q) (kk : ja_V p l e R s m args below meth c (jb_W G ad) s0.heap.size nL cells slots Q (jb_u S 44 k y) q L st) : ja_V p l e R s m args below meth c (jb_W G ad) s0.heap.size nL cells slots Q S pc L (.int y :: .int x :: .ref (ad 19) :: st) := by
  subst hp; subst hx
  intro ls H locs hL hP hS
  refine va_zast O.1.1 O.1.2.1 O.2.2.1 hP (O.2.2.2.1.va S) hS 19 1 rfl rfl (vp_in_nI hk (by decide)) hd (fun H1 locs1 hP1 _ hS1 => ?_)
  rw [nI_clamp (show k < 2 ^ 31 by omega), jb_vb hy] at hP1
  exact kk ls H1 locs1 hL (show va_P G.1 jb_cl (jb_en G ad _) H1 by rw [← jb_s44]; exact hP1) hS1
theorem jl_20 (O : CallFix p m c cc nL s args ja_T own ∧ jb_X s0 s G ad) {k : Nat} {x : Int32} (hx : x = nI k) (hk : k < 8) (hd : decode cc pc = .ok (.iaload, 1)) (hp : pc + 1 = q) (kk : ja_V p l e R s m args below meth c (jb_W G ad) s0.heap.size nL cells slots Q S q L (.int (S 45 k) :: st)) : ja_V p l e R s m args below meth c (jb_W G ad) s0.heap.size nL cells slots Q S pc L (.int x :: .ref (ad 20) :: st) := by
  subst hp; subst hx
  intro ls H locs hL hP hS
  refine va_iald O.1.1 O.1.2.1 O.2.2.1 hP 20 0 rfl rfl (vp_in_nI hk (by decide)) hd ?_
  rw [nI_clamp (show k < 2 ^ 31 by omega)]
  exact kk ls H locs hL hP hS
theorem jn_20 (O : CallFix p m c cc nL s args ja_T own ∧ jb_X s0 s G ad) (hd : decode cc pc = .ok (.arraylength, 1)) (hp : pc + 1 = q) (kk : ja_V p l e R s m args below meth c (jb_W G ad) s0.heap.size nL cells slots Q S q L (.int (nI 8) :: st)) : ja_V p l e R s m args below meth c (jb_W G ad) s0.heap.size nL cells slots Q S pc L (.ref (ad 20) :: st) := by
  subst hp
  exact fun ls H locs hL hP hS => va_alen O.1.1 O.1.2.1 O.2.2.1 hP 20 0 rfl rfl rfl hd (kk ls H locs hL hP hS)
theorem js_20 (O : CallFix p m c cc nL s args ja_T own ∧ jb_X s0 s G ad) {k : Nat} {x y : Int32} (hx : x = nI k) (hk : k < 8) (hd : decode cc pc = .ok (.iastore, 1)) (hp : pc + 1 = q) (kk : ja_V p l e R s m args below meth c (jb_W G ad) s0.heap.size nL cells slots Q (jb_u S 45 k y) q L st) : ja_V p l e R s m args below meth c (jb_W G ad) s0.heap.size nL cells slots Q S pc L (.int y :: .int x :: .ref (ad 20) :: st) := by
  subst hp; subst hx
  intro ls H locs hL hP hS
  refine va_iast O.1.1 O.1.2.1 O.2.2.1 hP (O.2.2.2.1.va S) hS 20 0 rfl rfl (vp_in_nI hk (by decide)) hd (fun H1 locs1 hP1 _ hS1 => ?_)
  rw [nI_clamp (show k < 2 ^ 31 by omega)] at hP1
  exact kk ls H1 locs1 hL (show va_P G.1 jb_cl (jb_en G ad _) H1 by rw [← jb_s45]; exact hP1) hS1
theorem jl_21 (O : CallFix p m c cc nL s args ja_T own ∧ jb_X s0 s G ad) {k : Nat} {x : Int32} (hx : x = nI k) (hk : k < 8) (hd : decode cc pc = .ok (.iaload, 1)) (hp : pc + 1 = q) (kk : ja_V p l e R s m args below meth c (jb_W G ad) s0.heap.size nL cells slots Q S q L (.int (S 46 k) :: st)) : ja_V p l e R s m args below meth c (jb_W G ad) s0.heap.size nL cells slots Q S pc L (.int x :: .ref (ad 21) :: st) := by
  subst hp; subst hx
  intro ls H locs hL hP hS
  refine va_iald O.1.1 O.1.2.1 O.2.2.1 hP 21 0 rfl rfl (vp_in_nI hk (by decide)) hd ?_
  rw [nI_clamp (show k < 2 ^ 31 by omega)]
  exact kk ls H locs hL hP hS
theorem jn_21 (O : CallFix p m c cc nL s args ja_T own ∧ jb_X s0 s G ad) (hd : decode cc pc = .ok (.arraylength, 1)) (hp : pc + 1 = q) (kk : ja_V p l e R s m args below meth c (jb_W G ad) s0.heap.size nL cells slots Q S q L (.int (nI 8) :: st)) : ja_V p l e R s m args below meth c (jb_W G ad) s0.heap.size nL cells slots Q S pc L (.ref (ad 21) :: st) := by
  subst hp
  exact fun ls H locs hL hP hS => va_alen O.1.1 O.1.2.1 O.2.2.1 hP 21 0 rfl rfl rfl hd (kk ls H locs hL hP hS)
theorem js_21 (O : CallFix p m c cc nL s args ja_T own ∧ jb_X s0 s G ad) {k : Nat} {x y : Int32} (hx : x = nI k) (hk : k < 8) (hd : decode cc pc = .ok (.iastore, 1)) (hp : pc + 1 = q) (kk : ja_V p l e R s m args below meth c (jb_W G ad) s0.heap.size nL cells slots Q (jb_u S 46 k y) q L st) : ja_V p l e R s m args below meth c (jb_W G ad) s0.heap.size nL cells slots Q S pc L (.int y :: .int x :: .ref (ad 21) :: st) := by
  subst hp; subst hx
  intro ls H locs hL hP hS
  refine va_iast O.1.1 O.1.2.1 O.2.2.1 hP (O.2.2.2.1.va S) hS 21 0 rfl rfl (vp_in_nI hk (by decide)) hd (fun H1 locs1 hP1 _ hS1 => ?_)
  rw [nI_clamp (show k < 2 ^ 31 by omega)] at hP1
  exact kk ls H1 locs1 hL (show va_P G.1 jb_cl (jb_en G ad _) H1 by rw [← jb_s46]; exact hP1) hS1
theorem jl_22 (O : CallFix p m c cc nL s args ja_T own ∧ jb_X s0 s G ad) {k : Nat} {x : Int32} (hx : x = nI k) (hk : k < 8) (hd : decode cc pc = .ok (.iaload, 1)) (hp : pc + 1 = q) (kk : ja_V p l e R s m args below meth c (jb_W G ad) s0.heap.size nL cells slots Q S q L (.int (S 47 k) :: st)) : ja_V p l e R s m args below meth c (jb_W G ad) s0.heap.size nL cells slots Q S pc L (.int x :: .ref (ad 22) :: st) := by
  subst hp; subst hx
  intro ls H locs hL hP hS
  refine va_iald O.1.1 O.1.2.1 O.2.2.1 hP 22 0 rfl rfl (vp_in_nI hk (by decide)) hd ?_
  rw [nI_clamp (show k < 2 ^ 31 by omega)]
  exact kk ls H locs hL hP hS
theorem jn_22 (O : CallFix p m c cc nL s args ja_T own ∧ jb_X s0 s G ad) (hd : decode cc pc = .ok (.arraylength, 1)) (hp : pc + 1 = q) (kk : ja_V p l e R s m args below meth c (jb_W G ad) s0.heap.size nL cells slots Q S q L (.int (nI 8) :: st)) : ja_V p l e R s m args below meth c (jb_W G ad) s0.heap.size nL cells slots Q S pc L (.ref (ad 22) :: st) := by
  subst hp
  exact fun ls H locs hL hP hS => va_alen O.1.1 O.1.2.1 O.2.2.1 hP 22 0 rfl rfl rfl hd (kk ls H locs hL hP hS)
theorem js_22 (O : CallFix p m c cc nL s args ja_T own ∧ jb_X s0 s G ad) {k : Nat} {x y : Int32} (hx : x = nI k) (hk : k < 8) (hd : decode cc pc = .ok (.iastore, 1)) (hp : pc + 1 = q) (kk : ja_V p l e R s m args below meth c (jb_W G ad) s0.heap.size nL cells slots Q (jb_u S 47 k y) q L st) : ja_V p l e R s m args below meth c (jb_W G ad) s0.heap.size nL cells slots Q S pc L (.int y :: .int x :: .ref (ad 22) :: st) := by
  subst hp; subst hx
  intro ls H locs hL hP hS
  refine va_iast O.1.1 O.1.2.1 O.2.2.1 hP (O.2.2.2.1.va S) hS 22 0 rfl rfl (vp_in_nI hk (by decide)) hd (fun H1 locs1 hP1 _ hS1 => ?_)
  rw [nI_clamp (show k < 2 ^ 31 by omega)] at hP1
  exact kk ls H1 locs1 hL (show va_P G.1 jb_cl (jb_en G ad _) H1 by rw [← jb_s47]; exact hP1) hS1
theorem jl_23 (O : CallFix p m c cc nL s args ja_T own ∧ jb_X s0 s G ad) {k : Nat} {x : Int32} (hx : x = nI k) (hk : k < 8) (hd : decode cc pc = .ok (.iaload, 1)) (hp : pc + 1 = q) (kk : ja_V p l e R s m args below meth c (jb_W G ad) s0.heap.size nL cells slots Q S q L (.int (S 48 k) :: st)) : ja_V p l e R s m args below meth c (jb_W G ad) s0.heap.size nL cells slots Q S pc L (.int x :: .ref (ad 23) :: st) := by
  subst hp; subst hx
  intro ls H locs hL hP hS
  refine va_iald O.1.1 O.1.2.1 O.2.2.1 hP 23 0 rfl rfl (vp_in_nI hk (by decide)) hd ?_
  rw [nI_clamp (show k < 2 ^ 31 by omega)]
  exact kk ls H locs hL hP hS
theorem jn_23 (O : CallFix p m c cc nL s args ja_T own ∧ jb_X s0 s G ad) (hd : decode cc pc = .ok (.arraylength, 1)) (hp : pc + 1 = q) (kk : ja_V p l e R s m args below meth c (jb_W G ad) s0.heap.size nL cells slots Q S q L (.int (nI 8) :: st)) : ja_V p l e R s m args below meth c (jb_W G ad) s0.heap.size nL cells slots Q S pc L (.ref (ad 23) :: st) := by
  subst hp
  exact fun ls H locs hL hP hS => va_alen O.1.1 O.1.2.1 O.2.2.1 hP 23 0 rfl rfl rfl hd (kk ls H locs hL hP hS)
theorem js_23 (O : CallFix p m c cc nL s args ja_T own ∧ jb_X s0 s G ad) {k : Nat} {x y : Int32} (hx : x = nI k) (hk : k < 8) (hd : decode cc pc = .ok (.iastore, 1)) (hp : pc + 1 = q) (kk : ja_V p l e R s m args below meth c (jb_W G ad) s0.heap.size nL cells slots Q (jb_u S 48 k y) q L st) : ja_V p l e R s m args below meth c (jb_W G ad) s0.heap.size nL cells slots Q S pc L (.int y :: .int x :: .ref (ad 23) :: st) := by
  subst hp; subst hx
  intro ls H locs hL hP hS
  refine va_iast O.1.1 O.1.2.1 O.2.2.1 hP (O.2.2.2.1.va S) hS 23 0 rfl rfl (vp_in_nI hk (by decide)) hd (fun H1 locs1 hP1 _ hS1 => ?_)
  rw [nI_clamp (show k < 2 ^ 31 by omega)] at hP1
  exact kk ls H1 locs1 hL (show va_P G.1 jb_cl (jb_en G ad _) H1 by rw [← jb_s48]; exact hP1) hS1
theorem jl_24 (O : CallFix p m c cc nL s args ja_T own ∧ jb_X s0 s G ad) {k : Nat} {x : Int32} (hx : x = nI k) (hk : k < 8) (hd : decode cc pc = .ok (.baload, 1)) (hp : pc + 1 = q) (kk : ja_V p l e R s m args below meth c (jb_W G ad) s0.heap.size nL cells slots Q S q L (.int (S 49 k) :: st)) : ja_V p l e R s m args below meth c (jb_W G ad) s0.heap.size nL cells slots Q S pc L (.int x :: .ref (ad 24) :: st) := by
  subst hp; subst hx
  intro ls H locs hL hP hS
  refine va_zald O.1.1 O.1.2.1 O.2.2.1 hP 24 1 rfl rfl (vp_in_nI hk (by decide)) hd ?_
  rw [nI_clamp (show k < 2 ^ 31 by omega)]
  exact kk ls H locs hL hP hS
theorem jn_24 (O : CallFix p m c cc nL s args ja_T own ∧ jb_X s0 s G ad) (hd : decode cc pc = .ok (.arraylength, 1)) (hp : pc + 1 = q) (kk : ja_V p l e R s m args below meth c (jb_W G ad) s0.heap.size nL cells slots Q S q L (.int (nI 8) :: st)) : ja_V p l e R s m args below meth c (jb_W G ad) s0.heap.size nL cells slots Q S pc L (.ref (ad 24) :: st) := by
  subst hp
  exact fun ls H locs hL hP hS => va_alen O.1.1 O.1.2.1 O.2.2.1 hP 24 1 rfl rfl rfl hd (kk ls H locs hL hP hS)
theorem js_24 (O : CallFix p m c cc nL s args ja_T own ∧ jb_X s0 s G ad) {k : Nat} {x y : Int32} (hx : x = nI k) (hk : k < 8) (hy : y = 0 ∨ y = 1) (hd : decode cc pc = .ok (.bastore, 1)) (hp : pc + 1 = q) (kk : ja_V p l e R s m args below meth c (jb_W G ad) s0.heap.size nL cells slots Q (jb_u S 49 k y) q L st) : ja_V p l e R s m args below meth c (jb_W G ad) s0.heap.size nL cells slots Q S pc L (.int y :: .int x :: .ref (ad 24) :: st) := by
  subst hp; subst hx
  intro ls H locs hL hP hS
  refine va_zast O.1.1 O.1.2.1 O.2.2.1 hP (O.2.2.2.1.va S) hS 24 1 rfl rfl (vp_in_nI hk (by decide)) hd (fun H1 locs1 hP1 _ hS1 => ?_)
  rw [nI_clamp (show k < 2 ^ 31 by omega), jb_vb hy] at hP1
  exact kk ls H1 locs1 hL (show va_P G.1 jb_cl (jb_en G ad _) H1 by rw [← jb_s49]; exact hP1) hS1
theorem jl_25 (O : CallFix p m c cc nL s args ja_T own ∧ jb_X s0 s G ad) {k : Nat} {x : Int32} (hx : x = nI k) (hk : k < 4) (hd : decode cc pc = .ok (.iaload, 1)) (hp : pc + 1 = q) (kk : ja_V p l e R s m args below meth c (jb_W G ad) s0.heap.size nL cells slots Q S q L (.int (S 50 k) :: st)) : ja_V p l e R s m args below meth c (jb_W G ad) s0.heap.size nL cells slots Q S pc L (.int x :: .ref (ad 25) :: st) := by
  subst hp; subst hx
  intro ls H locs hL hP hS
  refine va_iald O.1.1 O.1.2.1 O.2.2.1 hP 25 0 rfl rfl (vp_in_nI hk (by decide)) hd ?_
  rw [nI_clamp (show k < 2 ^ 31 by omega)]
  exact kk ls H locs hL hP hS
theorem jn_25 (O : CallFix p m c cc nL s args ja_T own ∧ jb_X s0 s G ad) (hd : decode cc pc = .ok (.arraylength, 1)) (hp : pc + 1 = q) (kk : ja_V p l e R s m args below meth c (jb_W G ad) s0.heap.size nL cells slots Q S q L (.int (nI 4) :: st)) : ja_V p l e R s m args below meth c (jb_W G ad) s0.heap.size nL cells slots Q S pc L (.ref (ad 25) :: st) := by
  subst hp
  exact fun ls H locs hL hP hS => va_alen O.1.1 O.1.2.1 O.2.2.1 hP 25 0 rfl rfl rfl hd (kk ls H locs hL hP hS)
theorem js_25 (O : CallFix p m c cc nL s args ja_T own ∧ jb_X s0 s G ad) {k : Nat} {x y : Int32} (hx : x = nI k) (hk : k < 4) (hd : decode cc pc = .ok (.iastore, 1)) (hp : pc + 1 = q) (kk : ja_V p l e R s m args below meth c (jb_W G ad) s0.heap.size nL cells slots Q (jb_u S 50 k y) q L st) : ja_V p l e R s m args below meth c (jb_W G ad) s0.heap.size nL cells slots Q S pc L (.int y :: .int x :: .ref (ad 25) :: st) := by
  subst hp; subst hx
  intro ls H locs hL hP hS
  refine va_iast O.1.1 O.1.2.1 O.2.2.1 hP (O.2.2.2.1.va S) hS 25 0 rfl rfl (vp_in_nI hk (by decide)) hd (fun H1 locs1 hP1 _ hS1 => ?_)
  rw [nI_clamp (show k < 2 ^ 31 by omega)] at hP1
  exact kk ls H1 locs1 hL (show va_P G.1 jb_cl (jb_en G ad _) H1 by rw [← jb_s50]; exact hP1) hS1
theorem jl_26 (O : CallFix p m c cc nL s args ja_T own ∧ jb_X s0 s G ad) {k : Nat} {x : Int32} (hx : x = nI k) (hk : k < 4) (hd : decode cc pc = .ok (.iaload, 1)) (hp : pc + 1 = q) (kk : ja_V p l e R s m args below meth c (jb_W G ad) s0.heap.size nL cells slots Q S q L (.int (S 51 k) :: st)) : ja_V p l e R s m args below meth c (jb_W G ad) s0.heap.size nL cells slots Q S pc L (.int x :: .ref (ad 26) :: st) := by
  subst hp; subst hx
  intro ls H locs hL hP hS
  refine va_iald O.1.1 O.1.2.1 O.2.2.1 hP 26 0 rfl rfl (vp_in_nI hk (by decide)) hd ?_
  rw [nI_clamp (show k < 2 ^ 31 by omega)]
  exact kk ls H locs hL hP hS
theorem jn_26 (O : CallFix p m c cc nL s args ja_T own ∧ jb_X s0 s G ad) (hd : decode cc pc = .ok (.arraylength, 1)) (hp : pc + 1 = q) (kk : ja_V p l e R s m args below meth c (jb_W G ad) s0.heap.size nL cells slots Q S q L (.int (nI 4) :: st)) : ja_V p l e R s m args below meth c (jb_W G ad) s0.heap.size nL cells slots Q S pc L (.ref (ad 26) :: st) := by
  subst hp
  exact fun ls H locs hL hP hS => va_alen O.1.1 O.1.2.1 O.2.2.1 hP 26 0 rfl rfl rfl hd (kk ls H locs hL hP hS)
theorem js_26 (O : CallFix p m c cc nL s args ja_T own ∧ jb_X s0 s G ad) {k : Nat} {x y : Int32} (hx : x = nI k) (hk : k < 4) (hd : decode cc pc = .ok (.iastore, 1)) (hp : pc + 1 = q) (kk : ja_V p l e R s m args below meth c (jb_W G ad) s0.heap.size nL cells slots Q (jb_u S 51 k y) q L st) : ja_V p l e R s m args below meth c (jb_W G ad) s0.heap.size nL cells slots Q S pc L (.int y :: .int x :: .ref (ad 26) :: st) := by
  subst hp; subst hx
  intro ls H locs hL hP hS
  refine va_iast O.1.1 O.1.2.1 O.2.2.1 hP (O.2.2.2.1.va S) hS 26 0 rfl rfl (vp_in_nI hk (by decide)) hd (fun H1 locs1 hP1 _ hS1 => ?_)
  rw [nI_clamp (show k < 2 ^ 31 by omega)] at hP1
  exact kk ls H1 locs1 hL (show va_P G.1 jb_cl (jb_en G ad _) H1 by rw [← jb_s51]; exact hP1) hS1
theorem jl_27 (O : CallFix p m c cc nL s args ja_T own ∧ jb_X s0 s G ad) {k : Nat} {x : Int32} (hx : x = nI k) (hk : k < 4) (hd : decode cc pc = .ok (.iaload, 1)) (hp : pc + 1 = q) (kk : ja_V p l e R s m args below meth c (jb_W G ad) s0.heap.size nL cells slots Q S q L (.int (S 52 k) :: st)) : ja_V p l e R s m args below meth c (jb_W G ad) s0.heap.size nL cells slots Q S pc L (.int x :: .ref (ad 27) :: st) := by
  subst hp; subst hx
  intro ls H locs hL hP hS
  refine va_iald O.1.1 O.1.2.1 O.2.2.1 hP 27 0 rfl rfl (vp_in_nI hk (by decide)) hd ?_
  rw [nI_clamp (show k < 2 ^ 31 by omega)]
  exact kk ls H locs hL hP hS
theorem jn_27 (O : CallFix p m c cc nL s args ja_T own ∧ jb_X s0 s G ad) (hd : decode cc pc = .ok (.arraylength, 1)) (hp : pc + 1 = q) (kk : ja_V p l e R s m args below meth c (jb_W G ad) s0.heap.size nL cells slots Q S q L (.int (nI 4) :: st)) : ja_V p l e R s m args below meth c (jb_W G ad) s0.heap.size nL cells slots Q S pc L (.ref (ad 27) :: st) := by
  subst hp
  exact fun ls H locs hL hP hS => va_alen O.1.1 O.1.2.1 O.2.2.1 hP 27 0 rfl rfl rfl hd (kk ls H locs hL hP hS)
theorem js_27 (O : CallFix p m c cc nL s args ja_T own ∧ jb_X s0 s G ad) {k : Nat} {x y : Int32} (hx : x = nI k) (hk : k < 4) (hd : decode cc pc = .ok (.iastore, 1)) (hp : pc + 1 = q) (kk : ja_V p l e R s m args below meth c (jb_W G ad) s0.heap.size nL cells slots Q (jb_u S 52 k y) q L st) : ja_V p l e R s m args below meth c (jb_W G ad) s0.heap.size nL cells slots Q S pc L (.int y :: .int x :: .ref (ad 27) :: st) := by
  subst hp; subst hx
  intro ls H locs hL hP hS
  refine va_iast O.1.1 O.1.2.1 O.2.2.1 hP (O.2.2.2.1.va S) hS 27 0 rfl rfl (vp_in_nI hk (by decide)) hd (fun H1 locs1 hP1 _ hS1 => ?_)
  rw [nI_clamp (show k < 2 ^ 31 by omega)] at hP1
  exact kk ls H1 locs1 hL (show va_P G.1 jb_cl (jb_en G ad _) H1 by rw [← jb_s52]; exact hP1) hS1
theorem jl_28 (O : CallFix p m c cc nL s args ja_T own ∧ jb_X s0 s G ad) {k : Nat} {x : Int32} (hx : x = nI k) (hk : k < 41) (hd : decode cc pc = .ok (.iaload, 1)) (hp : pc + 1 = q) (kk : ja_V p l e R s m args below meth c (jb_W G ad) s0.heap.size nL cells slots Q S q L (.int (S 53 k) :: st)) : ja_V p l e R s m args below meth c (jb_W G ad) s0.heap.size nL cells slots Q S pc L (.int x :: .ref (ad 28) :: st) := by
  subst hp; subst hx
  intro ls H locs hL hP hS
  refine va_iald O.1.1 O.1.2.1 O.2.2.1 hP 28 0 rfl rfl (vp_in_nI hk (by decide)) hd ?_
  rw [nI_clamp (show k < 2 ^ 31 by omega)]
  exact kk ls H locs hL hP hS
theorem jn_28 (O : CallFix p m c cc nL s args ja_T own ∧ jb_X s0 s G ad) (hd : decode cc pc = .ok (.arraylength, 1)) (hp : pc + 1 = q) (kk : ja_V p l e R s m args below meth c (jb_W G ad) s0.heap.size nL cells slots Q S q L (.int (nI 41) :: st)) : ja_V p l e R s m args below meth c (jb_W G ad) s0.heap.size nL cells slots Q S pc L (.ref (ad 28) :: st) := by
  subst hp
  exact fun ls H locs hL hP hS => va_alen O.1.1 O.1.2.1 O.2.2.1 hP 28 0 rfl rfl rfl hd (kk ls H locs hL hP hS)
theorem js_28 (O : CallFix p m c cc nL s args ja_T own ∧ jb_X s0 s G ad) {k : Nat} {x y : Int32} (hx : x = nI k) (hk : k < 41) (hd : decode cc pc = .ok (.iastore, 1)) (hp : pc + 1 = q) (kk : ja_V p l e R s m args below meth c (jb_W G ad) s0.heap.size nL cells slots Q (jb_u S 53 k y) q L st) : ja_V p l e R s m args below meth c (jb_W G ad) s0.heap.size nL cells slots Q S pc L (.int y :: .int x :: .ref (ad 28) :: st) := by
  subst hp; subst hx
  intro ls H locs hL hP hS
  refine va_iast O.1.1 O.1.2.1 O.2.2.1 hP (O.2.2.2.1.va S) hS 28 0 rfl rfl (vp_in_nI hk (by decide)) hd (fun H1 locs1 hP1 _ hS1 => ?_)
  rw [nI_clamp (show k < 2 ^ 31 by omega)] at hP1
  exact kk ls H1 locs1 hL (show va_P G.1 jb_cl (jb_en G ad _) H1 by rw [← jb_s53]; exact hP1) hS1
theorem jl_29 (O : CallFix p m c cc nL s args ja_T own ∧ jb_X s0 s G ad) {k : Nat} {x : Int32} (hx : x = nI k) (hk : k < 41) (hd : decode cc pc = .ok (.iaload, 1)) (hp : pc + 1 = q) (kk : ja_V p l e R s m args below meth c (jb_W G ad) s0.heap.size nL cells slots Q S q L (.int (S 54 k) :: st)) : ja_V p l e R s m args below meth c (jb_W G ad) s0.heap.size nL cells slots Q S pc L (.int x :: .ref (ad 29) :: st) := by
  subst hp; subst hx
  intro ls H locs hL hP hS
  refine va_iald O.1.1 O.1.2.1 O.2.2.1 hP 29 0 rfl rfl (vp_in_nI hk (by decide)) hd ?_
  rw [nI_clamp (show k < 2 ^ 31 by omega)]
  exact kk ls H locs hL hP hS
theorem jn_29 (O : CallFix p m c cc nL s args ja_T own ∧ jb_X s0 s G ad) (hd : decode cc pc = .ok (.arraylength, 1)) (hp : pc + 1 = q) (kk : ja_V p l e R s m args below meth c (jb_W G ad) s0.heap.size nL cells slots Q S q L (.int (nI 41) :: st)) : ja_V p l e R s m args below meth c (jb_W G ad) s0.heap.size nL cells slots Q S pc L (.ref (ad 29) :: st) := by
  subst hp
  exact fun ls H locs hL hP hS => va_alen O.1.1 O.1.2.1 O.2.2.1 hP 29 0 rfl rfl rfl hd (kk ls H locs hL hP hS)
theorem js_29 (O : CallFix p m c cc nL s args ja_T own ∧ jb_X s0 s G ad) {k : Nat} {x y : Int32} (hx : x = nI k) (hk : k < 41) (hd : decode cc pc = .ok (.iastore, 1)) (hp : pc + 1 = q) (kk : ja_V p l e R s m args below meth c (jb_W G ad) s0.heap.size nL cells slots Q (jb_u S 54 k y) q L st) : ja_V p l e R s m args below meth c (jb_W G ad) s0.heap.size nL cells slots Q S pc L (.int y :: .int x :: .ref (ad 29) :: st) := by
  subst hp; subst hx
  intro ls H locs hL hP hS
  refine va_iast O.1.1 O.1.2.1 O.2.2.1 hP (O.2.2.2.1.va S) hS 29 0 rfl rfl (vp_in_nI hk (by decide)) hd (fun H1 locs1 hP1 _ hS1 => ?_)
  rw [nI_clamp (show k < 2 ^ 31 by omega)] at hP1
  exact kk ls H1 locs1 hL (show va_P G.1 jb_cl (jb_en G ad _) H1 by rw [← jb_s54]; exact hP1) hS1
theorem jl_30 (O : CallFix p m c cc nL s args ja_T own ∧ jb_X s0 s G ad) {k : Nat} {x : Int32} (hx : x = nI k) (hk : k < 41) (hd : decode cc pc = .ok (.iaload, 1)) (hp : pc + 1 = q) (kk : ja_V p l e R s m args below meth c (jb_W G ad) s0.heap.size nL cells slots Q S q L (.int (S 55 k) :: st)) : ja_V p l e R s m args below meth c (jb_W G ad) s0.heap.size nL cells slots Q S pc L (.int x :: .ref (ad 30) :: st) := by
  subst hp; subst hx
  intro ls H locs hL hP hS
  refine va_iald O.1.1 O.1.2.1 O.2.2.1 hP 30 0 rfl rfl (vp_in_nI hk (by decide)) hd ?_
  rw [nI_clamp (show k < 2 ^ 31 by omega)]
  exact kk ls H locs hL hP hS
theorem jn_30 (O : CallFix p m c cc nL s args ja_T own ∧ jb_X s0 s G ad) (hd : decode cc pc = .ok (.arraylength, 1)) (hp : pc + 1 = q) (kk : ja_V p l e R s m args below meth c (jb_W G ad) s0.heap.size nL cells slots Q S q L (.int (nI 41) :: st)) : ja_V p l e R s m args below meth c (jb_W G ad) s0.heap.size nL cells slots Q S pc L (.ref (ad 30) :: st) := by
  subst hp
  exact fun ls H locs hL hP hS => va_alen O.1.1 O.1.2.1 O.2.2.1 hP 30 0 rfl rfl rfl hd (kk ls H locs hL hP hS)
theorem js_30 (O : CallFix p m c cc nL s args ja_T own ∧ jb_X s0 s G ad) {k : Nat} {x y : Int32} (hx : x = nI k) (hk : k < 41) (hd : decode cc pc = .ok (.iastore, 1)) (hp : pc + 1 = q) (kk : ja_V p l e R s m args below meth c (jb_W G ad) s0.heap.size nL cells slots Q (jb_u S 55 k y) q L st) : ja_V p l e R s m args below meth c (jb_W G ad) s0.heap.size nL cells slots Q S pc L (.int y :: .int x :: .ref (ad 30) :: st) := by
  subst hp; subst hx
  intro ls H locs hL hP hS
  refine va_iast O.1.1 O.1.2.1 O.2.2.1 hP (O.2.2.2.1.va S) hS 30 0 rfl rfl (vp_in_nI hk (by decide)) hd (fun H1 locs1 hP1 _ hS1 => ?_)
  rw [nI_clamp (show k < 2 ^ 31 by omega)] at hP1
  exact kk ls H1 locs1 hL (show va_P G.1 jb_cl (jb_en G ad _) H1 by rw [← jb_s55]; exact hP1) hS1
theorem jl_31 (O : CallFix p m c cc nL s args ja_T own ∧ jb_X s0 s G ad) {k : Nat} {x : Int32} (hx : x = nI k) (hk : k < 41) (hd : decode cc pc = .ok (.iaload, 1)) (hp : pc + 1 = q) (kk : ja_V p l e R s m args below meth c (jb_W G ad) s0.heap.size nL cells slots Q S q L (.int (S 56 k) :: st)) : ja_V p l e R s m args below meth c (jb_W G ad) s0.heap.size nL cells slots Q S pc L (.int x :: .ref (ad 31) :: st) := by
  subst hp; subst hx
  intro ls H locs hL hP hS
  refine va_iald O.1.1 O.1.2.1 O.2.2.1 hP 31 0 rfl rfl (vp_in_nI hk (by decide)) hd ?_
  rw [nI_clamp (show k < 2 ^ 31 by omega)]
  exact kk ls H locs hL hP hS
theorem jn_31 (O : CallFix p m c cc nL s args ja_T own ∧ jb_X s0 s G ad) (hd : decode cc pc = .ok (.arraylength, 1)) (hp : pc + 1 = q) (kk : ja_V p l e R s m args below meth c (jb_W G ad) s0.heap.size nL cells slots Q S q L (.int (nI 41) :: st)) : ja_V p l e R s m args below meth c (jb_W G ad) s0.heap.size nL cells slots Q S pc L (.ref (ad 31) :: st) := by
  subst hp
  exact fun ls H locs hL hP hS => va_alen O.1.1 O.1.2.1 O.2.2.1 hP 31 0 rfl rfl rfl hd (kk ls H locs hL hP hS)
theorem js_31 (O : CallFix p m c cc nL s args ja_T own ∧ jb_X s0 s G ad) {k : Nat} {x y : Int32} (hx : x = nI k) (hk : k < 41) (hd : decode cc pc = .ok (.iastore, 1)) (hp : pc + 1 = q) (kk : ja_V p l e R s m args below meth c (jb_W G ad) s0.heap.size nL cells slots Q (jb_u S 56 k y) q L st) : ja_V p l e R s m args below meth c (jb_W G ad) s0.heap.size nL cells slots Q S pc L (.int y :: .int x :: .ref (ad 31) :: st) := by
  subst hp; subst hx
  intro ls H locs hL hP hS
  refine va_iast O.1.1 O.1.2.1 O.2.2.1 hP (O.2.2.2.1.va S) hS 31 0 rfl rfl (vp_in_nI hk (by decide)) hd (fun H1 locs1 hP1 _ hS1 => ?_)
  rw [nI_clamp (show k < 2 ^ 31 by omega)] at hP1
  exact kk ls H1 locs1 hL (show va_P G.1 jb_cl (jb_en G ad _) H1 by rw [← jb_s56]; exact hP1) hS1
theorem jl_32 (O : CallFix p m c cc nL s args ja_T own ∧ jb_X s0 s G ad) {k : Nat} {x : Int32} (hx : x = nI k) (hk : k < 41) (hd : decode cc pc = .ok (.iaload, 1)) (hp : pc + 1 = q) (kk : ja_V p l e R s m args below meth c (jb_W G ad) s0.heap.size nL cells slots Q S q L (.int (S 57 k) :: st)) : ja_V p l e R s m args below meth c (jb_W G ad) s0.heap.size nL cells slots Q S pc L (.int x :: .ref (ad 32) :: st) := by
  subst hp; subst hx
  intro ls H locs hL hP hS
  refine va_iald O.1.1 O.1.2.1 O.2.2.1 hP 32 0 rfl rfl (vp_in_nI hk (by decide)) hd ?_
  rw [nI_clamp (show k < 2 ^ 31 by omega)]
  exact kk ls H locs hL hP hS
theorem jn_32 (O : CallFix p m c cc nL s args ja_T own ∧ jb_X s0 s G ad) (hd : decode cc pc = .ok (.arraylength, 1)) (hp : pc + 1 = q) (kk : ja_V p l e R s m args below meth c (jb_W G ad) s0.heap.size nL cells slots Q S q L (.int (nI 41) :: st)) : ja_V p l e R s m args below meth c (jb_W G ad) s0.heap.size nL cells slots Q S pc L (.ref (ad 32) :: st) := by
  subst hp
  exact fun ls H locs hL hP hS => va_alen O.1.1 O.1.2.1 O.2.2.1 hP 32 0 rfl rfl rfl hd (kk ls H locs hL hP hS)
theorem js_32 (O : CallFix p m c cc nL s args ja_T own ∧ jb_X s0 s G ad) {k : Nat} {x y : Int32} (hx : x = nI k) (hk : k < 41) (hd : decode cc pc = .ok (.iastore, 1)) (hp : pc + 1 = q) (kk : ja_V p l e R s m args below meth c (jb_W G ad) s0.heap.size nL cells slots Q (jb_u S 57 k y) q L st) : ja_V p l e R s m args below meth c (jb_W G ad) s0.heap.size nL cells slots Q S pc L (.int y :: .int x :: .ref (ad 32) :: st) := by
  subst hp; subst hx
  intro ls H locs hL hP hS
  refine va_iast O.1.1 O.1.2.1 O.2.2.1 hP (O.2.2.2.1.va S) hS 32 0 rfl rfl (vp_in_nI hk (by decide)) hd (fun H1 locs1 hP1 _ hS1 => ?_)
  rw [nI_clamp (show k < 2 ^ 31 by omega)] at hP1
  exact kk ls H1 locs1 hL (show va_P G.1 jb_cl (jb_en G ad _) H1 by rw [← jb_s57]; exact hP1) hS1
theorem jl_33 (O : CallFix p m c cc nL s args ja_T own ∧ jb_X s0 s G ad) {k : Nat} {x : Int32} (hx : x = nI k) (hk : k < 41) (hd : decode cc pc = .ok (.baload, 1)) (hp : pc + 1 = q) (kk : ja_V p l e R s m args below meth c (jb_W G ad) s0.heap.size nL cells slots Q S q L (.int (S 58 k) :: st)) : ja_V p l e R s m args below meth c (jb_W G ad) s0.heap.size nL cells slots Q S pc L (.int x :: .ref (ad 33) :: st) := by
  subst hp; subst hx
  intro ls H locs hL hP hS
  refine va_zald O.1.1 O.1.2.1 O.2.2.1 hP 33 1 rfl rfl (vp_in_nI hk (by decide)) hd ?_
  rw [nI_clamp (show k < 2 ^ 31 by omega)]
  exact kk ls H locs hL hP hS
theorem jn_33 (O : CallFix p m c cc nL s args ja_T own ∧ jb_X s0 s G ad) (hd : decode cc pc = .ok (.arraylength, 1)) (hp : pc + 1 = q) (kk : ja_V p l e R s m args below meth c (jb_W G ad) s0.heap.size nL cells slots Q S q L (.int (nI 41) :: st)) : ja_V p l e R s m args below meth c (jb_W G ad) s0.heap.size nL cells slots Q S pc L (.ref (ad 33) :: st) := by
  subst hp
  exact fun ls H locs hL hP hS => va_alen O.1.1 O.1.2.1 O.2.2.1 hP 33 1 rfl rfl rfl hd (kk ls H locs hL hP hS)
theorem js_33 (O : CallFix p m c cc nL s args ja_T own ∧ jb_X s0 s G ad) {k : Nat} {x y : Int32} (hx : x = nI k) (hk : k < 41) (hy : y = 0 ∨ y = 1) (hd : decode cc pc = .ok (.bastore, 1)) (hp : pc + 1 = q) (kk : ja_V p l e R s m args below meth c (jb_W G ad) s0.heap.size nL cells slots Q (jb_u S 58 k y) q L st) : ja_V p l e R s m args below meth c (jb_W G ad) s0.heap.size nL cells slots Q S pc L (.int y :: .int x :: .ref (ad 33) :: st) := by
  subst hp; subst hx
  intro ls H locs hL hP hS
  refine va_zast O.1.1 O.1.2.1 O.2.2.1 hP (O.2.2.2.1.va S) hS 33 1 rfl rfl (vp_in_nI hk (by decide)) hd (fun H1 locs1 hP1 _ hS1 => ?_)
  rw [nI_clamp (show k < 2 ^ 31 by omega), jb_vb hy] at hP1
  exact kk ls H1 locs1 hL (show va_P G.1 jb_cl (jb_en G ad _) H1 by rw [← jb_s58]; exact hP1) hS1
theorem jl_34 (O : CallFix p m c cc nL s args ja_T own ∧ jb_X s0 s G ad) {k : Nat} {x : Int32} (hx : x = nI k) (hk : k < 80) (hd : decode cc pc = .ok (.iaload, 1)) (hp : pc + 1 = q) (kk : ja_V p l e R s m args below meth c (jb_W G ad) s0.heap.size nL cells slots Q S q L (.int (S 59 k) :: st)) : ja_V p l e R s m args below meth c (jb_W G ad) s0.heap.size nL cells slots Q S pc L (.int x :: .ref (ad 34) :: st) := by
  subst hp; subst hx
  intro ls H locs hL hP hS
  refine va_iald O.1.1 O.1.2.1 O.2.2.1 hP 34 0 rfl rfl (vp_in_nI hk (by decide)) hd ?_
  rw [nI_clamp (show k < 2 ^ 31 by omega)]
  exact kk ls H locs hL hP hS
theorem jn_34 (O : CallFix p m c cc nL s args ja_T own ∧ jb_X s0 s G ad) (hd : decode cc pc = .ok (.arraylength, 1)) (hp : pc + 1 = q) (kk : ja_V p l e R s m args below meth c (jb_W G ad) s0.heap.size nL cells slots Q S q L (.int (nI 80) :: st)) : ja_V p l e R s m args below meth c (jb_W G ad) s0.heap.size nL cells slots Q S pc L (.ref (ad 34) :: st) := by
  subst hp
  exact fun ls H locs hL hP hS => va_alen O.1.1 O.1.2.1 O.2.2.1 hP 34 0 rfl rfl rfl hd (kk ls H locs hL hP hS)
theorem js_34 (O : CallFix p m c cc nL s args ja_T own ∧ jb_X s0 s G ad) {k : Nat} {x y : Int32} (hx : x = nI k) (hk : k < 80) (hd : decode cc pc = .ok (.iastore, 1)) (hp : pc + 1 = q) (kk : ja_V p l e R s m args below meth c (jb_W G ad) s0.heap.size nL cells slots Q (jb_u S 59 k y) q L st) : ja_V p l e R s m args below meth c (jb_W G ad) s0.heap.size nL cells slots Q S pc L (.int y :: .int x :: .ref (ad 34) :: st) := by
  subst hp; subst hx
  intro ls H locs hL hP hS
  refine va_iast O.1.1 O.1.2.1 O.2.2.1 hP (O.2.2.2.1.va S) hS 34 0 rfl rfl (vp_in_nI hk (by decide)) hd (fun H1 locs1 hP1 _ hS1 => ?_)
  rw [nI_clamp (show k < 2 ^ 31 by omega)] at hP1
  exact kk ls H1 locs1 hL (show va_P G.1 jb_cl (jb_en G ad _) H1 by rw [← jb_s59]; exact hP1) hS1
theorem jl_35 (O : CallFix p m c cc nL s args ja_T own ∧ jb_X s0 s G ad) {k : Nat} {x : Int32} (hx : x = nI k) (hk : k < 80) (hd : decode cc pc = .ok (.iaload, 1)) (hp : pc + 1 = q) (kk : ja_V p l e R s m args below meth c (jb_W G ad) s0.heap.size nL cells slots Q S q L (.int (S 60 k) :: st)) : ja_V p l e R s m args below meth c (jb_W G ad) s0.heap.size nL cells slots Q S pc L (.int x :: .ref (ad 35) :: st) := by
  subst hp; subst hx
  intro ls H locs hL hP hS
  refine va_iald O.1.1 O.1.2.1 O.2.2.1 hP 35 0 rfl rfl (vp_in_nI hk (by decide)) hd ?_
  rw [nI_clamp (show k < 2 ^ 31 by omega)]
  exact kk ls H locs hL hP hS
theorem jn_35 (O : CallFix p m c cc nL s args ja_T own ∧ jb_X s0 s G ad) (hd : decode cc pc = .ok (.arraylength, 1)) (hp : pc + 1 = q) (kk : ja_V p l e R s m args below meth c (jb_W G ad) s0.heap.size nL cells slots Q S q L (.int (nI 80) :: st)) : ja_V p l e R s m args below meth c (jb_W G ad) s0.heap.size nL cells slots Q S pc L (.ref (ad 35) :: st) := by
  subst hp
  exact fun ls H locs hL hP hS => va_alen O.1.1 O.1.2.1 O.2.2.1 hP 35 0 rfl rfl rfl hd (kk ls H locs hL hP hS)
theorem js_35 (O : CallFix p m c cc nL s args ja_T own ∧ jb_X s0 s G ad) {k : Nat} {x y : Int32} (hx : x = nI k) (hk : k < 80) (hd : decode cc pc = .ok (.iastore, 1)) (hp : pc + 1 = q) (kk : ja_V p l e R s m args below meth c (jb_W G ad) s0.heap.size nL cells slots Q (jb_u S 60 k y) q L st) : ja_V p l e R s m args below meth c (jb_W G ad) s0.heap.size nL cells slots Q S pc L (.int y :: .int x :: .ref (ad 35) :: st) := by
  subst hp; subst hx
  intro ls H locs hL hP hS
  refine va_iast O.1.1 O.1.2.1 O.2.2.1 hP (O.2.2.2.1.va S) hS 35 0 rfl rfl (vp_in_nI hk (by decide)) hd (fun H1 locs1 hP1 _ hS1 => ?_)
  rw [nI_clamp (show k < 2 ^ 31 by omega)] at hP1
  exact kk ls H1 locs1 hL (show va_P G.1 jb_cl (jb_en G ad _) H1 by rw [← jb_s60]; exact hP1) hS1
theorem jl_36 (O : CallFix p m c cc nL s args ja_T own ∧ jb_X s0 s G ad) {k : Nat} {x : Int32} (hx : x = nI k) (hk : k < 8) (hd : decode cc pc = .ok (.iaload, 1)) (hp : pc + 1 = q) (kk : ja_V p l e R s m args below meth c (jb_W G ad) s0.heap.size nL cells slots Q S q L (.int (S 61 k) :: st)) : ja_V p l e R s m args below meth c (jb_W G ad) s0.heap.size nL cells slots Q S pc L (.int x :: .ref (ad 36) :: st) := by
  subst hp; subst hx
  intro ls H locs hL hP hS
  refine va_iald O.1.1 O.1.2.1 O.2.2.1 hP 36 0 rfl rfl (vp_in_nI hk (by decide)) hd ?_
  rw [nI_clamp (show k < 2 ^ 31 by omega)]
  exact kk ls H locs hL hP hS
theorem jn_36 (O : CallFix p m c cc nL s args ja_T own ∧ jb_X s0 s G ad) (hd : decode cc pc = .ok (.arraylength, 1)) (hp : pc + 1 = q) (kk : ja_V p l e R s m args below meth c (jb_W G ad) s0.heap.size nL cells slots Q S q L (.int (nI 8) :: st)) : ja_V p l e R s m args below meth c (jb_W G ad) s0.heap.size nL cells slots Q S pc L (.ref (ad 36) :: st) := by
  subst hp
  exact fun ls H locs hL hP hS => va_alen O.1.1 O.1.2.1 O.2.2.1 hP 36 0 rfl rfl rfl hd (kk ls H locs hL hP hS)
theorem js_36 (O : CallFix p m c cc nL s args ja_T own ∧ jb_X s0 s G ad) {k : Nat} {x y : Int32} (hx : x = nI k) (hk : k < 8) (hd : decode cc pc = .ok (.iastore, 1)) (hp : pc + 1 = q) (kk : ja_V p l e R s m args below meth c (jb_W G ad) s0.heap.size nL cells slots Q (jb_u S 61 k y) q L st) : ja_V p l e R s m args below meth c (jb_W G ad) s0.heap.size nL cells slots Q S pc L (.int y :: .int x :: .ref (ad 36) :: st) := by
  subst hp; subst hx
  intro ls H locs hL hP hS
  refine va_iast O.1.1 O.1.2.1 O.2.2.1 hP (O.2.2.2.1.va S) hS 36 0 rfl rfl (vp_in_nI hk (by decide)) hd (fun H1 locs1 hP1 _ hS1 => ?_)
  rw [nI_clamp (show k < 2 ^ 31 by omega)] at hP1
  exact kk ls H1 locs1 hL (show va_P G.1 jb_cl (jb_en G ad _) H1 by rw [← jb_s61]; exact hP1) hS1
theorem jl_37 (O : CallFix p m c cc nL s args ja_T own ∧ jb_X s0 s G ad) {k : Nat} {x : Int32} (hx : x = nI k) (hk : k < 1) (hd : decode cc pc = .ok (.laload, 1)) (hp : pc + 1 = q) (kk : ja_V p l e R s m args below meth c (jb_W G ad) s0.heap.size nL cells slots Q S q L (.long (S 62 k).toInt64 :: st)) : ja_V p l e R s m args below meth c (jb_W G ad) s0.heap.size nL cells slots Q S pc L (.int x :: .ref (ad 37) :: st) := by
  subst hp; subst hx
  intro ls H locs hL hP hS
  refine va_lald O.1.1 O.1.2.1 O.2.2.1 hP 37 2 rfl rfl (vp_in_nI hk (by decide)) hd ?_
  rw [nI_clamp (show k < 2 ^ 31 by omega)]
  exact kk ls H locs hL hP hS
theorem jn_37 (O : CallFix p m c cc nL s args ja_T own ∧ jb_X s0 s G ad) (hd : decode cc pc = .ok (.arraylength, 1)) (hp : pc + 1 = q) (kk : ja_V p l e R s m args below meth c (jb_W G ad) s0.heap.size nL cells slots Q S q L (.int (nI 1) :: st)) : ja_V p l e R s m args below meth c (jb_W G ad) s0.heap.size nL cells slots Q S pc L (.ref (ad 37) :: st) := by
  subst hp
  exact fun ls H locs hL hP hS => va_alen O.1.1 O.1.2.1 O.2.2.1 hP 37 2 rfl rfl rfl hd (kk ls H locs hL hP hS)
end JB
end
section
/-! CONTRACTS OVER THE WORLD, by program (wip/whole/gen/gen_calls.py). s0 is the law's entry: its words and its old cells are what every later state inherits -/
def jo_G (s0 : State) (a0 : Array Value) (G : jb_Gt) (ad : Nat → Nat) : Prop := (∀ w ∈ lw_tbl, w.before a0 s0 = true) ∧ va_K G.1 jb_cl (jb_ty G.2) s0 ∧ jb_D s0.heap.size ad ∧ (Jvm.Cond.and given_1 narrow_1).before a0 s0 = true
def jo_B (s0 : State) (G : jb_Gt) (ad : Nat → Nat) (S : ja_S) (U : State) : Prop := s0.WarmedH U.vm ∧ va_P G.1 jb_cl (jb_en G ad S) U.heap ∧ s0.heap.size ≤ U.heap.size ∧ ∀ q, q < s0.heap.size → U.heap[q]? = s0.heap[q]?
def jo_P (s0 : State) (G : jb_Gt) (ad : Nat → Nat) (S : ja_S) (As : List Value) : Array Value → State → Prop := va_Pc As (jo_B s0 G ad S)
def jo_Q (s0 : State) (G : jb_Gt) (ad : Nat → Nat) (post : Option Value → ja_S → Prop) : Array Value → State → Outcome → State → Prop := fun _ st o t => (∃ v S', o = .returned v ∧ post v S' ∧ va_P G.1 jb_cl (jb_en G ad S') t.heap) ∧ va_F (fun q => s0.heap.size ≤ q) st t
abbrev jo_r (d : Nat) : Room := { frames := d, cells := 0, slots := 0, locals := 40 * d }
/-- y, called with As in the state S, returns: post of its answer and of the state behind it -/
def jo_C (l : Launch) (s0 : State) (G : jb_Gt) (ad : Nat → Nat) (y : MethodName) (cc : ByteArray) (n : Nat) (ret : Option FieldType) (d : Nat) (As : List Value) (S : ja_S) (post : Option Value → ja_S → Prop) : Prop :=
  Met l y [Cond.code y cc n ret] (jo_r d) (jo_P s0 G ad S As) (jo_Q s0 G ad post) 0 0 (fun q => s0.heap.size ≤ q)
abbrev jo_i (P : Int32 → ja_S → Prop) : Option Value → ja_S → Prop := fun v S' => ∃ r, v = some (.int r) ∧ P r S'
abbrev jo_v (P : ja_S → Prop) : Option Value → ja_S → Prop := fun v S' => v = none ∧ P S'
abbrev jo_a (P : Nat → ja_S → Prop) : Option Value → ja_S → Prop := fun v S' => ∃ r, v = some (.ref r) ∧ P r S'
abbrev jo_M (s0 : State) (G : jb_Gt) (ad : Nat → Nat) (below : List Frame) (args : Array Value) (s : State) (post : Option Value → ja_S → Prop) : State → Prop := MQ below (jo_Q s0 G ad post) args s 0 0 (fun q => s0.heap.size ≤ q)
theorem jo_blind {s0 : State} {G : jb_Gt} {ad : Nat → Nat} {S : ja_S} {As : List Value} : FrameBlind (jo_P s0 G ad S As) := fun _ _ _ _ h => h
theorem jo_words {s0 s : State} {a0 args : Array Value} {G : jb_Gt} {ad : Nat → Nat} (K : jo_G s0 a0 G ad) (hW : s0.WarmedH s.vm) : ∀ w ∈ ja_T, w.before args s = true := fun w hw =>
  word_at hW (good_of_word (List.mem_filter.mp hw).2) (K.1 w (List.mem_filter.mp hw).1)
theorem jo_X {s0 s : State} {a0 : Array Value} {G : jb_Gt} {ad : Nat → Nat} {S : ja_S} (K : jo_G s0 a0 G ad) (h : jo_B s0 G ad S s) : jb_X s0 s G ad := ⟨h.1, va_K.moved h.1.alike K.2.1, K.2.2.1, h.2.2.1, h.2.2.2⟩
def jo_cat (As : List Value) : Bool := As.all (fun v => v.category == 1)
theorem jo_en : ∀ {As : List Value} {i : Nat}, jo_cat As = true → ∀ q ∈ lv_args i As, q.2.category = 1
  | [], _, _, q, hq => by cases hq
  | v :: t, i, h, q, hq => by
    have h' : (v.category == 1) = true ∧ jo_cat t = true := by simpa [jo_cat] using h
    rcases List.mem_cons.mp hq with e | e
    · subst e; simpa using h'.1
    · exact jo_en h'.2 q e
theorem jo_of {l : Launch} {s0 : State} {a0 : Array Value} {G : jb_Gt} {ad : Nat → Nat} {y : MethodName} {cc : ByteArray} {n : Nat} {ret : Option FieldType} {d : Nat} {As : List Value} {S : ja_S} {post : Option Value → ja_S → Prop} (K : jo_G s0 a0 G ad) (hy : plainName y.cls = true) (hc : jo_cat As = true) (hn : (lg_sl As).length ≤ n)
    (body : ∀ (p : Program) (e : Env) (s : State) (m : MethodId) (args : Array Value) (below : List Frame) (meth : Method) (c : Code), CallFix p m c cc n s args ja_T y.cls ∧ jb_X s0 s G ad → meth.sig.returnType = ret → meth.locks = false →
      ja_V p l e (jo_r d) s m args below meth c (jb_W G ad) s0.heap.size n 0 0 (jo_M s0 G ad below args s post) S 0 (lv_args 0 As) []) : jo_C l s0 G ad y cc n ret d As S post := by
  refine Met.ofW (cc := cc) (maxL := n) (ret := ret) hy rfl ?_
  intro p e s m args below meth c s₁ B hml hv
  obtain ⟨rfl, hB⟩ := hv
  have hown : s.vm.findClass y.cls = some m.cls := findClass_of_methodNamed B.named
  have hl := lv_entry As (n := n) hn
  rw [lg_entry_eq]
  exact body p e s m _ below meth c ⟨⟨B.exec, B.bytes, hml, hown, jo_words K hB.1⟩, jo_X K hB⟩ B.returns B.notSynchronized _ s.heap [] ⟨⟨hl.1, hl.2.1, fun q hq => hl.2.2 q (ja_nd_mem hq)⟩, jo_en hc⟩ hB.2.1 va_S.rf
section JK
variable {p : Program} {l : Launch} {e : Env} {R : Room} {s s0 : State} {m : MethodId} {args : Array Value} {below : List Frame} {meth : Method} {c : Code} {G : jb_Gt} {ad : Nat → Nat} {nL cells slots : Nat} {Q : State → Prop} {S : ja_S} {pc q : Nat} {L : List (Nat × Value)} {st : List Value} {cc : ByteArray} {own : String}
theorem jo_ir (O : CallFix p m c cc nL s args ja_T own ∧ jb_X s0 s G ad) (hr : meth.sig.returnType = some .int) (hk : meth.locks = false) {x : Int32} {P : Int32 → ja_S → Prop} (h : P x S) (hd : decode cc pc = .ok (.ireturn, 1)) : ja_V p l e R s m args below meth c (jb_W G ad) s0.heap.size nL 0 0 (jo_M s0 G ad below args s (jo_i P)) S pc L [.int x] :=
  fun ls H locs hL hP hS => W.iret (v := x) O.1.1 O.1.2.1 hr (fun t ht hW => ⟨⟨_, S, rfl, ⟨x, rfl, h⟩, by rw [ht]; exact hP⟩, hS.F ht⟩) hS.2.2 hd hk
theorem jo_zr (O : CallFix p m c cc nL s args ja_T own ∧ jb_X s0 s G ad) (hr : meth.sig.returnType = some .boolean) (hk : meth.locks = false) {x : Int32} {P : Int32 → ja_S → Prop} (hx : x = 0 ∨ x = 1) (h : P x S) (hd : decode cc pc = .ok (.ireturn, 1)) : ja_V p l e R s m args below meth c (jb_W G ad) s0.heap.size nL 0 0 (jo_M s0 G ad below args s (jo_i P)) S pc L [.int x] :=
  fun ls H locs hL hP hS => W.zret (v := x) O.1.1 O.1.2.1 hr (jb_nb hx) (fun t ht hW => ⟨⟨_, S, rfl, ⟨x, rfl, h⟩, by rw [ht]; exact hP⟩, hS.F ht⟩) hS.2.2 hd hk
theorem jo_vr (O : CallFix p m c cc nL s args ja_T own ∧ jb_X s0 s G ad) (hr : meth.sig.returnType = none) (hk : meth.locks = false) {P : ja_S → Prop} (h : P S) (hd : decode cc pc = .ok (.return_, 1)) : ja_V p l e R s m args below meth c (jb_W G ad) s0.heap.size nL 0 0 (jo_M s0 G ad below args s (jo_v P)) S pc L [] :=
  fun ls H locs hL hP hS => W.vret O.1.1 O.1.2.1 hr (fun t ht hW => ⟨⟨_, S, rfl, ⟨rfl, h⟩, by rw [ht]; exact hP⟩, hS.F ht⟩) hS.2.2 hd hk
theorem jo_ar (O : CallFix p m c cc nL s args ja_T own ∧ jb_X s0 s G ad) {rt : FieldType} (hr : meth.sig.returnType = some rt) (hk : meth.locks = false) (hrt : (∃ n, rt = .object n) ∨ ∃ t, rt = .array t) {x : Nat} {P : Nat → ja_S → Prop} (h : P x S) (hd : decode cc pc = .ok (.areturn, 1)) : ja_V p l e R s m args below meth c (jb_W G ad) s0.heap.size nL 0 0 (jo_M s0 G ad below args s (jo_a P)) S pc L [.ref x] :=
  fun ls H locs hL hP hS => W.aret (v := .ref x) O.1.1 O.1.2.1 hr hrt (Or.inr ⟨x, rfl⟩) (fun t ht hW => ⟨⟨_, S, rfl, ⟨x, rfl, h⟩, by rw [ht]; exact hP⟩, hS.F ht⟩) hS.2.2 hd hk
theorem jo_go {H : Heap} {locs : List Loc} {ls : Array Slot} {st0 rest : List Value} {post : Option Value → ja_S → Prop} {a : Array Value} {mc ms : Nat} (hr : va_Run p l e R s m args below meth c H locs cells slots mc ms (F0 m pc ls st0) rest (jo_Q s0 G ad post a) (fun q => s0.heap.size ≤ q)) (hS : va_S (fun q => s0.heap.size ≤ q) s.heap H locs)
    (kk : ∀ (v : Option Value) (S' : ja_S) (H1 : Heap) (locs1 : List Loc), post v S' → va_P G.1 jb_cl (jb_en G ad S') H1 → va_S (fun q => s0.heap.size ≤ q) s.heap H1 locs1 → W p l e R s m args below meth c H1 locs1 (cells + mc) (slots + ms) Q (F0 m (pc + 3) ls (v.toList ++ rest))) : W p l e R s m args below meth c H locs cells slots Q (F0 m pc ls st0) := by
  intro T hT X
  obtain ⟨v, st₀, t, T', Ls, h0, X', hL, e1, e2, ⟨⟨v', S', hv, hp, hb⟩, hz, hk⟩, st⟩ := hr T hT X
  cases hv
  rw [h0] at hz hk
  obtain ⟨t2, a1, b1⟩ := kk v S' T'.heap (locs ++ Ls) hp (by rw [e1]; exact hb)
    ⟨Nat.le_trans hS.1 (by rw [e1]; exact hz), fun q h1 h2 => by rw [e1, hk q (Nat.lt_of_lt_of_le h1 hS.1) h2]; exact hS.2.1 q h1 h2, fun q hq => by
      rcases List.mem_append.mp hq with h | h
      · exact hS.2.2 q h
      · exact hL q h⟩ T' rfl X'
  exact ⟨t2, st t2 a1, b1⟩
theorem jo_pre {H : Heap} {locs : List Loc} {As : List Value} (X : jb_X s0 s G ad) (hP : va_P G.1 jb_cl (jb_en G ad S) H) (hS : va_S (fun q => s0.heap.size ≤ q) s.heap H locs) : ∀ U : State, U.heap = H → s.WarmedH U.vm → jo_P s0 G ad S As As.toArray U := fun U hU hW =>
  ⟨rfl, State.WarmedH.trans X.1 hW, by rw [hU]; exact hP, by rw [hU]; exact Nat.le_trans X.2.2.2.1 hS.1, fun q hq => by rw [hU, hS.2.1 q (Nat.lt_of_lt_of_le hq X.2.2.2.1) (Nat.not_le.mpr hq)]; exact X.2.2.2.2 q hq⟩
theorem jo_goodc {y : MethodName} {bytes : ByteArray} {n : Nat} {ret : Option FieldType} (h : Cond.code y bytes n ret ∈ ja_T) : GoodIn ja_T [Cond.code y bytes n ret] := fun w hw => by
  rw [List.mem_singleton.mp hw]; exact ⟨h, good_of_word rfl⟩
theorem jo_V (O : CallFix p m c cc nL s args ja_T own ∧ jb_X s0 s G ad) {y : MethodName} {bytes : ByteArray} {n k d index : Nat} {ret : Option FieldType} {post : Option Value → ja_S → Prop} {As : List Value} {i ci N : Nat} {T : u_T} {fs : List Value} (hC : jo_C l s0 G ad y bytes n ret d (.ref (ad i) :: As) S post) (he : (jb_en G ad S)[i]? = some (ad i, .inr (ci, fs))) (hc : jb_cl[ci]? = some (y.cls, T, N)) (hl : Cond.methodLink own index y ∈ ja_T) (hcd : Cond.code y bytes n ret ∈ ja_T) (hini : Cond.initialized y.cls ∈ ja_T) (hdd : y.cls ≠ "java/lang/invoke/MethodHandle" ∧ y.cls ≠ "java/lang/invoke/VarHandle" ∧ (parseMethodDescriptor y.desc).map (fun d => d.parameters.length) = some k) (hk : As.length = k) (hi : Cond.instanceMethod y ∈ ja_T) (hs : Cond.selects y.cls y y ∈ ja_T) (hR : d + 1 ≤ R.frames ∧ 8 + (n + 11) + 40 * d ≤ R.locals) (hst : (st.map fun v => v.category).sum ≤ 8) (hz : cells ≤ R.cells ∧ slots ≤ R.slots) (hd : decode cc pc = .ok (.invokevirtual index, 3)) (kk : ∀ v S', post v S' → ja_V p l e R s m args below meth c (jb_W G ad) s0.heap.size nL cells slots Q S' (pc + 3) L (v.toList ++ st)) : ja_V p l e R s m args below meth c (jb_W G ad) s0.heap.size nL cells slots Q S pc L (As.reverse ++ .ref (ad i) :: st) :=
  fun ls H locs hL hP hS => jo_go (va_runV (As := As) (rest := st) O.1 hC ⟨callB_of k O.1.2.2.2.2 (jo_goodc hcd) rfl rfl rfl (O.1.2.2.2.2 _ hini) (O.1.2.2.2.2 _ hl) hdd hR, O.1.2.2.2.2 _ hi, O.1.2.2.2.2 _ hs⟩ ⟨jo_blind, va_recv O.2.2.1 hP hc he, jo_pre O.2 hP hS⟩ rfl hk hL.1.1 rfl (lv_room hst) hd hz) hS (fun v S' H1 locs1 hp hP1 hS1 => kk v S' hp ls H1 locs1 hL hP1 hS1)
theorem jo_S (O : CallFix p m c cc nL s args ja_T own ∧ jb_X s0 s G ad) {y : MethodName} {bytes : ByteArray} {n k d index : Nat} {ret : Option FieldType} {post : Option Value → ja_S → Prop} {As : List Value} (hC : jo_C l s0 G ad y bytes n ret d As S post) (hl : Cond.methodLink own index y ∈ ja_T) (hcd : Cond.code y bytes n ret ∈ ja_T) (hini : Cond.initialized y.cls ∈ ja_T) (hdd : y.cls ≠ "java/lang/invoke/MethodHandle" ∧ y.cls ≠ "java/lang/invoke/VarHandle" ∧ (parseMethodDescriptor y.desc).map (fun d => d.parameters.length) = some k) (hk : As.length = k) (hs : Cond.static y ∈ ja_T) (hR : d + 1 ≤ R.frames ∧ 8 + (n + 11) + 40 * d ≤ R.locals) (hst : (st.map fun v => v.category).sum ≤ 8) (hz : cells ≤ R.cells ∧ slots ≤ R.slots) (hd : decode cc pc = .ok (.invokestatic index, 3)) (kk : ∀ v S', post v S' → ja_V p l e R s m args below meth c (jb_W G ad) s0.heap.size nL cells slots Q S' (pc + 3) L (v.toList ++ st)) : ja_V p l e R s m args below meth c (jb_W G ad) s0.heap.size nL cells slots Q S pc L (As.reverse ++ st) :=
  fun ls H locs hL hP hS => jo_go (va_runS (As := As) (rest := st) O.1 hC ⟨callB_of k O.1.2.2.2.2 (jo_goodc hcd) rfl rfl rfl (O.1.2.2.2.2 _ hini) (O.1.2.2.2.2 _ hl) hdd hR, O.1.2.2.2.2 _ hs⟩ ⟨jo_blind, jo_pre O.2 hP hS⟩ rfl hk hL.1.1 rfl (lv_room hst) hd hz) hS (fun v S' H1 locs1 hp hP1 hS1 => kk v S' hp ls H1 locs1 hL hP1 hS1)
theorem jo_SN (O : CallFix p m c cc nL s args ja_T own ∧ jb_X s0 s G ad) {y : MethodName} {bytes : ByteArray} {n k d index : Nat} {ret : Option FieldType} {post : Option Value → ja_S → Prop} {As : List Value} (hC : jo_C l s0 G ad y bytes n ret d As S post) {host : String} (hl : va_Nw (.methodLinkNest own index y host) s) (hcd : Cond.code y bytes n ret ∈ ja_T) (hini : Cond.initialized y.cls ∈ ja_T) (hdd : y.cls ≠ "java/lang/invoke/MethodHandle" ∧ y.cls ≠ "java/lang/invoke/VarHandle" ∧ (parseMethodDescriptor y.desc).map (fun d => d.parameters.length) = some k) (hk : As.length = k) (hs : Cond.static y ∈ ja_T) (hR : d + 1 ≤ R.frames ∧ 8 + (n + 11) + 40 * d ≤ R.locals) (hst : (st.map fun v => v.category).sum ≤ 8) (hz : cells ≤ R.cells ∧ slots ≤ R.slots) (hd : decode cc pc = .ok (.invokestatic index, 3)) (kk : ∀ v S', post v S' → ja_V p l e R s m args below meth c (jb_W G ad) s0.heap.size nL cells slots Q S' (pc + 3) L (v.toList ++ st)) : ja_V p l e R s m args below meth c (jb_W G ad) s0.heap.size nL cells slots Q S pc L (As.reverse ++ st) :=
  fun ls H locs hL hP hS => jo_go (va_runSN (As := As) (rest := st) O.1 hC ⟨va_cnB k O.1.2.2.2.2 (jo_goodc hcd) rfl rfl rfl hl (O.1.2.2.2.2 _ hini) hdd hR, O.1.2.2.2.2 _ hs, trivial⟩ ⟨jo_blind, jo_pre O.2 hP hS⟩ rfl hk hL.1.1 rfl (lv_room hst) hd hz) hS (fun v S' H1 locs1 hp hP1 hS1 => kk v S' hp ls H1 locs1 hL hP1 hS1)
theorem jsel_C_endSession : Cond.selects "CashMachine" jy_C_endSession jy_C_endSession ∈ ja_T := ja_g (List.mem_append_left _ (List.mem_of_getElem? (i := 1) rfl)) rfl
theorem jsel_X_rankLastTwo : Cond.selects "CashMachine$Mix" jy_X_rankLastTwo jy_X_rankLastTwo ∈ ja_T := ja_g (List.mem_append_left _ (List.mem_of_getElem? (i := 2) rfl)) rfl
theorem jsel_X_keep : Cond.selects "CashMachine$Mix" jy_X_keep jy_X_keep ∈ ja_T := ja_g (List.mem_append_left _ (List.mem_of_getElem? (i := 3) rfl)) rfl
theorem jsel_C_request : Cond.selects "CashMachine" jy_C_request jy_C_request ∈ ja_T := ja_g (List.mem_append_left _ (List.mem_of_getElem? (i := 4) rfl)) rfl
theorem jsel_C_failsAt : Cond.selects "CashMachine" jy_C_failsAt jy_C_failsAt ∈ ja_T := ja_g (List.mem_append_left _ (List.mem_of_getElem? (i := 5) rfl)) rfl
theorem jsel_C_exchangeRequest : Cond.selects "CashMachine" jy_C_exchangeRequest jy_C_exchangeRequest ∈ ja_T := ja_g (List.mem_append_left _ (List.mem_of_getElem? (i := 6) rfl)) rfl
theorem jsel_H_decide : Cond.selects "CashMachine$Host" jy_H_decide jy_H_decide ∈ ja_T := ja_g (List.mem_append_left _ (List.mem_of_getElem? (i := 7) rfl)) rfl
theorem jsel_C_giveUp : Cond.selects "CashMachine" jy_C_giveUp jy_C_giveUp ∈ ja_T := ja_g (List.mem_append_left _ (List.mem_of_getElem? (i := 8) rfl)) rfl
theorem jsel_C_present : Cond.selects "CashMachine" jy_C_present jy_C_present ∈ ja_T := ja_g (List.mem_append_left _ (List.mem_of_getElem? (i := 9) rfl)) rfl
theorem jsel_D_nextCassette : Cond.selects "CashMachine$Dispenser" jy_D_nextCassette jy_D_nextCassette ∈ ja_T := ja_g (List.mem_append_left _ (List.mem_of_getElem? (i := 10) rfl)) rfl
theorem jsel_C_finish : Cond.selects "CashMachine" jy_C_finish jy_C_finish ∈ ja_T := ja_g (List.mem_append_left _ (List.mem_of_getElem? (i := 11) rfl)) rfl
theorem jsel_C_recover : Cond.selects "CashMachine" jy_C_recover jy_C_recover ∈ ja_T := ja_g (List.mem_append_left _ (List.mem_of_getElem? (i := 12) rfl)) rfl
theorem jsel_C_exchangeReversal : Cond.selects "CashMachine" jy_C_exchangeReversal jy_C_exchangeReversal ∈ ja_T := ja_g (List.mem_append_left _ (List.mem_of_getElem? (i := 13) rfl)) rfl
theorem jsel_M_fail : Cond.selects "CashMachineModel" jy_M_fail jy_M_fail ∈ ja_T := ja_g (List.mem_append_left _ (List.mem_of_getElem? (i := 14) rfl)) rfl
theorem jsel_M_mixed : Cond.selects "CashMachineModel" jy_M_mixed jy_M_mixed ∈ ja_T := ja_g (List.mem_append_left _ (List.mem_of_getElem? (i := 15) rfl)) rfl
theorem jsel_M_thirds : Cond.selects "CashMachineModel" jy_M_thirds jy_M_thirds ∈ ja_T := ja_g (List.mem_append_left _ (List.mem_of_getElem? (i := 16) rfl)) rfl
theorem jsel_M_better : Cond.selects "CashMachineModel" jy_M_better jy_M_better ∈ ja_T := ja_g (List.mem_append_left _ (List.mem_of_getElem? (i := 17) rfl)) rfl
theorem jsel_M_notesOf : Cond.selects "CashMachineModel" jy_M_notesOf jy_M_notesOf ∈ ja_T := ja_g (List.mem_append_left _ (List.mem_of_getElem? (i := 18) rfl)) rfl
theorem jsel_M_give : Cond.selects "CashMachineModel" jy_M_give jy_M_give ∈ ja_T := ja_g (List.mem_append_left _ (List.mem_of_getElem? (i := 19) rfl)) rfl
theorem jsel_M_cut : Cond.selects "CashMachineModel" jy_M_cut jy_M_cut ∈ ja_T := ja_g (List.mem_append_left _ (List.mem_of_getElem? (i := 20) rfl)) rfl
theorem jsel_M_fate : Cond.selects "CashMachineModel" jy_M_fate jy_M_fate ∈ ja_T := ja_g (List.mem_append_left _ (List.mem_of_getElem? (i := 21) rfl)) rfl
theorem jsel_M_request : Cond.selects "CashMachineModel" jy_M_request jy_M_request ∈ ja_T := ja_g (List.mem_append_left _ (List.mem_of_getElem? (i := 22) rfl)) rfl
theorem jsel_M_owe : Cond.selects "CashMachineModel" jy_M_owe jy_M_owe ∈ ja_T := ja_g (List.mem_append_left _ (List.mem_of_getElem? (i := 23) rfl)) rfl
theorem jsel_M_pay : Cond.selects "CashMachineModel" jy_M_pay jy_M_pay ∈ ja_T := ja_g (List.mem_append_left _ (List.mem_of_getElem? (i := 24) rfl)) rfl
theorem jsel_M_greatest : Cond.selects "CashMachineModel" jy_M_greatest jy_M_greatest ∈ ja_T := ja_g (List.mem_append_left _ (List.mem_of_getElem? (i := 25) rfl)) rfl
theorem jsel_M_finish : Cond.selects "CashMachineModel" jy_M_finish jy_M_finish ∈ ja_T := ja_g (List.mem_append_left _ (List.mem_of_getElem? (i := 26) rfl)) rfl
theorem jsel_M_reversalCame : Cond.selects "CashMachineModel" jy_M_reversalCame jy_M_reversalCame ∈ ja_T := ja_g (List.mem_append_left _ (List.mem_of_getElem? (i := 27) rfl)) rfl
theorem jm_L_135 (O : CallFix p m c cc nL s args ja_T "CashMachineLaw" ∧ jb_X s0 s G ad)  {P : Int32 → ja_S → Prop} {d : Nat} (hR : d + 1 ≤ R.frames ∧ 8 + (1 + 11) + 40 * d ≤ R.locals) (hst : (st.map fun v => v.category).sum ≤ 8) (hz : cells ≤ R.cells ∧ slots ≤ R.slots) (C : jo_C l s0 G ad jy_C_difference jc_C_difference 1 (some .int) d [.ref (ad (0))] S (jo_i P)) (hd : decode cc pc = .ok (.invokevirtual 135, 3)) (hp : pc + 3 = q) (kk : ∀ (r : Int32) (S' : ja_S), P r S' → ja_V p l e R s m args below meth c (jb_W G ad) s0.heap.size nL cells slots Q S' q L (.int r :: st)) : ja_V p l e R s m args below meth c (jb_W G ad) s0.heap.size nL cells slots Q S pc L (.ref (ad (0)) :: st) := by
  subst hp
  exact jo_V O (k := 0) (As := []) (i := 0) C rfl rfl jw_257 jw_260 jw_1 ⟨by decide, by decide, by decide +kernel⟩ rfl jw_258 jw_259 hR hst hz hd (fun v S' h => by obtain ⟨r, rfl, h⟩ := h; exact kk r S' h)
theorem jm_C_192 (O : CallFix p m c cc nL s args ja_T "CashMachine" ∧ jb_X s0 s G ad)  {P : Int32 → ja_S → Prop} {d : Nat} (hR : d + 1 ≤ R.frames ∧ 8 + (6 + 11) + 40 * d ≤ R.locals) (hst : (st.map fun v => v.category).sum ≤ 8) (hz : cells ≤ R.cells ∧ slots ≤ R.slots) (C : jo_C l s0 G ad jy_H_takenFromBalances jc_H_takenFromBalances 6 (some .int) d [.ref (ad (1))] S (jo_i P)) (hd : decode cc pc = .ok (.invokevirtual 192, 3)) (hp : pc + 3 = q) (kk : ∀ (r : Int32) (S' : ja_S), P r S' → ja_V p l e R s m args below meth c (jb_W G ad) s0.heap.size nL cells slots Q S' q L (.int r :: st)) : ja_V p l e R s m args below meth c (jb_W G ad) s0.heap.size nL cells slots Q S pc L (.ref (ad (1)) :: st) := by
  subst hp
  exact jo_V O (k := 0) (As := []) (i := 1) C rfl rfl jw_261 jw_264 jw_2 ⟨by decide, by decide, by decide +kernel⟩ rfl jw_262 jw_263 hR hst hz hd (fun v S' h => by obtain ⟨r, rfl, h⟩ := h; exact kk r S' h)
theorem jm_L_7 (O : CallFix p m c cc nL s args ja_T "CashMachineLaw" ∧ jb_X s0 s G ad) {a0 : Int32} {a1 : Int32} {a2 : Int32} {P : Int32 → ja_S → Prop} {d : Nat} (hR : d + 1 ≤ R.frames ∧ 8 + (4 + 11) + 40 * d ≤ R.locals) (hst : (st.map fun v => v.category).sum ≤ 8) (hz : cells ≤ R.cells ∧ slots ≤ R.slots) (C : jo_C l s0 G ad jy_C_open jc_C_open 4 (some .int) d [.ref (ad (0)), .int a0, .int a1, .int a2] S (jo_i P)) (hd : decode cc pc = .ok (.invokevirtual 7, 3)) (hp : pc + 3 = q) (kk : ∀ (r : Int32) (S' : ja_S), P r S' → ja_V p l e R s m args below meth c (jb_W G ad) s0.heap.size nL cells slots Q S' q L (.int r :: st)) : ja_V p l e R s m args below meth c (jb_W G ad) s0.heap.size nL cells slots Q S pc L (.int a2 :: .int a1 :: .int a0 :: .ref (ad (0)) :: st) := by
  subst hp
  exact jo_V O (k := 3) (As := [.int a0, .int a1, .int a2]) (i := 0) C rfl rfl jw_270 jw_273 jw_1 ⟨by decide, by decide, by decide +kernel⟩ rfl jw_271 jw_272 hR hst hz hd (fun v S' h => by obtain ⟨r, rfl, h⟩ := h; exact kk r S' h)
theorem jm_C_58 (O : CallFix p m c cc nL s args ja_T "CashMachine" ∧ jb_X s0 s G ad) {a0 : Int32} {a1 : Int32} {a2 : Int32} {P : Int32 → ja_S → Prop} {d : Nat} (hR : d + 1 ≤ R.frames ∧ 8 + (3 + 11) + 40 * d ≤ R.locals) (hst : (st.map fun v => v.category).sum ≤ 8) (hz : cells ≤ R.cells ∧ slots ≤ R.slots) (C : jo_C l s0 G ad jy_C_isWithin jc_C_isWithin 3 (some .boolean) d [.int a0, .int a1, .int a2] S (jo_i P)) (hd : decode cc pc = .ok (.invokestatic 58, 3)) (hp : pc + 3 = q) (kk : ∀ (r : Int32) (S' : ja_S), P r S' → ja_V p l e R s m args below meth c (jb_W G ad) s0.heap.size nL cells slots Q S' q L (.int r :: st)) : ja_V p l e R s m args below meth c (jb_W G ad) s0.heap.size nL cells slots Q S pc L (.int a2 :: .int a1 :: .int a0 :: st) := by
  subst hp
  exact jo_S O (k := 3) (As := [.int a0, .int a1, .int a2]) C jw_274 jw_276 jw_1 ⟨by decide, by decide, by decide +kernel⟩ rfl jw_275 hR hst hz hd (fun v S' h => by obtain ⟨r, rfl, h⟩ := h; exact kk r S' h)
theorem jm_C_66 (O : CallFix p m c cc nL s args ja_T "CashMachine" ∧ jb_X s0 s G ad) {a0 : Int32} {P : Int32 → ja_S → Prop} {d : Nat} (hR : d + 1 ≤ R.frames ∧ 8 + (2 + 11) + 40 * d ≤ R.locals) (hst : (st.map fun v => v.category).sum ≤ 8) (hz : cells ≤ R.cells ∧ slots ≤ R.slots) (C : jo_C l s0 G ad jy_H_isOpen jc_H_isOpen 2 (some .boolean) d [.ref (ad (1)), .int a0] S (jo_i P)) (hd : decode cc pc = .ok (.invokevirtual 66, 3)) (hp : pc + 3 = q) (kk : ∀ (r : Int32) (S' : ja_S), P r S' → ja_V p l e R s m args below meth c (jb_W G ad) s0.heap.size nL cells slots Q S' q L (.int r :: st)) : ja_V p l e R s m args below meth c (jb_W G ad) s0.heap.size nL cells slots Q S pc L (.int a0 :: .ref (ad (1)) :: st) := by
  subst hp
  exact jo_V O (k := 1) (As := [.int a0]) (i := 1) C rfl rfl jw_343 jw_346 jw_2 ⟨by decide, by decide, by decide +kernel⟩ rfl jw_344 jw_345 hR hst hz hd (fun v S' h => by obtain ⟨r, rfl, h⟩ := h; exact kk r S' h)
theorem jm_H_29 (O : CallFix p m c cc nL s args ja_T "CashMachine$Host" ∧ jb_X s0 s G ad) {a0 : Int32} {a1 : Int32} {a2 : Int32} {P : Int32 → ja_S → Prop} (hN : va_Nw (.methodLinkNest "CashMachine$Host" 29 jy_C_isWithin "CashMachine") s) {d : Nat} (hR : d + 1 ≤ R.frames ∧ 8 + (3 + 11) + 40 * d ≤ R.locals) (hst : (st.map fun v => v.category).sum ≤ 8) (hz : cells ≤ R.cells ∧ slots ≤ R.slots) (C : jo_C l s0 G ad jy_C_isWithin jc_C_isWithin 3 (some .boolean) d [.int a0, .int a1, .int a2] S (jo_i P)) (hd : decode cc pc = .ok (.invokestatic 29, 3)) (hp : pc + 3 = q) (kk : ∀ (r : Int32) (S' : ja_S), P r S' → ja_V p l e R s m args below meth c (jb_W G ad) s0.heap.size nL cells slots Q S' q L (.int r :: st)) : ja_V p l e R s m args below meth c (jb_W G ad) s0.heap.size nL cells slots Q S pc L (.int a2 :: .int a1 :: .int a0 :: st) := by
  subst hp
  exact jo_SN O (k := 3) (As := [.int a0, .int a1, .int a2]) C hN jw_276 jw_1 ⟨by decide, by decide, by decide +kernel⟩ rfl jw_275 hR hst hz hd (fun v S' h => by obtain ⟨r, rfl, h⟩ := h; exact kk r S' h)
theorem jm_C_73 (O : CallFix p m c cc nL s args ja_T "CashMachine" ∧ jb_X s0 s G ad) {a0 : Int32} {a1 : Int32} {a2 : Int32} {P : ja_S → Prop} {d : Nat} (hR : d + 1 ≤ R.frames ∧ 8 + (5 + 11) + 40 * d ≤ R.locals) (hst : (st.map fun v => v.category).sum ≤ 8) (hz : cells ≤ R.cells ∧ slots ≤ R.slots) (C : jo_C l s0 G ad jy_H_openAccount jc_H_openAccount 5 none d [.ref (ad (1)), .int a0, .int a1, .int a2] S (jo_v P)) (hd : decode cc pc = .ok (.invokevirtual 73, 3)) (hp : pc + 3 = q) (kk : ∀ (S' : ja_S), P S' → ja_V p l e R s m args below meth c (jb_W G ad) s0.heap.size nL cells slots Q S' q L st) : ja_V p l e R s m args below meth c (jb_W G ad) s0.heap.size nL cells slots Q S pc L (.int a2 :: .int a1 :: .int a0 :: .ref (ad (1)) :: st) := by
  subst hp
  exact jo_V O (k := 3) (As := [.int a0, .int a1, .int a2]) (i := 1) C rfl rfl jw_363 jw_366 jw_2 ⟨by decide, by decide, by decide +kernel⟩ rfl jw_364 jw_365 hR hst hz hd (fun v S' h => by obtain ⟨rfl, h⟩ := h; exact kk S' h)
theorem jm_C_77 (O : CallFix p m c cc nL s args ja_T "CashMachine" ∧ jb_X s0 s G ad)  {P : Int32 → ja_S → Prop} {d : Nat} (hR : d + 1 ≤ R.frames ∧ 8 + (6 + 11) + 40 * d ≤ R.locals) (hst : (st.map fun v => v.category).sum ≤ 8) (hz : cells ≤ R.cells ∧ slots ≤ R.slots) (C : jo_C l s0 G ad jy_H_openAccounts jc_H_openAccounts 6 (some .int) d [.ref (ad (1))] S (jo_i P)) (hd : decode cc pc = .ok (.invokevirtual 77, 3)) (hp : pc + 3 = q) (kk : ∀ (r : Int32) (S' : ja_S), P r S' → ja_V p l e R s m args below meth c (jb_W G ad) s0.heap.size nL cells slots Q S' q L (.int r :: st)) : ja_V p l e R s m args below meth c (jb_W G ad) s0.heap.size nL cells slots Q S pc L (.ref (ad (1)) :: st) := by
  subst hp
  exact jo_V O (k := 0) (As := []) (i := 1) C rfl rfl jw_367 jw_370 jw_2 ⟨by decide, by decide, by decide +kernel⟩ rfl jw_368 jw_369 hR hst hz hd (fun v S' h => by obtain ⟨r, rfl, h⟩ := h; exact kk r S' h)
theorem jm_L_17 (O : CallFix p m c cc nL s args ja_T "CashMachineLaw" ∧ jb_X s0 s G ad) {a0 : Int32} {a1 : Int32} {a2 : Int32} {P : Int32 → ja_S → Prop} {d : Nat} (hR : d + 1 ≤ R.frames ∧ 8 + (4 + 11) + 40 * d ≤ R.locals) (hst : (st.map fun v => v.category).sum ≤ 8) (hz : cells ≤ R.cells ∧ slots ≤ R.slots) (C : jo_C l s0 G ad jy_C_load jc_C_load 4 (some .int) d [.ref (ad (0)), .int a0, .int a1, .int a2] S (jo_i P)) (hd : decode cc pc = .ok (.invokevirtual 17, 3)) (hp : pc + 3 = q) (kk : ∀ (r : Int32) (S' : ja_S), P r S' → ja_V p l e R s m args below meth c (jb_W G ad) s0.heap.size nL cells slots Q S' q L (.int r :: st)) : ja_V p l e R s m args below meth c (jb_W G ad) s0.heap.size nL cells slots Q S pc L (.int a2 :: .int a1 :: .int a0 :: .ref (ad (0)) :: st) := by
  subst hp
  exact jo_V O (k := 3) (As := [.int a0, .int a1, .int a2]) (i := 0) C rfl rfl jw_374 jw_377 jw_1 ⟨by decide, by decide, by decide +kernel⟩ rfl jw_375 jw_376 hR hst hz hd (fun v S' h => by obtain ⟨r, rfl, h⟩ := h; exact kk r S' h)
theorem jm_C_81 (O : CallFix p m c cc nL s args ja_T "CashMachine" ∧ jb_X s0 s G ad) {a0 : Int32} {a1 : Int32} {a2 : Int32} {P : Int32 → ja_S → Prop} {d : Nat} (hR : d + 1 ≤ R.frames ∧ 8 + (6 + 11) + 40 * d ≤ R.locals) (hst : (st.map fun v => v.category).sum ≤ 8) (hz : cells ≤ R.cells ∧ slots ≤ R.slots) (C : jo_C l s0 G ad jy_D_exchangeNotes jc_D_exchangeNotes 6 (some .int) d [.ref (ad (3)), .int a0, .int a1, .int a2] S (jo_i P)) (hd : decode cc pc = .ok (.invokevirtual 81, 3)) (hp : pc + 3 = q) (kk : ∀ (r : Int32) (S' : ja_S), P r S' → ja_V p l e R s m args below meth c (jb_W G ad) s0.heap.size nL cells slots Q S' q L (.int r :: st)) : ja_V p l e R s m args below meth c (jb_W G ad) s0.heap.size nL cells slots Q S pc L (.int a2 :: .int a1 :: .int a0 :: .ref (ad (3)) :: st) := by
  subst hp
  exact jo_V O (k := 3) (As := [.int a0, .int a1, .int a2]) (i := 3) C rfl rfl jw_378 jw_381 jw_5 ⟨by decide, by decide, by decide +kernel⟩ rfl jw_379 jw_380 hR hst hz hd (fun v S' h => by obtain ⟨r, rfl, h⟩ := h; exact kk r S' h)
theorem jm_L_20 (O : CallFix p m c cc nL s args ja_T "CashMachineLaw" ∧ jb_X s0 s G ad) {a0 : Int32} {P : Int32 → ja_S → Prop} {d : Nat} (hR : d + 1 ≤ R.frames ∧ 8 + (2 + 11) + 40 * d ≤ R.locals) (hst : (st.map fun v => v.category).sum ≤ 8) (hz : cells ≤ R.cells ∧ slots ≤ R.slots) (C : jo_C l s0 G ad jy_C_insert jc_C_insert 2 (some .int) d [.ref (ad (0)), .int a0] S (jo_i P)) (hd : decode cc pc = .ok (.invokevirtual 20, 3)) (hp : pc + 3 = q) (kk : ∀ (r : Int32) (S' : ja_S), P r S' → ja_V p l e R s m args below meth c (jb_W G ad) s0.heap.size nL cells slots Q S' q L (.int r :: st)) : ja_V p l e R s m args below meth c (jb_W G ad) s0.heap.size nL cells slots Q S pc L (.int a0 :: .ref (ad (0)) :: st) := by
  subst hp
  exact jo_V O (k := 1) (As := [.int a0]) (i := 0) C rfl rfl jw_387 jw_390 jw_1 ⟨by decide, by decide, by decide +kernel⟩ rfl jw_388 jw_389 hR hst hz hd (fun v S' h => by obtain ⟨r, rfl, h⟩ := h; exact kk r S' h)
theorem jm_L_28 (O : CallFix p m c cc nL s args ja_T "CashMachineLaw" ∧ jb_X s0 s G ad) {a0 : Int32} {P : Int32 → ja_S → Prop} {d : Nat} (hR : d + 1 ≤ R.frames ∧ 8 + (3 + 11) + 40 * d ≤ R.locals) (hst : (st.map fun v => v.category).sum ≤ 8) (hz : cells ≤ R.cells ∧ slots ≤ R.slots) (C : jo_C l s0 G ad jy_C_pin jc_C_pin 3 (some .int) d [.ref (ad (0)), .int a0] S (jo_i P)) (hd : decode cc pc = .ok (.invokevirtual 28, 3)) (hp : pc + 3 = q) (kk : ∀ (r : Int32) (S' : ja_S), P r S' → ja_V p l e R s m args below meth c (jb_W G ad) s0.heap.size nL cells slots Q S' q L (.int r :: st)) : ja_V p l e R s m args below meth c (jb_W G ad) s0.heap.size nL cells slots Q S pc L (.int a0 :: .ref (ad (0)) :: st) := by
  subst hp
  exact jo_V O (k := 1) (As := [.int a0]) (i := 0) C rfl rfl jw_424 jw_427 jw_1 ⟨by decide, by decide, by decide +kernel⟩ rfl jw_425 jw_426 hR hst hz hd (fun v S' h => by obtain ⟨r, rfl, h⟩ := h; exact kk r S' h)
theorem jm_C_103 (O : CallFix p m c cc nL s args ja_T "CashMachine" ∧ jb_X s0 s G ad) {j : Nat} (hj : j < 8) {a0 : Int32} {P : Int32 → ja_S → Prop} {d : Nat} (hR : d + 1 ≤ R.frames ∧ 8 + (2 + 11) + 40 * d ≤ R.locals) (hst : (st.map fun v => v.category).sum ≤ 8) (hz : cells ≤ R.cells ∧ slots ≤ R.slots) (C : jo_C l s0 G ad jy_A_tryPin jc_A_tryPin 2 (some .boolean) d [.ref (ad (38 + j)), .int a0] S (jo_i P)) (hd : decode cc pc = .ok (.invokevirtual 103, 3)) (hp : pc + 3 = q) (kk : ∀ (r : Int32) (S' : ja_S), P r S' → ja_V p l e R s m args below meth c (jb_W G ad) s0.heap.size nL cells slots Q S' q L (.int r :: st)) : ja_V p l e R s m args below meth c (jb_W G ad) s0.heap.size nL cells slots Q S pc L (.int a0 :: .ref (ad (38 + j)) :: st) := by
  subst hp
  exact jo_V O (k := 1) (As := [.int a0]) (i := 38 + j) C (jb_kA G ad S hj) rfl jw_428 jw_431 jw_3 ⟨by decide, by decide, by decide +kernel⟩ rfl jw_429 jw_430 hR hst hz hd (fun v S' h => by obtain ⟨r, rfl, h⟩ := h; exact kk r S' h)
theorem jm_C_106 (O : CallFix p m c cc nL s args ja_T "CashMachine" ∧ jb_X s0 s G ad)  {P : ja_S → Prop} {d : Nat} (hR : d + 1 ≤ R.frames ∧ 8 + (1 + 11) + 40 * d ≤ R.locals) (hst : (st.map fun v => v.category).sum ≤ 8) (hz : cells ≤ R.cells ∧ slots ≤ R.slots) (C : jo_C l s0 G ad jy_C_endSession jc_C_endSession 1 none d [.ref (ad (0))] S (jo_v P)) (hd : decode cc pc = .ok (.invokevirtual 106, 3)) (hp : pc + 3 = q) (kk : ∀ (S' : ja_S), P S' → ja_V p l e R s m args below meth c (jb_W G ad) s0.heap.size nL cells slots Q S' q L st) : ja_V p l e R s m args below meth c (jb_W G ad) s0.heap.size nL cells slots Q S pc L (.ref (ad (0)) :: st) := by
  subst hp
  exact jo_V O (k := 0) (As := []) (i := 0) C rfl rfl jw_432 jw_435 jw_1 ⟨by decide, by decide, by decide +kernel⟩ rfl jw_434 jsel_C_endSession hR hst hz hd (fun v S' h => by obtain ⟨rfl, h⟩ := h; exact kk S' h)
theorem jm_L_31 (O : CallFix p m c cc nL s args ja_T "CashMachineLaw" ∧ jb_X s0 s G ad)  {P : Int32 → ja_S → Prop} {d : Nat} (hR : d + 1 ≤ R.frames ∧ 8 + (2 + 11) + 40 * d ≤ R.locals) (hst : (st.map fun v => v.category).sum ≤ 8) (hz : cells ≤ R.cells ∧ slots ≤ R.slots) (C : jo_C l s0 G ad jy_C_eject jc_C_eject 2 (some .int) d [.ref (ad (0))] S (jo_i P)) (hd : decode cc pc = .ok (.invokevirtual 31, 3)) (hp : pc + 3 = q) (kk : ∀ (r : Int32) (S' : ja_S), P r S' → ja_V p l e R s m args below meth c (jb_W G ad) s0.heap.size nL cells slots Q S' q L (.int r :: st)) : ja_V p l e R s m args below meth c (jb_W G ad) s0.heap.size nL cells slots Q S pc L (.ref (ad (0)) :: st) := by
  subst hp
  exact jo_V O (k := 0) (As := []) (i := 0) C rfl rfl jw_439 jw_442 jw_1 ⟨by decide, by decide, by decide +kernel⟩ rfl jw_440 jw_441 hR hst hz hd (fun v S' h => by obtain ⟨r, rfl, h⟩ := h; exact kk r S' h)
theorem jm_L_35 (O : CallFix p m c cc nL s args ja_T "CashMachineLaw" ∧ jb_X s0 s G ad) {a0 : Int32} {P : Int32 → ja_S → Prop} {d : Nat} (hR : d + 1 ≤ R.frames ∧ 8 + (2 + 11) + 40 * d ≤ R.locals) (hst : (st.map fun v => v.category).sum ≤ 8) (hz : cells ≤ R.cells ∧ slots ≤ R.slots) (C : jo_C l s0 G ad jy_C_withdraw jc_C_withdraw 2 (some .int) d [.ref (ad (0)), .int a0] S (jo_i P)) (hd : decode cc pc = .ok (.invokevirtual 35, 3)) (hp : pc + 3 = q) (kk : ∀ (r : Int32) (S' : ja_S), P r S' → ja_V p l e R s m args below meth c (jb_W G ad) s0.heap.size nL cells slots Q S' q L (.int r :: st)) : ja_V p l e R s m args below meth c (jb_W G ad) s0.heap.size nL cells slots Q S pc L (.int a0 :: .ref (ad (0)) :: st) := by
  subst hp
  exact jo_V O (k := 1) (As := [.int a0]) (i := 0) C rfl rfl jw_447 jw_450 jw_1 ⟨by decide, by decide, by decide +kernel⟩ rfl jw_448 jw_449 hR hst hz hd (fun v S' h => by obtain ⟨r, rfl, h⟩ := h; exact kk r S' h)
theorem jm_C_109 (O : CallFix p m c cc nL s args ja_T "CashMachine" ∧ jb_X s0 s G ad) {a0 : Int32} {P : Int32 → ja_S → Prop} {d : Nat} (hR : d + 1 ≤ R.frames ∧ 8 + (2 + 11) + 40 * d ≤ R.locals) (hst : (st.map fun v => v.category).sum ≤ 8) (hz : cells ≤ R.cells ∧ slots ≤ R.slots) (C : jo_C l s0 G ad jy_D_findMix jc_D_findMix 2 (some .boolean) d [.ref (ad (3)), .int a0] S (jo_i P)) (hd : decode cc pc = .ok (.invokevirtual 109, 3)) (hp : pc + 3 = q) (kk : ∀ (r : Int32) (S' : ja_S), P r S' → ja_V p l e R s m args below meth c (jb_W G ad) s0.heap.size nL cells slots Q S' q L (.int r :: st)) : ja_V p l e R s m args below meth c (jb_W G ad) s0.heap.size nL cells slots Q S pc L (.int a0 :: .ref (ad (3)) :: st) := by
  subst hp
  exact jo_V O (k := 1) (As := [.int a0]) (i := 3) C rfl rfl jw_451 jw_454 jw_5 ⟨by decide, by decide, by decide +kernel⟩ rfl jw_452 jw_453 hR hst hz hd (fun v S' h => by obtain ⟨r, rfl, h⟩ := h; exact kk r S' h)
theorem jm_D_44 (O : CallFix p m c cc nL s args ja_T "CashMachine$Dispenser" ∧ jb_X s0 s G ad) {a0 : Nat} {a1 : Int32} {P : Int32 → ja_S → Prop} {d : Nat} (hR : d + 1 ≤ R.frames ∧ 8 + (10 + 11) + 40 * d ≤ R.locals) (hst : (st.map fun v => v.category).sum ≤ 8) (hz : cells ≤ R.cells ∧ slots ≤ R.slots) (C : jo_C l s0 G ad jy_X_find jc_X_find 10 (some .boolean) d [.ref (ad (6)), .ref a0, .int a1] S (jo_i P)) (hd : decode cc pc = .ok (.invokevirtual 44, 3)) (hp : pc + 3 = q) (kk : ∀ (r : Int32) (S' : ja_S), P r S' → ja_V p l e R s m args below meth c (jb_W G ad) s0.heap.size nL cells slots Q S' q L (.int r :: st)) : ja_V p l e R s m args below meth c (jb_W G ad) s0.heap.size nL cells slots Q S pc L (.int a1 :: .ref a0 :: .ref (ad (6)) :: st) := by
  subst hp
  exact jo_V O (k := 2) (As := [.ref a0, .int a1]) (i := 6) C rfl rfl jw_455 jw_458 jw_6 ⟨by decide, by decide, by decide +kernel⟩ rfl jw_456 jw_457 hR hst hz hd (fun v S' h => by obtain ⟨r, rfl, h⟩ := h; exact kk r S' h)
theorem jm_X_18 (O : CallFix p m c cc nL s args ja_T "CashMachine$Mix" ∧ jb_X s0 s G ad) {a0 : Nat} {a1 : Nat} {a2 : Int32} {P : ja_S → Prop} {d : Nat} (hR : d + 1 ≤ R.frames ∧ 8 + (9 + 11) + 40 * d ≤ R.locals) (hst : (st.map fun v => v.category).sum ≤ 8) (hz : cells ≤ R.cells ∧ slots ≤ R.slots) (C : jo_C l s0 G ad jy_X_rankLastTwo jc_X_rankLastTwo 9 none d [.ref (ad (6)), .ref a0, .ref a1, .int a2] S (jo_v P)) (hd : decode cc pc = .ok (.invokevirtual 18, 3)) (hp : pc + 3 = q) (kk : ∀ (S' : ja_S), P S' → ja_V p l e R s m args below meth c (jb_W G ad) s0.heap.size nL cells slots Q S' q L st) : ja_V p l e R s m args below meth c (jb_W G ad) s0.heap.size nL cells slots Q S pc L (.int a2 :: .ref a1 :: .ref a0 :: .ref (ad (6)) :: st) := by
  subst hp
  exact jo_V O (k := 3) (As := [.ref a0, .ref a1, .int a2]) (i := 6) C rfl rfl jw_459 jw_462 jw_6 ⟨by decide, by decide, by decide +kernel⟩ rfl jw_461 jsel_X_rankLastTwo hR hst hz hd (fun v S' h => by obtain ⟨rfl, h⟩ := h; exact kk S' h)
theorem jm_X_36 (O : CallFix p m c cc nL s args ja_T "CashMachine$Mix" ∧ jb_X s0 s G ad) {a0 : Nat} {a1 : Int32} {P : ja_S → Prop} {d : Nat} (hR : d + 1 ≤ R.frames ∧ 8 + (4 + 11) + 40 * d ≤ R.locals) (hst : (st.map fun v => v.category).sum ≤ 8) (hz : cells ≤ R.cells ∧ slots ≤ R.slots) (C : jo_C l s0 G ad jy_F_fill jc_F_fill 4 none d [.ref a0, .int a1] S (jo_v P)) (hd : decode cc pc = .ok (.invokestatic 36, 3)) (hp : pc + 3 = q) (kk : ∀ (S' : ja_S), P S' → ja_V p l e R s m args below meth c (jb_W G ad) s0.heap.size nL cells slots Q S' q L st) : ja_V p l e R s m args below meth c (jb_W G ad) s0.heap.size nL cells slots Q S pc L (.int a1 :: .ref a0 :: st) := by
  subst hp
  exact jo_S O (k := 2) (As := [.ref a0, .int a1]) C jw_464 jw_466 jw_19 ⟨by decide, by decide, by decide +kernel⟩ rfl jw_465 hR hst hz hd (fun v S' h => by obtain ⟨rfl, h⟩ := h; exact kk S' h)
theorem jm_X_32 (O : CallFix p m c cc nL s args ja_T "CashMachine$Mix" ∧ jb_X s0 s G ad) {a0 : Int32} {a1 : Int32} {a2 : Int32} {P : ja_S → Prop} {d : Nat} (hR : d + 1 ≤ R.frames ∧ 8 + (5 + 11) + 40 * d ≤ R.locals) (hst : (st.map fun v => v.category).sum ≤ 8) (hz : cells ≤ R.cells ∧ slots ≤ R.slots) (C : jo_C l s0 G ad jy_X_keep jc_X_keep 5 none d [.ref (ad (6)), .int a0, .int a1, .int a2] S (jo_v P)) (hd : decode cc pc = .ok (.invokevirtual 32, 3)) (hp : pc + 3 = q) (kk : ∀ (S' : ja_S), P S' → ja_V p l e R s m args below meth c (jb_W G ad) s0.heap.size nL cells slots Q S' q L st) : ja_V p l e R s m args below meth c (jb_W G ad) s0.heap.size nL cells slots Q S pc L (.int a2 :: .int a1 :: .int a0 :: .ref (ad (6)) :: st) := by
  subst hp
  exact jo_V O (k := 3) (As := [.int a0, .int a1, .int a2]) (i := 6) C rfl rfl jw_470 jw_473 jw_6 ⟨by decide, by decide, by decide +kernel⟩ rfl jw_472 jsel_X_keep hR hst hz hd (fun v S' h => by obtain ⟨rfl, h⟩ := h; exact kk S' h)
theorem jm_C_118 (O : CallFix p m c cc nL s args ja_T "CashMachine" ∧ jb_X s0 s G ad) {a0 : Int32} {a1 : Int32} {P : Nat → ja_S → Prop} {d : Nat} (hR : d + 1 ≤ R.frames ∧ 8 + (4 + 11) + 40 * d ≤ R.locals) (hst : (st.map fun v => v.category).sum ≤ 8) (hz : cells ≤ R.cells ∧ slots ≤ R.slots) (C : jo_C l s0 G ad jy_J_begin jc_J_begin 4 (some (.object "CashMachine$Entry")) d [.ref (ad (4)), .int a0, .int a1] S (jo_a P)) (hd : decode cc pc = .ok (.invokevirtual 118, 3)) (hp : pc + 3 = q) (kk : ∀ (r : Nat) (S' : ja_S), P r S' → ja_V p l e R s m args below meth c (jb_W G ad) s0.heap.size nL cells slots Q S' q L (.ref r :: st)) : ja_V p l e R s m args below meth c (jb_W G ad) s0.heap.size nL cells slots Q S pc L (.int a1 :: .int a0 :: .ref (ad (4)) :: st) := by
  subst hp
  exact jo_V O (k := 2) (As := [.int a0, .int a1]) (i := 4) C rfl rfl jw_489 jw_492 jw_8 ⟨by decide, by decide, by decide +kernel⟩ rfl jw_490 jw_491 hR hst hz hd (fun v S' h => by obtain ⟨r, rfl, h⟩ := h; exact kk r S' h)
theorem jm_C_122 (O : CallFix p m c cc nL s args ja_T "CashMachine" ∧ jb_X s0 s G ad) {a0 : Nat} {P : Int32 → ja_S → Prop} {d : Nat} (hR : d + 1 ≤ R.frames ∧ 8 + (3 + 11) + 40 * d ≤ R.locals) (hst : (st.map fun v => v.category).sum ≤ 8) (hz : cells ≤ R.cells ∧ slots ≤ R.slots) (C : jo_C l s0 G ad jy_C_request jc_C_request 3 (some .int) d [.ref (ad (0)), .ref a0] S (jo_i P)) (hd : decode cc pc = .ok (.invokevirtual 122, 3)) (hp : pc + 3 = q) (kk : ∀ (r : Int32) (S' : ja_S), P r S' → ja_V p l e R s m args below meth c (jb_W G ad) s0.heap.size nL cells slots Q S' q L (.int r :: st)) : ja_V p l e R s m args below meth c (jb_W G ad) s0.heap.size nL cells slots Q S pc L (.ref a0 :: .ref (ad (0)) :: st) := by
  subst hp
  exact jo_V O (k := 1) (As := [.ref a0]) (i := 0) C rfl rfl jw_493 jw_496 jw_1 ⟨by decide, by decide, by decide +kernel⟩ rfl jw_495 jsel_C_request hR hst hz hd (fun v S' h => by obtain ⟨r, rfl, h⟩ := h; exact kk r S' h)
theorem jm_C_201 (O : CallFix p m c cc nL s args ja_T "CashMachine" ∧ jb_X s0 s G ad) {a0 : Int32} {P : Int32 → ja_S → Prop} {d : Nat} (hR : d + 1 ≤ R.frames ∧ 8 + (2 + 11) + 40 * d ≤ R.locals) (hst : (st.map fun v => v.category).sum ≤ 8) (hz : cells ≤ R.cells ∧ slots ≤ R.slots) (C : jo_C l s0 G ad jy_C_failsAt jc_C_failsAt 2 (some .boolean) d [.ref (ad (0)), .int a0] S (jo_i P)) (hd : decode cc pc = .ok (.invokevirtual 201, 3)) (hp : pc + 3 = q) (kk : ∀ (r : Int32) (S' : ja_S), P r S' → ja_V p l e R s m args below meth c (jb_W G ad) s0.heap.size nL cells slots Q S' q L (.int r :: st)) : ja_V p l e R s m args below meth c (jb_W G ad) s0.heap.size nL cells slots Q S pc L (.int a0 :: .ref (ad (0)) :: st) := by
  subst hp
  exact jo_V O (k := 1) (As := [.int a0]) (i := 0) C rfl rfl jw_497 jw_500 jw_1 ⟨by decide, by decide, by decide +kernel⟩ rfl jw_499 jsel_C_failsAt hR hst hz hd (fun v S' h => by obtain ⟨r, rfl, h⟩ := h; exact kk r S' h)
theorem jm_C_204 (O : CallFix p m c cc nL s args ja_T "CashMachine" ∧ jb_X s0 s G ad) {a0 : Nat} {P : Int32 → ja_S → Prop} {d : Nat} (hR : d + 1 ≤ R.frames ∧ 8 + (4 + 11) + 40 * d ≤ R.locals) (hst : (st.map fun v => v.category).sum ≤ 8) (hz : cells ≤ R.cells ∧ slots ≤ R.slots) (C : jo_C l s0 G ad jy_C_exchangeRequest jc_C_exchangeRequest 4 (some .int) d [.ref (ad (0)), .ref a0] S (jo_i P)) (hd : decode cc pc = .ok (.invokevirtual 204, 3)) (hp : pc + 3 = q) (kk : ∀ (r : Int32) (S' : ja_S), P r S' → ja_V p l e R s m args below meth c (jb_W G ad) s0.heap.size nL cells slots Q S' q L (.int r :: st)) : ja_V p l e R s m args below meth c (jb_W G ad) s0.heap.size nL cells slots Q S pc L (.ref a0 :: .ref (ad (0)) :: st) := by
  subst hp
  exact jo_V O (k := 1) (As := [.ref a0]) (i := 0) C rfl rfl jw_501 jw_504 jw_1 ⟨by decide, by decide, by decide +kernel⟩ rfl jw_503 jsel_C_exchangeRequest hR hst hz hd (fun v S' h => by obtain ⟨r, rfl, h⟩ := h; exact kk r S' h)
theorem jm_C_230 (O : CallFix p m c cc nL s args ja_T "CashMachine" ∧ jb_X s0 s G ad)  {P : Int32 → ja_S → Prop} {d : Nat} (hR : d + 1 ≤ R.frames ∧ 8 + (2 + 11) + 40 * d ≤ R.locals) (hst : (st.map fun v => v.category).sum ≤ 8) (hz : cells ≤ R.cells ∧ slots ≤ R.slots) (C : jo_C l s0 G ad jy_N_takeFirst jc_N_takeFirst 2 (some .int) d [.ref (ad (2))] S (jo_i P)) (hd : decode cc pc = .ok (.invokevirtual 230, 3)) (hp : pc + 3 = q) (kk : ∀ (r : Int32) (S' : ja_S), P r S' → ja_V p l e R s m args below meth c (jb_W G ad) s0.heap.size nL cells slots Q S' q L (.int r :: st)) : ja_V p l e R s m args below meth c (jb_W G ad) s0.heap.size nL cells slots Q S pc L (.ref (ad (2)) :: st) := by
  subst hp
  exact jo_V O (k := 0) (As := []) (i := 2) C rfl rfl jw_505 jw_508 jw_4 ⟨by decide, by decide, by decide +kernel⟩ rfl jw_506 jw_507 hR hst hz hd (fun v S' h => by obtain ⟨r, rfl, h⟩ := h; exact kk r S' h)
theorem jm_C_233 (O : CallFix p m c cc nL s args ja_T "CashMachine" ∧ jb_X s0 s G ad) {a0 : Int32} {a1 : Int32} {a2 : Int32} {P : Int32 → ja_S → Prop} {d : Nat} (hR : d + 1 ≤ R.frames ∧ 8 + (4 + 11) + 40 * d ≤ R.locals) (hst : (st.map fun v => v.category).sum ≤ 8) (hz : cells ≤ R.cells ∧ slots ≤ R.slots) (C : jo_C l s0 G ad jy_H_receiveRequest jc_H_receiveRequest 4 (some .boolean) d [.ref (ad (1)), .int a0, .int a1, .int a2] S (jo_i P)) (hd : decode cc pc = .ok (.invokevirtual 233, 3)) (hp : pc + 3 = q) (kk : ∀ (r : Int32) (S' : ja_S), P r S' → ja_V p l e R s m args below meth c (jb_W G ad) s0.heap.size nL cells slots Q S' q L (.int r :: st)) : ja_V p l e R s m args below meth c (jb_W G ad) s0.heap.size nL cells slots Q S pc L (.int a2 :: .int a1 :: .int a0 :: .ref (ad (1)) :: st) := by
  subst hp
  exact jo_V O (k := 3) (As := [.int a0, .int a1, .int a2]) (i := 1) C rfl rfl jw_512 jw_515 jw_2 ⟨by decide, by decide, by decide +kernel⟩ rfl jw_513 jw_514 hR hst hz hd (fun v S' h => by obtain ⟨r, rfl, h⟩ := h; exact kk r S' h)
theorem jm_H_47 (O : CallFix p m c cc nL s args ja_T "CashMachine$Host" ∧ jb_X s0 s G ad) {a0 : Int32} {a1 : Nat} {a2 : Int32} {P : Int32 → ja_S → Prop} {d : Nat} (hR : d + 1 ≤ R.frames ∧ 8 + (4 + 11) + 40 * d ≤ R.locals) (hst : (st.map fun v => v.category).sum ≤ 8) (hz : cells ≤ R.cells ∧ slots ≤ R.slots) (C : jo_C l s0 G ad jy_H_decide jc_H_decide 4 (some .int) d [.ref (ad (1)), .int a0, .ref a1, .int a2] S (jo_i P)) (hd : decode cc pc = .ok (.invokevirtual 47, 3)) (hp : pc + 3 = q) (kk : ∀ (r : Int32) (S' : ja_S), P r S' → ja_V p l e R s m args below meth c (jb_W G ad) s0.heap.size nL cells slots Q S' q L (.int r :: st)) : ja_V p l e R s m args below meth c (jb_W G ad) s0.heap.size nL cells slots Q S pc L (.int a2 :: .ref a1 :: .int a0 :: .ref (ad (1)) :: st) := by
  subst hp
  exact jo_V O (k := 3) (As := [.int a0, .ref a1, .int a2]) (i := 1) C rfl rfl jw_516 jw_519 jw_2 ⟨by decide, by decide, by decide +kernel⟩ rfl jw_518 jsel_H_decide hR hst hz hd (fun v S' h => by obtain ⟨r, rfl, h⟩ := h; exact kk r S' h)
theorem jm_C_207 (O : CallFix p m c cc nL s args ja_T "CashMachine" ∧ jb_X s0 s G ad) {a0 : Nat} {P : ja_S → Prop} {d : Nat} (hR : d + 1 ≤ R.frames ∧ 8 + (2 + 11) + 40 * d ≤ R.locals) (hst : (st.map fun v => v.category).sum ≤ 8) (hz : cells ≤ R.cells ∧ slots ≤ R.slots) (C : jo_C l s0 G ad jy_C_giveUp jc_C_giveUp 2 none d [.ref (ad (0)), .ref a0] S (jo_v P)) (hd : decode cc pc = .ok (.invokevirtual 207, 3)) (hp : pc + 3 = q) (kk : ∀ (S' : ja_S), P S' → ja_V p l e R s m args below meth c (jb_W G ad) s0.heap.size nL cells slots Q S' q L st) : ja_V p l e R s m args below meth c (jb_W G ad) s0.heap.size nL cells slots Q S pc L (.ref a0 :: .ref (ad (0)) :: st) := by
  subst hp
  exact jo_V O (k := 1) (As := [.ref a0]) (i := 0) C rfl rfl jw_520 jw_523 jw_1 ⟨by decide, by decide, by decide +kernel⟩ rfl jw_522 jsel_C_giveUp hR hst hz hd (fun v S' h => by obtain ⟨rfl, h⟩ := h; exact kk S' h)
theorem jm_C_224 (O : CallFix p m c cc nL s args ja_T "CashMachine" ∧ jb_X s0 s G ad) {a0 : Int32} {a1 : Int32} {P : ja_S → Prop} {d : Nat} (hR : d + 1 ≤ R.frames ∧ 8 + (3 + 11) + 40 * d ≤ R.locals) (hst : (st.map fun v => v.category).sum ≤ 8) (hz : cells ≤ R.cells ∧ slots ≤ R.slots) (C : jo_C l s0 G ad jy_R_add jc_R_add 3 none d [.ref (ad (5)), .int a0, .int a1] S (jo_v P)) (hd : decode cc pc = .ok (.invokevirtual 224, 3)) (hp : pc + 3 = q) (kk : ∀ (S' : ja_S), P S' → ja_V p l e R s m args below meth c (jb_W G ad) s0.heap.size nL cells slots Q S' q L st) : ja_V p l e R s m args below meth c (jb_W G ad) s0.heap.size nL cells slots Q S pc L (.int a1 :: .int a0 :: .ref (ad (5)) :: st) := by
  subst hp
  exact jo_V O (k := 2) (As := [.int a0, .int a1]) (i := 5) C rfl rfl jw_524 jw_527 jw_10 ⟨by decide, by decide, by decide +kernel⟩ rfl jw_525 jw_526 hR hst hz hd (fun v S' h => by obtain ⟨rfl, h⟩ := h; exact kk S' h)
theorem jm_C_210 (O : CallFix p m c cc nL s args ja_T "CashMachine" ∧ jb_X s0 s G ad) {a0 : Nat} {P : Int32 → ja_S → Prop} {d : Nat} (hR : d + 1 ≤ R.frames ∧ 8 + (3 + 11) + 40 * d ≤ R.locals) (hst : (st.map fun v => v.category).sum ≤ 8) (hz : cells ≤ R.cells ∧ slots ≤ R.slots) (C : jo_C l s0 G ad jy_C_present jc_C_present 3 (some .int) d [.ref (ad (0)), .ref a0] S (jo_i P)) (hd : decode cc pc = .ok (.invokevirtual 210, 3)) (hp : pc + 3 = q) (kk : ∀ (r : Int32) (S' : ja_S), P r S' → ja_V p l e R s m args below meth c (jb_W G ad) s0.heap.size nL cells slots Q S' q L (.int r :: st)) : ja_V p l e R s m args below meth c (jb_W G ad) s0.heap.size nL cells slots Q S pc L (.ref a0 :: .ref (ad (0)) :: st) := by
  subst hp
  exact jo_V O (k := 1) (As := [.ref a0]) (i := 0) C rfl rfl jw_528 jw_531 jw_1 ⟨by decide, by decide, by decide +kernel⟩ rfl jw_530 jsel_C_present hR hst hz hd (fun v S' h => by obtain ⟨r, rfl, h⟩ := h; exact kk r S' h)
theorem jm_C_216 (O : CallFix p m c cc nL s args ja_T "CashMachine" ∧ jb_X s0 s G ad) {a0 : Int32} {P : Int32 → ja_S → Prop} {d : Nat} (hR : d + 1 ≤ R.frames ∧ 8 + (6 + 11) + 40 * d ≤ R.locals) (hst : (st.map fun v => v.category).sum ≤ 8) (hz : cells ≤ R.cells ∧ slots ≤ R.slots) (C : jo_C l s0 G ad jy_D_payMix jc_D_payMix 6 (some .int) d [.ref (ad (3)), .int a0] S (jo_i P)) (hd : decode cc pc = .ok (.invokevirtual 216, 3)) (hp : pc + 3 = q) (kk : ∀ (r : Int32) (S' : ja_S), P r S' → ja_V p l e R s m args below meth c (jb_W G ad) s0.heap.size nL cells slots Q S' q L (.int r :: st)) : ja_V p l e R s m args below meth c (jb_W G ad) s0.heap.size nL cells slots Q S pc L (.int a0 :: .ref (ad (3)) :: st) := by
  subst hp
  exact jo_V O (k := 1) (As := [.int a0]) (i := 3) C rfl rfl jw_532 jw_535 jw_5 ⟨by decide, by decide, by decide +kernel⟩ rfl jw_533 jw_534 hR hst hz hd (fun v S' h => by obtain ⟨r, rfl, h⟩ := h; exact kk r S' h)
theorem jm_D_48 (O : CallFix p m c cc nL s args ja_T "CashMachine$Dispenser" ∧ jb_X s0 s G ad)  {P : Int32 → ja_S → Prop} {d : Nat} (hR : d + 1 ≤ R.frames ∧ 8 + (4 + 11) + 40 * d ≤ R.locals) (hst : (st.map fun v => v.category).sum ≤ 8) (hz : cells ≤ R.cells ∧ slots ≤ R.slots) (C : jo_C l s0 G ad jy_D_nextCassette jc_D_nextCassette 4 (some .int) d [.ref (ad (3))] S (jo_i P)) (hd : decode cc pc = .ok (.invokevirtual 48, 3)) (hp : pc + 3 = q) (kk : ∀ (r : Int32) (S' : ja_S), P r S' → ja_V p l e R s m args below meth c (jb_W G ad) s0.heap.size nL cells slots Q S' q L (.int r :: st)) : ja_V p l e R s m args below meth c (jb_W G ad) s0.heap.size nL cells slots Q S pc L (.ref (ad (3)) :: st) := by
  subst hp
  exact jo_V O (k := 0) (As := []) (i := 3) C rfl rfl jw_536 jw_539 jw_5 ⟨by decide, by decide, by decide +kernel⟩ rfl jw_538 jsel_D_nextCassette hR hst hz hd (fun v S' h => by obtain ⟨r, rfl, h⟩ := h; exact kk r S' h)
theorem jm_C_220 (O : CallFix p m c cc nL s args ja_T "CashMachine" ∧ jb_X s0 s G ad) {a0 : Nat} {a1 : Int32} {P : ja_S → Prop} {d : Nat} (hR : d + 1 ≤ R.frames ∧ 8 + (3 + 11) + 40 * d ≤ R.locals) (hst : (st.map fun v => v.category).sum ≤ 8) (hz : cells ≤ R.cells ∧ slots ≤ R.slots) (C : jo_C l s0 G ad jy_C_finish jc_C_finish 3 none d [.ref (ad (0)), .ref a0, .int a1] S (jo_v P)) (hd : decode cc pc = .ok (.invokevirtual 220, 3)) (hp : pc + 3 = q) (kk : ∀ (S' : ja_S), P S' → ja_V p l e R s m args below meth c (jb_W G ad) s0.heap.size nL cells slots Q S' q L st) : ja_V p l e R s m args below meth c (jb_W G ad) s0.heap.size nL cells slots Q S pc L (.int a1 :: .ref a0 :: .ref (ad (0)) :: st) := by
  subst hp
  exact jo_V O (k := 2) (As := [.ref a0, .int a1]) (i := 0) C rfl rfl jw_540 jw_543 jw_1 ⟨by decide, by decide, by decide +kernel⟩ rfl jw_542 jsel_C_finish hR hst hz hd (fun v S' h => by obtain ⟨rfl, h⟩ := h; exact kk S' h)
theorem jm_L_40 (O : CallFix p m c cc nL s args ja_T "CashMachineLaw" ∧ jb_X s0 s G ad) {a0 : Int32} {a1 : Int32} {P : Int32 → ja_S → Prop} {d : Nat} (hR : d + 1 ≤ R.frames ∧ 8 + (3 + 11) + 40 * d ≤ R.locals) (hst : (st.map fun v => v.category).sum ≤ 8) (hz : cells ≤ R.cells ∧ slots ≤ R.slots) (C : jo_C l s0 G ad jy_C_mix jc_C_mix 3 (some .int) d [.ref (ad (0)), .int a0, .int a1] S (jo_i P)) (hd : decode cc pc = .ok (.invokevirtual 40, 3)) (hp : pc + 3 = q) (kk : ∀ (r : Int32) (S' : ja_S), P r S' → ja_V p l e R s m args below meth c (jb_W G ad) s0.heap.size nL cells slots Q S' q L (.int r :: st)) : ja_V p l e R s m args below meth c (jb_W G ad) s0.heap.size nL cells slots Q S pc L (.int a1 :: .int a0 :: .ref (ad (0)) :: st) := by
  subst hp
  exact jo_V O (k := 2) (As := [.int a0, .int a1]) (i := 0) C rfl rfl jw_547 jw_550 jw_1 ⟨by decide, by decide, by decide +kernel⟩ rfl jw_548 jw_549 hR hst hz hd (fun v S' h => by obtain ⟨r, rfl, h⟩ := h; exact kk r S' h)
theorem jm_L_44 (O : CallFix p m c cc nL s args ja_T "CashMachineLaw" ∧ jb_X s0 s G ad) {a0 : Int32} {P : Int32 → ja_S → Prop} {d : Nat} (hR : d + 1 ≤ R.frames ∧ 8 + (2 + 11) + 40 * d ≤ R.locals) (hst : (st.map fun v => v.category).sum ≤ 8) (hz : cells ≤ R.cells ∧ slots ≤ R.slots) (C : jo_C l s0 G ad jy_C_line jc_C_line 2 (some .int) d [.ref (ad (0)), .int a0] S (jo_i P)) (hd : decode cc pc = .ok (.invokevirtual 44, 3)) (hp : pc + 3 = q) (kk : ∀ (r : Int32) (S' : ja_S), P r S' → ja_V p l e R s m args below meth c (jb_W G ad) s0.heap.size nL cells slots Q S' q L (.int r :: st)) : ja_V p l e R s m args below meth c (jb_W G ad) s0.heap.size nL cells slots Q S pc L (.int a0 :: .ref (ad (0)) :: st) := by
  subst hp
  exact jo_V O (k := 1) (As := [.int a0]) (i := 0) C rfl rfl jw_554 jw_557 jw_1 ⟨by decide, by decide, by decide +kernel⟩ rfl jw_555 jw_556 hR hst hz hd (fun v S' h => by obtain ⟨r, rfl, h⟩ := h; exact kk r S' h)
theorem jm_C_137 (O : CallFix p m c cc nL s args ja_T "CashMachine" ∧ jb_X s0 s G ad) {a0 : Int32} {P : ja_S → Prop} {d : Nat} (hR : d + 1 ≤ R.frames ∧ 8 + (2 + 11) + 40 * d ≤ R.locals) (hst : (st.map fun v => v.category).sum ≤ 8) (hz : cells ≤ R.cells ∧ slots ≤ R.slots) (C : jo_C l s0 G ad jy_N_add jc_N_add 2 none d [.ref (ad (2)), .int a0] S (jo_v P)) (hd : decode cc pc = .ok (.invokevirtual 137, 3)) (hp : pc + 3 = q) (kk : ∀ (S' : ja_S), P S' → ja_V p l e R s m args below meth c (jb_W G ad) s0.heap.size nL cells slots Q S' q L st) : ja_V p l e R s m args below meth c (jb_W G ad) s0.heap.size nL cells slots Q S pc L (.int a0 :: .ref (ad (2)) :: st) := by
  subst hp
  exact jo_V O (k := 1) (As := [.int a0]) (i := 2) C rfl rfl jw_558 jw_561 jw_4 ⟨by decide, by decide, by decide +kernel⟩ rfl jw_559 jw_560 hR hst hz hd (fun v S' h => by obtain ⟨rfl, h⟩ := h; exact kk S' h)
theorem jm_L_47 (O : CallFix p m c cc nL s args ja_T "CashMachineLaw" ∧ jb_X s0 s G ad) {a0 : Int32} {P : Int32 → ja_S → Prop} {d : Nat} (hR : d + 1 ≤ R.frames ∧ 8 + (2 + 11) + 40 * d ≤ R.locals) (hst : (st.map fun v => v.category).sum ≤ 8) (hz : cells ≤ R.cells ∧ slots ≤ R.slots) (C : jo_C l s0 G ad jy_C_jam jc_C_jam 2 (some .int) d [.ref (ad (0)), .int a0] S (jo_i P)) (hd : decode cc pc = .ok (.invokevirtual 47, 3)) (hp : pc + 3 = q) (kk : ∀ (r : Int32) (S' : ja_S), P r S' → ja_V p l e R s m args below meth c (jb_W G ad) s0.heap.size nL cells slots Q S' q L (.int r :: st)) : ja_V p l e R s m args below meth c (jb_W G ad) s0.heap.size nL cells slots Q S pc L (.int a0 :: .ref (ad (0)) :: st) := by
  subst hp
  exact jo_V O (k := 1) (As := [.int a0]) (i := 0) C rfl rfl jw_565 jw_568 jw_1 ⟨by decide, by decide, by decide +kernel⟩ rfl jw_566 jw_567 hR hst hz hd (fun v S' h => by obtain ⟨r, rfl, h⟩ := h; exact kk r S' h)
theorem jm_L_50 (O : CallFix p m c cc nL s args ja_T "CashMachineLaw" ∧ jb_X s0 s G ad) {a0 : Int32} {P : Int32 → ja_S → Prop} {d : Nat} (hR : d + 1 ≤ R.frames ∧ 8 + (2 + 11) + 40 * d ≤ R.locals) (hst : (st.map fun v => v.category).sum ≤ 8) (hz : cells ≤ R.cells ∧ slots ≤ R.slots) (C : jo_C l s0 G ad jy_C_power jc_C_power 2 (some .int) d [.ref (ad (0)), .int a0] S (jo_i P)) (hd : decode cc pc = .ok (.invokevirtual 50, 3)) (hp : pc + 3 = q) (kk : ∀ (r : Int32) (S' : ja_S), P r S' → ja_V p l e R s m args below meth c (jb_W G ad) s0.heap.size nL cells slots Q S' q L (.int r :: st)) : ja_V p l e R s m args below meth c (jb_W G ad) s0.heap.size nL cells slots Q S pc L (.int a0 :: .ref (ad (0)) :: st) := by
  subst hp
  exact jo_V O (k := 1) (As := [.int a0]) (i := 0) C rfl rfl jw_572 jw_575 jw_1 ⟨by decide, by decide, by decide +kernel⟩ rfl jw_573 jw_574 hR hst hz hd (fun v S' h => by obtain ⟨r, rfl, h⟩ := h; exact kk r S' h)
theorem jm_L_53 (O : CallFix p m c cc nL s args ja_T "CashMachineLaw" ∧ jb_X s0 s G ad)  {P : Int32 → ja_S → Prop} {d : Nat} (hR : d + 1 ≤ R.frames ∧ 8 + (1 + 11) + 40 * d ≤ R.locals) (hst : (st.map fun v => v.category).sum ≤ 8) (hz : cells ≤ R.cells ∧ slots ≤ R.slots) (C : jo_C l s0 G ad jy_C_boot jc_C_boot 1 (some .int) d [.ref (ad (0))] S (jo_i P)) (hd : decode cc pc = .ok (.invokevirtual 53, 3)) (hp : pc + 3 = q) (kk : ∀ (r : Int32) (S' : ja_S), P r S' → ja_V p l e R s m args below meth c (jb_W G ad) s0.heap.size nL cells slots Q S' q L (.int r :: st)) : ja_V p l e R s m args below meth c (jb_W G ad) s0.heap.size nL cells slots Q S pc L (.ref (ad (0)) :: st) := by
  subst hp
  exact jo_V O (k := 0) (As := []) (i := 0) C rfl rfl jw_579 jw_582 jw_1 ⟨by decide, by decide, by decide +kernel⟩ rfl jw_580 jw_581 hR hst hz hd (fun v S' h => by obtain ⟨r, rfl, h⟩ := h; exact kk r S' h)
theorem jm_C_144 (O : CallFix p m c cc nL s args ja_T "CashMachine" ∧ jb_X s0 s G ad)  {P : Nat → ja_S → Prop} {d : Nat} (hR : d + 1 ≤ R.frames ∧ 8 + (1 + 11) + 40 * d ≤ R.locals) (hst : (st.map fun v => v.category).sum ≤ 8) (hz : cells ≤ R.cells ∧ slots ≤ R.slots) (C : jo_C l s0 G ad jy_J_last jc_J_last 1 (some (.object "CashMachine$Entry")) d [.ref (ad (4))] S (jo_a P)) (hd : decode cc pc = .ok (.invokevirtual 144, 3)) (hp : pc + 3 = q) (kk : ∀ (r : Nat) (S' : ja_S), P r S' → ja_V p l e R s m args below meth c (jb_W G ad) s0.heap.size nL cells slots Q S' q L (.ref r :: st)) : ja_V p l e R s m args below meth c (jb_W G ad) s0.heap.size nL cells slots Q S pc L (.ref (ad (4)) :: st) := by
  subst hp
  exact jo_V O (k := 0) (As := []) (i := 4) C rfl rfl jw_583 jw_586 jw_8 ⟨by decide, by decide, by decide +kernel⟩ rfl jw_584 jw_585 hR hst hz hd (fun v S' h => by obtain ⟨r, rfl, h⟩ := h; exact kk r S' h)
theorem jm_C_148 (O : CallFix p m c cc nL s args ja_T "CashMachine" ∧ jb_X s0 s G ad) {a0 : Nat} {P : ja_S → Prop} {d : Nat} (hR : d + 1 ≤ R.frames ∧ 8 + (2 + 11) + 40 * d ≤ R.locals) (hst : (st.map fun v => v.category).sum ≤ 8) (hz : cells ≤ R.cells ∧ slots ≤ R.slots) (C : jo_C l s0 G ad jy_C_recover jc_C_recover 2 none d [.ref (ad (0)), .ref a0] S (jo_v P)) (hd : decode cc pc = .ok (.invokevirtual 148, 3)) (hp : pc + 3 = q) (kk : ∀ (S' : ja_S), P S' → ja_V p l e R s m args below meth c (jb_W G ad) s0.heap.size nL cells slots Q S' q L st) : ja_V p l e R s m args below meth c (jb_W G ad) s0.heap.size nL cells slots Q S pc L (.ref a0 :: .ref (ad (0)) :: st) := by
  subst hp
  exact jo_V O (k := 1) (As := [.ref a0]) (i := 0) C rfl rfl jw_587 jw_590 jw_1 ⟨by decide, by decide, by decide +kernel⟩ rfl jw_589 jsel_C_recover hR hst hz hd (fun v S' h => by obtain ⟨rfl, h⟩ := h; exact kk S' h)
theorem jm_C_227 (O : CallFix p m c cc nL s args ja_T "CashMachine" ∧ jb_X s0 s G ad) {a0 : Int32} {P : Int32 → ja_S → Prop} {d : Nat} (hR : d + 1 ≤ R.frames ∧ 8 + (2 + 11) + 40 * d ≤ R.locals) (hst : (st.map fun v => v.category).sum ≤ 8) (hz : cells ≤ R.cells ∧ slots ≤ R.slots) (C : jo_C l s0 G ad jy_D_presentedFor jc_D_presentedFor 2 (some .int) d [.ref (ad (3)), .int a0] S (jo_i P)) (hd : decode cc pc = .ok (.invokevirtual 227, 3)) (hp : pc + 3 = q) (kk : ∀ (r : Int32) (S' : ja_S), P r S' → ja_V p l e R s m args below meth c (jb_W G ad) s0.heap.size nL cells slots Q S' q L (.int r :: st)) : ja_V p l e R s m args below meth c (jb_W G ad) s0.heap.size nL cells slots Q S pc L (.int a0 :: .ref (ad (3)) :: st) := by
  subst hp
  exact jo_V O (k := 1) (As := [.int a0]) (i := 3) C rfl rfl jw_591 jw_594 jw_5 ⟨by decide, by decide, by decide +kernel⟩ rfl jw_592 jw_593 hR hst hz hd (fun v S' h => by obtain ⟨r, rfl, h⟩ := h; exact kk r S' h)
theorem jm_L_56 (O : CallFix p m c cc nL s args ja_T "CashMachineLaw" ∧ jb_X s0 s G ad)  {P : Int32 → ja_S → Prop} {d : Nat} (hR : d + 1 ≤ R.frames ∧ 8 + (2 + 11) + 40 * d ≤ R.locals) (hst : (st.map fun v => v.category).sum ≤ 8) (hz : cells ≤ R.cells ∧ slots ≤ R.slots) (C : jo_C l s0 G ad jy_C_settle jc_C_settle 2 (some .int) d [.ref (ad (0))] S (jo_i P)) (hd : decode cc pc = .ok (.invokevirtual 56, 3)) (hp : pc + 3 = q) (kk : ∀ (r : Int32) (S' : ja_S), P r S' → ja_V p l e R s m args below meth c (jb_W G ad) s0.heap.size nL cells slots Q S' q L (.int r :: st)) : ja_V p l e R s m args below meth c (jb_W G ad) s0.heap.size nL cells slots Q S pc L (.ref (ad (0)) :: st) := by
  subst hp
  exact jo_V O (k := 0) (As := []) (i := 0) C rfl rfl jw_598 jw_601 jw_1 ⟨by decide, by decide, by decide +kernel⟩ rfl jw_599 jw_600 hR hst hz hd (fun v S' h => by obtain ⟨r, rfl, h⟩ := h; exact kk r S' h)
theorem jm_C_153 (O : CallFix p m c cc nL s args ja_T "CashMachine" ∧ jb_X s0 s G ad) {a0 : Int32} {P : Int32 → ja_S → Prop} {d : Nat} (hR : d + 1 ≤ R.frames ∧ 8 + (3 + 11) + 40 * d ≤ R.locals) (hst : (st.map fun v => v.category).sum ≤ 8) (hz : cells ≤ R.cells ∧ slots ≤ R.slots) (C : jo_C l s0 G ad jy_C_exchangeReversal jc_C_exchangeReversal 3 (some .boolean) d [.ref (ad (0)), .int a0] S (jo_i P)) (hd : decode cc pc = .ok (.invokevirtual 153, 3)) (hp : pc + 3 = q) (kk : ∀ (r : Int32) (S' : ja_S), P r S' → ja_V p l e R s m args below meth c (jb_W G ad) s0.heap.size nL cells slots Q S' q L (.int r :: st)) : ja_V p l e R s m args below meth c (jb_W G ad) s0.heap.size nL cells slots Q S pc L (.int a0 :: .ref (ad (0)) :: st) := by
  subst hp
  exact jo_V O (k := 1) (As := [.int a0]) (i := 0) C rfl rfl jw_602 jw_605 jw_1 ⟨by decide, by decide, by decide +kernel⟩ rfl jw_604 jsel_C_exchangeReversal hR hst hz hd (fun v S' h => by obtain ⟨r, rfl, h⟩ := h; exact kk r S' h)
theorem jm_C_239 (O : CallFix p m c cc nL s args ja_T "CashMachine" ∧ jb_X s0 s G ad) {a0 : Int32} {a1 : Int32} {P : ja_S → Prop} {d : Nat} (hR : d + 1 ≤ R.frames ∧ 8 + (3 + 11) + 40 * d ≤ R.locals) (hst : (st.map fun v => v.category).sum ≤ 8) (hz : cells ≤ R.cells ∧ slots ≤ R.slots) (C : jo_C l s0 G ad jy_H_receiveReversal jc_H_receiveReversal 3 none d [.ref (ad (1)), .int a0, .int a1] S (jo_v P)) (hd : decode cc pc = .ok (.invokevirtual 239, 3)) (hp : pc + 3 = q) (kk : ∀ (S' : ja_S), P S' → ja_V p l e R s m args below meth c (jb_W G ad) s0.heap.size nL cells slots Q S' q L st) : ja_V p l e R s m args below meth c (jb_W G ad) s0.heap.size nL cells slots Q S pc L (.int a1 :: .int a0 :: .ref (ad (1)) :: st) := by
  subst hp
  exact jo_V O (k := 2) (As := [.int a0, .int a1]) (i := 1) C rfl rfl jw_606 jw_609 jw_2 ⟨by decide, by decide, by decide +kernel⟩ rfl jw_607 jw_608 hR hst hz hd (fun v S' h => by obtain ⟨rfl, h⟩ := h; exact kk S' h)
theorem jm_C_156 (O : CallFix p m c cc nL s args ja_T "CashMachine" ∧ jb_X s0 s G ad) {a0 : Int32} {P : ja_S → Prop} {d : Nat} (hR : d + 1 ≤ R.frames ∧ 8 + (2 + 11) + 40 * d ≤ R.locals) (hst : (st.map fun v => v.category).sum ≤ 8) (hz : cells ≤ R.cells ∧ slots ≤ R.slots) (C : jo_C l s0 G ad jy_R_dropFirst jc_R_dropFirst 2 none d [.ref (ad (5)), .int a0] S (jo_v P)) (hd : decode cc pc = .ok (.invokevirtual 156, 3)) (hp : pc + 3 = q) (kk : ∀ (S' : ja_S), P S' → ja_V p l e R s m args below meth c (jb_W G ad) s0.heap.size nL cells slots Q S' q L st) : ja_V p l e R s m args below meth c (jb_W G ad) s0.heap.size nL cells slots Q S pc L (.int a0 :: .ref (ad (5)) :: st) := by
  subst hp
  exact jo_V O (k := 1) (As := [.int a0]) (i := 5) C rfl rfl jw_610 jw_613 jw_10 ⟨by decide, by decide, by decide +kernel⟩ rfl jw_611 jw_612 hR hst hz hd (fun v S' h => by obtain ⟨rfl, h⟩ := h; exact kk S' h)
theorem jm_L_59 (O : CallFix p m c cc nL s args ja_T "CashMachineLaw" ∧ jb_X s0 s G ad) {a0 : Int32} {P : Int32 → ja_S → Prop} {d : Nat} (hR : d + 1 ≤ R.frames ∧ 8 + (2 + 11) + 40 * d ≤ R.locals) (hst : (st.map fun v => v.category).sum ≤ 8) (hz : cells ≤ R.cells ∧ slots ≤ R.slots) (C : jo_C l s0 G ad jy_C_balance jc_C_balance 2 (some .int) d [.ref (ad (0)), .int a0] S (jo_i P)) (hd : decode cc pc = .ok (.invokevirtual 59, 3)) (hp : pc + 3 = q) (kk : ∀ (r : Int32) (S' : ja_S), P r S' → ja_V p l e R s m args below meth c (jb_W G ad) s0.heap.size nL cells slots Q S' q L (.int r :: st)) : ja_V p l e R s m args below meth c (jb_W G ad) s0.heap.size nL cells slots Q S pc L (.int a0 :: .ref (ad (0)) :: st) := by
  subst hp
  exact jo_V O (k := 1) (As := [.int a0]) (i := 0) C rfl rfl jw_618 jw_621 jw_1 ⟨by decide, by decide, by decide +kernel⟩ rfl jw_619 jw_620 hR hst hz hd (fun v S' h => by obtain ⟨r, rfl, h⟩ := h; exact kk r S' h)
theorem jm_L_62 (O : CallFix p m c cc nL s args ja_T "CashMachineLaw" ∧ jb_X s0 s G ad) {a0 : Int32} {a1 : Int32} {P : Int32 → ja_S → Prop} {d : Nat} (hR : d + 1 ≤ R.frames ∧ 8 + (4 + 11) + 40 * d ≤ R.locals) (hst : (st.map fun v => v.category).sum ≤ 8) (hz : cells ≤ R.cells ∧ slots ≤ R.slots) (C : jo_C l s0 G ad jy_C_trace jc_C_trace 4 (some .int) d [.ref (ad (0)), .int a0, .int a1] S (jo_i P)) (hd : decode cc pc = .ok (.invokevirtual 62, 3)) (hp : pc + 3 = q) (kk : ∀ (r : Int32) (S' : ja_S), P r S' → ja_V p l e R s m args below meth c (jb_W G ad) s0.heap.size nL cells slots Q S' q L (.int r :: st)) : ja_V p l e R s m args below meth c (jb_W G ad) s0.heap.size nL cells slots Q S pc L (.int a1 :: .int a0 :: .ref (ad (0)) :: st) := by
  subst hp
  exact jo_V O (k := 2) (As := [.int a0, .int a1]) (i := 0) C rfl rfl jw_625 jw_628 jw_1 ⟨by decide, by decide, by decide +kernel⟩ rfl jw_626 jw_627 hR hst hz hd (fun v S' h => by obtain ⟨r, rfl, h⟩ := h; exact kk r S' h)
theorem jm_L_65 (O : CallFix p m c cc nL s args ja_T "CashMachineLaw" ∧ jb_X s0 s G ad) {a0 : Int32} {P : Int32 → ja_S → Prop} {d : Nat} (hR : d + 1 ≤ R.frames ∧ 8 + (2 + 11) + 40 * d ≤ R.locals) (hst : (st.map fun v => v.category).sum ≤ 8) (hz : cells ≤ R.cells ∧ slots ≤ R.slots) (C : jo_C l s0 G ad jy_C_reversal jc_C_reversal 2 (some .int) d [.ref (ad (0)), .int a0] S (jo_i P)) (hd : decode cc pc = .ok (.invokevirtual 65, 3)) (hp : pc + 3 = q) (kk : ∀ (r : Int32) (S' : ja_S), P r S' → ja_V p l e R s m args below meth c (jb_W G ad) s0.heap.size nL cells slots Q S' q L (.int r :: st)) : ja_V p l e R s m args below meth c (jb_W G ad) s0.heap.size nL cells slots Q S pc L (.int a0 :: .ref (ad (0)) :: st) := by
  subst hp
  exact jo_V O (k := 1) (As := [.int a0]) (i := 0) C rfl rfl jw_632 jw_635 jw_1 ⟨by decide, by decide, by decide +kernel⟩ rfl jw_633 jw_634 hR hst hz hd (fun v S' h => by obtain ⟨r, rfl, h⟩ := h; exact kk r S' h)
theorem jm_L_68 (O : CallFix p m c cc nL s args ja_T "CashMachineLaw" ∧ jb_X s0 s G ad) {a0 : Int32} {P : Int32 → ja_S → Prop} {d : Nat} (hR : d + 1 ≤ R.frames ∧ 8 + (2 + 11) + 40 * d ≤ R.locals) (hst : (st.map fun v => v.category).sum ≤ 8) (hz : cells ≤ R.cells ∧ slots ≤ R.slots) (C : jo_C l s0 G ad jy_C_notes jc_C_notes 2 (some .int) d [.ref (ad (0)), .int a0] S (jo_i P)) (hd : decode cc pc = .ok (.invokevirtual 68, 3)) (hp : pc + 3 = q) (kk : ∀ (r : Int32) (S' : ja_S), P r S' → ja_V p l e R s m args below meth c (jb_W G ad) s0.heap.size nL cells slots Q S' q L (.int r :: st)) : ja_V p l e R s m args below meth c (jb_W G ad) s0.heap.size nL cells slots Q S pc L (.int a0 :: .ref (ad (0)) :: st) := by
  subst hp
  exact jo_V O (k := 1) (As := [.int a0]) (i := 0) C rfl rfl jw_639 jw_642 jw_1 ⟨by decide, by decide, by decide +kernel⟩ rfl jw_640 jw_641 hR hst hz hd (fun v S' h => by obtain ⟨r, rfl, h⟩ := h; exact kk r S' h)
theorem jm_L_71 (O : CallFix p m c cc nL s args ja_T "CashMachineLaw" ∧ jb_X s0 s G ad) {a0 : Int32} {P : Int32 → ja_S → Prop} {d : Nat} (hR : d + 1 ≤ R.frames ∧ 8 + (2 + 11) + 40 * d ≤ R.locals) (hst : (st.map fun v => v.category).sum ≤ 8) (hz : cells ≤ R.cells ∧ slots ≤ R.slots) (C : jo_C l s0 G ad jy_C_count jc_C_count 2 (some .int) d [.ref (ad (0)), .int a0] S (jo_i P)) (hd : decode cc pc = .ok (.invokevirtual 71, 3)) (hp : pc + 3 = q) (kk : ∀ (r : Int32) (S' : ja_S), P r S' → ja_V p l e R s m args below meth c (jb_W G ad) s0.heap.size nL cells slots Q S' q L (.int r :: st)) : ja_V p l e R s m args below meth c (jb_W G ad) s0.heap.size nL cells slots Q S pc L (.int a0 :: .ref (ad (0)) :: st) := by
  subst hp
  exact jo_V O (k := 1) (As := [.int a0]) (i := 0) C rfl rfl jw_646 jw_649 jw_1 ⟨by decide, by decide, by decide +kernel⟩ rfl jw_647 jw_648 hR hst hz hd (fun v S' h => by obtain ⟨r, rfl, h⟩ := h; exact kk r S' h)
theorem jm_C_198 (O : CallFix p m c cc nL s args ja_T "CashMachine" ∧ jb_X s0 s G ad)  {P : Int32 → ja_S → Prop} {d : Nat} (hR : d + 1 ≤ R.frames ∧ 8 + (6 + 11) + 40 * d ≤ R.locals) (hst : (st.map fun v => v.category).sum ≤ 8) (hz : cells ≤ R.cells ∧ slots ≤ R.slots) (C : jo_C l s0 G ad jy_H_blockedAccounts jc_H_blockedAccounts 6 (some .int) d [.ref (ad (1))] S (jo_i P)) (hd : decode cc pc = .ok (.invokevirtual 198, 3)) (hp : pc + 3 = q) (kk : ∀ (r : Int32) (S' : ja_S), P r S' → ja_V p l e R s m args below meth c (jb_W G ad) s0.heap.size nL cells slots Q S' q L (.int r :: st)) : ja_V p l e R s m args below meth c (jb_W G ad) s0.heap.size nL cells slots Q S pc L (.ref (ad (1)) :: st) := by
  subst hp
  exact jo_V O (k := 0) (As := []) (i := 1) C rfl rfl jw_650 jw_653 jw_2 ⟨by decide, by decide, by decide +kernel⟩ rfl jw_651 jw_652 hR hst hz hd (fun v S' h => by obtain ⟨r, rfl, h⟩ := h; exact kk r S' h)
theorem jm_L_84 (O : CallFix p m c cc nL s args ja_T "CashMachineLaw" ∧ jb_X s0 s G ad)  {P : Int32 → ja_S → Prop} {d : Nat} (hR : d + 1 ≤ R.frames ∧ 8 + (1 + 11) + 40 * d ≤ R.locals) (hst : (st.map fun v => v.category).sum ≤ 8) (hz : cells ≤ R.cells ∧ slots ≤ R.slots) (C : jo_C l s0 G ad jy_M_thrown jc_M_thrown 1 (some .int) d [.ref (ad (7))] S (jo_i P)) (hd : decode cc pc = .ok (.invokevirtual 84, 3)) (hp : pc + 3 = q) (kk : ∀ (r : Int32) (S' : ja_S), P r S' → ja_V p l e R s m args below meth c (jb_W G ad) s0.heap.size nL cells slots Q S' q L (.int r :: st)) : ja_V p l e R s m args below meth c (jb_W G ad) s0.heap.size nL cells slots Q S pc L (.ref (ad (7)) :: st) := by
  subst hp
  exact jo_V O (k := 0) (As := []) (i := 7) C rfl rfl jw_751 jw_754 jw_11 ⟨by decide, by decide, by decide +kernel⟩ rfl jw_752 jw_753 hR hst hz hd (fun v S' h => by obtain ⟨r, rfl, h⟩ := h; exact kk r S' h)
theorem jm_L_83 (O : CallFix p m c cc nL s args ja_T "CashMachineLaw" ∧ jb_X s0 s G ad) {a0 : Int32} {a1 : Int32} {a2 : Int32} {P : Int32 → ja_S → Prop} {d : Nat} (hR : d + 1 ≤ R.frames ∧ 8 + (6 + 11) + 40 * d ≤ R.locals) (hst : (st.map fun v => v.category).sum ≤ 8) (hz : cells ≤ R.cells ∧ slots ≤ R.slots) (C : jo_C l s0 G ad jy_M_open jc_M_open 6 (some .int) d [.ref (ad (7)), .int a0, .int a1, .int a2] S (jo_i P)) (hd : decode cc pc = .ok (.invokevirtual 83, 3)) (hp : pc + 3 = q) (kk : ∀ (r : Int32) (S' : ja_S), P r S' → ja_V p l e R s m args below meth c (jb_W G ad) s0.heap.size nL cells slots Q S' q L (.int r :: st)) : ja_V p l e R s m args below meth c (jb_W G ad) s0.heap.size nL cells slots Q S pc L (.int a2 :: .int a1 :: .int a0 :: .ref (ad (7)) :: st) := by
  subst hp
  exact jo_V O (k := 3) (As := [.int a0, .int a1, .int a2]) (i := 7) C rfl rfl jw_755 jw_758 jw_11 ⟨by decide, by decide, by decide +kernel⟩ rfl jw_756 jw_757 hR hst hz hd (fun v S' h => by obtain ⟨r, rfl, h⟩ := h; exact kk r S' h)
theorem jm_M_75 (O : CallFix p m c cc nL s args ja_T "CashMachineModel" ∧ jb_X s0 s G ad) {a0 : Int32} {a1 : Int32} {a2 : Int32} {P : Int32 → ja_S → Prop} {d : Nat} (hR : d + 1 ≤ R.frames ∧ 8 + (3 + 11) + 40 * d ≤ R.locals) (hst : (st.map fun v => v.category).sum ≤ 8) (hz : cells ≤ R.cells ∧ slots ≤ R.slots) (C : jo_C l s0 G ad jy_M_in jc_M_in 3 (some .boolean) d [.int a0, .int a1, .int a2] S (jo_i P)) (hd : decode cc pc = .ok (.invokestatic 75, 3)) (hp : pc + 3 = q) (kk : ∀ (r : Int32) (S' : ja_S), P r S' → ja_V p l e R s m args below meth c (jb_W G ad) s0.heap.size nL cells slots Q S' q L (.int r :: st)) : ja_V p l e R s m args below meth c (jb_W G ad) s0.heap.size nL cells slots Q S pc L (.int a2 :: .int a1 :: .int a0 :: st) := by
  subst hp
  exact jo_S O (k := 3) (As := [.int a0, .int a1, .int a2]) C jw_759 jw_761 jw_11 ⟨by decide, by decide, by decide +kernel⟩ rfl jw_760 hR hst hz hd (fun v S' h => by obtain ⟨r, rfl, h⟩ := h; exact kk r S' h)
theorem jm_M_80 (O : CallFix p m c cc nL s args ja_T "CashMachineModel" ∧ jb_X s0 s G ad) {a0 : Int32} {P : Int32 → ja_S → Prop} {d : Nat} (hR : d + 1 ≤ R.frames ∧ 8 + (2 + 11) + 40 * d ≤ R.locals) (hst : (st.map fun v => v.category).sum ≤ 8) (hz : cells ≤ R.cells ∧ slots ≤ R.slots) (C : jo_C l s0 G ad jy_M_fail jc_M_fail 2 (some .int) d [.ref (ad (7)), .int a0] S (jo_i P)) (hd : decode cc pc = .ok (.invokevirtual 80, 3)) (hp : pc + 3 = q) (kk : ∀ (r : Int32) (S' : ja_S), P r S' → ja_V p l e R s m args below meth c (jb_W G ad) s0.heap.size nL cells slots Q S' q L (.int r :: st)) : ja_V p l e R s m args below meth c (jb_W G ad) s0.heap.size nL cells slots Q S pc L (.int a0 :: .ref (ad (7)) :: st) := by
  subst hp
  exact jo_V O (k := 1) (As := [.int a0]) (i := 7) C rfl rfl jw_763 jw_766 jw_11 ⟨by decide, by decide, by decide +kernel⟩ rfl jw_765 jsel_M_fail hR hst hz hd (fun v S' h => by obtain ⟨r, rfl, h⟩ := h; exact kk r S' h)
theorem jm_L_89 (O : CallFix p m c cc nL s args ja_T "CashMachineLaw" ∧ jb_X s0 s G ad) {a0 : Int32} {a1 : Int32} {a2 : Int32} {P : Int32 → ja_S → Prop} {d : Nat} (hR : d + 1 ≤ R.frames ∧ 8 + (5 + 11) + 40 * d ≤ R.locals) (hst : (st.map fun v => v.category).sum ≤ 8) (hz : cells ≤ R.cells ∧ slots ≤ R.slots) (C : jo_C l s0 G ad jy_M_load jc_M_load 5 (some .int) d [.ref (ad (7)), .int a0, .int a1, .int a2] S (jo_i P)) (hd : decode cc pc = .ok (.invokevirtual 89, 3)) (hp : pc + 3 = q) (kk : ∀ (r : Int32) (S' : ja_S), P r S' → ja_V p l e R s m args below meth c (jb_W G ad) s0.heap.size nL cells slots Q S' q L (.int r :: st)) : ja_V p l e R s m args below meth c (jb_W G ad) s0.heap.size nL cells slots Q S pc L (.int a2 :: .int a1 :: .int a0 :: .ref (ad (7)) :: st) := by
  subst hp
  exact jo_V O (k := 3) (As := [.int a0, .int a1, .int a2]) (i := 7) C rfl rfl jw_767 jw_770 jw_11 ⟨by decide, by decide, by decide +kernel⟩ rfl jw_768 jw_769 hR hst hz hd (fun v S' h => by obtain ⟨r, rfl, h⟩ := h; exact kk r S' h)
theorem jm_L_93 (O : CallFix p m c cc nL s args ja_T "CashMachineLaw" ∧ jb_X s0 s G ad) {a0 : Int32} {P : Int32 → ja_S → Prop} {d : Nat} (hR : d + 1 ≤ R.frames ∧ 8 + (2 + 11) + 40 * d ≤ R.locals) (hst : (st.map fun v => v.category).sum ≤ 8) (hz : cells ≤ R.cells ∧ slots ≤ R.slots) (C : jo_C l s0 G ad jy_M_insert jc_M_insert 2 (some .int) d [.ref (ad (7)), .int a0] S (jo_i P)) (hd : decode cc pc = .ok (.invokevirtual 93, 3)) (hp : pc + 3 = q) (kk : ∀ (r : Int32) (S' : ja_S), P r S' → ja_V p l e R s m args below meth c (jb_W G ad) s0.heap.size nL cells slots Q S' q L (.int r :: st)) : ja_V p l e R s m args below meth c (jb_W G ad) s0.heap.size nL cells slots Q S pc L (.int a0 :: .ref (ad (7)) :: st) := by
  subst hp
  exact jo_V O (k := 1) (As := [.int a0]) (i := 7) C rfl rfl jw_771 jw_774 jw_11 ⟨by decide, by decide, by decide +kernel⟩ rfl jw_772 jw_773 hR hst hz hd (fun v S' h => by obtain ⟨r, rfl, h⟩ := h; exact kk r S' h)
theorem jm_L_96 (O : CallFix p m c cc nL s args ja_T "CashMachineLaw" ∧ jb_X s0 s G ad) {a0 : Int32} {P : Int32 → ja_S → Prop} {d : Nat} (hR : d + 1 ≤ R.frames ∧ 8 + (3 + 11) + 40 * d ≤ R.locals) (hst : (st.map fun v => v.category).sum ≤ 8) (hz : cells ≤ R.cells ∧ slots ≤ R.slots) (C : jo_C l s0 G ad jy_M_pin jc_M_pin 3 (some .int) d [.ref (ad (7)), .int a0] S (jo_i P)) (hd : decode cc pc = .ok (.invokevirtual 96, 3)) (hp : pc + 3 = q) (kk : ∀ (r : Int32) (S' : ja_S), P r S' → ja_V p l e R s m args below meth c (jb_W G ad) s0.heap.size nL cells slots Q S' q L (.int r :: st)) : ja_V p l e R s m args below meth c (jb_W G ad) s0.heap.size nL cells slots Q S pc L (.int a0 :: .ref (ad (7)) :: st) := by
  subst hp
  exact jo_V O (k := 1) (As := [.int a0]) (i := 7) C rfl rfl jw_775 jw_778 jw_11 ⟨by decide, by decide, by decide +kernel⟩ rfl jw_776 jw_777 hR hst hz hd (fun v S' h => by obtain ⟨r, rfl, h⟩ := h; exact kk r S' h)
theorem jm_L_100 (O : CallFix p m c cc nL s args ja_T "CashMachineLaw" ∧ jb_X s0 s G ad)  {P : Int32 → ja_S → Prop} {d : Nat} (hR : d + 1 ≤ R.frames ∧ 8 + (2 + 11) + 40 * d ≤ R.locals) (hst : (st.map fun v => v.category).sum ≤ 8) (hz : cells ≤ R.cells ∧ slots ≤ R.slots) (C : jo_C l s0 G ad jy_M_eject jc_M_eject 2 (some .int) d [.ref (ad (7))] S (jo_i P)) (hd : decode cc pc = .ok (.invokevirtual 100, 3)) (hp : pc + 3 = q) (kk : ∀ (r : Int32) (S' : ja_S), P r S' → ja_V p l e R s m args below meth c (jb_W G ad) s0.heap.size nL cells slots Q S' q L (.int r :: st)) : ja_V p l e R s m args below meth c (jb_W G ad) s0.heap.size nL cells slots Q S pc L (.ref (ad (7)) :: st) := by
  subst hp
  exact jo_V O (k := 0) (As := []) (i := 7) C rfl rfl jw_779 jw_782 jw_11 ⟨by decide, by decide, by decide +kernel⟩ rfl jw_780 jw_781 hR hst hz hd (fun v S' h => by obtain ⟨r, rfl, h⟩ := h; exact kk r S' h)
theorem jm_L_103 (O : CallFix p m c cc nL s args ja_T "CashMachineLaw" ∧ jb_X s0 s G ad) {a0 : Int32} {P : Int32 → ja_S → Prop} {d : Nat} (hR : d + 1 ≤ R.frames ∧ 8 + (2 + 11) + 40 * d ≤ R.locals) (hst : (st.map fun v => v.category).sum ≤ 8) (hz : cells ≤ R.cells ∧ slots ≤ R.slots) (C : jo_C l s0 G ad jy_M_withdraw jc_M_withdraw 2 (some .int) d [.ref (ad (7)), .int a0] S (jo_i P)) (hd : decode cc pc = .ok (.invokevirtual 103, 3)) (hp : pc + 3 = q) (kk : ∀ (r : Int32) (S' : ja_S), P r S' → ja_V p l e R s m args below meth c (jb_W G ad) s0.heap.size nL cells slots Q S' q L (.int r :: st)) : ja_V p l e R s m args below meth c (jb_W G ad) s0.heap.size nL cells slots Q S pc L (.int a0 :: .ref (ad (7)) :: st) := by
  subst hp
  exact jo_V O (k := 1) (As := [.int a0]) (i := 7) C rfl rfl jw_783 jw_786 jw_11 ⟨by decide, by decide, by decide +kernel⟩ rfl jw_784 jw_785 hR hst hz hd (fun v S' h => by obtain ⟨r, rfl, h⟩ := h; exact kk r S' h)
theorem jm_M_146 (O : CallFix p m c cc nL s args ja_T "CashMachineModel" ∧ jb_X s0 s G ad) {a0 : Int32} {P : Int32 → ja_S → Prop} {d : Nat} (hR : d + 1 ≤ R.frames ∧ 8 + (5 + 11) + 40 * d ≤ R.locals) (hst : (st.map fun v => v.category).sum ≤ 8) (hz : cells ≤ R.cells ∧ slots ≤ R.slots) (C : jo_C l s0 G ad jy_M_mixed jc_M_mixed 5 (some .boolean) d [.ref (ad (7)), .int a0] S (jo_i P)) (hd : decode cc pc = .ok (.invokevirtual 146, 3)) (hp : pc + 3 = q) (kk : ∀ (r : Int32) (S' : ja_S), P r S' → ja_V p l e R s m args below meth c (jb_W G ad) s0.heap.size nL cells slots Q S' q L (.int r :: st)) : ja_V p l e R s m args below meth c (jb_W G ad) s0.heap.size nL cells slots Q S pc L (.int a0 :: .ref (ad (7)) :: st) := by
  subst hp
  exact jo_V O (k := 1) (As := [.int a0]) (i := 7) C rfl rfl jw_787 jw_790 jw_11 ⟨by decide, by decide, by decide +kernel⟩ rfl jw_789 jsel_M_mixed hR hst hz hd (fun v S' h => by obtain ⟨r, rfl, h⟩ := h; exact kk r S' h)
theorem jm_M_99 (O : CallFix p m c cc nL s args ja_T "CashMachineModel" ∧ jb_X s0 s G ad) {a0 : Int32} {a1 : Int32} {a2 : Int32} {a3 : Int32} {P : Int32 → ja_S → Prop} {d : Nat} (hR : d + 1 ≤ R.frames ∧ 8 + (7 + 11) + 40 * d ≤ R.locals) (hst : (st.map fun v => v.category).sum ≤ 8) (hz : cells ≤ R.cells ∧ slots ≤ R.slots) (C : jo_C l s0 G ad jy_M_thirds jc_M_thirds 7 (some .boolean) d [.ref (ad (7)), .int a0, .int a1, .int a2, .int a3] S (jo_i P)) (hd : decode cc pc = .ok (.invokevirtual 99, 3)) (hp : pc + 3 = q) (kk : ∀ (r : Int32) (S' : ja_S), P r S' → ja_V p l e R s m args below meth c (jb_W G ad) s0.heap.size nL cells slots Q S' q L (.int r :: st)) : ja_V p l e R s m args below meth c (jb_W G ad) s0.heap.size nL cells slots Q S pc L (.int a3 :: .int a2 :: .int a1 :: .int a0 :: .ref (ad (7)) :: st) := by
  subst hp
  exact jo_V O (k := 4) (As := [.int a0, .int a1, .int a2, .int a3]) (i := 7) C rfl rfl jw_791 jw_794 jw_11 ⟨by decide, by decide, by decide +kernel⟩ rfl jw_793 jsel_M_thirds hR hst hz hd (fun v S' h => by obtain ⟨r, rfl, h⟩ := h; exact kk r S' h)
theorem jm_M_95 (O : CallFix p m c cc nL s args ja_T "CashMachineModel" ∧ jb_X s0 s G ad) {a0 : Int32} {a1 : Int32} {a2 : Int32} {a3 : Int32} {a4 : Int32} {P : Int32 → ja_S → Prop} {d : Nat} (hR : d + 1 ≤ R.frames ∧ 8 + (8 + 11) + 40 * d ≤ R.locals) (hst : (st.map fun v => v.category).sum ≤ 8) (hz : cells ≤ R.cells ∧ slots ≤ R.slots) (C : jo_C l s0 G ad jy_M_better jc_M_better 8 (some .boolean) d [.ref (ad (7)), .int a0, .int a1, .int a2, .int a3, .int a4] S (jo_i P)) (hd : decode cc pc = .ok (.invokevirtual 95, 3)) (hp : pc + 3 = q) (kk : ∀ (r : Int32) (S' : ja_S), P r S' → ja_V p l e R s m args below meth c (jb_W G ad) s0.heap.size nL cells slots Q S' q L (.int r :: st)) : ja_V p l e R s m args below meth c (jb_W G ad) s0.heap.size nL cells slots Q S pc L (.int a4 :: .int a3 :: .int a2 :: .int a1 :: .int a0 :: .ref (ad (7)) :: st) := by
  subst hp
  exact jo_V O (k := 5) (As := [.int a0, .int a1, .int a2, .int a3, .int a4]) (i := 7) C rfl rfl jw_795 jw_798 jw_11 ⟨by decide, by decide, by decide +kernel⟩ rfl jw_797 jsel_M_better hR hst hz hd (fun v S' h => by obtain ⟨r, rfl, h⟩ := h; exact kk r S' h)
theorem jm_M_91 (O : CallFix p m c cc nL s args ja_T "CashMachineModel" ∧ jb_X s0 s G ad) {a0 : Int32} {a1 : Int32} {a2 : Int32} {a3 : Int32} {P : Int32 → ja_S → Prop} {d : Nat} (hR : d + 1 ≤ R.frames ∧ 8 + (5 + 11) + 40 * d ≤ R.locals) (hst : (st.map fun v => v.category).sum ≤ 8) (hz : cells ≤ R.cells ∧ slots ≤ R.slots) (C : jo_C l s0 G ad jy_M_notesOf jc_M_notesOf 5 (some .int) d [.ref (ad (7)), .int a0, .int a1, .int a2, .int a3] S (jo_i P)) (hd : decode cc pc = .ok (.invokevirtual 91, 3)) (hp : pc + 3 = q) (kk : ∀ (r : Int32) (S' : ja_S), P r S' → ja_V p l e R s m args below meth c (jb_W G ad) s0.heap.size nL cells slots Q S' q L (.int r :: st)) : ja_V p l e R s m args below meth c (jb_W G ad) s0.heap.size nL cells slots Q S pc L (.int a3 :: .int a2 :: .int a1 :: .int a0 :: .ref (ad (7)) :: st) := by
  subst hp
  exact jo_V O (k := 4) (As := [.int a0, .int a1, .int a2, .int a3]) (i := 7) C rfl rfl jw_799 jw_802 jw_11 ⟨by decide, by decide, by decide +kernel⟩ rfl jw_801 jsel_M_notesOf hR hst hz hd (fun v S' h => by obtain ⟨r, rfl, h⟩ := h; exact kk r S' h)
theorem jm_M_152 (O : CallFix p m c cc nL s args ja_T "CashMachineModel" ∧ jb_X s0 s G ad) {a0 : Int32} {P : Int32 → ja_S → Prop} {d : Nat} (hR : d + 1 ≤ R.frames ∧ 8 + (3 + 11) + 40 * d ≤ R.locals) (hst : (st.map fun v => v.category).sum ≤ 8) (hz : cells ≤ R.cells ∧ slots ≤ R.slots) (C : jo_C l s0 G ad jy_M_give jc_M_give 3 (some .int) d [.ref (ad (7)), .int a0] S (jo_i P)) (hd : decode cc pc = .ok (.invokevirtual 152, 3)) (hp : pc + 3 = q) (kk : ∀ (r : Int32) (S' : ja_S), P r S' → ja_V p l e R s m args below meth c (jb_W G ad) s0.heap.size nL cells slots Q S' q L (.int r :: st)) : ja_V p l e R s m args below meth c (jb_W G ad) s0.heap.size nL cells slots Q S pc L (.int a0 :: .ref (ad (7)) :: st) := by
  subst hp
  exact jo_V O (k := 1) (As := [.int a0]) (i := 7) C rfl rfl jw_803 jw_806 jw_11 ⟨by decide, by decide, by decide +kernel⟩ rfl jw_805 jsel_M_give hR hst hz hd (fun v S' h => by obtain ⟨r, rfl, h⟩ := h; exact kk r S' h)
theorem jm_M_128 (O : CallFix p m c cc nL s args ja_T "CashMachineModel" ∧ jb_X s0 s G ad) {a0 : Int32} {P : Int32 → ja_S → Prop} {d : Nat} (hR : d + 1 ≤ R.frames ∧ 8 + (2 + 11) + 40 * d ≤ R.locals) (hst : (st.map fun v => v.category).sum ≤ 8) (hz : cells ≤ R.cells ∧ slots ≤ R.slots) (C : jo_C l s0 G ad jy_M_cut jc_M_cut 2 (some .boolean) d [.ref (ad (7)), .int a0] S (jo_i P)) (hd : decode cc pc = .ok (.invokevirtual 128, 3)) (hp : pc + 3 = q) (kk : ∀ (r : Int32) (S' : ja_S), P r S' → ja_V p l e R s m args below meth c (jb_W G ad) s0.heap.size nL cells slots Q S' q L (.int r :: st)) : ja_V p l e R s m args below meth c (jb_W G ad) s0.heap.size nL cells slots Q S pc L (.int a0 :: .ref (ad (7)) :: st) := by
  subst hp
  exact jo_V O (k := 1) (As := [.int a0]) (i := 7) C rfl rfl jw_807 jw_810 jw_11 ⟨by decide, by decide, by decide +kernel⟩ rfl jw_809 jsel_M_cut hR hst hz hd (fun v S' h => by obtain ⟨r, rfl, h⟩ := h; exact kk r S' h)
theorem jm_M_132 (O : CallFix p m c cc nL s args ja_T "CashMachineModel" ∧ jb_X s0 s G ad)  {P : Int32 → ja_S → Prop} {d : Nat} (hR : d + 1 ≤ R.frames ∧ 8 + (3 + 11) + 40 * d ≤ R.locals) (hst : (st.map fun v => v.category).sum ≤ 8) (hz : cells ≤ R.cells ∧ slots ≤ R.slots) (C : jo_C l s0 G ad jy_M_fate jc_M_fate 3 (some .int) d [.ref (ad (7))] S (jo_i P)) (hd : decode cc pc = .ok (.invokevirtual 132, 3)) (hp : pc + 3 = q) (kk : ∀ (r : Int32) (S' : ja_S), P r S' → ja_V p l e R s m args below meth c (jb_W G ad) s0.heap.size nL cells slots Q S' q L (.int r :: st)) : ja_V p l e R s m args below meth c (jb_W G ad) s0.heap.size nL cells slots Q S pc L (.ref (ad (7)) :: st) := by
  subst hp
  exact jo_V O (k := 0) (As := []) (i := 7) C rfl rfl jw_811 jw_814 jw_11 ⟨by decide, by decide, by decide +kernel⟩ rfl jw_813 jsel_M_fate hR hst hz hd (fun v S' h => by obtain ⟨r, rfl, h⟩ := h; exact kk r S' h)
theorem jm_M_136 (O : CallFix p m c cc nL s args ja_T "CashMachineModel" ∧ jb_X s0 s G ad) {a0 : Int32} {P : ja_S → Prop} {d : Nat} (hR : d + 1 ≤ R.frames ∧ 8 + (3 + 11) + 40 * d ≤ R.locals) (hst : (st.map fun v => v.category).sum ≤ 8) (hz : cells ≤ R.cells ∧ slots ≤ R.slots) (C : jo_C l s0 G ad jy_M_request jc_M_request 3 none d [.ref (ad (7)), .int a0] S (jo_v P)) (hd : decode cc pc = .ok (.invokevirtual 136, 3)) (hp : pc + 3 = q) (kk : ∀ (S' : ja_S), P S' → ja_V p l e R s m args below meth c (jb_W G ad) s0.heap.size nL cells slots Q S' q L st) : ja_V p l e R s m args below meth c (jb_W G ad) s0.heap.size nL cells slots Q S pc L (.int a0 :: .ref (ad (7)) :: st) := by
  subst hp
  exact jo_V O (k := 1) (As := [.int a0]) (i := 7) C rfl rfl jw_815 jw_818 jw_11 ⟨by decide, by decide, by decide +kernel⟩ rfl jw_817 jsel_M_request hR hst hz hd (fun v S' h => by obtain ⟨rfl, h⟩ := h; exact kk S' h)
theorem jm_M_124 (O : CallFix p m c cc nL s args ja_T "CashMachineModel" ∧ jb_X s0 s G ad) {a0 : Int32} {a1 : Int32} {P : ja_S → Prop} {d : Nat} (hR : d + 1 ≤ R.frames ∧ 8 + (3 + 11) + 40 * d ≤ R.locals) (hst : (st.map fun v => v.category).sum ≤ 8) (hz : cells ≤ R.cells ∧ slots ≤ R.slots) (C : jo_C l s0 G ad jy_M_owe jc_M_owe 3 none d [.ref (ad (7)), .int a0, .int a1] S (jo_v P)) (hd : decode cc pc = .ok (.invokevirtual 124, 3)) (hp : pc + 3 = q) (kk : ∀ (S' : ja_S), P S' → ja_V p l e R s m args below meth c (jb_W G ad) s0.heap.size nL cells slots Q S' q L st) : ja_V p l e R s m args below meth c (jb_W G ad) s0.heap.size nL cells slots Q S pc L (.int a1 :: .int a0 :: .ref (ad (7)) :: st) := by
  subst hp
  exact jo_V O (k := 2) (As := [.int a0, .int a1]) (i := 7) C rfl rfl jw_819 jw_822 jw_11 ⟨by decide, by decide, by decide +kernel⟩ rfl jw_821 jsel_M_owe hR hst hz hd (fun v S' h => by obtain ⟨rfl, h⟩ := h; exact kk S' h)
theorem jm_M_140 (O : CallFix p m c cc nL s args ja_T "CashMachineModel" ∧ jb_X s0 s G ad) {a0 : Int32} {P : ja_S → Prop} {d : Nat} (hR : d + 1 ≤ R.frames ∧ 8 + (8 + 11) + 40 * d ≤ R.locals) (hst : (st.map fun v => v.category).sum ≤ 8) (hz : cells ≤ R.cells ∧ slots ≤ R.slots) (C : jo_C l s0 G ad jy_M_pay jc_M_pay 8 none d [.ref (ad (7)), .int a0] S (jo_v P)) (hd : decode cc pc = .ok (.invokevirtual 140, 3)) (hp : pc + 3 = q) (kk : ∀ (S' : ja_S), P S' → ja_V p l e R s m args below meth c (jb_W G ad) s0.heap.size nL cells slots Q S' q L st) : ja_V p l e R s m args below meth c (jb_W G ad) s0.heap.size nL cells slots Q S pc L (.int a0 :: .ref (ad (7)) :: st) := by
  subst hp
  exact jo_V O (k := 1) (As := [.int a0]) (i := 7) C rfl rfl jw_823 jw_826 jw_11 ⟨by decide, by decide, by decide +kernel⟩ rfl jw_825 jsel_M_pay hR hst hz hd (fun v S' h => by obtain ⟨rfl, h⟩ := h; exact kk S' h)
theorem jm_M_112 (O : CallFix p m c cc nL s args ja_T "CashMachineModel" ∧ jb_X s0 s G ad) {a0 : Int32} {P : Int32 → ja_S → Prop} {d : Nat} (hR : d + 1 ≤ R.frames ∧ 8 + (4 + 11) + 40 * d ≤ R.locals) (hst : (st.map fun v => v.category).sum ≤ 8) (hz : cells ≤ R.cells ∧ slots ≤ R.slots) (C : jo_C l s0 G ad jy_M_greatest jc_M_greatest 4 (some .int) d [.ref (ad (7)), .int a0] S (jo_i P)) (hd : decode cc pc = .ok (.invokevirtual 112, 3)) (hp : pc + 3 = q) (kk : ∀ (r : Int32) (S' : ja_S), P r S' → ja_V p l e R s m args below meth c (jb_W G ad) s0.heap.size nL cells slots Q S' q L (.int r :: st)) : ja_V p l e R s m args below meth c (jb_W G ad) s0.heap.size nL cells slots Q S pc L (.int a0 :: .ref (ad (7)) :: st) := by
  subst hp
  exact jo_V O (k := 1) (As := [.int a0]) (i := 7) C rfl rfl jw_827 jw_830 jw_11 ⟨by decide, by decide, by decide +kernel⟩ rfl jw_829 jsel_M_greatest hR hst hz hd (fun v S' h => by obtain ⟨r, rfl, h⟩ := h; exact kk r S' h)
theorem jm_M_143 (O : CallFix p m c cc nL s args ja_T "CashMachineModel" ∧ jb_X s0 s G ad) {a0 : Int32} {a1 : Int32} {P : ja_S → Prop} {d : Nat} (hR : d + 1 ≤ R.frames ∧ 8 + (3 + 11) + 40 * d ≤ R.locals) (hst : (st.map fun v => v.category).sum ≤ 8) (hz : cells ≤ R.cells ∧ slots ≤ R.slots) (C : jo_C l s0 G ad jy_M_finish jc_M_finish 3 none d [.ref (ad (7)), .int a0, .int a1] S (jo_v P)) (hd : decode cc pc = .ok (.invokevirtual 143, 3)) (hp : pc + 3 = q) (kk : ∀ (S' : ja_S), P S' → ja_V p l e R s m args below meth c (jb_W G ad) s0.heap.size nL cells slots Q S' q L st) : ja_V p l e R s m args below meth c (jb_W G ad) s0.heap.size nL cells slots Q S pc L (.int a1 :: .int a0 :: .ref (ad (7)) :: st) := by
  subst hp
  exact jo_V O (k := 2) (As := [.int a0, .int a1]) (i := 7) C rfl rfl jw_831 jw_834 jw_11 ⟨by decide, by decide, by decide +kernel⟩ rfl jw_833 jsel_M_finish hR hst hz hd (fun v S' h => by obtain ⟨rfl, h⟩ := h; exact kk S' h)
theorem jm_L_107 (O : CallFix p m c cc nL s args ja_T "CashMachineLaw" ∧ jb_X s0 s G ad) {a0 : Int32} {a1 : Int32} {P : Int32 → ja_S → Prop} {d : Nat} (hR : d + 1 ≤ R.frames ∧ 8 + (3 + 11) + 40 * d ≤ R.locals) (hst : (st.map fun v => v.category).sum ≤ 8) (hz : cells ≤ R.cells ∧ slots ≤ R.slots) (C : jo_C l s0 G ad jy_M_mix jc_M_mix 3 (some .int) d [.ref (ad (7)), .int a0, .int a1] S (jo_i P)) (hd : decode cc pc = .ok (.invokevirtual 107, 3)) (hp : pc + 3 = q) (kk : ∀ (r : Int32) (S' : ja_S), P r S' → ja_V p l e R s m args below meth c (jb_W G ad) s0.heap.size nL cells slots Q S' q L (.int r :: st)) : ja_V p l e R s m args below meth c (jb_W G ad) s0.heap.size nL cells slots Q S pc L (.int a1 :: .int a0 :: .ref (ad (7)) :: st) := by
  subst hp
  exact jo_V O (k := 2) (As := [.int a0, .int a1]) (i := 7) C rfl rfl jw_835 jw_838 jw_11 ⟨by decide, by decide, by decide +kernel⟩ rfl jw_836 jw_837 hR hst hz hd (fun v S' h => by obtain ⟨r, rfl, h⟩ := h; exact kk r S' h)
theorem jm_L_110 (O : CallFix p m c cc nL s args ja_T "CashMachineLaw" ∧ jb_X s0 s G ad) {a0 : Int32} {P : Int32 → ja_S → Prop} {d : Nat} (hR : d + 1 ≤ R.frames ∧ 8 + (2 + 11) + 40 * d ≤ R.locals) (hst : (st.map fun v => v.category).sum ≤ 8) (hz : cells ≤ R.cells ∧ slots ≤ R.slots) (C : jo_C l s0 G ad jy_M_line jc_M_line 2 (some .int) d [.ref (ad (7)), .int a0] S (jo_i P)) (hd : decode cc pc = .ok (.invokevirtual 110, 3)) (hp : pc + 3 = q) (kk : ∀ (r : Int32) (S' : ja_S), P r S' → ja_V p l e R s m args below meth c (jb_W G ad) s0.heap.size nL cells slots Q S' q L (.int r :: st)) : ja_V p l e R s m args below meth c (jb_W G ad) s0.heap.size nL cells slots Q S pc L (.int a0 :: .ref (ad (7)) :: st) := by
  subst hp
  exact jo_V O (k := 1) (As := [.int a0]) (i := 7) C rfl rfl jw_839 jw_842 jw_11 ⟨by decide, by decide, by decide +kernel⟩ rfl jw_840 jw_841 hR hst hz hd (fun v S' h => by obtain ⟨r, rfl, h⟩ := h; exact kk r S' h)
theorem jm_L_113 (O : CallFix p m c cc nL s args ja_T "CashMachineLaw" ∧ jb_X s0 s G ad) {a0 : Int32} {P : Int32 → ja_S → Prop} {d : Nat} (hR : d + 1 ≤ R.frames ∧ 8 + (2 + 11) + 40 * d ≤ R.locals) (hst : (st.map fun v => v.category).sum ≤ 8) (hz : cells ≤ R.cells ∧ slots ≤ R.slots) (C : jo_C l s0 G ad jy_M_jam jc_M_jam 2 (some .int) d [.ref (ad (7)), .int a0] S (jo_i P)) (hd : decode cc pc = .ok (.invokevirtual 113, 3)) (hp : pc + 3 = q) (kk : ∀ (r : Int32) (S' : ja_S), P r S' → ja_V p l e R s m args below meth c (jb_W G ad) s0.heap.size nL cells slots Q S' q L (.int r :: st)) : ja_V p l e R s m args below meth c (jb_W G ad) s0.heap.size nL cells slots Q S pc L (.int a0 :: .ref (ad (7)) :: st) := by
  subst hp
  exact jo_V O (k := 1) (As := [.int a0]) (i := 7) C rfl rfl jw_843 jw_846 jw_11 ⟨by decide, by decide, by decide +kernel⟩ rfl jw_844 jw_845 hR hst hz hd (fun v S' h => by obtain ⟨r, rfl, h⟩ := h; exact kk r S' h)
theorem jm_L_116 (O : CallFix p m c cc nL s args ja_T "CashMachineLaw" ∧ jb_X s0 s G ad) {a0 : Int32} {P : Int32 → ja_S → Prop} {d : Nat} (hR : d + 1 ≤ R.frames ∧ 8 + (2 + 11) + 40 * d ≤ R.locals) (hst : (st.map fun v => v.category).sum ≤ 8) (hz : cells ≤ R.cells ∧ slots ≤ R.slots) (C : jo_C l s0 G ad jy_M_power jc_M_power 2 (some .int) d [.ref (ad (7)), .int a0] S (jo_i P)) (hd : decode cc pc = .ok (.invokevirtual 116, 3)) (hp : pc + 3 = q) (kk : ∀ (r : Int32) (S' : ja_S), P r S' → ja_V p l e R s m args below meth c (jb_W G ad) s0.heap.size nL cells slots Q S' q L (.int r :: st)) : ja_V p l e R s m args below meth c (jb_W G ad) s0.heap.size nL cells slots Q S pc L (.int a0 :: .ref (ad (7)) :: st) := by
  subst hp
  exact jo_V O (k := 1) (As := [.int a0]) (i := 7) C rfl rfl jw_847 jw_850 jw_11 ⟨by decide, by decide, by decide +kernel⟩ rfl jw_848 jw_849 hR hst hz hd (fun v S' h => by obtain ⟨r, rfl, h⟩ := h; exact kk r S' h)
theorem jm_L_119 (O : CallFix p m c cc nL s args ja_T "CashMachineLaw" ∧ jb_X s0 s G ad)  {P : Int32 → ja_S → Prop} {d : Nat} (hR : d + 1 ≤ R.frames ∧ 8 + (2 + 11) + 40 * d ≤ R.locals) (hst : (st.map fun v => v.category).sum ≤ 8) (hz : cells ≤ R.cells ∧ slots ≤ R.slots) (C : jo_C l s0 G ad jy_M_boot jc_M_boot 2 (some .int) d [.ref (ad (7))] S (jo_i P)) (hd : decode cc pc = .ok (.invokevirtual 119, 3)) (hp : pc + 3 = q) (kk : ∀ (r : Int32) (S' : ja_S), P r S' → ja_V p l e R s m args below meth c (jb_W G ad) s0.heap.size nL cells slots Q S' q L (.int r :: st)) : ja_V p l e R s m args below meth c (jb_W G ad) s0.heap.size nL cells slots Q S pc L (.ref (ad (7)) :: st) := by
  subst hp
  exact jo_V O (k := 0) (As := []) (i := 7) C rfl rfl jw_851 jw_854 jw_11 ⟨by decide, by decide, by decide +kernel⟩ rfl jw_852 jw_853 hR hst hz hd (fun v S' h => by obtain ⟨r, rfl, h⟩ := h; exact kk r S' h)
theorem jm_L_122 (O : CallFix p m c cc nL s args ja_T "CashMachineLaw" ∧ jb_X s0 s G ad)  {P : Int32 → ja_S → Prop} {d : Nat} (hR : d + 1 ≤ R.frames ∧ 8 + (5 + 11) + 40 * d ≤ R.locals) (hst : (st.map fun v => v.category).sum ≤ 8) (hz : cells ≤ R.cells ∧ slots ≤ R.slots) (C : jo_C l s0 G ad jy_M_settle jc_M_settle 5 (some .int) d [.ref (ad (7))] S (jo_i P)) (hd : decode cc pc = .ok (.invokevirtual 122, 3)) (hp : pc + 3 = q) (kk : ∀ (r : Int32) (S' : ja_S), P r S' → ja_V p l e R s m args below meth c (jb_W G ad) s0.heap.size nL cells slots Q S' q L (.int r :: st)) : ja_V p l e R s m args below meth c (jb_W G ad) s0.heap.size nL cells slots Q S pc L (.ref (ad (7)) :: st) := by
  subst hp
  exact jo_V O (k := 0) (As := []) (i := 7) C rfl rfl jw_855 jw_858 jw_11 ⟨by decide, by decide, by decide +kernel⟩ rfl jw_856 jw_857 hR hst hz hd (fun v S' h => by obtain ⟨r, rfl, h⟩ := h; exact kk r S' h)
theorem jm_M_155 (O : CallFix p m c cc nL s args ja_T "CashMachineModel" ∧ jb_X s0 s G ad) {a0 : Int32} {a1 : Int32} {P : ja_S → Prop} {d : Nat} (hR : d + 1 ≤ R.frames ∧ 8 + (3 + 11) + 40 * d ≤ R.locals) (hst : (st.map fun v => v.category).sum ≤ 8) (hz : cells ≤ R.cells ∧ slots ≤ R.slots) (C : jo_C l s0 G ad jy_M_reversalCame jc_M_reversalCame 3 none d [.ref (ad (7)), .int a0, .int a1] S (jo_v P)) (hd : decode cc pc = .ok (.invokevirtual 155, 3)) (hp : pc + 3 = q) (kk : ∀ (S' : ja_S), P S' → ja_V p l e R s m args below meth c (jb_W G ad) s0.heap.size nL cells slots Q S' q L st) : ja_V p l e R s m args below meth c (jb_W G ad) s0.heap.size nL cells slots Q S pc L (.int a1 :: .int a0 :: .ref (ad (7)) :: st) := by
  subst hp
  exact jo_V O (k := 2) (As := [.int a0, .int a1]) (i := 7) C rfl rfl jw_859 jw_862 jw_11 ⟨by decide, by decide, by decide +kernel⟩ rfl jw_861 jsel_M_reversalCame hR hst hz hd (fun v S' h => by obtain ⟨rfl, h⟩ := h; exact kk S' h)
theorem jm_L_125 (O : CallFix p m c cc nL s args ja_T "CashMachineLaw" ∧ jb_X s0 s G ad) {a0 : Int32} {P : Int32 → ja_S → Prop} {d : Nat} (hR : d + 1 ≤ R.frames ∧ 8 + (2 + 11) + 40 * d ≤ R.locals) (hst : (st.map fun v => v.category).sum ≤ 8) (hz : cells ≤ R.cells ∧ slots ≤ R.slots) (C : jo_C l s0 G ad jy_M_balance jc_M_balance 2 (some .int) d [.ref (ad (7)), .int a0] S (jo_i P)) (hd : decode cc pc = .ok (.invokevirtual 125, 3)) (hp : pc + 3 = q) (kk : ∀ (r : Int32) (S' : ja_S), P r S' → ja_V p l e R s m args below meth c (jb_W G ad) s0.heap.size nL cells slots Q S' q L (.int r :: st)) : ja_V p l e R s m args below meth c (jb_W G ad) s0.heap.size nL cells slots Q S pc L (.int a0 :: .ref (ad (7)) :: st) := by
  subst hp
  exact jo_V O (k := 1) (As := [.int a0]) (i := 7) C rfl rfl jw_863 jw_866 jw_11 ⟨by decide, by decide, by decide +kernel⟩ rfl jw_864 jw_865 hR hst hz hd (fun v S' h => by obtain ⟨r, rfl, h⟩ := h; exact kk r S' h)
theorem jm_L_128 (O : CallFix p m c cc nL s args ja_T "CashMachineLaw" ∧ jb_X s0 s G ad) {a0 : Int32} {a1 : Int32} {P : Int32 → ja_S → Prop} {d : Nat} (hR : d + 1 ≤ R.frames ∧ 8 + (3 + 11) + 40 * d ≤ R.locals) (hst : (st.map fun v => v.category).sum ≤ 8) (hz : cells ≤ R.cells ∧ slots ≤ R.slots) (C : jo_C l s0 G ad jy_M_trace jc_M_trace 3 (some .int) d [.ref (ad (7)), .int a0, .int a1] S (jo_i P)) (hd : decode cc pc = .ok (.invokevirtual 128, 3)) (hp : pc + 3 = q) (kk : ∀ (r : Int32) (S' : ja_S), P r S' → ja_V p l e R s m args below meth c (jb_W G ad) s0.heap.size nL cells slots Q S' q L (.int r :: st)) : ja_V p l e R s m args below meth c (jb_W G ad) s0.heap.size nL cells slots Q S pc L (.int a1 :: .int a0 :: .ref (ad (7)) :: st) := by
  subst hp
  exact jo_V O (k := 2) (As := [.int a0, .int a1]) (i := 7) C rfl rfl jw_867 jw_870 jw_11 ⟨by decide, by decide, by decide +kernel⟩ rfl jw_868 jw_869 hR hst hz hd (fun v S' h => by obtain ⟨r, rfl, h⟩ := h; exact kk r S' h)
theorem jm_L_131 (O : CallFix p m c cc nL s args ja_T "CashMachineLaw" ∧ jb_X s0 s G ad) {a0 : Int32} {P : Int32 → ja_S → Prop} {d : Nat} (hR : d + 1 ≤ R.frames ∧ 8 + (2 + 11) + 40 * d ≤ R.locals) (hst : (st.map fun v => v.category).sum ≤ 8) (hz : cells ≤ R.cells ∧ slots ≤ R.slots) (C : jo_C l s0 G ad jy_M_reversal jc_M_reversal 2 (some .int) d [.ref (ad (7)), .int a0] S (jo_i P)) (hd : decode cc pc = .ok (.invokevirtual 131, 3)) (hp : pc + 3 = q) (kk : ∀ (r : Int32) (S' : ja_S), P r S' → ja_V p l e R s m args below meth c (jb_W G ad) s0.heap.size nL cells slots Q S' q L (.int r :: st)) : ja_V p l e R s m args below meth c (jb_W G ad) s0.heap.size nL cells slots Q S pc L (.int a0 :: .ref (ad (7)) :: st) := by
  subst hp
  exact jo_V O (k := 1) (As := [.int a0]) (i := 7) C rfl rfl jw_871 jw_874 jw_11 ⟨by decide, by decide, by decide +kernel⟩ rfl jw_872 jw_873 hR hst hz hd (fun v S' h => by obtain ⟨r, rfl, h⟩ := h; exact kk r S' h)
theorem jm_L_134 (O : CallFix p m c cc nL s args ja_T "CashMachineLaw" ∧ jb_X s0 s G ad) {a0 : Int32} {P : Int32 → ja_S → Prop} {d : Nat} (hR : d + 1 ≤ R.frames ∧ 8 + (2 + 11) + 40 * d ≤ R.locals) (hst : (st.map fun v => v.category).sum ≤ 8) (hz : cells ≤ R.cells ∧ slots ≤ R.slots) (C : jo_C l s0 G ad jy_M_notes jc_M_notes 2 (some .int) d [.ref (ad (7)), .int a0] S (jo_i P)) (hd : decode cc pc = .ok (.invokevirtual 134, 3)) (hp : pc + 3 = q) (kk : ∀ (r : Int32) (S' : ja_S), P r S' → ja_V p l e R s m args below meth c (jb_W G ad) s0.heap.size nL cells slots Q S' q L (.int r :: st)) : ja_V p l e R s m args below meth c (jb_W G ad) s0.heap.size nL cells slots Q S pc L (.int a0 :: .ref (ad (7)) :: st) := by
  subst hp
  exact jo_V O (k := 1) (As := [.int a0]) (i := 7) C rfl rfl jw_875 jw_878 jw_11 ⟨by decide, by decide, by decide +kernel⟩ rfl jw_876 jw_877 hR hst hz hd (fun v S' h => by obtain ⟨r, rfl, h⟩ := h; exact kk r S' h)
theorem jm_L_138 (O : CallFix p m c cc nL s args ja_T "CashMachineLaw" ∧ jb_X s0 s G ad)  {P : Int32 → ja_S → Prop} {d : Nat} (hR : d + 1 ≤ R.frames ∧ 8 + (3 + 11) + 40 * d ≤ R.locals) (hst : (st.map fun v => v.category).sum ≤ 8) (hz : cells ≤ R.cells ∧ slots ≤ R.slots) (C : jo_C l s0 G ad jy_M_difference jc_M_difference 3 (some .int) d [.ref (ad (7))] S (jo_i P)) (hd : decode cc pc = .ok (.invokevirtual 138, 3)) (hp : pc + 3 = q) (kk : ∀ (r : Int32) (S' : ja_S), P r S' → ja_V p l e R s m args below meth c (jb_W G ad) s0.heap.size nL cells slots Q S' q L (.int r :: st)) : ja_V p l e R s m args below meth c (jb_W G ad) s0.heap.size nL cells slots Q S pc L (.ref (ad (7)) :: st) := by
  subst hp
  exact jo_V O (k := 0) (As := []) (i := 7) C rfl rfl jw_879 jw_882 jw_11 ⟨by decide, by decide, by decide +kernel⟩ rfl jw_880 jw_881 hR hst hz hd (fun v S' h => by obtain ⟨r, rfl, h⟩ := h; exact kk r S' h)
theorem jm_L_141 (O : CallFix p m c cc nL s args ja_T "CashMachineLaw" ∧ jb_X s0 s G ad) {a0 : Int32} {P : Int32 → ja_S → Prop} {d : Nat} (hR : d + 1 ≤ R.frames ∧ 8 + (4 + 11) + 40 * d ≤ R.locals) (hst : (st.map fun v => v.category).sum ≤ 8) (hz : cells ≤ R.cells ∧ slots ≤ R.slots) (C : jo_C l s0 G ad jy_M_count jc_M_count 4 (some .int) d [.ref (ad (7)), .int a0] S (jo_i P)) (hd : decode cc pc = .ok (.invokevirtual 141, 3)) (hp : pc + 3 = q) (kk : ∀ (r : Int32) (S' : ja_S), P r S' → ja_V p l e R s m args below meth c (jb_W G ad) s0.heap.size nL cells slots Q S' q L (.int r :: st)) : ja_V p l e R s m args below meth c (jb_W G ad) s0.heap.size nL cells slots Q S pc L (.int a0 :: .ref (ad (7)) :: st) := by
  subst hp
  exact jo_V O (k := 1) (As := [.int a0]) (i := 7) C rfl rfl jw_883 jw_886 jw_11 ⟨by decide, by decide, by decide +kernel⟩ rfl jw_884 jw_885 hR hst hz hd (fun v S' h => by obtain ⟨r, rfl, h⟩ := h; exact kk r S' h)
end JK
end
section
/-! WHERE A METHOD THROWS: 'new E', 'dup', 'invokespecial E.<init>', 'athrow', by the library's ctorThrow0 at a walk begun anew where the exception is made, so that all that was written before stays known -/
section JTW
variable {p : Program} {l : Launch} {e : Env} {R : Room} {s : State} {m : MethodId} {args : Array Value} {below : List Frame} {meth : Method} {c : Code} {T : State} {locs : List Loc} {cells slots : Nat}
theorem jt_hears {u v : State} {k : MethodId} {b : List Frame} (ha : u.vm.Alike v.vm) (h : u.hears k b = true) : v.hears k b = true := by
  have hm : ∀ x, v.vm.method? x = u.vm.method? x := fun x => ha.method? x
  have hc : ∀ x, v.code? x = u.code? x := fun x => by rw [State.code?_eq, State.code?_eq, hm]
  cases b with
  | nil => unfold State.hears at h ⊢; rw [hm]; exact h
  | cons f r =>
    cases f with
    | java g =>
      have h' : ((u.code? g.method).bind fun c => (decode c.code g.pc).toOption).isSome = true := h
      show ((v.code? g.method).bind fun c => (decode c.code g.pc).toOption).isSome = true
      rw [hc]; exact h'
    | _ => first | (unfold State.hears at h ⊢; rw [hm]; exact h) | (unfold State.hears; rfl) | exact h
theorem jt_rebase (X : Stand p l e R s m args below meth c T locs cells slots) {a b : Nat} (ha : cells + a ≤ R.cells) (hb : slots + b ≤ R.slots) :
    Stand p l e { R with cells := a, slots := b } (T.setFrames (.invoking m args :: below)) m args below meth c T [] 0 0 := by
  obtain ⟨g₀, hfr⟩ := X.frames_eq
  have hcur : T.cur < T.threads.size := State.cur_lt_of_frames hfr
  have hF : (T.setFrames (.invoking m args :: below)).frames = .invoking m args :: below := State.frames_setFrames _ hcur
  have hM : (T.setFrames (.invoking m args :: below)).vm.method? m = some meth := X.method'
  obtain ⟨t, ht, -⟩ := State.frames_cons hfr
  refine ⟨X.admits, X.cas, X.clock, hF, ?_, jt_hears (u := s) X.warmed.alike X.hears, hM, X.code, X.here, X.tail, State.WarmedH.refl T, (State.stackLimits_setFrames _ _ _).symm, (State.stackBytes_setFrames _ _).symm, ?_⟩
  · have hr := X.room
    simp only [State.hasRoom, Bool.and_eq_true, decide_eq_true_eq] at hr ⊢
    obtain ⟨⟨⟨⟨r1, r2, r3, r4, r5, r6⟩, r7⟩, r8⟩, r9⟩ := hr
    have e1 : (T.setFrames (.invoking m args :: below)).localsInUse = s.localsInUse := by
      rw [State.localsInUse_invoking X.frames X.method X.code, State.localsInUse_invoking hF hM X.code]
    have e2 : e.platform.stackLimits (T.setFrames (.invoking m args :: below)).me = e.platform.stackLimits s.me := by rw [State.stackLimits_setFrames]; exact X.limits
    have e3 : (T.setFrames (.invoking m args :: below)).me.stackBytes = s.me.stackBytes := by rw [State.stackBytes_setFrames]; exact X.bytes
    have e4 : (T.setFrames (.invoking m args :: below)).frames.length = s.frames.length := by rw [hF, X.frames]
    have h1 := X.cellsAbove ha
    have h2 := X.slotsAbove hb
    rw [e1, e2, e3, e4]
    exact ⟨⟨⟨⟨r1, r2, r3, r4, r5, r6⟩, h1⟩, h2⟩, X.book⟩
  · have e1 : T = { (T.setFrames (.invoking m args :: below)).setFrames T.frames with heap := T.heap, slotsUsed := T.slotsUsed } := by
      rw [State.setFrames_setFrames, State.setFrames_self ht]
    refine ⟨e1, Nat.le_refl _, Nat.le_refl _, ?_, ?_, fun a c h => ⟨c, h, rfl, rfl, fun _ _ => rfl⟩⟩
    · show T.slotsUsed = T.slotsUsed + ((T.heap.toList.drop T.heap.size).map (·.slots.size)).sum
      rw [List.drop_eq_nil_of_le (by simp)]; rfl
    · show ((T.heap.toList.drop T.heap.size).map (·.slots.size)).sum ≤ 0
      rw [List.drop_eq_nil_of_le (by simp)]; exact Nat.le_refl _
theorem jt_ls {s0 U : State} (hh : ∀ q, q < s0.heap.size → U.heap[q]? = s0.heap[q]?) {o n d : String} {A A' : Array Value} (h : (Cond.laysStatic o n d).before A (s0.setVm U.vm) = true) : (Cond.laysStatic o n d).before A' U = true := by
  obtain ⟨c, k, i, f, a, cell, h1, h2, h3, h4, h5, h6, h7, h8, h9⟩ := Cond.laysStatic_spec h
  have h5' : U.heap[a]? = some cell := by rw [hh a (Array.getElem?_eq_some_iff.mp h5).1]; exact h5
  have h1' : U.vm.findClass o = some c := h1
  have h2' : U.fieldFound? o n d = some (c, k, i, f) := h2
  simp [Cond.before, Cond.holds, Cond.value, h1', h2', h3, h4, h5', h6, h7, h8, h9]
theorem jt_rs {s0 U : State} (hh : ∀ q, q < s0.heap.size → U.heap[q]? = s0.heap[q]?) {o n d : String} {A A' : Array Value} (hl : (Cond.laysStatic o n d).before A (s0.setVm U.vm) = true) (h : (Cond.isRef (.static o n d)).before A (s0.setVm U.vm) = true) : (Cond.isRef (.static o n d)).before A' U = true := by
  obtain ⟨c, k, i, f, a, cell, h1, h2, h3, h4, h5, h6, h7, h8, h9⟩ := Cond.laysStatic_spec hl
  have h5' : U.heap[a]? = some cell := by rw [hh a (Array.getElem?_eq_some_iff.mp h5).1]; exact h5
  have h2' : U.fieldFound? o n d = some (c, k, i, f) := h2
  have h5s : s0.heap[a]? = some cell := h5
  have e1 : (Term.static o n d).eval A (s0.setVm U.vm) none [] (s0.setVm U.vm) = cell.slots[f.slot]? := by simp [Term.eval, State.fieldNamed?, h2, h3, h4, h5s, h6]
  have e2 : (Term.static o n d).eval A' U none [] U = cell.slots[f.slot]? := by simp [Term.eval, State.fieldNamed?, h2', h3, h4, h5', h6]
  simp only [Cond.before, Cond.holds, Cond.value, e1] at h
  simp only [Cond.before, Cond.holds, Cond.value, e2]
  exact h
/-- a word of the tables, or of the start, at any later state -/
theorem jt_face {s0 U : State} {a0 A : Array Value} {w : Cond} (hW : s0.WarmedH U.vm) (h : w.before a0 s0 = true) (hf : w.keepsFace = true) (ht : w.onTables = true) : w.before A U = true :=
  va_tabs ht (rfl : (s0.setVm U.vm).vm = U.vm) (Cond.before_shiftedFace (State.Shifted.of_warmed hW) w hf h)
end JTW
def jt_l : List String := ["java/lang/RuntimeException", "java/lang/Exception"]
section JTX
variable {p : Program} {l : Launch} {e : Env} {R : Room} {s s0 : State} {m : MethodId} {args : Array Value} {below : List Frame} {meth : Method} {c : Code} {G : jb_Gt} {ad : Nat → Nat} {a0 : Array Value}
/-- what a later state has of the start's words -/
def jt_Z (s0 : State) (a0 : Array Value) (U : State) : Prop := (∀ w ∈ lw_tbl, w.before a0 s0 = true) ∧ (Jvm.Cond.and given_1 narrow_1).before a0 s0 = true ∧ s0.WarmedH U.vm ∧ ∀ q, q < s0.heap.size → U.heap[q]? = s0.heap[q]?
theorem jt_g {U : State} {A : Array Value} {w : Cond} (Z : jt_Z s0 a0 U) (h : w ∈ ja_T) : w.before A U = true := word_at Z.2.2.1 (good_of_word (List.mem_filter.mp h).2) (Z.1 w (List.mem_filter.mp h).1)
theorem jt_f {U : State} {A : Array Value} {w : Cond} (Z : jt_Z s0 a0 U) (h : w ∈ lw_tbl) (hf : w.keepsFace = true) (ht : w.onTables = true) : w.before A U = true := jt_face Z.2.2.1 (Z.1 w h) hf ht
theorem jt_s {U : State} {A : Array Value} {x n d : String} (Z : jt_Z s0 a0 U) (h : Cond.laysStatic x n d ∈ lw_tbl) : (Cond.laysStatic x n d).before A U = true := jt_ls (A := a0) Z.2.2.2 (Cond.before_shiftedFace (State.Shifted.of_warmed Z.2.2.1) _ rfl (Z.1 _ h))
theorem jt_r {U : State} {A : Array Value} {x n d : String} (Z : jt_Z s0 a0 U) (h : Cond.laysStatic x n d ∈ lw_tbl) (hr : (Cond.isRef (.static x n d)).before a0 s0 = true) : (Cond.isRef (.static x n d)).before A U = true := jt_rs (A := a0) Z.2.2.2 (Cond.before_shiftedFace (State.Shifted.of_warmed Z.2.2.1) _ rfl (Z.1 _ h)) (Cond.before_shiftedFace (State.Shifted.of_warmed Z.2.2.1) _ rfl hr)
theorem jt_atA {U : State} {A : Array Value} (Z : jt_Z s0 a0 U) : ∀ w ∈ Bundle.ownAtoms0 "CashMachine" 65 "java/lang/IllegalArgumentException" jt_l, w.before A U = true :=
  List.forall_mem_cons.mpr ⟨jt_g Z jw_12, List.forall_mem_cons.mpr ⟨jt_g Z jw_300, List.forall_mem_cons.mpr ⟨jt_g Z jw_309, List.forall_mem_cons.mpr ⟨jt_g Z jw_315, List.forall_mem_cons.mpr ⟨jt_g Z jw_318, List.forall_mem_cons.mpr ⟨jt_g Z jw_320, List.forall_mem_cons.mpr ⟨jt_g Z jw_301, List.forall_mem_cons.mpr ⟨jt_g Z jw_302, List.forall_mem_cons.mpr ⟨jt_g Z jw_29, List.forall_mem_cons.mpr ⟨jt_g Z jw_30, List.forall_mem_cons.mpr ⟨jt_g Z jw_303, List.forall_mem_cons.mpr ⟨jt_g Z jw_308, List.forall_mem_cons.mpr ⟨jt_g Z jw_316, List.forall_mem_cons.mpr ⟨jt_g Z jw_332, List.forall_mem_cons.mpr ⟨jt_g Z jw_290, List.forall_mem_cons.mpr ⟨jt_g Z jw_333, List.forall_mem_cons.mpr ⟨jt_g Z jw_292, List.forall_mem_cons.mpr ⟨jt_g Z jw_334, List.forall_mem_cons.mpr ⟨jt_g Z jw_294, List.forall_mem_cons.mpr ⟨jt_g Z jw_304, List.forall_mem_cons.mpr ⟨jt_s Z jv_305, List.forall_mem_cons.mpr ⟨jt_g Z jw_306, List.forall_mem_cons.mpr ⟨jt_s Z jv_307, List.forall_mem_cons.mpr ⟨jt_g Z jw_296, List.forall_mem_cons.mpr ⟨jt_g Z jw_322, List.forall_mem_cons.mpr ⟨jt_g Z jw_323, List.forall_mem_cons.mpr ⟨jt_g Z jw_324, List.forall_mem_cons.mpr ⟨jt_g Z jw_325, List.forall_mem_cons.mpr ⟨jt_f Z jv_281 rfl rfl, List.forall_mem_cons.mpr ⟨jt_g Z jw_325, List.forall_mem_cons.mpr ⟨jt_g Z jw_326, List.forall_mem_cons.mpr ⟨jt_g Z jw_327, List.forall_mem_cons.mpr ⟨jt_g Z jw_328, List.forall_mem_cons.mpr ⟨jt_f Z jv_283 rfl rfl, List.forall_mem_cons.mpr ⟨jt_g Z jw_328, List.forall_mem_cons.mpr ⟨jt_g Z jw_329, List.forall_mem_cons.mpr ⟨jt_g Z jw_330, List.forall_mem_cons.mpr ⟨jt_g Z jw_301, List.forall_mem_cons.mpr ⟨jt_f Z jv_285 rfl rfl, List.forall_mem_cons.mpr ⟨jt_g Z jw_321, List.forall_mem_cons.mpr ⟨jt_g Z jw_279, List.forall_mem_cons.mpr ⟨jt_f Z jv_280 rfl rfl, List.forall_mem_cons.mpr ⟨jt_g Z jw_287, List.forall_mem_cons.mpr ⟨jt_g Z jw_288, List.forall_mem_cons.mpr ⟨jt_g Z jw_289, List.forall_mem_cons.mpr ⟨jt_g Z jw_291, List.forall_mem_cons.mpr ⟨jt_g Z jw_293, List.forall_mem_cons.mpr ⟨jt_g Z jw_295, List.forall_mem_cons.mpr ⟨jt_r Z jv_305 (flat_of_before _ Z.2.1 _ (by decide +kernel)), List.forall_mem_cons.mpr ⟨jt_r Z jv_307 (flat_of_before _ Z.2.1 _ (by decide +kernel)), List.forall_mem_cons.mpr ⟨jt_g Z jw_299, List.forall_mem_cons.mpr ⟨jt_g Z jw_298, List.forall_mem_cons.mpr ⟨jt_g Z jw_297, fun _ h => absurd h List.not_mem_nil⟩⟩⟩⟩⟩⟩⟩⟩⟩⟩⟩⟩⟩⟩⟩⟩⟩⟩⟩⟩⟩⟩⟩⟩⟩⟩⟩⟩⟩⟩⟩⟩⟩⟩⟩⟩⟩⟩⟩⟩⟩⟩⟩⟩⟩⟩⟩⟩⟩⟩⟩⟩⟩
theorem jt_atS {U : State} {A : Array Value} (Z : jt_Z s0 a0 U) : ∀ w ∈ Bundle.ownAtoms0 "CashMachine" 72 "java/lang/IllegalStateException" jt_l, w.before A U = true :=
  List.forall_mem_cons.mpr ⟨jt_g Z jw_12, List.forall_mem_cons.mpr ⟨jt_g Z jw_300, List.forall_mem_cons.mpr ⟨jt_g Z jw_309, List.forall_mem_cons.mpr ⟨jt_g Z jw_315, List.forall_mem_cons.mpr ⟨jt_g Z jw_318, List.forall_mem_cons.mpr ⟨jt_g Z jw_320, List.forall_mem_cons.mpr ⟨jt_g Z jw_301, List.forall_mem_cons.mpr ⟨jt_g Z jw_302, List.forall_mem_cons.mpr ⟨jt_g Z jw_29, List.forall_mem_cons.mpr ⟨jt_g Z jw_30, List.forall_mem_cons.mpr ⟨jt_g Z jw_303, List.forall_mem_cons.mpr ⟨jt_g Z jw_308, List.forall_mem_cons.mpr ⟨jt_g Z jw_316, List.forall_mem_cons.mpr ⟨jt_g Z jw_332, List.forall_mem_cons.mpr ⟨jt_g Z jw_290, List.forall_mem_cons.mpr ⟨jt_g Z jw_333, List.forall_mem_cons.mpr ⟨jt_g Z jw_292, List.forall_mem_cons.mpr ⟨jt_g Z jw_334, List.forall_mem_cons.mpr ⟨jt_g Z jw_294, List.forall_mem_cons.mpr ⟨jt_g Z jw_304, List.forall_mem_cons.mpr ⟨jt_s Z jv_305, List.forall_mem_cons.mpr ⟨jt_g Z jw_306, List.forall_mem_cons.mpr ⟨jt_s Z jv_307, List.forall_mem_cons.mpr ⟨jt_g Z jw_296, List.forall_mem_cons.mpr ⟨jt_g Z jw_358, List.forall_mem_cons.mpr ⟨jt_g Z jw_359, List.forall_mem_cons.mpr ⟨jt_g Z jw_360, List.forall_mem_cons.mpr ⟨jt_g Z jw_325, List.forall_mem_cons.mpr ⟨jt_f Z jv_281 rfl rfl, List.forall_mem_cons.mpr ⟨jt_g Z jw_325, List.forall_mem_cons.mpr ⟨jt_g Z jw_326, List.forall_mem_cons.mpr ⟨jt_g Z jw_327, List.forall_mem_cons.mpr ⟨jt_g Z jw_328, List.forall_mem_cons.mpr ⟨jt_f Z jv_283 rfl rfl, List.forall_mem_cons.mpr ⟨jt_g Z jw_328, List.forall_mem_cons.mpr ⟨jt_g Z jw_329, List.forall_mem_cons.mpr ⟨jt_g Z jw_330, List.forall_mem_cons.mpr ⟨jt_g Z jw_301, List.forall_mem_cons.mpr ⟨jt_f Z jv_285 rfl rfl, List.forall_mem_cons.mpr ⟨jt_g Z jw_357, List.forall_mem_cons.mpr ⟨jt_g Z jw_349, List.forall_mem_cons.mpr ⟨jt_f Z jv_350 rfl rfl, List.forall_mem_cons.mpr ⟨jt_g Z jw_351, List.forall_mem_cons.mpr ⟨jt_g Z jw_311, List.forall_mem_cons.mpr ⟨jt_g Z jw_352, List.forall_mem_cons.mpr ⟨jt_g Z jw_353, List.forall_mem_cons.mpr ⟨jt_g Z jw_354, List.forall_mem_cons.mpr ⟨jt_g Z jw_355, List.forall_mem_cons.mpr ⟨jt_r Z jv_305 (flat_of_before _ Z.2.1 _ (by decide +kernel)), List.forall_mem_cons.mpr ⟨jt_r Z jv_307 (flat_of_before _ Z.2.1 _ (by decide +kernel)), List.forall_mem_cons.mpr ⟨jt_g Z jw_299, List.forall_mem_cons.mpr ⟨jt_g Z jw_298, List.forall_mem_cons.mpr ⟨jt_g Z jw_356, fun _ h => absurd h List.not_mem_nil⟩⟩⟩⟩⟩⟩⟩⟩⟩⟩⟩⟩⟩⟩⟩⟩⟩⟩⟩⟩⟩⟩⟩⟩⟩⟩⟩⟩⟩⟩⟩⟩⟩⟩⟩⟩⟩⟩⟩⟩⟩⟩⟩⟩⟩⟩⟩⟩⟩⟩⟩⟩⟩
theorem jt_atN {U : State} {A : Array Value} (Z : jt_Z s0 a0 U) : ∀ w ∈ Bundle.ownAtoms0 "CashMachine" 87 "java/util/NoSuchElementException" jt_l, w.before A U = true :=
  List.forall_mem_cons.mpr ⟨jt_g Z jw_12, List.forall_mem_cons.mpr ⟨jt_g Z jw_300, List.forall_mem_cons.mpr ⟨jt_g Z jw_309, List.forall_mem_cons.mpr ⟨jt_g Z jw_315, List.forall_mem_cons.mpr ⟨jt_g Z jw_318, List.forall_mem_cons.mpr ⟨jt_g Z jw_320, List.forall_mem_cons.mpr ⟨jt_g Z jw_301, List.forall_mem_cons.mpr ⟨jt_g Z jw_302, List.forall_mem_cons.mpr ⟨jt_g Z jw_29, List.forall_mem_cons.mpr ⟨jt_g Z jw_30, List.forall_mem_cons.mpr ⟨jt_g Z jw_303, List.forall_mem_cons.mpr ⟨jt_g Z jw_308, List.forall_mem_cons.mpr ⟨jt_g Z jw_316, List.forall_mem_cons.mpr ⟨jt_g Z jw_332, List.forall_mem_cons.mpr ⟨jt_g Z jw_290, List.forall_mem_cons.mpr ⟨jt_g Z jw_333, List.forall_mem_cons.mpr ⟨jt_g Z jw_292, List.forall_mem_cons.mpr ⟨jt_g Z jw_334, List.forall_mem_cons.mpr ⟨jt_g Z jw_294, List.forall_mem_cons.mpr ⟨jt_g Z jw_304, List.forall_mem_cons.mpr ⟨jt_s Z jv_305, List.forall_mem_cons.mpr ⟨jt_g Z jw_306, List.forall_mem_cons.mpr ⟨jt_s Z jv_307, List.forall_mem_cons.mpr ⟨jt_g Z jw_296, List.forall_mem_cons.mpr ⟨jt_g Z jw_401, List.forall_mem_cons.mpr ⟨jt_g Z jw_402, List.forall_mem_cons.mpr ⟨jt_g Z jw_403, List.forall_mem_cons.mpr ⟨jt_g Z jw_325, List.forall_mem_cons.mpr ⟨jt_f Z jv_281 rfl rfl, List.forall_mem_cons.mpr ⟨jt_g Z jw_325, List.forall_mem_cons.mpr ⟨jt_g Z jw_326, List.forall_mem_cons.mpr ⟨jt_g Z jw_327, List.forall_mem_cons.mpr ⟨jt_g Z jw_328, List.forall_mem_cons.mpr ⟨jt_f Z jv_283 rfl rfl, List.forall_mem_cons.mpr ⟨jt_g Z jw_328, List.forall_mem_cons.mpr ⟨jt_g Z jw_329, List.forall_mem_cons.mpr ⟨jt_g Z jw_330, List.forall_mem_cons.mpr ⟨jt_g Z jw_301, List.forall_mem_cons.mpr ⟨jt_f Z jv_285 rfl rfl, List.forall_mem_cons.mpr ⟨jt_g Z jw_400, List.forall_mem_cons.mpr ⟨jt_g Z jw_392, List.forall_mem_cons.mpr ⟨jt_f Z jv_393 rfl rfl, List.forall_mem_cons.mpr ⟨jt_g Z jw_394, List.forall_mem_cons.mpr ⟨jt_g Z jw_314, List.forall_mem_cons.mpr ⟨jt_g Z jw_395, List.forall_mem_cons.mpr ⟨jt_g Z jw_396, List.forall_mem_cons.mpr ⟨jt_g Z jw_397, List.forall_mem_cons.mpr ⟨jt_g Z jw_398, List.forall_mem_cons.mpr ⟨jt_r Z jv_305 (flat_of_before _ Z.2.1 _ (by decide +kernel)), List.forall_mem_cons.mpr ⟨jt_r Z jv_307 (flat_of_before _ Z.2.1 _ (by decide +kernel)), List.forall_mem_cons.mpr ⟨jt_g Z jw_299, List.forall_mem_cons.mpr ⟨jt_g Z jw_298, List.forall_mem_cons.mpr ⟨jt_g Z jw_399, fun _ h => absurd h List.not_mem_nil⟩⟩⟩⟩⟩⟩⟩⟩⟩⟩⟩⟩⟩⟩⟩⟩⟩⟩⟩⟩⟩⟩⟩⟩⟩⟩⟩⟩⟩⟩⟩⟩⟩⟩⟩⟩⟩⟩⟩⟩⟩⟩⟩⟩⟩⟩⟩⟩⟩⟩⟩⟩⟩
theorem jt_atU {U : State} {A : Array Value} (Z : jt_Z s0 a0 U) : ∀ w ∈ Bundle.ownAtoms0 "CashMachine" 99 "java/lang/UnsupportedOperationException" jt_l, w.before A U = true :=
  List.forall_mem_cons.mpr ⟨jt_g Z jw_12, List.forall_mem_cons.mpr ⟨jt_g Z jw_300, List.forall_mem_cons.mpr ⟨jt_g Z jw_309, List.forall_mem_cons.mpr ⟨jt_g Z jw_315, List.forall_mem_cons.mpr ⟨jt_g Z jw_318, List.forall_mem_cons.mpr ⟨jt_g Z jw_320, List.forall_mem_cons.mpr ⟨jt_g Z jw_301, List.forall_mem_cons.mpr ⟨jt_g Z jw_302, List.forall_mem_cons.mpr ⟨jt_g Z jw_29, List.forall_mem_cons.mpr ⟨jt_g Z jw_30, List.forall_mem_cons.mpr ⟨jt_g Z jw_303, List.forall_mem_cons.mpr ⟨jt_g Z jw_308, List.forall_mem_cons.mpr ⟨jt_g Z jw_316, List.forall_mem_cons.mpr ⟨jt_g Z jw_332, List.forall_mem_cons.mpr ⟨jt_g Z jw_290, List.forall_mem_cons.mpr ⟨jt_g Z jw_333, List.forall_mem_cons.mpr ⟨jt_g Z jw_292, List.forall_mem_cons.mpr ⟨jt_g Z jw_334, List.forall_mem_cons.mpr ⟨jt_g Z jw_294, List.forall_mem_cons.mpr ⟨jt_g Z jw_304, List.forall_mem_cons.mpr ⟨jt_s Z jv_305, List.forall_mem_cons.mpr ⟨jt_g Z jw_306, List.forall_mem_cons.mpr ⟨jt_s Z jv_307, List.forall_mem_cons.mpr ⟨jt_g Z jw_296, List.forall_mem_cons.mpr ⟨jt_g Z jw_416, List.forall_mem_cons.mpr ⟨jt_g Z jw_417, List.forall_mem_cons.mpr ⟨jt_g Z jw_418, List.forall_mem_cons.mpr ⟨jt_g Z jw_325, List.forall_mem_cons.mpr ⟨jt_f Z jv_281 rfl rfl, List.forall_mem_cons.mpr ⟨jt_g Z jw_325, List.forall_mem_cons.mpr ⟨jt_g Z jw_326, List.forall_mem_cons.mpr ⟨jt_g Z jw_327, List.forall_mem_cons.mpr ⟨jt_g Z jw_328, List.forall_mem_cons.mpr ⟨jt_f Z jv_283 rfl rfl, List.forall_mem_cons.mpr ⟨jt_g Z jw_328, List.forall_mem_cons.mpr ⟨jt_g Z jw_329, List.forall_mem_cons.mpr ⟨jt_g Z jw_330, List.forall_mem_cons.mpr ⟨jt_g Z jw_301, List.forall_mem_cons.mpr ⟨jt_f Z jv_285 rfl rfl, List.forall_mem_cons.mpr ⟨jt_g Z jw_415, List.forall_mem_cons.mpr ⟨jt_g Z jw_407, List.forall_mem_cons.mpr ⟨jt_f Z jv_408 rfl rfl, List.forall_mem_cons.mpr ⟨jt_g Z jw_409, List.forall_mem_cons.mpr ⟨jt_g Z jw_313, List.forall_mem_cons.mpr ⟨jt_g Z jw_410, List.forall_mem_cons.mpr ⟨jt_g Z jw_411, List.forall_mem_cons.mpr ⟨jt_g Z jw_412, List.forall_mem_cons.mpr ⟨jt_g Z jw_413, List.forall_mem_cons.mpr ⟨jt_r Z jv_305 (flat_of_before _ Z.2.1 _ (by decide +kernel)), List.forall_mem_cons.mpr ⟨jt_r Z jv_307 (flat_of_before _ Z.2.1 _ (by decide +kernel)), List.forall_mem_cons.mpr ⟨jt_g Z jw_299, List.forall_mem_cons.mpr ⟨jt_g Z jw_298, List.forall_mem_cons.mpr ⟨jt_g Z jw_414, fun _ h => absurd h List.not_mem_nil⟩⟩⟩⟩⟩⟩⟩⟩⟩⟩⟩⟩⟩⟩⟩⟩⟩⟩⟩⟩⟩⟩⟩⟩⟩⟩⟩⟩⟩⟩⟩⟩⟩⟩⟩⟩⟩⟩⟩⟩⟩⟩⟩⟩⟩⟩⟩⟩⟩⟩⟩⟩⟩
theorem jt_atB {U : State} {A : Array Value} (Z : jt_Z s0 a0 U) : ∀ w ∈ Bundle.ownAtoms0 "CashMachine" 117 "java/lang/IndexOutOfBoundsException" jt_l, w.before A U = true :=
  List.forall_mem_cons.mpr ⟨jt_g Z jw_12, List.forall_mem_cons.mpr ⟨jt_g Z jw_300, List.forall_mem_cons.mpr ⟨jt_g Z jw_309, List.forall_mem_cons.mpr ⟨jt_g Z jw_315, List.forall_mem_cons.mpr ⟨jt_g Z jw_318, List.forall_mem_cons.mpr ⟨jt_g Z jw_320, List.forall_mem_cons.mpr ⟨jt_g Z jw_301, List.forall_mem_cons.mpr ⟨jt_g Z jw_302, List.forall_mem_cons.mpr ⟨jt_g Z jw_29, List.forall_mem_cons.mpr ⟨jt_g Z jw_30, List.forall_mem_cons.mpr ⟨jt_g Z jw_303, List.forall_mem_cons.mpr ⟨jt_g Z jw_308, List.forall_mem_cons.mpr ⟨jt_g Z jw_316, List.forall_mem_cons.mpr ⟨jt_g Z jw_332, List.forall_mem_cons.mpr ⟨jt_g Z jw_290, List.forall_mem_cons.mpr ⟨jt_g Z jw_333, List.forall_mem_cons.mpr ⟨jt_g Z jw_292, List.forall_mem_cons.mpr ⟨jt_g Z jw_334, List.forall_mem_cons.mpr ⟨jt_g Z jw_294, List.forall_mem_cons.mpr ⟨jt_g Z jw_304, List.forall_mem_cons.mpr ⟨jt_s Z jv_305, List.forall_mem_cons.mpr ⟨jt_g Z jw_306, List.forall_mem_cons.mpr ⟨jt_s Z jv_307, List.forall_mem_cons.mpr ⟨jt_g Z jw_296, List.forall_mem_cons.mpr ⟨jt_g Z jw_484, List.forall_mem_cons.mpr ⟨jt_g Z jw_485, List.forall_mem_cons.mpr ⟨jt_g Z jw_486, List.forall_mem_cons.mpr ⟨jt_g Z jw_325, List.forall_mem_cons.mpr ⟨jt_f Z jv_281 rfl rfl, List.forall_mem_cons.mpr ⟨jt_g Z jw_325, List.forall_mem_cons.mpr ⟨jt_g Z jw_326, List.forall_mem_cons.mpr ⟨jt_g Z jw_327, List.forall_mem_cons.mpr ⟨jt_g Z jw_328, List.forall_mem_cons.mpr ⟨jt_f Z jv_283 rfl rfl, List.forall_mem_cons.mpr ⟨jt_g Z jw_328, List.forall_mem_cons.mpr ⟨jt_g Z jw_329, List.forall_mem_cons.mpr ⟨jt_g Z jw_330, List.forall_mem_cons.mpr ⟨jt_g Z jw_301, List.forall_mem_cons.mpr ⟨jt_f Z jv_285 rfl rfl, List.forall_mem_cons.mpr ⟨jt_g Z jw_483, List.forall_mem_cons.mpr ⟨jt_g Z jw_475, List.forall_mem_cons.mpr ⟨jt_f Z jv_476 rfl rfl, List.forall_mem_cons.mpr ⟨jt_g Z jw_477, List.forall_mem_cons.mpr ⟨jt_g Z jw_312, List.forall_mem_cons.mpr ⟨jt_g Z jw_478, List.forall_mem_cons.mpr ⟨jt_g Z jw_479, List.forall_mem_cons.mpr ⟨jt_g Z jw_480, List.forall_mem_cons.mpr ⟨jt_g Z jw_481, List.forall_mem_cons.mpr ⟨jt_r Z jv_305 (flat_of_before _ Z.2.1 _ (by decide +kernel)), List.forall_mem_cons.mpr ⟨jt_r Z jv_307 (flat_of_before _ Z.2.1 _ (by decide +kernel)), List.forall_mem_cons.mpr ⟨jt_g Z jw_299, List.forall_mem_cons.mpr ⟨jt_g Z jw_298, List.forall_mem_cons.mpr ⟨jt_g Z jw_482, fun _ h => absurd h List.not_mem_nil⟩⟩⟩⟩⟩⟩⟩⟩⟩⟩⟩⟩⟩⟩⟩⟩⟩⟩⟩⟩⟩⟩⟩⟩⟩⟩⟩⟩⟩⟩⟩⟩⟩⟩⟩⟩⟩⟩⟩⟩⟩⟩⟩⟩⟩⟩⟩⟩⟩⟩⟩⟩⟩
end JTX
section JTB
def jt_Bq (Qr : Array Value → State → Option Value → State → Prop) (Qt : Array Value → State → Addr → State → Prop) (a : Array Value) (st : State) (o : Outcome) (t : State) : Prop := (∃ v, o = .returned v ∧ Qr a st v t) ∨ ∃ x, o = .threw x ∧ Qt a st x t
/-- a method that may throw -/
def jt_B (l : Launch) (y : MethodName) (ws : List Cond) (rm : Room) (Pc : Array Value → State → Prop) (Qr : Array Value → State → Option Value → State → Prop) (Qt : Array Value → State → Addr → State → Prop) (mc ms : Nat) (free : Addr → Prop) : Prop :=
  MetFree l y (headSpec ws rm) Pc (fun _ _ _ _ _ => True) (fun a st o t => jt_Bq Qr Qt a st o t ∧ ∃ L, st.WarmedH t.vm ∧ st.sameButNew ({ t with vm := st.vm } : State) L mc ms ∧ ∀ q ∈ L, free q.base)
def jt_BQ (below : List Frame) (Qr : Array Value → State → Option Value → State → Prop) (Qt : Array Value → State → Addr → State → Prop) (a : Array Value) (s : State) (mc ms : Nat) (free : Addr → Prop) : State → Prop := fun t =>
  ∃ o, t.status = .running ∧ Ended t below o ∧ jt_Bq Qr Qt a s o t ∧ ∃ L, s.WarmedH t.vm ∧ s.sameButNew ({ t with vm := s.vm } : State) L mc ms ∧ ∀ q ∈ L, free q.base
variable {p : Program} {l : Launch} {e : Env} {R : Room} {s s0 : State} {m : MethodId} {args : Array Value} {below : List Frame} {meth : Method} {c : Code} {G : jb_Gt} {ad : Nat → Nat} {a0 : Array Value} {nL cells slots : Nat} {S : ja_S} {pc q : Nat} {L : List (Nat × Value)} {st : List Value} {cc : ByteArray} {own : String}
theorem jt_B.ofW {y : MethodName} {ws ws' : List Cond} {rm : Room} {Pc : Array Value → State → Prop} {Qr : Array Value → State → Option Value → State → Prop} {Qt : Array Value → State → Addr → State → Prop} {mc ms : Nat} {free : Addr → Prop} {cc : ByteArray} {maxL : Nat} {ret : Option FieldType}
    (hy : plainName y.cls = true) (hw : ws = Cond.code y cc maxL ret :: ws')
    (body : ∀ p e s m args below meth c s₁, BodyLoose p l y (headSpec ws rm) cc maxL ret e s m args below meth c s₁ → c.maxLocals = maxL → Pc args s →
      W p l e (headSpec ws rm).room s m args below meth c s.heap [] 0 0 (jt_BQ below Qr Qt args s mc ms free) (entryFrame m args maxL)) : jt_B l y ws rm Pc Qr Qt mc ms free := by
  refine MetFree.of_bodyS (code := cc) (maxLocals := maxL) (ret := ret) hy ?_ ?_
  · intro args s m h hn
    obtain ⟨meth, c, h1, h2, h3, h4, h5, h6, -, -⟩ := Cond.code_spec hn (atoms_spec (ws := ws) h _ (by rw [hw]; exact List.mem_cons_self))
    exact ⟨meth, c, h1, h2, h3, h4, h5, h6⟩
  · intro p e s m args below meth c s₁ B hml hP _
    have hh0 : s₁.heap = s.heap := by rw [B.state]; rfl
    obtain ⟨t, a1, o, b1, b2, b3⟩ := body p e s m args below meth c s₁ B hml hP s₁ hh0 (Stand.of_body B)
    exact ⟨t, o, a1, b1, b2, b3⟩
def jo_Qr (s0 : State) (G : jb_Gt) (ad : Nat → Nat) (post : Int32 → ja_S → Prop) : Array Value → State → Option Value → State → Prop := fun _ st v t => (∃ r S', v = some (.int r) ∧ post r S' ∧ va_P G.1 jb_cl (jb_en G ad S') t.heap) ∧ va_F (fun q => s0.heap.size ≤ q) st t
def jo_Qt (s0 : State) (G : jb_Gt) (ad : Nat → Nat) (tp : String → ja_S → Prop) : Array Value → State → Addr → State → Prop := fun _ st x t => (∃ E S', tp E S' ∧ va_P G.1 jb_cl (jb_en G ad S') t.heap ∧ ∃ ce, t.heap[x]? = some ce ∧ ce.vm = .none ∧ st.vm.findClass E = some ce.cls) ∧ va_F (fun q => s0.heap.size ≤ q) st t
abbrev jo_r1 (d : Nat) : Room := { frames := d, cells := 1, slots := 6, locals := 40 * d }
/-- y, called with As in the state S: it returns an int, post of it and of the state behind it; or it throws, tp of the exception's class and the state -/
def jo_Y (l : Launch) (s0 : State) (G : jb_Gt) (ad : Nat → Nat) (y : MethodName) (cc : ByteArray) (n : Nat) (ret : Option FieldType) (d : Nat) (As : List Value) (S : ja_S) (post : Int32 → ja_S → Prop) (tp : String → ja_S → Prop) : Prop :=
  jt_B l y [Cond.code y cc n ret] (jo_r1 d) (jo_P s0 G ad S As) (jo_Qr s0 G ad post) (jo_Qt s0 G ad tp) 1 6 (fun q => s0.heap.size ≤ q)
abbrev jo_E (s0 : State) (G : jb_Gt) (ad : Nat → Nat) (below : List Frame) (args : Array Value) (s : State) (post : Int32 → ja_S → Prop) (tp : String → ja_S → Prop) : State → Prop := jt_BQ below (jo_Qr s0 G ad post) (jo_Qt s0 G ad tp) args s 1 6 (fun q => s0.heap.size ≤ q)
theorem jo_ofB {y : MethodName} {cc : ByteArray} {n : Nat} {ret : Option FieldType} {d : Nat} {As : List Value} {S : ja_S} {post : Int32 → ja_S → Prop} {tp : String → ja_S → Prop} (K : jo_G s0 a0 G ad) (hy : plainName y.cls = true) (hc : jo_cat As = true) (hn : (lg_sl As).length ≤ n)
    (body : ∀ (p : Program) (e : Env) (s : State) (m : MethodId) (args : Array Value) (below : List Frame) (meth : Method) (c : Code), CallFix p m c cc n s args ja_T y.cls ∧ jb_X s0 s G ad → meth.sig.returnType = ret → meth.locks = false ∧ c.exceptionTable.isEmpty = true →
      ja_V p l e (jo_r1 d) s m args below meth c (jb_W G ad) s0.heap.size n 0 0 (jo_E s0 G ad below args s post tp) S 0 (lv_args 0 As) []) : jo_Y l s0 G ad y cc n ret d As S post tp := by
  refine jt_B.ofW (cc := cc) (maxL := n) (ret := ret) hy rfl ?_
  intro p e s m args below meth c s₁ B hml hv
  obtain ⟨rfl, hB⟩ := hv
  have hown : s.vm.findClass y.cls = some m.cls := findClass_of_methodNamed B.named
  have hl := lv_entry As (n := n) hn
  have hx := BodyLoose.noHandlers B (atoms_spec (ws := [Cond.code y cc n ret]) B.pre _ List.mem_cons_self)
  rw [lg_entry_eq]
  exact body p e s m _ below meth c ⟨⟨B.exec, B.bytes, hml, hown, jo_words K hB.1⟩, jo_X K hB⟩ B.returns ⟨B.notSynchronized, hx⟩ _ s.heap [] ⟨⟨hl.1, hl.2.1, fun q hq => hl.2.2 q (ja_nd_mem hq)⟩, jo_en hc⟩ hB.2.1 va_S.rf
theorem jo_Mono {Q Q' : State → Prop} {H : Heap} {locs : List Loc} {g : JFrame} (h : ∀ t, Q t → Q' t) (k : W p l e R s m args below meth c H locs cells slots Q g) : W p l e R s m args below meth c H locs cells slots Q' g := fun T hT X => by
  obtain ⟨t, a, b⟩ := k T hT X
  exact ⟨t, a, h t b⟩
theorem jo_irB (O : CallFix p m c cc nL s args ja_T own ∧ jb_X s0 s G ad) (hr : meth.sig.returnType = some .int) (hk : meth.locks = false ∧ c.exceptionTable.isEmpty = true) {x : Int32} {P : Int32 → ja_S → Prop} {tp : String → ja_S → Prop} (h : P x S) (hd : decode cc pc = .ok (.ireturn, 1)) : ja_V p l e R s m args below meth c (jb_W G ad) s0.heap.size nL 0 0 (jo_E s0 G ad below args s P tp) S pc L [.int x] := fun ls H locs hL hP hS =>
  W.widen (k := 1) (n := 6) (by omega) (by omega) (jo_Mono (fun t h => by
    obtain ⟨o, b1, b2, ⟨⟨v, S', e1, ⟨r, e2, hp⟩, hb⟩, hF⟩, L, ⟨-, hW, hf⟩, hL⟩ := h
    subst e1
    exact ⟨_, b1, b2, Or.inl ⟨v, rfl, ⟨r, S', e2, hp, hb⟩, hF⟩, L, hW, hf, hL⟩)
    (W.iret (Qc := jo_Q s0 G ad (jo_i P)) (free := fun q => s0.heap.size ≤ q) (v := x) O.1.1 O.1.2.1 hr (fun t ht hW => ⟨⟨_, S, rfl, ⟨x, rfl, h⟩, by rw [ht]; exact hP⟩, hS.F ht⟩) hS.2.2 hd hk.1))
theorem jo_th (K : jo_G s0 a0 G ad) (hfl : l.stackTraces = false) (O : CallFix p m c cc nL s args ja_T "CashMachine" ∧ jb_X s0 s G ad) {E : String} {ix ic : Nat} {post : Int32 → ja_S → Prop} {tp : String → ja_S → Prop}
    (hat : ∀ (U : State) (A : Array Value), jt_Z s0 a0 U → ∀ w ∈ Bundle.ownAtoms0 "CashMachine" ic E jt_l, w.before A U = true) (hfit : Bundle.fit E = true) (hcl : Cond.classLink "CashMachine" ix E ∈ ja_T) (hins : Cond.instantiable E 6 ∈ ja_T) (hini : Cond.initialized E ∈ ja_T)
    (hk : meth.locks = false ∧ c.exceptionTable.isEmpty = true) (hRf : 5 < R.frames) (hRl : (st.map fun v => v.category).sum + 81 ≤ R.locals) (hRc : 1 ≤ R.cells ∧ 6 ≤ R.slots)
    (d0 : decode cc pc = .ok (.new ix, 3)) (d1 : decode cc (pc + 3) = .ok (.dup, 1)) (d2 : decode cc (pc + 4) = .ok (.invokespecial ic, 3)) (d3 : decode cc (pc + 7) = .ok (.athrow, 1)) (ht : tp E S) :
    ja_V p l e R s m args below meth c (jb_W G ad) s0.heap.size nL 0 0 (jo_E s0 G ad below args s post tp) S pc L st := by
  intro ls H locs hL hP hS T hT X
  have hlocks : meth.locks = false := hk.1
  obtain ⟨vm', cC, kC, h1, h2, h3, h4, X1, st1⟩ := X.newCold O.1.1 O.1.2.2.2.1 (O.1.2.2.2.2 _ hcl) (O.1.2.2.2.2 _ hins) (O.1.2.2.2.2 _ hini) (g := F0 m pc ls st) rfl (by rw [O.1.2.1]; exact d0) (by omega) (by omega)
  have hW' : s.WarmedH vm' := X1.warmed
  have X0 := X.noted hW'
  have Y0 := jt_rebase X0 (a := 1) (b := 6) (by omega) (by omega)
  have Y1 := Y0.pushed { cls := cC, slots := kC.instanceTypes.map defaultValue, vm := .none }
  have hsz : (kC.instanceTypes.map defaultValue).size = 6 := by simp [h4]
  have Z : jt_Z s0 a0 ((T.setVm vm').setFrames (.invoking m args :: below)) := ⟨K.1, K.2.2.2, State.WarmedH.trans O.2.1 hW', fun q hq => by
    show T.heap[q]? = _
    rw [hT, hS.2.1 q (Nat.lt_of_lt_of_le hq O.2.2.2.2.1) (Nat.not_le.mpr hq)]; exact O.2.2.2.2.2 q hq⟩
  obtain ⟨kC', hkC', he⟩ := hW'.alike.2.2 _ _ h2
  have hty : kC'.instanceTypes = kC.instanceTypes := by rw [he]
  have hfc : ((T.setVm vm').setFrames (.invoking m args :: below)).vm.findClass E = some cC := by show vm'.findClass E = _; rw [hW'.alike.findClass]; exact h1
  have htr : e.platform.stackTraces = false := by rw [X.admits.platform]; exact hfl
  obtain ⟨U, hsteps, hrun, hend, hWU, hsame, ce, hce, hoc⟩ := Y1.ctorThrow0 O.1.1 htr (own := "CashMachine") (cls := E) (names := jt_l) (ic := ic) (by show vm'.findClass _ = _; rw [hW'.alike.findClass]; exact O.1.2.2.2.1) hfit (by decide) (hat _ _ Z) (fun x hx => by cases hx) (a := T.heap.size) (cX := cC) (kX := kC') hfc hkC'
    (by show (T.heap.push _)[T.heap.size]? = _; simp [freshCell, hty]) (Nat.le_refl _) (g := F0 m (pc + 4) ls (.ref T.heap.size :: .ref T.heap.size :: st)) rfl (by rw [O.1.2.2.1]; exact hL.1.1) rfl rfl (rest := st) rfl (by rw [O.1.2.1]; exact d2) (by rw [O.1.2.1]; exact d3)
    (fun x hx => by
      have h0 : c.exceptionTable.size = 0 := by simpa [Array.isEmpty] using hk.2
      have h1 : c.exceptionTable.toList = [] := List.eq_nil_of_length_eq_zero (by simpa using h0)
      rw [h1] at hx; cases hx) (by show 2 + 3 < R.frames; omega) (by
      show 2 * 0 + (1 + (st.map fun v => v.category).sum) + (13 * (2 + 1) + 41) ≤ R.locals
      omega) hlocks
  have hold : ∀ q, q < H.size → U.heap[q]? = H[q]? := fun q hq => by
    cases hc : H[q]? with
    | none => exact absurd hc (by simp; omega)
    | some cell => exact hsame.old_cell (show (T.heap)[q]? = some cell by rw [hT]; exact hc)
  refine ⟨U, st1 U ?_, .threw T.heap.size, hrun, hend, Or.inr ⟨_, rfl, ⟨E, S, ht, hP.kept (fun k q hk => hold _ (hP k q hk).lt), ce, hce, hoc.vm, ?_⟩, ?_⟩, locs, State.WarmedH.trans hW' hWU, ?_, hS.2.2⟩
  · have hb : c.code = cc := O.1.2.1
    jvm_step X1.here [X1.here.top, O.1.1, hb, d1]
    exact ⟨_, State.topJava?_setTop' _ X1.here.top, _, _, rfl, rfl, hsteps⟩
  · rw [← hoc.cls]
    show s.vm.findClass E = vm'.findClass E
    rw [hW'.alike.findClass]
  · refine ⟨?_, fun q h1 h2 => ?_⟩
    · exact Nat.le_trans hS.1 (by rw [← hT]; exact hsame.2.1)
    · rw [hold q (Nat.lt_of_lt_of_le h1 hS.1)]; exact hS.2.1 q h1 h2
  · have h9 := (X0.ends (.invoking m args :: below)).2
    have h8 := h9.trans (hsame.setVm s.vm)
    rw [List.append_nil] at h8
    exact State.sameButNew.mono h8 (by simp) (by simp [h4])
end JTB
end
section
/-! ROWS FOR THE LIBRARY: System.arraycopy inside one array of the world, Math.min -/
section JLB
variable {p : Program} {l : Launch} {e : Env} {R : Room} {s s0 : State} {m : MethodId} {args : Array Value} {below : List Frame} {meth : Method} {c : Code} {G : jb_Gt} {ad : Nat → Nat} {nL cells slots : Nat} {Q : State → Prop} {S : ja_S} {pc q : Nat} {L : List (Nat × Value)} {st : List Value} {cc : ByteArray} {own : String}
theorem jcp_12 (O : CallFix p m c cc nL s args ja_T "CashMachine$Line" ∧ jb_X s0 s G ad) {x y z : Int32} {a b k : Nat} (hx : x = nI a) (hy : y = nI b) (hz : z = nI k) (ha : a + k ≤ 8) (hb : b + k ≤ 8) (hR : 1 ≤ R.frames ∧ (st.map fun v => v.category).sum + (nativeFrameWords "java/lang/System" "arraycopy" 5 + 11) ≤ R.locals) (hd : decode cc pc = .ok (.invokestatic 19, 3)) (hp : pc + 3 = q)
    (kk : ja_V p l e R s m args below meth c (jb_W G ad) s0.heap.size nL cells slots Q (jb_sv S 27 (va_cpy (S 27) (S 27) a b k)) q L st) : ja_V p l e R s m args below meth c (jb_W G ad) s0.heap.size nL cells slots Q S pc L (.int z :: .int y :: .ref (ad 12) :: .int x :: .ref (ad 12) :: st) := by
  subst hp; subst hx; subst hy; subst hz
  intro ls H locs hL hP hS
  refine va_copyi O.1.1 O.1.2.1 (O.1.2.2.1.trans hL.1.1.symm) O.1.2.2.2.1 (O.1.2.2.2.2 _ jw_509) (O.1.2.2.2.2 _ jw_511) (O.1.2.2.2.2 _ jw_510) (O.1.2.2.2.2 _ jw_22) O.2.2.1 hP (O.2.2.2.1.va S) hS 12 12 0 0 rfl rfl rfl rfl rfl (nI_pos (by omega)) (nI_pos (by omega)) (nI_pos (by omega)) (by rw [nI_clamp (by omega), nI_clamp (by omega)]; exact ha) (by rw [nI_clamp (by omega), nI_clamp (by omega)]; exact hb) (fun _ _ => rfl) hR.1 hR.2 hd (fun H1 locs1 hP1 _ hS1 => ?_)
  rw [nI_clamp (show a < 2 ^ 31 by omega), nI_clamp (show b < 2 ^ 31 by omega), nI_clamp (show k < 2 ^ 31 by omega)] at hP1
  exact kk ls H1 locs1 hL (show va_P G.1 jb_cl (jb_en G ad _) H1 by rw [← jb_s27]; exact hP1) hS1
theorem jcp_17 (O : CallFix p m c cc nL s args ja_T "CashMachine$Reversals" ∧ jb_X s0 s G ad) {x y z : Int32} {a b k : Nat} (hx : x = nI a) (hy : y = nI b) (hz : z = nI k) (ha : a + k ≤ 40) (hb : b + k ≤ 40) (hR : 1 ≤ R.frames ∧ (st.map fun v => v.category).sum + (nativeFrameWords "java/lang/System" "arraycopy" 5 + 11) ≤ R.locals) (hd : decode cc pc = .ok (.invokestatic 22, 3)) (hp : pc + 3 = q)
    (kk : ja_V p l e R s m args below meth c (jb_W G ad) s0.heap.size nL cells slots Q (jb_sv S 30 (va_cpy (S 30) (S 30) a b k)) q L st) : ja_V p l e R s m args below meth c (jb_W G ad) s0.heap.size nL cells slots Q S pc L (.int z :: .int y :: .ref (ad 17) :: .int x :: .ref (ad 17) :: st) := by
  subst hp; subst hx; subst hy; subst hz
  intro ls H locs hL hP hS
  refine va_copyi O.1.1 O.1.2.1 (O.1.2.2.1.trans hL.1.1.symm) O.1.2.2.2.1 (O.1.2.2.2.2 _ jw_614) (O.1.2.2.2.2 _ jw_511) (O.1.2.2.2.2 _ jw_510) (O.1.2.2.2.2 _ jw_22) O.2.2.1 hP (O.2.2.2.1.va S) hS 17 17 0 0 rfl rfl rfl rfl rfl (nI_pos (by omega)) (nI_pos (by omega)) (nI_pos (by omega)) (by rw [nI_clamp (by omega), nI_clamp (by omega)]; exact ha) (by rw [nI_clamp (by omega), nI_clamp (by omega)]; exact hb) (fun _ _ => rfl) hR.1 hR.2 hd (fun H1 locs1 hP1 _ hS1 => ?_)
  rw [nI_clamp (show a < 2 ^ 31 by omega), nI_clamp (show b < 2 ^ 31 by omega), nI_clamp (show k < 2 ^ 31 by omega)] at hP1
  exact kk ls H1 locs1 hL (show va_P G.1 jb_cl (jb_en G ad _) H1 by rw [← jb_s30]; exact hP1) hS1
theorem jcp_18 (O : CallFix p m c cc nL s args ja_T "CashMachine$Reversals" ∧ jb_X s0 s G ad) {x y z : Int32} {a b k : Nat} (hx : x = nI a) (hy : y = nI b) (hz : z = nI k) (ha : a + k ≤ 40) (hb : b + k ≤ 40) (hR : 1 ≤ R.frames ∧ (st.map fun v => v.category).sum + (nativeFrameWords "java/lang/System" "arraycopy" 5 + 11) ≤ R.locals) (hd : decode cc pc = .ok (.invokestatic 22, 3)) (hp : pc + 3 = q)
    (kk : ja_V p l e R s m args below meth c (jb_W G ad) s0.heap.size nL cells slots Q (jb_sv S 31 (va_cpy (S 31) (S 31) a b k)) q L st) : ja_V p l e R s m args below meth c (jb_W G ad) s0.heap.size nL cells slots Q S pc L (.int z :: .int y :: .ref (ad 18) :: .int x :: .ref (ad 18) :: st) := by
  subst hp; subst hx; subst hy; subst hz
  intro ls H locs hL hP hS
  refine va_copyi O.1.1 O.1.2.1 (O.1.2.2.1.trans hL.1.1.symm) O.1.2.2.2.1 (O.1.2.2.2.2 _ jw_614) (O.1.2.2.2.2 _ jw_511) (O.1.2.2.2.2 _ jw_510) (O.1.2.2.2.2 _ jw_22) O.2.2.1 hP (O.2.2.2.1.va S) hS 18 18 0 0 rfl rfl rfl rfl rfl (nI_pos (by omega)) (nI_pos (by omega)) (nI_pos (by omega)) (by rw [nI_clamp (by omega), nI_clamp (by omega)]; exact ha) (by rw [nI_clamp (by omega), nI_clamp (by omega)]; exact hb) (fun _ _ => rfl) hR.1 hR.2 hd (fun H1 locs1 hP1 _ hS1 => ?_)
  rw [nI_clamp (show a < 2 ^ 31 by omega), nI_clamp (show b < 2 ^ 31 by omega), nI_clamp (show k < 2 ^ 31 by omega)] at hP1
  exact kk ls H1 locs1 hL (show va_P G.1 jb_cl (jb_en G ad _) H1 by rw [← jb_s31]; exact hP1) hS1
theorem jmin_X (O : CallFix p m c cc nL s args ja_T "CashMachine$Mix" ∧ jb_X s0 s G ad) {x y : Int32} (hR : 1 ≤ R.frames ∧ (st.map fun v => v.category).sum + 13 ≤ R.locals) (hz : cells ≤ R.cells ∧ slots ≤ R.slots) (hd : decode cc pc = .ok (.invokestatic 42, 3)) (hp : pc + 3 = q)
    (kk : ja_V p l e R s m args below meth c (jb_W G ad) s0.heap.size nL cells slots Q S q L (.int (if y < x then y else x) :: st)) : ja_V p l e R s m args below meth c (jb_W G ad) s0.heap.size nL cells slots Q S pc L (.int y :: .int x :: st) := by
  subst hp
  exact fun ls H locs hL hP hS => va_mmin O.1.1 O.1.2.1 (O.1.2.2.1.trans hL.1.1.symm) O.1.2.2.2.1 (O.1.2.2.2.2 _ jw_467) (O.1.2.2.2.2 _ jw_468) (O.1.2.2.2.2 _ jw_20) (O.1.2.2.2.2 _ jw_469) hR.1 hR.2 hz.1 hz.2 hd (kk ls H locs hL hP hS)
end JLB
end
section
/-! CONTRACTS of the class, by program (wip/whole/gen/p10.py): the small ones -/
theorem jb_us {S : ja_S} {v j : Nat} {x : Int32} : jb_u S v j x v j = x := by simp [jb_u, jb_sv, upd]
theorem jb_un {S : ja_S} {v j i : Nat} {x : Int32} (h : i ≠ j) : jb_u S v j x v i = S v i := by simp [jb_u, jb_sv, upd, h]
def jp_in (x lo hi : Int32) : Prop := lo ≤ x ∧ x ≤ hi
/-- how many of the first n are not 0 -/
def jp_ct (f : Nat → Int32) : Nat → Int32
  | 0 => 0
  | n + 1 => jp_ct f n + (if f n = 0 then 0 else 1)
/-- the sum of the first n -/
def jp_sm (f : Nat → Int32) : Nat → Int32
  | 0 => 0
  | n + 1 => jp_sm f n + f n
theorem jp_m1 {n : Nat} (h : 0 < n) : nI n - 1 = nI (n - 1) := by
  obtain ⟨k, rfl⟩ : ∃ k, n = k + 1 := ⟨n - 1, by omega⟩
  exact nI_pred k
set_option maxRecDepth 100000 in
theorem co_C_isWithin {l : Launch} {s0 : State} {a0 : Array Value} {G : jb_Gt} {ad : Nat → Nat} (K : jo_G s0 a0 G ad) {S : ja_S} (x lo hi : Int32) : jo_C l s0 G ad jy_C_isWithin jc_C_isWithin 3 (some .boolean) 1 [.int x, .int lo, .int hi] S (jo_i fun r S' => S' = S ∧ (r = 0 ∨ r = 1) ∧ (r = 0 ↔ ¬ jp_in x lo hi)) := by
  refine jo_of K (by decide) rfl (Nat.le_of_ble_eq_true rfl) ?_
  intro p e s m args below meth c O hr hk
  refine ja_iload_n O (q := 1) jd_C_isWithin_0 rfl rfl rfl ?_
  refine ja_iload_n O (q := 2) jd_C_isWithin_1 rfl rfl rfl ?_
  refine ja_icmp_lt O (g := 14) (q := 5) jd_C_isWithin_2 (by decide) rfl (fun h_2 => ?_) (fun h_2 => ?_)
  · refine ja_iconst O (q := 15) (v := 0) jd_C_isWithin_14 rfl (by decide) ?_
    exact jo_zr O hr hk (by first | assumption | exact Or.inl rfl | exact Or.inr rfl) ⟨rfl, by decide, (by simp only [jp_in, Int32.lt_iff_toInt_lt, Int32.le_iff_toInt_le] at *; first | (simp; done) | (simp; omega) | (simp_all; done) | (simp_all; omega))⟩ jd_C_isWithin_15
  · refine ja_iload_n O (q := 6) jd_C_isWithin_5 rfl rfl rfl ?_
    refine ja_iload_n O (q := 7) jd_C_isWithin_6 rfl rfl rfl ?_
    refine ja_icmp_gt O (g := 14) (q := 10) jd_C_isWithin_7 (by decide) rfl (fun h_7 => ?_) (fun h_7 => ?_)
    · refine ja_iconst O (q := 15) (v := 0) jd_C_isWithin_14 rfl (by decide) ?_
      exact jo_zr O hr hk (by first | assumption | exact Or.inl rfl | exact Or.inr rfl) ⟨rfl, by decide, (by simp only [jp_in, Int32.lt_iff_toInt_lt, Int32.le_iff_toInt_le] at *; first | (simp; done) | (simp; omega) | (simp_all; done) | (simp_all; omega))⟩ jd_C_isWithin_15
    · refine ja_iconst O (q := 11) (v := 1) jd_C_isWithin_10 rfl (by decide) ?_
      refine ja_goto O (g := 15) jd_C_isWithin_11 (by decide) ?_
      exact jo_zr O hr hk (by first | assumption | exact Or.inl rfl | exact Or.inr rfl) ⟨rfl, by decide, (by simp only [jp_in, Int32.lt_iff_toInt_lt, Int32.le_iff_toInt_le] at *; first | (simp; done) | (simp; omega) | (simp_all; done) | (simp_all; omega))⟩ jd_C_isWithin_15
set_option maxRecDepth 100000 in
theorem co_C_endSession {l : Launch} {s0 : State} {a0 : Array Value} {G : jb_Gt} {ad : Nat → Nat} (K : jo_G s0 a0 G ad) {S : ja_S}  : jo_C l s0 G ad jy_C_endSession jc_C_endSession 1 none 1 [.ref (ad 0)] S (jo_v fun S' => S' = jb_u (jb_u S 1 0 (-1)) 2 0 0) := by
  refine jo_of K (by decide) rfl (Nat.le_of_ble_eq_true rfl) ?_
  intro p e s m args below meth c O hr hk
  refine ja_aload_n O (q := 1) jd_C_endSession_0 rfl rfl rfl ?_
  refine ja_iconst O (q := 2) (v := (-1)) jd_C_endSession_1 rfl (by decide) ?_
  refine jp_C_48 O (q := 5) jd_C_endSession_2 rfl ?_
  refine ja_aload_n O (q := 6) jd_C_endSession_5 rfl rfl rfl ?_
  refine ja_iconst O (q := 7) (v := 0) jd_C_endSession_6 rfl (by decide) ?_
  refine jp_C_52 O (by first | assumption | exact Or.inl rfl | exact Or.inr rfl) (q := 10) jd_C_endSession_7 rfl ?_
  exact jo_vr O hr hk rfl jd_C_endSession_10
theorem jp_in_nI {x : Int32} {n : Nat} (hn : n < 2 ^ 31) (h : jp_in x 0 (nI n)) : ∃ j, j ≤ n ∧ x = nI j := nI_of2 (nI_toInt hn) (fun q => by have := h.1; simp only [Int32.lt_iff_toInt_lt, Int32.le_iff_toInt_le] at *; omega) h.2
theorem jp_nI_in {n j : Nat} (hn : n < 2 ^ 31) (h : j ≤ n) : jp_in (nI j) 0 (nI n) := ⟨nI_pos' (by omega), nI_le h hn⟩
set_option maxRecDepth 100000 in
theorem co_H_isOpen {l : Launch} {s0 : State} {a0 : Array Value} {G : jb_Gt} {ad : Nat → Nat} (K : jo_G s0 a0 G ad) {S : ja_S} (x : Int32) : jo_C l s0 G ad jy_H_isOpen jc_H_isOpen 2 (some .boolean) 2 [.ref (ad 1), .int x] S (jo_i fun r S' => S' = S ∧ (r = 0 ∨ r = 1) ∧ (r = 1 ↔ ∃ j, j < 8 ∧ x = nI j ∧ S 11 j ≠ 0)) := by
  refine jo_of K (by decide) rfl (Nat.le_of_ble_eq_true rfl) ?_
  intro p e s m args below meth c O hr hk
  have hN : va_Nw (.methodLinkNest "CashMachine$Host" 29 jy_C_isWithin "CashMachine") s := va_Nw.warmM O.2.1 (va_Nw.of rfl (K.1 _ jv_347))
  refine ja_iload_n O (q := 1) jd_H_isOpen_0 rfl rfl rfl ?_
  refine ja_iconst O (q := 2) (v := 0) jd_H_isOpen_1 rfl (by decide) ?_
  refine ja_bipush O (q := 4) (v := 7) jd_H_isOpen_2 rfl (by decide) ?_
  refine jm_H_29 O (hN) (d := 1) ⟨by decide, by decide⟩ (Nat.le_of_ble_eq_true rfl) ⟨by decide, by decide⟩ (co_C_isWithin K x 0 7) (q := 7) jd_H_isOpen_4 rfl (fun r S' h => ?_)
  obtain ⟨rfl, h01, hin⟩ := h
  refine ja_if_eq O (g := 26) (q := 10) jd_H_isOpen_7 (by decide) rfl (fun h_7 => ?_) (fun h_7 => ?_)
  · refine ja_iconst O (q := 27) (v := 0) jd_H_isOpen_26 rfl (by decide) ?_
    exact jo_zr O hr hk (by first | assumption | exact Or.inl rfl | exact Or.inr rfl) ⟨rfl, by decide, iff_of_false (by decide) (fun ⟨j, hj, e, _⟩ => by subst e; exact (hin.mp h_7) (jp_nI_in (n := 7) (by decide) (by omega)))⟩ jd_H_isOpen_27
  · obtain ⟨j, hj, rfl⟩ := jp_in_nI (n := 7) (by decide) (Classical.byContradiction fun q => h_7 (hin.mpr q))
    have hj8 : j < 8 := by omega
    refine ja_aload_n O (q := 11) jd_H_isOpen_10 rfl rfl rfl ?_
    refine jg_H_11 O (q := 14) jd_H_isOpen_11 rfl ?_
    refine ja_iload_n O (q := 15) jd_H_isOpen_14 rfl rfl rfl ?_
    refine jl_8 O (k := j) rfl (by first | assumption | omega) (q := 16) jd_H_isOpen_15 rfl ?_
    refine jg_H_33 O (by first | assumption | omega) (q := 19) jd_H_isOpen_16 rfl ?_
    refine ja_if_eq O (g := 26) (q := 22) jd_H_isOpen_19 (by decide) rfl (fun h_19 => ?_) (fun h_19 => ?_)
    · refine ja_iconst O (q := 27) (v := 0) jd_H_isOpen_26 rfl (by decide) ?_
      exact jo_zr O hr hk (by first | assumption | exact Or.inl rfl | exact Or.inr rfl) ⟨rfl, by decide, iff_of_false (by decide) (fun ⟨i, hi, e, ne⟩ => ne (by rw [show i = j from ((nI_eq (by omega) (by omega)).mp e).symm]; exact h_19))⟩ jd_H_isOpen_27
    · refine ja_iconst O (q := 23) (v := 1) jd_H_isOpen_22 rfl (by decide) ?_
      refine ja_goto O (g := 27) jd_H_isOpen_23 (by decide) ?_
      exact jo_zr O hr hk (by first | assumption | exact Or.inl rfl | exact Or.inr rfl) ⟨rfl, by decide, iff_of_true rfl ⟨j, hj8, rfl, h_19⟩⟩ jd_H_isOpen_27
set_option maxRecDepth 100000 in
theorem co_H_openAccount {l : Launch} {s0 : State} {a0 : Array Value} {G : jb_Gt} {ad : Nat → Nat} (K : jo_G s0 a0 G ad) {S : ja_S} (j : Nat) (hj : j < 8) (a b : Int32) : jo_C l s0 G ad jy_H_openAccount jc_H_openAccount 5 none 1 [.ref (ad 1), .int (nI j), .int a, .int b] S (jo_v fun S' => S' = jb_u (jb_u (jb_u (jb_u S 11 j 1) 12 j a) 13 j b) 14 j b) := by
  refine jo_of K (by decide) rfl (Nat.le_of_ble_eq_true rfl) ?_
  intro p e s m args below meth c O hr hk
  refine ja_aload_n O (q := 1) jd_H_openAccount_0 rfl rfl rfl ?_
  refine jg_H_11 O (q := 4) jd_H_openAccount_1 rfl ?_
  refine ja_iload_n O (q := 5) jd_H_openAccount_4 rfl rfl rfl ?_
  refine jl_8 O  rfl (by first | assumption | omega) (q := 6) jd_H_openAccount_5 rfl ?_
  refine ja_astore O (q := 8) jd_H_openAccount_6 rfl (by decide) ?_
  refine ja_aload O (q := 10) jd_H_openAccount_8 rfl rfl ?_
  refine ja_iconst O (q := 11) (v := 1) jd_H_openAccount_10 rfl (by decide) ?_
  refine jp_H_33 O (by first | assumption | omega) (by first | assumption | exact Or.inl rfl | exact Or.inr rfl) (q := 14) jd_H_openAccount_11 rfl ?_
  refine ja_aload O (q := 16) jd_H_openAccount_14 rfl rfl ?_
  refine ja_iload_n O (q := 17) jd_H_openAccount_16 rfl rfl rfl ?_
  refine jp_H_37 O (by first | assumption | omega) (q := 20) jd_H_openAccount_17 rfl ?_
  refine ja_aload O (q := 22) jd_H_openAccount_20 rfl rfl ?_
  refine ja_iload_n O (q := 23) jd_H_openAccount_22 rfl rfl rfl ?_
  refine jp_H_41 O (by first | assumption | omega) (q := 26) jd_H_openAccount_23 rfl ?_
  refine ja_aload O (q := 28) jd_H_openAccount_26 rfl rfl ?_
  refine ja_iload_n O (q := 29) jd_H_openAccount_28 rfl rfl rfl ?_
  refine jp_H_44 O (by first | assumption | omega) (q := 32) jd_H_openAccount_29 rfl ?_
  exact jo_vr O hr hk rfl jd_H_openAccount_32
set_option maxRecDepth 100000 in
theorem co_H_openAccounts {l : Launch} {s0 : State} {a0 : Array Value} {G : jb_Gt} {ad : Nat → Nat} (K : jo_G s0 a0 G ad) {S : ja_S}  : jo_C l s0 G ad jy_H_openAccounts jc_H_openAccounts 6 (some .int) 1 [.ref (ad 1)] S (jo_i fun r S' => S' = S ∧ r = jp_ct (S 11) 8) := by
  refine jo_of K (by decide) rfl (Nat.le_of_ble_eq_true rfl) ?_
  intro p e s m args below meth c O hr hk
  have loop : ∀ (n : Nat) (i : Nat), i ≤ 8 → 8 < i + n → ja_V p l e (jo_r 1) s m args below meth c (jb_W G ad) s0.heap.size 6 0 0 (jo_M s0 G ad below args s (jo_i fun r S' => S' = S ∧ r = jp_ct (S 11) 8)) (S) 13 [(0, .ref (ad 1)), (1, .int (jp_ct (S 11) i)), (2, .ref (ad 8)), (3, .int (nI 8)), (4, .int (nI i))] [] := by
    intro n
    induction n with
    | zero => intro i hi hn; exact absurd hn (by omega)
    | succ n ih =>
      intro i hi hn
      refine ja_iload O (q := 15) jd_H_openAccounts_13 rfl rfl ?_
      refine ja_iload_n O (q := 16) jd_H_openAccounts_15 rfl rfl rfl ?_
      refine ja_icmp_ge O (g := 47) (q := 19) jd_H_openAccounts_16 (by decide) rfl (fun h_16 => ?_) (fun h_16 => ?_)
      · have hi8 : i = 8 := by
          rcases Nat.lt_or_ge i 8 with z | z
          · exact absurd h_16 (nI_ge z (by omega))
          · omega
        subst hi8
        refine ja_iload_n O (q := 48) jd_H_openAccounts_47 rfl rfl rfl ?_
        exact jo_ir O hr hk ⟨rfl, rfl⟩ jd_H_openAccounts_48
      · have hi8 : i < 8 := by
          rcases Nat.lt_or_ge i 8 with z | z
          · exact z
          · exact absurd (nI_le z (by omega)) h_16
        refine ja_aload_n O (q := 20) jd_H_openAccounts_19 rfl rfl rfl ?_
        refine ja_iload O (q := 22) jd_H_openAccounts_20 rfl rfl ?_
        refine jl_8 O (k := i) rfl (by first | assumption | omega) (q := 23) jd_H_openAccounts_22 rfl ?_
        refine ja_astore O (q := 25) jd_H_openAccounts_23 rfl (by decide) ?_
        refine ja_iload_n O (q := 26) jd_H_openAccounts_25 rfl rfl rfl ?_
        refine ja_aload O (q := 28) jd_H_openAccounts_26 rfl rfl ?_
        refine jg_H_33 O (by first | assumption | omega) (q := 31) jd_H_openAccounts_28 rfl ?_
        refine ja_if_eq O (g := 38) (q := 34) jd_H_openAccounts_31 (by decide) rfl (fun h_31 => ?_) (fun h_31 => ?_)
        · refine ja_iconst O (q := 39) (v := 0) jd_H_openAccounts_38 rfl (by decide) ?_
          refine ja_iadd O (q := 40) jd_H_openAccounts_39 rfl ?_
          refine ja_istore_n O (q := 41) jd_H_openAccounts_40 rfl rfl (by decide) ?_
          refine ja_iinc O (q := 44) (v := nI (i + 1)) jd_H_openAccounts_41 rfl rfl (nI_1 i) (by decide) ?_
          refine ja_goto O (g := 13) jd_H_openAccounts_44 (by decide) ?_
          refine ja_less (L' := [(0, .ref (ad 1)), (1, .int (jp_ct (S 11) (i + 1))), (2, .ref (ad 8)), (3, .int (nI 8)), (4, .int (nI (i + 1)))]) ⟨rfl, by simp [ja_lk, jp_ct, h_31], rfl, rfl, rfl, trivial⟩ ?_
          exact ih (i + 1) (by omega) (by omega)
        · refine ja_iconst O (q := 35) (v := 1) jd_H_openAccounts_34 rfl (by decide) ?_
          refine ja_goto O (g := 39) jd_H_openAccounts_35 (by decide) ?_
          refine ja_iadd O (q := 40) jd_H_openAccounts_39 rfl ?_
          refine ja_istore_n O (q := 41) jd_H_openAccounts_40 rfl rfl (by decide) ?_
          refine ja_iinc O (q := 44) (v := nI (i + 1)) jd_H_openAccounts_41 rfl rfl (nI_1 i) (by decide) ?_
          refine ja_goto O (g := 13) jd_H_openAccounts_44 (by decide) ?_
          refine ja_less (L' := [(0, .ref (ad 1)), (1, .int (jp_ct (S 11) (i + 1))), (2, .ref (ad 8)), (3, .int (nI 8)), (4, .int (nI (i + 1)))]) ⟨rfl, by simp [ja_lk, jp_ct, h_31], rfl, rfl, rfl, trivial⟩ ?_
          exact ih (i + 1) (by omega) (by omega)
  refine ja_iconst O (q := 1) (v := 0) jd_H_openAccounts_0 rfl (by decide) ?_
  refine ja_istore_n O (q := 2) jd_H_openAccounts_1 rfl rfl (by decide) ?_
  refine ja_aload_n O (q := 3) jd_H_openAccounts_2 rfl rfl rfl ?_
  refine jg_H_11 O (q := 6) jd_H_openAccounts_3 rfl ?_
  refine ja_astore_n O (q := 7) jd_H_openAccounts_6 rfl rfl (by decide) ?_
  refine ja_aload_n O (q := 8) jd_H_openAccounts_7 rfl rfl rfl ?_
  refine jn_8 O (q := 9) jd_H_openAccounts_8 rfl ?_
  refine ja_istore_n O (q := 10) jd_H_openAccounts_9 rfl rfl (by decide) ?_
  refine ja_iconst O (q := 11) (v := 0) jd_H_openAccounts_10 rfl (by decide) ?_
  refine ja_istore O (q := 13) jd_H_openAccounts_11 rfl (by decide) ?_
  refine ja_less (L' := [(0, .ref (ad 1)), (1, .int (jp_ct (S 11) 0)), (2, .ref (ad 8)), (3, .int (nI 8)), (4, .int (nI 0))]) ⟨rfl, rfl, rfl, rfl, rfl, trivial⟩ ?_
  exact loop 9 0 (by omega) (by omega)
set_option maxRecDepth 100000 in
theorem co_H_blockedAccounts {l : Launch} {s0 : State} {a0 : Array Value} {G : jb_Gt} {ad : Nat → Nat} (K : jo_G s0 a0 G ad) {S : ja_S}  : jo_C l s0 G ad jy_H_blockedAccounts jc_H_blockedAccounts 6 (some .int) 1 [.ref (ad 1)] S (jo_i fun r S' => S' = S ∧ r = jp_ct (S 16) 8) := by
  refine jo_of K (by decide) rfl (Nat.le_of_ble_eq_true rfl) ?_
  intro p e s m args below meth c O hr hk
  have loop : ∀ (n : Nat) (i : Nat), i ≤ 8 → 8 < i + n → ja_V p l e (jo_r 1) s m args below meth c (jb_W G ad) s0.heap.size 6 0 0 (jo_M s0 G ad below args s (jo_i fun r S' => S' = S ∧ r = jp_ct (S 16) 8)) (S) 13 [(0, .ref (ad 1)), (1, .int (jp_ct (S 16) i)), (2, .ref (ad 8)), (3, .int (nI 8)), (4, .int (nI i))] [] := by
    intro n
    induction n with
    | zero => intro i hi hn; exact absurd hn (by omega)
    | succ n ih =>
      intro i hi hn
      refine ja_iload O (q := 15) jd_H_blockedAccounts_13 rfl rfl ?_
      refine ja_iload_n O (q := 16) jd_H_blockedAccounts_15 rfl rfl rfl ?_
      refine ja_icmp_ge O (g := 47) (q := 19) jd_H_blockedAccounts_16 (by decide) rfl (fun h_16 => ?_) (fun h_16 => ?_)
      · have hi8 : i = 8 := by
          rcases Nat.lt_or_ge i 8 with z | z
          · exact absurd h_16 (nI_ge z (by omega))
          · omega
        subst hi8
        refine ja_iload_n O (q := 48) jd_H_blockedAccounts_47 rfl rfl rfl ?_
        exact jo_ir O hr hk ⟨rfl, rfl⟩ jd_H_blockedAccounts_48
      · have hi8 : i < 8 := by
          rcases Nat.lt_or_ge i 8 with z | z
          · exact z
          · exact absurd (nI_le z (by omega)) h_16
        refine ja_aload_n O (q := 20) jd_H_blockedAccounts_19 rfl rfl rfl ?_
        refine ja_iload O (q := 22) jd_H_blockedAccounts_20 rfl rfl ?_
        refine jl_8 O (k := i) rfl (by first | assumption | omega) (q := 23) jd_H_blockedAccounts_22 rfl ?_
        refine ja_astore O (q := 25) jd_H_blockedAccounts_23 rfl (by decide) ?_
        refine ja_iload_n O (q := 26) jd_H_blockedAccounts_25 rfl rfl rfl ?_
        refine ja_aload O (q := 28) jd_H_blockedAccounts_26 rfl rfl ?_
        refine jg_H_51 O (by first | assumption | omega) (q := 31) jd_H_blockedAccounts_28 rfl ?_
        refine ja_if_eq O (g := 38) (q := 34) jd_H_blockedAccounts_31 (by decide) rfl (fun h_31 => ?_) (fun h_31 => ?_)
        · refine ja_iconst O (q := 39) (v := 0) jd_H_blockedAccounts_38 rfl (by decide) ?_
          refine ja_iadd O (q := 40) jd_H_blockedAccounts_39 rfl ?_
          refine ja_istore_n O (q := 41) jd_H_blockedAccounts_40 rfl rfl (by decide) ?_
          refine ja_iinc O (q := 44) (v := nI (i + 1)) jd_H_blockedAccounts_41 rfl rfl (nI_1 i) (by decide) ?_
          refine ja_goto O (g := 13) jd_H_blockedAccounts_44 (by decide) ?_
          refine ja_less (L' := [(0, .ref (ad 1)), (1, .int (jp_ct (S 16) (i + 1))), (2, .ref (ad 8)), (3, .int (nI 8)), (4, .int (nI (i + 1)))]) ⟨rfl, by simp [ja_lk, jp_ct, h_31], rfl, rfl, rfl, trivial⟩ ?_
          exact ih (i + 1) (by omega) (by omega)
        · refine ja_iconst O (q := 35) (v := 1) jd_H_blockedAccounts_34 rfl (by decide) ?_
          refine ja_goto O (g := 39) jd_H_blockedAccounts_35 (by decide) ?_
          refine ja_iadd O (q := 40) jd_H_blockedAccounts_39 rfl ?_
          refine ja_istore_n O (q := 41) jd_H_blockedAccounts_40 rfl rfl (by decide) ?_
          refine ja_iinc O (q := 44) (v := nI (i + 1)) jd_H_blockedAccounts_41 rfl rfl (nI_1 i) (by decide) ?_
          refine ja_goto O (g := 13) jd_H_blockedAccounts_44 (by decide) ?_
          refine ja_less (L' := [(0, .ref (ad 1)), (1, .int (jp_ct (S 16) (i + 1))), (2, .ref (ad 8)), (3, .int (nI 8)), (4, .int (nI (i + 1)))]) ⟨rfl, by simp [ja_lk, jp_ct, h_31], rfl, rfl, rfl, trivial⟩ ?_
          exact ih (i + 1) (by omega) (by omega)
  refine ja_iconst O (q := 1) (v := 0) jd_H_blockedAccounts_0 rfl (by decide) ?_
  refine ja_istore_n O (q := 2) jd_H_blockedAccounts_1 rfl rfl (by decide) ?_
  refine ja_aload_n O (q := 3) jd_H_blockedAccounts_2 rfl rfl rfl ?_
  refine jg_H_11 O (q := 6) jd_H_blockedAccounts_3 rfl ?_
  refine ja_astore_n O (q := 7) jd_H_blockedAccounts_6 rfl rfl (by decide) ?_
  refine ja_aload_n O (q := 8) jd_H_blockedAccounts_7 rfl rfl rfl ?_
  refine jn_8 O (q := 9) jd_H_blockedAccounts_8 rfl ?_
  refine ja_istore_n O (q := 10) jd_H_blockedAccounts_9 rfl rfl (by decide) ?_
  refine ja_iconst O (q := 11) (v := 0) jd_H_blockedAccounts_10 rfl (by decide) ?_
  refine ja_istore O (q := 13) jd_H_blockedAccounts_11 rfl (by decide) ?_
  refine ja_less (L' := [(0, .ref (ad 1)), (1, .int (jp_ct (S 16) 0)), (2, .ref (ad 8)), (3, .int (nI 8)), (4, .int (nI 0))]) ⟨rfl, rfl, rfl, rfl, rfl, trivial⟩ ?_
  exact loop 9 0 (by omega) (by omega)
set_option maxRecDepth 100000 in
theorem co_A_tryPin {l : Launch} {s0 : State} {a0 : Array Value} {G : jb_Gt} {ad : Nat → Nat} (K : jo_G s0 a0 G ad) {S : ja_S} (j : Nat) (hj : j < 8) (x : Int32) : jo_C l s0 G ad jy_A_tryPin jc_A_tryPin 2 (some .boolean) 1 [.ref (ad (38 + j)), .int x] S (jo_i fun r S' => (x = S 12 j ∧ r = 1 ∧ S' = jb_u S 15 j 3) ∨ (x ≠ S 12 j ∧ r = 0 ∧ S' = jb_u (jb_u S 15 j (S 15 j - 1)) 16 j (if 0 < S 15 j - 1 then 0 else 1))) := by
  refine jo_of K (by decide) rfl (Nat.le_of_ble_eq_true rfl) ?_
  intro p e s m args below meth c O hr hk
  refine ja_iload_n O (q := 1) jd_A_tryPin_0 rfl rfl rfl ?_
  refine ja_aload_n O (q := 2) jd_A_tryPin_1 rfl rfl rfl ?_
  refine jg_A_15 O (by first | assumption | omega) (q := 5) jd_A_tryPin_2 rfl ?_
  refine ja_icmp_ne O (g := 15) (q := 8) jd_A_tryPin_5 (by decide) rfl (fun h_5 => ?_) (fun h_5 => ?_)
  · refine ja_aload_n O (q := 16) jd_A_tryPin_15 rfl rfl rfl ?_
    refine ja_dup O (q := 17) jd_A_tryPin_16 rfl rfl ?_
    refine jg_A_25 O (by first | assumption | omega) (q := 20) jd_A_tryPin_17 rfl ?_
    refine ja_iconst O (q := 21) (v := 1) jd_A_tryPin_20 rfl (by decide) ?_
    refine ja_isub O (q := 22) jd_A_tryPin_21 rfl ?_
    refine jp_A_25 O (by first | assumption | omega) (q := 25) jd_A_tryPin_22 rfl ?_
    refine ja_aload_n O (q := 26) jd_A_tryPin_25 rfl rfl rfl ?_
    refine ja_aload_n O (q := 27) jd_A_tryPin_26 rfl rfl rfl ?_
    refine jg_A_25 O (by first | assumption | omega) (q := 30) jd_A_tryPin_27 rfl ?_
    refine ja_if_gt O (g := 37) (q := 33) jd_A_tryPin_30 (by decide) rfl (fun h_30 => ?_) (fun h_30 => ?_)
    · refine ja_iconst O (q := 38) (v := 0) jd_A_tryPin_37 rfl (by decide) ?_
      refine jp_A_28 O (by first | assumption | omega) (by first | assumption | exact Or.inl rfl | exact Or.inr rfl) (q := 41) jd_A_tryPin_38 rfl ?_
      refine ja_iconst O (q := 42) (v := 0) jd_A_tryPin_41 rfl (by decide) ?_
      exact jo_zr O hr hk (by first | assumption | exact Or.inl rfl | exact Or.inr rfl) (Or.inr ⟨h_5, rfl, by rw [jb_us] at h_30; first | rw [if_pos h_30] | rw [if_neg h_30]⟩) jd_A_tryPin_42
    · refine ja_iconst O (q := 34) (v := 1) jd_A_tryPin_33 rfl (by decide) ?_
      refine ja_goto O (g := 38) jd_A_tryPin_34 (by decide) ?_
      refine jp_A_28 O (by first | assumption | omega) (by first | assumption | exact Or.inl rfl | exact Or.inr rfl) (q := 41) jd_A_tryPin_38 rfl ?_
      refine ja_iconst O (q := 42) (v := 0) jd_A_tryPin_41 rfl (by decide) ?_
      exact jo_zr O hr hk (by first | assumption | exact Or.inl rfl | exact Or.inr rfl) (Or.inr ⟨h_5, rfl, by rw [jb_us] at h_30; first | rw [if_pos h_30] | rw [if_neg h_30]⟩) jd_A_tryPin_42
  · refine ja_aload_n O (q := 9) jd_A_tryPin_8 rfl rfl rfl ?_
    refine ja_iconst O (q := 10) (v := 3) jd_A_tryPin_9 rfl (by decide) ?_
    refine jp_A_25 O (by first | assumption | omega) (q := 13) jd_A_tryPin_10 rfl ?_
    refine ja_iconst O (q := 14) (v := 1) jd_A_tryPin_13 rfl (by decide) ?_
    exact jo_zr O hr hk (by first | assumption | exact Or.inl rfl | exact Or.inr rfl) (Or.inl ⟨h_5, rfl, rfl⟩) jd_A_tryPin_14
set_option maxRecDepth 100000 in
theorem co_N_add {l : Launch} {s0 : State} {a0 : Array Value} {G : jb_Gt} {ad : Nat → Nat} (K : jo_G s0 a0 G ad) {S : ja_S} (n : Nat) (hn : n < 8) (h4 : S 4 0 = nI n) (x : Int32) : jo_C l s0 G ad jy_N_add jc_N_add 2 none 1 [.ref (ad 2), .int x] S (jo_v fun S' => S' = jb_u (jb_u S 27 n x) 4 0 (nI (n + 1))) := by
  refine jo_of K (by decide) rfl (Nat.le_of_ble_eq_true rfl) ?_
  intro p e s m args below meth c O hr hk
  refine ja_aload_n O (q := 1) jd_N_add_0 rfl rfl rfl ?_
  refine jg_N_9 O (q := 4) jd_N_add_1 rfl ?_
  refine ja_aload_n O (q := 5) jd_N_add_4 rfl rfl rfl ?_
  refine jg_N_15 O (q := 8) jd_N_add_5 rfl ?_
  refine ja_iload_n O (q := 9) jd_N_add_8 rfl rfl rfl ?_
  refine js_12 O (k := n) h4 (by first | assumption | omega) (q := 10) jd_N_add_9 rfl ?_
  refine ja_aload_n O (q := 11) jd_N_add_10 rfl rfl rfl ?_
  refine ja_dup O (q := 12) jd_N_add_11 rfl rfl ?_
  refine jg_N_15 O (q := 15) jd_N_add_12 rfl ?_
  refine ja_iconst O (q := 16) (v := 1) jd_N_add_15 rfl (by decide) ?_
  refine ja_iadd O (q := 17) jd_N_add_16 rfl ?_
  refine jp_N_15 O (q := 20) jd_N_add_17 rfl ?_
  exact jo_vr O hr hk (by show jb_u _ 4 0 (S 4 0 + 1) = _; rw [h4, nI_1]) jd_N_add_20
set_option maxRecDepth 100000 in
theorem co_R_add {l : Launch} {s0 : State} {a0 : Array Value} {G : jb_Gt} {ad : Nat → Nat} (K : jo_G s0 a0 G ad) {S : ja_S} (k : Nat) (hk9 : k < 40) (h10 : S 10 0 = nI k) (t x : Int32) : jo_C l s0 G ad jy_R_add jc_R_add 3 none 1 [.ref (ad 5), .int t, .int x] S (jo_v fun S' => S' = jb_u (jb_u (jb_u S 30 k t) 31 k x) 10 0 (nI (k + 1))) := by
  refine jo_of K (by decide) rfl (Nat.le_of_ble_eq_true rfl) ?_
  intro p e s m args below meth c O hr hk
  refine ja_aload_n O (q := 1) jd_R_add_0 rfl rfl rfl ?_
  refine jg_R_18 O (q := 4) jd_R_add_1 rfl ?_
  refine ja_bipush O (q := 6) (v := 40) jd_R_add_4 rfl (by decide) ?_
  refine ja_icmp_ge O (g := 39) (q := 9) jd_R_add_6 (by decide) rfl (fun h_6 => absurd h_6 (by rw [h10]; exact nI_ge (b := 40) hk9 (by omega))) (fun h_6 => ?_)
  refine ja_aload_n O (q := 10) jd_R_add_9 rfl rfl rfl ?_
  refine jg_R_9 O (q := 13) jd_R_add_10 rfl ?_
  refine ja_aload_n O (q := 14) jd_R_add_13 rfl rfl rfl ?_
  refine jg_R_18 O (q := 17) jd_R_add_14 rfl ?_
  refine ja_iload_n O (q := 18) jd_R_add_17 rfl rfl rfl ?_
  refine js_17 O (k := k) h10 (by first | assumption | omega) (q := 19) jd_R_add_18 rfl ?_
  refine ja_aload_n O (q := 20) jd_R_add_19 rfl rfl rfl ?_
  refine jg_R_15 O (q := 23) jd_R_add_20 rfl ?_
  refine ja_aload_n O (q := 24) jd_R_add_23 rfl rfl rfl ?_
  refine jg_R_18 O (q := 27) jd_R_add_24 rfl ?_
  refine ja_iload_n O (q := 28) jd_R_add_27 rfl rfl rfl ?_
  refine js_18 O (k := k) h10 (by first | assumption | omega) (q := 29) jd_R_add_28 rfl ?_
  refine ja_aload_n O (q := 30) jd_R_add_29 rfl rfl rfl ?_
  refine ja_dup O (q := 31) jd_R_add_30 rfl rfl ?_
  refine jg_R_18 O (q := 34) jd_R_add_31 rfl ?_
  refine ja_iconst O (q := 35) (v := 1) jd_R_add_34 rfl (by decide) ?_
  refine ja_iadd O (q := 36) jd_R_add_35 rfl ?_
  refine jp_R_18 O (q := 39) jd_R_add_36 rfl ?_
  exact jo_vr O hr hk (by show jb_u _ 10 0 (S 10 0 + 1) = _; rw [h10, nI_1]) jd_R_add_39
set_option maxRecDepth 100000 in
theorem co_D_exchangeNotes {l : Launch} {s0 : State} {a0 : Array Value} {G : jb_Gt} {ad : Nat → Nat} (K : jo_G s0 a0 G ad) {S : ja_S} (j : Nat) (hj : j < 4) (v x : Int32) : jo_C l s0 G ad jy_D_exchangeNotes jc_D_exchangeNotes 6 (some .int) 1 [.ref (ad 3), .int (nI j), .int v, .int x] S (jo_i fun r S' => r = S 17 j * S 18 j ∧ S' = jb_u (jb_u S 17 j v) 18 j x) := by
  refine jo_of K (by decide) rfl (Nat.le_of_ble_eq_true rfl) ?_
  intro p e s m args below meth c O hr hk
  refine ja_aload_n O (q := 1) jd_D_exchangeNotes_0 rfl rfl rfl ?_
  refine jg_D_11 O (q := 4) jd_D_exchangeNotes_1 rfl ?_
  refine ja_iload_n O (q := 5) jd_D_exchangeNotes_4 rfl rfl rfl ?_
  refine jl_13 O  rfl (by first | assumption | omega) (q := 6) jd_D_exchangeNotes_5 rfl ?_
  refine ja_astore O (q := 8) jd_D_exchangeNotes_6 rfl (by decide) ?_
  refine ja_aload O (q := 10) jd_D_exchangeNotes_8 rfl rfl ?_
  refine jg_D_38 O (by first | assumption | omega) (q := 13) jd_D_exchangeNotes_10 rfl ?_
  refine ja_aload O (q := 15) jd_D_exchangeNotes_13 rfl rfl ?_
  refine jg_D_41 O (by first | assumption | omega) (q := 18) jd_D_exchangeNotes_15 rfl ?_
  refine ja_imul O (q := 19) jd_D_exchangeNotes_18 rfl ?_
  refine ja_istore O (q := 21) jd_D_exchangeNotes_19 rfl (by decide) ?_
  refine ja_aload O (q := 23) jd_D_exchangeNotes_21 rfl rfl ?_
  refine ja_iload_n O (q := 24) jd_D_exchangeNotes_23 rfl rfl rfl ?_
  refine jp_D_38 O (by first | assumption | omega) (q := 27) jd_D_exchangeNotes_24 rfl ?_
  refine ja_aload O (q := 29) jd_D_exchangeNotes_27 rfl rfl ?_
  refine ja_iload_n O (q := 30) jd_D_exchangeNotes_29 rfl rfl rfl ?_
  refine jp_D_41 O (by first | assumption | omega) (q := 33) jd_D_exchangeNotes_30 rfl ?_
  refine ja_iload O (q := 35) jd_D_exchangeNotes_33 rfl rfl ?_
  exact jo_ir O hr hk ⟨rfl, rfl⟩ jd_D_exchangeNotes_35
set_option maxRecDepth 100000 in
theorem co_J_begin {l : Launch} {s0 : State} {a0 : Array Value} {G : jb_Gt} {ad : Nat → Nat} (K : jo_G s0 a0 G ad) {S : ja_S} (t : Nat) (ht : t < 40) (h9 : S 9 0 = nI t) (x y : Int32) : jo_C l s0 G ad jy_J_begin jc_J_begin 4 (some (.object "CashMachine$Entry")) 1 [.ref (ad 4), .int x, .int y] S (jo_a fun r S' => r = ad (50 + t) ∧ S' = jb_u (jb_u (jb_u (jb_u S 9 0 (nI (t + 1))) 20 t x) 21 t y) 22 t 1) := by
  refine jo_of K (by decide) rfl (Nat.le_of_ble_eq_true rfl) ?_
  intro p e s m args below meth c O hr hk
  refine ja_aload_n O (q := 1) jd_J_begin_0 rfl rfl rfl ?_
  refine jg_J_11 O (q := 4) jd_J_begin_1 rfl ?_
  refine ja_aload_n O (q := 5) jd_J_begin_4 rfl rfl rfl ?_
  refine jg_J_17 O (q := 8) jd_J_begin_5 rfl ?_
  refine jl_16 O (k := t) h9 (by first | assumption | omega) (q := 9) jd_J_begin_8 rfl ?_
  refine ja_astore_n O (q := 10) jd_J_begin_9 rfl rfl (by decide) ?_
  refine ja_aload_n O (q := 11) jd_J_begin_10 rfl rfl rfl ?_
  refine ja_dup O (q := 12) jd_J_begin_11 rfl rfl ?_
  refine jg_J_17 O (q := 15) jd_J_begin_12 rfl ?_
  refine ja_iconst O (q := 16) (v := 1) jd_J_begin_15 rfl (by decide) ?_
  refine ja_iadd O (q := 17) jd_J_begin_16 rfl ?_
  refine jp_J_17 O (q := 20) jd_J_begin_17 rfl ?_
  refine ja_aload_n O (q := 21) jd_J_begin_20 rfl rfl rfl ?_
  refine ja_iload_n O (q := 22) jd_J_begin_21 rfl rfl rfl ?_
  refine jp_J_24 O (by first | assumption | omega) (q := 25) jd_J_begin_22 rfl ?_
  refine ja_aload_n O (q := 26) jd_J_begin_25 rfl rfl rfl ?_
  refine ja_iload_n O (q := 27) jd_J_begin_26 rfl rfl rfl ?_
  refine jp_J_27 O (by first | assumption | omega) (q := 30) jd_J_begin_27 rfl ?_
  refine ja_aload_n O (q := 31) jd_J_begin_30 rfl rfl rfl ?_
  refine ja_iconst O (q := 32) (v := 1) jd_J_begin_31 rfl (by decide) ?_
  refine jp_J_30 O (by first | assumption | omega) (q := 35) jd_J_begin_32 rfl ?_
  refine ja_aload_n O (q := 36) jd_J_begin_35 rfl rfl rfl ?_
  exact jo_ar O hr hk (Or.inl ⟨_, rfl⟩) ⟨rfl, by rw [show S 9 0 + 1 = nI (t + 1) by rw [h9, nI_1]]⟩ jd_J_begin_36
set_option maxRecDepth 100000 in
theorem co_J_last {l : Launch} {s0 : State} {a0 : Array Value} {G : jb_Gt} {ad : Nat → Nat} (K : jo_G s0 a0 G ad) {S : ja_S} (t : Nat) (ht : t < 40) (h9 : S 9 0 = nI (t + 1)) : jo_C l s0 G ad jy_J_last jc_J_last 1 (some (.object "CashMachine$Entry")) 1 [.ref (ad 4)] S (jo_a fun r S' => r = ad (50 + t) ∧ S' = S) := by
  refine jo_of K (by decide) rfl (Nat.le_of_ble_eq_true rfl) ?_
  intro p e s m args below meth c O hr hk
  refine ja_aload_n O (q := 1) jd_J_last_0 rfl rfl rfl ?_
  refine jg_J_11 O (q := 4) jd_J_last_1 rfl ?_
  refine ja_aload_n O (q := 5) jd_J_last_4 rfl rfl rfl ?_
  refine jg_J_17 O (q := 8) jd_J_last_5 rfl ?_
  refine ja_iconst O (q := 9) (v := 1) jd_J_last_8 rfl (by decide) ?_
  refine ja_isub O (q := 10) jd_J_last_9 rfl ?_
  refine jl_16 O (k := t) (by rw [h9]; exact nI_pred t) (by first | assumption | omega) (q := 11) jd_J_last_10 rfl ?_
  exact jo_ar O hr hk (Or.inl ⟨_, rfl⟩) ⟨rfl, rfl⟩ jd_J_last_11
set_option maxRecDepth 100000 in
theorem co_N_takeFirst {l : Launch} {s0 : State} {a0 : Array Value} {G : jb_Gt} {ad : Nat → Nat} (K : jo_G s0 a0 G ad) {S : ja_S} (n : Nat) (hn : n ≤ 8) (h4 : S 4 0 = nI n) : jo_C l s0 G ad jy_N_takeFirst jc_N_takeFirst 2 (some .int) 2 [.ref (ad 2)] S (jo_i fun r S' => (n = 0 ∧ r = 0 ∧ S' = S) ∨ (0 < n ∧ r = S 27 0 ∧ S' = jb_sv (jb_u S 4 0 (nI (n - 1))) 27 (va_cpy (S 27) (S 27) 1 0 (n - 1)))) := by
  refine jo_of K (by decide) rfl (Nat.le_of_ble_eq_true rfl) ?_
  intro p e s m args below meth c O hr hk
  refine ja_aload_n O (q := 1) jd_N_takeFirst_0 rfl rfl rfl ?_
  refine jg_N_15 O (q := 4) jd_N_takeFirst_1 rfl ?_
  refine ja_if_ne O (g := 9) (q := 7) jd_N_takeFirst_4 (by decide) rfl (fun h_4 => ?_) (fun h_4 => ?_)
  · have hn0 : 0 < n := Nat.pos_of_ne_zero (fun q => h_4 (by rw [h4, q]; rfl))
    refine ja_aload_n O (q := 10) jd_N_takeFirst_9 rfl rfl rfl ?_
    refine jg_N_9 O (q := 13) jd_N_takeFirst_10 rfl ?_
    refine ja_iconst O (q := 14) (v := 0) jd_N_takeFirst_13 rfl (by decide) ?_
    refine jl_12 O (k := 0) rfl (by first | assumption | omega) (q := 15) jd_N_takeFirst_14 rfl ?_
    refine ja_istore_n O (q := 16) jd_N_takeFirst_15 rfl rfl (by decide) ?_
    refine ja_aload_n O (q := 17) jd_N_takeFirst_16 rfl rfl rfl ?_
    refine ja_dup O (q := 18) jd_N_takeFirst_17 rfl rfl ?_
    refine jg_N_15 O (q := 21) jd_N_takeFirst_18 rfl ?_
    refine ja_iconst O (q := 22) (v := 1) jd_N_takeFirst_21 rfl (by decide) ?_
    refine ja_isub O (q := 23) jd_N_takeFirst_22 rfl ?_
    refine jp_N_15 O (q := 26) jd_N_takeFirst_23 rfl ?_
    refine ja_aload_n O (q := 27) jd_N_takeFirst_26 rfl rfl rfl ?_
    refine jg_N_9 O (q := 30) jd_N_takeFirst_27 rfl ?_
    refine ja_iconst O (q := 31) (v := 1) jd_N_takeFirst_30 rfl (by decide) ?_
    refine ja_aload_n O (q := 32) jd_N_takeFirst_31 rfl rfl rfl ?_
    refine jg_N_9 O (q := 35) jd_N_takeFirst_32 rfl ?_
    refine ja_iconst O (q := 36) (v := 0) jd_N_takeFirst_35 rfl (by decide) ?_
    refine ja_aload_n O (q := 37) jd_N_takeFirst_36 rfl rfl rfl ?_
    refine jg_N_15 O (q := 40) jd_N_takeFirst_37 rfl ?_
    refine jcp_12 O (a := 1) (b := 0) (k := n - 1) rfl rfl (show S 4 0 - 1 = nI (n - 1) by rw [h4]; exact jp_m1 hn0) (by omega) (by omega) ⟨by decide, by decide⟩ (q := 43) jd_N_takeFirst_40 rfl ?_
    refine ja_iload_n O (q := 44) jd_N_takeFirst_43 rfl rfl rfl ?_
    exact jo_ir O hr hk (Or.inr ⟨hn0, rfl, by rw [show S 4 0 - 1 = nI (n - 1) by rw [h4]; exact jp_m1 hn0]; rfl⟩) jd_N_takeFirst_44
  · refine ja_iconst O (q := 8) (v := 0) jd_N_takeFirst_7 rfl (by decide) ?_
    exact jo_ir O hr hk (Or.inl ⟨by rw [h4] at h_4; exact (nI_eq (by omega) (by decide)).mp h_4, rfl, rfl⟩) jd_N_takeFirst_8
end
section
/-! CONTRACTS of the class, by program (wip/whole/gen/p11.py): host, line, journal. The steps as functions of the state. -/
def cf_end (C : ja_S) : ja_S := jb_u (jb_u C 1 0 (-1)) 2 0 0
def cf_fail (C : ja_S) (p : Int32) : Int32 × ja_S := if C 3 0 = p then (1, cf_end (jb_u (jb_u C 3 0 0) 0 0 0)) else (0, C)
def cf_fate (C : ja_S) : Int32 × ja_S := if C 4 0 = 0 then (0, C) else (C 27 0, jb_sv (jb_u C 4 0 (C 4 0 - 1)) 27 (va_cpy (C 27) (C 27) 1 0 ((C 4 0).toNatClampNeg - 1)))
def cf_dec (C : ja_S) (t j : Nat) (x : Int32) : Int32 × ja_S := if C 26 t = 0 ∧ C 16 j = 0 ∧ x ≤ C 14 j then (2, jb_u C 14 j (C 14 j - x)) else (-1, C)
def cf_rq (C : ja_S) (t j : Nat) (x : Int32) : ja_S := if C 24 t = 0 then jb_u (jb_u (cf_dec C t j x).2 24 t (cf_dec C t j x).1) 25 t (nI j) else C
def cf_req (C : ja_S) (t j : Nat) (x : Int32) : Int32 × ja_S := (if cf_rq C t j x 24 t = 2 then 1 else 0, cf_rq C t j x)
def cf_rev (C : ja_S) (t : Nat) (x : Int32) : ja_S := jb_u (if C 26 t = 0 ∧ C 24 t = 2 then jb_u C 14 (C 25 t).toNatClampNeg (C 14 (C 25 t).toNatClampNeg + x) else C) 26 t 1
def cf_owe (C : ja_S) (t x : Int32) : ja_S := jb_u (jb_u (jb_u C 30 (C 10 0).toNatClampNeg t) 31 (C 10 0).toNatClampNeg x) 10 0 (C 10 0 + 1)
def cf_give (C : ja_S) (e : Nat) : ja_S := cf_owe (jb_u C 22 e 4) (C 19 e) (C 21 e)
def cf_fin (C : ja_S) (e : Nat) (v : Int32) : ja_S := if C 21 e ≤ v then jb_u (jb_u C 22 e 3) 23 e v else cf_owe (jb_u (jb_u C 22 e 3) 23 e v) (C 19 e) (C 21 e - v)
def cf_pfor (C : ja_S) (t : Int32) : Int32 := if t = C 7 0 then C 8 0 else 0
set_option maxRecDepth 100000 in
theorem co_C_failsAt {l : Launch} {s0 : State} {a0 : Array Value} {G : jb_Gt} {ad : Nat → Nat} (K : jo_G s0 a0 G ad) {S : ja_S} (x : Int32) : jo_C l s0 G ad jy_C_failsAt jc_C_failsAt 2 (some .boolean) 2 [.ref (ad 0), .int x] S (jo_i fun r S' => r = (cf_fail S x).1 ∧ S' = (cf_fail S x).2) := by
  refine jo_of K (by decide) rfl (Nat.le_of_ble_eq_true rfl) ?_
  intro p e s m args below meth c O hr hk
  refine ja_aload_n O (q := 1) jd_C_failsAt_0 rfl rfl rfl ?_
  refine jg_C_55 O (q := 4) jd_C_failsAt_1 rfl ?_
  refine ja_iload_n O (q := 5) jd_C_failsAt_4 rfl rfl rfl ?_
  refine ja_icmp_eq O (g := 10) (q := 8) jd_C_failsAt_5 (by decide) rfl (fun h_5 => ?_) (fun h_5 => ?_)
  · refine ja_aload_n O (q := 11) jd_C_failsAt_10 rfl rfl rfl ?_
    refine ja_iconst O (q := 12) (v := 0) jd_C_failsAt_11 rfl (by decide) ?_
    refine jp_C_55 O (q := 15) jd_C_failsAt_12 rfl ?_
    refine ja_aload_n O (q := 16) jd_C_failsAt_15 rfl rfl rfl ?_
    refine ja_iconst O (q := 17) (v := 0) jd_C_failsAt_16 rfl (by decide) ?_
    refine jp_C_44 O (by first | assumption | exact Or.inl rfl | exact Or.inr rfl) (q := 20) jd_C_failsAt_17 rfl ?_
    refine ja_aload_n O (q := 21) jd_C_failsAt_20 rfl rfl rfl ?_
    refine jm_C_106 O (d := 1) ⟨by decide, by decide⟩ (Nat.le_of_ble_eq_true rfl) ⟨by decide, by decide⟩ (co_C_endSession K) (q := 24) jd_C_failsAt_21 rfl (fun S' h => ?_)
    subst h
    refine ja_iconst O (q := 25) (v := 1) jd_C_failsAt_24 rfl (by decide) ?_
    exact jo_zr O hr hk (by first | assumption | exact Or.inl rfl | exact Or.inr rfl) ⟨by simp [cf_fail, h_5], by simp [cf_fail, h_5, cf_end]⟩ jd_C_failsAt_25
  · refine ja_iconst O (q := 9) (v := 0) jd_C_failsAt_8 rfl (by decide) ?_
    exact jo_zr O hr hk (by first | assumption | exact Or.inl rfl | exact Or.inr rfl) (by simp [cf_fail, h_5]) jd_C_failsAt_9
set_option maxRecDepth 100000 in
theorem co_D_presentedFor {l : Launch} {s0 : State} {a0 : Array Value} {G : jb_Gt} {ad : Nat → Nat} (K : jo_G s0 a0 G ad) {S : ja_S} (x : Int32) : jo_C l s0 G ad jy_D_presentedFor jc_D_presentedFor 2 (some .int) 1 [.ref (ad 3), .int x] S (jo_i fun r S' => r = cf_pfor S x ∧ S' = S) := by
  refine jo_of K (by decide) rfl (Nat.le_of_ble_eq_true rfl) ?_
  intro p e s m args below meth c O hr hk
  refine ja_iload_n O (q := 1) jd_D_presentedFor_0 rfl rfl rfl ?_
  refine ja_aload_n O (q := 2) jd_D_presentedFor_1 rfl rfl rfl ?_
  refine jg_D_31 O (q := 5) jd_D_presentedFor_2 rfl ?_
  refine ja_icmp_ne O (g := 15) (q := 8) jd_D_presentedFor_5 (by decide) rfl (fun h_5 => ?_) (fun h_5 => ?_)
  · refine ja_iconst O (q := 16) (v := 0) jd_D_presentedFor_15 rfl (by decide) ?_
    exact jo_ir O hr hk (by simp [cf_pfor, h_5]) jd_D_presentedFor_16
  · refine ja_aload_n O (q := 9) jd_D_presentedFor_8 rfl rfl rfl ?_
    refine jg_D_34 O (q := 12) jd_D_presentedFor_9 rfl ?_
    refine ja_goto O (g := 16) jd_D_presentedFor_12 (by decide) ?_
    exact jo_ir O hr hk (by simp [cf_pfor, h_5]) jd_D_presentedFor_16
theorem jp_owe {C : ja_S} {k : Nat} (h10 : C 10 0 = nI k) (hk : k < 40) (t x : Int32) : jb_u (jb_u (jb_u C 30 k t) 31 k x) 10 0 (nI (k + 1)) = cf_owe C t x := by
  unfold cf_owe; rw [h10, nI_clamp (by omega), nI_1]
set_option maxRecDepth 100000 in
theorem co_C_giveUp {l : Launch} {s0 : State} {a0 : Array Value} {G : jb_Gt} {ad : Nat → Nat} (K : jo_G s0 a0 G ad) {S : ja_S} (e : Nat) (he : e < 40) (k : Nat) (hk9 : k < 40) (h10 : S 10 0 = nI k) : jo_C l s0 G ad jy_C_giveUp jc_C_giveUp 2 none 2 [.ref (ad 0), .ref (ad (50 + e))] S (jo_v fun S' => S' = cf_give S e) := by
  refine jo_of K (by decide) rfl (Nat.le_of_ble_eq_true rfl) ?_
  intro p e0 s m args below meth c O hr hk
  refine ja_aload_n O (q := 1) jd_C_giveUp_0 rfl rfl rfl ?_
  refine ja_iconst O (q := 2) (v := 4) jd_C_giveUp_1 rfl (by decide) ?_
  refine jp_C_166 O (by first | assumption | omega) (q := 5) jd_C_giveUp_2 rfl ?_
  refine ja_aload_n O (q := 6) jd_C_giveUp_5 rfl rfl rfl ?_
  refine jg_C_40 O (q := 9) jd_C_giveUp_6 rfl ?_
  refine ja_aload_n O (q := 10) jd_C_giveUp_9 rfl rfl rfl ?_
  refine jg_C_213 O (by first | assumption | omega) (q := 13) jd_C_giveUp_10 rfl ?_
  refine ja_aload_n O (q := 14) jd_C_giveUp_13 rfl rfl rfl ?_
  refine jg_C_174 O (by first | assumption | omega) (q := 17) jd_C_giveUp_14 rfl ?_
  refine jm_C_224 O (d := 1) ⟨by decide, by decide⟩ (Nat.le_of_ble_eq_true rfl) ⟨by decide, by decide⟩ (co_R_add K (S := jb_u S 22 e 4) k hk9 h10 _ _) (q := 20) jd_C_giveUp_17 rfl (fun S' h => ?_)
  subst h
  exact jo_vr O hr hk (jp_owe (C := jb_u S 22 e 4) h10 hk9 _ _) jd_C_giveUp_20
set_option maxRecDepth 100000 in
theorem co_C_finish {l : Launch} {s0 : State} {a0 : Array Value} {G : jb_Gt} {ad : Nat → Nat} (K : jo_G s0 a0 G ad) {S : ja_S} (e : Nat) (he : e < 40) (k : Nat) (hk9 : k < 40) (h10 : S 10 0 = nI k) (v : Int32) : jo_C l s0 G ad jy_C_finish jc_C_finish 3 none 2 [.ref (ad 0), .ref (ad (50 + e)), .int v] S (jo_v fun S' => S' = cf_fin S e v) := by
  refine jo_of K (by decide) rfl (Nat.le_of_ble_eq_true rfl) ?_
  intro p e0 s m args below meth c O hr hk
  refine ja_aload_n O (q := 1) jd_C_finish_0 rfl rfl rfl ?_
  refine ja_iconst O (q := 2) (v := 3) jd_C_finish_1 rfl (by decide) ?_
  refine jp_C_166 O (by first | assumption | omega) (q := 5) jd_C_finish_2 rfl ?_
  refine ja_aload_n O (q := 6) jd_C_finish_5 rfl rfl rfl ?_
  refine ja_iload_n O (q := 7) jd_C_finish_6 rfl rfl rfl ?_
  refine jp_C_177 O (by first | assumption | omega) (q := 10) jd_C_finish_7 rfl ?_
  refine ja_iload_n O (q := 11) jd_C_finish_10 rfl rfl rfl ?_
  refine ja_aload_n O (q := 12) jd_C_finish_11 rfl rfl rfl ?_
  refine jg_C_174 O (by first | assumption | omega) (q := 15) jd_C_finish_12 rfl ?_
  refine ja_icmp_ge O (g := 35) (q := 18) jd_C_finish_15 (by decide) rfl (fun h_15 => ?_) (fun h_15 => ?_)
  · exact jo_vr O hr hk (by first | (simp only [cf_fin, if_pos (show S 21 e ≤ v from h_15)]) | (simp only [cf_fin, if_neg (show ¬ S 21 e ≤ v from h_15)]; exact jp_owe (C := jb_u (jb_u S 22 e 3) 23 e v) h10 hk9 _ _)) jd_C_finish_35
  · refine ja_aload_n O (q := 19) jd_C_finish_18 rfl rfl rfl ?_
    refine jg_C_40 O (q := 22) jd_C_finish_19 rfl ?_
    refine ja_aload_n O (q := 23) jd_C_finish_22 rfl rfl rfl ?_
    refine jg_C_213 O (by first | assumption | omega) (q := 26) jd_C_finish_23 rfl ?_
    refine ja_aload_n O (q := 27) jd_C_finish_26 rfl rfl rfl ?_
    refine jg_C_174 O (by first | assumption | omega) (q := 30) jd_C_finish_27 rfl ?_
    refine ja_iload_n O (q := 31) jd_C_finish_30 rfl rfl rfl ?_
    refine ja_isub O (q := 32) jd_C_finish_31 rfl ?_
    refine jm_C_224 O (d := 1) ⟨by decide, by decide⟩ (Nat.le_of_ble_eq_true rfl) ⟨by decide, by decide⟩ (co_R_add K (S := jb_u (jb_u S 22 e 3) 23 e v) k hk9 h10 _ _) (q := 35) jd_C_finish_32 rfl (fun S' h => ?_)
    subst h
    exact jo_vr O hr hk (by first | (simp only [cf_fin, if_pos (show S 21 e ≤ v from h_15)]) | (simp only [cf_fin, if_neg (show ¬ S 21 e ≤ v from h_15)]; exact jp_owe (C := jb_u (jb_u S 22 e 3) 23 e v) h10 hk9 _ _)) jd_C_finish_35
set_option maxRecDepth 100000 in
theorem co_H_decide {l : Launch} {s0 : State} {a0 : Array Value} {G : jb_Gt} {ad : Nat → Nat} (K : jo_G s0 a0 G ad) {S : ja_S} (x y z : Int32) (t j : Nat) (ht : t < 41) (hj : j < 8) (hx : x = nI t) : jo_C l s0 G ad jy_H_decide jc_H_decide 4 (some .int) 1 [.ref (ad 1), .int x, .ref (ad (38 + j)), .int z] S (jo_i fun r S' => r = (cf_dec S t j z).1 ∧ S' = (cf_dec S t j z).2) := by
  refine jo_of K (by decide) rfl (Nat.le_of_ble_eq_true rfl) ?_
  intro p e s m args below meth c O hr hk
  refine ja_aload_n O (q := 1) jd_H_decide_0 rfl rfl rfl ?_
  refine jg_H_24 O (q := 4) jd_H_decide_1 rfl ?_
  refine ja_iload_n O (q := 5) jd_H_decide_4 rfl rfl rfl ?_
  refine jl_11 O (k := t) hx (by first | assumption | omega) (q := 6) jd_H_decide_5 rfl ?_
  refine ja_if_ne O (g := 24) (q := 9) jd_H_decide_6 (by decide) rfl (fun h_6 => ?_) (fun h_6 => ?_)
  · refine ja_iconst O (q := 25) (v := (-1)) jd_H_decide_24 rfl (by decide) ?_
    exact jo_ir O hr hk (by first | (simp only [cf_dec]; rw [if_neg (fun q => h_6 q.1)]; exact ⟨rfl, rfl⟩) | (simp only [cf_dec]; rw [if_neg (fun q => h_13 q.2.1)]; exact ⟨rfl, rfl⟩) | (simp only [cf_dec]; rw [if_neg (fun q => h_21 q.2.2)]; exact ⟨rfl, rfl⟩)) jd_H_decide_25
  · refine ja_aload_n O (q := 10) jd_H_decide_9 rfl rfl rfl ?_
    refine jg_H_51 O (by first | assumption | omega) (q := 13) jd_H_decide_10 rfl ?_
    refine ja_if_ne O (g := 24) (q := 16) jd_H_decide_13 (by decide) rfl (fun h_13 => ?_) (fun h_13 => ?_)
    · refine ja_iconst O (q := 25) (v := (-1)) jd_H_decide_24 rfl (by decide) ?_
      exact jo_ir O hr hk (by first | (simp only [cf_dec]; rw [if_neg (fun q => h_6 q.1)]; exact ⟨rfl, rfl⟩) | (simp only [cf_dec]; rw [if_neg (fun q => h_13 q.2.1)]; exact ⟨rfl, rfl⟩) | (simp only [cf_dec]; rw [if_neg (fun q => h_21 q.2.2)]; exact ⟨rfl, rfl⟩)) jd_H_decide_25
    · refine ja_aload_n O (q := 17) jd_H_decide_16 rfl rfl rfl ?_
      refine jg_H_44 O (by first | assumption | omega) (q := 20) jd_H_decide_17 rfl ?_
      refine ja_iload_n O (q := 21) jd_H_decide_20 rfl rfl rfl ?_
      refine ja_icmp_ge O (g := 26) (q := 24) jd_H_decide_21 (by decide) rfl (fun h_21 => ?_) (fun h_21 => ?_)
      · refine ja_aload_n O (q := 27) jd_H_decide_26 rfl rfl rfl ?_
        refine ja_dup O (q := 28) jd_H_decide_27 rfl rfl ?_
        refine jg_H_44 O (by first | assumption | omega) (q := 31) jd_H_decide_28 rfl ?_
        refine ja_iload_n O (q := 32) jd_H_decide_31 rfl rfl rfl ?_
        refine ja_isub O (q := 33) jd_H_decide_32 rfl ?_
        refine jp_H_44 O (by first | assumption | omega) (q := 36) jd_H_decide_33 rfl ?_
        refine ja_iconst O (q := 37) (v := 2) jd_H_decide_36 rfl (by decide) ?_
        exact jo_ir O hr hk (by simp only [cf_dec]; rw [if_pos ⟨h_6, h_13, h_21⟩]; exact ⟨rfl, rfl⟩) jd_H_decide_37
      · refine ja_iconst O (q := 25) (v := (-1)) jd_H_decide_24 rfl (by decide) ?_
        exact jo_ir O hr hk (by first | (simp only [cf_dec]; rw [if_neg (fun q => h_6 q.1)]; exact ⟨rfl, rfl⟩) | (simp only [cf_dec]; rw [if_neg (fun q => h_13 q.2.1)]; exact ⟨rfl, rfl⟩) | (simp only [cf_dec]; rw [if_neg (fun q => h_21 q.2.2)]; exact ⟨rfl, rfl⟩)) jd_H_decide_25
set_option maxRecDepth 100000 in
theorem co_H_receiveRequest {l : Launch} {s0 : State} {a0 : Array Value} {G : jb_Gt} {ad : Nat → Nat} (K : jo_G s0 a0 G ad) {S : ja_S} (x y z : Int32) (t j : Nat) (ht : t < 41) (hj : j < 8) (hx : x = nI t) (hy : y = nI j) : jo_C l s0 G ad jy_H_receiveRequest jc_H_receiveRequest 4 (some .boolean) 2 [.ref (ad 1), .int x, .int y, .int z] S (jo_i fun r S' => r = (cf_req S t j z).1 ∧ S' = (cf_req S t j z).2) := by
  refine jo_of K (by decide) rfl (Nat.le_of_ble_eq_true rfl) ?_
  intro p e s m args below meth c O hr hk
  refine ja_aload_n O (q := 1) jd_H_receiveRequest_0 rfl rfl rfl ?_
  refine jg_H_17 O (q := 4) jd_H_receiveRequest_1 rfl ?_
  refine ja_iload_n O (q := 5) jd_H_receiveRequest_4 rfl rfl rfl ?_
  refine jl_9 O (k := t) hx (by first | assumption | omega) (q := 6) jd_H_receiveRequest_5 rfl ?_
  refine ja_if_ne O (g := 34) (q := 9) jd_H_receiveRequest_6 (by decide) rfl (fun h_6 => ?_) (fun h_6 => ?_)
  · refine ja_aload_n O (q := 35) jd_H_receiveRequest_34 rfl rfl rfl ?_
    refine jg_H_17 O (q := 38) jd_H_receiveRequest_35 rfl ?_
    refine ja_iload_n O (q := 39) jd_H_receiveRequest_38 rfl rfl rfl ?_
    refine jl_9 O (k := t) hx (by first | assumption | omega) (q := 40) jd_H_receiveRequest_39 rfl ?_
    refine ja_iconst O (q := 41) (v := 2) jd_H_receiveRequest_40 rfl (by decide) ?_
    refine ja_icmp_ne O (g := 48) (q := 44) jd_H_receiveRequest_41 (by decide) rfl (fun h_41 => ?_) (fun h_41 => ?_)
    · refine ja_iconst O (q := 49) (v := 0) jd_H_receiveRequest_48 rfl (by decide) ?_
      exact jo_zr O hr hk (by first | assumption | exact Or.inl rfl | exact Or.inr rfl) (by first | (have e1 : cf_rq S t j z = S := by simp only [cf_rq]; rw [if_neg h_6]); simp only [cf_req, e1]; simp [h_41] | (have e1 : cf_rq S t j z = jb_u (jb_u (cf_dec S t j z).2 24 t (cf_dec S t j z).1) 25 t y := by simp only [cf_rq]; rw [if_pos h_6, hy]); rw [← e1] at h_41; simp only [cf_req, e1] at *; simp_all) jd_H_receiveRequest_49
    · refine ja_iconst O (q := 45) (v := 1) jd_H_receiveRequest_44 rfl (by decide) ?_
      refine ja_goto O (g := 49) jd_H_receiveRequest_45 (by decide) ?_
      exact jo_zr O hr hk (by first | assumption | exact Or.inl rfl | exact Or.inr rfl) (by first | (have e1 : cf_rq S t j z = S := by simp only [cf_rq]; rw [if_neg h_6]); simp only [cf_req, e1]; simp [h_41] | (have e1 : cf_rq S t j z = jb_u (jb_u (cf_dec S t j z).2 24 t (cf_dec S t j z).1) 25 t y := by simp only [cf_rq]; rw [if_pos h_6, hy]); rw [← e1] at h_41; simp only [cf_req, e1] at *; simp_all) jd_H_receiveRequest_49
  · refine ja_aload_n O (q := 10) jd_H_receiveRequest_9 rfl rfl rfl ?_
    refine jg_H_17 O (q := 13) jd_H_receiveRequest_10 rfl ?_
    refine ja_iload_n O (q := 14) jd_H_receiveRequest_13 rfl rfl rfl ?_
    refine ja_aload_n O (q := 15) jd_H_receiveRequest_14 rfl rfl rfl ?_
    refine ja_iload_n O (q := 16) jd_H_receiveRequest_15 rfl rfl rfl ?_
    refine ja_aload_n O (q := 17) jd_H_receiveRequest_16 rfl rfl rfl ?_
    refine jg_H_11 O (q := 20) jd_H_receiveRequest_17 rfl ?_
    refine ja_iload_n O (q := 21) jd_H_receiveRequest_20 rfl rfl rfl ?_
    refine jl_8 O (k := j) hy (by first | assumption | omega) (q := 22) jd_H_receiveRequest_21 rfl ?_
    refine ja_iload_n O (q := 23) jd_H_receiveRequest_22 rfl rfl rfl ?_
    refine jm_H_47 O (d := 1) ⟨by decide, by decide⟩ (Nat.le_of_ble_eq_true rfl) ⟨by decide, by decide⟩ (co_H_decide K x y z t j ht hj hx) (q := 26) jd_H_receiveRequest_23 rfl (fun r S' h => ?_)
    obtain ⟨rfl, rfl⟩ := h
    refine js_9 O (k := t) hx (by first | assumption | omega) (q := 27) jd_H_receiveRequest_26 rfl ?_
    refine ja_aload_n O (q := 28) jd_H_receiveRequest_27 rfl rfl rfl ?_
    refine jg_H_21 O (q := 31) jd_H_receiveRequest_28 rfl ?_
    refine ja_iload_n O (q := 32) jd_H_receiveRequest_31 rfl rfl rfl ?_
    refine ja_iload_n O (q := 33) jd_H_receiveRequest_32 rfl rfl rfl ?_
    refine js_10 O (k := t) hx (by first | assumption | omega) (q := 34) jd_H_receiveRequest_33 rfl ?_
    refine ja_aload_n O (q := 35) jd_H_receiveRequest_34 rfl rfl rfl ?_
    refine jg_H_17 O (q := 38) jd_H_receiveRequest_35 rfl ?_
    refine ja_iload_n O (q := 39) jd_H_receiveRequest_38 rfl rfl rfl ?_
    refine jl_9 O (k := t) hx (by first | assumption | omega) (q := 40) jd_H_receiveRequest_39 rfl ?_
    refine ja_iconst O (q := 41) (v := 2) jd_H_receiveRequest_40 rfl (by decide) ?_
    refine ja_icmp_ne O (g := 48) (q := 44) jd_H_receiveRequest_41 (by decide) rfl (fun h_41 => ?_) (fun h_41 => ?_)
    · refine ja_iconst O (q := 49) (v := 0) jd_H_receiveRequest_48 rfl (by decide) ?_
      exact jo_zr O hr hk (by first | assumption | exact Or.inl rfl | exact Or.inr rfl) (by first | (have e1 : cf_rq S t j z = S := by simp only [cf_rq]; rw [if_neg h_6]); simp only [cf_req, e1]; simp [h_41] | (have e1 : cf_rq S t j z = jb_u (jb_u (cf_dec S t j z).2 24 t (cf_dec S t j z).1) 25 t y := by simp only [cf_rq]; rw [if_pos h_6, hy]); rw [← e1] at h_41; simp only [cf_req, e1] at *; simp_all) jd_H_receiveRequest_49
    · refine ja_iconst O (q := 45) (v := 1) jd_H_receiveRequest_44 rfl (by decide) ?_
      refine ja_goto O (g := 49) jd_H_receiveRequest_45 (by decide) ?_
      exact jo_zr O hr hk (by first | assumption | exact Or.inl rfl | exact Or.inr rfl) (by first | (have e1 : cf_rq S t j z = S := by simp only [cf_rq]; rw [if_neg h_6]); simp only [cf_req, e1]; simp [h_41] | (have e1 : cf_rq S t j z = jb_u (jb_u (cf_dec S t j z).2 24 t (cf_dec S t j z).1) 25 t y := by simp only [cf_rq]; rw [if_pos h_6, hy]); rw [← e1] at h_41; simp only [cf_req, e1] at *; simp_all) jd_H_receiveRequest_49
set_option maxRecDepth 100000 in
theorem co_H_receiveReversal {l : Launch} {s0 : State} {a0 : Array Value} {G : jb_Gt} {ad : Nat → Nat} (K : jo_G s0 a0 G ad) {S : ja_S} (x z : Int32) (t : Nat) (ht : t < 41) (hx : x = nI t) (hj : S 24 t = 2 → ∃ j, j < 8 ∧ S 25 t = nI j) : jo_C l s0 G ad jy_H_receiveReversal jc_H_receiveReversal 3 none 1 [.ref (ad 1), .int x, .int z] S (jo_v fun S' => S' = cf_rev S t z) := by
  refine jo_of K (by decide) rfl (Nat.le_of_ble_eq_true rfl) ?_
  intro p e s m args below meth c O hr hk
  refine ja_aload_n O (q := 1) jd_H_receiveReversal_0 rfl rfl rfl ?_
  refine jg_H_24 O (q := 4) jd_H_receiveReversal_1 rfl ?_
  refine ja_iload_n O (q := 5) jd_H_receiveReversal_4 rfl rfl rfl ?_
  refine jl_11 O (k := t) hx (by first | assumption | omega) (q := 6) jd_H_receiveReversal_5 rfl ?_
  refine ja_if_ne O (g := 39) (q := 9) jd_H_receiveReversal_6 (by decide) rfl (fun h_6 => ?_) (fun h_6 => ?_)
  · refine ja_aload_n O (q := 40) jd_H_receiveReversal_39 rfl rfl rfl ?_
    refine jg_H_24 O (q := 43) jd_H_receiveReversal_40 rfl ?_
    refine ja_iload_n O (q := 44) jd_H_receiveReversal_43 rfl rfl rfl ?_
    refine ja_iconst O (q := 45) (v := 1) jd_H_receiveReversal_44 rfl (by decide) ?_
    refine js_11 O (k := t) hx (by first | assumption | omega) (by first | assumption | exact Or.inl rfl | exact Or.inr rfl) (q := 46) jd_H_receiveReversal_45 rfl ?_
    exact jo_vr O hr hk (by first | (simp only [cf_rev]; rw [if_neg (fun q => h_6 q.1)]) | (simp only [cf_rev]; rw [if_neg (fun q => h_16 q.2)]) | (simp only [cf_rev]; rw [if_pos ⟨h_6, h_16⟩, hj25, nI_clamp (by omega)])) jd_H_receiveReversal_46
  · refine ja_aload_n O (q := 10) jd_H_receiveReversal_9 rfl rfl rfl ?_
    refine jg_H_17 O (q := 13) jd_H_receiveReversal_10 rfl ?_
    refine ja_iload_n O (q := 14) jd_H_receiveReversal_13 rfl rfl rfl ?_
    refine jl_9 O (k := t) hx (by first | assumption | omega) (q := 15) jd_H_receiveReversal_14 rfl ?_
    refine ja_iconst O (q := 16) (v := 2) jd_H_receiveReversal_15 rfl (by decide) ?_
    refine ja_icmp_ne O (g := 39) (q := 19) jd_H_receiveReversal_16 (by decide) rfl (fun h_16 => ?_) (fun h_16 => ?_)
    · refine ja_aload_n O (q := 40) jd_H_receiveReversal_39 rfl rfl rfl ?_
      refine jg_H_24 O (q := 43) jd_H_receiveReversal_40 rfl ?_
      refine ja_iload_n O (q := 44) jd_H_receiveReversal_43 rfl rfl rfl ?_
      refine ja_iconst O (q := 45) (v := 1) jd_H_receiveReversal_44 rfl (by decide) ?_
      refine js_11 O (k := t) hx (by first | assumption | omega) (by first | assumption | exact Or.inl rfl | exact Or.inr rfl) (q := 46) jd_H_receiveReversal_45 rfl ?_
      exact jo_vr O hr hk (by first | (simp only [cf_rev]; rw [if_neg (fun q => h_6 q.1)]) | (simp only [cf_rev]; rw [if_neg (fun q => h_16 q.2)]) | (simp only [cf_rev]; rw [if_pos ⟨h_6, h_16⟩, hj25, nI_clamp (by omega)])) jd_H_receiveReversal_46
    · obtain ⟨j, hj8, hj25⟩ := hj h_16
      refine ja_aload_n O (q := 20) jd_H_receiveReversal_19 rfl rfl rfl ?_
      refine jg_H_11 O (q := 23) jd_H_receiveReversal_20 rfl ?_
      refine ja_aload_n O (q := 24) jd_H_receiveReversal_23 rfl rfl rfl ?_
      refine jg_H_21 O (q := 27) jd_H_receiveReversal_24 rfl ?_
      refine ja_iload_n O (q := 28) jd_H_receiveReversal_27 rfl rfl rfl ?_
      refine jl_10 O (k := t) hx (by first | assumption | omega) (q := 29) jd_H_receiveReversal_28 rfl ?_
      refine jl_8 O (k := j) hj25 (by first | assumption | omega) (q := 30) jd_H_receiveReversal_29 rfl ?_
      refine ja_dup O (q := 31) jd_H_receiveReversal_30 rfl rfl ?_
      refine jg_H_44 O (by first | assumption | omega) (q := 34) jd_H_receiveReversal_31 rfl ?_
      refine ja_iload_n O (q := 35) jd_H_receiveReversal_34 rfl rfl rfl ?_
      refine ja_iadd O (q := 36) jd_H_receiveReversal_35 rfl ?_
      refine jp_H_44 O (by first | assumption | omega) (q := 39) jd_H_receiveReversal_36 rfl ?_
      refine ja_aload_n O (q := 40) jd_H_receiveReversal_39 rfl rfl rfl ?_
      refine jg_H_24 O (q := 43) jd_H_receiveReversal_40 rfl ?_
      refine ja_iload_n O (q := 44) jd_H_receiveReversal_43 rfl rfl rfl ?_
      refine ja_iconst O (q := 45) (v := 1) jd_H_receiveReversal_44 rfl (by decide) ?_
      refine js_11 O (k := t) hx (by first | assumption | omega) (by first | assumption | exact Or.inl rfl | exact Or.inr rfl) (q := 46) jd_H_receiveReversal_45 rfl ?_
      exact jo_vr O hr hk (by first | (simp only [cf_rev]; rw [if_neg (fun q => h_6 q.1)]) | (simp only [cf_rev]; rw [if_neg (fun q => h_16 q.2)]) | (simp only [cf_rev]; rw [if_pos ⟨h_6, h_16⟩, hj25, nI_clamp (by omega)])) jd_H_receiveReversal_46
set_option maxRecDepth 100000 in
theorem co_H_takenFromBalances {l : Launch} {s0 : State} {a0 : Array Value} {G : jb_Gt} {ad : Nat → Nat} (K : jo_G s0 a0 G ad) {S : ja_S}  : jo_C l s0 G ad jy_H_takenFromBalances jc_H_takenFromBalances 6 (some .int) 1 [.ref (ad 1)] S (jo_i fun r S' => S' = S ∧ r = jp_sm (fun j => S 13 j - S 14 j) 8) := by
  refine jo_of K (by decide) rfl (Nat.le_of_ble_eq_true rfl) ?_
  intro p e s m args below meth c O hr hk
  have loop : ∀ (n : Nat) (i : Nat), i ≤ 8 → 8 < i + n → ja_V p l e (jo_r 1) s m args below meth c (jb_W G ad) s0.heap.size 6 0 0 (jo_M s0 G ad below args s (jo_i fun r S' => S' = S ∧ r = jp_sm (fun j => S 13 j - S 14 j) 8)) (S) 13 [(0, .ref (ad 1)), (1, .int (jp_sm (fun j => S 13 j - S 14 j) i)), (2, .ref (ad 8)), (3, .int (nI 8)), (4, .int (nI i))] [] := by
    intro n
    induction n with
    | zero => intro i hi hn; exact absurd hn (by omega)
    | succ n ih =>
      intro i hi hn
      refine ja_iload O (q := 15) jd_H_takenFromBalances_13 rfl rfl ?_
      refine ja_iload_n O (q := 16) jd_H_takenFromBalances_15 rfl rfl rfl ?_
      refine ja_icmp_ge O (g := 45) (q := 19) jd_H_takenFromBalances_16 (by decide) rfl (fun h_16 => ?_) (fun h_16 => ?_)
      · have hi8 : i = 8 := by
          rcases Nat.lt_or_ge i 8 with z | z
          · exact absurd h_16 (nI_ge z (by omega))
          · omega
        subst hi8
        refine ja_iload_n O (q := 46) jd_H_takenFromBalances_45 rfl rfl rfl ?_
        exact jo_ir O hr hk ⟨rfl, rfl⟩ jd_H_takenFromBalances_46
      · have hi8 : i < 8 := by
          rcases Nat.lt_or_ge i 8 with z | z
          · exact z
          · exact absurd (nI_le z (by omega)) h_16
        refine ja_aload_n O (q := 20) jd_H_takenFromBalances_19 rfl rfl rfl ?_
        refine ja_iload O (q := 22) jd_H_takenFromBalances_20 rfl rfl ?_
        refine jl_8 O (k := i) rfl (by first | assumption | omega) (q := 23) jd_H_takenFromBalances_22 rfl ?_
        refine ja_astore O (q := 25) jd_H_takenFromBalances_23 rfl (by decide) ?_
        refine ja_iload_n O (q := 26) jd_H_takenFromBalances_25 rfl rfl rfl ?_
        refine ja_aload O (q := 28) jd_H_takenFromBalances_26 rfl rfl ?_
        refine jg_H_41 O (by first | assumption | omega) (q := 31) jd_H_takenFromBalances_28 rfl ?_
        refine ja_aload O (q := 33) jd_H_takenFromBalances_31 rfl rfl ?_
        refine jg_H_44 O (by first | assumption | omega) (q := 36) jd_H_takenFromBalances_33 rfl ?_
        refine ja_isub O (q := 37) jd_H_takenFromBalances_36 rfl ?_
        refine ja_iadd O (q := 38) jd_H_takenFromBalances_37 rfl ?_
        refine ja_istore_n O (q := 39) jd_H_takenFromBalances_38 rfl rfl (by decide) ?_
        refine ja_iinc O (q := 42) (v := nI (i + 1)) jd_H_takenFromBalances_39 rfl rfl (nI_1 i) (by decide) ?_
        refine ja_goto O (g := 13) jd_H_takenFromBalances_42 (by decide) ?_
        refine ja_less (L' := [(0, .ref (ad 1)), (1, .int (jp_sm (fun j => S 13 j - S 14 j) (i + 1))), (2, .ref (ad 8)), (3, .int (nI 8)), (4, .int (nI (i + 1)))]) ⟨rfl, rfl, rfl, rfl, rfl, trivial⟩ ?_
        exact ih (i + 1) (by omega) (by omega)
  refine ja_iconst O (q := 1) (v := 0) jd_H_takenFromBalances_0 rfl (by decide) ?_
  refine ja_istore_n O (q := 2) jd_H_takenFromBalances_1 rfl rfl (by decide) ?_
  refine ja_aload_n O (q := 3) jd_H_takenFromBalances_2 rfl rfl rfl ?_
  refine jg_H_11 O (q := 6) jd_H_takenFromBalances_3 rfl ?_
  refine ja_astore_n O (q := 7) jd_H_takenFromBalances_6 rfl rfl (by decide) ?_
  refine ja_aload_n O (q := 8) jd_H_takenFromBalances_7 rfl rfl rfl ?_
  refine jn_8 O (q := 9) jd_H_takenFromBalances_8 rfl ?_
  refine ja_istore_n O (q := 10) jd_H_takenFromBalances_9 rfl rfl (by decide) ?_
  refine ja_iconst O (q := 11) (v := 0) jd_H_takenFromBalances_10 rfl (by decide) ?_
  refine ja_istore O (q := 13) jd_H_takenFromBalances_11 rfl (by decide) ?_
  refine ja_less (L' := [(0, .ref (ad 1)), (1, .int (jp_sm (fun j => S 13 j - S 14 j) 0)), (2, .ref (ad 8)), (3, .int (nI 8)), (4, .int (nI 0))]) ⟨rfl, rfl, rfl, rfl, rfl, trivial⟩ ?_
  exact loop 9 0 (by omega) (by omega)
end
