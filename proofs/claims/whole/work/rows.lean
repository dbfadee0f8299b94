section
-- ===== PART A: goes FIRST, ahead of the names: the tables' words, and 'selects' of the private methods out of them =====
/-- a private method of a class that the tables say can be made, by its rows of tables_1 -/
def lw_okq (q : MethodName × Nat) : Prop := (q.1.cls ≠ "java/lang/invoke/MethodHandle" ∧ q.1.cls ≠ "java/lang/invoke/VarHandle") ∧ Cond.instantiable q.1.cls q.2 ∈ tables_1 ∧ Cond.privateMethod q.1 ∈ tables_1 ∧ Cond.instanceMethod q.1 ∈ tables_1
theorem lw_p0 : lw_okq (⟨"java/lang/Throwable", "fillInStackTrace", "(I)Ljava/lang/Throwable;"⟩, 6) := ⟨⟨by decide +kernel, by decide +kernel⟩, List.mem_of_getElem? (i := 319) (by decide +kernel), List.mem_of_getElem? (i := 317) (by decide +kernel), List.mem_of_getElem? (i := 318) (by decide +kernel)⟩
theorem lw_p1 : lw_okq (⟨"CashMachine", "endSession", "()V"⟩, 9) := ⟨⟨by decide +kernel, by decide +kernel⟩, List.mem_of_getElem? (i := 24) (by decide +kernel), List.mem_of_getElem? (i := 433) (by decide +kernel), List.mem_of_getElem? (i := 434) (by decide +kernel)⟩
theorem lw_p2 : lw_okq (⟨"CashMachine$Mix", "rankLastTwo", "(LCashMachine$Cassette;LCashMachine$Cassette;I)V"⟩, 2) := ⟨⟨by decide +kernel, by decide +kernel⟩, List.mem_of_getElem? (i := 110) (by decide +kernel), List.mem_of_getElem? (i := 460) (by decide +kernel), List.mem_of_getElem? (i := 461) (by decide +kernel)⟩
theorem lw_p3 : lw_okq (⟨"CashMachine$Mix", "keep", "(III)V"⟩, 2) := ⟨⟨by decide +kernel, by decide +kernel⟩, List.mem_of_getElem? (i := 110) (by decide +kernel), List.mem_of_getElem? (i := 471) (by decide +kernel), List.mem_of_getElem? (i := 472) (by decide +kernel)⟩
theorem lw_p4 : lw_okq (⟨"CashMachine", "request", "(LCashMachine$Entry;)I"⟩, 9) := ⟨⟨by decide +kernel, by decide +kernel⟩, List.mem_of_getElem? (i := 24) (by decide +kernel), List.mem_of_getElem? (i := 494) (by decide +kernel), List.mem_of_getElem? (i := 495) (by decide +kernel)⟩
theorem lw_p5 : lw_okq (⟨"CashMachine", "failsAt", "(I)Z"⟩, 9) := ⟨⟨by decide +kernel, by decide +kernel⟩, List.mem_of_getElem? (i := 24) (by decide +kernel), List.mem_of_getElem? (i := 498) (by decide +kernel), List.mem_of_getElem? (i := 499) (by decide +kernel)⟩
theorem lw_p6 : lw_okq (⟨"CashMachine", "exchangeRequest", "(LCashMachine$Entry;)I"⟩, 9) := ⟨⟨by decide +kernel, by decide +kernel⟩, List.mem_of_getElem? (i := 24) (by decide +kernel), List.mem_of_getElem? (i := 502) (by decide +kernel), List.mem_of_getElem? (i := 503) (by decide +kernel)⟩
theorem lw_p7 : lw_okq (⟨"CashMachine$Host", "decide", "(ILCashMachine$Account;I)I"⟩, 4) := ⟨⟨by decide +kernel, by decide +kernel⟩, List.mem_of_getElem? (i := 32) (by decide +kernel), List.mem_of_getElem? (i := 517) (by decide +kernel), List.mem_of_getElem? (i := 518) (by decide +kernel)⟩
theorem lw_p8 : lw_okq (⟨"CashMachine", "giveUp", "(LCashMachine$Entry;)V"⟩, 9) := ⟨⟨by decide +kernel, by decide +kernel⟩, List.mem_of_getElem? (i := 24) (by decide +kernel), List.mem_of_getElem? (i := 521) (by decide +kernel), List.mem_of_getElem? (i := 522) (by decide +kernel)⟩
theorem lw_p9 : lw_okq (⟨"CashMachine", "present", "(LCashMachine$Entry;)I"⟩, 9) := ⟨⟨by decide +kernel, by decide +kernel⟩, List.mem_of_getElem? (i := 24) (by decide +kernel), List.mem_of_getElem? (i := 529) (by decide +kernel), List.mem_of_getElem? (i := 530) (by decide +kernel)⟩
theorem lw_p10 : lw_okq (⟨"CashMachine$Dispenser", "nextCassette", "()I"⟩, 6) := ⟨⟨by decide +kernel, by decide +kernel⟩, List.mem_of_getElem? (i := 102) (by decide +kernel), List.mem_of_getElem? (i := 537) (by decide +kernel), List.mem_of_getElem? (i := 538) (by decide +kernel)⟩
theorem lw_p11 : lw_okq (⟨"CashMachine", "finish", "(LCashMachine$Entry;I)V"⟩, 9) := ⟨⟨by decide +kernel, by decide +kernel⟩, List.mem_of_getElem? (i := 24) (by decide +kernel), List.mem_of_getElem? (i := 541) (by decide +kernel), List.mem_of_getElem? (i := 542) (by decide +kernel)⟩
theorem lw_p12 : lw_okq (⟨"CashMachine", "recover", "(LCashMachine$Entry;)V"⟩, 9) := ⟨⟨by decide +kernel, by decide +kernel⟩, List.mem_of_getElem? (i := 24) (by decide +kernel), List.mem_of_getElem? (i := 588) (by decide +kernel), List.mem_of_getElem? (i := 589) (by decide +kernel)⟩
theorem lw_p13 : lw_okq (⟨"CashMachine", "exchangeReversal", "(I)Z"⟩, 9) := ⟨⟨by decide +kernel, by decide +kernel⟩, List.mem_of_getElem? (i := 24) (by decide +kernel), List.mem_of_getElem? (i := 603) (by decide +kernel), List.mem_of_getElem? (i := 604) (by decide +kernel)⟩
theorem lw_p14 : lw_okq (⟨"CashMachineModel", "fail", "(I)I"⟩, 30) := ⟨⟨by decide +kernel, by decide +kernel⟩, List.mem_of_getElem? (i := 655) (by decide +kernel), List.mem_of_getElem? (i := 764) (by decide +kernel), List.mem_of_getElem? (i := 765) (by decide +kernel)⟩
theorem lw_p15 : lw_okq (⟨"CashMachineModel", "mixed", "(I)Z"⟩, 30) := ⟨⟨by decide +kernel, by decide +kernel⟩, List.mem_of_getElem? (i := 655) (by decide +kernel), List.mem_of_getElem? (i := 788) (by decide +kernel), List.mem_of_getElem? (i := 789) (by decide +kernel)⟩
def lw_privs_1 : List (MethodName × Nat) := [(⟨"java/lang/Throwable", "fillInStackTrace", "(I)Ljava/lang/Throwable;"⟩, 6), (⟨"CashMachine", "endSession", "()V"⟩, 9), (⟨"CashMachine$Mix", "rankLastTwo", "(LCashMachine$Cassette;LCashMachine$Cassette;I)V"⟩, 2), (⟨"CashMachine$Mix", "keep", "(III)V"⟩, 2), (⟨"CashMachine", "request", "(LCashMachine$Entry;)I"⟩, 9), (⟨"CashMachine", "failsAt", "(I)Z"⟩, 9), (⟨"CashMachine", "exchangeRequest", "(LCashMachine$Entry;)I"⟩, 9), (⟨"CashMachine$Host", "decide", "(ILCashMachine$Account;I)I"⟩, 4), (⟨"CashMachine", "giveUp", "(LCashMachine$Entry;)V"⟩, 9), (⟨"CashMachine", "present", "(LCashMachine$Entry;)I"⟩, 9), (⟨"CashMachine$Dispenser", "nextCassette", "()I"⟩, 6), (⟨"CashMachine", "finish", "(LCashMachine$Entry;I)V"⟩, 9), (⟨"CashMachine", "recover", "(LCashMachine$Entry;)V"⟩, 9), (⟨"CashMachine", "exchangeReversal", "(I)Z"⟩, 9), (⟨"CashMachineModel", "fail", "(I)I"⟩, 30), (⟨"CashMachineModel", "mixed", "(I)Z"⟩, 30)]
theorem lw_r1 : ∀ q ∈ lw_privs_1, lw_okq q := List.forall_mem_cons.mpr ⟨lw_p0, List.forall_mem_cons.mpr ⟨lw_p1, List.forall_mem_cons.mpr ⟨lw_p2, List.forall_mem_cons.mpr ⟨lw_p3, List.forall_mem_cons.mpr ⟨lw_p4, List.forall_mem_cons.mpr ⟨lw_p5, List.forall_mem_cons.mpr ⟨lw_p6, List.forall_mem_cons.mpr ⟨lw_p7, List.forall_mem_cons.mpr ⟨lw_p8, List.forall_mem_cons.mpr ⟨lw_p9, List.forall_mem_cons.mpr ⟨lw_p10, List.forall_mem_cons.mpr ⟨lw_p11, List.forall_mem_cons.mpr ⟨lw_p12, List.forall_mem_cons.mpr ⟨lw_p13, List.forall_mem_cons.mpr ⟨lw_p14, List.forall_mem_cons.mpr ⟨lw_p15, fun _ h => absurd h List.not_mem_nil⟩⟩⟩⟩⟩⟩⟩⟩⟩⟩⟩⟩⟩⟩⟩⟩
theorem lw_p16 : lw_okq (⟨"CashMachineModel", "thirds", "(IIIZ)Z"⟩, 30) := ⟨⟨by decide +kernel, by decide +kernel⟩, List.mem_of_getElem? (i := 655) (by decide +kernel), List.mem_of_getElem? (i := 792) (by decide +kernel), List.mem_of_getElem? (i := 793) (by decide +kernel)⟩
theorem lw_p17 : lw_okq (⟨"CashMachineModel", "better", "(IIIIZ)Z"⟩, 30) := ⟨⟨by decide +kernel, by decide +kernel⟩, List.mem_of_getElem? (i := 655) (by decide +kernel), List.mem_of_getElem? (i := 796) (by decide +kernel), List.mem_of_getElem? (i := 797) (by decide +kernel)⟩
theorem lw_p18 : lw_okq (⟨"CashMachineModel", "notesOf", "(IIII)I"⟩, 30) := ⟨⟨by decide +kernel, by decide +kernel⟩, List.mem_of_getElem? (i := 655) (by decide +kernel), List.mem_of_getElem? (i := 800) (by decide +kernel), List.mem_of_getElem? (i := 801) (by decide +kernel)⟩
theorem lw_p19 : lw_okq (⟨"CashMachineModel", "give", "(I)I"⟩, 30) := ⟨⟨by decide +kernel, by decide +kernel⟩, List.mem_of_getElem? (i := 655) (by decide +kernel), List.mem_of_getElem? (i := 804) (by decide +kernel), List.mem_of_getElem? (i := 805) (by decide +kernel)⟩
theorem lw_p20 : lw_okq (⟨"CashMachineModel", "cut", "(I)Z"⟩, 30) := ⟨⟨by decide +kernel, by decide +kernel⟩, List.mem_of_getElem? (i := 655) (by decide +kernel), List.mem_of_getElem? (i := 808) (by decide +kernel), List.mem_of_getElem? (i := 809) (by decide +kernel)⟩
theorem lw_p21 : lw_okq (⟨"CashMachineModel", "fate", "()I"⟩, 30) := ⟨⟨by decide +kernel, by decide +kernel⟩, List.mem_of_getElem? (i := 655) (by decide +kernel), List.mem_of_getElem? (i := 812) (by decide +kernel), List.mem_of_getElem? (i := 813) (by decide +kernel)⟩
theorem lw_p22 : lw_okq (⟨"CashMachineModel", "request", "(I)V"⟩, 30) := ⟨⟨by decide +kernel, by decide +kernel⟩, List.mem_of_getElem? (i := 655) (by decide +kernel), List.mem_of_getElem? (i := 816) (by decide +kernel), List.mem_of_getElem? (i := 817) (by decide +kernel)⟩
theorem lw_p23 : lw_okq (⟨"CashMachineModel", "owe", "(II)V"⟩, 30) := ⟨⟨by decide +kernel, by decide +kernel⟩, List.mem_of_getElem? (i := 655) (by decide +kernel), List.mem_of_getElem? (i := 820) (by decide +kernel), List.mem_of_getElem? (i := 821) (by decide +kernel)⟩
theorem lw_p24 : lw_okq (⟨"CashMachineModel", "pay", "(I)V"⟩, 30) := ⟨⟨by decide +kernel, by decide +kernel⟩, List.mem_of_getElem? (i := 655) (by decide +kernel), List.mem_of_getElem? (i := 824) (by decide +kernel), List.mem_of_getElem? (i := 825) (by decide +kernel)⟩
theorem lw_p25 : lw_okq (⟨"CashMachineModel", "greatest", "(I)I"⟩, 30) := ⟨⟨by decide +kernel, by decide +kernel⟩, List.mem_of_getElem? (i := 655) (by decide +kernel), List.mem_of_getElem? (i := 828) (by decide +kernel), List.mem_of_getElem? (i := 829) (by decide +kernel)⟩
theorem lw_p26 : lw_okq (⟨"CashMachineModel", "finish", "(II)V"⟩, 30) := ⟨⟨by decide +kernel, by decide +kernel⟩, List.mem_of_getElem? (i := 655) (by decide +kernel), List.mem_of_getElem? (i := 832) (by decide +kernel), List.mem_of_getElem? (i := 833) (by decide +kernel)⟩
theorem lw_p27 : lw_okq (⟨"CashMachineModel", "reversalCame", "(II)V"⟩, 30) := ⟨⟨by decide +kernel, by decide +kernel⟩, List.mem_of_getElem? (i := 655) (by decide +kernel), List.mem_of_getElem? (i := 860) (by decide +kernel), List.mem_of_getElem? (i := 861) (by decide +kernel)⟩
def lw_privs_2 : List (MethodName × Nat) := [(⟨"CashMachineModel", "thirds", "(IIIZ)Z"⟩, 30), (⟨"CashMachineModel", "better", "(IIIIZ)Z"⟩, 30), (⟨"CashMachineModel", "notesOf", "(IIII)I"⟩, 30), (⟨"CashMachineModel", "give", "(I)I"⟩, 30), (⟨"CashMachineModel", "cut", "(I)Z"⟩, 30), (⟨"CashMachineModel", "fate", "()I"⟩, 30), (⟨"CashMachineModel", "request", "(I)V"⟩, 30), (⟨"CashMachineModel", "owe", "(II)V"⟩, 30), (⟨"CashMachineModel", "pay", "(I)V"⟩, 30), (⟨"CashMachineModel", "greatest", "(I)I"⟩, 30), (⟨"CashMachineModel", "finish", "(II)V"⟩, 30), (⟨"CashMachineModel", "reversalCame", "(II)V"⟩, 30)]
theorem lw_r2 : ∀ q ∈ lw_privs_2, lw_okq q := List.forall_mem_cons.mpr ⟨lw_p16, List.forall_mem_cons.mpr ⟨lw_p17, List.forall_mem_cons.mpr ⟨lw_p18, List.forall_mem_cons.mpr ⟨lw_p19, List.forall_mem_cons.mpr ⟨lw_p20, List.forall_mem_cons.mpr ⟨lw_p21, List.forall_mem_cons.mpr ⟨lw_p22, List.forall_mem_cons.mpr ⟨lw_p23, List.forall_mem_cons.mpr ⟨lw_p24, List.forall_mem_cons.mpr ⟨lw_p25, List.forall_mem_cons.mpr ⟨lw_p26, List.forall_mem_cons.mpr ⟨lw_p27, fun _ h => absurd h List.not_mem_nil⟩⟩⟩⟩⟩⟩⟩⟩⟩⟩⟩⟩
def lw_privs : List (MethodName × Nat) := lw_privs_1 ++ (lw_privs_2)
def lw_tbl : List Cond := k2_sels lw_privs ++ tables_1
theorem lw_privs_ok : ∀ q ∈ lw_privs, lw_okq q := by
  show ∀ q ∈ lw_privs_1 ++ (lw_privs_2), lw_okq q
  exact List.forall_mem_append.mpr ⟨lw_r1, lw_r2⟩
-- ===== end of PART A; then your names; then what follows =====
/-! THE CLAIM OUT OF ONE WALK OF THE LAW'S BODY. Your part is whole_start (and what it stands on); all else here is the same for every law, but numbers. -/
def R_law : String := "CashMachineLaw"
def lw_P (b : Addr) (xs : List Int32) (args : Array Value) (s : State) : Prop := args = #[.ref b] ∧ s.IntsAt b xs ∧ xs.length ≤ 2048 ∧ (Jvm.Cond.and given_1 narrow_1).before args s = true
def lw_Q (_ : Array Value) (s : State) (o : Outcome) (t : State) : Prop := o = .returned (some (.int 1)) ∧ Framed s o t [] 601024 7293034
def lw_Z (below : List Frame) (a : Array Value) (s : State) : State → Prop := fun t => ∃ o, t.status = .running ∧ Ended t below o ∧ lw_Q a s o t
/-- the law's own end, with 1 on the stack, nothing written that was there before, its room as the claim has it -/
theorem lw_ret {p : Program} {l : Launch} {e : Env} {s : State} {m : MethodId} {below : List Frame} {meth : Method} {c : Code} {b : Nat} (hx : p.tables.exec = Jvm.exec) (hb : c.code = code) (hr : meth.sig.returnType = ret) (hlocks : meth.locks = false) {pc : Nat} {H : Heap} {ls : Array Slot} (hdg : decode code pc = .ok (.ireturn, 1)) : W p l e room_1 s m #[Value.ref b] below meth c H [] 601024 7293034 (lw_Z below #[Value.ref b] s) (F0 m pc ls [.int 1]) := by
  intro T hT X
  obtain ⟨fs, hret, hrun, hended, hW, hframe⟩ := X.leave (v := some (.int 1)) (hlocks := hlocks) (fun h => by rw [hr] at h; cases h)
  have hmeth' : T.vm.method? m = some meth := X.method'
  refine ⟨T.setFrames fs, ?_, .returned (some (.int 1)), hrun, hended, rfl, ⟨_, rfl⟩, hW, hframe⟩
  jvm_step X.here [X.here.top, hx, hb, hdg, hmeth', hr, ret, narrow_b1]
  (try refine ⟨rfl, ?_⟩); (try refine ⟨rfl, ?_⟩)
  first | (intro acts; rw [hret _ acts rfl rfl rfl]) | rw [hret _ _ rfl rfl rfl]
  exact Steps.refl _
/-- what holds at the law's entry: the machine, the code, the tables' words (any of lw_tbl by 'hts w (by decide +kernel)'), the script of L ints xs at the cell b, what the Statement gives of the start (any of its parts by flat_of_before) -/
def lw_At (p : Program) (s : State) (m : MethodId) (meth : Method) (c : Code) (b L : Nat) (xs : Nat → Int32) : Prop :=
  p.tables.exec = Jvm.exec ∧ c.code = code ∧ meth.sig.returnType = ret ∧ c.maxLocals = 7 ∧ s.vm.findClass R_law = some m.cls ∧ (∀ w ∈ lw_tbl, w.before #[Value.ref b] s = true) ∧ va_X b L xs s s.heap ∧ b < s.heap.size ∧ meth.locks = false ∧ (Jvm.Cond.and given_1 narrow_1).before #[Value.ref b] s = true
end
section
/-! THE LAYER: a method's frame with its locals as a list (the first entry of a number counts), its world as a predicate of numbers. A row an instruction. -/
def ja_T : List Cond := lw_tbl.filter goodWord
abbrev ja_S : Type := Nat → Nat → Int32
def ja_lk : List (Nat × Value) → Nat → Option Value
  | [], _ => none
  | (j, v) :: t, i => match Nat.beq j i with
    | true => some v
    | false => ja_lk t i
def ja_nd : List (Nat × Value) → List (Nat × Value)
  | [] => []
  | (i, v) :: t => (i, v) :: (ja_nd t).filter (fun q => !(q.1 == i))
def ja_L (ls : Array Slot) (n : Nat) (L : List (Nat × Value)) : Prop := lv_has ls n (ja_nd L) ∧ ∀ q ∈ L, q.2.category = 1
theorem ja_nd_mem : ∀ {L : List (Nat × Value)} {q : Nat × Value}, q ∈ ja_nd L → q ∈ L
  | [], _, h => h
  | (i, v) :: t, q, h => by
    rcases List.mem_cons.mp h with h | h
    · exact h ▸ List.mem_cons_self
    · exact List.mem_cons_of_mem _ (ja_nd_mem ((List.mem_filter.mp h).1))
theorem ja_lk_mem : ∀ {L : List (Nat × Value)} {i : Nat} {v : Value}, ja_lk L i = some v → (i, v) ∈ ja_nd L
  | [], _, _, h => by cases h
  | (j, w) :: t, i, v, h => by
    unfold ja_lk at h
    cases hb : Nat.beq j i with
    | true =>
      rw [hb] at h
      have e1 : j = i := Nat.eq_of_beq_eq_true hb
      have e2 : w = v := Option.some.inj h
      subst e1; subst e2
      exact List.mem_cons_self
    | false =>
      rw [hb] at h
      have e1 : j ≠ i := Nat.ne_of_beq_eq_false hb
      refine List.mem_cons_of_mem _ (List.mem_filter.mpr ⟨ja_lk_mem h, ?_⟩)
      simpa using fun q => e1 q.symm
theorem ja_at {ls : Array Slot} {n i : Nat} {L : List (Nat × Value)} {v : Value} (h : ja_L ls n L) (k : ja_lk L i = some v) : ls[i]? = some (.val v) := h.1.2.2 (i, v) (ja_lk_mem k)
theorem ja_st {ls : Array Slot} {n i : Nat} {L : List (Nat × Value)} {v : Value} (h : ja_L ls n L) : (i, v) :: (ja_nd L).filter (fun q => !(q.1 == i) && !(q.1 + 1 == i && q.2.category == 2)) = ja_nd ((i, v) :: L) := by
  show _ = (i, v) :: (ja_nd L).filter (fun q => !(q.1 == i))
  congr 1
  refine List.filter_congr fun q hq => ?_
  have := h.2 q (ja_nd_mem hq)
  simp [this]
theorem ja_L.cons {ls ls' : Array Slot} {n i : Nat} {L : List (Nat × Value)} {v : Value} (h : ja_L ls n L) (hv : v.category = 1) (h' : lv_has ls' n (ja_nd ((i, v) :: L))) : ja_L ls' n ((i, v) :: L) :=
  ⟨h', fun q hq => by
    rcases List.mem_cons.mp hq with e | e
    · subst e; exact hv
    · exact h.2 q e⟩
/-- fewer locals: each of the new list is what the old one holds -/
def ja_sub (L : List (Nat × Value)) : List (Nat × Value) → Prop
  | [] => True
  | q :: t => ja_lk L q.1 = some q.2 ∧ ja_sub L t
theorem ja_sub_mem {L : List (Nat × Value)} : ∀ {L' : List (Nat × Value)}, ja_sub L L' → ∀ q ∈ L', ja_lk L q.1 = some q.2
  | [], _, _, h => by cases h
  | q :: t, hs, r, hr => by
    rcases List.mem_cons.mp hr with e | e
    · subst e; exact hs.1
    · exact ja_sub_mem hs.2 r e
theorem ja_L.less {ls : Array Slot} {n : Nat} {L L' : List (Nat × Value)} (h : ja_L ls n L) (hs : ja_sub L L') : ja_L ls n L' :=
  ⟨⟨h.1.1, h.1.2.1, fun q hq => h.1.2.2 q (ja_lk_mem (ja_sub_mem hs q (ja_nd_mem hq)))⟩, fun q hq => h.2 q (ja_nd_mem (ja_lk_mem (ja_sub_mem hs q hq)))⟩
section JA
variable {p : Program} {l : Launch} {e : Env} {R : Room} {s : State} {m : MethodId} {args : Array Value} {below : List Frame} {meth : Method} {c : Code} {Wp : ja_S → Heap → Prop} {b0 nL cells slots : Nat} {Q : State → Prop} {S : ja_S} {pc q : Nat} {L : List (Nat × Value)} {st : List Value} {cc : ByteArray} {own : String}
def ja_V (p : Program) (l : Launch) (e : Env) (R : Room) (s : State) (m : MethodId) (args : Array Value) (below : List Frame) (meth : Method) (c : Code) (Wp : ja_S → Heap → Prop) (b0 nL cells slots : Nat) (Q : State → Prop) (S : ja_S) (pc : Nat) (L : List (Nat × Value)) (st : List Value) : Prop :=
  ∀ (ls : Array Slot) (H : Heap) (locs : List Loc), ja_L ls nL L → Wp S H → va_S (fun q => b0 ≤ q) s.heap H locs → W p l e R s m args below meth c H locs cells slots Q (F0 m pc ls st)
theorem ja_less {L' : List (Nat × Value)} (h : ja_sub L L') (k : ja_V p l e R s m args below meth c Wp b0 nL cells slots Q S pc L' st) : ja_V p l e R s m args below meth c Wp b0 nL cells slots Q S pc L st := fun ls H locs hL hP hS => k ls H locs (hL.less h) hP hS
theorem ja_wide {k n : Nat} (h1 : cells ≤ k) (h2 : slots ≤ n) (kk : ja_V p l e R s m args below meth c Wp b0 nL k n Q S pc L st) : ja_V p l e R s m args below meth c Wp b0 nL cells slots Q S pc L st := fun ls H locs hL hP hS => W.widen h1 h2 (kk ls H locs hL hP hS)

theorem ja_iconst {X : Prop} (O : CallFix p m c cc nL s args ja_T own ∧ X) {n : Int} {v : Int32} (hd : decode cc pc = .ok (.iconst n, 1)) (hp : pc + 1 = q) (hv : Int32.ofInt n = v) (k : ja_V p l e R s m args below meth c Wp b0 nL cells slots Q S q L (.int v :: st)) : ja_V p l e R s m args below meth c Wp b0 nL cells slots Q S pc L (st) := by
  subst hp; exact fun ls H locs hL hP hS => lv_iconst O.1.1 O.1.2.1 hd hv (k ls H locs hL hP hS)
theorem ja_bipush {X : Prop} (O : CallFix p m c cc nL s args ja_T own ∧ X) {n : Int} {v : Int32} (hd : decode cc pc = .ok (.bipush n, 2)) (hp : pc + 2 = q) (hv : (Int8.ofInt n).toInt32 = v) (k : ja_V p l e R s m args below meth c Wp b0 nL cells slots Q S q L (.int v :: st)) : ja_V p l e R s m args below meth c Wp b0 nL cells slots Q S pc L (st) := by
  subst hp; exact fun ls H locs hL hP hS => lv_bipush O.1.1 O.1.2.1 hd hv (k ls H locs hL hP hS)
theorem ja_sipush {X : Prop} (O : CallFix p m c cc nL s args ja_T own ∧ X) {n : Int} {v : Int32} (hd : decode cc pc = .ok (.sipush n, 3)) (hp : pc + 3 = q) (hv : (Int16.ofInt n).toInt32 = v) (k : ja_V p l e R s m args below meth c Wp b0 nL cells slots Q S q L (.int v :: st)) : ja_V p l e R s m args below meth c Wp b0 nL cells slots Q S pc L (st) := by
  subst hp; exact fun ls H locs hL hP hS => lv_sipush O.1.1 O.1.2.1 hd hv (k ls H locs hL hP hS)
theorem ja_null {X : Prop} (O : CallFix p m c cc nL s args ja_T own ∧ X)  (hd : decode cc pc = .ok (.aconst_null, 1)) (hp : pc + 1 = q)  (k : ja_V p l e R s m args below meth c Wp b0 nL cells slots Q S q L (.null :: st)) : ja_V p l e R s m args below meth c Wp b0 nL cells slots Q S pc L (st) := by
  subst hp; exact fun ls H locs hL hP hS => lv_null O.1.1 O.1.2.1 hd  (k ls H locs hL hP hS)
theorem ja_ldc {X : Prop} (O : CallFix p m c cc nL s args ja_T own ∧ X) {i : Nat} {v : Int32} (hd : decode cc pc = .ok (.ldc i, 2)) (hp : pc + 2 = q) (hv : Jvm.Cond.constant own i v ∈ ja_T) (k : ja_V p l e R s m args below meth c Wp b0 nL cells slots Q S q L (.int v :: st)) : ja_V p l e R s m args below meth c Wp b0 nL cells slots Q S pc L (st) := by
  subst hp; exact fun ls H locs hL hP hS => lv_ldc O.1.1 O.1.2.1 O.1.2.2.2.1 (O.1.2.2.2.2 _ hv) hd (k ls H locs hL hP hS)
theorem ja_iload_n {X : Prop} (O : CallFix p m c cc nL s args ja_T own ∧ X) {z : Fin 4} {i : Nat} {x : Int32} (hd : decode cc pc = .ok (.iload_n z, 1)) (hp : pc + 1 = q) (hi : (z : Nat) = i) (hl : ja_lk L i = some (.int x)) (k : ja_V p l e R s m args below meth c Wp b0 nL cells slots Q S q L (.int x :: st)) : ja_V p l e R s m args below meth c Wp b0 nL cells slots Q S pc L (st) := by
  subst hp; exact fun ls H locs hL hP hS => lv_iload_n O.1.1 O.1.2.1 hd hi (ja_at hL hl) (k ls H locs hL hP hS)
theorem ja_iload {X : Prop} (O : CallFix p m c cc nL s args ja_T own ∧ X) {i : Nat} {x : Int32} (hd : decode cc pc = .ok (.iload i, 2)) (hp : pc + 2 = q) (hl : ja_lk L i = some (.int x)) (k : ja_V p l e R s m args below meth c Wp b0 nL cells slots Q S q L (.int x :: st)) : ja_V p l e R s m args below meth c Wp b0 nL cells slots Q S pc L (st) := by
  subst hp; exact fun ls H locs hL hP hS => lv_iload O.1.1 O.1.2.1 hd (ja_at hL hl) (k ls H locs hL hP hS)
theorem ja_istore_n {X : Prop} (O : CallFix p m c cc nL s args ja_T own ∧ X) {z : Fin 4} {i : Nat} {x : Int32} (hd : decode cc pc = .ok (.istore_n z, 1)) (hp : pc + 1 = q) (hi : (z : Nat) = i) (hn : i < nL) (k : ja_V p l e R s m args below meth c Wp b0 nL cells slots Q S q ((i, .int x) :: L) st) : ja_V p l e R s m args below meth c Wp b0 nL cells slots Q S pc L (.int x :: st) := by
  subst hp; exact fun ls H locs hL hP hS => lv_istore_n O.1.1 O.1.2.1 hd hi hL.1 hn (ja_st hL) (fun ls' hl => k ls' H locs (hL.cons rfl hl) hP hS)
theorem ja_istore {X : Prop} (O : CallFix p m c cc nL s args ja_T own ∧ X) {i : Nat} {x : Int32} (hd : decode cc pc = .ok (.istore i, 2)) (hp : pc + 2 = q) (hn : i < nL) (k : ja_V p l e R s m args below meth c Wp b0 nL cells slots Q S q ((i, .int x) :: L) st) : ja_V p l e R s m args below meth c Wp b0 nL cells slots Q S pc L (.int x :: st) := by
  subst hp; exact fun ls H locs hL hP hS => lv_istore O.1.1 O.1.2.1 hd hL.1 hn (ja_st hL) (fun ls' hl => k ls' H locs (hL.cons rfl hl) hP hS)
theorem ja_aload_n {X : Prop} (O : CallFix p m c cc nL s args ja_T own ∧ X) {z : Fin 4} {i : Nat} {x : Nat} (hd : decode cc pc = .ok (.aload_n z, 1)) (hp : pc + 1 = q) (hi : (z : Nat) = i) (hl : ja_lk L i = some (.ref x)) (k : ja_V p l e R s m args below meth c Wp b0 nL cells slots Q S q L (.ref x :: st)) : ja_V p l e R s m args below meth c Wp b0 nL cells slots Q S pc L (st) := by
  subst hp; exact fun ls H locs hL hP hS => lv_aload_n O.1.1 O.1.2.1 hd hi (ja_at hL hl) (k ls H locs hL hP hS)
theorem ja_aload {X : Prop} (O : CallFix p m c cc nL s args ja_T own ∧ X) {i : Nat} {x : Nat} (hd : decode cc pc = .ok (.aload i, 2)) (hp : pc + 2 = q) (hl : ja_lk L i = some (.ref x)) (k : ja_V p l e R s m args below meth c Wp b0 nL cells slots Q S q L (.ref x :: st)) : ja_V p l e R s m args below meth c Wp b0 nL cells slots Q S pc L (st) := by
  subst hp; exact fun ls H locs hL hP hS => lv_aload O.1.1 O.1.2.1 hd (ja_at hL hl) (k ls H locs hL hP hS)
theorem ja_astore_n {X : Prop} (O : CallFix p m c cc nL s args ja_T own ∧ X) {z : Fin 4} {i : Nat} {x : Nat} (hd : decode cc pc = .ok (.astore_n z, 1)) (hp : pc + 1 = q) (hi : (z : Nat) = i) (hn : i < nL) (k : ja_V p l e R s m args below meth c Wp b0 nL cells slots Q S q ((i, .ref x) :: L) st) : ja_V p l e R s m args below meth c Wp b0 nL cells slots Q S pc L (.ref x :: st) := by
  subst hp; exact fun ls H locs hL hP hS => lv_astore_n O.1.1 O.1.2.1 hd hi hL.1 hn (ja_st hL) (fun ls' hl => k ls' H locs (hL.cons rfl hl) hP hS)
theorem ja_astore {X : Prop} (O : CallFix p m c cc nL s args ja_T own ∧ X) {i : Nat} {x : Nat} (hd : decode cc pc = .ok (.astore i, 2)) (hp : pc + 2 = q) (hn : i < nL) (k : ja_V p l e R s m args below meth c Wp b0 nL cells slots Q S q ((i, .ref x) :: L) st) : ja_V p l e R s m args below meth c Wp b0 nL cells slots Q S pc L (.ref x :: st) := by
  subst hp; exact fun ls H locs hL hP hS => lv_astore O.1.1 O.1.2.1 hd hL.1 hn (ja_st hL) (fun ls' hl => k ls' H locs (hL.cons rfl hl) hP hS)
theorem ja_iinc {X : Prop} (O : CallFix p m c cc nL s args ja_T own ∧ X) {i : Nat} {n : Int} {x v : Int32} (hd : decode cc pc = .ok (.iinc i n, 3)) (hp : pc + 3 = q) (hl : ja_lk L i = some (.int x)) (hv : x + Int32.ofInt n = v) (hn : i < nL) (k : ja_V p l e R s m args below meth c Wp b0 nL cells slots Q S q ((i, .int v) :: L) st) : ja_V p l e R s m args below meth c Wp b0 nL cells slots Q S pc L st := by
  subst hp; intro ls H locs hL hP hS; obtain ⟨j, hj⟩ := List.getElem?_of_mem (ja_lk_mem hl); exact lv_iinc O.1.1 O.1.2.1 hd hL.1 hj hv hn (ja_st hL) (fun ls' h => k ls' H locs (hL.cons rfl h) hP hS)
theorem ja_iadd {X : Prop} (O : CallFix p m c cc nL s args ja_T own ∧ X) {x y : Int32} (hd : decode cc pc = .ok (.iadd, 1)) (hp : pc + 1 = q)  (k : ja_V p l e R s m args below meth c Wp b0 nL cells slots Q S q L (.int (x + y) :: st)) : ja_V p l e R s m args below meth c Wp b0 nL cells slots Q S pc L (.int y :: .int x :: st) := by
  subst hp; exact fun ls H locs hL hP hS => lv_iadd O.1.1 O.1.2.1 hd  (k ls H locs hL hP hS)
theorem ja_isub {X : Prop} (O : CallFix p m c cc nL s args ja_T own ∧ X) {x y : Int32} (hd : decode cc pc = .ok (.isub, 1)) (hp : pc + 1 = q)  (k : ja_V p l e R s m args below meth c Wp b0 nL cells slots Q S q L (.int (x - y) :: st)) : ja_V p l e R s m args below meth c Wp b0 nL cells slots Q S pc L (.int y :: .int x :: st) := by
  subst hp; exact fun ls H locs hL hP hS => lv_isub O.1.1 O.1.2.1 hd  (k ls H locs hL hP hS)
theorem ja_imul {X : Prop} (O : CallFix p m c cc nL s args ja_T own ∧ X) {x y : Int32} (hd : decode cc pc = .ok (.imul, 1)) (hp : pc + 1 = q)  (k : ja_V p l e R s m args below meth c Wp b0 nL cells slots Q S q L (.int (x * y) :: st)) : ja_V p l e R s m args below meth c Wp b0 nL cells slots Q S pc L (.int y :: .int x :: st) := by
  subst hp; exact fun ls H locs hL hP hS => lv_imul O.1.1 O.1.2.1 hd  (k ls H locs hL hP hS)
theorem ja_iand {X : Prop} (O : CallFix p m c cc nL s args ja_T own ∧ X) {x y : Int32} (hd : decode cc pc = .ok (.iand, 1)) (hp : pc + 1 = q)  (k : ja_V p l e R s m args below meth c Wp b0 nL cells slots Q S q L (.int (x &&& y) :: st)) : ja_V p l e R s m args below meth c Wp b0 nL cells slots Q S pc L (.int y :: .int x :: st) := by
  subst hp; exact fun ls H locs hL hP hS => lv_iand O.1.1 O.1.2.1 hd  (k ls H locs hL hP hS)
theorem ja_ior {X : Prop} (O : CallFix p m c cc nL s args ja_T own ∧ X) {x y : Int32} (hd : decode cc pc = .ok (.ior, 1)) (hp : pc + 1 = q)  (k : ja_V p l e R s m args below meth c Wp b0 nL cells slots Q S q L (.int (x ||| y) :: st)) : ja_V p l e R s m args below meth c Wp b0 nL cells slots Q S pc L (.int y :: .int x :: st) := by
  subst hp; exact fun ls H locs hL hP hS => lv_ior O.1.1 O.1.2.1 hd  (k ls H locs hL hP hS)
theorem ja_ishl {X : Prop} (O : CallFix p m c cc nL s args ja_T own ∧ X) {x y : Int32} (hd : decode cc pc = .ok (.ishl, 1)) (hp : pc + 1 = q)  (k : ja_V p l e R s m args below meth c Wp b0 nL cells slots Q S q L (.int (x <<< (y &&& 31)) :: st)) : ja_V p l e R s m args below meth c Wp b0 nL cells slots Q S pc L (.int y :: .int x :: st) := by
  subst hp; exact fun ls H locs hL hP hS => lv_ishl O.1.1 O.1.2.1 hd  (k ls H locs hL hP hS)
theorem ja_idiv {X : Prop} (O : CallFix p m c cc nL s args ja_T own ∧ X) {x y : Int32} (hd : decode cc pc = .ok (.idiv, 1)) (hp : pc + 1 = q) (hne : ¬ y = 0) (k : ja_V p l e R s m args below meth c Wp b0 nL cells slots Q S q L (.int (x / y) :: st)) : ja_V p l e R s m args below meth c Wp b0 nL cells slots Q S pc L (.int y :: .int x :: st) := by
  subst hp; exact fun ls H locs hL hP hS => lv_idiv O.1.1 O.1.2.1 hd hne (k ls H locs hL hP hS)
theorem ja_irem {X : Prop} (O : CallFix p m c cc nL s args ja_T own ∧ X) {x y : Int32} (hd : decode cc pc = .ok (.irem, 1)) (hp : pc + 1 = q) (hne : ¬ y = 0) (k : ja_V p l e R s m args below meth c Wp b0 nL cells slots Q S q L (.int (x - x / y * y) :: st)) : ja_V p l e R s m args below meth c Wp b0 nL cells slots Q S pc L (.int y :: .int x :: st) := by
  subst hp; exact fun ls H locs hL hP hS => lv_irem O.1.1 O.1.2.1 hd hne (k ls H locs hL hP hS)
theorem ja_ineg {X : Prop} (O : CallFix p m c cc nL s args ja_T own ∧ X) {x : Int32} (hd : decode cc pc = .ok (.ineg, 1)) (hp : pc + 1 = q)  (k : ja_V p l e R s m args below meth c Wp b0 nL cells slots Q S q L (.int (-x) :: st)) : ja_V p l e R s m args below meth c Wp b0 nL cells slots Q S pc L (.int x :: st) := by
  subst hp; exact fun ls H locs hL hP hS => lv_ineg O.1.1 O.1.2.1 hd  (k ls H locs hL hP hS)
theorem ja_dup {X : Prop} (O : CallFix p m c cc nL s args ja_T own ∧ X) {x : Value} (hd : decode cc pc = .ok (.dup, 1)) (hp : pc + 1 = q) (hx : x.category = 1) (k : ja_V p l e R s m args below meth c Wp b0 nL cells slots Q S q L (x :: x :: st)) : ja_V p l e R s m args below meth c Wp b0 nL cells slots Q S pc L (x :: st) := by
  subst hp; exact fun ls H locs hL hP hS => lv_dup O.1.1 O.1.2.1 hd hx (k ls H locs hL hP hS)
theorem ja_pop {X : Prop} (O : CallFix p m c cc nL s args ja_T own ∧ X) {x : Value} (hd : decode cc pc = .ok (.pop, 1)) (hp : pc + 1 = q) (hx : x.category = 1) (k : ja_V p l e R s m args below meth c Wp b0 nL cells slots Q S q L (st)) : ja_V p l e R s m args below meth c Wp b0 nL cells slots Q S pc L (x :: st) := by
  subst hp; exact fun ls H locs hL hP hS => lv_pop O.1.1 O.1.2.1 hd hx (k ls H locs hL hP hS)
theorem ja_dup_x1 {X : Prop} (O : CallFix p m c cc nL s args ja_T own ∧ X) {x y : Value} (hd : decode cc pc = .ok (.dup_x1, 1)) (hp : pc + 1 = q) (hx : x.category = 1) (hy : y.category = 1) (k : ja_V p l e R s m args below meth c Wp b0 nL cells slots Q S q L (x :: y :: x :: st)) : ja_V p l e R s m args below meth c Wp b0 nL cells slots Q S pc L (x :: y :: st) := by
  subst hp; exact fun ls H locs hL hP hS => lv_dup_x1 O.1.1 O.1.2.1 hd hx hy (k ls H locs hL hP hS)
theorem ja_dup_x2 {X : Prop} (O : CallFix p m c cc nL s args ja_T own ∧ X) {x y z : Value} (hd : decode cc pc = .ok (.dup_x2, 1)) (hp : pc + 1 = q) (hx : x.category = 1) (hy : y.category = 1) (hz : z.category = 1) (k : ja_V p l e R s m args below meth c Wp b0 nL cells slots Q S q L (x :: y :: z :: x :: st)) : ja_V p l e R s m args below meth c Wp b0 nL cells slots Q S pc L (x :: y :: z :: st) := by
  subst hp; exact fun ls H locs hL hP hS => lv_dup_x2 O.1.1 O.1.2.1 hd hx hy hz (k ls H locs hL hP hS)
theorem ja_dup2 {X : Prop} (O : CallFix p m c cc nL s args ja_T own ∧ X) {x y : Value} (hd : decode cc pc = .ok (.dup2, 1)) (hp : pc + 1 = q) (hx : x.category = 1) (hy : y.category = 1) (k : ja_V p l e R s m args below meth c Wp b0 nL cells slots Q S q L (x :: y :: x :: y :: st)) : ja_V p l e R s m args below meth c Wp b0 nL cells slots Q S pc L (x :: y :: st) := by
  subst hp; exact fun ls H locs hL hP hS => lv_dup2_11 O.1.1 O.1.2.1 hd hx hy (k ls H locs hL hP hS)
theorem ja_i2l {X : Prop} (O : CallFix p m c cc nL s args ja_T own ∧ X) {x : Int32} (hd : decode cc pc = .ok (.i2l, 1)) (hp : pc + 1 = q)  (k : ja_V p l e R s m args below meth c Wp b0 nL cells slots Q S q L (.long x.toInt64 :: st)) : ja_V p l e R s m args below meth c Wp b0 nL cells slots Q S pc L (.int x :: st) := by
  subst hp; exact fun ls H locs hL hP hS => lv_i2l O.1.1 O.1.2.1 hd rfl (k ls H locs hL hP hS)
theorem ja_lcmp {X : Prop} (O : CallFix p m c cc nL s args ja_T own ∧ X) {x y : Int64} (hd : decode cc pc = .ok (.lcmp, 1)) (hp : pc + 1 = q)  (k : ja_V p l e R s m args below meth c Wp b0 nL cells slots Q S q L (.int (lg_cmp x y) :: st)) : ja_V p l e R s m args below meth c Wp b0 nL cells slots Q S pc L (.long y :: .long x :: st) := by
  subst hp; exact fun ls H locs hL hP hS => W.lcmp O.1.1 O.1.2.1 hd  (k ls H locs hL hP hS)
theorem ja_if_eq {X : Prop} (O : CallFix p m c cc nL s args ja_T own ∧ X) {x : Int32} {off : Int} {g : Nat} (hd : decode cc pc = .ok (.ifCond .eq off, 3)) (ht : (pc : Int) + off = (g : Int)) (hp : pc + 3 = q) (kt : x = 0 → ja_V p l e R s m args below meth c Wp b0 nL cells slots Q S g L st) (kf : ¬ x = 0 → ja_V p l e R s m args below meth c Wp b0 nL cells slots Q S q L st) : ja_V p l e R s m args below meth c Wp b0 nL cells slots Q S pc L (.int x :: st) := by
  subst hp; exact fun ls H locs hL hP hS => lv_if_eq O.1.1 O.1.2.1 hd ht (fun h => kt h ls H locs hL hP hS) (fun h => kf h ls H locs hL hP hS)
theorem ja_if_ne {X : Prop} (O : CallFix p m c cc nL s args ja_T own ∧ X) {x : Int32} {off : Int} {g : Nat} (hd : decode cc pc = .ok (.ifCond .ne off, 3)) (ht : (pc : Int) + off = (g : Int)) (hp : pc + 3 = q) (kt : ¬ x = 0 → ja_V p l e R s m args below meth c Wp b0 nL cells slots Q S g L st) (kf : x = 0 → ja_V p l e R s m args below meth c Wp b0 nL cells slots Q S q L st) : ja_V p l e R s m args below meth c Wp b0 nL cells slots Q S pc L (.int x :: st) := by
  subst hp; exact fun ls H locs hL hP hS => lv_if_ne O.1.1 O.1.2.1 hd ht (fun h => kt h ls H locs hL hP hS) (fun h => kf h ls H locs hL hP hS)
theorem ja_if_lt {X : Prop} (O : CallFix p m c cc nL s args ja_T own ∧ X) {x : Int32} {off : Int} {g : Nat} (hd : decode cc pc = .ok (.ifCond .lt off, 3)) (ht : (pc : Int) + off = (g : Int)) (hp : pc + 3 = q) (kt : x < 0 → ja_V p l e R s m args below meth c Wp b0 nL cells slots Q S g L st) (kf : ¬ x < 0 → ja_V p l e R s m args below meth c Wp b0 nL cells slots Q S q L st) : ja_V p l e R s m args below meth c Wp b0 nL cells slots Q S pc L (.int x :: st) := by
  subst hp; exact fun ls H locs hL hP hS => lv_if_lt O.1.1 O.1.2.1 hd ht (fun h => kt h ls H locs hL hP hS) (fun h => kf h ls H locs hL hP hS)
theorem ja_if_ge {X : Prop} (O : CallFix p m c cc nL s args ja_T own ∧ X) {x : Int32} {off : Int} {g : Nat} (hd : decode cc pc = .ok (.ifCond .ge off, 3)) (ht : (pc : Int) + off = (g : Int)) (hp : pc + 3 = q) (kt : 0 ≤ x → ja_V p l e R s m args below meth c Wp b0 nL cells slots Q S g L st) (kf : ¬ 0 ≤ x → ja_V p l e R s m args below meth c Wp b0 nL cells slots Q S q L st) : ja_V p l e R s m args below meth c Wp b0 nL cells slots Q S pc L (.int x :: st) := by
  subst hp; exact fun ls H locs hL hP hS => lv_if_ge O.1.1 O.1.2.1 hd ht (fun h => kt h ls H locs hL hP hS) (fun h => kf h ls H locs hL hP hS)
theorem ja_if_gt {X : Prop} (O : CallFix p m c cc nL s args ja_T own ∧ X) {x : Int32} {off : Int} {g : Nat} (hd : decode cc pc = .ok (.ifCond .gt off, 3)) (ht : (pc : Int) + off = (g : Int)) (hp : pc + 3 = q) (kt : 0 < x → ja_V p l e R s m args below meth c Wp b0 nL cells slots Q S g L st) (kf : ¬ 0 < x → ja_V p l e R s m args below meth c Wp b0 nL cells slots Q S q L st) : ja_V p l e R s m args below meth c Wp b0 nL cells slots Q S pc L (.int x :: st) := by
  subst hp; exact fun ls H locs hL hP hS => lv_if_gt O.1.1 O.1.2.1 hd ht (fun h => kt h ls H locs hL hP hS) (fun h => kf h ls H locs hL hP hS)
theorem ja_if_le {X : Prop} (O : CallFix p m c cc nL s args ja_T own ∧ X) {x : Int32} {off : Int} {g : Nat} (hd : decode cc pc = .ok (.ifCond .le off, 3)) (ht : (pc : Int) + off = (g : Int)) (hp : pc + 3 = q) (kt : x ≤ 0 → ja_V p l e R s m args below meth c Wp b0 nL cells slots Q S g L st) (kf : ¬ x ≤ 0 → ja_V p l e R s m args below meth c Wp b0 nL cells slots Q S q L st) : ja_V p l e R s m args below meth c Wp b0 nL cells slots Q S pc L (.int x :: st) := by
  subst hp; exact fun ls H locs hL hP hS => lv_if_le O.1.1 O.1.2.1 hd ht (fun h => kt h ls H locs hL hP hS) (fun h => kf h ls H locs hL hP hS)
theorem ja_icmp_eq {X : Prop} (O : CallFix p m c cc nL s args ja_T own ∧ X) {x y : Int32} {off : Int} {g : Nat} (hd : decode cc pc = .ok (.if_icmp .eq off, 3)) (ht : (pc : Int) + off = (g : Int)) (hp : pc + 3 = q) (kt : x = y → ja_V p l e R s m args below meth c Wp b0 nL cells slots Q S g L st) (kf : ¬ x = y → ja_V p l e R s m args below meth c Wp b0 nL cells slots Q S q L st) : ja_V p l e R s m args below meth c Wp b0 nL cells slots Q S pc L (.int y :: .int x :: st) := by
  subst hp; exact fun ls H locs hL hP hS => lv_icmp_eq O.1.1 O.1.2.1 hd ht (fun h => kt h ls H locs hL hP hS) (fun h => kf h ls H locs hL hP hS)
theorem ja_icmp_ne {X : Prop} (O : CallFix p m c cc nL s args ja_T own ∧ X) {x y : Int32} {off : Int} {g : Nat} (hd : decode cc pc = .ok (.if_icmp .ne off, 3)) (ht : (pc : Int) + off = (g : Int)) (hp : pc + 3 = q) (kt : ¬ x = y → ja_V p l e R s m args below meth c Wp b0 nL cells slots Q S g L st) (kf : x = y → ja_V p l e R s m args below meth c Wp b0 nL cells slots Q S q L st) : ja_V p l e R s m args below meth c Wp b0 nL cells slots Q S pc L (.int y :: .int x :: st) := by
  subst hp; exact fun ls H locs hL hP hS => lv_icmp_ne O.1.1 O.1.2.1 hd ht (fun h => kt h ls H locs hL hP hS) (fun h => kf h ls H locs hL hP hS)
theorem ja_icmp_lt {X : Prop} (O : CallFix p m c cc nL s args ja_T own ∧ X) {x y : Int32} {off : Int} {g : Nat} (hd : decode cc pc = .ok (.if_icmp .lt off, 3)) (ht : (pc : Int) + off = (g : Int)) (hp : pc + 3 = q) (kt : x < y → ja_V p l e R s m args below meth c Wp b0 nL cells slots Q S g L st) (kf : ¬ x < y → ja_V p l e R s m args below meth c Wp b0 nL cells slots Q S q L st) : ja_V p l e R s m args below meth c Wp b0 nL cells slots Q S pc L (.int y :: .int x :: st) := by
  subst hp; exact fun ls H locs hL hP hS => lv_icmp_lt O.1.1 O.1.2.1 hd ht (fun h => kt h ls H locs hL hP hS) (fun h => kf h ls H locs hL hP hS)
theorem ja_icmp_ge {X : Prop} (O : CallFix p m c cc nL s args ja_T own ∧ X) {x y : Int32} {off : Int} {g : Nat} (hd : decode cc pc = .ok (.if_icmp .ge off, 3)) (ht : (pc : Int) + off = (g : Int)) (hp : pc + 3 = q) (kt : y ≤ x → ja_V p l e R s m args below meth c Wp b0 nL cells slots Q S g L st) (kf : ¬ y ≤ x → ja_V p l e R s m args below meth c Wp b0 nL cells slots Q S q L st) : ja_V p l e R s m args below meth c Wp b0 nL cells slots Q S pc L (.int y :: .int x :: st) := by
  subst hp; exact fun ls H locs hL hP hS => lv_icmp_ge O.1.1 O.1.2.1 hd ht (fun h => kt h ls H locs hL hP hS) (fun h => kf h ls H locs hL hP hS)
theorem ja_icmp_gt {X : Prop} (O : CallFix p m c cc nL s args ja_T own ∧ X) {x y : Int32} {off : Int} {g : Nat} (hd : decode cc pc = .ok (.if_icmp .gt off, 3)) (ht : (pc : Int) + off = (g : Int)) (hp : pc + 3 = q) (kt : y < x → ja_V p l e R s m args below meth c Wp b0 nL cells slots Q S g L st) (kf : ¬ y < x → ja_V p l e R s m args below meth c Wp b0 nL cells slots Q S q L st) : ja_V p l e R s m args below meth c Wp b0 nL cells slots Q S pc L (.int y :: .int x :: st) := by
  subst hp; exact fun ls H locs hL hP hS => lv_icmp_gt O.1.1 O.1.2.1 hd ht (fun h => kt h ls H locs hL hP hS) (fun h => kf h ls H locs hL hP hS)
theorem ja_icmp_le {X : Prop} (O : CallFix p m c cc nL s args ja_T own ∧ X) {x y : Int32} {off : Int} {g : Nat} (hd : decode cc pc = .ok (.if_icmp .le off, 3)) (ht : (pc : Int) + off = (g : Int)) (hp : pc + 3 = q) (kt : x ≤ y → ja_V p l e R s m args below meth c Wp b0 nL cells slots Q S g L st) (kf : ¬ x ≤ y → ja_V p l e R s m args below meth c Wp b0 nL cells slots Q S q L st) : ja_V p l e R s m args below meth c Wp b0 nL cells slots Q S pc L (.int y :: .int x :: st) := by
  subst hp; exact fun ls H locs hL hP hS => lv_icmp_le O.1.1 O.1.2.1 hd ht (fun h => kt h ls H locs hL hP hS) (fun h => kf h ls H locs hL hP hS)
theorem ja_goto {X : Prop} (O : CallFix p m c cc nL s args ja_T own ∧ X) {off : Int} {g : Nat} (hd : decode cc pc = .ok (.goto off, 3)) (ht : (pc : Int) + off = (g : Int)) (k : ja_V p l e R s m args below meth c Wp b0 nL cells slots Q S g L st) : ja_V p l e R s m args below meth c Wp b0 nL cells slots Q S pc L st := by
  exact fun ls H locs hL hP hS => lv_goto O.1.1 O.1.2.1 hd ht (k ls H locs hL hP hS)
theorem ja_tableOut {X : Prop} (O : CallFix p m c cc nL s args ja_T own ∧ X) {dflt lo hi : Int} {offs : Array Int} {len g : Nat} {x : Int32} (hd : decode cc pc = .ok (.tableswitch dflt lo hi offs, len)) (h : x.toInt < lo ∨ hi < x.toInt) (ht : (pc : Int) + dflt = (g : Int)) (k : ja_V p l e R s m args below meth c Wp b0 nL cells slots Q S g L st) : ja_V p l e R s m args below meth c Wp b0 nL cells slots Q S pc L (.int x :: st) := by
  exact fun ls H locs hL hP hS => lv_tableOut O.1.1 O.1.2.1 hd h ht (k ls H locs hL hP hS)
theorem ja_tableIn {X : Prop} (O : CallFix p m c cc nL s args ja_T own ∧ X) {dflt lo hi off : Int} {offs : Array Int} {len g : Nat} {x : Int32} (hd : decode cc pc = .ok (.tableswitch dflt lo hi offs, len)) (h1 : ¬ x.toInt < lo) (h2 : ¬ hi < x.toInt) (ho : offs[(x.toInt - lo).toNat]? = some off) (ht : (pc : Int) + off = (g : Int)) (k : ja_V p l e R s m args below meth c Wp b0 nL cells slots Q S g L st) : ja_V p l e R s m args below meth c Wp b0 nL cells slots Q S pc L (.int x :: st) := by
  exact fun ls H locs hL hP hS => lv_tableIn O.1.1 O.1.2.1 hd h1 h2 ho ht (k ls H locs hL hP hS)
end JA
end
section
/-! CALLS THAT THROW, AND WHERE THE EXCEPTION IS CAUGHT. The kit's 'Met' is of methods that return; here the same for methods that throw, and the search through a handler table whose classes may be resolved only then. -/
section JTH
def jt_M (l : Launch) (y : MethodName) (ws : List Cond) (rm : Room) (Pc : Array Value → State → Prop) (Qc : Array Value → State → Addr → State → Prop) (mc ms : Nat) (free : Addr → Prop) : Prop :=
  MetFree l y (headSpec ws rm) Pc (fun _ _ _ _ _ => True) (fun a st o t => ∃ x, o = .threw x ∧ Qc a st x t ∧ ∃ L, st.WarmedH t.vm ∧ st.sameButNew ({ t with vm := st.vm } : State) L mc ms ∧ ∀ q ∈ L, free q.base)
variable {p : Program} {l : Launch} {e : Env} {R : Room} {s : State} {m : MethodId} {args : Array Value} {below : List Frame} {meth : Method} {c : Code} {H : Heap} {locs : List Loc} {cells slots : Nat} {Q : State → Prop}
/-- where the walk of a method that throws ends -/
def jt_Q (below : List Frame) (Qc : Array Value → State → Addr → State → Prop) (a : Array Value) (s : State) (mc ms : Nat) (free : Addr → Prop) : State → Prop := fun t =>
  ∃ x, t.status = .running ∧ Ended t below (.threw x) ∧ Qc a s x t ∧ ∃ L, s.WarmedH t.vm ∧ s.sameButNew ({ t with vm := s.vm } : State) L mc ms ∧ ∀ q ∈ L, free q.base
theorem jt_M.ofW {y : MethodName} {ws ws' : List Cond} {rm : Room} {Pc : Array Value → State → Prop} {Qc : Array Value → State → Addr → State → Prop} {mc ms : Nat} {free : Addr → Prop} {cc : ByteArray} {maxL : Nat} {ret : Option FieldType}
    (hy : plainName y.cls = true) (hw : ws = Cond.code y cc maxL ret :: ws')
    (body : ∀ p e s m args below meth c s₁, BodyLoose p l y (headSpec ws rm) cc maxL ret e s m args below meth c s₁ → c.maxLocals = maxL → Pc args s →
      W p l e (headSpec ws rm).room s m args below meth c s.heap [] 0 0 (jt_Q below Qc args s mc ms free) (entryFrame m args maxL)) : jt_M l y ws rm Pc Qc mc ms free := by
  refine MetFree.of_bodyS (code := cc) (maxLocals := maxL) (ret := ret) hy ?_ ?_
  · intro args s m h hn
    obtain ⟨meth, c, h1, h2, h3, h4, h5, h6, -, -⟩ := Cond.code_spec hn (atoms_spec (ws := ws) h _ (by rw [hw]; exact List.mem_cons_self))
    exact ⟨meth, c, h1, h2, h3, h4, h5, h6⟩
  · intro p e s m args below meth c s₁ B hml hP _
    have hh0 : s₁.heap = s.heap := by rw [B.state]; rfl
    obtain ⟨t, a1, x, b1, b2, b3⟩ := body p e s m args below meth c s₁ B hml hP s₁ hh0 (Stand.of_body B)
    exact ⟨t, .threw x, a1, b1, b2, x, rfl, b3⟩
def jt_Run (p : Program) (l : Launch) (e : Env) (R : Room) (s : State) (m : MethodId) (args : Array Value) (below : List Frame) (meth : Method) (c : Code) (H : Heap) (locs : List Loc) (cells slots mc ms : Nat) (g : JFrame) (rest : List Value) (Qa : State → Addr → State → Prop) (free : Addr → Prop) : Prop :=
  ∀ T : State, T.heap = H → Stand p l e R s m args below meth c T locs cells slots → ∃ (x : Addr) (st₀ t T' : State) (L : List Loc), st₀.heap = H ∧ Stand p l e R s m args below meth c T' (locs ++ L) (cells + mc) (slots + ms) ∧ (∀ q ∈ L, free q.base) ∧ T'.heap = t.heap ∧ T'.vm = t.vm ∧ Qa st₀ x t ∧
    ∀ tg, Steps p.tables e below ((T'.setTop { g with stack := rest }).pushFrame (.throwing x)) tg → Steps p.tables e below (T.setTop g) tg
theorem jt_runV {y : MethodName} {bytes cc : ByteArray} {maxL nL mc ms n index : Nat} {ret : Option FieldType} {ws : List Cond} {rm : Room} {Pc : Array Value → State → Prop} {Qc : Array Value → State → Addr → State → Prop} {free : Addr → Prop} {Ts : List Cond} {own C : String} {b : Addr} {As rest : List Value} {g : JFrame}
    (S : CallFix p m c cc nL s args Ts own) (hM : jt_M l y ws rm Pc Qc mc ms free) (cw : CallW R s args own C index y bytes maxL ret ws rm mc ms n) (hp : PreV s H C b Pc As)
    (hg : g.method = m) (hn : As.length = n) (hsize : g.locals.size = nL) (hstack : g.stack = As.reverse ++ .ref b :: rest) (hW : 2 * g.monitorRoom + (rest.map fun v => v.category).sum ≤ 8) (hdg : decode cc g.pc = .ok (.invokevirtual index, 3)) (hf : cells + mc ≤ R.cells ∧ slots + ms ≤ R.slots) :
    jt_Run p l e R s m args below meth c H locs cells slots mc ms g rest (Qc (Value.ref b :: As).toArray) free := by
  obtain ⟨⟨hrc, hrs, hfr, hlo, hws, hcw, hcode, hini, hy, hlen, hl⟩, hinst, hsel⟩ := cw
  obtain ⟨hx, hb, hml, hown, -⟩ := S
  obtain ⟨hblind, ⟨cellB, hcB, hoB, hclB⟩, hPc⟩ := hp
  intro T hT X
  subst hb
  obtain ⟨mk, methM, hnamed, hmethM, hstM, habM⟩ := Cond.instanceMethod_spec hinst
  obtain ⟨methM', cM, hmethM', hcM, -, hlM, -, -, -, hsigM⟩ := Cond.code_spec hnamed hcode
  cases hmethM.symm.trans hmethM'
  obtain ⟨c2, r2, m2, q1, q2, q3, q4, kP, hkP, hkPi⟩ := Cond.selects_spec hsel
  cases hclB.symm.trans q1
  cases (State.methodFound?_of_named hnamed hy).symm.trans q2
  cases hnamed.symm.trans q3
  have hselP : selectMethod e.platform s.vm cellB.cls mk = .method mk := by rw [Launch.admits_selectMethod X.admits]; exact q4
  obtain ⟨vm₁, X₁, hstep₁⟩ := X.invokevirtual hx hown hl hnamed hmethM hstM hkP hkPi hy (a := b) (cell := cellB) (by rw [hT]; exact hcB)
    (fun z h => by rw [h] at hoB; cases hoB) hselP hmethM habM hkP hkPi (g := g) hg (argsL := As) (rest := rest) (hn.trans (hlen _ hsigM)) hstack hdg
  have h : At (T.setVm vm₁) { g with stack := rest }.method c below := by rw [show ({ g with stack := rest } : JFrame).method = m from hg]; exact X₁.here
  have hnamed₁ : (T.setVm vm₁).methodNamed? y = some mk := X₁.named hnamed
  have hcode₁ : (Cond.code y bytes maxL ret).before (Value.ref b :: As).toArray (T.setVm vm₁) = true := hws _ hcw _ _ X₁.warmed
  obtain ⟨methY, cY, hmY, hcY, -, hlY, -, -, -, -⟩ := Cond.code_spec hnamed₁ hcode₁
  obtain ⟨kY, hkY, -⟩ := className_of_methodNamed hnamed₁
  have hini₁ : (Cond.initialized y.cls).before (Value.ref b :: As).toArray (T.setVm vm₁) = true := word_at X₁.warmed (Or.inl (by first | rfl | simp [Cond.onTables, Cond.keeps, Cond.steady])) hini
  have hinitY : kY.init = .initialized := Cond.initialized_spec (findClass_of_methodNamed hnamed₁) hkY hini₁
  have happ : (headSpec ws rm).appliesLoose y e.platform ((T.setVm vm₁).calling { g with stack := rest } mk (Value.ref b :: As).toArray) = true :=
    Spec.appliesLoose_calling (g := { g with stack := rest }) h hdg hnamed₁ hkY hinitY
      (X₁.room_calling (g := { g with stack := rest }) (R' := (headSpec ws rm).room) (hsize.trans hml.symm) hmY hcY hfr (by rw [hlY]; show 2 * g.monitorRoom + (rest.map fun v => v.category).sum + (maxL + 11) + rm.locals ≤ R.locals; omega)
        (by rw [show (headSpec ws rm).room.cells = mc from hrc]; exact hf.1) (by rw [show (headSpec ws rm).room.slots = ms from hrs]; exact hf.2)) (atoms_intro fun w hw => hws w hw _ _ X₁.warmed)
  obtain ⟨mid, hmid⟩ := h.above
  have hfr2 : ((T.setVm vm₁).setTop { g with stack := rest }).frames = (.java { g with stack := rest } :: mid) ++ below := by rw [State.frames_setTop' _ h.top, hmid]; rfl
  have hPre : Pc (Value.ref b :: As).toArray ((T.setVm vm₁).calling { g with stack := rest } mk (Value.ref b :: As).toArray) := hblind _ _ _ _ (hPc (T.setVm vm₁) hT X₁.warmed)
  obtain ⟨o, s₂, hsteps, -, hend, hq⟩ := Steps.callFree hM p X.admits X.cas X.clock (acts := []) hfr2 happ hPre trivial
  obtain ⟨v, rfl, hqc, L, hW₂, hsm, hL⟩ := hq
  have hend' : s₂.frames = .throwing v :: .java { g with stack := rest } :: (T.setVm vm₁).frames.tail := by
    have h9 : s₂.frames = .throwing v :: ((T.setVm vm₁).setTop { g with stack := rest }).frames := hend
    rw [h9, State.frames_setTop' _ h.top]
  generalize hU : T.setVm vm₁ = U at *
  generalize hg' : ({ g with stack := rest } : JFrame) = g' at *
  obtain ⟨e2, q2, q3, q4, q5, q6⟩ := id hsm
  have hsteps' : Steps p.tables e below (doInvoke e (U.setTop g') [] mk (Value.ref b :: As).toArray).1 s₂ := hsteps
  have e3 : s₂ = ({ (U.calling g' mk (Value.ref b :: As).toArray).setFrames s₂.frames with heap := s₂.heap, slotsUsed := s₂.slotsUsed } : State).setVm s₂.vm := by
    have h1 : s₂ = ({ s₂ with vm := (U.calling g' mk (Value.ref b :: As).toArray).vm } : State).setVm s₂.vm := rfl
    have h2 : ({ s₂ with vm := (U.calling g' mk (Value.ref b :: As).toArray).vm } : State) = ({ (U.calling g' mk (Value.ref b :: As).toArray).setFrames s₂.frames with heap := s₂.heap, slotsUsed := s₂.slotsUsed } : State) := e2
    rw [h2] at h1
    exact h1
  have hW' : U.WarmedH s₂.vm := hW₂
  obtain ⟨g₀, hg0⟩ := Option.isSome_iff_exists.mp h.top
  obtain ⟨r, hr⟩ := State.topJava?_eq_some.mp hg0
  have hs₂ : s₂ = ((({ U with heap := s₂.heap, slotsUsed := s₂.slotsUsed } : State).setVm s₂.vm).setTop g').pushFrame (.throwing v) := by
    have hr' : (({ U with heap := s₂.heap, slotsUsed := s₂.slotsUsed } : State).setVm s₂.vm).frames = .java g₀ :: r := hr
    refine e3.trans ?_
    rw [hend', State.calling_eq h.top, State.setFrames_setFrames, State.pushFrame, State.frames_setTop _ hr', State.setTop_of_frames _ hr', State.setFrames_setFrames, hr]
    rfl
  have hsame : U.sameButNew ({ U with heap := s₂.heap, slotsUsed := s₂.slotsUsed } : State) L mc ms := by
    refine ⟨?_, q2, q3, q4, q5, q6⟩
    obtain ⟨t, ht, -⟩ := State.frames_cons hr
    show ({ U with heap := s₂.heap, slotsUsed := s₂.slotsUsed } : State) = { U.setFrames U.frames with heap := s₂.heap, slotsUsed := s₂.slotsUsed }
    rw [State.setFrames_self ht]
  refine ⟨v, U.calling g' mk (Value.ref b :: As).toArray, s₂, ({ U with heap := s₂.heap, slotsUsed := s₂.slotsUsed } : State).setVm s₂.vm, L, by rw [← hT, ← hU]; rfl,
    ⟨X₁.admits, X₁.cas, X₁.clock, X₁.frames, X₁.room, X₁.hears, X₁.method, X₁.code, (X₁.here.setHeapUsed s₂.heap s₂.slotsUsed).setVm hW'.alike, X₁.tail, State.WarmedH.trans X₁.warmed hW', X₁.limits, X₁.bytes, X₁.same.trans (hsame.setVm s.vm)⟩,
    hL, rfl, rfl, hqc, fun tg htg => hstep₁ tg fun acts => ?_⟩
  rw [doInvoke_state]
  refine hsteps'.trans ?_
  rw [hs₂]
  exact htg
/-- the search in a table: an entry that covers the pc and names a class, resolved now or before: it takes the exception if the object's class can be assigned to it -/
theorem jt_go {Q : Handler → Pre} {E : CtlPost} {d : Bool} {acts : List Action} {u : State} {f : JFrame} {a : Addr} {x : ExceptionTableEntry} {t : List ExceptionTableEntry} {k : ClassId} {cell : Cell} {vm' : Vm} (hx : covers x f.pc = true) (h0 : x.catchType ≠ 0)
    (hg : (Jvm.resolveClass f.method.cls x.catchType).Gives e.toSetting u.vm (.ok k) vm') (hsz : vm'.classes.size ≤ u.vm.classes.size) (hcell : u.heap[a]? = some cell) (hobj : ∀ k, cell.vm ≠ .statics k)
    (hk : ∃ k, vm'.classes[cell.cls]? = some k) (hc : ∃ z, vm'.classes[k]? = some z) :
    wp (findHandler.go f a (x :: t)) Q E e d acts u ↔ if vm'.assignable cell.cls k = true then Q (.found x.handlerPc) d acts (u.setVm vm') else wp (findHandler.go f a t) Q E e d acts (u.setVm vm') := by
  simp only [covers] at hx
  obtain ⟨ha, ht⟩ := hg.op (op := VmOp.resolveClass f.method.cls x.catchType) rfl
  cases hfit : vm'.assignable cell.cls k <;>
    simp [findHandler.go, hx, h0, ha, ht, hsz, hcell, hobj, hk, hc, hfit, VmOp.dirties, VmOp.acts]
/-- what the search gives, and the tables behind it -/
def jt_F (e : Env) (u : State) (f : JFrame) (a : Addr) (pc : Nat) (vm' : Vm) : Prop := ∀ (Q : Handler → Pre) (E : CtlPost) (d : Bool) (acts : List Action), wp (findHandler f a) Q E e d acts u ↔ Q (.found pc) d acts (u.setVm vm')
theorem jt_step {u : State} {a : Addr} {f : JFrame} {r : List Frame} {pc : Nat} {vm' : Vm} (hf : jt_F e u f a pc vm') :
    (stepThrowing e u a (.java f :: r)).Is ((u.setVm vm').setFrames (.java { f with pc := pc, stack := [.ref a] } :: r)) [] := by
  simp only [stepThrowing, searchFrame, vmDo]
  generalize hr : Sem.go _ e false [] u = res
  obtain ⟨as, rfl, ha⟩ := Sem.eq_ok_of hr (a := Handler.found pc) (s' := u.setVm vm') (acts' := []) (by simp [hf _ _ _ _])
  exact ⟨rfl, ha⟩
/-- into a handler of the method's own -/
theorem jt_caught {tb : Tables} {u target : State} {g : JFrame} {a : Addr} {pc : Nat} {vm' : Vm} (h : At u g.method c below) (hf : jt_F e ((u.setTop g).pushFrame (.throwing a)) g a pc vm')
    (hrest : Steps tb e below ((u.setVm vm').setTop { g with pc := pc, stack := [.ref a] }) target) :
    Steps tb e below ((u.setTop g).pushFrame (.throwing a)) target := by
  obtain ⟨hgo, hw⟩ := h.throwing a
  refine Steps.head hgo hw ?_
  rw [stepThread_throwing (frames_entered h.top _), (jt_step (u := (u.setTop g).pushFrame (.throwing a)) hf).1]
  obtain ⟨g₀, hg⟩ := Option.isSome_iff_exists.mp h.top
  obtain ⟨r, hr⟩ := State.topJava?_eq_some.mp hg
  have hr' : (u.setVm vm').frames = .java g₀ :: r := hr
  rw [State.setTop_of_frames _ hr'] at hrest
  have e1 : (((u.setTop g).pushFrame (.throwing a)).setVm vm').setFrames (.java { g with pc := pc, stack := [.ref a] } :: u.frames.tail) = (u.setVm vm').setFrames (.java { g with pc := pc, stack := [.ref a] } :: r) := by
    rw [State.pushFrame, State.setTop_of_frames _ hr, hr]
    show ((((u.setFrames _).setFrames _).setVm vm').setFrames _) = _
    rw [State.setFrames_setFrames]
    show (((u.setFrames _).setFrames _).setVm vm') = _
    rw [State.setFrames_setFrames]
    rfl
  rw [e1]
  exact hrest
end JTH
end
section
/-! NAMES, by program (wip/whole/gen/gen_names.py): classes with their fields, methods with their code, words of the tables by their places, rows that decode an instruction -/
def jR_A : String := "CashMachine$Account"
def jF_A : u_T := fun k => match k with
  | 0 => ("CashMachine$Account", "opened", "Z", false)
  | 1 => ("CashMachine$Account", "pin", "I", false)
  | 2 => ("CashMachine$Account", "openedWith", "I", false)
  | 3 => ("CashMachine$Account", "balance", "I", false)
  | 4 => ("CashMachine$Account", "triesLeft", "I", false)
  | _ => ("CashMachine$Account", "blocked", "Z", false)
def jq_A : Nat → FieldType := fun k => match k with
  | 0 => .boolean
  | 1 => .int
  | 2 => .int
  | 3 => .int
  | 4 => .int
  | _ => .boolean
theorem jn_A : ∀ a, a < 6 → ∀ b, b < 6 → a ≠ b → (jF_A a).2.1 ≠ (jF_A b).2.1 := by decide +kernel
theorem jk_A : ∀ k, k < 6 → parseFieldDescriptor (jF_A k).2.2.1 = some (jq_A k) := by decide +kernel
def jR_K : String := "CashMachine$Cassette"
def jF_K : u_T := fun k => match k with
  | 0 => ("CashMachine$Cassette", "value", "I", false)
  | _ => ("CashMachine$Cassette", "notes", "I", false)
def jq_K : Nat → FieldType := fun k => match k with
  | 0 => .int
  | _ => .int
theorem jn_K : ∀ a, a < 2 → ∀ b, b < 2 → a ≠ b → (jF_K a).2.1 ≠ (jF_K b).2.1 := by decide +kernel
theorem jk_K : ∀ k, k < 2 → parseFieldDescriptor (jF_K k).2.2.1 = some (jq_K k) := by decide +kernel
def jR_E : String := "CashMachine$Entry"
def jF_E : u_T := fun k => match k with
  | 0 => ("CashMachine$Entry", "trace", "I", true)
  | 1 => ("CashMachine$Entry", "account", "I", false)
  | 2 => ("CashMachine$Entry", "amount", "I", false)
  | 3 => ("CashMachine$Entry", "state", "I", false)
  | _ => ("CashMachine$Entry", "presented", "I", false)
def jq_E : Nat → FieldType := fun k => match k with
  | 0 => .int
  | 1 => .int
  | 2 => .int
  | 3 => .int
  | _ => .int
theorem jn_E : ∀ a, a < 5 → ∀ b, b < 5 → a ≠ b → (jF_E a).2.1 ≠ (jF_E b).2.1 := by decide +kernel
theorem jk_E : ∀ k, k < 5 → parseFieldDescriptor (jF_E k).2.2.1 = some (jq_E k) := by decide +kernel
def jR_H : String := "CashMachine$Host"
def jF_H : u_T := fun k => match k with
  | 0 => ("CashMachine$Host", "accounts", "[LCashMachine$Account;", true)
  | 1 => ("CashMachine$Host", "answers", "[I", true)
  | 2 => ("CashMachine$Host", "accountOfTrace", "[I", true)
  | _ => ("CashMachine$Host", "reversed", "[Z", true)
def jq_H : Nat → FieldType := fun k => match k with
  | 0 => .array (.object "CashMachine$Account")
  | 1 => .array .int
  | 2 => .array .int
  | _ => .array .boolean
theorem jn_H : ∀ a, a < 4 → ∀ b, b < 4 → a ≠ b → (jF_H a).2.1 ≠ (jF_H b).2.1 := by decide +kernel
theorem jk_H : ∀ k, k < 4 → parseFieldDescriptor (jF_H k).2.2.1 = some (jq_H k) := by decide +kernel
def jR_N : String := "CashMachine$Line"
def jF_N : u_T := fun k => match k with
  | 0 => ("CashMachine$Line", "fates", "[I", true)
  | _ => ("CashMachine$Line", "size", "I", false)
def jq_N : Nat → FieldType := fun k => match k with
  | 0 => .array .int
  | _ => .int
theorem jn_N : ∀ a, a < 2 → ∀ b, b < 2 → a ≠ b → (jF_N a).2.1 ≠ (jF_N b).2.1 := by decide +kernel
theorem jk_N : ∀ k, k < 2 → parseFieldDescriptor (jF_N k).2.2.1 = some (jq_N k) := by decide +kernel
def jR_D : String := "CashMachine$Dispenser"
def jF_D : u_T := fun k => match k with
  | 0 => ("CashMachine$Dispenser", "cassettes", "[LCashMachine$Cassette;", true)
  | 1 => ("CashMachine$Dispenser", "mix", "LCashMachine$Mix;", true)
  | 2 => ("CashMachine$Dispenser", "jam", "I", false)
  | 3 => ("CashMachine$Dispenser", "presentedInAll", "I", false)
  | 4 => ("CashMachine$Dispenser", "lastTrace", "I", false)
  | _ => ("CashMachine$Dispenser", "lastPresented", "I", false)
def jq_D : Nat → FieldType := fun k => match k with
  | 0 => .array (.object "CashMachine$Cassette")
  | 1 => .object "CashMachine$Mix"
  | 2 => .int
  | 3 => .int
  | 4 => .int
  | _ => .int
theorem jn_D : ∀ a, a < 6 → ∀ b, b < 6 → a ≠ b → (jF_D a).2.1 ≠ (jF_D b).2.1 := by decide +kernel
theorem jk_D : ∀ k, k < 6 → parseFieldDescriptor (jF_D k).2.2.1 = some (jq_D k) := by decide +kernel
def jR_J : String := "CashMachine$Journal"
def jF_J : u_T := fun k => match k with
  | 0 => ("CashMachine$Journal", "entries", "[LCashMachine$Entry;", true)
  | _ => ("CashMachine$Journal", "size", "I", false)
def jq_J : Nat → FieldType := fun k => match k with
  | 0 => .array (.object "CashMachine$Entry")
  | _ => .int
theorem jn_J : ∀ a, a < 2 → ∀ b, b < 2 → a ≠ b → (jF_J a).2.1 ≠ (jF_J b).2.1 := by decide +kernel
theorem jk_J : ∀ k, k < 2 → parseFieldDescriptor (jF_J k).2.2.1 = some (jq_J k) := by decide +kernel
def jR_R : String := "CashMachine$Reversals"
def jF_R : u_T := fun k => match k with
  | 0 => ("CashMachine$Reversals", "traces", "[I", true)
  | 1 => ("CashMachine$Reversals", "amounts", "[I", true)
  | _ => ("CashMachine$Reversals", "size", "I", false)
def jq_R : Nat → FieldType := fun k => match k with
  | 0 => .array .int
  | 1 => .array .int
  | _ => .int
theorem jn_R : ∀ a, a < 3 → ∀ b, b < 3 → a ≠ b → (jF_R a).2.1 ≠ (jF_R b).2.1 := by decide +kernel
theorem jk_R : ∀ k, k < 3 → parseFieldDescriptor (jF_R k).2.2.1 = some (jq_R k) := by decide +kernel
def jR_X : String := "CashMachine$Mix"
def jF_X : u_T := fun k => match k with
  | 0 => ("CashMachine$Mix", "taken", "[I", true)
  | _ => ("CashMachine$Mix", "rankOfLastTwo", "[I", true)
def jq_X : Nat → FieldType := fun k => match k with
  | 0 => .array .int
  | _ => .array .int
theorem jn_X : ∀ a, a < 2 → ∀ b, b < 2 → a ≠ b → (jF_X a).2.1 ≠ (jF_X b).2.1 := by decide +kernel
theorem jk_X : ∀ k, k < 2 → parseFieldDescriptor (jF_X k).2.2.1 = some (jq_X k) := by decide +kernel
def jR_C : String := "CashMachine"
def jF_C : u_T := fun k => match k with
  | 0 => ("CashMachine", "host", "LCashMachine$Host;", true)
  | 1 => ("CashMachine", "line", "LCashMachine$Line;", true)
  | 2 => ("CashMachine", "dispenser", "LCashMachine$Dispenser;", true)
  | 3 => ("CashMachine", "journal", "LCashMachine$Journal;", true)
  | 4 => ("CashMachine", "pending", "LCashMachine$Reversals;", true)
  | 5 => ("CashMachine", "on", "Z", false)
  | 6 => ("CashMachine", "session", "I", false)
  | 7 => ("CashMachine", "verified", "Z", false)
  | _ => ("CashMachine", "failurePlace", "I", false)
def jq_C : Nat → FieldType := fun k => match k with
  | 0 => .object "CashMachine$Host"
  | 1 => .object "CashMachine$Line"
  | 2 => .object "CashMachine$Dispenser"
  | 3 => .object "CashMachine$Journal"
  | 4 => .object "CashMachine$Reversals"
  | 5 => .boolean
  | 6 => .int
  | 7 => .boolean
  | _ => .int
theorem jn_C : ∀ a, a < 9 → ∀ b, b < 9 → a ≠ b → (jF_C a).2.1 ≠ (jF_C b).2.1 := by decide +kernel
theorem jk_C : ∀ k, k < 9 → parseFieldDescriptor (jF_C k).2.2.1 = some (jq_C k) := by decide +kernel
def jR_M : String := "CashMachineModel"
def jF_M : u_T := fun k => match k with
  | 0 => ("CashMachineModel", "thrown", "I", false)
  | 1 => ("CashMachineModel", "opened", "[Z", true)
  | 2 => ("CashMachineModel", "pins", "[I", true)
  | 3 => ("CashMachineModel", "first", "[I", true)
  | 4 => ("CashMachineModel", "balances", "[I", true)
  | 5 => ("CashMachineModel", "tries", "[I", true)
  | 6 => ("CashMachineModel", "blocked", "[Z", true)
  | 7 => ("CashMachineModel", "values", "[I", true)
  | 8 => ("CashMachineModel", "counts", "[I", true)
  | 9 => ("CashMachineModel", "best", "[I", true)
  | 10 => ("CashMachineModel", "down", "Z", false)
  | 11 => ("CashMachineModel", "session", "I", false)
  | 12 => ("CashMachineModel", "verified", "Z", false)
  | 13 => ("CashMachineModel", "state", "[I", true)
  | 14 => ("CashMachineModel", "account", "[I", true)
  | 15 => ("CashMachineModel", "amount", "[I", true)
  | 16 => ("CashMachineModel", "presented", "[I", true)
  | 17 => ("CashMachineModel", "known", "[I", true)
  | 18 => ("CashMachineModel", "reversed", "[Z", true)
  | 19 => ("CashMachineModel", "traces", "I", false)
  | 20 => ("CashMachineModel", "pendingTrace", "[I", true)
  | 21 => ("CashMachineModel", "pendingAmount", "[I", true)
  | 22 => ("CashMachineModel", "pending", "I", false)
  | 23 => ("CashMachineModel", "fates", "[I", true)
  | 24 => ("CashMachineModel", "coming", "I", false)
  | 25 => ("CashMachineModel", "jam", "I", false)
  | 26 => ("CashMachineModel", "power", "I", false)
  | 27 => ("CashMachineModel", "paidTrace", "I", false)
  | 28 => ("CashMachineModel", "paidValue", "I", false)
  | _ => ("CashMachineModel", "paidAll", "I", false)
def jq_M : Nat → FieldType := fun k => match k with
  | 0 => .int
  | 1 => .array .boolean
  | 2 => .array .int
  | 3 => .array .int
  | 4 => .array .int
  | 5 => .array .int
  | 6 => .array .boolean
  | 7 => .array .int
  | 8 => .array .int
  | 9 => .array .int
  | 10 => .boolean
  | 11 => .int
  | 12 => .boolean
  | 13 => .array .int
  | 14 => .array .int
  | 15 => .array .int
  | 16 => .array .int
  | 17 => .array .int
  | 18 => .array .boolean
  | 19 => .int
  | 20 => .array .int
  | 21 => .array .int
  | 22 => .int
  | 23 => .array .int
  | 24 => .int
  | 25 => .int
  | 26 => .int
  | 27 => .int
  | 28 => .int
  | _ => .int
theorem jn_M : ∀ a, a < 30 → ∀ b, b < 30 → a ≠ b → (jF_M a).2.1 ≠ (jF_M b).2.1 := by decide +kernel
theorem jk_M : ∀ k, k < 30 → parseFieldDescriptor (jF_M k).2.2.1 = some (jq_M k) := by decide +kernel
abbrev jb_cl : List vw_C := [(jR_A, jF_A, 6), (jR_K, jF_K, 2), (jR_E, jF_E, 5), (jR_H, jF_H, 4), (jR_N, jF_N, 2), (jR_D, jF_D, 6), (jR_J, jF_J, 2), (jR_R, jF_R, 3), (jR_X, jF_X, 2), (jR_C, jF_C, 9), (jR_M, jF_M, 30)]
abbrev jc_C_init : ByteArray := prog_1_method_1_code
def jy_C_init : MethodName := ⟨"CashMachine", "<init>", "()V"⟩
abbrev jc_H_init : ByteArray := prog_6_method_1_code
def jy_H_init : MethodName := ⟨"CashMachine$Host", "<init>", "()V"⟩
abbrev jc_A_init : ByteArray := prog_2_method_1_code
def jy_A_init : MethodName := ⟨"CashMachine$Account", "<init>", "()V"⟩
abbrev jc_N_init : ByteArray := prog_8_method_1_code
def jy_N_init : MethodName := ⟨"CashMachine$Line", "<init>", "()V"⟩
abbrev jc_D_init : ByteArray := prog_4_method_1_code
def jy_D_init : MethodName := ⟨"CashMachine$Dispenser", "<init>", "()V"⟩
abbrev jc_X_init : ByteArray := prog_9_method_1_code
def jy_X_init : MethodName := ⟨"CashMachine$Mix", "<init>", "()V"⟩
abbrev jc_K_init : ByteArray := prog_3_method_1_code
def jy_K_init : MethodName := ⟨"CashMachine$Cassette", "<init>", "()V"⟩
abbrev jc_J_init : ByteArray := prog_7_method_1_code
def jy_J_init : MethodName := ⟨"CashMachine$Journal", "<init>", "()V"⟩
abbrev jc_E_init : ByteArray := prog_5_method_1_code
def jy_E_init : MethodName := ⟨"CashMachine$Entry", "<init>", "(I)V"⟩
abbrev jc_R_init : ByteArray := prog_10_method_1_code
def jy_R_init : MethodName := ⟨"CashMachine$Reversals", "<init>", "()V"⟩
abbrev jc_C_difference : ByteArray := prog_1_method_18_code
def jy_C_difference : MethodName := ⟨"CashMachine", "difference", "()I"⟩
abbrev jc_H_takenFromBalances : ByteArray := prog_6_method_9_code
def jy_H_takenFromBalances : MethodName := ⟨"CashMachine$Host", "takenFromBalances", "()I"⟩
abbrev jc_L_open : ByteArray := method_3_code
def jy_L_open : MethodName := ⟨"CashMachineLaw", "open", "(LCashMachine;III[J)I"⟩
abbrev jc_C_open : ByteArray := prog_1_method_2_code
def jy_C_open : MethodName := ⟨"CashMachine", "open", "(III)I"⟩
abbrev jc_C_isWithin : ByteArray := prog_1_method_20_code
def jy_C_isWithin : MethodName := ⟨"CashMachine", "isWithin", "(III)Z"⟩
abbrev jc_H_isOpen : ByteArray := prog_6_method_2_code
def jy_H_isOpen : MethodName := ⟨"CashMachine$Host", "isOpen", "(I)Z"⟩
abbrev jc_H_openAccount : ByteArray := prog_6_method_3_code
def jy_H_openAccount : MethodName := ⟨"CashMachine$Host", "openAccount", "(III)V"⟩
abbrev jc_H_openAccounts : ByteArray := prog_6_method_7_code
def jy_H_openAccounts : MethodName := ⟨"CashMachine$Host", "openAccounts", "()I"⟩
abbrev jc_L_load : ByteArray := method_4_code
def jy_L_load : MethodName := ⟨"CashMachineLaw", "load", "(LCashMachine;III[J)I"⟩
abbrev jc_C_load : ByteArray := prog_1_method_3_code
def jy_C_load : MethodName := ⟨"CashMachine", "load", "(III)I"⟩
abbrev jc_D_exchangeNotes : ByteArray := prog_4_method_2_code
def jy_D_exchangeNotes : MethodName := ⟨"CashMachine$Dispenser", "exchangeNotes", "(III)I"⟩
abbrev jc_L_insert : ByteArray := method_5_code
def jy_L_insert : MethodName := ⟨"CashMachineLaw", "insert", "(LCashMachine;I[J)I"⟩
abbrev jc_C_insert : ByteArray := prog_1_method_4_code
def jy_C_insert : MethodName := ⟨"CashMachine", "insert", "(I)I"⟩
abbrev jc_L_pin : ByteArray := method_6_code
def jy_L_pin : MethodName := ⟨"CashMachineLaw", "pin", "(LCashMachine;I[J)I"⟩
abbrev jc_C_pin : ByteArray := prog_1_method_5_code
def jy_C_pin : MethodName := ⟨"CashMachine", "pin", "(I)I"⟩
abbrev jc_A_tryPin : ByteArray := prog_2_method_2_code
def jy_A_tryPin : MethodName := ⟨"CashMachine$Account", "tryPin", "(I)Z"⟩
abbrev jc_C_endSession : ByteArray := prog_1_method_21_code
def jy_C_endSession : MethodName := ⟨"CashMachine", "endSession", "()V"⟩
abbrev jc_L_eject : ByteArray := method_7_code
def jy_L_eject : MethodName := ⟨"CashMachineLaw", "eject", "(LCashMachine;[J)I"⟩
abbrev jc_C_eject : ByteArray := prog_1_method_6_code
def jy_C_eject : MethodName := ⟨"CashMachine", "eject", "()I"⟩
abbrev jc_L_withdraw : ByteArray := method_8_code
def jy_L_withdraw : MethodName := ⟨"CashMachineLaw", "withdraw", "(LCashMachine;I[J)I"⟩
abbrev jc_C_withdraw : ByteArray := prog_1_method_7_code
def jy_C_withdraw : MethodName := ⟨"CashMachine", "withdraw", "(I)I"⟩
abbrev jc_D_findMix : ByteArray := prog_4_method_3_code
def jy_D_findMix : MethodName := ⟨"CashMachine$Dispenser", "findMix", "(I)Z"⟩
abbrev jc_X_find : ByteArray := prog_9_method_2_code
def jy_X_find : MethodName := ⟨"CashMachine$Mix", "find", "([LCashMachine$Cassette;I)Z"⟩
abbrev jc_X_rankLastTwo : ByteArray := prog_9_method_3_code
def jy_X_rankLastTwo : MethodName := ⟨"CashMachine$Mix", "rankLastTwo", "(LCashMachine$Cassette;LCashMachine$Cassette;I)V"⟩
abbrev jc_F_fill : ByteArray := prog_22_method_103_code
def jy_F_fill : MethodName := ⟨"java/util/Arrays", "fill", "([II)V"⟩
abbrev jc_X_keep : ByteArray := prog_9_method_4_code
def jy_X_keep : MethodName := ⟨"CashMachine$Mix", "keep", "(III)V"⟩
abbrev jc_J_begin : ByteArray := prog_7_method_2_code
def jy_J_begin : MethodName := ⟨"CashMachine$Journal", "begin", "(II)LCashMachine$Entry;"⟩
abbrev jc_C_request : ByteArray := prog_1_method_22_code
def jy_C_request : MethodName := ⟨"CashMachine", "request", "(LCashMachine$Entry;)I"⟩
abbrev jc_C_failsAt : ByteArray := prog_1_method_24_code
def jy_C_failsAt : MethodName := ⟨"CashMachine", "failsAt", "(I)Z"⟩
abbrev jc_C_exchangeRequest : ByteArray := prog_1_method_28_code
def jy_C_exchangeRequest : MethodName := ⟨"CashMachine", "exchangeRequest", "(LCashMachine$Entry;)I"⟩
abbrev jc_N_takeFirst : ByteArray := prog_8_method_3_code
def jy_N_takeFirst : MethodName := ⟨"CashMachine$Line", "takeFirst", "()I"⟩
abbrev jc_H_receiveRequest : ByteArray := prog_6_method_4_code
def jy_H_receiveRequest : MethodName := ⟨"CashMachine$Host", "receiveRequest", "(III)Z"⟩
abbrev jc_H_decide : ByteArray := prog_6_method_5_code
def jy_H_decide : MethodName := ⟨"CashMachine$Host", "decide", "(ILCashMachine$Account;I)I"⟩
abbrev jc_C_giveUp : ByteArray := prog_1_method_25_code
def jy_C_giveUp : MethodName := ⟨"CashMachine", "giveUp", "(LCashMachine$Entry;)V"⟩
abbrev jc_R_add : ByteArray := prog_10_method_2_code
def jy_R_add : MethodName := ⟨"CashMachine$Reversals", "add", "(II)V"⟩
abbrev jc_C_present : ByteArray := prog_1_method_23_code
def jy_C_present : MethodName := ⟨"CashMachine", "present", "(LCashMachine$Entry;)I"⟩
abbrev jc_D_payMix : ByteArray := prog_4_method_4_code
def jy_D_payMix : MethodName := ⟨"CashMachine$Dispenser", "payMix", "(I)I"⟩
abbrev jc_D_nextCassette : ByteArray := prog_4_method_5_code
def jy_D_nextCassette : MethodName := ⟨"CashMachine$Dispenser", "nextCassette", "()I"⟩
abbrev jc_C_finish : ByteArray := prog_1_method_26_code
def jy_C_finish : MethodName := ⟨"CashMachine", "finish", "(LCashMachine$Entry;I)V"⟩
abbrev jc_L_mix : ByteArray := method_9_code
def jy_L_mix : MethodName := ⟨"CashMachineLaw", "mix", "(LCashMachine;II[J)I"⟩
abbrev jc_C_mix : ByteArray := prog_1_method_8_code
def jy_C_mix : MethodName := ⟨"CashMachine", "mix", "(II)I"⟩
abbrev jc_L_line : ByteArray := method_10_code
def jy_L_line : MethodName := ⟨"CashMachineLaw", "line", "(LCashMachine;I[J)I"⟩
abbrev jc_C_line : ByteArray := prog_1_method_9_code
def jy_C_line : MethodName := ⟨"CashMachine", "line", "(I)I"⟩
abbrev jc_N_add : ByteArray := prog_8_method_2_code
def jy_N_add : MethodName := ⟨"CashMachine$Line", "add", "(I)V"⟩
abbrev jc_L_jam : ByteArray := method_11_code
def jy_L_jam : MethodName := ⟨"CashMachineLaw", "jam", "(LCashMachine;I[J)I"⟩
abbrev jc_C_jam : ByteArray := prog_1_method_10_code
def jy_C_jam : MethodName := ⟨"CashMachine", "jam", "(I)I"⟩
abbrev jc_L_power : ByteArray := method_12_code
def jy_L_power : MethodName := ⟨"CashMachineLaw", "power", "(LCashMachine;I[J)I"⟩
abbrev jc_C_power : ByteArray := prog_1_method_11_code
def jy_C_power : MethodName := ⟨"CashMachine", "power", "(I)I"⟩
abbrev jc_L_boot : ByteArray := method_13_code
def jy_L_boot : MethodName := ⟨"CashMachineLaw", "boot", "(LCashMachine;[J)I"⟩
abbrev jc_C_boot : ByteArray := prog_1_method_12_code
def jy_C_boot : MethodName := ⟨"CashMachine", "boot", "()I"⟩
abbrev jc_J_last : ByteArray := prog_7_method_3_code
def jy_J_last : MethodName := ⟨"CashMachine$Journal", "last", "()LCashMachine$Entry;"⟩
abbrev jc_C_recover : ByteArray := prog_1_method_27_code
def jy_C_recover : MethodName := ⟨"CashMachine", "recover", "(LCashMachine$Entry;)V"⟩
abbrev jc_D_presentedFor : ByteArray := prog_4_method_6_code
def jy_D_presentedFor : MethodName := ⟨"CashMachine$Dispenser", "presentedFor", "(I)I"⟩
abbrev jc_L_settle : ByteArray := method_14_code
def jy_L_settle : MethodName := ⟨"CashMachineLaw", "settle", "(LCashMachine;[J)I"⟩
abbrev jc_C_settle : ByteArray := prog_1_method_13_code
def jy_C_settle : MethodName := ⟨"CashMachine", "settle", "()I"⟩
abbrev jc_C_exchangeReversal : ByteArray := prog_1_method_29_code
def jy_C_exchangeReversal : MethodName := ⟨"CashMachine", "exchangeReversal", "(I)Z"⟩
abbrev jc_H_receiveReversal : ByteArray := prog_6_method_6_code
def jy_H_receiveReversal : MethodName := ⟨"CashMachine$Host", "receiveReversal", "(II)V"⟩
abbrev jc_R_dropFirst : ByteArray := prog_10_method_3_code
def jy_R_dropFirst : MethodName := ⟨"CashMachine$Reversals", "dropFirst", "(I)V"⟩
abbrev jc_L_balance : ByteArray := method_15_code
def jy_L_balance : MethodName := ⟨"CashMachineLaw", "balance", "(LCashMachine;I[J)I"⟩
abbrev jc_C_balance : ByteArray := prog_1_method_14_code
def jy_C_balance : MethodName := ⟨"CashMachine", "balance", "(I)I"⟩
abbrev jc_L_trace : ByteArray := method_16_code
def jy_L_trace : MethodName := ⟨"CashMachineLaw", "trace", "(LCashMachine;II[J)I"⟩
abbrev jc_C_trace : ByteArray := prog_1_method_15_code
def jy_C_trace : MethodName := ⟨"CashMachine", "trace", "(II)I"⟩
abbrev jc_L_reversal : ByteArray := method_17_code
def jy_L_reversal : MethodName := ⟨"CashMachineLaw", "reversal", "(LCashMachine;I[J)I"⟩
abbrev jc_C_reversal : ByteArray := prog_1_method_16_code
def jy_C_reversal : MethodName := ⟨"CashMachine", "reversal", "(I)I"⟩
abbrev jc_L_notes : ByteArray := method_18_code
def jy_L_notes : MethodName := ⟨"CashMachineLaw", "notes", "(LCashMachine;I[J)I"⟩
abbrev jc_C_notes : ByteArray := prog_1_method_17_code
def jy_C_notes : MethodName := ⟨"CashMachine", "notes", "(I)I"⟩
abbrev jc_L_count : ByteArray := method_19_code
def jy_L_count : MethodName := ⟨"CashMachineLaw", "count", "(LCashMachine;I[J)I"⟩
abbrev jc_C_count : ByteArray := prog_1_method_19_code
def jy_C_count : MethodName := ⟨"CashMachine", "count", "(I)I"⟩
abbrev jc_H_blockedAccounts : ByteArray := prog_6_method_8_code
def jy_H_blockedAccounts : MethodName := ⟨"CashMachine$Host", "blockedAccounts", "()I"⟩
abbrev jc_M_init : ByteArray := prog_12_method_1_code
def jy_M_init : MethodName := ⟨"CashMachineModel", "<init>", "()V"⟩
abbrev jc_M_thrown : ByteArray := prog_12_method_2_code
def jy_M_thrown : MethodName := ⟨"CashMachineModel", "thrown", "()I"⟩
abbrev jc_M_open : ByteArray := prog_12_method_5_code
def jy_M_open : MethodName := ⟨"CashMachineModel", "open", "(III)I"⟩
abbrev jc_M_in : ByteArray := prog_12_method_3_code
def jy_M_in : MethodName := ⟨"CashMachineModel", "in", "(III)Z"⟩
abbrev jc_M_fail : ByteArray := prog_12_method_4_code
def jy_M_fail : MethodName := ⟨"CashMachineModel", "fail", "(I)I"⟩
abbrev jc_M_load : ByteArray := prog_12_method_6_code
def jy_M_load : MethodName := ⟨"CashMachineModel", "load", "(III)I"⟩
abbrev jc_M_insert : ByteArray := prog_12_method_7_code
def jy_M_insert : MethodName := ⟨"CashMachineModel", "insert", "(I)I"⟩
abbrev jc_M_pin : ByteArray := prog_12_method_8_code
def jy_M_pin : MethodName := ⟨"CashMachineModel", "pin", "(I)I"⟩
abbrev jc_M_eject : ByteArray := prog_12_method_9_code
def jy_M_eject : MethodName := ⟨"CashMachineModel", "eject", "()I"⟩
abbrev jc_M_withdraw : ByteArray := prog_12_method_23_code
def jy_M_withdraw : MethodName := ⟨"CashMachineModel", "withdraw", "(I)I"⟩
abbrev jc_M_mixed : ByteArray := prog_12_method_13_code
def jy_M_mixed : MethodName := ⟨"CashMachineModel", "mixed", "(I)Z"⟩
abbrev jc_M_thirds : ByteArray := prog_12_method_12_code
def jy_M_thirds : MethodName := ⟨"CashMachineModel", "thirds", "(IIIZ)Z"⟩
abbrev jc_M_better : ByteArray := prog_12_method_11_code
def jy_M_better : MethodName := ⟨"CashMachineModel", "better", "(IIIIZ)Z"⟩
abbrev jc_M_notesOf : ByteArray := prog_12_method_10_code
def jy_M_notesOf : MethodName := ⟨"CashMachineModel", "notesOf", "(IIII)I"⟩
abbrev jc_M_give : ByteArray := prog_12_method_22_code
def jy_M_give : MethodName := ⟨"CashMachineModel", "give", "(I)I"⟩
abbrev jc_M_cut : ByteArray := prog_12_method_18_code
def jy_M_cut : MethodName := ⟨"CashMachineModel", "cut", "(I)Z"⟩
abbrev jc_M_fate : ByteArray := prog_12_method_16_code
def jy_M_fate : MethodName := ⟨"CashMachineModel", "fate", "()I"⟩
abbrev jc_M_request : ByteArray := prog_12_method_14_code
def jy_M_request : MethodName := ⟨"CashMachineModel", "request", "(I)V"⟩
abbrev jc_M_owe : ByteArray := prog_12_method_17_code
def jy_M_owe : MethodName := ⟨"CashMachineModel", "owe", "(II)V"⟩
abbrev jc_M_pay : ByteArray := prog_12_method_20_code
def jy_M_pay : MethodName := ⟨"CashMachineModel", "pay", "(I)V"⟩
abbrev jc_M_greatest : ByteArray := prog_12_method_19_code
def jy_M_greatest : MethodName := ⟨"CashMachineModel", "greatest", "(I)I"⟩
abbrev jc_M_finish : ByteArray := prog_12_method_21_code
def jy_M_finish : MethodName := ⟨"CashMachineModel", "finish", "(II)V"⟩
abbrev jc_M_mix : ByteArray := prog_12_method_24_code
def jy_M_mix : MethodName := ⟨"CashMachineModel", "mix", "(II)I"⟩
abbrev jc_M_line : ByteArray := prog_12_method_25_code
def jy_M_line : MethodName := ⟨"CashMachineModel", "line", "(I)I"⟩
abbrev jc_M_jam : ByteArray := prog_12_method_26_code
def jy_M_jam : MethodName := ⟨"CashMachineModel", "jam", "(I)I"⟩
abbrev jc_M_power : ByteArray := prog_12_method_27_code
def jy_M_power : MethodName := ⟨"CashMachineModel", "power", "(I)I"⟩
abbrev jc_M_boot : ByteArray := prog_12_method_28_code
def jy_M_boot : MethodName := ⟨"CashMachineModel", "boot", "()I"⟩
abbrev jc_M_settle : ByteArray := prog_12_method_29_code
def jy_M_settle : MethodName := ⟨"CashMachineModel", "settle", "()I"⟩
abbrev jc_M_reversalCame : ByteArray := prog_12_method_15_code
def jy_M_reversalCame : MethodName := ⟨"CashMachineModel", "reversalCame", "(II)V"⟩
abbrev jc_M_balance : ByteArray := prog_12_method_30_code
def jy_M_balance : MethodName := ⟨"CashMachineModel", "balance", "(I)I"⟩
abbrev jc_M_trace : ByteArray := prog_12_method_31_code
def jy_M_trace : MethodName := ⟨"CashMachineModel", "trace", "(II)I"⟩
abbrev jc_M_reversal : ByteArray := prog_12_method_32_code
def jy_M_reversal : MethodName := ⟨"CashMachineModel", "reversal", "(I)I"⟩
abbrev jc_M_notes : ByteArray := prog_12_method_33_code
def jy_M_notes : MethodName := ⟨"CashMachineModel", "notes", "(I)I"⟩
abbrev jc_M_difference : ByteArray := prog_12_method_34_code
def jy_M_difference : MethodName := ⟨"CashMachineModel", "difference", "()I"⟩
abbrev jc_M_count : ByteArray := prog_12_method_35_code
def jy_M_count : MethodName := ⟨"CashMachineModel", "count", "(I)I"⟩
abbrev jc_L_law : ByteArray := code
def jy_L_law : MethodName := ⟨"CashMachineLaw", "law", "([I)Z"⟩
theorem ja_g {w : Cond} (h : w ∈ lw_tbl) (g : goodWord w = true) : w ∈ ja_T := List.mem_filter.mpr ⟨h, g⟩
theorem ja_i1 {w : Cond} (h : w ∈ tables_1_1) : w ∈ lw_tbl := List.mem_append_right _ (List.mem_append_left _ h)
theorem ja_i2 {w : Cond} (h : w ∈ tables_1_2) : w ∈ lw_tbl := List.mem_append_right _ (List.mem_append_right _ (List.mem_append_left _ h))
theorem ja_i3 {w : Cond} (h : w ∈ tables_1_3) : w ∈ lw_tbl := List.mem_append_right _ (List.mem_append_right _ (List.mem_append_right _ (List.mem_append_left _ h)))
theorem ja_i4 {w : Cond} (h : w ∈ tables_1_4) : w ∈ lw_tbl := List.mem_append_right _ (List.mem_append_right _ (List.mem_append_right _ (List.mem_append_right _ h)))
theorem jw_0 : (Jvm.Cond.initialized "CashMachineLaw") ∈ ja_T := ja_g (ja_i1 (List.mem_of_getElem? (i := 0) rfl)) rfl
theorem jw_1 : (Jvm.Cond.initialized "CashMachine") ∈ ja_T := ja_g (ja_i1 (List.mem_of_getElem? (i := 1) rfl)) rfl
theorem jw_2 : (Jvm.Cond.initialized "CashMachine$Host") ∈ ja_T := ja_g (ja_i1 (List.mem_of_getElem? (i := 2) rfl)) rfl
theorem jw_3 : (Jvm.Cond.initialized "CashMachine$Account") ∈ ja_T := ja_g (ja_i1 (List.mem_of_getElem? (i := 3) rfl)) rfl
theorem jw_4 : (Jvm.Cond.initialized "CashMachine$Line") ∈ ja_T := ja_g (ja_i1 (List.mem_of_getElem? (i := 4) rfl)) rfl
theorem jw_5 : (Jvm.Cond.initialized "CashMachine$Dispenser") ∈ ja_T := ja_g (ja_i1 (List.mem_of_getElem? (i := 5) rfl)) rfl
theorem jw_6 : (Jvm.Cond.initialized "CashMachine$Mix") ∈ ja_T := ja_g (ja_i1 (List.mem_of_getElem? (i := 6) rfl)) rfl
theorem jw_7 : (Jvm.Cond.initialized "CashMachine$Cassette") ∈ ja_T := ja_g (ja_i1 (List.mem_of_getElem? (i := 7) rfl)) rfl
theorem jw_8 : (Jvm.Cond.initialized "CashMachine$Journal") ∈ ja_T := ja_g (ja_i1 (List.mem_of_getElem? (i := 8) rfl)) rfl
theorem jw_9 : (Jvm.Cond.initialized "CashMachine$Entry") ∈ ja_T := ja_g (ja_i1 (List.mem_of_getElem? (i := 9) rfl)) rfl
theorem jw_10 : (Jvm.Cond.initialized "CashMachine$Reversals") ∈ ja_T := ja_g (ja_i1 (List.mem_of_getElem? (i := 10) rfl)) rfl
theorem jw_11 : (Jvm.Cond.initialized "CashMachineModel") ∈ ja_T := ja_g (ja_i1 (List.mem_of_getElem? (i := 11) rfl)) rfl
theorem jw_12 : (Jvm.Cond.initialized "java/lang/Throwable") ∈ ja_T := ja_g (ja_i1 (List.mem_of_getElem? (i := 12) rfl)) rfl
theorem jw_13 : (Jvm.Cond.initialized "java/lang/Exception") ∈ ja_T := ja_g (ja_i1 (List.mem_of_getElem? (i := 13) rfl)) rfl
theorem jw_14 : (Jvm.Cond.initialized "java/lang/RuntimeException") ∈ ja_T := ja_g (ja_i1 (List.mem_of_getElem? (i := 14) rfl)) rfl
theorem jw_15 : (Jvm.Cond.initialized "java/lang/IllegalArgumentException") ∈ ja_T := ja_g (ja_i1 (List.mem_of_getElem? (i := 15) rfl)) rfl
theorem jw_16 : (Jvm.Cond.initialized "java/lang/IllegalStateException") ∈ ja_T := ja_g (ja_i1 (List.mem_of_getElem? (i := 16) rfl)) rfl
theorem jw_17 : (Jvm.Cond.initialized "java/util/NoSuchElementException") ∈ ja_T := ja_g (ja_i1 (List.mem_of_getElem? (i := 17) rfl)) rfl
theorem jw_18 : (Jvm.Cond.initialized "java/lang/UnsupportedOperationException") ∈ ja_T := ja_g (ja_i1 (List.mem_of_getElem? (i := 18) rfl)) rfl
theorem jw_19 : (Jvm.Cond.initialized "java/util/Arrays") ∈ ja_T := ja_g (ja_i1 (List.mem_of_getElem? (i := 19) rfl)) rfl
theorem jw_20 : (Jvm.Cond.initialized "java/lang/Math") ∈ ja_T := ja_g (ja_i1 (List.mem_of_getElem? (i := 20) rfl)) rfl
theorem jw_21 : (Jvm.Cond.initialized "java/lang/IndexOutOfBoundsException") ∈ ja_T := ja_g (ja_i1 (List.mem_of_getElem? (i := 21) rfl)) rfl
theorem jw_22 : (Jvm.Cond.initialized "java/lang/System") ∈ ja_T := ja_g (ja_i1 (List.mem_of_getElem? (i := 22) rfl)) rfl
theorem jw_23 : (Jvm.Cond.classLink "CashMachineLaw" (8 : Nat) "CashMachine") ∈ ja_T := ja_g (ja_i1 (List.mem_of_getElem? (i := 23) rfl)) rfl
theorem jw_24 : (Jvm.Cond.instantiable "CashMachine" (9 : Nat)) ∈ ja_T := ja_g (ja_i1 (List.mem_of_getElem? (i := 24) rfl)) rfl
theorem jw_25 : (Jvm.Cond.methodLink "CashMachineLaw" (74 : Nat) ({ cls := "CashMachine", name := "<init>", desc := "()V" } : Jvm.MethodName)) ∈ ja_T := ja_g (ja_i1 (List.mem_of_getElem? (i := 25) rfl)) rfl
theorem jw_26 : (Jvm.Cond.instanceMethod ({ cls := "CashMachine", name := "<init>", desc := "()V" } : Jvm.MethodName)) ∈ ja_T := ja_g (ja_i1 (List.mem_of_getElem? (i := 26) rfl)) rfl
theorem jw_27 : (Jvm.Cond.code ({ cls := "CashMachine", name := "<init>", desc := "()V" } : Jvm.MethodName) prog_1_method_1_code (1 : Nat) (Option.none : Option Jvm.ClassFile.FieldType)) ∈ ja_T := ja_g (ja_i1 (List.mem_of_getElem? (i := 27) rfl)) rfl
theorem jw_28 : (Jvm.Cond.methodLink "CashMachine" (1 : Nat) ({ cls := "java/lang/Object", name := "<init>", desc := "()V" } : Jvm.MethodName)) ∈ ja_T := ja_g (ja_i1 (List.mem_of_getElem? (i := 28) rfl)) rfl
theorem jw_29 : (Jvm.Cond.instanceMethod ({ cls := "java/lang/Object", name := "<init>", desc := "()V" } : Jvm.MethodName)) ∈ ja_T := ja_g (ja_i1 (List.mem_of_getElem? (i := 29) rfl)) rfl
theorem jw_30 : (Jvm.Cond.code ({ cls := "java/lang/Object", name := "<init>", desc := "()V" } : Jvm.MethodName) object_method_1_code (1 : Nat) (Option.none : Option Jvm.ClassFile.FieldType)) ∈ ja_T := ja_g (ja_i1 (List.mem_of_getElem? (i := 30) rfl)) rfl
theorem jw_31 : (Jvm.Cond.classLink "CashMachine" (7 : Nat) "CashMachine$Host") ∈ ja_T := ja_g (ja_i1 (List.mem_of_getElem? (i := 31) rfl)) rfl
theorem jw_32 : (Jvm.Cond.instantiable "CashMachine$Host" (4 : Nat)) ∈ ja_T := ja_g (ja_i1 (List.mem_of_getElem? (i := 32) rfl)) rfl
theorem jw_33 : (Jvm.Cond.methodLink "CashMachine" (9 : Nat) ({ cls := "CashMachine$Host", name := "<init>", desc := "()V" } : Jvm.MethodName)) ∈ ja_T := ja_g (ja_i1 (List.mem_of_getElem? (i := 33) rfl)) rfl
theorem jw_34 : (Jvm.Cond.instanceMethod ({ cls := "CashMachine$Host", name := "<init>", desc := "()V" } : Jvm.MethodName)) ∈ ja_T := ja_g (ja_i1 (List.mem_of_getElem? (i := 34) rfl)) rfl
theorem jw_35 : (Jvm.Cond.code ({ cls := "CashMachine$Host", name := "<init>", desc := "()V" } : Jvm.MethodName) prog_6_method_1_code (2 : Nat) (Option.none : Option Jvm.ClassFile.FieldType)) ∈ ja_T := ja_g (ja_i1 (List.mem_of_getElem? (i := 35) rfl)) rfl
theorem jw_36 : (Jvm.Cond.methodLink "CashMachine$Host" (3 : Nat) ({ cls := "java/lang/Object", name := "<init>", desc := "()V" } : Jvm.MethodName)) ∈ ja_T := ja_g (ja_i1 (List.mem_of_getElem? (i := 36) rfl)) rfl
theorem jw_37 : (Jvm.Cond.classLink "CashMachine$Host" (9 : Nat) "CashMachine$Account") ∈ ja_T := ja_g (ja_i1 (List.mem_of_getElem? (i := 37) rfl)) rfl
theorem jv_38 : (Jvm.Cond.arrayOver (Jvm.ClassFile.FieldType.object "CashMachine$Account")) ∈ lw_tbl := ja_i1 (List.mem_of_getElem? (i := 38) rfl)
theorem jw_39 : (Jvm.Cond.instantiable "CashMachine$Account" (6 : Nat)) ∈ ja_T := ja_g (ja_i1 (List.mem_of_getElem? (i := 39) rfl)) rfl
theorem jv_40 : (Jvm.Cond.methodLinkNest "CashMachine$Host" (28 : Nat) ({ cls := "CashMachine$Account", name := "<init>", desc := "()V" } : Jvm.MethodName) "CashMachine") ∈ lw_tbl := ja_i1 (List.mem_of_getElem? (i := 40) rfl)
theorem jw_41 : (Jvm.Cond.instanceMethod ({ cls := "CashMachine$Account", name := "<init>", desc := "()V" } : Jvm.MethodName)) ∈ ja_T := ja_g (ja_i1 (List.mem_of_getElem? (i := 41) rfl)) rfl
theorem jw_42 : (Jvm.Cond.code ({ cls := "CashMachine$Account", name := "<init>", desc := "()V" } : Jvm.MethodName) prog_2_method_1_code (1 : Nat) (Option.none : Option Jvm.ClassFile.FieldType)) ∈ ja_T := ja_g (ja_i1 (List.mem_of_getElem? (i := 42) rfl)) rfl
theorem jw_43 : (Jvm.Cond.methodLink "CashMachine$Account" (3 : Nat) ({ cls := "java/lang/Object", name := "<init>", desc := "()V" } : Jvm.MethodName)) ∈ ja_T := ja_g (ja_i1 (List.mem_of_getElem? (i := 43) rfl)) rfl
theorem jw_44 : (Jvm.Cond.fieldLink "CashMachine$Account" (9 : Nat) "CashMachine$Account" "opened" "Z") ∈ ja_T := ja_g (ja_i1 (List.mem_of_getElem? (i := 44) rfl)) rfl
theorem jw_45 : (Jvm.Cond.fieldLink "CashMachine$Host" (33 : Nat) "CashMachine$Account" "opened" "Z") ∈ ja_T := ja_g (ja_i1 (List.mem_of_getElem? (i := 45) rfl)) rfl
theorem jw_46 : (Jvm.Cond.fieldLink "CashMachine$Account" (15 : Nat) "CashMachine$Account" "pin" "I") ∈ ja_T := ja_g (ja_i1 (List.mem_of_getElem? (i := 46) rfl)) rfl
theorem jw_47 : (Jvm.Cond.fieldLink "CashMachine$Host" (37 : Nat) "CashMachine$Account" "pin" "I") ∈ ja_T := ja_g (ja_i1 (List.mem_of_getElem? (i := 47) rfl)) rfl
theorem jw_48 : (Jvm.Cond.fieldLink "CashMachine$Account" (19 : Nat) "CashMachine$Account" "openedWith" "I") ∈ ja_T := ja_g (ja_i1 (List.mem_of_getElem? (i := 48) rfl)) rfl
theorem jw_49 : (Jvm.Cond.fieldLink "CashMachine$Host" (41 : Nat) "CashMachine$Account" "openedWith" "I") ∈ ja_T := ja_g (ja_i1 (List.mem_of_getElem? (i := 49) rfl)) rfl
theorem jw_50 : (Jvm.Cond.fieldLink "CashMachine$Account" (22 : Nat) "CashMachine$Account" "balance" "I") ∈ ja_T := ja_g (ja_i1 (List.mem_of_getElem? (i := 50) rfl)) rfl
theorem jw_51 : (Jvm.Cond.fieldLink "CashMachine$Host" (44 : Nat) "CashMachine$Account" "balance" "I") ∈ ja_T := ja_g (ja_i1 (List.mem_of_getElem? (i := 51) rfl)) rfl
theorem jw_52 : (Jvm.Cond.fieldLink "CashMachine" (159 : Nat) "CashMachine$Account" "balance" "I") ∈ ja_T := ja_g (ja_i1 (List.mem_of_getElem? (i := 52) rfl)) rfl
theorem jw_53 : (Jvm.Cond.fieldLink "CashMachine$Account" (25 : Nat) "CashMachine$Account" "triesLeft" "I") ∈ ja_T := ja_g (ja_i1 (List.mem_of_getElem? (i := 53) rfl)) rfl
theorem jw_54 : (Jvm.Cond.fieldLink "CashMachine" (100 : Nat) "CashMachine$Account" "triesLeft" "I") ∈ ja_T := ja_g (ja_i1 (List.mem_of_getElem? (i := 54) rfl)) rfl
theorem jw_55 : (Jvm.Cond.fieldLink "CashMachine$Account" (28 : Nat) "CashMachine$Account" "blocked" "Z") ∈ ja_T := ja_g (ja_i1 (List.mem_of_getElem? (i := 55) rfl)) rfl
theorem jw_56 : (Jvm.Cond.fieldLink "CashMachine" (92 : Nat) "CashMachine$Account" "blocked" "Z") ∈ ja_T := ja_g (ja_i1 (List.mem_of_getElem? (i := 56) rfl)) rfl
theorem jw_57 : (Jvm.Cond.fieldLink "CashMachine$Host" (51 : Nat) "CashMachine$Account" "blocked" "Z") ∈ ja_T := ja_g (ja_i1 (List.mem_of_getElem? (i := 57) rfl)) rfl
theorem jw_58 : (Jvm.Cond.lays "CashMachine$Account" "CashMachine$Account" "opened" "Z") ∈ ja_T := ja_g (ja_i1 (List.mem_of_getElem? (i := 58) rfl)) rfl
theorem jw_59 : (Jvm.Cond.soleField "CashMachine$Account" "opened") ∈ ja_T := ja_g (ja_i1 (List.mem_of_getElem? (i := 59) rfl)) rfl
theorem jw_60 : (Jvm.Cond.lays "CashMachine$Account" "CashMachine$Account" "pin" "I") ∈ ja_T := ja_g (ja_i1 (List.mem_of_getElem? (i := 60) rfl)) rfl
theorem jw_61 : (Jvm.Cond.soleField "CashMachine$Account" "pin") ∈ ja_T := ja_g (ja_i1 (List.mem_of_getElem? (i := 61) rfl)) rfl
theorem jw_62 : (Jvm.Cond.lays "CashMachine$Account" "CashMachine$Account" "openedWith" "I") ∈ ja_T := ja_g (ja_i1 (List.mem_of_getElem? (i := 62) rfl)) rfl
theorem jw_63 : (Jvm.Cond.soleField "CashMachine$Account" "openedWith") ∈ ja_T := ja_g (ja_i1 (List.mem_of_getElem? (i := 63) rfl)) rfl
theorem jw_64 : (Jvm.Cond.lays "CashMachine$Account" "CashMachine$Account" "balance" "I") ∈ ja_T := ja_g (ja_i1 (List.mem_of_getElem? (i := 64) rfl)) rfl
theorem jw_65 : (Jvm.Cond.soleField "CashMachine$Account" "balance") ∈ ja_T := ja_g (ja_i1 (List.mem_of_getElem? (i := 65) rfl)) rfl
theorem jw_66 : (Jvm.Cond.lays "CashMachine$Account" "CashMachine$Account" "triesLeft" "I") ∈ ja_T := ja_g (ja_i1 (List.mem_of_getElem? (i := 66) rfl)) rfl
theorem jw_67 : (Jvm.Cond.soleField "CashMachine$Account" "triesLeft") ∈ ja_T := ja_g (ja_i1 (List.mem_of_getElem? (i := 67) rfl)) rfl
theorem jw_68 : (Jvm.Cond.lays "CashMachine$Account" "CashMachine$Account" "blocked" "Z") ∈ ja_T := ja_g (ja_i1 (List.mem_of_getElem? (i := 68) rfl)) rfl
theorem jw_69 : (Jvm.Cond.soleField "CashMachine$Account" "blocked") ∈ ja_T := ja_g (ja_i1 (List.mem_of_getElem? (i := 69) rfl)) rfl
theorem jw_70 : (Jvm.Cond.superclass "CashMachine$Account" "java/lang/Object") ∈ ja_T := ja_g (ja_i1 (List.mem_of_getElem? (i := 70) rfl)) rfl
theorem jw_71 : (Jvm.Cond.arrayClass Jvm.ClassFile.FieldType.int) ∈ ja_T := ja_g (ja_i1 (List.mem_of_getElem? (i := 71) rfl)) rfl
theorem jw_72 : (Jvm.Cond.arrayClass Jvm.ClassFile.FieldType.boolean) ∈ ja_T := ja_g (ja_i1 (List.mem_of_getElem? (i := 72) rfl)) rfl
theorem jw_73 : (Jvm.Cond.fieldLink "CashMachine$Host" (11 : Nat) "CashMachine$Host" "accounts" "[LCashMachine$Account;") ∈ ja_T := ja_g (ja_i1 (List.mem_of_getElem? (i := 73) rfl)) rfl
theorem jw_74 : (Jvm.Cond.fieldLink "CashMachine" (88 : Nat) "CashMachine$Host" "accounts" "[LCashMachine$Account;") ∈ ja_T := ja_g (ja_i1 (List.mem_of_getElem? (i := 74) rfl)) rfl
theorem jw_75 : (Jvm.Cond.fieldLink "CashMachine$Host" (17 : Nat) "CashMachine$Host" "answers" "[I") ∈ ja_T := ja_g (ja_i1 (List.mem_of_getElem? (i := 75) rfl)) rfl
theorem jw_76 : (Jvm.Cond.fieldLink "CashMachine$Host" (21 : Nat) "CashMachine$Host" "accountOfTrace" "[I") ∈ ja_T := ja_g (ja_i1 (List.mem_of_getElem? (i := 76) rfl)) rfl
theorem jw_77 : (Jvm.Cond.fieldLink "CashMachine$Host" (24 : Nat) "CashMachine$Host" "reversed" "[Z") ∈ ja_T := ja_g (ja_i1 (List.mem_of_getElem? (i := 77) rfl)) rfl
theorem jw_78 : (Jvm.Cond.laysFinal "CashMachine$Host" "CashMachine$Host" "accounts" "[LCashMachine$Account;") ∈ ja_T := ja_g (ja_i1 (List.mem_of_getElem? (i := 78) rfl)) rfl
theorem jw_79 : (Jvm.Cond.soleField "CashMachine$Host" "accounts") ∈ ja_T := ja_g (ja_i1 (List.mem_of_getElem? (i := 79) rfl)) rfl
theorem jw_80 : (Jvm.Cond.laysFinal "CashMachine$Host" "CashMachine$Host" "answers" "[I") ∈ ja_T := ja_g (ja_i1 (List.mem_of_getElem? (i := 80) rfl)) rfl
theorem jw_81 : (Jvm.Cond.soleField "CashMachine$Host" "answers") ∈ ja_T := ja_g (ja_i1 (List.mem_of_getElem? (i := 81) rfl)) rfl
theorem jw_82 : (Jvm.Cond.laysFinal "CashMachine$Host" "CashMachine$Host" "accountOfTrace" "[I") ∈ ja_T := ja_g (ja_i1 (List.mem_of_getElem? (i := 82) rfl)) rfl
theorem jw_83 : (Jvm.Cond.soleField "CashMachine$Host" "accountOfTrace") ∈ ja_T := ja_g (ja_i1 (List.mem_of_getElem? (i := 83) rfl)) rfl
theorem jw_84 : (Jvm.Cond.laysFinal "CashMachine$Host" "CashMachine$Host" "reversed" "[Z") ∈ ja_T := ja_g (ja_i1 (List.mem_of_getElem? (i := 84) rfl)) rfl
theorem jw_85 : (Jvm.Cond.soleField "CashMachine$Host" "reversed") ∈ ja_T := ja_g (ja_i1 (List.mem_of_getElem? (i := 85) rfl)) rfl
theorem jw_86 : (Jvm.Cond.superclass "CashMachine$Host" "java/lang/Object") ∈ ja_T := ja_g (ja_i1 (List.mem_of_getElem? (i := 86) rfl)) rfl
theorem jw_87 : (Jvm.Cond.classLink "CashMachine" (16 : Nat) "CashMachine$Line") ∈ ja_T := ja_g (ja_i1 (List.mem_of_getElem? (i := 87) rfl)) rfl
theorem jw_88 : (Jvm.Cond.instantiable "CashMachine$Line" (2 : Nat)) ∈ ja_T := ja_g (ja_i1 (List.mem_of_getElem? (i := 88) rfl)) rfl
theorem jv_89 : (Jvm.Cond.methodLinkNest "CashMachine" (18 : Nat) ({ cls := "CashMachine$Line", name := "<init>", desc := "()V" } : Jvm.MethodName) "CashMachine") ∈ lw_tbl := ja_i1 (List.mem_of_getElem? (i := 89) rfl)
theorem jw_90 : (Jvm.Cond.instanceMethod ({ cls := "CashMachine$Line", name := "<init>", desc := "()V" } : Jvm.MethodName)) ∈ ja_T := ja_g (ja_i1 (List.mem_of_getElem? (i := 90) rfl)) rfl
theorem jw_91 : (Jvm.Cond.code ({ cls := "CashMachine$Line", name := "<init>", desc := "()V" } : Jvm.MethodName) prog_8_method_1_code (1 : Nat) (Option.none : Option Jvm.ClassFile.FieldType)) ∈ ja_T := ja_g (ja_i1 (List.mem_of_getElem? (i := 91) rfl)) rfl
theorem jw_92 : (Jvm.Cond.methodLink "CashMachine$Line" (3 : Nat) ({ cls := "java/lang/Object", name := "<init>", desc := "()V" } : Jvm.MethodName)) ∈ ja_T := ja_g (ja_i1 (List.mem_of_getElem? (i := 92) rfl)) rfl
theorem jw_93 : (Jvm.Cond.fieldLink "CashMachine$Line" (9 : Nat) "CashMachine$Line" "fates" "[I") ∈ ja_T := ja_g (ja_i1 (List.mem_of_getElem? (i := 93) rfl)) rfl
theorem jw_94 : (Jvm.Cond.fieldLink "CashMachine$Line" (15 : Nat) "CashMachine$Line" "size" "I") ∈ ja_T := ja_g (ja_i1 (List.mem_of_getElem? (i := 94) rfl)) rfl
theorem jw_95 : (Jvm.Cond.fieldLink "CashMachine" (136 : Nat) "CashMachine$Line" "size" "I") ∈ ja_T := ja_g (ja_i1 (List.mem_of_getElem? (i := 95) rfl)) rfl
theorem jw_96 : (Jvm.Cond.laysFinal "CashMachine$Line" "CashMachine$Line" "fates" "[I") ∈ ja_T := ja_g (ja_i1 (List.mem_of_getElem? (i := 96) rfl)) rfl
theorem jw_97 : (Jvm.Cond.soleField "CashMachine$Line" "fates") ∈ ja_T := ja_g (ja_i1 (List.mem_of_getElem? (i := 97) rfl)) rfl
theorem jw_98 : (Jvm.Cond.lays "CashMachine$Line" "CashMachine$Line" "size" "I") ∈ ja_T := ja_g (ja_i1 (List.mem_of_getElem? (i := 98) rfl)) rfl
theorem jw_99 : (Jvm.Cond.soleField "CashMachine$Line" "size") ∈ ja_T := ja_g (ja_i1 (List.mem_of_getElem? (i := 99) rfl)) rfl
theorem jw_100 : (Jvm.Cond.superclass "CashMachine$Line" "java/lang/Object") ∈ ja_T := ja_g (ja_i1 (List.mem_of_getElem? (i := 100) rfl)) rfl
theorem jw_101 : (Jvm.Cond.classLink "CashMachine" (23 : Nat) "CashMachine$Dispenser") ∈ ja_T := ja_g (ja_i1 (List.mem_of_getElem? (i := 101) rfl)) rfl
theorem jw_102 : (Jvm.Cond.instantiable "CashMachine$Dispenser" (6 : Nat)) ∈ ja_T := ja_g (ja_i1 (List.mem_of_getElem? (i := 102) rfl)) rfl
theorem jw_103 : (Jvm.Cond.methodLink "CashMachine" (25 : Nat) ({ cls := "CashMachine$Dispenser", name := "<init>", desc := "()V" } : Jvm.MethodName)) ∈ ja_T := ja_g (ja_i1 (List.mem_of_getElem? (i := 103) rfl)) rfl
theorem jw_104 : (Jvm.Cond.instanceMethod ({ cls := "CashMachine$Dispenser", name := "<init>", desc := "()V" } : Jvm.MethodName)) ∈ ja_T := ja_g (ja_i1 (List.mem_of_getElem? (i := 104) rfl)) rfl
theorem jw_105 : (Jvm.Cond.code ({ cls := "CashMachine$Dispenser", name := "<init>", desc := "()V" } : Jvm.MethodName) prog_4_method_1_code (2 : Nat) (Option.none : Option Jvm.ClassFile.FieldType)) ∈ ja_T := ja_g (ja_i1 (List.mem_of_getElem? (i := 105) rfl)) rfl
theorem jw_106 : (Jvm.Cond.methodLink "CashMachine$Dispenser" (3 : Nat) ({ cls := "java/lang/Object", name := "<init>", desc := "()V" } : Jvm.MethodName)) ∈ ja_T := ja_g (ja_i1 (List.mem_of_getElem? (i := 106) rfl)) rfl
theorem jw_107 : (Jvm.Cond.classLink "CashMachine$Dispenser" (9 : Nat) "CashMachine$Cassette") ∈ ja_T := ja_g (ja_i1 (List.mem_of_getElem? (i := 107) rfl)) rfl
theorem jv_108 : (Jvm.Cond.arrayOver (Jvm.ClassFile.FieldType.object "CashMachine$Cassette")) ∈ lw_tbl := ja_i1 (List.mem_of_getElem? (i := 108) rfl)
theorem jw_109 : (Jvm.Cond.classLink "CashMachine$Dispenser" (17 : Nat) "CashMachine$Mix") ∈ ja_T := ja_g (ja_i1 (List.mem_of_getElem? (i := 109) rfl)) rfl
theorem jw_110 : (Jvm.Cond.instantiable "CashMachine$Mix" (2 : Nat)) ∈ ja_T := ja_g (ja_i1 (List.mem_of_getElem? (i := 110) rfl)) rfl
theorem jv_111 : (Jvm.Cond.methodLinkNest "CashMachine$Dispenser" (19 : Nat) ({ cls := "CashMachine$Mix", name := "<init>", desc := "()V" } : Jvm.MethodName) "CashMachine") ∈ lw_tbl := ja_i1 (List.mem_of_getElem? (i := 111) rfl)
theorem jw_112 : (Jvm.Cond.instanceMethod ({ cls := "CashMachine$Mix", name := "<init>", desc := "()V" } : Jvm.MethodName)) ∈ ja_T := ja_g (ja_i1 (List.mem_of_getElem? (i := 112) rfl)) rfl
theorem jw_113 : (Jvm.Cond.code ({ cls := "CashMachine$Mix", name := "<init>", desc := "()V" } : Jvm.MethodName) prog_9_method_1_code (1 : Nat) (Option.none : Option Jvm.ClassFile.FieldType)) ∈ ja_T := ja_g (ja_i1 (List.mem_of_getElem? (i := 113) rfl)) rfl
theorem jw_114 : (Jvm.Cond.methodLink "CashMachine$Mix" (3 : Nat) ({ cls := "java/lang/Object", name := "<init>", desc := "()V" } : Jvm.MethodName)) ∈ ja_T := ja_g (ja_i1 (List.mem_of_getElem? (i := 114) rfl)) rfl
theorem jw_115 : (Jvm.Cond.fieldLink "CashMachine$Mix" (9 : Nat) "CashMachine$Mix" "taken" "[I") ∈ ja_T := ja_g (ja_i1 (List.mem_of_getElem? (i := 115) rfl)) rfl
theorem jw_116 : (Jvm.Cond.fieldLink "CashMachine$Dispenser" (52 : Nat) "CashMachine$Mix" "taken" "[I") ∈ ja_T := ja_g (ja_i1 (List.mem_of_getElem? (i := 116) rfl)) rfl
theorem jw_117 : (Jvm.Cond.fieldLink "CashMachine" (130 : Nat) "CashMachine$Mix" "taken" "[I") ∈ ja_T := ja_g (ja_i1 (List.mem_of_getElem? (i := 117) rfl)) rfl
theorem jw_118 : (Jvm.Cond.fieldLink "CashMachine$Mix" (15 : Nat) "CashMachine$Mix" "rankOfLastTwo" "[I") ∈ ja_T := ja_g (ja_i1 (List.mem_of_getElem? (i := 118) rfl)) rfl
theorem jw_119 : (Jvm.Cond.laysFinal "CashMachine$Mix" "CashMachine$Mix" "taken" "[I") ∈ ja_T := ja_g (ja_i1 (List.mem_of_getElem? (i := 119) rfl)) rfl
theorem jw_120 : (Jvm.Cond.soleField "CashMachine$Mix" "taken") ∈ ja_T := ja_g (ja_i1 (List.mem_of_getElem? (i := 120) rfl)) rfl
theorem jw_121 : (Jvm.Cond.laysFinal "CashMachine$Mix" "CashMachine$Mix" "rankOfLastTwo" "[I") ∈ ja_T := ja_g (ja_i1 (List.mem_of_getElem? (i := 121) rfl)) rfl
theorem jw_122 : (Jvm.Cond.soleField "CashMachine$Mix" "rankOfLastTwo") ∈ ja_T := ja_g (ja_i1 (List.mem_of_getElem? (i := 122) rfl)) rfl
theorem jw_123 : (Jvm.Cond.superclass "CashMachine$Mix" "java/lang/Object") ∈ ja_T := ja_g (ja_i1 (List.mem_of_getElem? (i := 123) rfl)) rfl
theorem jw_124 : (Jvm.Cond.instantiable "CashMachine$Cassette" (2 : Nat)) ∈ ja_T := ja_g (ja_i1 (List.mem_of_getElem? (i := 124) rfl)) rfl
theorem jv_125 : (Jvm.Cond.methodLinkNest "CashMachine$Dispenser" (37 : Nat) ({ cls := "CashMachine$Cassette", name := "<init>", desc := "()V" } : Jvm.MethodName) "CashMachine") ∈ lw_tbl := ja_i1 (List.mem_of_getElem? (i := 125) rfl)
theorem jw_126 : (Jvm.Cond.instanceMethod ({ cls := "CashMachine$Cassette", name := "<init>", desc := "()V" } : Jvm.MethodName)) ∈ ja_T := ja_g (ja_i1 (List.mem_of_getElem? (i := 126) rfl)) rfl
theorem jw_127 : (Jvm.Cond.code ({ cls := "CashMachine$Cassette", name := "<init>", desc := "()V" } : Jvm.MethodName) prog_3_method_1_code (1 : Nat) (Option.none : Option Jvm.ClassFile.FieldType)) ∈ ja_T := ja_g (ja_i1 (List.mem_of_getElem? (i := 127) rfl)) rfl
theorem jw_128 : (Jvm.Cond.methodLink "CashMachine$Cassette" (1 : Nat) ({ cls := "java/lang/Object", name := "<init>", desc := "()V" } : Jvm.MethodName)) ∈ ja_T := ja_g (ja_i1 (List.mem_of_getElem? (i := 128) rfl)) rfl
theorem jw_129 : (Jvm.Cond.fieldLink "CashMachine$Cassette" (7 : Nat) "CashMachine$Cassette" "value" "I") ∈ ja_T := ja_g (ja_i1 (List.mem_of_getElem? (i := 129) rfl)) rfl
theorem jw_130 : (Jvm.Cond.fieldLink "CashMachine$Dispenser" (38 : Nat) "CashMachine$Cassette" "value" "I") ∈ ja_T := ja_g (ja_i1 (List.mem_of_getElem? (i := 130) rfl)) rfl
theorem jw_131 : (Jvm.Cond.fieldLink "CashMachine$Mix" (29 : Nat) "CashMachine$Cassette" "value" "I") ∈ ja_T := ja_g (ja_i1 (List.mem_of_getElem? (i := 131) rfl)) rfl
theorem jw_132 : (Jvm.Cond.fieldLink "CashMachine$Cassette" (13 : Nat) "CashMachine$Cassette" "notes" "I") ∈ ja_T := ja_g (ja_i1 (List.mem_of_getElem? (i := 132) rfl)) rfl
theorem jw_133 : (Jvm.Cond.fieldLink "CashMachine$Dispenser" (41 : Nat) "CashMachine$Cassette" "notes" "I") ∈ ja_T := ja_g (ja_i1 (List.mem_of_getElem? (i := 133) rfl)) rfl
theorem jw_134 : (Jvm.Cond.fieldLink "CashMachine$Mix" (23 : Nat) "CashMachine$Cassette" "notes" "I") ∈ ja_T := ja_g (ja_i1 (List.mem_of_getElem? (i := 134) rfl)) rfl
theorem jw_135 : (Jvm.Cond.fieldLink "CashMachine" (187 : Nat) "CashMachine$Cassette" "notes" "I") ∈ ja_T := ja_g (ja_i1 (List.mem_of_getElem? (i := 135) rfl)) rfl
theorem jw_136 : (Jvm.Cond.lays "CashMachine$Cassette" "CashMachine$Cassette" "value" "I") ∈ ja_T := ja_g (ja_i1 (List.mem_of_getElem? (i := 136) rfl)) rfl
theorem jw_137 : (Jvm.Cond.soleField "CashMachine$Cassette" "value") ∈ ja_T := ja_g (ja_i1 (List.mem_of_getElem? (i := 137) rfl)) rfl
theorem jw_138 : (Jvm.Cond.lays "CashMachine$Cassette" "CashMachine$Cassette" "notes" "I") ∈ ja_T := ja_g (ja_i1 (List.mem_of_getElem? (i := 138) rfl)) rfl
theorem jw_139 : (Jvm.Cond.soleField "CashMachine$Cassette" "notes") ∈ ja_T := ja_g (ja_i1 (List.mem_of_getElem? (i := 139) rfl)) rfl
theorem jw_140 : (Jvm.Cond.superclass "CashMachine$Cassette" "java/lang/Object") ∈ ja_T := ja_g (ja_i1 (List.mem_of_getElem? (i := 140) rfl)) rfl
theorem jw_141 : (Jvm.Cond.fieldLink "CashMachine$Dispenser" (11 : Nat) "CashMachine$Dispenser" "cassettes" "[LCashMachine$Cassette;") ∈ ja_T := ja_g (ja_i1 (List.mem_of_getElem? (i := 141) rfl)) rfl
theorem jw_142 : (Jvm.Cond.fieldLink "CashMachine" (183 : Nat) "CashMachine$Dispenser" "cassettes" "[LCashMachine$Cassette;") ∈ ja_T := ja_g (ja_i1 (List.mem_of_getElem? (i := 142) rfl)) rfl
theorem jw_143 : (Jvm.Cond.fieldLink "CashMachine$Dispenser" (20 : Nat) "CashMachine$Dispenser" "mix" "LCashMachine$Mix;") ∈ ja_T := ja_g (ja_i1 (List.mem_of_getElem? (i := 143) rfl)) rfl
theorem jw_144 : (Jvm.Cond.fieldLink "CashMachine" (126 : Nat) "CashMachine$Dispenser" "mix" "LCashMachine$Mix;") ∈ ja_T := ja_g (ja_i1 (List.mem_of_getElem? (i := 144) rfl)) rfl
theorem jw_145 : (Jvm.Cond.fieldLink "CashMachine$Dispenser" (24 : Nat) "CashMachine$Dispenser" "jam" "I") ∈ ja_T := ja_g (ja_i1 (List.mem_of_getElem? (i := 145) rfl)) rfl
theorem jw_146 : (Jvm.Cond.fieldLink "CashMachine" (141 : Nat) "CashMachine$Dispenser" "jam" "I") ∈ ja_T := ja_g (ja_i1 (List.mem_of_getElem? (i := 146) rfl)) rfl
theorem jw_147 : (Jvm.Cond.fieldLink "CashMachine$Dispenser" (28 : Nat) "CashMachine$Dispenser" "presentedInAll" "I") ∈ ja_T := ja_g (ja_i1 (List.mem_of_getElem? (i := 147) rfl)) rfl
theorem jw_148 : (Jvm.Cond.fieldLink "CashMachine" (195 : Nat) "CashMachine$Dispenser" "presentedInAll" "I") ∈ ja_T := ja_g (ja_i1 (List.mem_of_getElem? (i := 148) rfl)) rfl
theorem jw_149 : (Jvm.Cond.fieldLink "CashMachine$Dispenser" (31 : Nat) "CashMachine$Dispenser" "lastTrace" "I") ∈ ja_T := ja_g (ja_i1 (List.mem_of_getElem? (i := 149) rfl)) rfl
theorem jw_150 : (Jvm.Cond.fieldLink "CashMachine$Dispenser" (34 : Nat) "CashMachine$Dispenser" "lastPresented" "I") ∈ ja_T := ja_g (ja_i1 (List.mem_of_getElem? (i := 150) rfl)) rfl
theorem jw_151 : (Jvm.Cond.laysFinal "CashMachine$Dispenser" "CashMachine$Dispenser" "cassettes" "[LCashMachine$Cassette;") ∈ ja_T := ja_g (ja_i1 (List.mem_of_getElem? (i := 151) rfl)) rfl
theorem jw_152 : (Jvm.Cond.soleField "CashMachine$Dispenser" "cassettes") ∈ ja_T := ja_g (ja_i1 (List.mem_of_getElem? (i := 152) rfl)) rfl
theorem jw_153 : (Jvm.Cond.laysFinal "CashMachine$Dispenser" "CashMachine$Dispenser" "mix" "LCashMachine$Mix;") ∈ ja_T := ja_g (ja_i1 (List.mem_of_getElem? (i := 153) rfl)) rfl
theorem jw_154 : (Jvm.Cond.soleField "CashMachine$Dispenser" "mix") ∈ ja_T := ja_g (ja_i1 (List.mem_of_getElem? (i := 154) rfl)) rfl
theorem jw_155 : (Jvm.Cond.lays "CashMachine$Dispenser" "CashMachine$Dispenser" "jam" "I") ∈ ja_T := ja_g (ja_i1 (List.mem_of_getElem? (i := 155) rfl)) rfl
theorem jw_156 : (Jvm.Cond.soleField "CashMachine$Dispenser" "jam") ∈ ja_T := ja_g (ja_i1 (List.mem_of_getElem? (i := 156) rfl)) rfl
theorem jw_157 : (Jvm.Cond.lays "CashMachine$Dispenser" "CashMachine$Dispenser" "presentedInAll" "I") ∈ ja_T := ja_g (ja_i1 (List.mem_of_getElem? (i := 157) rfl)) rfl
theorem jw_158 : (Jvm.Cond.soleField "CashMachine$Dispenser" "presentedInAll") ∈ ja_T := ja_g (ja_i1 (List.mem_of_getElem? (i := 158) rfl)) rfl
theorem jw_159 : (Jvm.Cond.lays "CashMachine$Dispenser" "CashMachine$Dispenser" "lastTrace" "I") ∈ ja_T := ja_g (ja_i1 (List.mem_of_getElem? (i := 159) rfl)) rfl
theorem jw_160 : (Jvm.Cond.soleField "CashMachine$Dispenser" "lastTrace") ∈ ja_T := ja_g (ja_i1 (List.mem_of_getElem? (i := 160) rfl)) rfl
theorem jw_161 : (Jvm.Cond.lays "CashMachine$Dispenser" "CashMachine$Dispenser" "lastPresented" "I") ∈ ja_T := ja_g (ja_i1 (List.mem_of_getElem? (i := 161) rfl)) rfl
theorem jw_162 : (Jvm.Cond.soleField "CashMachine$Dispenser" "lastPresented") ∈ ja_T := ja_g (ja_i1 (List.mem_of_getElem? (i := 162) rfl)) rfl
theorem jw_163 : (Jvm.Cond.superclass "CashMachine$Dispenser" "java/lang/Object") ∈ ja_T := ja_g (ja_i1 (List.mem_of_getElem? (i := 163) rfl)) rfl
theorem jw_164 : (Jvm.Cond.classLink "CashMachine" (30 : Nat) "CashMachine$Journal") ∈ ja_T := ja_g (ja_i1 (List.mem_of_getElem? (i := 164) rfl)) rfl
theorem jw_165 : (Jvm.Cond.instantiable "CashMachine$Journal" (2 : Nat)) ∈ ja_T := ja_g (ja_i1 (List.mem_of_getElem? (i := 165) rfl)) rfl
theorem jw_166 : (Jvm.Cond.methodLink "CashMachine" (32 : Nat) ({ cls := "CashMachine$Journal", name := "<init>", desc := "()V" } : Jvm.MethodName)) ∈ ja_T := ja_g (ja_i1 (List.mem_of_getElem? (i := 166) rfl)) rfl
theorem jw_167 : (Jvm.Cond.instanceMethod ({ cls := "CashMachine$Journal", name := "<init>", desc := "()V" } : Jvm.MethodName)) ∈ ja_T := ja_g (ja_i1 (List.mem_of_getElem? (i := 167) rfl)) rfl
theorem jw_168 : (Jvm.Cond.code ({ cls := "CashMachine$Journal", name := "<init>", desc := "()V" } : Jvm.MethodName) prog_7_method_1_code (2 : Nat) (Option.none : Option Jvm.ClassFile.FieldType)) ∈ ja_T := ja_g (ja_i1 (List.mem_of_getElem? (i := 168) rfl)) rfl
theorem jw_169 : (Jvm.Cond.methodLink "CashMachine$Journal" (3 : Nat) ({ cls := "java/lang/Object", name := "<init>", desc := "()V" } : Jvm.MethodName)) ∈ ja_T := ja_g (ja_i1 (List.mem_of_getElem? (i := 169) rfl)) rfl
theorem jw_170 : (Jvm.Cond.classLink "CashMachine$Journal" (9 : Nat) "CashMachine$Entry") ∈ ja_T := ja_g (ja_i1 (List.mem_of_getElem? (i := 170) rfl)) rfl
theorem jv_171 : (Jvm.Cond.arrayOver (Jvm.ClassFile.FieldType.object "CashMachine$Entry")) ∈ lw_tbl := ja_i1 (List.mem_of_getElem? (i := 171) rfl)
theorem jw_172 : (Jvm.Cond.instantiable "CashMachine$Entry" (5 : Nat)) ∈ ja_T := ja_g (ja_i1 (List.mem_of_getElem? (i := 172) rfl)) rfl
theorem jw_173 : (Jvm.Cond.methodLink "CashMachine$Journal" (21 : Nat) ({ cls := "CashMachine$Entry", name := "<init>", desc := "(I)V" } : Jvm.MethodName)) ∈ ja_T := ja_g (ja_i1 (List.mem_of_getElem? (i := 173) rfl)) rfl
theorem jw_174 : (Jvm.Cond.instanceMethod ({ cls := "CashMachine$Entry", name := "<init>", desc := "(I)V" } : Jvm.MethodName)) ∈ ja_T := ja_g (ja_i1 (List.mem_of_getElem? (i := 174) rfl)) rfl
theorem jw_175 : (Jvm.Cond.code ({ cls := "CashMachine$Entry", name := "<init>", desc := "(I)V" } : Jvm.MethodName) prog_5_method_1_code (2 : Nat) (Option.none : Option Jvm.ClassFile.FieldType)) ∈ ja_T := ja_g (ja_i1 (List.mem_of_getElem? (i := 175) rfl)) rfl
theorem jw_176 : (Jvm.Cond.methodLink "CashMachine$Entry" (1 : Nat) ({ cls := "java/lang/Object", name := "<init>", desc := "()V" } : Jvm.MethodName)) ∈ ja_T := ja_g (ja_i1 (List.mem_of_getElem? (i := 176) rfl)) rfl
theorem jw_177 : (Jvm.Cond.fieldLink "CashMachine$Entry" (22 : Nat) "CashMachine$Entry" "trace" "I") ∈ ja_T := ja_g (ja_i1 (List.mem_of_getElem? (i := 177) rfl)) rfl
theorem jw_178 : (Jvm.Cond.fieldLink "CashMachine" (213 : Nat) "CashMachine$Entry" "trace" "I") ∈ ja_T := ja_g (ja_i1 (List.mem_of_getElem? (i := 178) rfl)) rfl
theorem jw_179 : (Jvm.Cond.fieldLink "CashMachine$Entry" (7 : Nat) "CashMachine$Entry" "account" "I") ∈ ja_T := ja_g (ja_i1 (List.mem_of_getElem? (i := 179) rfl)) rfl
theorem jw_180 : (Jvm.Cond.fieldLink "CashMachine$Journal" (24 : Nat) "CashMachine$Entry" "account" "I") ∈ ja_T := ja_g (ja_i1 (List.mem_of_getElem? (i := 180) rfl)) rfl
theorem jw_181 : (Jvm.Cond.fieldLink "CashMachine" (171 : Nat) "CashMachine$Entry" "account" "I") ∈ ja_T := ja_g (ja_i1 (List.mem_of_getElem? (i := 181) rfl)) rfl
theorem jw_182 : (Jvm.Cond.fieldLink "CashMachine$Entry" (13 : Nat) "CashMachine$Entry" "amount" "I") ∈ ja_T := ja_g (ja_i1 (List.mem_of_getElem? (i := 182) rfl)) rfl
theorem jw_183 : (Jvm.Cond.fieldLink "CashMachine$Journal" (27 : Nat) "CashMachine$Entry" "amount" "I") ∈ ja_T := ja_g (ja_i1 (List.mem_of_getElem? (i := 183) rfl)) rfl
theorem jw_184 : (Jvm.Cond.fieldLink "CashMachine" (174 : Nat) "CashMachine$Entry" "amount" "I") ∈ ja_T := ja_g (ja_i1 (List.mem_of_getElem? (i := 184) rfl)) rfl
theorem jw_185 : (Jvm.Cond.fieldLink "CashMachine$Entry" (16 : Nat) "CashMachine$Entry" "state" "I") ∈ ja_T := ja_g (ja_i1 (List.mem_of_getElem? (i := 185) rfl)) rfl
theorem jw_186 : (Jvm.Cond.fieldLink "CashMachine$Journal" (30 : Nat) "CashMachine$Entry" "state" "I") ∈ ja_T := ja_g (ja_i1 (List.mem_of_getElem? (i := 186) rfl)) rfl
theorem jw_187 : (Jvm.Cond.fieldLink "CashMachine" (166 : Nat) "CashMachine$Entry" "state" "I") ∈ ja_T := ja_g (ja_i1 (List.mem_of_getElem? (i := 187) rfl)) rfl
theorem jw_188 : (Jvm.Cond.fieldLink "CashMachine$Entry" (19 : Nat) "CashMachine$Entry" "presented" "I") ∈ ja_T := ja_g (ja_i1 (List.mem_of_getElem? (i := 188) rfl)) rfl
theorem jw_189 : (Jvm.Cond.fieldLink "CashMachine" (177 : Nat) "CashMachine$Entry" "presented" "I") ∈ ja_T := ja_g (ja_i1 (List.mem_of_getElem? (i := 189) rfl)) rfl
theorem jw_190 : (Jvm.Cond.laysFinal "CashMachine$Entry" "CashMachine$Entry" "trace" "I") ∈ ja_T := ja_g (ja_i1 (List.mem_of_getElem? (i := 190) rfl)) rfl
theorem jw_191 : (Jvm.Cond.soleField "CashMachine$Entry" "trace") ∈ ja_T := ja_g (ja_i1 (List.mem_of_getElem? (i := 191) rfl)) rfl
theorem jw_192 : (Jvm.Cond.lays "CashMachine$Entry" "CashMachine$Entry" "account" "I") ∈ ja_T := ja_g (ja_i1 (List.mem_of_getElem? (i := 192) rfl)) rfl
theorem jw_193 : (Jvm.Cond.soleField "CashMachine$Entry" "account") ∈ ja_T := ja_g (ja_i1 (List.mem_of_getElem? (i := 193) rfl)) rfl
theorem jw_194 : (Jvm.Cond.lays "CashMachine$Entry" "CashMachine$Entry" "amount" "I") ∈ ja_T := ja_g (ja_i1 (List.mem_of_getElem? (i := 194) rfl)) rfl
theorem jw_195 : (Jvm.Cond.soleField "CashMachine$Entry" "amount") ∈ ja_T := ja_g (ja_i1 (List.mem_of_getElem? (i := 195) rfl)) rfl
theorem jw_196 : (Jvm.Cond.lays "CashMachine$Entry" "CashMachine$Entry" "state" "I") ∈ ja_T := ja_g (ja_i1 (List.mem_of_getElem? (i := 196) rfl)) rfl
theorem jw_197 : (Jvm.Cond.soleField "CashMachine$Entry" "state") ∈ ja_T := ja_g (ja_i1 (List.mem_of_getElem? (i := 197) rfl)) rfl
theorem jw_198 : (Jvm.Cond.lays "CashMachine$Entry" "CashMachine$Entry" "presented" "I") ∈ ja_T := ja_g (ja_i1 (List.mem_of_getElem? (i := 198) rfl)) rfl
theorem jw_199 : (Jvm.Cond.soleField "CashMachine$Entry" "presented") ∈ ja_T := ja_g (ja_i1 (List.mem_of_getElem? (i := 199) rfl)) rfl
theorem jw_200 : (Jvm.Cond.superclass "CashMachine$Entry" "java/lang/Object") ∈ ja_T := ja_g (ja_i1 (List.mem_of_getElem? (i := 200) rfl)) rfl
theorem jw_201 : (Jvm.Cond.fieldLink "CashMachine$Journal" (11 : Nat) "CashMachine$Journal" "entries" "[LCashMachine$Entry;") ∈ ja_T := ja_g (ja_i1 (List.mem_of_getElem? (i := 201) rfl)) rfl
theorem jw_202 : (Jvm.Cond.fieldLink "CashMachine" (162 : Nat) "CashMachine$Journal" "entries" "[LCashMachine$Entry;") ∈ ja_T := ja_g (ja_i1 (List.mem_of_getElem? (i := 202) rfl)) rfl
theorem jw_203 : (Jvm.Cond.fieldLink "CashMachine$Journal" (17 : Nat) "CashMachine$Journal" "size" "I") ∈ ja_T := ja_g (ja_i1 (List.mem_of_getElem? (i := 203) rfl)) rfl
theorem jw_204 : (Jvm.Cond.fieldLink "CashMachine" (112 : Nat) "CashMachine$Journal" "size" "I") ∈ ja_T := ja_g (ja_i1 (List.mem_of_getElem? (i := 204) rfl)) rfl
theorem jw_205 : (Jvm.Cond.laysFinal "CashMachine$Journal" "CashMachine$Journal" "entries" "[LCashMachine$Entry;") ∈ ja_T := ja_g (ja_i1 (List.mem_of_getElem? (i := 205) rfl)) rfl
theorem jw_206 : (Jvm.Cond.soleField "CashMachine$Journal" "entries") ∈ ja_T := ja_g (ja_i1 (List.mem_of_getElem? (i := 206) rfl)) rfl
theorem jw_207 : (Jvm.Cond.lays "CashMachine$Journal" "CashMachine$Journal" "size" "I") ∈ ja_T := ja_g (ja_i1 (List.mem_of_getElem? (i := 207) rfl)) rfl
theorem jw_208 : (Jvm.Cond.soleField "CashMachine$Journal" "size") ∈ ja_T := ja_g (ja_i1 (List.mem_of_getElem? (i := 208) rfl)) rfl
theorem jw_209 : (Jvm.Cond.superclass "CashMachine$Journal" "java/lang/Object") ∈ ja_T := ja_g (ja_i1 (List.mem_of_getElem? (i := 209) rfl)) rfl
theorem jw_210 : (Jvm.Cond.classLink "CashMachine" (37 : Nat) "CashMachine$Reversals") ∈ ja_T := ja_g (ja_i1 (List.mem_of_getElem? (i := 210) rfl)) rfl
theorem jw_211 : (Jvm.Cond.instantiable "CashMachine$Reversals" (3 : Nat)) ∈ ja_T := ja_g (ja_i1 (List.mem_of_getElem? (i := 211) rfl)) rfl
theorem jv_212 : (Jvm.Cond.methodLinkNest "CashMachine" (39 : Nat) ({ cls := "CashMachine$Reversals", name := "<init>", desc := "()V" } : Jvm.MethodName) "CashMachine") ∈ lw_tbl := ja_i1 (List.mem_of_getElem? (i := 212) rfl)
theorem jw_213 : (Jvm.Cond.instanceMethod ({ cls := "CashMachine$Reversals", name := "<init>", desc := "()V" } : Jvm.MethodName)) ∈ ja_T := ja_g (ja_i1 (List.mem_of_getElem? (i := 213) rfl)) rfl
theorem jw_214 : (Jvm.Cond.code ({ cls := "CashMachine$Reversals", name := "<init>", desc := "()V" } : Jvm.MethodName) prog_10_method_1_code (1 : Nat) (Option.none : Option Jvm.ClassFile.FieldType)) ∈ ja_T := ja_g (ja_i1 (List.mem_of_getElem? (i := 214) rfl)) rfl
theorem jw_215 : (Jvm.Cond.methodLink "CashMachine$Reversals" (3 : Nat) ({ cls := "java/lang/Object", name := "<init>", desc := "()V" } : Jvm.MethodName)) ∈ ja_T := ja_g (ja_i1 (List.mem_of_getElem? (i := 215) rfl)) rfl
theorem jw_216 : (Jvm.Cond.fieldLink "CashMachine$Reversals" (9 : Nat) "CashMachine$Reversals" "traces" "[I") ∈ ja_T := ja_g (ja_i1 (List.mem_of_getElem? (i := 216) rfl)) rfl
theorem jw_217 : (Jvm.Cond.fieldLink "CashMachine" (236 : Nat) "CashMachine$Reversals" "traces" "[I") ∈ ja_T := ja_g (ja_i1 (List.mem_of_getElem? (i := 217) rfl)) rfl
theorem jw_218 : (Jvm.Cond.fieldLink "CashMachine$Reversals" (15 : Nat) "CashMachine$Reversals" "amounts" "[I") ∈ ja_T := ja_g (ja_i1 (List.mem_of_getElem? (i := 218) rfl)) rfl
theorem jw_219 : (Jvm.Cond.fieldLink "CashMachine" (180 : Nat) "CashMachine$Reversals" "amounts" "[I") ∈ ja_T := ja_g (ja_i1 (List.mem_of_getElem? (i := 219) rfl)) rfl
theorem jw_220 : (Jvm.Cond.fieldLink "CashMachine$Reversals" (18 : Nat) "CashMachine$Reversals" "size" "I") ∈ ja_T := ja_g (ja_i1 (List.mem_of_getElem? (i := 220) rfl)) rfl
theorem jw_221 : (Jvm.Cond.fieldLink "CashMachine" (152 : Nat) "CashMachine$Reversals" "size" "I") ∈ ja_T := ja_g (ja_i1 (List.mem_of_getElem? (i := 221) rfl)) rfl
theorem jw_222 : (Jvm.Cond.laysFinal "CashMachine$Reversals" "CashMachine$Reversals" "traces" "[I") ∈ ja_T := ja_g (ja_i1 (List.mem_of_getElem? (i := 222) rfl)) rfl
theorem jw_223 : (Jvm.Cond.soleField "CashMachine$Reversals" "traces") ∈ ja_T := ja_g (ja_i1 (List.mem_of_getElem? (i := 223) rfl)) rfl
theorem jw_224 : (Jvm.Cond.laysFinal "CashMachine$Reversals" "CashMachine$Reversals" "amounts" "[I") ∈ ja_T := ja_g (ja_i1 (List.mem_of_getElem? (i := 224) rfl)) rfl
theorem jw_225 : (Jvm.Cond.soleField "CashMachine$Reversals" "amounts") ∈ ja_T := ja_g (ja_i1 (List.mem_of_getElem? (i := 225) rfl)) rfl
theorem jw_226 : (Jvm.Cond.lays "CashMachine$Reversals" "CashMachine$Reversals" "size" "I") ∈ ja_T := ja_g (ja_i1 (List.mem_of_getElem? (i := 226) rfl)) rfl
theorem jw_227 : (Jvm.Cond.soleField "CashMachine$Reversals" "size") ∈ ja_T := ja_g (ja_i1 (List.mem_of_getElem? (i := 227) rfl)) rfl
theorem jw_228 : (Jvm.Cond.superclass "CashMachine$Reversals" "java/lang/Object") ∈ ja_T := ja_g (ja_i1 (List.mem_of_getElem? (i := 228) rfl)) rfl
theorem jw_229 : (Jvm.Cond.fieldLink "CashMachine" (10 : Nat) "CashMachine" "host" "LCashMachine$Host;") ∈ ja_T := ja_g (ja_i1 (List.mem_of_getElem? (i := 229) rfl)) rfl
theorem jw_230 : (Jvm.Cond.fieldLink "CashMachine" (19 : Nat) "CashMachine" "line" "LCashMachine$Line;") ∈ ja_T := ja_g (ja_i1 (List.mem_of_getElem? (i := 230) rfl)) rfl
theorem jw_231 : (Jvm.Cond.fieldLink "CashMachine" (26 : Nat) "CashMachine" "dispenser" "LCashMachine$Dispenser;") ∈ ja_T := ja_g (ja_i1 (List.mem_of_getElem? (i := 231) rfl)) rfl
theorem jw_232 : (Jvm.Cond.fieldLink "CashMachine" (33 : Nat) "CashMachine" "journal" "LCashMachine$Journal;") ∈ ja_T := ja_g (ja_i1 (List.mem_of_getElem? (i := 232) rfl)) rfl
theorem jw_233 : (Jvm.Cond.fieldLink "CashMachine" (40 : Nat) "CashMachine" "pending" "LCashMachine$Reversals;") ∈ ja_T := ja_g (ja_i1 (List.mem_of_getElem? (i := 233) rfl)) rfl
theorem jw_234 : (Jvm.Cond.fieldLink "CashMachine" (44 : Nat) "CashMachine" "on" "Z") ∈ ja_T := ja_g (ja_i1 (List.mem_of_getElem? (i := 234) rfl)) rfl
theorem jw_235 : (Jvm.Cond.fieldLink "CashMachine" (48 : Nat) "CashMachine" "session" "I") ∈ ja_T := ja_g (ja_i1 (List.mem_of_getElem? (i := 235) rfl)) rfl
theorem jw_236 : (Jvm.Cond.fieldLink "CashMachine" (52 : Nat) "CashMachine" "verified" "Z") ∈ ja_T := ja_g (ja_i1 (List.mem_of_getElem? (i := 236) rfl)) rfl
theorem jw_237 : (Jvm.Cond.fieldLink "CashMachine" (55 : Nat) "CashMachine" "failurePlace" "I") ∈ ja_T := ja_g (ja_i1 (List.mem_of_getElem? (i := 237) rfl)) rfl
theorem jw_238 : (Jvm.Cond.laysFinal "CashMachine" "CashMachine" "host" "LCashMachine$Host;") ∈ ja_T := ja_g (ja_i1 (List.mem_of_getElem? (i := 238) rfl)) rfl
theorem jw_239 : (Jvm.Cond.soleField "CashMachine" "host") ∈ ja_T := ja_g (ja_i1 (List.mem_of_getElem? (i := 239) rfl)) rfl
theorem jw_240 : (Jvm.Cond.laysFinal "CashMachine" "CashMachine" "line" "LCashMachine$Line;") ∈ ja_T := ja_g (ja_i2 (List.mem_of_getElem? (i := 0) rfl)) rfl
theorem jw_241 : (Jvm.Cond.soleField "CashMachine" "line") ∈ ja_T := ja_g (ja_i2 (List.mem_of_getElem? (i := 1) rfl)) rfl
theorem jw_242 : (Jvm.Cond.laysFinal "CashMachine" "CashMachine" "dispenser" "LCashMachine$Dispenser;") ∈ ja_T := ja_g (ja_i2 (List.mem_of_getElem? (i := 2) rfl)) rfl
theorem jw_243 : (Jvm.Cond.soleField "CashMachine" "dispenser") ∈ ja_T := ja_g (ja_i2 (List.mem_of_getElem? (i := 3) rfl)) rfl
theorem jw_244 : (Jvm.Cond.laysFinal "CashMachine" "CashMachine" "journal" "LCashMachine$Journal;") ∈ ja_T := ja_g (ja_i2 (List.mem_of_getElem? (i := 4) rfl)) rfl
theorem jw_245 : (Jvm.Cond.soleField "CashMachine" "journal") ∈ ja_T := ja_g (ja_i2 (List.mem_of_getElem? (i := 5) rfl)) rfl
theorem jw_246 : (Jvm.Cond.laysFinal "CashMachine" "CashMachine" "pending" "LCashMachine$Reversals;") ∈ ja_T := ja_g (ja_i2 (List.mem_of_getElem? (i := 6) rfl)) rfl
theorem jw_247 : (Jvm.Cond.soleField "CashMachine" "pending") ∈ ja_T := ja_g (ja_i2 (List.mem_of_getElem? (i := 7) rfl)) rfl
theorem jw_248 : (Jvm.Cond.lays "CashMachine" "CashMachine" "on" "Z") ∈ ja_T := ja_g (ja_i2 (List.mem_of_getElem? (i := 8) rfl)) rfl
theorem jw_249 : (Jvm.Cond.soleField "CashMachine" "on") ∈ ja_T := ja_g (ja_i2 (List.mem_of_getElem? (i := 9) rfl)) rfl
theorem jw_250 : (Jvm.Cond.lays "CashMachine" "CashMachine" "session" "I") ∈ ja_T := ja_g (ja_i2 (List.mem_of_getElem? (i := 10) rfl)) rfl
theorem jw_251 : (Jvm.Cond.soleField "CashMachine" "session") ∈ ja_T := ja_g (ja_i2 (List.mem_of_getElem? (i := 11) rfl)) rfl
theorem jw_252 : (Jvm.Cond.lays "CashMachine" "CashMachine" "verified" "Z") ∈ ja_T := ja_g (ja_i2 (List.mem_of_getElem? (i := 12) rfl)) rfl
theorem jw_253 : (Jvm.Cond.soleField "CashMachine" "verified") ∈ ja_T := ja_g (ja_i2 (List.mem_of_getElem? (i := 13) rfl)) rfl
theorem jw_254 : (Jvm.Cond.lays "CashMachine" "CashMachine" "failurePlace" "I") ∈ ja_T := ja_g (ja_i2 (List.mem_of_getElem? (i := 14) rfl)) rfl
theorem jw_255 : (Jvm.Cond.soleField "CashMachine" "failurePlace") ∈ ja_T := ja_g (ja_i2 (List.mem_of_getElem? (i := 15) rfl)) rfl
theorem jw_256 : (Jvm.Cond.superclass "CashMachine" "java/lang/Object") ∈ ja_T := ja_g (ja_i2 (List.mem_of_getElem? (i := 16) rfl)) rfl
theorem jw_257 : (Jvm.Cond.methodLink "CashMachineLaw" (135 : Nat) ({ cls := "CashMachine", name := "difference", desc := "()I" } : Jvm.MethodName)) ∈ ja_T := ja_g (ja_i2 (List.mem_of_getElem? (i := 17) rfl)) rfl
theorem jw_258 : (Jvm.Cond.instanceMethod ({ cls := "CashMachine", name := "difference", desc := "()I" } : Jvm.MethodName)) ∈ ja_T := ja_g (ja_i2 (List.mem_of_getElem? (i := 18) rfl)) rfl
theorem jw_259 : (Jvm.Cond.selects "CashMachine" ({ cls := "CashMachine", name := "difference", desc := "()I" } : Jvm.MethodName) ({ cls := "CashMachine", name := "difference", desc := "()I" } : Jvm.MethodName)) ∈ ja_T := ja_g (ja_i2 (List.mem_of_getElem? (i := 19) rfl)) rfl
theorem jw_260 : (Jvm.Cond.code ({ cls := "CashMachine", name := "difference", desc := "()I" } : Jvm.MethodName) prog_1_method_18_code (1 : Nat) (Option.some Jvm.ClassFile.FieldType.int)) ∈ ja_T := ja_g (ja_i2 (List.mem_of_getElem? (i := 20) rfl)) rfl
theorem jw_261 : (Jvm.Cond.methodLink "CashMachine" (192 : Nat) ({ cls := "CashMachine$Host", name := "takenFromBalances", desc := "()I" } : Jvm.MethodName)) ∈ ja_T := ja_g (ja_i2 (List.mem_of_getElem? (i := 21) rfl)) rfl
theorem jw_262 : (Jvm.Cond.instanceMethod ({ cls := "CashMachine$Host", name := "takenFromBalances", desc := "()I" } : Jvm.MethodName)) ∈ ja_T := ja_g (ja_i2 (List.mem_of_getElem? (i := 22) rfl)) rfl
theorem jw_263 : (Jvm.Cond.selects "CashMachine$Host" ({ cls := "CashMachine$Host", name := "takenFromBalances", desc := "()I" } : Jvm.MethodName) ({ cls := "CashMachine$Host", name := "takenFromBalances", desc := "()I" } : Jvm.MethodName)) ∈ ja_T := ja_g (ja_i2 (List.mem_of_getElem? (i := 23) rfl)) rfl
theorem jw_264 : (Jvm.Cond.code ({ cls := "CashMachine$Host", name := "takenFromBalances", desc := "()I" } : Jvm.MethodName) prog_6_method_9_code (6 : Nat) (Option.some Jvm.ClassFile.FieldType.int)) ∈ ja_T := ja_g (ja_i2 (List.mem_of_getElem? (i := 24) rfl)) rfl
theorem jw_265 : (Jvm.Cond.methodLink "CashMachineLaw" (78 : Nat) ({ cls := "CashMachineLaw", name := "open", desc := "(LCashMachine;III[J)I" } : Jvm.MethodName)) ∈ ja_T := ja_g (ja_i2 (List.mem_of_getElem? (i := 25) rfl)) rfl
theorem jw_266 : (Jvm.Cond.static ({ cls := "CashMachineLaw", name := "open", desc := "(LCashMachine;III[J)I" } : Jvm.MethodName)) ∈ ja_T := ja_g (ja_i2 (List.mem_of_getElem? (i := 26) rfl)) rfl
theorem jw_267 : (Jvm.Cond.codeWith ({ cls := "CashMachineLaw", name := "open", desc := "(LCashMachine;III[J)I" } : Jvm.MethodName) method_3_code (6 : Nat) (Option.some Jvm.ClassFile.FieldType.int) [((0 : Nat), (12 : Nat), (15 : Nat), (13 : Nat)), ((0 : Nat), (12 : Nat), (19 : Nat), (15 : Nat))]) ∈ ja_T := ja_g (ja_i2 (List.mem_of_getElem? (i := 27) rfl)) rfl
theorem jw_268 : (Jvm.Cond.classLink "CashMachineLaw" (13 : Nat) "java/lang/IllegalArgumentException") ∈ ja_T := ja_g (ja_i2 (List.mem_of_getElem? (i := 28) rfl)) rfl
theorem jw_269 : (Jvm.Cond.classLink "CashMachineLaw" (15 : Nat) "java/lang/IllegalStateException") ∈ ja_T := ja_g (ja_i2 (List.mem_of_getElem? (i := 29) rfl)) rfl
theorem jw_270 : (Jvm.Cond.methodLink "CashMachineLaw" (7 : Nat) ({ cls := "CashMachine", name := "open", desc := "(III)I" } : Jvm.MethodName)) ∈ ja_T := ja_g (ja_i2 (List.mem_of_getElem? (i := 30) rfl)) rfl
theorem jw_271 : (Jvm.Cond.instanceMethod ({ cls := "CashMachine", name := "open", desc := "(III)I" } : Jvm.MethodName)) ∈ ja_T := ja_g (ja_i2 (List.mem_of_getElem? (i := 31) rfl)) rfl
theorem jw_272 : (Jvm.Cond.selects "CashMachine" ({ cls := "CashMachine", name := "open", desc := "(III)I" } : Jvm.MethodName) ({ cls := "CashMachine", name := "open", desc := "(III)I" } : Jvm.MethodName)) ∈ ja_T := ja_g (ja_i2 (List.mem_of_getElem? (i := 32) rfl)) rfl
theorem jw_273 : (Jvm.Cond.code ({ cls := "CashMachine", name := "open", desc := "(III)I" } : Jvm.MethodName) prog_1_method_2_code (4 : Nat) (Option.some Jvm.ClassFile.FieldType.int)) ∈ ja_T := ja_g (ja_i2 (List.mem_of_getElem? (i := 33) rfl)) rfl
theorem jw_274 : (Jvm.Cond.methodLink "CashMachine" (58 : Nat) ({ cls := "CashMachine", name := "isWithin", desc := "(III)Z" } : Jvm.MethodName)) ∈ ja_T := ja_g (ja_i2 (List.mem_of_getElem? (i := 34) rfl)) rfl
theorem jw_275 : (Jvm.Cond.static ({ cls := "CashMachine", name := "isWithin", desc := "(III)Z" } : Jvm.MethodName)) ∈ ja_T := ja_g (ja_i2 (List.mem_of_getElem? (i := 35) rfl)) rfl
theorem jw_276 : (Jvm.Cond.code ({ cls := "CashMachine", name := "isWithin", desc := "(III)Z" } : Jvm.MethodName) prog_1_method_20_code (3 : Nat) (Option.some Jvm.ClassFile.FieldType.boolean)) ∈ ja_T := ja_g (ja_i2 (List.mem_of_getElem? (i := 36) rfl)) rfl
theorem jw_277 : (Jvm.Cond.constant "CashMachine" (62 : Nat) (1000000 : Int32)) ∈ ja_T := ja_g (ja_i2 (List.mem_of_getElem? (i := 37) rfl)) rfl
theorem jw_278 : (Jvm.Cond.classLink "CashMachine" (63 : Nat) "java/lang/IllegalArgumentException") ∈ ja_T := ja_g (ja_i2 (List.mem_of_getElem? (i := 38) rfl)) rfl
theorem jw_279 : (Jvm.Cond.instantiable "java/lang/IllegalArgumentException" (6 : Nat)) ∈ ja_T := ja_g (ja_i2 (List.mem_of_getElem? (i := 39) rfl)) rfl
theorem jv_280 : (Jvm.Cond.castable "java/lang/IllegalArgumentException" "java/lang/IllegalArgumentException") ∈ lw_tbl := ja_i2 (List.mem_of_getElem? (i := 40) rfl)
theorem jv_281 : (Jvm.Cond.declares ({ cls := "java/lang/RuntimeException", name := "<init>", desc := "()V" } : Jvm.MethodName)) ∈ lw_tbl := ja_i2 (List.mem_of_getElem? (i := 41) rfl)
theorem jv_282 : (Jvm.Cond.declares ({ cls := "java/lang/RuntimeException", name := "<init>", desc := "(Ljava/lang/String;)V" } : Jvm.MethodName)) ∈ lw_tbl := ja_i2 (List.mem_of_getElem? (i := 42) rfl)
theorem jv_283 : (Jvm.Cond.declares ({ cls := "java/lang/Exception", name := "<init>", desc := "()V" } : Jvm.MethodName)) ∈ lw_tbl := ja_i2 (List.mem_of_getElem? (i := 43) rfl)
theorem jv_284 : (Jvm.Cond.declares ({ cls := "java/lang/Exception", name := "<init>", desc := "(Ljava/lang/String;)V" } : Jvm.MethodName)) ∈ lw_tbl := ja_i2 (List.mem_of_getElem? (i := 44) rfl)
theorem jv_285 : (Jvm.Cond.declares ({ cls := "java/lang/Throwable", name := "<init>", desc := "()V" } : Jvm.MethodName)) ∈ lw_tbl := ja_i2 (List.mem_of_getElem? (i := 45) rfl)
theorem jv_286 : (Jvm.Cond.declares ({ cls := "java/lang/Throwable", name := "<init>", desc := "(Ljava/lang/String;)V" } : Jvm.MethodName)) ∈ lw_tbl := ja_i2 (List.mem_of_getElem? (i := 46) rfl)
theorem jw_287 : (Jvm.Cond.selects "java/lang/IllegalArgumentException" ({ cls := "java/lang/Throwable", name := "fillInStackTrace", desc := "(I)Ljava/lang/Throwable;" } : Jvm.MethodName) ({ cls := "java/lang/Throwable", name := "fillInStackTrace", desc := "(I)Ljava/lang/Throwable;" } : Jvm.MethodName)) ∈ ja_T := ja_g (ja_i2 (List.mem_of_getElem? (i := 47) rfl)) rfl
theorem jw_288 : (Jvm.Cond.selects "java/lang/IllegalArgumentException" ({ cls := "java/lang/Throwable", name := "fillInStackTrace", desc := "()Ljava/lang/Throwable;" } : Jvm.MethodName) ({ cls := "java/lang/Throwable", name := "fillInStackTrace", desc := "()Ljava/lang/Throwable;" } : Jvm.MethodName)) ∈ ja_T := ja_g (ja_i2 (List.mem_of_getElem? (i := 48) rfl)) rfl
theorem jw_289 : (Jvm.Cond.lays "java/lang/IllegalArgumentException" "java/lang/Throwable" "cause" "Ljava/lang/Throwable;") ∈ ja_T := ja_g (ja_i2 (List.mem_of_getElem? (i := 49) rfl)) rfl
theorem jw_290 : (Jvm.Cond.lays "java/lang/Throwable" "java/lang/Throwable" "cause" "Ljava/lang/Throwable;") ∈ ja_T := ja_g (ja_i2 (List.mem_of_getElem? (i := 50) rfl)) rfl
theorem jw_291 : (Jvm.Cond.lays "java/lang/IllegalArgumentException" "java/lang/Throwable" "stackTrace" "[Ljava/lang/StackTraceElement;") ∈ ja_T := ja_g (ja_i2 (List.mem_of_getElem? (i := 51) rfl)) rfl
theorem jw_292 : (Jvm.Cond.lays "java/lang/Throwable" "java/lang/Throwable" "stackTrace" "[Ljava/lang/StackTraceElement;") ∈ ja_T := ja_g (ja_i2 (List.mem_of_getElem? (i := 52) rfl)) rfl
theorem jw_293 : (Jvm.Cond.lays "java/lang/IllegalArgumentException" "java/lang/Throwable" "suppressedExceptions" "Ljava/util/List;") ∈ ja_T := ja_g (ja_i2 (List.mem_of_getElem? (i := 53) rfl)) rfl
theorem jw_294 : (Jvm.Cond.lays "java/lang/Throwable" "java/lang/Throwable" "suppressedExceptions" "Ljava/util/List;") ∈ ja_T := ja_g (ja_i2 (List.mem_of_getElem? (i := 54) rfl)) rfl
theorem jw_295 : (Jvm.Cond.lays "java/lang/IllegalArgumentException" "java/lang/Throwable" "detailMessage" "Ljava/lang/String;") ∈ ja_T := ja_g (ja_i2 (List.mem_of_getElem? (i := 55) rfl)) rfl
theorem jw_296 : (Jvm.Cond.lays "java/lang/Throwable" "java/lang/Throwable" "detailMessage" "Ljava/lang/String;") ∈ ja_T := ja_g (ja_i2 (List.mem_of_getElem? (i := 56) rfl)) rfl
theorem jw_297 : (Jvm.Cond.lays "java/lang/IllegalArgumentException" "java/lang/Throwable" "backtrace" "Ljava/lang/Object;") ∈ ja_T := ja_g (ja_i2 (List.mem_of_getElem? (i := 57) rfl)) rfl
theorem jw_298 : (Jvm.Cond.lays "java/lang/Throwable" "java/lang/Throwable" "backtrace" "Ljava/lang/Object;") ∈ ja_T := ja_g (ja_i2 (List.mem_of_getElem? (i := 58) rfl)) rfl
theorem jw_299 : (Jvm.Cond.fieldLink "java/lang/Throwable" (198 : Nat) "java/lang/Throwable" "backtrace" "Ljava/lang/Object;") ∈ ja_T := ja_g (ja_i2 (List.mem_of_getElem? (i := 59) rfl)) rfl
theorem jw_300 : (Jvm.Cond.superclass "java/lang/Throwable" "java/lang/Object") ∈ ja_T := ja_g (ja_i2 (List.mem_of_getElem? (i := 60) rfl)) rfl
theorem jw_301 : (Jvm.Cond.instanceMethod ({ cls := "java/lang/Throwable", name := "<init>", desc := "()V" } : Jvm.MethodName)) ∈ ja_T := ja_g (ja_i2 (List.mem_of_getElem? (i := 61) rfl)) rfl
theorem jw_302 : (Jvm.Cond.code ({ cls := "java/lang/Throwable", name := "<init>", desc := "()V" } : Jvm.MethodName) prog_20_method_1_code (1 : Nat) (Option.none : Option Jvm.ClassFile.FieldType)) ∈ ja_T := ja_g (ja_i2 (List.mem_of_getElem? (i := 62) rfl)) rfl
theorem jw_303 : (Jvm.Cond.methodLink "java/lang/Throwable" (1 : Nat) ({ cls := "java/lang/Object", name := "<init>", desc := "()V" } : Jvm.MethodName)) ∈ ja_T := ja_g (ja_i2 (List.mem_of_getElem? (i := 63) rfl)) rfl
theorem jw_304 : (Jvm.Cond.fieldLink "java/lang/Throwable" (13 : Nat) "java/lang/Throwable" "UNASSIGNED_STACK" "[Ljava/lang/StackTraceElement;") ∈ ja_T := ja_g (ja_i2 (List.mem_of_getElem? (i := 64) rfl)) rfl
theorem jv_305 : (Jvm.Cond.laysStatic "java/lang/Throwable" "UNASSIGNED_STACK" "[Ljava/lang/StackTraceElement;") ∈ lw_tbl := ja_i2 (List.mem_of_getElem? (i := 65) rfl)
theorem jw_306 : (Jvm.Cond.fieldLink "java/lang/Throwable" (20 : Nat) "java/lang/Throwable" "SUPPRESSED_SENTINEL" "Ljava/util/List;") ∈ ja_T := ja_g (ja_i2 (List.mem_of_getElem? (i := 66) rfl)) rfl
theorem jv_307 : (Jvm.Cond.laysStatic "java/lang/Throwable" "SUPPRESSED_SENTINEL" "Ljava/util/List;") ∈ lw_tbl := ja_i2 (List.mem_of_getElem? (i := 67) rfl)
theorem jw_308 : (Jvm.Cond.methodLink "java/lang/Throwable" (27 : Nat) ({ cls := "java/lang/Throwable", name := "fillInStackTrace", desc := "()Ljava/lang/Throwable;" } : Jvm.MethodName)) ∈ ja_T := ja_g (ja_i2 (List.mem_of_getElem? (i := 68) rfl)) rfl
theorem jw_309 : (Jvm.Cond.instanceMethod ({ cls := "java/lang/Throwable", name := "fillInStackTrace", desc := "()Ljava/lang/Throwable;" } : Jvm.MethodName)) ∈ ja_T := ja_g (ja_i2 (List.mem_of_getElem? (i := 69) rfl)) rfl
theorem jw_310 : (Jvm.Cond.sameMethod "java/lang/Throwable" "java/lang/Throwable" "fillInStackTrace" "()Ljava/lang/Throwable;") ∈ ja_T := ja_g (ja_i2 (List.mem_of_getElem? (i := 70) rfl)) rfl
theorem jw_311 : (Jvm.Cond.selects "java/lang/IllegalStateException" ({ cls := "java/lang/Throwable", name := "fillInStackTrace", desc := "()Ljava/lang/Throwable;" } : Jvm.MethodName) ({ cls := "java/lang/Throwable", name := "fillInStackTrace", desc := "()Ljava/lang/Throwable;" } : Jvm.MethodName)) ∈ ja_T := ja_g (ja_i2 (List.mem_of_getElem? (i := 71) rfl)) rfl
theorem jw_312 : (Jvm.Cond.selects "java/lang/IndexOutOfBoundsException" ({ cls := "java/lang/Throwable", name := "fillInStackTrace", desc := "()Ljava/lang/Throwable;" } : Jvm.MethodName) ({ cls := "java/lang/Throwable", name := "fillInStackTrace", desc := "()Ljava/lang/Throwable;" } : Jvm.MethodName)) ∈ ja_T := ja_g (ja_i2 (List.mem_of_getElem? (i := 72) rfl)) rfl
theorem jw_313 : (Jvm.Cond.selects "java/lang/UnsupportedOperationException" ({ cls := "java/lang/Throwable", name := "fillInStackTrace", desc := "()Ljava/lang/Throwable;" } : Jvm.MethodName) ({ cls := "java/lang/Throwable", name := "fillInStackTrace", desc := "()Ljava/lang/Throwable;" } : Jvm.MethodName)) ∈ ja_T := ja_g (ja_i2 (List.mem_of_getElem? (i := 73) rfl)) rfl
theorem jw_314 : (Jvm.Cond.selects "java/util/NoSuchElementException" ({ cls := "java/lang/Throwable", name := "fillInStackTrace", desc := "()Ljava/lang/Throwable;" } : Jvm.MethodName) ({ cls := "java/lang/Throwable", name := "fillInStackTrace", desc := "()Ljava/lang/Throwable;" } : Jvm.MethodName)) ∈ ja_T := ja_g (ja_i2 (List.mem_of_getElem? (i := 74) rfl)) rfl
theorem jw_315 : (Jvm.Cond.codeSync ({ cls := "java/lang/Throwable", name := "fillInStackTrace", desc := "()Ljava/lang/Throwable;" } : Jvm.MethodName) prog_20_method_18_code (1 : Nat) (Option.some (Jvm.ClassFile.FieldType.object "java/lang/Throwable"))) ∈ ja_T := ja_g (ja_i2 (List.mem_of_getElem? (i := 75) rfl)) rfl
theorem jw_316 : (Jvm.Cond.methodLink "java/lang/Throwable" (202 : Nat) ({ cls := "java/lang/Throwable", name := "fillInStackTrace", desc := "(I)Ljava/lang/Throwable;" } : Jvm.MethodName)) ∈ ja_T := ja_g (ja_i2 (List.mem_of_getElem? (i := 76) rfl)) rfl
theorem jv_317 : (Jvm.Cond.privateMethod ({ cls := "java/lang/Throwable", name := "fillInStackTrace", desc := "(I)Ljava/lang/Throwable;" } : Jvm.MethodName)) ∈ lw_tbl := ja_i2 (List.mem_of_getElem? (i := 77) rfl)
theorem jw_318 : (Jvm.Cond.instanceMethod ({ cls := "java/lang/Throwable", name := "fillInStackTrace", desc := "(I)Ljava/lang/Throwable;" } : Jvm.MethodName)) ∈ ja_T := ja_g (ja_i2 (List.mem_of_getElem? (i := 78) rfl)) rfl
theorem jw_319 : (Jvm.Cond.instantiable "java/lang/Throwable" (6 : Nat)) ∈ ja_T := ja_g (ja_i2 (List.mem_of_getElem? (i := 79) rfl)) rfl
theorem jw_320 : (Jvm.Cond.native ({ cls := "java/lang/Throwable", name := "fillInStackTrace", desc := "(I)Ljava/lang/Throwable;" } : Jvm.MethodName)) ∈ ja_T := ja_g (ja_i2 (List.mem_of_getElem? (i := 80) rfl)) rfl
theorem jw_321 : (Jvm.Cond.methodLink "CashMachine" (65 : Nat) ({ cls := "java/lang/IllegalArgumentException", name := "<init>", desc := "()V" } : Jvm.MethodName)) ∈ ja_T := ja_g (ja_i2 (List.mem_of_getElem? (i := 81) rfl)) rfl
theorem jw_322 : (Jvm.Cond.instanceMethod ({ cls := "java/lang/IllegalArgumentException", name := "<init>", desc := "()V" } : Jvm.MethodName)) ∈ ja_T := ja_g (ja_i2 (List.mem_of_getElem? (i := 82) rfl)) rfl
theorem jw_323 : (Jvm.Cond.code ({ cls := "java/lang/IllegalArgumentException", name := "<init>", desc := "()V" } : Jvm.MethodName) prog_14_method_1_code (1 : Nat) (Option.none : Option Jvm.ClassFile.FieldType)) ∈ ja_T := ja_g (ja_i2 (List.mem_of_getElem? (i := 83) rfl)) rfl
theorem jw_324 : (Jvm.Cond.methodLink "java/lang/IllegalArgumentException" (1 : Nat) ({ cls := "java/lang/RuntimeException", name := "<init>", desc := "()V" } : Jvm.MethodName)) ∈ ja_T := ja_g (ja_i2 (List.mem_of_getElem? (i := 84) rfl)) rfl
theorem jw_325 : (Jvm.Cond.instanceMethod ({ cls := "java/lang/RuntimeException", name := "<init>", desc := "()V" } : Jvm.MethodName)) ∈ ja_T := ja_g (ja_i2 (List.mem_of_getElem? (i := 85) rfl)) rfl
theorem jw_326 : (Jvm.Cond.code ({ cls := "java/lang/RuntimeException", name := "<init>", desc := "()V" } : Jvm.MethodName) prog_18_method_1_code (1 : Nat) (Option.none : Option Jvm.ClassFile.FieldType)) ∈ ja_T := ja_g (ja_i2 (List.mem_of_getElem? (i := 86) rfl)) rfl
theorem jw_327 : (Jvm.Cond.methodLink "java/lang/RuntimeException" (1 : Nat) ({ cls := "java/lang/Exception", name := "<init>", desc := "()V" } : Jvm.MethodName)) ∈ ja_T := ja_g (ja_i2 (List.mem_of_getElem? (i := 87) rfl)) rfl
theorem jw_328 : (Jvm.Cond.instanceMethod ({ cls := "java/lang/Exception", name := "<init>", desc := "()V" } : Jvm.MethodName)) ∈ ja_T := ja_g (ja_i2 (List.mem_of_getElem? (i := 88) rfl)) rfl
theorem jw_329 : (Jvm.Cond.code ({ cls := "java/lang/Exception", name := "<init>", desc := "()V" } : Jvm.MethodName) prog_13_method_1_code (1 : Nat) (Option.none : Option Jvm.ClassFile.FieldType)) ∈ ja_T := ja_g (ja_i2 (List.mem_of_getElem? (i := 89) rfl)) rfl
theorem jw_330 : (Jvm.Cond.methodLink "java/lang/Exception" (1 : Nat) ({ cls := "java/lang/Throwable", name := "<init>", desc := "()V" } : Jvm.MethodName)) ∈ ja_T := ja_g (ja_i2 (List.mem_of_getElem? (i := 90) rfl)) rfl
theorem jw_331 : (Jvm.Cond.fieldLink "java/lang/Throwable" (198 : Nat) "java/lang/Throwable" "backtrace" "Ljava/lang/Object;") ∈ ja_T := ja_g (ja_i2 (List.mem_of_getElem? (i := 91) rfl)) rfl
theorem jw_332 : (Jvm.Cond.fieldLink "java/lang/Throwable" (7 : Nat) "java/lang/Throwable" "cause" "Ljava/lang/Throwable;") ∈ ja_T := ja_g (ja_i2 (List.mem_of_getElem? (i := 92) rfl)) rfl
theorem jw_333 : (Jvm.Cond.fieldLink "java/lang/Throwable" (17 : Nat) "java/lang/Throwable" "stackTrace" "[Ljava/lang/StackTraceElement;") ∈ ja_T := ja_g (ja_i2 (List.mem_of_getElem? (i := 93) rfl)) rfl
theorem jw_334 : (Jvm.Cond.fieldLink "java/lang/Throwable" (24 : Nat) "java/lang/Throwable" "suppressedExceptions" "Ljava/util/List;") ∈ ja_T := ja_g (ja_i2 (List.mem_of_getElem? (i := 94) rfl)) rfl
theorem jw_335 : (Jvm.Cond.soleField "java/lang/Throwable" "backtrace") ∈ ja_T := ja_g (ja_i2 (List.mem_of_getElem? (i := 95) rfl)) rfl
theorem jw_336 : (Jvm.Cond.soleField "java/lang/Throwable" "detailMessage") ∈ ja_T := ja_g (ja_i2 (List.mem_of_getElem? (i := 96) rfl)) rfl
theorem jw_337 : (Jvm.Cond.soleField "java/lang/Throwable" "cause") ∈ ja_T := ja_g (ja_i2 (List.mem_of_getElem? (i := 97) rfl)) rfl
theorem jw_338 : (Jvm.Cond.soleField "java/lang/Throwable" "stackTrace") ∈ ja_T := ja_g (ja_i2 (List.mem_of_getElem? (i := 98) rfl)) rfl
theorem jw_339 : (Jvm.Cond.lays "java/lang/IllegalArgumentException" "java/lang/Throwable" "depth" "I") ∈ ja_T := ja_g (ja_i2 (List.mem_of_getElem? (i := 99) rfl)) rfl
theorem jw_340 : (Jvm.Cond.soleField "java/lang/Throwable" "depth") ∈ ja_T := ja_g (ja_i2 (List.mem_of_getElem? (i := 100) rfl)) rfl
theorem jw_341 : (Jvm.Cond.soleField "java/lang/Throwable" "suppressedExceptions") ∈ ja_T := ja_g (ja_i2 (List.mem_of_getElem? (i := 101) rfl)) rfl
theorem jw_342 : (Jvm.Cond.superclass "java/lang/IllegalArgumentException" "java/lang/RuntimeException") ∈ ja_T := ja_g (ja_i2 (List.mem_of_getElem? (i := 102) rfl)) rfl
theorem jw_343 : (Jvm.Cond.methodLink "CashMachine" (66 : Nat) ({ cls := "CashMachine$Host", name := "isOpen", desc := "(I)Z" } : Jvm.MethodName)) ∈ ja_T := ja_g (ja_i2 (List.mem_of_getElem? (i := 103) rfl)) rfl
theorem jw_344 : (Jvm.Cond.instanceMethod ({ cls := "CashMachine$Host", name := "isOpen", desc := "(I)Z" } : Jvm.MethodName)) ∈ ja_T := ja_g (ja_i2 (List.mem_of_getElem? (i := 104) rfl)) rfl
theorem jw_345 : (Jvm.Cond.selects "CashMachine$Host" ({ cls := "CashMachine$Host", name := "isOpen", desc := "(I)Z" } : Jvm.MethodName) ({ cls := "CashMachine$Host", name := "isOpen", desc := "(I)Z" } : Jvm.MethodName)) ∈ ja_T := ja_g (ja_i2 (List.mem_of_getElem? (i := 105) rfl)) rfl
theorem jw_346 : (Jvm.Cond.code ({ cls := "CashMachine$Host", name := "isOpen", desc := "(I)Z" } : Jvm.MethodName) prog_6_method_2_code (2 : Nat) (Option.some Jvm.ClassFile.FieldType.boolean)) ∈ ja_T := ja_g (ja_i2 (List.mem_of_getElem? (i := 106) rfl)) rfl
theorem jv_347 : (Jvm.Cond.methodLinkNest "CashMachine$Host" (29 : Nat) ({ cls := "CashMachine", name := "isWithin", desc := "(III)Z" } : Jvm.MethodName) "CashMachine") ∈ lw_tbl := ja_i2 (List.mem_of_getElem? (i := 107) rfl)
theorem jw_348 : (Jvm.Cond.classLink "CashMachine" (70 : Nat) "java/lang/IllegalStateException") ∈ ja_T := ja_g (ja_i2 (List.mem_of_getElem? (i := 108) rfl)) rfl
theorem jw_349 : (Jvm.Cond.instantiable "java/lang/IllegalStateException" (6 : Nat)) ∈ ja_T := ja_g (ja_i2 (List.mem_of_getElem? (i := 109) rfl)) rfl
theorem jv_350 : (Jvm.Cond.castable "java/lang/IllegalStateException" "java/lang/IllegalStateException") ∈ lw_tbl := ja_i2 (List.mem_of_getElem? (i := 110) rfl)
theorem jw_351 : (Jvm.Cond.selects "java/lang/IllegalStateException" ({ cls := "java/lang/Throwable", name := "fillInStackTrace", desc := "(I)Ljava/lang/Throwable;" } : Jvm.MethodName) ({ cls := "java/lang/Throwable", name := "fillInStackTrace", desc := "(I)Ljava/lang/Throwable;" } : Jvm.MethodName)) ∈ ja_T := ja_g (ja_i2 (List.mem_of_getElem? (i := 111) rfl)) rfl
theorem jw_352 : (Jvm.Cond.lays "java/lang/IllegalStateException" "java/lang/Throwable" "cause" "Ljava/lang/Throwable;") ∈ ja_T := ja_g (ja_i2 (List.mem_of_getElem? (i := 112) rfl)) rfl
theorem jw_353 : (Jvm.Cond.lays "java/lang/IllegalStateException" "java/lang/Throwable" "stackTrace" "[Ljava/lang/StackTraceElement;") ∈ ja_T := ja_g (ja_i2 (List.mem_of_getElem? (i := 113) rfl)) rfl
theorem jw_354 : (Jvm.Cond.lays "java/lang/IllegalStateException" "java/lang/Throwable" "suppressedExceptions" "Ljava/util/List;") ∈ ja_T := ja_g (ja_i2 (List.mem_of_getElem? (i := 114) rfl)) rfl
theorem jw_355 : (Jvm.Cond.lays "java/lang/IllegalStateException" "java/lang/Throwable" "detailMessage" "Ljava/lang/String;") ∈ ja_T := ja_g (ja_i2 (List.mem_of_getElem? (i := 115) rfl)) rfl
theorem jw_356 : (Jvm.Cond.lays "java/lang/IllegalStateException" "java/lang/Throwable" "backtrace" "Ljava/lang/Object;") ∈ ja_T := ja_g (ja_i2 (List.mem_of_getElem? (i := 116) rfl)) rfl
theorem jw_357 : (Jvm.Cond.methodLink "CashMachine" (72 : Nat) ({ cls := "java/lang/IllegalStateException", name := "<init>", desc := "()V" } : Jvm.MethodName)) ∈ ja_T := ja_g (ja_i2 (List.mem_of_getElem? (i := 117) rfl)) rfl
theorem jw_358 : (Jvm.Cond.instanceMethod ({ cls := "java/lang/IllegalStateException", name := "<init>", desc := "()V" } : Jvm.MethodName)) ∈ ja_T := ja_g (ja_i2 (List.mem_of_getElem? (i := 118) rfl)) rfl
theorem jw_359 : (Jvm.Cond.code ({ cls := "java/lang/IllegalStateException", name := "<init>", desc := "()V" } : Jvm.MethodName) prog_15_method_1_code (1 : Nat) (Option.none : Option Jvm.ClassFile.FieldType)) ∈ ja_T := ja_g (ja_i2 (List.mem_of_getElem? (i := 119) rfl)) rfl
theorem jw_360 : (Jvm.Cond.methodLink "java/lang/IllegalStateException" (1 : Nat) ({ cls := "java/lang/RuntimeException", name := "<init>", desc := "()V" } : Jvm.MethodName)) ∈ ja_T := ja_g (ja_i2 (List.mem_of_getElem? (i := 120) rfl)) rfl
theorem jw_361 : (Jvm.Cond.lays "java/lang/IllegalStateException" "java/lang/Throwable" "depth" "I") ∈ ja_T := ja_g (ja_i2 (List.mem_of_getElem? (i := 121) rfl)) rfl
theorem jw_362 : (Jvm.Cond.superclass "java/lang/IllegalStateException" "java/lang/RuntimeException") ∈ ja_T := ja_g (ja_i2 (List.mem_of_getElem? (i := 122) rfl)) rfl
theorem jw_363 : (Jvm.Cond.methodLink "CashMachine" (73 : Nat) ({ cls := "CashMachine$Host", name := "openAccount", desc := "(III)V" } : Jvm.MethodName)) ∈ ja_T := ja_g (ja_i2 (List.mem_of_getElem? (i := 123) rfl)) rfl
theorem jw_364 : (Jvm.Cond.instanceMethod ({ cls := "CashMachine$Host", name := "openAccount", desc := "(III)V" } : Jvm.MethodName)) ∈ ja_T := ja_g (ja_i2 (List.mem_of_getElem? (i := 124) rfl)) rfl
theorem jw_365 : (Jvm.Cond.selects "CashMachine$Host" ({ cls := "CashMachine$Host", name := "openAccount", desc := "(III)V" } : Jvm.MethodName) ({ cls := "CashMachine$Host", name := "openAccount", desc := "(III)V" } : Jvm.MethodName)) ∈ ja_T := ja_g (ja_i2 (List.mem_of_getElem? (i := 125) rfl)) rfl
theorem jw_366 : (Jvm.Cond.code ({ cls := "CashMachine$Host", name := "openAccount", desc := "(III)V" } : Jvm.MethodName) prog_6_method_3_code (5 : Nat) (Option.none : Option Jvm.ClassFile.FieldType)) ∈ ja_T := ja_g (ja_i2 (List.mem_of_getElem? (i := 126) rfl)) rfl
theorem jw_367 : (Jvm.Cond.methodLink "CashMachine" (77 : Nat) ({ cls := "CashMachine$Host", name := "openAccounts", desc := "()I" } : Jvm.MethodName)) ∈ ja_T := ja_g (ja_i2 (List.mem_of_getElem? (i := 127) rfl)) rfl
theorem jw_368 : (Jvm.Cond.instanceMethod ({ cls := "CashMachine$Host", name := "openAccounts", desc := "()I" } : Jvm.MethodName)) ∈ ja_T := ja_g (ja_i2 (List.mem_of_getElem? (i := 128) rfl)) rfl
theorem jw_369 : (Jvm.Cond.selects "CashMachine$Host" ({ cls := "CashMachine$Host", name := "openAccounts", desc := "()I" } : Jvm.MethodName) ({ cls := "CashMachine$Host", name := "openAccounts", desc := "()I" } : Jvm.MethodName)) ∈ ja_T := ja_g (ja_i2 (List.mem_of_getElem? (i := 129) rfl)) rfl
theorem jw_370 : (Jvm.Cond.code ({ cls := "CashMachine$Host", name := "openAccounts", desc := "()I" } : Jvm.MethodName) prog_6_method_7_code (6 : Nat) (Option.some Jvm.ClassFile.FieldType.int)) ∈ ja_T := ja_g (ja_i2 (List.mem_of_getElem? (i := 130) rfl)) rfl
theorem jw_371 : (Jvm.Cond.methodLink "CashMachineLaw" (87 : Nat) ({ cls := "CashMachineLaw", name := "load", desc := "(LCashMachine;III[J)I" } : Jvm.MethodName)) ∈ ja_T := ja_g (ja_i2 (List.mem_of_getElem? (i := 131) rfl)) rfl
theorem jw_372 : (Jvm.Cond.static ({ cls := "CashMachineLaw", name := "load", desc := "(LCashMachine;III[J)I" } : Jvm.MethodName)) ∈ ja_T := ja_g (ja_i2 (List.mem_of_getElem? (i := 132) rfl)) rfl
theorem jw_373 : (Jvm.Cond.codeWith ({ cls := "CashMachineLaw", name := "load", desc := "(LCashMachine;III[J)I" } : Jvm.MethodName) method_4_code (6 : Nat) (Option.some Jvm.ClassFile.FieldType.int) [((0 : Nat), (12 : Nat), (15 : Nat), (13 : Nat)), ((0 : Nat), (12 : Nat), (19 : Nat), (15 : Nat))]) ∈ ja_T := ja_g (ja_i2 (List.mem_of_getElem? (i := 133) rfl)) rfl
theorem jw_374 : (Jvm.Cond.methodLink "CashMachineLaw" (17 : Nat) ({ cls := "CashMachine", name := "load", desc := "(III)I" } : Jvm.MethodName)) ∈ ja_T := ja_g (ja_i2 (List.mem_of_getElem? (i := 134) rfl)) rfl
theorem jw_375 : (Jvm.Cond.instanceMethod ({ cls := "CashMachine", name := "load", desc := "(III)I" } : Jvm.MethodName)) ∈ ja_T := ja_g (ja_i2 (List.mem_of_getElem? (i := 135) rfl)) rfl
theorem jw_376 : (Jvm.Cond.selects "CashMachine" ({ cls := "CashMachine", name := "load", desc := "(III)I" } : Jvm.MethodName) ({ cls := "CashMachine", name := "load", desc := "(III)I" } : Jvm.MethodName)) ∈ ja_T := ja_g (ja_i2 (List.mem_of_getElem? (i := 136) rfl)) rfl
theorem jw_377 : (Jvm.Cond.code ({ cls := "CashMachine", name := "load", desc := "(III)I" } : Jvm.MethodName) prog_1_method_3_code (4 : Nat) (Option.some Jvm.ClassFile.FieldType.int)) ∈ ja_T := ja_g (ja_i2 (List.mem_of_getElem? (i := 137) rfl)) rfl
theorem jw_378 : (Jvm.Cond.methodLink "CashMachine" (81 : Nat) ({ cls := "CashMachine$Dispenser", name := "exchangeNotes", desc := "(III)I" } : Jvm.MethodName)) ∈ ja_T := ja_g (ja_i2 (List.mem_of_getElem? (i := 138) rfl)) rfl
theorem jw_379 : (Jvm.Cond.instanceMethod ({ cls := "CashMachine$Dispenser", name := "exchangeNotes", desc := "(III)I" } : Jvm.MethodName)) ∈ ja_T := ja_g (ja_i2 (List.mem_of_getElem? (i := 139) rfl)) rfl
theorem jw_380 : (Jvm.Cond.selects "CashMachine$Dispenser" ({ cls := "CashMachine$Dispenser", name := "exchangeNotes", desc := "(III)I" } : Jvm.MethodName) ({ cls := "CashMachine$Dispenser", name := "exchangeNotes", desc := "(III)I" } : Jvm.MethodName)) ∈ ja_T := ja_g (ja_i2 (List.mem_of_getElem? (i := 140) rfl)) rfl
theorem jw_381 : (Jvm.Cond.code ({ cls := "CashMachine$Dispenser", name := "exchangeNotes", desc := "(III)I" } : Jvm.MethodName) prog_4_method_2_code (6 : Nat) (Option.some Jvm.ClassFile.FieldType.int)) ∈ ja_T := ja_g (ja_i2 (List.mem_of_getElem? (i := 141) rfl)) rfl
theorem jw_382 : (Jvm.Cond.methodLink "CashMachineLaw" (90 : Nat) ({ cls := "CashMachineLaw", name := "insert", desc := "(LCashMachine;I[J)I" } : Jvm.MethodName)) ∈ ja_T := ja_g (ja_i2 (List.mem_of_getElem? (i := 142) rfl)) rfl
theorem jw_383 : (Jvm.Cond.static ({ cls := "CashMachineLaw", name := "insert", desc := "(LCashMachine;I[J)I" } : Jvm.MethodName)) ∈ ja_T := ja_g (ja_i2 (List.mem_of_getElem? (i := 143) rfl)) rfl
theorem jw_384 : (Jvm.Cond.codeWith ({ cls := "CashMachineLaw", name := "insert", desc := "(LCashMachine;I[J)I" } : Jvm.MethodName) method_5_code (4 : Nat) (Option.some Jvm.ClassFile.FieldType.int) [((0 : Nat), (9 : Nat), (12 : Nat), (15 : Nat)), ((0 : Nat), (9 : Nat), (15 : Nat), (24 : Nat)), ((0 : Nat), (9 : Nat), (18 : Nat), (26 : Nat))]) ∈ ja_T := ja_g (ja_i2 (List.mem_of_getElem? (i := 144) rfl)) rfl
theorem jw_385 : (Jvm.Cond.classLink "CashMachineLaw" (24 : Nat) "java/util/NoSuchElementException") ∈ ja_T := ja_g (ja_i2 (List.mem_of_getElem? (i := 145) rfl)) rfl
theorem jw_386 : (Jvm.Cond.classLink "CashMachineLaw" (26 : Nat) "java/lang/UnsupportedOperationException") ∈ ja_T := ja_g (ja_i2 (List.mem_of_getElem? (i := 146) rfl)) rfl
theorem jw_387 : (Jvm.Cond.methodLink "CashMachineLaw" (20 : Nat) ({ cls := "CashMachine", name := "insert", desc := "(I)I" } : Jvm.MethodName)) ∈ ja_T := ja_g (ja_i2 (List.mem_of_getElem? (i := 147) rfl)) rfl
theorem jw_388 : (Jvm.Cond.instanceMethod ({ cls := "CashMachine", name := "insert", desc := "(I)I" } : Jvm.MethodName)) ∈ ja_T := ja_g (ja_i2 (List.mem_of_getElem? (i := 148) rfl)) rfl
theorem jw_389 : (Jvm.Cond.selects "CashMachine" ({ cls := "CashMachine", name := "insert", desc := "(I)I" } : Jvm.MethodName) ({ cls := "CashMachine", name := "insert", desc := "(I)I" } : Jvm.MethodName)) ∈ ja_T := ja_g (ja_i2 (List.mem_of_getElem? (i := 149) rfl)) rfl
theorem jw_390 : (Jvm.Cond.code ({ cls := "CashMachine", name := "insert", desc := "(I)I" } : Jvm.MethodName) prog_1_method_4_code (2 : Nat) (Option.some Jvm.ClassFile.FieldType.int)) ∈ ja_T := ja_g (ja_i2 (List.mem_of_getElem? (i := 150) rfl)) rfl
theorem jw_391 : (Jvm.Cond.classLink "CashMachine" (85 : Nat) "java/util/NoSuchElementException") ∈ ja_T := ja_g (ja_i2 (List.mem_of_getElem? (i := 151) rfl)) rfl
theorem jw_392 : (Jvm.Cond.instantiable "java/util/NoSuchElementException" (6 : Nat)) ∈ ja_T := ja_g (ja_i2 (List.mem_of_getElem? (i := 152) rfl)) rfl
theorem jv_393 : (Jvm.Cond.castable "java/util/NoSuchElementException" "java/util/NoSuchElementException") ∈ lw_tbl := ja_i2 (List.mem_of_getElem? (i := 153) rfl)
theorem jw_394 : (Jvm.Cond.selects "java/util/NoSuchElementException" ({ cls := "java/lang/Throwable", name := "fillInStackTrace", desc := "(I)Ljava/lang/Throwable;" } : Jvm.MethodName) ({ cls := "java/lang/Throwable", name := "fillInStackTrace", desc := "(I)Ljava/lang/Throwable;" } : Jvm.MethodName)) ∈ ja_T := ja_g (ja_i2 (List.mem_of_getElem? (i := 154) rfl)) rfl
theorem jw_395 : (Jvm.Cond.lays "java/util/NoSuchElementException" "java/lang/Throwable" "cause" "Ljava/lang/Throwable;") ∈ ja_T := ja_g (ja_i2 (List.mem_of_getElem? (i := 155) rfl)) rfl
theorem jw_396 : (Jvm.Cond.lays "java/util/NoSuchElementException" "java/lang/Throwable" "stackTrace" "[Ljava/lang/StackTraceElement;") ∈ ja_T := ja_g (ja_i2 (List.mem_of_getElem? (i := 156) rfl)) rfl
theorem jw_397 : (Jvm.Cond.lays "java/util/NoSuchElementException" "java/lang/Throwable" "suppressedExceptions" "Ljava/util/List;") ∈ ja_T := ja_g (ja_i2 (List.mem_of_getElem? (i := 157) rfl)) rfl
theorem jw_398 : (Jvm.Cond.lays "java/util/NoSuchElementException" "java/lang/Throwable" "detailMessage" "Ljava/lang/String;") ∈ ja_T := ja_g (ja_i2 (List.mem_of_getElem? (i := 158) rfl)) rfl
theorem jw_399 : (Jvm.Cond.lays "java/util/NoSuchElementException" "java/lang/Throwable" "backtrace" "Ljava/lang/Object;") ∈ ja_T := ja_g (ja_i2 (List.mem_of_getElem? (i := 159) rfl)) rfl
theorem jw_400 : (Jvm.Cond.methodLink "CashMachine" (87 : Nat) ({ cls := "java/util/NoSuchElementException", name := "<init>", desc := "()V" } : Jvm.MethodName)) ∈ ja_T := ja_g (ja_i2 (List.mem_of_getElem? (i := 160) rfl)) rfl
theorem jw_401 : (Jvm.Cond.instanceMethod ({ cls := "java/util/NoSuchElementException", name := "<init>", desc := "()V" } : Jvm.MethodName)) ∈ ja_T := ja_g (ja_i2 (List.mem_of_getElem? (i := 161) rfl)) rfl
theorem jw_402 : (Jvm.Cond.code ({ cls := "java/util/NoSuchElementException", name := "<init>", desc := "()V" } : Jvm.MethodName) prog_23_method_1_code (1 : Nat) (Option.none : Option Jvm.ClassFile.FieldType)) ∈ ja_T := ja_g (ja_i2 (List.mem_of_getElem? (i := 162) rfl)) rfl
theorem jw_403 : (Jvm.Cond.methodLink "java/util/NoSuchElementException" (1 : Nat) ({ cls := "java/lang/RuntimeException", name := "<init>", desc := "()V" } : Jvm.MethodName)) ∈ ja_T := ja_g (ja_i2 (List.mem_of_getElem? (i := 163) rfl)) rfl
theorem jw_404 : (Jvm.Cond.lays "java/util/NoSuchElementException" "java/lang/Throwable" "depth" "I") ∈ ja_T := ja_g (ja_i2 (List.mem_of_getElem? (i := 164) rfl)) rfl
theorem jw_405 : (Jvm.Cond.superclass "java/util/NoSuchElementException" "java/lang/RuntimeException") ∈ ja_T := ja_g (ja_i2 (List.mem_of_getElem? (i := 165) rfl)) rfl
theorem jw_406 : (Jvm.Cond.classLink "CashMachine" (97 : Nat) "java/lang/UnsupportedOperationException") ∈ ja_T := ja_g (ja_i2 (List.mem_of_getElem? (i := 166) rfl)) rfl
theorem jw_407 : (Jvm.Cond.instantiable "java/lang/UnsupportedOperationException" (6 : Nat)) ∈ ja_T := ja_g (ja_i2 (List.mem_of_getElem? (i := 167) rfl)) rfl
theorem jv_408 : (Jvm.Cond.castable "java/lang/UnsupportedOperationException" "java/lang/UnsupportedOperationException") ∈ lw_tbl := ja_i2 (List.mem_of_getElem? (i := 168) rfl)
theorem jw_409 : (Jvm.Cond.selects "java/lang/UnsupportedOperationException" ({ cls := "java/lang/Throwable", name := "fillInStackTrace", desc := "(I)Ljava/lang/Throwable;" } : Jvm.MethodName) ({ cls := "java/lang/Throwable", name := "fillInStackTrace", desc := "(I)Ljava/lang/Throwable;" } : Jvm.MethodName)) ∈ ja_T := ja_g (ja_i2 (List.mem_of_getElem? (i := 169) rfl)) rfl
theorem jw_410 : (Jvm.Cond.lays "java/lang/UnsupportedOperationException" "java/lang/Throwable" "cause" "Ljava/lang/Throwable;") ∈ ja_T := ja_g (ja_i2 (List.mem_of_getElem? (i := 170) rfl)) rfl
theorem jw_411 : (Jvm.Cond.lays "java/lang/UnsupportedOperationException" "java/lang/Throwable" "stackTrace" "[Ljava/lang/StackTraceElement;") ∈ ja_T := ja_g (ja_i2 (List.mem_of_getElem? (i := 171) rfl)) rfl
theorem jw_412 : (Jvm.Cond.lays "java/lang/UnsupportedOperationException" "java/lang/Throwable" "suppressedExceptions" "Ljava/util/List;") ∈ ja_T := ja_g (ja_i2 (List.mem_of_getElem? (i := 172) rfl)) rfl
theorem jw_413 : (Jvm.Cond.lays "java/lang/UnsupportedOperationException" "java/lang/Throwable" "detailMessage" "Ljava/lang/String;") ∈ ja_T := ja_g (ja_i2 (List.mem_of_getElem? (i := 173) rfl)) rfl
theorem jw_414 : (Jvm.Cond.lays "java/lang/UnsupportedOperationException" "java/lang/Throwable" "backtrace" "Ljava/lang/Object;") ∈ ja_T := ja_g (ja_i2 (List.mem_of_getElem? (i := 174) rfl)) rfl
theorem jw_415 : (Jvm.Cond.methodLink "CashMachine" (99 : Nat) ({ cls := "java/lang/UnsupportedOperationException", name := "<init>", desc := "()V" } : Jvm.MethodName)) ∈ ja_T := ja_g (ja_i2 (List.mem_of_getElem? (i := 175) rfl)) rfl
theorem jw_416 : (Jvm.Cond.instanceMethod ({ cls := "java/lang/UnsupportedOperationException", name := "<init>", desc := "()V" } : Jvm.MethodName)) ∈ ja_T := ja_g (ja_i2 (List.mem_of_getElem? (i := 176) rfl)) rfl
theorem jw_417 : (Jvm.Cond.code ({ cls := "java/lang/UnsupportedOperationException", name := "<init>", desc := "()V" } : Jvm.MethodName) prog_21_method_1_code (1 : Nat) (Option.none : Option Jvm.ClassFile.FieldType)) ∈ ja_T := ja_g (ja_i2 (List.mem_of_getElem? (i := 177) rfl)) rfl
theorem jw_418 : (Jvm.Cond.methodLink "java/lang/UnsupportedOperationException" (1 : Nat) ({ cls := "java/lang/RuntimeException", name := "<init>", desc := "()V" } : Jvm.MethodName)) ∈ ja_T := ja_g (ja_i2 (List.mem_of_getElem? (i := 178) rfl)) rfl
theorem jw_419 : (Jvm.Cond.lays "java/lang/UnsupportedOperationException" "java/lang/Throwable" "depth" "I") ∈ ja_T := ja_g (ja_i2 (List.mem_of_getElem? (i := 179) rfl)) rfl
theorem jw_420 : (Jvm.Cond.superclass "java/lang/UnsupportedOperationException" "java/lang/RuntimeException") ∈ ja_T := ja_g (ja_i2 (List.mem_of_getElem? (i := 180) rfl)) rfl
theorem jw_421 : (Jvm.Cond.methodLink "CashMachineLaw" (94 : Nat) ({ cls := "CashMachineLaw", name := "pin", desc := "(LCashMachine;I[J)I" } : Jvm.MethodName)) ∈ ja_T := ja_g (ja_i2 (List.mem_of_getElem? (i := 181) rfl)) rfl
theorem jw_422 : (Jvm.Cond.static ({ cls := "CashMachineLaw", name := "pin", desc := "(LCashMachine;I[J)I" } : Jvm.MethodName)) ∈ ja_T := ja_g (ja_i2 (List.mem_of_getElem? (i := 182) rfl)) rfl
theorem jw_423 : (Jvm.Cond.codeWith ({ cls := "CashMachineLaw", name := "pin", desc := "(LCashMachine;I[J)I" } : Jvm.MethodName) method_6_code (4 : Nat) (Option.some Jvm.ClassFile.FieldType.int) [((0 : Nat), (9 : Nat), (12 : Nat), (15 : Nat))]) ∈ ja_T := ja_g (ja_i2 (List.mem_of_getElem? (i := 183) rfl)) rfl
theorem jw_424 : (Jvm.Cond.methodLink "CashMachineLaw" (28 : Nat) ({ cls := "CashMachine", name := "pin", desc := "(I)I" } : Jvm.MethodName)) ∈ ja_T := ja_g (ja_i2 (List.mem_of_getElem? (i := 184) rfl)) rfl
theorem jw_425 : (Jvm.Cond.instanceMethod ({ cls := "CashMachine", name := "pin", desc := "(I)I" } : Jvm.MethodName)) ∈ ja_T := ja_g (ja_i2 (List.mem_of_getElem? (i := 185) rfl)) rfl
theorem jw_426 : (Jvm.Cond.selects "CashMachine" ({ cls := "CashMachine", name := "pin", desc := "(I)I" } : Jvm.MethodName) ({ cls := "CashMachine", name := "pin", desc := "(I)I" } : Jvm.MethodName)) ∈ ja_T := ja_g (ja_i2 (List.mem_of_getElem? (i := 186) rfl)) rfl
theorem jw_427 : (Jvm.Cond.code ({ cls := "CashMachine", name := "pin", desc := "(I)I" } : Jvm.MethodName) prog_1_method_5_code (3 : Nat) (Option.some Jvm.ClassFile.FieldType.int)) ∈ ja_T := ja_g (ja_i2 (List.mem_of_getElem? (i := 187) rfl)) rfl
theorem jw_428 : (Jvm.Cond.methodLink "CashMachine" (103 : Nat) ({ cls := "CashMachine$Account", name := "tryPin", desc := "(I)Z" } : Jvm.MethodName)) ∈ ja_T := ja_g (ja_i2 (List.mem_of_getElem? (i := 188) rfl)) rfl
theorem jw_429 : (Jvm.Cond.instanceMethod ({ cls := "CashMachine$Account", name := "tryPin", desc := "(I)Z" } : Jvm.MethodName)) ∈ ja_T := ja_g (ja_i2 (List.mem_of_getElem? (i := 189) rfl)) rfl
theorem jw_430 : (Jvm.Cond.selects "CashMachine$Account" ({ cls := "CashMachine$Account", name := "tryPin", desc := "(I)Z" } : Jvm.MethodName) ({ cls := "CashMachine$Account", name := "tryPin", desc := "(I)Z" } : Jvm.MethodName)) ∈ ja_T := ja_g (ja_i2 (List.mem_of_getElem? (i := 190) rfl)) rfl
theorem jw_431 : (Jvm.Cond.code ({ cls := "CashMachine$Account", name := "tryPin", desc := "(I)Z" } : Jvm.MethodName) prog_2_method_2_code (2 : Nat) (Option.some Jvm.ClassFile.FieldType.boolean)) ∈ ja_T := ja_g (ja_i2 (List.mem_of_getElem? (i := 191) rfl)) rfl
theorem jw_432 : (Jvm.Cond.methodLink "CashMachine" (106 : Nat) ({ cls := "CashMachine", name := "endSession", desc := "()V" } : Jvm.MethodName)) ∈ ja_T := ja_g (ja_i2 (List.mem_of_getElem? (i := 192) rfl)) rfl
theorem jv_433 : (Jvm.Cond.privateMethod ({ cls := "CashMachine", name := "endSession", desc := "()V" } : Jvm.MethodName)) ∈ lw_tbl := ja_i2 (List.mem_of_getElem? (i := 193) rfl)
theorem jw_434 : (Jvm.Cond.instanceMethod ({ cls := "CashMachine", name := "endSession", desc := "()V" } : Jvm.MethodName)) ∈ ja_T := ja_g (ja_i2 (List.mem_of_getElem? (i := 194) rfl)) rfl
theorem jw_435 : (Jvm.Cond.code ({ cls := "CashMachine", name := "endSession", desc := "()V" } : Jvm.MethodName) prog_1_method_21_code (1 : Nat) (Option.none : Option Jvm.ClassFile.FieldType)) ∈ ja_T := ja_g (ja_i2 (List.mem_of_getElem? (i := 195) rfl)) rfl
theorem jw_436 : (Jvm.Cond.methodLink "CashMachineLaw" (97 : Nat) ({ cls := "CashMachineLaw", name := "eject", desc := "(LCashMachine;[J)I" } : Jvm.MethodName)) ∈ ja_T := ja_g (ja_i2 (List.mem_of_getElem? (i := 196) rfl)) rfl
theorem jw_437 : (Jvm.Cond.static ({ cls := "CashMachineLaw", name := "eject", desc := "(LCashMachine;[J)I" } : Jvm.MethodName)) ∈ ja_T := ja_g (ja_i2 (List.mem_of_getElem? (i := 197) rfl)) rfl
theorem jw_438 : (Jvm.Cond.codeWith ({ cls := "CashMachineLaw", name := "eject", desc := "(LCashMachine;[J)I" } : Jvm.MethodName) method_7_code (3 : Nat) (Option.some Jvm.ClassFile.FieldType.int) [((0 : Nat), (8 : Nat), (11 : Nat), (15 : Nat))]) ∈ ja_T := ja_g (ja_i2 (List.mem_of_getElem? (i := 198) rfl)) rfl
theorem jw_439 : (Jvm.Cond.methodLink "CashMachineLaw" (31 : Nat) ({ cls := "CashMachine", name := "eject", desc := "()I" } : Jvm.MethodName)) ∈ ja_T := ja_g (ja_i2 (List.mem_of_getElem? (i := 199) rfl)) rfl
theorem jw_440 : (Jvm.Cond.instanceMethod ({ cls := "CashMachine", name := "eject", desc := "()I" } : Jvm.MethodName)) ∈ ja_T := ja_g (ja_i2 (List.mem_of_getElem? (i := 200) rfl)) rfl
theorem jw_441 : (Jvm.Cond.selects "CashMachine" ({ cls := "CashMachine", name := "eject", desc := "()I" } : Jvm.MethodName) ({ cls := "CashMachine", name := "eject", desc := "()I" } : Jvm.MethodName)) ∈ ja_T := ja_g (ja_i2 (List.mem_of_getElem? (i := 201) rfl)) rfl
theorem jw_442 : (Jvm.Cond.code ({ cls := "CashMachine", name := "eject", desc := "()I" } : Jvm.MethodName) prog_1_method_6_code (2 : Nat) (Option.some Jvm.ClassFile.FieldType.int)) ∈ ja_T := ja_g (ja_i2 (List.mem_of_getElem? (i := 202) rfl)) rfl
theorem jw_443 : (Jvm.Cond.methodLink "CashMachineLaw" (101 : Nat) ({ cls := "CashMachineLaw", name := "withdraw", desc := "(LCashMachine;I[J)I" } : Jvm.MethodName)) ∈ ja_T := ja_g (ja_i2 (List.mem_of_getElem? (i := 203) rfl)) rfl
theorem jw_444 : (Jvm.Cond.static ({ cls := "CashMachineLaw", name := "withdraw", desc := "(LCashMachine;I[J)I" } : Jvm.MethodName)) ∈ ja_T := ja_g (ja_i2 (List.mem_of_getElem? (i := 204) rfl)) rfl
theorem jw_445 : (Jvm.Cond.codeWith ({ cls := "CashMachineLaw", name := "withdraw", desc := "(LCashMachine;I[J)I" } : Jvm.MethodName) method_8_code (4 : Nat) (Option.some Jvm.ClassFile.FieldType.int) [((0 : Nat), (9 : Nat), (12 : Nat), (15 : Nat)), ((0 : Nat), (9 : Nat), (15 : Nat), (13 : Nat)), ((0 : Nat), (9 : Nat), (18 : Nat), (26 : Nat)), ((0 : Nat), (9 : Nat), (21 : Nat), (38 : Nat))]) ∈ ja_T := ja_g (ja_i2 (List.mem_of_getElem? (i := 205) rfl)) rfl
theorem jw_446 : (Jvm.Cond.classLink "CashMachineLaw" (38 : Nat) "java/lang/IndexOutOfBoundsException") ∈ ja_T := ja_g (ja_i2 (List.mem_of_getElem? (i := 206) rfl)) rfl
theorem jw_447 : (Jvm.Cond.methodLink "CashMachineLaw" (35 : Nat) ({ cls := "CashMachine", name := "withdraw", desc := "(I)I" } : Jvm.MethodName)) ∈ ja_T := ja_g (ja_i2 (List.mem_of_getElem? (i := 207) rfl)) rfl
theorem jw_448 : (Jvm.Cond.instanceMethod ({ cls := "CashMachine", name := "withdraw", desc := "(I)I" } : Jvm.MethodName)) ∈ ja_T := ja_g (ja_i2 (List.mem_of_getElem? (i := 208) rfl)) rfl
theorem jw_449 : (Jvm.Cond.selects "CashMachine" ({ cls := "CashMachine", name := "withdraw", desc := "(I)I" } : Jvm.MethodName) ({ cls := "CashMachine", name := "withdraw", desc := "(I)I" } : Jvm.MethodName)) ∈ ja_T := ja_g (ja_i2 (List.mem_of_getElem? (i := 209) rfl)) rfl
theorem jw_450 : (Jvm.Cond.code ({ cls := "CashMachine", name := "withdraw", desc := "(I)I" } : Jvm.MethodName) prog_1_method_7_code (2 : Nat) (Option.some Jvm.ClassFile.FieldType.int)) ∈ ja_T := ja_g (ja_i2 (List.mem_of_getElem? (i := 210) rfl)) rfl
theorem jw_451 : (Jvm.Cond.methodLink "CashMachine" (109 : Nat) ({ cls := "CashMachine$Dispenser", name := "findMix", desc := "(I)Z" } : Jvm.MethodName)) ∈ ja_T := ja_g (ja_i2 (List.mem_of_getElem? (i := 211) rfl)) rfl
theorem jw_452 : (Jvm.Cond.instanceMethod ({ cls := "CashMachine$Dispenser", name := "findMix", desc := "(I)Z" } : Jvm.MethodName)) ∈ ja_T := ja_g (ja_i2 (List.mem_of_getElem? (i := 212) rfl)) rfl
theorem jw_453 : (Jvm.Cond.selects "CashMachine$Dispenser" ({ cls := "CashMachine$Dispenser", name := "findMix", desc := "(I)Z" } : Jvm.MethodName) ({ cls := "CashMachine$Dispenser", name := "findMix", desc := "(I)Z" } : Jvm.MethodName)) ∈ ja_T := ja_g (ja_i2 (List.mem_of_getElem? (i := 213) rfl)) rfl
theorem jw_454 : (Jvm.Cond.code ({ cls := "CashMachine$Dispenser", name := "findMix", desc := "(I)Z" } : Jvm.MethodName) prog_4_method_3_code (2 : Nat) (Option.some Jvm.ClassFile.FieldType.boolean)) ∈ ja_T := ja_g (ja_i2 (List.mem_of_getElem? (i := 214) rfl)) rfl
theorem jw_455 : (Jvm.Cond.methodLink "CashMachine$Dispenser" (44 : Nat) ({ cls := "CashMachine$Mix", name := "find", desc := "([LCashMachine$Cassette;I)Z" } : Jvm.MethodName)) ∈ ja_T := ja_g (ja_i2 (List.mem_of_getElem? (i := 215) rfl)) rfl
theorem jw_456 : (Jvm.Cond.instanceMethod ({ cls := "CashMachine$Mix", name := "find", desc := "([LCashMachine$Cassette;I)Z" } : Jvm.MethodName)) ∈ ja_T := ja_g (ja_i2 (List.mem_of_getElem? (i := 216) rfl)) rfl
theorem jw_457 : (Jvm.Cond.selects "CashMachine$Mix" ({ cls := "CashMachine$Mix", name := "find", desc := "([LCashMachine$Cassette;I)Z" } : Jvm.MethodName) ({ cls := "CashMachine$Mix", name := "find", desc := "([LCashMachine$Cassette;I)Z" } : Jvm.MethodName)) ∈ ja_T := ja_g (ja_i2 (List.mem_of_getElem? (i := 217) rfl)) rfl
theorem jw_458 : (Jvm.Cond.code ({ cls := "CashMachine$Mix", name := "find", desc := "([LCashMachine$Cassette;I)Z" } : Jvm.MethodName) prog_9_method_2_code (10 : Nat) (Option.some Jvm.ClassFile.FieldType.boolean)) ∈ ja_T := ja_g (ja_i2 (List.mem_of_getElem? (i := 218) rfl)) rfl
theorem jw_459 : (Jvm.Cond.methodLink "CashMachine$Mix" (18 : Nat) ({ cls := "CashMachine$Mix", name := "rankLastTwo", desc := "(LCashMachine$Cassette;LCashMachine$Cassette;I)V" } : Jvm.MethodName)) ∈ ja_T := ja_g (ja_i2 (List.mem_of_getElem? (i := 219) rfl)) rfl
theorem jv_460 : (Jvm.Cond.privateMethod ({ cls := "CashMachine$Mix", name := "rankLastTwo", desc := "(LCashMachine$Cassette;LCashMachine$Cassette;I)V" } : Jvm.MethodName)) ∈ lw_tbl := ja_i2 (List.mem_of_getElem? (i := 220) rfl)
theorem jw_461 : (Jvm.Cond.instanceMethod ({ cls := "CashMachine$Mix", name := "rankLastTwo", desc := "(LCashMachine$Cassette;LCashMachine$Cassette;I)V" } : Jvm.MethodName)) ∈ ja_T := ja_g (ja_i2 (List.mem_of_getElem? (i := 221) rfl)) rfl
theorem jw_462 : (Jvm.Cond.code ({ cls := "CashMachine$Mix", name := "rankLastTwo", desc := "(LCashMachine$Cassette;LCashMachine$Cassette;I)V" } : Jvm.MethodName) prog_9_method_3_code (9 : Nat) (Option.none : Option Jvm.ClassFile.FieldType)) ∈ ja_T := ja_g (ja_i2 (List.mem_of_getElem? (i := 222) rfl)) rfl
theorem jw_463 : (Jvm.Cond.constant "CashMachine$Mix" (22 : Nat) (1000000 : Int32)) ∈ ja_T := ja_g (ja_i2 (List.mem_of_getElem? (i := 223) rfl)) rfl
theorem jw_464 : (Jvm.Cond.methodLink "CashMachine$Mix" (36 : Nat) ({ cls := "java/util/Arrays", name := "fill", desc := "([II)V" } : Jvm.MethodName)) ∈ ja_T := ja_g (ja_i2 (List.mem_of_getElem? (i := 224) rfl)) rfl
theorem jw_465 : (Jvm.Cond.static ({ cls := "java/util/Arrays", name := "fill", desc := "([II)V" } : Jvm.MethodName)) ∈ ja_T := ja_g (ja_i2 (List.mem_of_getElem? (i := 225) rfl)) rfl
theorem jw_466 : (Jvm.Cond.code ({ cls := "java/util/Arrays", name := "fill", desc := "([II)V" } : Jvm.MethodName) prog_22_method_103_code (4 : Nat) (Option.none : Option Jvm.ClassFile.FieldType)) ∈ ja_T := ja_g (ja_i2 (List.mem_of_getElem? (i := 226) rfl)) rfl
theorem jw_467 : (Jvm.Cond.methodLink "CashMachine$Mix" (42 : Nat) ({ cls := "java/lang/Math", name := "min", desc := "(II)I" } : Jvm.MethodName)) ∈ ja_T := ja_g (ja_i2 (List.mem_of_getElem? (i := 227) rfl)) rfl
theorem jw_468 : (Jvm.Cond.static ({ cls := "java/lang/Math", name := "min", desc := "(II)I" } : Jvm.MethodName)) ∈ ja_T := ja_g (ja_i2 (List.mem_of_getElem? (i := 228) rfl)) rfl
theorem jw_469 : (Jvm.Cond.code ({ cls := "java/lang/Math", name := "min", desc := "(II)I" } : Jvm.MethodName) prog_17_method_69_code (2 : Nat) (Option.some Jvm.ClassFile.FieldType.int)) ∈ ja_T := ja_g (ja_i2 (List.mem_of_getElem? (i := 229) rfl)) rfl
theorem jw_470 : (Jvm.Cond.methodLink "CashMachine$Mix" (32 : Nat) ({ cls := "CashMachine$Mix", name := "keep", desc := "(III)V" } : Jvm.MethodName)) ∈ ja_T := ja_g (ja_i2 (List.mem_of_getElem? (i := 230) rfl)) rfl
theorem jv_471 : (Jvm.Cond.privateMethod ({ cls := "CashMachine$Mix", name := "keep", desc := "(III)V" } : Jvm.MethodName)) ∈ lw_tbl := ja_i2 (List.mem_of_getElem? (i := 231) rfl)
theorem jw_472 : (Jvm.Cond.instanceMethod ({ cls := "CashMachine$Mix", name := "keep", desc := "(III)V" } : Jvm.MethodName)) ∈ ja_T := ja_g (ja_i2 (List.mem_of_getElem? (i := 232) rfl)) rfl
theorem jw_473 : (Jvm.Cond.code ({ cls := "CashMachine$Mix", name := "keep", desc := "(III)V" } : Jvm.MethodName) prog_9_method_4_code (5 : Nat) (Option.none : Option Jvm.ClassFile.FieldType)) ∈ ja_T := ja_g (ja_i2 (List.mem_of_getElem? (i := 233) rfl)) rfl
theorem jw_474 : (Jvm.Cond.classLink "CashMachine" (115 : Nat) "java/lang/IndexOutOfBoundsException") ∈ ja_T := ja_g (ja_i2 (List.mem_of_getElem? (i := 234) rfl)) rfl
theorem jw_475 : (Jvm.Cond.instantiable "java/lang/IndexOutOfBoundsException" (6 : Nat)) ∈ ja_T := ja_g (ja_i2 (List.mem_of_getElem? (i := 235) rfl)) rfl
theorem jv_476 : (Jvm.Cond.castable "java/lang/IndexOutOfBoundsException" "java/lang/IndexOutOfBoundsException") ∈ lw_tbl := ja_i2 (List.mem_of_getElem? (i := 236) rfl)
theorem jw_477 : (Jvm.Cond.selects "java/lang/IndexOutOfBoundsException" ({ cls := "java/lang/Throwable", name := "fillInStackTrace", desc := "(I)Ljava/lang/Throwable;" } : Jvm.MethodName) ({ cls := "java/lang/Throwable", name := "fillInStackTrace", desc := "(I)Ljava/lang/Throwable;" } : Jvm.MethodName)) ∈ ja_T := ja_g (ja_i2 (List.mem_of_getElem? (i := 237) rfl)) rfl
theorem jw_478 : (Jvm.Cond.lays "java/lang/IndexOutOfBoundsException" "java/lang/Throwable" "cause" "Ljava/lang/Throwable;") ∈ ja_T := ja_g (ja_i2 (List.mem_of_getElem? (i := 238) rfl)) rfl
theorem jw_479 : (Jvm.Cond.lays "java/lang/IndexOutOfBoundsException" "java/lang/Throwable" "stackTrace" "[Ljava/lang/StackTraceElement;") ∈ ja_T := ja_g (ja_i2 (List.mem_of_getElem? (i := 239) rfl)) rfl
theorem jw_480 : (Jvm.Cond.lays "java/lang/IndexOutOfBoundsException" "java/lang/Throwable" "suppressedExceptions" "Ljava/util/List;") ∈ ja_T := ja_g (ja_i3 (List.mem_of_getElem? (i := 0) rfl)) rfl
theorem jw_481 : (Jvm.Cond.lays "java/lang/IndexOutOfBoundsException" "java/lang/Throwable" "detailMessage" "Ljava/lang/String;") ∈ ja_T := ja_g (ja_i3 (List.mem_of_getElem? (i := 1) rfl)) rfl
theorem jw_482 : (Jvm.Cond.lays "java/lang/IndexOutOfBoundsException" "java/lang/Throwable" "backtrace" "Ljava/lang/Object;") ∈ ja_T := ja_g (ja_i3 (List.mem_of_getElem? (i := 2) rfl)) rfl
theorem jw_483 : (Jvm.Cond.methodLink "CashMachine" (117 : Nat) ({ cls := "java/lang/IndexOutOfBoundsException", name := "<init>", desc := "()V" } : Jvm.MethodName)) ∈ ja_T := ja_g (ja_i3 (List.mem_of_getElem? (i := 3) rfl)) rfl
theorem jw_484 : (Jvm.Cond.instanceMethod ({ cls := "java/lang/IndexOutOfBoundsException", name := "<init>", desc := "()V" } : Jvm.MethodName)) ∈ ja_T := ja_g (ja_i3 (List.mem_of_getElem? (i := 4) rfl)) rfl
theorem jw_485 : (Jvm.Cond.code ({ cls := "java/lang/IndexOutOfBoundsException", name := "<init>", desc := "()V" } : Jvm.MethodName) prog_16_method_1_code (1 : Nat) (Option.none : Option Jvm.ClassFile.FieldType)) ∈ ja_T := ja_g (ja_i3 (List.mem_of_getElem? (i := 5) rfl)) rfl
theorem jw_486 : (Jvm.Cond.methodLink "java/lang/IndexOutOfBoundsException" (1 : Nat) ({ cls := "java/lang/RuntimeException", name := "<init>", desc := "()V" } : Jvm.MethodName)) ∈ ja_T := ja_g (ja_i3 (List.mem_of_getElem? (i := 6) rfl)) rfl
theorem jw_487 : (Jvm.Cond.lays "java/lang/IndexOutOfBoundsException" "java/lang/Throwable" "depth" "I") ∈ ja_T := ja_g (ja_i3 (List.mem_of_getElem? (i := 7) rfl)) rfl
theorem jw_488 : (Jvm.Cond.superclass "java/lang/IndexOutOfBoundsException" "java/lang/RuntimeException") ∈ ja_T := ja_g (ja_i3 (List.mem_of_getElem? (i := 8) rfl)) rfl
theorem jw_489 : (Jvm.Cond.methodLink "CashMachine" (118 : Nat) ({ cls := "CashMachine$Journal", name := "begin", desc := "(II)LCashMachine$Entry;" } : Jvm.MethodName)) ∈ ja_T := ja_g (ja_i3 (List.mem_of_getElem? (i := 9) rfl)) rfl
theorem jw_490 : (Jvm.Cond.instanceMethod ({ cls := "CashMachine$Journal", name := "begin", desc := "(II)LCashMachine$Entry;" } : Jvm.MethodName)) ∈ ja_T := ja_g (ja_i3 (List.mem_of_getElem? (i := 10) rfl)) rfl
theorem jw_491 : (Jvm.Cond.selects "CashMachine$Journal" ({ cls := "CashMachine$Journal", name := "begin", desc := "(II)LCashMachine$Entry;" } : Jvm.MethodName) ({ cls := "CashMachine$Journal", name := "begin", desc := "(II)LCashMachine$Entry;" } : Jvm.MethodName)) ∈ ja_T := ja_g (ja_i3 (List.mem_of_getElem? (i := 11) rfl)) rfl
theorem jw_492 : (Jvm.Cond.code ({ cls := "CashMachine$Journal", name := "begin", desc := "(II)LCashMachine$Entry;" } : Jvm.MethodName) prog_7_method_2_code (4 : Nat) (Option.some (Jvm.ClassFile.FieldType.object "CashMachine$Entry"))) ∈ ja_T := ja_g (ja_i3 (List.mem_of_getElem? (i := 12) rfl)) rfl
theorem jw_493 : (Jvm.Cond.methodLink "CashMachine" (122 : Nat) ({ cls := "CashMachine", name := "request", desc := "(LCashMachine$Entry;)I" } : Jvm.MethodName)) ∈ ja_T := ja_g (ja_i3 (List.mem_of_getElem? (i := 13) rfl)) rfl
theorem jv_494 : (Jvm.Cond.privateMethod ({ cls := "CashMachine", name := "request", desc := "(LCashMachine$Entry;)I" } : Jvm.MethodName)) ∈ lw_tbl := ja_i3 (List.mem_of_getElem? (i := 14) rfl)
theorem jw_495 : (Jvm.Cond.instanceMethod ({ cls := "CashMachine", name := "request", desc := "(LCashMachine$Entry;)I" } : Jvm.MethodName)) ∈ ja_T := ja_g (ja_i3 (List.mem_of_getElem? (i := 15) rfl)) rfl
theorem jw_496 : (Jvm.Cond.code ({ cls := "CashMachine", name := "request", desc := "(LCashMachine$Entry;)I" } : Jvm.MethodName) prog_1_method_22_code (3 : Nat) (Option.some Jvm.ClassFile.FieldType.int)) ∈ ja_T := ja_g (ja_i3 (List.mem_of_getElem? (i := 16) rfl)) rfl
theorem jw_497 : (Jvm.Cond.methodLink "CashMachine" (201 : Nat) ({ cls := "CashMachine", name := "failsAt", desc := "(I)Z" } : Jvm.MethodName)) ∈ ja_T := ja_g (ja_i3 (List.mem_of_getElem? (i := 17) rfl)) rfl
theorem jv_498 : (Jvm.Cond.privateMethod ({ cls := "CashMachine", name := "failsAt", desc := "(I)Z" } : Jvm.MethodName)) ∈ lw_tbl := ja_i3 (List.mem_of_getElem? (i := 18) rfl)
theorem jw_499 : (Jvm.Cond.instanceMethod ({ cls := "CashMachine", name := "failsAt", desc := "(I)Z" } : Jvm.MethodName)) ∈ ja_T := ja_g (ja_i3 (List.mem_of_getElem? (i := 19) rfl)) rfl
theorem jw_500 : (Jvm.Cond.code ({ cls := "CashMachine", name := "failsAt", desc := "(I)Z" } : Jvm.MethodName) prog_1_method_24_code (2 : Nat) (Option.some Jvm.ClassFile.FieldType.boolean)) ∈ ja_T := ja_g (ja_i3 (List.mem_of_getElem? (i := 20) rfl)) rfl
theorem jw_501 : (Jvm.Cond.methodLink "CashMachine" (204 : Nat) ({ cls := "CashMachine", name := "exchangeRequest", desc := "(LCashMachine$Entry;)I" } : Jvm.MethodName)) ∈ ja_T := ja_g (ja_i3 (List.mem_of_getElem? (i := 21) rfl)) rfl
theorem jv_502 : (Jvm.Cond.privateMethod ({ cls := "CashMachine", name := "exchangeRequest", desc := "(LCashMachine$Entry;)I" } : Jvm.MethodName)) ∈ lw_tbl := ja_i3 (List.mem_of_getElem? (i := 22) rfl)
theorem jw_503 : (Jvm.Cond.instanceMethod ({ cls := "CashMachine", name := "exchangeRequest", desc := "(LCashMachine$Entry;)I" } : Jvm.MethodName)) ∈ ja_T := ja_g (ja_i3 (List.mem_of_getElem? (i := 23) rfl)) rfl
theorem jw_504 : (Jvm.Cond.code ({ cls := "CashMachine", name := "exchangeRequest", desc := "(LCashMachine$Entry;)I" } : Jvm.MethodName) prog_1_method_28_code (4 : Nat) (Option.some Jvm.ClassFile.FieldType.int)) ∈ ja_T := ja_g (ja_i3 (List.mem_of_getElem? (i := 24) rfl)) rfl
theorem jw_505 : (Jvm.Cond.methodLink "CashMachine" (230 : Nat) ({ cls := "CashMachine$Line", name := "takeFirst", desc := "()I" } : Jvm.MethodName)) ∈ ja_T := ja_g (ja_i3 (List.mem_of_getElem? (i := 25) rfl)) rfl
theorem jw_506 : (Jvm.Cond.instanceMethod ({ cls := "CashMachine$Line", name := "takeFirst", desc := "()I" } : Jvm.MethodName)) ∈ ja_T := ja_g (ja_i3 (List.mem_of_getElem? (i := 26) rfl)) rfl
theorem jw_507 : (Jvm.Cond.selects "CashMachine$Line" ({ cls := "CashMachine$Line", name := "takeFirst", desc := "()I" } : Jvm.MethodName) ({ cls := "CashMachine$Line", name := "takeFirst", desc := "()I" } : Jvm.MethodName)) ∈ ja_T := ja_g (ja_i3 (List.mem_of_getElem? (i := 27) rfl)) rfl
theorem jw_508 : (Jvm.Cond.code ({ cls := "CashMachine$Line", name := "takeFirst", desc := "()I" } : Jvm.MethodName) prog_8_method_3_code (2 : Nat) (Option.some Jvm.ClassFile.FieldType.int)) ∈ ja_T := ja_g (ja_i3 (List.mem_of_getElem? (i := 28) rfl)) rfl
theorem jw_509 : (Jvm.Cond.methodLink "CashMachine$Line" (19 : Nat) ({ cls := "java/lang/System", name := "arraycopy", desc := "(Ljava/lang/Object;ILjava/lang/Object;II)V" } : Jvm.MethodName)) ∈ ja_T := ja_g (ja_i3 (List.mem_of_getElem? (i := 29) rfl)) rfl
theorem jw_510 : (Jvm.Cond.static ({ cls := "java/lang/System", name := "arraycopy", desc := "(Ljava/lang/Object;ILjava/lang/Object;II)V" } : Jvm.MethodName)) ∈ ja_T := ja_g (ja_i3 (List.mem_of_getElem? (i := 30) rfl)) rfl
theorem jw_511 : (Jvm.Cond.native ({ cls := "java/lang/System", name := "arraycopy", desc := "(Ljava/lang/Object;ILjava/lang/Object;II)V" } : Jvm.MethodName)) ∈ ja_T := ja_g (ja_i3 (List.mem_of_getElem? (i := 31) rfl)) rfl
theorem jw_512 : (Jvm.Cond.methodLink "CashMachine" (233 : Nat) ({ cls := "CashMachine$Host", name := "receiveRequest", desc := "(III)Z" } : Jvm.MethodName)) ∈ ja_T := ja_g (ja_i3 (List.mem_of_getElem? (i := 32) rfl)) rfl
theorem jw_513 : (Jvm.Cond.instanceMethod ({ cls := "CashMachine$Host", name := "receiveRequest", desc := "(III)Z" } : Jvm.MethodName)) ∈ ja_T := ja_g (ja_i3 (List.mem_of_getElem? (i := 33) rfl)) rfl
theorem jw_514 : (Jvm.Cond.selects "CashMachine$Host" ({ cls := "CashMachine$Host", name := "receiveRequest", desc := "(III)Z" } : Jvm.MethodName) ({ cls := "CashMachine$Host", name := "receiveRequest", desc := "(III)Z" } : Jvm.MethodName)) ∈ ja_T := ja_g (ja_i3 (List.mem_of_getElem? (i := 34) rfl)) rfl
theorem jw_515 : (Jvm.Cond.code ({ cls := "CashMachine$Host", name := "receiveRequest", desc := "(III)Z" } : Jvm.MethodName) prog_6_method_4_code (4 : Nat) (Option.some Jvm.ClassFile.FieldType.boolean)) ∈ ja_T := ja_g (ja_i3 (List.mem_of_getElem? (i := 35) rfl)) rfl
theorem jw_516 : (Jvm.Cond.methodLink "CashMachine$Host" (47 : Nat) ({ cls := "CashMachine$Host", name := "decide", desc := "(ILCashMachine$Account;I)I" } : Jvm.MethodName)) ∈ ja_T := ja_g (ja_i3 (List.mem_of_getElem? (i := 36) rfl)) rfl
theorem jv_517 : (Jvm.Cond.privateMethod ({ cls := "CashMachine$Host", name := "decide", desc := "(ILCashMachine$Account;I)I" } : Jvm.MethodName)) ∈ lw_tbl := ja_i3 (List.mem_of_getElem? (i := 37) rfl)
theorem jw_518 : (Jvm.Cond.instanceMethod ({ cls := "CashMachine$Host", name := "decide", desc := "(ILCashMachine$Account;I)I" } : Jvm.MethodName)) ∈ ja_T := ja_g (ja_i3 (List.mem_of_getElem? (i := 38) rfl)) rfl
theorem jw_519 : (Jvm.Cond.code ({ cls := "CashMachine$Host", name := "decide", desc := "(ILCashMachine$Account;I)I" } : Jvm.MethodName) prog_6_method_5_code (4 : Nat) (Option.some Jvm.ClassFile.FieldType.int)) ∈ ja_T := ja_g (ja_i3 (List.mem_of_getElem? (i := 39) rfl)) rfl
theorem jw_520 : (Jvm.Cond.methodLink "CashMachine" (207 : Nat) ({ cls := "CashMachine", name := "giveUp", desc := "(LCashMachine$Entry;)V" } : Jvm.MethodName)) ∈ ja_T := ja_g (ja_i3 (List.mem_of_getElem? (i := 40) rfl)) rfl
theorem jv_521 : (Jvm.Cond.privateMethod ({ cls := "CashMachine", name := "giveUp", desc := "(LCashMachine$Entry;)V" } : Jvm.MethodName)) ∈ lw_tbl := ja_i3 (List.mem_of_getElem? (i := 41) rfl)
theorem jw_522 : (Jvm.Cond.instanceMethod ({ cls := "CashMachine", name := "giveUp", desc := "(LCashMachine$Entry;)V" } : Jvm.MethodName)) ∈ ja_T := ja_g (ja_i3 (List.mem_of_getElem? (i := 42) rfl)) rfl
theorem jw_523 : (Jvm.Cond.code ({ cls := "CashMachine", name := "giveUp", desc := "(LCashMachine$Entry;)V" } : Jvm.MethodName) prog_1_method_25_code (2 : Nat) (Option.none : Option Jvm.ClassFile.FieldType)) ∈ ja_T := ja_g (ja_i3 (List.mem_of_getElem? (i := 43) rfl)) rfl
theorem jw_524 : (Jvm.Cond.methodLink "CashMachine" (224 : Nat) ({ cls := "CashMachine$Reversals", name := "add", desc := "(II)V" } : Jvm.MethodName)) ∈ ja_T := ja_g (ja_i3 (List.mem_of_getElem? (i := 44) rfl)) rfl
theorem jw_525 : (Jvm.Cond.instanceMethod ({ cls := "CashMachine$Reversals", name := "add", desc := "(II)V" } : Jvm.MethodName)) ∈ ja_T := ja_g (ja_i3 (List.mem_of_getElem? (i := 45) rfl)) rfl
theorem jw_526 : (Jvm.Cond.selects "CashMachine$Reversals" ({ cls := "CashMachine$Reversals", name := "add", desc := "(II)V" } : Jvm.MethodName) ({ cls := "CashMachine$Reversals", name := "add", desc := "(II)V" } : Jvm.MethodName)) ∈ ja_T := ja_g (ja_i3 (List.mem_of_getElem? (i := 46) rfl)) rfl
theorem jw_527 : (Jvm.Cond.code ({ cls := "CashMachine$Reversals", name := "add", desc := "(II)V" } : Jvm.MethodName) prog_10_method_2_code (3 : Nat) (Option.none : Option Jvm.ClassFile.FieldType)) ∈ ja_T := ja_g (ja_i3 (List.mem_of_getElem? (i := 47) rfl)) rfl
theorem jw_528 : (Jvm.Cond.methodLink "CashMachine" (210 : Nat) ({ cls := "CashMachine", name := "present", desc := "(LCashMachine$Entry;)I" } : Jvm.MethodName)) ∈ ja_T := ja_g (ja_i3 (List.mem_of_getElem? (i := 48) rfl)) rfl
theorem jv_529 : (Jvm.Cond.privateMethod ({ cls := "CashMachine", name := "present", desc := "(LCashMachine$Entry;)I" } : Jvm.MethodName)) ∈ lw_tbl := ja_i3 (List.mem_of_getElem? (i := 49) rfl)
theorem jw_530 : (Jvm.Cond.instanceMethod ({ cls := "CashMachine", name := "present", desc := "(LCashMachine$Entry;)I" } : Jvm.MethodName)) ∈ ja_T := ja_g (ja_i3 (List.mem_of_getElem? (i := 50) rfl)) rfl
theorem jw_531 : (Jvm.Cond.code ({ cls := "CashMachine", name := "present", desc := "(LCashMachine$Entry;)I" } : Jvm.MethodName) prog_1_method_23_code (3 : Nat) (Option.some Jvm.ClassFile.FieldType.int)) ∈ ja_T := ja_g (ja_i3 (List.mem_of_getElem? (i := 51) rfl)) rfl
theorem jw_532 : (Jvm.Cond.methodLink "CashMachine" (216 : Nat) ({ cls := "CashMachine$Dispenser", name := "payMix", desc := "(I)I" } : Jvm.MethodName)) ∈ ja_T := ja_g (ja_i3 (List.mem_of_getElem? (i := 52) rfl)) rfl
theorem jw_533 : (Jvm.Cond.instanceMethod ({ cls := "CashMachine$Dispenser", name := "payMix", desc := "(I)I" } : Jvm.MethodName)) ∈ ja_T := ja_g (ja_i3 (List.mem_of_getElem? (i := 53) rfl)) rfl
theorem jw_534 : (Jvm.Cond.selects "CashMachine$Dispenser" ({ cls := "CashMachine$Dispenser", name := "payMix", desc := "(I)I" } : Jvm.MethodName) ({ cls := "CashMachine$Dispenser", name := "payMix", desc := "(I)I" } : Jvm.MethodName)) ∈ ja_T := ja_g (ja_i3 (List.mem_of_getElem? (i := 54) rfl)) rfl
theorem jw_535 : (Jvm.Cond.code ({ cls := "CashMachine$Dispenser", name := "payMix", desc := "(I)I" } : Jvm.MethodName) prog_4_method_4_code (6 : Nat) (Option.some Jvm.ClassFile.FieldType.int)) ∈ ja_T := ja_g (ja_i3 (List.mem_of_getElem? (i := 55) rfl)) rfl
theorem jw_536 : (Jvm.Cond.methodLink "CashMachine$Dispenser" (48 : Nat) ({ cls := "CashMachine$Dispenser", name := "nextCassette", desc := "()I" } : Jvm.MethodName)) ∈ ja_T := ja_g (ja_i3 (List.mem_of_getElem? (i := 56) rfl)) rfl
theorem jv_537 : (Jvm.Cond.privateMethod ({ cls := "CashMachine$Dispenser", name := "nextCassette", desc := "()I" } : Jvm.MethodName)) ∈ lw_tbl := ja_i3 (List.mem_of_getElem? (i := 57) rfl)
theorem jw_538 : (Jvm.Cond.instanceMethod ({ cls := "CashMachine$Dispenser", name := "nextCassette", desc := "()I" } : Jvm.MethodName)) ∈ ja_T := ja_g (ja_i3 (List.mem_of_getElem? (i := 58) rfl)) rfl
theorem jw_539 : (Jvm.Cond.code ({ cls := "CashMachine$Dispenser", name := "nextCassette", desc := "()I" } : Jvm.MethodName) prog_4_method_5_code (4 : Nat) (Option.some Jvm.ClassFile.FieldType.int)) ∈ ja_T := ja_g (ja_i3 (List.mem_of_getElem? (i := 59) rfl)) rfl
theorem jw_540 : (Jvm.Cond.methodLink "CashMachine" (220 : Nat) ({ cls := "CashMachine", name := "finish", desc := "(LCashMachine$Entry;I)V" } : Jvm.MethodName)) ∈ ja_T := ja_g (ja_i3 (List.mem_of_getElem? (i := 60) rfl)) rfl
theorem jv_541 : (Jvm.Cond.privateMethod ({ cls := "CashMachine", name := "finish", desc := "(LCashMachine$Entry;I)V" } : Jvm.MethodName)) ∈ lw_tbl := ja_i3 (List.mem_of_getElem? (i := 61) rfl)
theorem jw_542 : (Jvm.Cond.instanceMethod ({ cls := "CashMachine", name := "finish", desc := "(LCashMachine$Entry;I)V" } : Jvm.MethodName)) ∈ ja_T := ja_g (ja_i3 (List.mem_of_getElem? (i := 62) rfl)) rfl
theorem jw_543 : (Jvm.Cond.code ({ cls := "CashMachine", name := "finish", desc := "(LCashMachine$Entry;I)V" } : Jvm.MethodName) prog_1_method_26_code (3 : Nat) (Option.none : Option Jvm.ClassFile.FieldType)) ∈ ja_T := ja_g (ja_i3 (List.mem_of_getElem? (i := 63) rfl)) rfl
theorem jw_544 : (Jvm.Cond.methodLink "CashMachineLaw" (104 : Nat) ({ cls := "CashMachineLaw", name := "mix", desc := "(LCashMachine;II[J)I" } : Jvm.MethodName)) ∈ ja_T := ja_g (ja_i3 (List.mem_of_getElem? (i := 64) rfl)) rfl
theorem jw_545 : (Jvm.Cond.static ({ cls := "CashMachineLaw", name := "mix", desc := "(LCashMachine;II[J)I" } : Jvm.MethodName)) ∈ ja_T := ja_g (ja_i3 (List.mem_of_getElem? (i := 65) rfl)) rfl
theorem jw_546 : (Jvm.Cond.codeWith ({ cls := "CashMachineLaw", name := "mix", desc := "(LCashMachine;II[J)I" } : Jvm.MethodName) method_9_code (5 : Nat) (Option.some Jvm.ClassFile.FieldType.int) [((0 : Nat), (10 : Nat), (13 : Nat), (13 : Nat)), ((0 : Nat), (10 : Nat), (17 : Nat), (26 : Nat))]) ∈ ja_T := ja_g (ja_i3 (List.mem_of_getElem? (i := 66) rfl)) rfl
theorem jw_547 : (Jvm.Cond.methodLink "CashMachineLaw" (40 : Nat) ({ cls := "CashMachine", name := "mix", desc := "(II)I" } : Jvm.MethodName)) ∈ ja_T := ja_g (ja_i3 (List.mem_of_getElem? (i := 67) rfl)) rfl
theorem jw_548 : (Jvm.Cond.instanceMethod ({ cls := "CashMachine", name := "mix", desc := "(II)I" } : Jvm.MethodName)) ∈ ja_T := ja_g (ja_i3 (List.mem_of_getElem? (i := 68) rfl)) rfl
theorem jw_549 : (Jvm.Cond.selects "CashMachine" ({ cls := "CashMachine", name := "mix", desc := "(II)I" } : Jvm.MethodName) ({ cls := "CashMachine", name := "mix", desc := "(II)I" } : Jvm.MethodName)) ∈ ja_T := ja_g (ja_i3 (List.mem_of_getElem? (i := 69) rfl)) rfl
theorem jw_550 : (Jvm.Cond.code ({ cls := "CashMachine", name := "mix", desc := "(II)I" } : Jvm.MethodName) prog_1_method_8_code (3 : Nat) (Option.some Jvm.ClassFile.FieldType.int)) ∈ ja_T := ja_g (ja_i3 (List.mem_of_getElem? (i := 70) rfl)) rfl
theorem jw_551 : (Jvm.Cond.methodLink "CashMachineLaw" (108 : Nat) ({ cls := "CashMachineLaw", name := "line", desc := "(LCashMachine;I[J)I" } : Jvm.MethodName)) ∈ ja_T := ja_g (ja_i3 (List.mem_of_getElem? (i := 71) rfl)) rfl
theorem jw_552 : (Jvm.Cond.static ({ cls := "CashMachineLaw", name := "line", desc := "(LCashMachine;I[J)I" } : Jvm.MethodName)) ∈ ja_T := ja_g (ja_i3 (List.mem_of_getElem? (i := 72) rfl)) rfl
theorem jw_553 : (Jvm.Cond.codeWith ({ cls := "CashMachineLaw", name := "line", desc := "(LCashMachine;I[J)I" } : Jvm.MethodName) method_10_code (4 : Nat) (Option.some Jvm.ClassFile.FieldType.int) [((0 : Nat), (9 : Nat), (12 : Nat), (13 : Nat)), ((0 : Nat), (9 : Nat), (15 : Nat), (15 : Nat))]) ∈ ja_T := ja_g (ja_i3 (List.mem_of_getElem? (i := 73) rfl)) rfl
theorem jw_554 : (Jvm.Cond.methodLink "CashMachineLaw" (44 : Nat) ({ cls := "CashMachine", name := "line", desc := "(I)I" } : Jvm.MethodName)) ∈ ja_T := ja_g (ja_i3 (List.mem_of_getElem? (i := 74) rfl)) rfl
theorem jw_555 : (Jvm.Cond.instanceMethod ({ cls := "CashMachine", name := "line", desc := "(I)I" } : Jvm.MethodName)) ∈ ja_T := ja_g (ja_i3 (List.mem_of_getElem? (i := 75) rfl)) rfl
theorem jw_556 : (Jvm.Cond.selects "CashMachine" ({ cls := "CashMachine", name := "line", desc := "(I)I" } : Jvm.MethodName) ({ cls := "CashMachine", name := "line", desc := "(I)I" } : Jvm.MethodName)) ∈ ja_T := ja_g (ja_i3 (List.mem_of_getElem? (i := 76) rfl)) rfl
theorem jw_557 : (Jvm.Cond.code ({ cls := "CashMachine", name := "line", desc := "(I)I" } : Jvm.MethodName) prog_1_method_9_code (2 : Nat) (Option.some Jvm.ClassFile.FieldType.int)) ∈ ja_T := ja_g (ja_i3 (List.mem_of_getElem? (i := 77) rfl)) rfl
theorem jw_558 : (Jvm.Cond.methodLink "CashMachine" (137 : Nat) ({ cls := "CashMachine$Line", name := "add", desc := "(I)V" } : Jvm.MethodName)) ∈ ja_T := ja_g (ja_i3 (List.mem_of_getElem? (i := 78) rfl)) rfl
theorem jw_559 : (Jvm.Cond.instanceMethod ({ cls := "CashMachine$Line", name := "add", desc := "(I)V" } : Jvm.MethodName)) ∈ ja_T := ja_g (ja_i3 (List.mem_of_getElem? (i := 79) rfl)) rfl
theorem jw_560 : (Jvm.Cond.selects "CashMachine$Line" ({ cls := "CashMachine$Line", name := "add", desc := "(I)V" } : Jvm.MethodName) ({ cls := "CashMachine$Line", name := "add", desc := "(I)V" } : Jvm.MethodName)) ∈ ja_T := ja_g (ja_i3 (List.mem_of_getElem? (i := 80) rfl)) rfl
theorem jw_561 : (Jvm.Cond.code ({ cls := "CashMachine$Line", name := "add", desc := "(I)V" } : Jvm.MethodName) prog_8_method_2_code (2 : Nat) (Option.none : Option Jvm.ClassFile.FieldType)) ∈ ja_T := ja_g (ja_i3 (List.mem_of_getElem? (i := 81) rfl)) rfl
theorem jw_562 : (Jvm.Cond.methodLink "CashMachineLaw" (111 : Nat) ({ cls := "CashMachineLaw", name := "jam", desc := "(LCashMachine;I[J)I" } : Jvm.MethodName)) ∈ ja_T := ja_g (ja_i3 (List.mem_of_getElem? (i := 82) rfl)) rfl
theorem jw_563 : (Jvm.Cond.static ({ cls := "CashMachineLaw", name := "jam", desc := "(LCashMachine;I[J)I" } : Jvm.MethodName)) ∈ ja_T := ja_g (ja_i3 (List.mem_of_getElem? (i := 83) rfl)) rfl
theorem jw_564 : (Jvm.Cond.codeWith ({ cls := "CashMachineLaw", name := "jam", desc := "(LCashMachine;I[J)I" } : Jvm.MethodName) method_11_code (4 : Nat) (Option.some Jvm.ClassFile.FieldType.int) [((0 : Nat), (9 : Nat), (12 : Nat), (13 : Nat))]) ∈ ja_T := ja_g (ja_i3 (List.mem_of_getElem? (i := 84) rfl)) rfl
theorem jw_565 : (Jvm.Cond.methodLink "CashMachineLaw" (47 : Nat) ({ cls := "CashMachine", name := "jam", desc := "(I)I" } : Jvm.MethodName)) ∈ ja_T := ja_g (ja_i3 (List.mem_of_getElem? (i := 85) rfl)) rfl
theorem jw_566 : (Jvm.Cond.instanceMethod ({ cls := "CashMachine", name := "jam", desc := "(I)I" } : Jvm.MethodName)) ∈ ja_T := ja_g (ja_i3 (List.mem_of_getElem? (i := 86) rfl)) rfl
theorem jw_567 : (Jvm.Cond.selects "CashMachine" ({ cls := "CashMachine", name := "jam", desc := "(I)I" } : Jvm.MethodName) ({ cls := "CashMachine", name := "jam", desc := "(I)I" } : Jvm.MethodName)) ∈ ja_T := ja_g (ja_i3 (List.mem_of_getElem? (i := 87) rfl)) rfl
theorem jw_568 : (Jvm.Cond.code ({ cls := "CashMachine", name := "jam", desc := "(I)I" } : Jvm.MethodName) prog_1_method_10_code (2 : Nat) (Option.some Jvm.ClassFile.FieldType.int)) ∈ ja_T := ja_g (ja_i3 (List.mem_of_getElem? (i := 88) rfl)) rfl
theorem jw_569 : (Jvm.Cond.methodLink "CashMachineLaw" (114 : Nat) ({ cls := "CashMachineLaw", name := "power", desc := "(LCashMachine;I[J)I" } : Jvm.MethodName)) ∈ ja_T := ja_g (ja_i3 (List.mem_of_getElem? (i := 89) rfl)) rfl
theorem jw_570 : (Jvm.Cond.static ({ cls := "CashMachineLaw", name := "power", desc := "(LCashMachine;I[J)I" } : Jvm.MethodName)) ∈ ja_T := ja_g (ja_i3 (List.mem_of_getElem? (i := 90) rfl)) rfl
theorem jw_571 : (Jvm.Cond.codeWith ({ cls := "CashMachineLaw", name := "power", desc := "(LCashMachine;I[J)I" } : Jvm.MethodName) method_12_code (4 : Nat) (Option.some Jvm.ClassFile.FieldType.int) [((0 : Nat), (9 : Nat), (12 : Nat), (13 : Nat))]) ∈ ja_T := ja_g (ja_i3 (List.mem_of_getElem? (i := 91) rfl)) rfl
theorem jw_572 : (Jvm.Cond.methodLink "CashMachineLaw" (50 : Nat) ({ cls := "CashMachine", name := "power", desc := "(I)I" } : Jvm.MethodName)) ∈ ja_T := ja_g (ja_i3 (List.mem_of_getElem? (i := 92) rfl)) rfl
theorem jw_573 : (Jvm.Cond.instanceMethod ({ cls := "CashMachine", name := "power", desc := "(I)I" } : Jvm.MethodName)) ∈ ja_T := ja_g (ja_i3 (List.mem_of_getElem? (i := 93) rfl)) rfl
theorem jw_574 : (Jvm.Cond.selects "CashMachine" ({ cls := "CashMachine", name := "power", desc := "(I)I" } : Jvm.MethodName) ({ cls := "CashMachine", name := "power", desc := "(I)I" } : Jvm.MethodName)) ∈ ja_T := ja_g (ja_i3 (List.mem_of_getElem? (i := 94) rfl)) rfl
theorem jw_575 : (Jvm.Cond.code ({ cls := "CashMachine", name := "power", desc := "(I)I" } : Jvm.MethodName) prog_1_method_11_code (2 : Nat) (Option.some Jvm.ClassFile.FieldType.int)) ∈ ja_T := ja_g (ja_i3 (List.mem_of_getElem? (i := 95) rfl)) rfl
theorem jw_576 : (Jvm.Cond.methodLink "CashMachineLaw" (117 : Nat) ({ cls := "CashMachineLaw", name := "boot", desc := "(LCashMachine;[J)I" } : Jvm.MethodName)) ∈ ja_T := ja_g (ja_i3 (List.mem_of_getElem? (i := 96) rfl)) rfl
theorem jw_577 : (Jvm.Cond.static ({ cls := "CashMachineLaw", name := "boot", desc := "(LCashMachine;[J)I" } : Jvm.MethodName)) ∈ ja_T := ja_g (ja_i3 (List.mem_of_getElem? (i := 97) rfl)) rfl
theorem jw_578 : (Jvm.Cond.codeWith ({ cls := "CashMachineLaw", name := "boot", desc := "(LCashMachine;[J)I" } : Jvm.MethodName) method_13_code (3 : Nat) (Option.some Jvm.ClassFile.FieldType.int) [((0 : Nat), (8 : Nat), (11 : Nat), (15 : Nat))]) ∈ ja_T := ja_g (ja_i3 (List.mem_of_getElem? (i := 98) rfl)) rfl
theorem jw_579 : (Jvm.Cond.methodLink "CashMachineLaw" (53 : Nat) ({ cls := "CashMachine", name := "boot", desc := "()I" } : Jvm.MethodName)) ∈ ja_T := ja_g (ja_i3 (List.mem_of_getElem? (i := 99) rfl)) rfl
theorem jw_580 : (Jvm.Cond.instanceMethod ({ cls := "CashMachine", name := "boot", desc := "()I" } : Jvm.MethodName)) ∈ ja_T := ja_g (ja_i3 (List.mem_of_getElem? (i := 100) rfl)) rfl
theorem jw_581 : (Jvm.Cond.selects "CashMachine" ({ cls := "CashMachine", name := "boot", desc := "()I" } : Jvm.MethodName) ({ cls := "CashMachine", name := "boot", desc := "()I" } : Jvm.MethodName)) ∈ ja_T := ja_g (ja_i3 (List.mem_of_getElem? (i := 101) rfl)) rfl
theorem jw_582 : (Jvm.Cond.code ({ cls := "CashMachine", name := "boot", desc := "()I" } : Jvm.MethodName) prog_1_method_12_code (1 : Nat) (Option.some Jvm.ClassFile.FieldType.int)) ∈ ja_T := ja_g (ja_i3 (List.mem_of_getElem? (i := 102) rfl)) rfl
theorem jw_583 : (Jvm.Cond.methodLink "CashMachine" (144 : Nat) ({ cls := "CashMachine$Journal", name := "last", desc := "()LCashMachine$Entry;" } : Jvm.MethodName)) ∈ ja_T := ja_g (ja_i3 (List.mem_of_getElem? (i := 103) rfl)) rfl
theorem jw_584 : (Jvm.Cond.instanceMethod ({ cls := "CashMachine$Journal", name := "last", desc := "()LCashMachine$Entry;" } : Jvm.MethodName)) ∈ ja_T := ja_g (ja_i3 (List.mem_of_getElem? (i := 104) rfl)) rfl
theorem jw_585 : (Jvm.Cond.selects "CashMachine$Journal" ({ cls := "CashMachine$Journal", name := "last", desc := "()LCashMachine$Entry;" } : Jvm.MethodName) ({ cls := "CashMachine$Journal", name := "last", desc := "()LCashMachine$Entry;" } : Jvm.MethodName)) ∈ ja_T := ja_g (ja_i3 (List.mem_of_getElem? (i := 105) rfl)) rfl
theorem jw_586 : (Jvm.Cond.code ({ cls := "CashMachine$Journal", name := "last", desc := "()LCashMachine$Entry;" } : Jvm.MethodName) prog_7_method_3_code (1 : Nat) (Option.some (Jvm.ClassFile.FieldType.object "CashMachine$Entry"))) ∈ ja_T := ja_g (ja_i3 (List.mem_of_getElem? (i := 106) rfl)) rfl
theorem jw_587 : (Jvm.Cond.methodLink "CashMachine" (148 : Nat) ({ cls := "CashMachine", name := "recover", desc := "(LCashMachine$Entry;)V" } : Jvm.MethodName)) ∈ ja_T := ja_g (ja_i3 (List.mem_of_getElem? (i := 107) rfl)) rfl
theorem jv_588 : (Jvm.Cond.privateMethod ({ cls := "CashMachine", name := "recover", desc := "(LCashMachine$Entry;)V" } : Jvm.MethodName)) ∈ lw_tbl := ja_i3 (List.mem_of_getElem? (i := 108) rfl)
theorem jw_589 : (Jvm.Cond.instanceMethod ({ cls := "CashMachine", name := "recover", desc := "(LCashMachine$Entry;)V" } : Jvm.MethodName)) ∈ ja_T := ja_g (ja_i3 (List.mem_of_getElem? (i := 109) rfl)) rfl
theorem jw_590 : (Jvm.Cond.code ({ cls := "CashMachine", name := "recover", desc := "(LCashMachine$Entry;)V" } : Jvm.MethodName) prog_1_method_27_code (2 : Nat) (Option.none : Option Jvm.ClassFile.FieldType)) ∈ ja_T := ja_g (ja_i3 (List.mem_of_getElem? (i := 110) rfl)) rfl
theorem jw_591 : (Jvm.Cond.methodLink "CashMachine" (227 : Nat) ({ cls := "CashMachine$Dispenser", name := "presentedFor", desc := "(I)I" } : Jvm.MethodName)) ∈ ja_T := ja_g (ja_i3 (List.mem_of_getElem? (i := 111) rfl)) rfl
theorem jw_592 : (Jvm.Cond.instanceMethod ({ cls := "CashMachine$Dispenser", name := "presentedFor", desc := "(I)I" } : Jvm.MethodName)) ∈ ja_T := ja_g (ja_i3 (List.mem_of_getElem? (i := 112) rfl)) rfl
theorem jw_593 : (Jvm.Cond.selects "CashMachine$Dispenser" ({ cls := "CashMachine$Dispenser", name := "presentedFor", desc := "(I)I" } : Jvm.MethodName) ({ cls := "CashMachine$Dispenser", name := "presentedFor", desc := "(I)I" } : Jvm.MethodName)) ∈ ja_T := ja_g (ja_i3 (List.mem_of_getElem? (i := 113) rfl)) rfl
theorem jw_594 : (Jvm.Cond.code ({ cls := "CashMachine$Dispenser", name := "presentedFor", desc := "(I)I" } : Jvm.MethodName) prog_4_method_6_code (2 : Nat) (Option.some Jvm.ClassFile.FieldType.int)) ∈ ja_T := ja_g (ja_i3 (List.mem_of_getElem? (i := 114) rfl)) rfl
theorem jw_595 : (Jvm.Cond.methodLink "CashMachineLaw" (120 : Nat) ({ cls := "CashMachineLaw", name := "settle", desc := "(LCashMachine;[J)I" } : Jvm.MethodName)) ∈ ja_T := ja_g (ja_i3 (List.mem_of_getElem? (i := 115) rfl)) rfl
theorem jw_596 : (Jvm.Cond.static ({ cls := "CashMachineLaw", name := "settle", desc := "(LCashMachine;[J)I" } : Jvm.MethodName)) ∈ ja_T := ja_g (ja_i3 (List.mem_of_getElem? (i := 116) rfl)) rfl
theorem jw_597 : (Jvm.Cond.codeWith ({ cls := "CashMachineLaw", name := "settle", desc := "(LCashMachine;[J)I" } : Jvm.MethodName) method_14_code (3 : Nat) (Option.some Jvm.ClassFile.FieldType.int) [((0 : Nat), (8 : Nat), (11 : Nat), (15 : Nat))]) ∈ ja_T := ja_g (ja_i3 (List.mem_of_getElem? (i := 117) rfl)) rfl
theorem jw_598 : (Jvm.Cond.methodLink "CashMachineLaw" (56 : Nat) ({ cls := "CashMachine", name := "settle", desc := "()I" } : Jvm.MethodName)) ∈ ja_T := ja_g (ja_i3 (List.mem_of_getElem? (i := 118) rfl)) rfl
theorem jw_599 : (Jvm.Cond.instanceMethod ({ cls := "CashMachine", name := "settle", desc := "()I" } : Jvm.MethodName)) ∈ ja_T := ja_g (ja_i3 (List.mem_of_getElem? (i := 119) rfl)) rfl
theorem jw_600 : (Jvm.Cond.selects "CashMachine" ({ cls := "CashMachine", name := "settle", desc := "()I" } : Jvm.MethodName) ({ cls := "CashMachine", name := "settle", desc := "()I" } : Jvm.MethodName)) ∈ ja_T := ja_g (ja_i3 (List.mem_of_getElem? (i := 120) rfl)) rfl
theorem jw_601 : (Jvm.Cond.code ({ cls := "CashMachine", name := "settle", desc := "()I" } : Jvm.MethodName) prog_1_method_13_code (2 : Nat) (Option.some Jvm.ClassFile.FieldType.int)) ∈ ja_T := ja_g (ja_i3 (List.mem_of_getElem? (i := 121) rfl)) rfl
theorem jw_602 : (Jvm.Cond.methodLink "CashMachine" (153 : Nat) ({ cls := "CashMachine", name := "exchangeReversal", desc := "(I)Z" } : Jvm.MethodName)) ∈ ja_T := ja_g (ja_i3 (List.mem_of_getElem? (i := 122) rfl)) rfl
theorem jv_603 : (Jvm.Cond.privateMethod ({ cls := "CashMachine", name := "exchangeReversal", desc := "(I)Z" } : Jvm.MethodName)) ∈ lw_tbl := ja_i3 (List.mem_of_getElem? (i := 123) rfl)
theorem jw_604 : (Jvm.Cond.instanceMethod ({ cls := "CashMachine", name := "exchangeReversal", desc := "(I)Z" } : Jvm.MethodName)) ∈ ja_T := ja_g (ja_i3 (List.mem_of_getElem? (i := 124) rfl)) rfl
theorem jw_605 : (Jvm.Cond.code ({ cls := "CashMachine", name := "exchangeReversal", desc := "(I)Z" } : Jvm.MethodName) prog_1_method_29_code (3 : Nat) (Option.some Jvm.ClassFile.FieldType.boolean)) ∈ ja_T := ja_g (ja_i3 (List.mem_of_getElem? (i := 125) rfl)) rfl
theorem jw_606 : (Jvm.Cond.methodLink "CashMachine" (239 : Nat) ({ cls := "CashMachine$Host", name := "receiveReversal", desc := "(II)V" } : Jvm.MethodName)) ∈ ja_T := ja_g (ja_i3 (List.mem_of_getElem? (i := 126) rfl)) rfl
theorem jw_607 : (Jvm.Cond.instanceMethod ({ cls := "CashMachine$Host", name := "receiveReversal", desc := "(II)V" } : Jvm.MethodName)) ∈ ja_T := ja_g (ja_i3 (List.mem_of_getElem? (i := 127) rfl)) rfl
theorem jw_608 : (Jvm.Cond.selects "CashMachine$Host" ({ cls := "CashMachine$Host", name := "receiveReversal", desc := "(II)V" } : Jvm.MethodName) ({ cls := "CashMachine$Host", name := "receiveReversal", desc := "(II)V" } : Jvm.MethodName)) ∈ ja_T := ja_g (ja_i3 (List.mem_of_getElem? (i := 128) rfl)) rfl
theorem jw_609 : (Jvm.Cond.code ({ cls := "CashMachine$Host", name := "receiveReversal", desc := "(II)V" } : Jvm.MethodName) prog_6_method_6_code (3 : Nat) (Option.none : Option Jvm.ClassFile.FieldType)) ∈ ja_T := ja_g (ja_i3 (List.mem_of_getElem? (i := 129) rfl)) rfl
theorem jw_610 : (Jvm.Cond.methodLink "CashMachine" (156 : Nat) ({ cls := "CashMachine$Reversals", name := "dropFirst", desc := "(I)V" } : Jvm.MethodName)) ∈ ja_T := ja_g (ja_i3 (List.mem_of_getElem? (i := 130) rfl)) rfl
theorem jw_611 : (Jvm.Cond.instanceMethod ({ cls := "CashMachine$Reversals", name := "dropFirst", desc := "(I)V" } : Jvm.MethodName)) ∈ ja_T := ja_g (ja_i3 (List.mem_of_getElem? (i := 131) rfl)) rfl
theorem jw_612 : (Jvm.Cond.selects "CashMachine$Reversals" ({ cls := "CashMachine$Reversals", name := "dropFirst", desc := "(I)V" } : Jvm.MethodName) ({ cls := "CashMachine$Reversals", name := "dropFirst", desc := "(I)V" } : Jvm.MethodName)) ∈ ja_T := ja_g (ja_i3 (List.mem_of_getElem? (i := 132) rfl)) rfl
theorem jw_613 : (Jvm.Cond.code ({ cls := "CashMachine$Reversals", name := "dropFirst", desc := "(I)V" } : Jvm.MethodName) prog_10_method_3_code (2 : Nat) (Option.none : Option Jvm.ClassFile.FieldType)) ∈ ja_T := ja_g (ja_i3 (List.mem_of_getElem? (i := 133) rfl)) rfl
theorem jw_614 : (Jvm.Cond.methodLink "CashMachine$Reversals" (22 : Nat) ({ cls := "java/lang/System", name := "arraycopy", desc := "(Ljava/lang/Object;ILjava/lang/Object;II)V" } : Jvm.MethodName)) ∈ ja_T := ja_g (ja_i3 (List.mem_of_getElem? (i := 134) rfl)) rfl
theorem jw_615 : (Jvm.Cond.methodLink "CashMachineLaw" (123 : Nat) ({ cls := "CashMachineLaw", name := "balance", desc := "(LCashMachine;I[J)I" } : Jvm.MethodName)) ∈ ja_T := ja_g (ja_i3 (List.mem_of_getElem? (i := 135) rfl)) rfl
theorem jw_616 : (Jvm.Cond.static ({ cls := "CashMachineLaw", name := "balance", desc := "(LCashMachine;I[J)I" } : Jvm.MethodName)) ∈ ja_T := ja_g (ja_i3 (List.mem_of_getElem? (i := 136) rfl)) rfl
theorem jw_617 : (Jvm.Cond.codeWith ({ cls := "CashMachineLaw", name := "balance", desc := "(LCashMachine;I[J)I" } : Jvm.MethodName) method_15_code (4 : Nat) (Option.some Jvm.ClassFile.FieldType.int) [((0 : Nat), (9 : Nat), (12 : Nat), (24 : Nat))]) ∈ ja_T := ja_g (ja_i3 (List.mem_of_getElem? (i := 137) rfl)) rfl
theorem jw_618 : (Jvm.Cond.methodLink "CashMachineLaw" (59 : Nat) ({ cls := "CashMachine", name := "balance", desc := "(I)I" } : Jvm.MethodName)) ∈ ja_T := ja_g (ja_i3 (List.mem_of_getElem? (i := 138) rfl)) rfl
theorem jw_619 : (Jvm.Cond.instanceMethod ({ cls := "CashMachine", name := "balance", desc := "(I)I" } : Jvm.MethodName)) ∈ ja_T := ja_g (ja_i3 (List.mem_of_getElem? (i := 139) rfl)) rfl
theorem jw_620 : (Jvm.Cond.selects "CashMachine" ({ cls := "CashMachine", name := "balance", desc := "(I)I" } : Jvm.MethodName) ({ cls := "CashMachine", name := "balance", desc := "(I)I" } : Jvm.MethodName)) ∈ ja_T := ja_g (ja_i3 (List.mem_of_getElem? (i := 140) rfl)) rfl
theorem jw_621 : (Jvm.Cond.code ({ cls := "CashMachine", name := "balance", desc := "(I)I" } : Jvm.MethodName) prog_1_method_14_code (2 : Nat) (Option.some Jvm.ClassFile.FieldType.int)) ∈ ja_T := ja_g (ja_i3 (List.mem_of_getElem? (i := 141) rfl)) rfl
theorem jw_622 : (Jvm.Cond.methodLink "CashMachineLaw" (126 : Nat) ({ cls := "CashMachineLaw", name := "trace", desc := "(LCashMachine;II[J)I" } : Jvm.MethodName)) ∈ ja_T := ja_g (ja_i3 (List.mem_of_getElem? (i := 142) rfl)) rfl
theorem jw_623 : (Jvm.Cond.static ({ cls := "CashMachineLaw", name := "trace", desc := "(LCashMachine;II[J)I" } : Jvm.MethodName)) ∈ ja_T := ja_g (ja_i3 (List.mem_of_getElem? (i := 143) rfl)) rfl
theorem jw_624 : (Jvm.Cond.codeWith ({ cls := "CashMachineLaw", name := "trace", desc := "(LCashMachine;II[J)I" } : Jvm.MethodName) method_16_code (5 : Nat) (Option.some Jvm.ClassFile.FieldType.int) [((0 : Nat), (10 : Nat), (13 : Nat), (24 : Nat)), ((0 : Nat), (10 : Nat), (17 : Nat), (13 : Nat))]) ∈ ja_T := ja_g (ja_i3 (List.mem_of_getElem? (i := 144) rfl)) rfl
theorem jw_625 : (Jvm.Cond.methodLink "CashMachineLaw" (62 : Nat) ({ cls := "CashMachine", name := "trace", desc := "(II)I" } : Jvm.MethodName)) ∈ ja_T := ja_g (ja_i3 (List.mem_of_getElem? (i := 145) rfl)) rfl
theorem jw_626 : (Jvm.Cond.instanceMethod ({ cls := "CashMachine", name := "trace", desc := "(II)I" } : Jvm.MethodName)) ∈ ja_T := ja_g (ja_i3 (List.mem_of_getElem? (i := 146) rfl)) rfl
theorem jw_627 : (Jvm.Cond.selects "CashMachine" ({ cls := "CashMachine", name := "trace", desc := "(II)I" } : Jvm.MethodName) ({ cls := "CashMachine", name := "trace", desc := "(II)I" } : Jvm.MethodName)) ∈ ja_T := ja_g (ja_i3 (List.mem_of_getElem? (i := 147) rfl)) rfl
theorem jw_628 : (Jvm.Cond.code ({ cls := "CashMachine", name := "trace", desc := "(II)I" } : Jvm.MethodName) prog_1_method_15_code (4 : Nat) (Option.some Jvm.ClassFile.FieldType.int)) ∈ ja_T := ja_g (ja_i3 (List.mem_of_getElem? (i := 148) rfl)) rfl
theorem jw_629 : (Jvm.Cond.methodLink "CashMachineLaw" (129 : Nat) ({ cls := "CashMachineLaw", name := "reversal", desc := "(LCashMachine;I[J)I" } : Jvm.MethodName)) ∈ ja_T := ja_g (ja_i3 (List.mem_of_getElem? (i := 149) rfl)) rfl
theorem jw_630 : (Jvm.Cond.static ({ cls := "CashMachineLaw", name := "reversal", desc := "(LCashMachine;I[J)I" } : Jvm.MethodName)) ∈ ja_T := ja_g (ja_i3 (List.mem_of_getElem? (i := 150) rfl)) rfl
theorem jw_631 : (Jvm.Cond.codeWith ({ cls := "CashMachineLaw", name := "reversal", desc := "(LCashMachine;I[J)I" } : Jvm.MethodName) method_17_code (4 : Nat) (Option.some Jvm.ClassFile.FieldType.int) [((0 : Nat), (9 : Nat), (12 : Nat), (24 : Nat))]) ∈ ja_T := ja_g (ja_i3 (List.mem_of_getElem? (i := 151) rfl)) rfl
theorem jw_632 : (Jvm.Cond.methodLink "CashMachineLaw" (65 : Nat) ({ cls := "CashMachine", name := "reversal", desc := "(I)I" } : Jvm.MethodName)) ∈ ja_T := ja_g (ja_i3 (List.mem_of_getElem? (i := 152) rfl)) rfl
theorem jw_633 : (Jvm.Cond.instanceMethod ({ cls := "CashMachine", name := "reversal", desc := "(I)I" } : Jvm.MethodName)) ∈ ja_T := ja_g (ja_i3 (List.mem_of_getElem? (i := 153) rfl)) rfl
theorem jw_634 : (Jvm.Cond.selects "CashMachine" ({ cls := "CashMachine", name := "reversal", desc := "(I)I" } : Jvm.MethodName) ({ cls := "CashMachine", name := "reversal", desc := "(I)I" } : Jvm.MethodName)) ∈ ja_T := ja_g (ja_i3 (List.mem_of_getElem? (i := 154) rfl)) rfl
theorem jw_635 : (Jvm.Cond.code ({ cls := "CashMachine", name := "reversal", desc := "(I)I" } : Jvm.MethodName) prog_1_method_16_code (2 : Nat) (Option.some Jvm.ClassFile.FieldType.int)) ∈ ja_T := ja_g (ja_i3 (List.mem_of_getElem? (i := 155) rfl)) rfl
theorem jw_636 : (Jvm.Cond.methodLink "CashMachineLaw" (132 : Nat) ({ cls := "CashMachineLaw", name := "notes", desc := "(LCashMachine;I[J)I" } : Jvm.MethodName)) ∈ ja_T := ja_g (ja_i3 (List.mem_of_getElem? (i := 156) rfl)) rfl
theorem jw_637 : (Jvm.Cond.static ({ cls := "CashMachineLaw", name := "notes", desc := "(LCashMachine;I[J)I" } : Jvm.MethodName)) ∈ ja_T := ja_g (ja_i3 (List.mem_of_getElem? (i := 157) rfl)) rfl
theorem jw_638 : (Jvm.Cond.codeWith ({ cls := "CashMachineLaw", name := "notes", desc := "(LCashMachine;I[J)I" } : Jvm.MethodName) method_18_code (4 : Nat) (Option.some Jvm.ClassFile.FieldType.int) [((0 : Nat), (9 : Nat), (12 : Nat), (13 : Nat))]) ∈ ja_T := ja_g (ja_i3 (List.mem_of_getElem? (i := 158) rfl)) rfl
theorem jw_639 : (Jvm.Cond.methodLink "CashMachineLaw" (68 : Nat) ({ cls := "CashMachine", name := "notes", desc := "(I)I" } : Jvm.MethodName)) ∈ ja_T := ja_g (ja_i3 (List.mem_of_getElem? (i := 159) rfl)) rfl
theorem jw_640 : (Jvm.Cond.instanceMethod ({ cls := "CashMachine", name := "notes", desc := "(I)I" } : Jvm.MethodName)) ∈ ja_T := ja_g (ja_i3 (List.mem_of_getElem? (i := 160) rfl)) rfl
theorem jw_641 : (Jvm.Cond.selects "CashMachine" ({ cls := "CashMachine", name := "notes", desc := "(I)I" } : Jvm.MethodName) ({ cls := "CashMachine", name := "notes", desc := "(I)I" } : Jvm.MethodName)) ∈ ja_T := ja_g (ja_i3 (List.mem_of_getElem? (i := 161) rfl)) rfl
theorem jw_642 : (Jvm.Cond.code ({ cls := "CashMachine", name := "notes", desc := "(I)I" } : Jvm.MethodName) prog_1_method_17_code (2 : Nat) (Option.some Jvm.ClassFile.FieldType.int)) ∈ ja_T := ja_g (ja_i3 (List.mem_of_getElem? (i := 162) rfl)) rfl
theorem jw_643 : (Jvm.Cond.methodLink "CashMachineLaw" (139 : Nat) ({ cls := "CashMachineLaw", name := "count", desc := "(LCashMachine;I[J)I" } : Jvm.MethodName)) ∈ ja_T := ja_g (ja_i3 (List.mem_of_getElem? (i := 163) rfl)) rfl
theorem jw_644 : (Jvm.Cond.static ({ cls := "CashMachineLaw", name := "count", desc := "(LCashMachine;I[J)I" } : Jvm.MethodName)) ∈ ja_T := ja_g (ja_i3 (List.mem_of_getElem? (i := 164) rfl)) rfl
theorem jw_645 : (Jvm.Cond.codeWith ({ cls := "CashMachineLaw", name := "count", desc := "(LCashMachine;I[J)I" } : Jvm.MethodName) method_19_code (4 : Nat) (Option.some Jvm.ClassFile.FieldType.int) [((0 : Nat), (9 : Nat), (12 : Nat), (13 : Nat))]) ∈ ja_T := ja_g (ja_i3 (List.mem_of_getElem? (i := 165) rfl)) rfl
theorem jw_646 : (Jvm.Cond.methodLink "CashMachineLaw" (71 : Nat) ({ cls := "CashMachine", name := "count", desc := "(I)I" } : Jvm.MethodName)) ∈ ja_T := ja_g (ja_i3 (List.mem_of_getElem? (i := 166) rfl)) rfl
theorem jw_647 : (Jvm.Cond.instanceMethod ({ cls := "CashMachine", name := "count", desc := "(I)I" } : Jvm.MethodName)) ∈ ja_T := ja_g (ja_i3 (List.mem_of_getElem? (i := 167) rfl)) rfl
theorem jw_648 : (Jvm.Cond.selects "CashMachine" ({ cls := "CashMachine", name := "count", desc := "(I)I" } : Jvm.MethodName) ({ cls := "CashMachine", name := "count", desc := "(I)I" } : Jvm.MethodName)) ∈ ja_T := ja_g (ja_i3 (List.mem_of_getElem? (i := 168) rfl)) rfl
theorem jw_649 : (Jvm.Cond.code ({ cls := "CashMachine", name := "count", desc := "(I)I" } : Jvm.MethodName) prog_1_method_19_code (2 : Nat) (Option.some Jvm.ClassFile.FieldType.int)) ∈ ja_T := ja_g (ja_i3 (List.mem_of_getElem? (i := 169) rfl)) rfl
theorem jw_650 : (Jvm.Cond.methodLink "CashMachine" (198 : Nat) ({ cls := "CashMachine$Host", name := "blockedAccounts", desc := "()I" } : Jvm.MethodName)) ∈ ja_T := ja_g (ja_i3 (List.mem_of_getElem? (i := 170) rfl)) rfl
theorem jw_651 : (Jvm.Cond.instanceMethod ({ cls := "CashMachine$Host", name := "blockedAccounts", desc := "()I" } : Jvm.MethodName)) ∈ ja_T := ja_g (ja_i3 (List.mem_of_getElem? (i := 171) rfl)) rfl
theorem jw_652 : (Jvm.Cond.selects "CashMachine$Host" ({ cls := "CashMachine$Host", name := "blockedAccounts", desc := "()I" } : Jvm.MethodName) ({ cls := "CashMachine$Host", name := "blockedAccounts", desc := "()I" } : Jvm.MethodName)) ∈ ja_T := ja_g (ja_i3 (List.mem_of_getElem? (i := 172) rfl)) rfl
theorem jw_653 : (Jvm.Cond.code ({ cls := "CashMachine$Host", name := "blockedAccounts", desc := "()I" } : Jvm.MethodName) prog_6_method_8_code (6 : Nat) (Option.some Jvm.ClassFile.FieldType.int)) ∈ ja_T := ja_g (ja_i3 (List.mem_of_getElem? (i := 173) rfl)) rfl
theorem jw_654 : (Jvm.Cond.classLink "CashMachineLaw" (75 : Nat) "CashMachineModel") ∈ ja_T := ja_g (ja_i3 (List.mem_of_getElem? (i := 174) rfl)) rfl
theorem jw_655 : (Jvm.Cond.instantiable "CashMachineModel" (30 : Nat)) ∈ ja_T := ja_g (ja_i3 (List.mem_of_getElem? (i := 175) rfl)) rfl
theorem jw_656 : (Jvm.Cond.methodLink "CashMachineLaw" (77 : Nat) ({ cls := "CashMachineModel", name := "<init>", desc := "()V" } : Jvm.MethodName)) ∈ ja_T := ja_g (ja_i3 (List.mem_of_getElem? (i := 176) rfl)) rfl
theorem jw_657 : (Jvm.Cond.instanceMethod ({ cls := "CashMachineModel", name := "<init>", desc := "()V" } : Jvm.MethodName)) ∈ ja_T := ja_g (ja_i3 (List.mem_of_getElem? (i := 177) rfl)) rfl
theorem jw_658 : (Jvm.Cond.code ({ cls := "CashMachineModel", name := "<init>", desc := "()V" } : Jvm.MethodName) prog_12_method_1_code (1 : Nat) (Option.none : Option Jvm.ClassFile.FieldType)) ∈ ja_T := ja_g (ja_i3 (List.mem_of_getElem? (i := 178) rfl)) rfl
theorem jw_659 : (Jvm.Cond.methodLink "CashMachineModel" (1 : Nat) ({ cls := "java/lang/Object", name := "<init>", desc := "()V" } : Jvm.MethodName)) ∈ ja_T := ja_g (ja_i3 (List.mem_of_getElem? (i := 179) rfl)) rfl
theorem jw_660 : (Jvm.Cond.fieldLink "CashMachineModel" (72 : Nat) "CashMachineModel" "thrown" "I") ∈ ja_T := ja_g (ja_i3 (List.mem_of_getElem? (i := 180) rfl)) rfl
theorem jw_661 : (Jvm.Cond.fieldLink "CashMachineModel" (7 : Nat) "CashMachineModel" "opened" "[Z") ∈ ja_T := ja_g (ja_i3 (List.mem_of_getElem? (i := 181) rfl)) rfl
theorem jw_662 : (Jvm.Cond.fieldLink "CashMachineModel" (13 : Nat) "CashMachineModel" "pins" "[I") ∈ ja_T := ja_g (ja_i3 (List.mem_of_getElem? (i := 182) rfl)) rfl
theorem jw_663 : (Jvm.Cond.fieldLink "CashMachineModel" (17 : Nat) "CashMachineModel" "first" "[I") ∈ ja_T := ja_g (ja_i3 (List.mem_of_getElem? (i := 183) rfl)) rfl
theorem jw_664 : (Jvm.Cond.fieldLink "CashMachineModel" (20 : Nat) "CashMachineModel" "balances" "[I") ∈ ja_T := ja_g (ja_i3 (List.mem_of_getElem? (i := 184) rfl)) rfl
theorem jw_665 : (Jvm.Cond.fieldLink "CashMachineModel" (23 : Nat) "CashMachineModel" "tries" "[I") ∈ ja_T := ja_g (ja_i3 (List.mem_of_getElem? (i := 185) rfl)) rfl
theorem jw_666 : (Jvm.Cond.fieldLink "CashMachineModel" (26 : Nat) "CashMachineModel" "blocked" "[Z") ∈ ja_T := ja_g (ja_i3 (List.mem_of_getElem? (i := 186) rfl)) rfl
theorem jw_667 : (Jvm.Cond.fieldLink "CashMachineModel" (29 : Nat) "CashMachineModel" "values" "[I") ∈ ja_T := ja_g (ja_i3 (List.mem_of_getElem? (i := 187) rfl)) rfl
theorem jw_668 : (Jvm.Cond.fieldLink "CashMachineModel" (32 : Nat) "CashMachineModel" "counts" "[I") ∈ ja_T := ja_g (ja_i3 (List.mem_of_getElem? (i := 188) rfl)) rfl
theorem jw_669 : (Jvm.Cond.fieldLink "CashMachineModel" (35 : Nat) "CashMachineModel" "best" "[I") ∈ ja_T := ja_g (ja_i3 (List.mem_of_getElem? (i := 189) rfl)) rfl
theorem jw_670 : (Jvm.Cond.fieldLink "CashMachineModel" (84 : Nat) "CashMachineModel" "down" "Z") ∈ ja_T := ja_g (ja_i3 (List.mem_of_getElem? (i := 190) rfl)) rfl
theorem jw_671 : (Jvm.Cond.fieldLink "CashMachineModel" (38 : Nat) "CashMachineModel" "session" "I") ∈ ja_T := ja_g (ja_i3 (List.mem_of_getElem? (i := 191) rfl)) rfl
theorem jw_672 : (Jvm.Cond.fieldLink "CashMachineModel" (88 : Nat) "CashMachineModel" "verified" "Z") ∈ ja_T := ja_g (ja_i3 (List.mem_of_getElem? (i := 192) rfl)) rfl
theorem jw_673 : (Jvm.Cond.fieldLink "CashMachineModel" (42 : Nat) "CashMachineModel" "state" "[I") ∈ ja_T := ja_g (ja_i3 (List.mem_of_getElem? (i := 193) rfl)) rfl
theorem jw_674 : (Jvm.Cond.fieldLink "CashMachineModel" (45 : Nat) "CashMachineModel" "account" "[I") ∈ ja_T := ja_g (ja_i3 (List.mem_of_getElem? (i := 194) rfl)) rfl
theorem jw_675 : (Jvm.Cond.fieldLink "CashMachineModel" (48 : Nat) "CashMachineModel" "amount" "[I") ∈ ja_T := ja_g (ja_i3 (List.mem_of_getElem? (i := 195) rfl)) rfl
theorem jw_676 : (Jvm.Cond.fieldLink "CashMachineModel" (51 : Nat) "CashMachineModel" "presented" "[I") ∈ ja_T := ja_g (ja_i3 (List.mem_of_getElem? (i := 196) rfl)) rfl
theorem jw_677 : (Jvm.Cond.fieldLink "CashMachineModel" (54 : Nat) "CashMachineModel" "known" "[I") ∈ ja_T := ja_g (ja_i3 (List.mem_of_getElem? (i := 197) rfl)) rfl
theorem jw_678 : (Jvm.Cond.fieldLink "CashMachineModel" (57 : Nat) "CashMachineModel" "reversed" "[Z") ∈ ja_T := ja_g (ja_i3 (List.mem_of_getElem? (i := 198) rfl)) rfl
theorem jw_679 : (Jvm.Cond.fieldLink "CashMachineModel" (149 : Nat) "CashMachineModel" "traces" "I") ∈ ja_T := ja_g (ja_i3 (List.mem_of_getElem? (i := 199) rfl)) rfl
theorem jw_680 : (Jvm.Cond.fieldLink "CashMachineModel" (60 : Nat) "CashMachineModel" "pendingTrace" "[I") ∈ ja_T := ja_g (ja_i3 (List.mem_of_getElem? (i := 200) rfl)) rfl
theorem jw_681 : (Jvm.Cond.fieldLink "CashMachineModel" (63 : Nat) "CashMachineModel" "pendingAmount" "[I") ∈ ja_T := ja_g (ja_i3 (List.mem_of_getElem? (i := 201) rfl)) rfl
theorem jw_682 : (Jvm.Cond.fieldLink "CashMachineModel" (106 : Nat) "CashMachineModel" "pending" "I") ∈ ja_T := ja_g (ja_i3 (List.mem_of_getElem? (i := 202) rfl)) rfl
theorem jw_683 : (Jvm.Cond.fieldLink "CashMachineModel" (66 : Nat) "CashMachineModel" "fates" "[I") ∈ ja_T := ja_g (ja_i3 (List.mem_of_getElem? (i := 203) rfl)) rfl
theorem jw_684 : (Jvm.Cond.fieldLink "CashMachineModel" (103 : Nat) "CashMachineModel" "coming" "I") ∈ ja_T := ja_g (ja_i3 (List.mem_of_getElem? (i := 204) rfl)) rfl
theorem jw_685 : (Jvm.Cond.fieldLink "CashMachineModel" (69 : Nat) "CashMachineModel" "jam" "I") ∈ ja_T := ja_g (ja_i3 (List.mem_of_getElem? (i := 205) rfl)) rfl
theorem jw_686 : (Jvm.Cond.fieldLink "CashMachineModel" (109 : Nat) "CashMachineModel" "power" "I") ∈ ja_T := ja_g (ja_i3 (List.mem_of_getElem? (i := 206) rfl)) rfl
theorem jw_687 : (Jvm.Cond.fieldLink "CashMachineModel" (115 : Nat) "CashMachineModel" "paidTrace" "I") ∈ ja_T := ja_g (ja_i3 (List.mem_of_getElem? (i := 207) rfl)) rfl
theorem jw_688 : (Jvm.Cond.fieldLink "CashMachineModel" (118 : Nat) "CashMachineModel" "paidValue" "I") ∈ ja_T := ja_g (ja_i3 (List.mem_of_getElem? (i := 208) rfl)) rfl
theorem jw_689 : (Jvm.Cond.fieldLink "CashMachineModel" (121 : Nat) "CashMachineModel" "paidAll" "I") ∈ ja_T := ja_g (ja_i3 (List.mem_of_getElem? (i := 209) rfl)) rfl
theorem jw_690 : (Jvm.Cond.lays "CashMachineModel" "CashMachineModel" "thrown" "I") ∈ ja_T := ja_g (ja_i3 (List.mem_of_getElem? (i := 210) rfl)) rfl
theorem jw_691 : (Jvm.Cond.soleField "CashMachineModel" "thrown") ∈ ja_T := ja_g (ja_i3 (List.mem_of_getElem? (i := 211) rfl)) rfl
theorem jw_692 : (Jvm.Cond.laysFinal "CashMachineModel" "CashMachineModel" "opened" "[Z") ∈ ja_T := ja_g (ja_i3 (List.mem_of_getElem? (i := 212) rfl)) rfl
theorem jw_693 : (Jvm.Cond.soleField "CashMachineModel" "opened") ∈ ja_T := ja_g (ja_i3 (List.mem_of_getElem? (i := 213) rfl)) rfl
theorem jw_694 : (Jvm.Cond.laysFinal "CashMachineModel" "CashMachineModel" "pins" "[I") ∈ ja_T := ja_g (ja_i3 (List.mem_of_getElem? (i := 214) rfl)) rfl
theorem jw_695 : (Jvm.Cond.soleField "CashMachineModel" "pins") ∈ ja_T := ja_g (ja_i3 (List.mem_of_getElem? (i := 215) rfl)) rfl
theorem jw_696 : (Jvm.Cond.laysFinal "CashMachineModel" "CashMachineModel" "first" "[I") ∈ ja_T := ja_g (ja_i3 (List.mem_of_getElem? (i := 216) rfl)) rfl
theorem jw_697 : (Jvm.Cond.soleField "CashMachineModel" "first") ∈ ja_T := ja_g (ja_i3 (List.mem_of_getElem? (i := 217) rfl)) rfl
theorem jw_698 : (Jvm.Cond.laysFinal "CashMachineModel" "CashMachineModel" "balances" "[I") ∈ ja_T := ja_g (ja_i3 (List.mem_of_getElem? (i := 218) rfl)) rfl
theorem jw_699 : (Jvm.Cond.soleField "CashMachineModel" "balances") ∈ ja_T := ja_g (ja_i3 (List.mem_of_getElem? (i := 219) rfl)) rfl
theorem jw_700 : (Jvm.Cond.laysFinal "CashMachineModel" "CashMachineModel" "tries" "[I") ∈ ja_T := ja_g (ja_i3 (List.mem_of_getElem? (i := 220) rfl)) rfl
theorem jw_701 : (Jvm.Cond.soleField "CashMachineModel" "tries") ∈ ja_T := ja_g (ja_i3 (List.mem_of_getElem? (i := 221) rfl)) rfl
theorem jw_702 : (Jvm.Cond.laysFinal "CashMachineModel" "CashMachineModel" "blocked" "[Z") ∈ ja_T := ja_g (ja_i3 (List.mem_of_getElem? (i := 222) rfl)) rfl
theorem jw_703 : (Jvm.Cond.soleField "CashMachineModel" "blocked") ∈ ja_T := ja_g (ja_i3 (List.mem_of_getElem? (i := 223) rfl)) rfl
theorem jw_704 : (Jvm.Cond.laysFinal "CashMachineModel" "CashMachineModel" "values" "[I") ∈ ja_T := ja_g (ja_i3 (List.mem_of_getElem? (i := 224) rfl)) rfl
theorem jw_705 : (Jvm.Cond.soleField "CashMachineModel" "values") ∈ ja_T := ja_g (ja_i3 (List.mem_of_getElem? (i := 225) rfl)) rfl
theorem jw_706 : (Jvm.Cond.laysFinal "CashMachineModel" "CashMachineModel" "counts" "[I") ∈ ja_T := ja_g (ja_i3 (List.mem_of_getElem? (i := 226) rfl)) rfl
theorem jw_707 : (Jvm.Cond.soleField "CashMachineModel" "counts") ∈ ja_T := ja_g (ja_i3 (List.mem_of_getElem? (i := 227) rfl)) rfl
theorem jw_708 : (Jvm.Cond.laysFinal "CashMachineModel" "CashMachineModel" "best" "[I") ∈ ja_T := ja_g (ja_i3 (List.mem_of_getElem? (i := 228) rfl)) rfl
theorem jw_709 : (Jvm.Cond.soleField "CashMachineModel" "best") ∈ ja_T := ja_g (ja_i3 (List.mem_of_getElem? (i := 229) rfl)) rfl
theorem jw_710 : (Jvm.Cond.lays "CashMachineModel" "CashMachineModel" "down" "Z") ∈ ja_T := ja_g (ja_i3 (List.mem_of_getElem? (i := 230) rfl)) rfl
theorem jw_711 : (Jvm.Cond.soleField "CashMachineModel" "down") ∈ ja_T := ja_g (ja_i3 (List.mem_of_getElem? (i := 231) rfl)) rfl
theorem jw_712 : (Jvm.Cond.lays "CashMachineModel" "CashMachineModel" "session" "I") ∈ ja_T := ja_g (ja_i3 (List.mem_of_getElem? (i := 232) rfl)) rfl
theorem jw_713 : (Jvm.Cond.soleField "CashMachineModel" "session") ∈ ja_T := ja_g (ja_i3 (List.mem_of_getElem? (i := 233) rfl)) rfl
theorem jw_714 : (Jvm.Cond.lays "CashMachineModel" "CashMachineModel" "verified" "Z") ∈ ja_T := ja_g (ja_i3 (List.mem_of_getElem? (i := 234) rfl)) rfl
theorem jw_715 : (Jvm.Cond.soleField "CashMachineModel" "verified") ∈ ja_T := ja_g (ja_i3 (List.mem_of_getElem? (i := 235) rfl)) rfl
theorem jw_716 : (Jvm.Cond.laysFinal "CashMachineModel" "CashMachineModel" "state" "[I") ∈ ja_T := ja_g (ja_i3 (List.mem_of_getElem? (i := 236) rfl)) rfl
theorem jw_717 : (Jvm.Cond.soleField "CashMachineModel" "state") ∈ ja_T := ja_g (ja_i3 (List.mem_of_getElem? (i := 237) rfl)) rfl
theorem jw_718 : (Jvm.Cond.laysFinal "CashMachineModel" "CashMachineModel" "account" "[I") ∈ ja_T := ja_g (ja_i3 (List.mem_of_getElem? (i := 238) rfl)) rfl
theorem jw_719 : (Jvm.Cond.soleField "CashMachineModel" "account") ∈ ja_T := ja_g (ja_i3 (List.mem_of_getElem? (i := 239) rfl)) rfl
theorem jw_720 : (Jvm.Cond.laysFinal "CashMachineModel" "CashMachineModel" "amount" "[I") ∈ ja_T := ja_g (ja_i4 (List.mem_of_getElem? (i := 0) rfl)) rfl
theorem jw_721 : (Jvm.Cond.soleField "CashMachineModel" "amount") ∈ ja_T := ja_g (ja_i4 (List.mem_of_getElem? (i := 1) rfl)) rfl
theorem jw_722 : (Jvm.Cond.laysFinal "CashMachineModel" "CashMachineModel" "presented" "[I") ∈ ja_T := ja_g (ja_i4 (List.mem_of_getElem? (i := 2) rfl)) rfl
theorem jw_723 : (Jvm.Cond.soleField "CashMachineModel" "presented") ∈ ja_T := ja_g (ja_i4 (List.mem_of_getElem? (i := 3) rfl)) rfl
theorem jw_724 : (Jvm.Cond.laysFinal "CashMachineModel" "CashMachineModel" "known" "[I") ∈ ja_T := ja_g (ja_i4 (List.mem_of_getElem? (i := 4) rfl)) rfl
theorem jw_725 : (Jvm.Cond.soleField "CashMachineModel" "known") ∈ ja_T := ja_g (ja_i4 (List.mem_of_getElem? (i := 5) rfl)) rfl
theorem jw_726 : (Jvm.Cond.laysFinal "CashMachineModel" "CashMachineModel" "reversed" "[Z") ∈ ja_T := ja_g (ja_i4 (List.mem_of_getElem? (i := 6) rfl)) rfl
theorem jw_727 : (Jvm.Cond.soleField "CashMachineModel" "reversed") ∈ ja_T := ja_g (ja_i4 (List.mem_of_getElem? (i := 7) rfl)) rfl
theorem jw_728 : (Jvm.Cond.lays "CashMachineModel" "CashMachineModel" "traces" "I") ∈ ja_T := ja_g (ja_i4 (List.mem_of_getElem? (i := 8) rfl)) rfl
theorem jw_729 : (Jvm.Cond.soleField "CashMachineModel" "traces") ∈ ja_T := ja_g (ja_i4 (List.mem_of_getElem? (i := 9) rfl)) rfl
theorem jw_730 : (Jvm.Cond.laysFinal "CashMachineModel" "CashMachineModel" "pendingTrace" "[I") ∈ ja_T := ja_g (ja_i4 (List.mem_of_getElem? (i := 10) rfl)) rfl
theorem jw_731 : (Jvm.Cond.soleField "CashMachineModel" "pendingTrace") ∈ ja_T := ja_g (ja_i4 (List.mem_of_getElem? (i := 11) rfl)) rfl
theorem jw_732 : (Jvm.Cond.laysFinal "CashMachineModel" "CashMachineModel" "pendingAmount" "[I") ∈ ja_T := ja_g (ja_i4 (List.mem_of_getElem? (i := 12) rfl)) rfl
theorem jw_733 : (Jvm.Cond.soleField "CashMachineModel" "pendingAmount") ∈ ja_T := ja_g (ja_i4 (List.mem_of_getElem? (i := 13) rfl)) rfl
theorem jw_734 : (Jvm.Cond.lays "CashMachineModel" "CashMachineModel" "pending" "I") ∈ ja_T := ja_g (ja_i4 (List.mem_of_getElem? (i := 14) rfl)) rfl
theorem jw_735 : (Jvm.Cond.soleField "CashMachineModel" "pending") ∈ ja_T := ja_g (ja_i4 (List.mem_of_getElem? (i := 15) rfl)) rfl
theorem jw_736 : (Jvm.Cond.laysFinal "CashMachineModel" "CashMachineModel" "fates" "[I") ∈ ja_T := ja_g (ja_i4 (List.mem_of_getElem? (i := 16) rfl)) rfl
theorem jw_737 : (Jvm.Cond.soleField "CashMachineModel" "fates") ∈ ja_T := ja_g (ja_i4 (List.mem_of_getElem? (i := 17) rfl)) rfl
theorem jw_738 : (Jvm.Cond.lays "CashMachineModel" "CashMachineModel" "coming" "I") ∈ ja_T := ja_g (ja_i4 (List.mem_of_getElem? (i := 18) rfl)) rfl
theorem jw_739 : (Jvm.Cond.soleField "CashMachineModel" "coming") ∈ ja_T := ja_g (ja_i4 (List.mem_of_getElem? (i := 19) rfl)) rfl
theorem jw_740 : (Jvm.Cond.lays "CashMachineModel" "CashMachineModel" "jam" "I") ∈ ja_T := ja_g (ja_i4 (List.mem_of_getElem? (i := 20) rfl)) rfl
theorem jw_741 : (Jvm.Cond.soleField "CashMachineModel" "jam") ∈ ja_T := ja_g (ja_i4 (List.mem_of_getElem? (i := 21) rfl)) rfl
theorem jw_742 : (Jvm.Cond.lays "CashMachineModel" "CashMachineModel" "power" "I") ∈ ja_T := ja_g (ja_i4 (List.mem_of_getElem? (i := 22) rfl)) rfl
theorem jw_743 : (Jvm.Cond.soleField "CashMachineModel" "power") ∈ ja_T := ja_g (ja_i4 (List.mem_of_getElem? (i := 23) rfl)) rfl
theorem jw_744 : (Jvm.Cond.lays "CashMachineModel" "CashMachineModel" "paidTrace" "I") ∈ ja_T := ja_g (ja_i4 (List.mem_of_getElem? (i := 24) rfl)) rfl
theorem jw_745 : (Jvm.Cond.soleField "CashMachineModel" "paidTrace") ∈ ja_T := ja_g (ja_i4 (List.mem_of_getElem? (i := 25) rfl)) rfl
theorem jw_746 : (Jvm.Cond.lays "CashMachineModel" "CashMachineModel" "paidValue" "I") ∈ ja_T := ja_g (ja_i4 (List.mem_of_getElem? (i := 26) rfl)) rfl
theorem jw_747 : (Jvm.Cond.soleField "CashMachineModel" "paidValue") ∈ ja_T := ja_g (ja_i4 (List.mem_of_getElem? (i := 27) rfl)) rfl
theorem jw_748 : (Jvm.Cond.lays "CashMachineModel" "CashMachineModel" "paidAll" "I") ∈ ja_T := ja_g (ja_i4 (List.mem_of_getElem? (i := 28) rfl)) rfl
theorem jw_749 : (Jvm.Cond.soleField "CashMachineModel" "paidAll") ∈ ja_T := ja_g (ja_i4 (List.mem_of_getElem? (i := 29) rfl)) rfl
theorem jw_750 : (Jvm.Cond.superclass "CashMachineModel" "java/lang/Object") ∈ ja_T := ja_g (ja_i4 (List.mem_of_getElem? (i := 30) rfl)) rfl
theorem jw_751 : (Jvm.Cond.methodLink "CashMachineLaw" (84 : Nat) ({ cls := "CashMachineModel", name := "thrown", desc := "()I" } : Jvm.MethodName)) ∈ ja_T := ja_g (ja_i4 (List.mem_of_getElem? (i := 31) rfl)) rfl
theorem jw_752 : (Jvm.Cond.instanceMethod ({ cls := "CashMachineModel", name := "thrown", desc := "()I" } : Jvm.MethodName)) ∈ ja_T := ja_g (ja_i4 (List.mem_of_getElem? (i := 32) rfl)) rfl
theorem jw_753 : (Jvm.Cond.selects "CashMachineModel" ({ cls := "CashMachineModel", name := "thrown", desc := "()I" } : Jvm.MethodName) ({ cls := "CashMachineModel", name := "thrown", desc := "()I" } : Jvm.MethodName)) ∈ ja_T := ja_g (ja_i4 (List.mem_of_getElem? (i := 33) rfl)) rfl
theorem jw_754 : (Jvm.Cond.code ({ cls := "CashMachineModel", name := "thrown", desc := "()I" } : Jvm.MethodName) prog_12_method_2_code (1 : Nat) (Option.some Jvm.ClassFile.FieldType.int)) ∈ ja_T := ja_g (ja_i4 (List.mem_of_getElem? (i := 34) rfl)) rfl
theorem jw_755 : (Jvm.Cond.methodLink "CashMachineLaw" (83 : Nat) ({ cls := "CashMachineModel", name := "open", desc := "(III)I" } : Jvm.MethodName)) ∈ ja_T := ja_g (ja_i4 (List.mem_of_getElem? (i := 35) rfl)) rfl
theorem jw_756 : (Jvm.Cond.instanceMethod ({ cls := "CashMachineModel", name := "open", desc := "(III)I" } : Jvm.MethodName)) ∈ ja_T := ja_g (ja_i4 (List.mem_of_getElem? (i := 36) rfl)) rfl
theorem jw_757 : (Jvm.Cond.selects "CashMachineModel" ({ cls := "CashMachineModel", name := "open", desc := "(III)I" } : Jvm.MethodName) ({ cls := "CashMachineModel", name := "open", desc := "(III)I" } : Jvm.MethodName)) ∈ ja_T := ja_g (ja_i4 (List.mem_of_getElem? (i := 37) rfl)) rfl
theorem jw_758 : (Jvm.Cond.code ({ cls := "CashMachineModel", name := "open", desc := "(III)I" } : Jvm.MethodName) prog_12_method_5_code (6 : Nat) (Option.some Jvm.ClassFile.FieldType.int)) ∈ ja_T := ja_g (ja_i4 (List.mem_of_getElem? (i := 38) rfl)) rfl
theorem jw_759 : (Jvm.Cond.methodLink "CashMachineModel" (75 : Nat) ({ cls := "CashMachineModel", name := "in", desc := "(III)Z" } : Jvm.MethodName)) ∈ ja_T := ja_g (ja_i4 (List.mem_of_getElem? (i := 39) rfl)) rfl
theorem jw_760 : (Jvm.Cond.static ({ cls := "CashMachineModel", name := "in", desc := "(III)Z" } : Jvm.MethodName)) ∈ ja_T := ja_g (ja_i4 (List.mem_of_getElem? (i := 40) rfl)) rfl
theorem jw_761 : (Jvm.Cond.code ({ cls := "CashMachineModel", name := "in", desc := "(III)Z" } : Jvm.MethodName) prog_12_method_3_code (3 : Nat) (Option.some Jvm.ClassFile.FieldType.boolean)) ∈ ja_T := ja_g (ja_i4 (List.mem_of_getElem? (i := 41) rfl)) rfl
theorem jw_762 : (Jvm.Cond.constant "CashMachineModel" (79 : Nat) (1000000 : Int32)) ∈ ja_T := ja_g (ja_i4 (List.mem_of_getElem? (i := 42) rfl)) rfl
theorem jw_763 : (Jvm.Cond.methodLink "CashMachineModel" (80 : Nat) ({ cls := "CashMachineModel", name := "fail", desc := "(I)I" } : Jvm.MethodName)) ∈ ja_T := ja_g (ja_i4 (List.mem_of_getElem? (i := 43) rfl)) rfl
theorem jv_764 : (Jvm.Cond.privateMethod ({ cls := "CashMachineModel", name := "fail", desc := "(I)I" } : Jvm.MethodName)) ∈ lw_tbl := ja_i4 (List.mem_of_getElem? (i := 44) rfl)
theorem jw_765 : (Jvm.Cond.instanceMethod ({ cls := "CashMachineModel", name := "fail", desc := "(I)I" } : Jvm.MethodName)) ∈ ja_T := ja_g (ja_i4 (List.mem_of_getElem? (i := 45) rfl)) rfl
theorem jw_766 : (Jvm.Cond.code ({ cls := "CashMachineModel", name := "fail", desc := "(I)I" } : Jvm.MethodName) prog_12_method_4_code (2 : Nat) (Option.some Jvm.ClassFile.FieldType.int)) ∈ ja_T := ja_g (ja_i4 (List.mem_of_getElem? (i := 46) rfl)) rfl
theorem jw_767 : (Jvm.Cond.methodLink "CashMachineLaw" (89 : Nat) ({ cls := "CashMachineModel", name := "load", desc := "(III)I" } : Jvm.MethodName)) ∈ ja_T := ja_g (ja_i4 (List.mem_of_getElem? (i := 47) rfl)) rfl
theorem jw_768 : (Jvm.Cond.instanceMethod ({ cls := "CashMachineModel", name := "load", desc := "(III)I" } : Jvm.MethodName)) ∈ ja_T := ja_g (ja_i4 (List.mem_of_getElem? (i := 48) rfl)) rfl
theorem jw_769 : (Jvm.Cond.selects "CashMachineModel" ({ cls := "CashMachineModel", name := "load", desc := "(III)I" } : Jvm.MethodName) ({ cls := "CashMachineModel", name := "load", desc := "(III)I" } : Jvm.MethodName)) ∈ ja_T := ja_g (ja_i4 (List.mem_of_getElem? (i := 49) rfl)) rfl
theorem jw_770 : (Jvm.Cond.code ({ cls := "CashMachineModel", name := "load", desc := "(III)I" } : Jvm.MethodName) prog_12_method_6_code (5 : Nat) (Option.some Jvm.ClassFile.FieldType.int)) ∈ ja_T := ja_g (ja_i4 (List.mem_of_getElem? (i := 50) rfl)) rfl
theorem jw_771 : (Jvm.Cond.methodLink "CashMachineLaw" (93 : Nat) ({ cls := "CashMachineModel", name := "insert", desc := "(I)I" } : Jvm.MethodName)) ∈ ja_T := ja_g (ja_i4 (List.mem_of_getElem? (i := 51) rfl)) rfl
theorem jw_772 : (Jvm.Cond.instanceMethod ({ cls := "CashMachineModel", name := "insert", desc := "(I)I" } : Jvm.MethodName)) ∈ ja_T := ja_g (ja_i4 (List.mem_of_getElem? (i := 52) rfl)) rfl
theorem jw_773 : (Jvm.Cond.selects "CashMachineModel" ({ cls := "CashMachineModel", name := "insert", desc := "(I)I" } : Jvm.MethodName) ({ cls := "CashMachineModel", name := "insert", desc := "(I)I" } : Jvm.MethodName)) ∈ ja_T := ja_g (ja_i4 (List.mem_of_getElem? (i := 53) rfl)) rfl
theorem jw_774 : (Jvm.Cond.code ({ cls := "CashMachineModel", name := "insert", desc := "(I)I" } : Jvm.MethodName) prog_12_method_7_code (2 : Nat) (Option.some Jvm.ClassFile.FieldType.int)) ∈ ja_T := ja_g (ja_i4 (List.mem_of_getElem? (i := 54) rfl)) rfl
theorem jw_775 : (Jvm.Cond.methodLink "CashMachineLaw" (96 : Nat) ({ cls := "CashMachineModel", name := "pin", desc := "(I)I" } : Jvm.MethodName)) ∈ ja_T := ja_g (ja_i4 (List.mem_of_getElem? (i := 55) rfl)) rfl
theorem jw_776 : (Jvm.Cond.instanceMethod ({ cls := "CashMachineModel", name := "pin", desc := "(I)I" } : Jvm.MethodName)) ∈ ja_T := ja_g (ja_i4 (List.mem_of_getElem? (i := 56) rfl)) rfl
theorem jw_777 : (Jvm.Cond.selects "CashMachineModel" ({ cls := "CashMachineModel", name := "pin", desc := "(I)I" } : Jvm.MethodName) ({ cls := "CashMachineModel", name := "pin", desc := "(I)I" } : Jvm.MethodName)) ∈ ja_T := ja_g (ja_i4 (List.mem_of_getElem? (i := 57) rfl)) rfl
theorem jw_778 : (Jvm.Cond.code ({ cls := "CashMachineModel", name := "pin", desc := "(I)I" } : Jvm.MethodName) prog_12_method_8_code (3 : Nat) (Option.some Jvm.ClassFile.FieldType.int)) ∈ ja_T := ja_g (ja_i4 (List.mem_of_getElem? (i := 58) rfl)) rfl
theorem jw_779 : (Jvm.Cond.methodLink "CashMachineLaw" (100 : Nat) ({ cls := "CashMachineModel", name := "eject", desc := "()I" } : Jvm.MethodName)) ∈ ja_T := ja_g (ja_i4 (List.mem_of_getElem? (i := 59) rfl)) rfl
theorem jw_780 : (Jvm.Cond.instanceMethod ({ cls := "CashMachineModel", name := "eject", desc := "()I" } : Jvm.MethodName)) ∈ ja_T := ja_g (ja_i4 (List.mem_of_getElem? (i := 60) rfl)) rfl
theorem jw_781 : (Jvm.Cond.selects "CashMachineModel" ({ cls := "CashMachineModel", name := "eject", desc := "()I" } : Jvm.MethodName) ({ cls := "CashMachineModel", name := "eject", desc := "()I" } : Jvm.MethodName)) ∈ ja_T := ja_g (ja_i4 (List.mem_of_getElem? (i := 61) rfl)) rfl
theorem jw_782 : (Jvm.Cond.code ({ cls := "CashMachineModel", name := "eject", desc := "()I" } : Jvm.MethodName) prog_12_method_9_code (2 : Nat) (Option.some Jvm.ClassFile.FieldType.int)) ∈ ja_T := ja_g (ja_i4 (List.mem_of_getElem? (i := 62) rfl)) rfl
theorem jw_783 : (Jvm.Cond.methodLink "CashMachineLaw" (103 : Nat) ({ cls := "CashMachineModel", name := "withdraw", desc := "(I)I" } : Jvm.MethodName)) ∈ ja_T := ja_g (ja_i4 (List.mem_of_getElem? (i := 63) rfl)) rfl
theorem jw_784 : (Jvm.Cond.instanceMethod ({ cls := "CashMachineModel", name := "withdraw", desc := "(I)I" } : Jvm.MethodName)) ∈ ja_T := ja_g (ja_i4 (List.mem_of_getElem? (i := 64) rfl)) rfl
theorem jw_785 : (Jvm.Cond.selects "CashMachineModel" ({ cls := "CashMachineModel", name := "withdraw", desc := "(I)I" } : Jvm.MethodName) ({ cls := "CashMachineModel", name := "withdraw", desc := "(I)I" } : Jvm.MethodName)) ∈ ja_T := ja_g (ja_i4 (List.mem_of_getElem? (i := 65) rfl)) rfl
theorem jw_786 : (Jvm.Cond.code ({ cls := "CashMachineModel", name := "withdraw", desc := "(I)I" } : Jvm.MethodName) prog_12_method_23_code (2 : Nat) (Option.some Jvm.ClassFile.FieldType.int)) ∈ ja_T := ja_g (ja_i4 (List.mem_of_getElem? (i := 66) rfl)) rfl
theorem jw_787 : (Jvm.Cond.methodLink "CashMachineModel" (146 : Nat) ({ cls := "CashMachineModel", name := "mixed", desc := "(I)Z" } : Jvm.MethodName)) ∈ ja_T := ja_g (ja_i4 (List.mem_of_getElem? (i := 67) rfl)) rfl
theorem jv_788 : (Jvm.Cond.privateMethod ({ cls := "CashMachineModel", name := "mixed", desc := "(I)Z" } : Jvm.MethodName)) ∈ lw_tbl := ja_i4 (List.mem_of_getElem? (i := 68) rfl)
theorem jw_789 : (Jvm.Cond.instanceMethod ({ cls := "CashMachineModel", name := "mixed", desc := "(I)Z" } : Jvm.MethodName)) ∈ ja_T := ja_g (ja_i4 (List.mem_of_getElem? (i := 69) rfl)) rfl
theorem jw_790 : (Jvm.Cond.code ({ cls := "CashMachineModel", name := "mixed", desc := "(I)Z" } : Jvm.MethodName) prog_12_method_13_code (5 : Nat) (Option.some Jvm.ClassFile.FieldType.boolean)) ∈ ja_T := ja_g (ja_i4 (List.mem_of_getElem? (i := 70) rfl)) rfl
theorem jw_791 : (Jvm.Cond.methodLink "CashMachineModel" (99 : Nat) ({ cls := "CashMachineModel", name := "thirds", desc := "(IIIZ)Z" } : Jvm.MethodName)) ∈ ja_T := ja_g (ja_i4 (List.mem_of_getElem? (i := 71) rfl)) rfl
theorem jv_792 : (Jvm.Cond.privateMethod ({ cls := "CashMachineModel", name := "thirds", desc := "(IIIZ)Z" } : Jvm.MethodName)) ∈ lw_tbl := ja_i4 (List.mem_of_getElem? (i := 72) rfl)
theorem jw_793 : (Jvm.Cond.instanceMethod ({ cls := "CashMachineModel", name := "thirds", desc := "(IIIZ)Z" } : Jvm.MethodName)) ∈ ja_T := ja_g (ja_i4 (List.mem_of_getElem? (i := 73) rfl)) rfl
theorem jw_794 : (Jvm.Cond.code ({ cls := "CashMachineModel", name := "thirds", desc := "(IIIZ)Z" } : Jvm.MethodName) prog_12_method_12_code (7 : Nat) (Option.some Jvm.ClassFile.FieldType.boolean)) ∈ ja_T := ja_g (ja_i4 (List.mem_of_getElem? (i := 74) rfl)) rfl
theorem jw_795 : (Jvm.Cond.methodLink "CashMachineModel" (95 : Nat) ({ cls := "CashMachineModel", name := "better", desc := "(IIIIZ)Z" } : Jvm.MethodName)) ∈ ja_T := ja_g (ja_i4 (List.mem_of_getElem? (i := 75) rfl)) rfl
theorem jv_796 : (Jvm.Cond.privateMethod ({ cls := "CashMachineModel", name := "better", desc := "(IIIIZ)Z" } : Jvm.MethodName)) ∈ lw_tbl := ja_i4 (List.mem_of_getElem? (i := 76) rfl)
theorem jw_797 : (Jvm.Cond.instanceMethod ({ cls := "CashMachineModel", name := "better", desc := "(IIIIZ)Z" } : Jvm.MethodName)) ∈ ja_T := ja_g (ja_i4 (List.mem_of_getElem? (i := 77) rfl)) rfl
theorem jw_798 : (Jvm.Cond.code ({ cls := "CashMachineModel", name := "better", desc := "(IIIIZ)Z" } : Jvm.MethodName) prog_12_method_11_code (8 : Nat) (Option.some Jvm.ClassFile.FieldType.boolean)) ∈ ja_T := ja_g (ja_i4 (List.mem_of_getElem? (i := 78) rfl)) rfl
theorem jw_799 : (Jvm.Cond.methodLink "CashMachineModel" (91 : Nat) ({ cls := "CashMachineModel", name := "notesOf", desc := "(IIII)I" } : Jvm.MethodName)) ∈ ja_T := ja_g (ja_i4 (List.mem_of_getElem? (i := 79) rfl)) rfl
theorem jv_800 : (Jvm.Cond.privateMethod ({ cls := "CashMachineModel", name := "notesOf", desc := "(IIII)I" } : Jvm.MethodName)) ∈ lw_tbl := ja_i4 (List.mem_of_getElem? (i := 80) rfl)
theorem jw_801 : (Jvm.Cond.instanceMethod ({ cls := "CashMachineModel", name := "notesOf", desc := "(IIII)I" } : Jvm.MethodName)) ∈ ja_T := ja_g (ja_i4 (List.mem_of_getElem? (i := 81) rfl)) rfl
theorem jw_802 : (Jvm.Cond.code ({ cls := "CashMachineModel", name := "notesOf", desc := "(IIII)I" } : Jvm.MethodName) prog_12_method_10_code (5 : Nat) (Option.some Jvm.ClassFile.FieldType.int)) ∈ ja_T := ja_g (ja_i4 (List.mem_of_getElem? (i := 82) rfl)) rfl
theorem jw_803 : (Jvm.Cond.methodLink "CashMachineModel" (152 : Nat) ({ cls := "CashMachineModel", name := "give", desc := "(I)I" } : Jvm.MethodName)) ∈ ja_T := ja_g (ja_i4 (List.mem_of_getElem? (i := 83) rfl)) rfl
theorem jv_804 : (Jvm.Cond.privateMethod ({ cls := "CashMachineModel", name := "give", desc := "(I)I" } : Jvm.MethodName)) ∈ lw_tbl := ja_i4 (List.mem_of_getElem? (i := 84) rfl)
theorem jw_805 : (Jvm.Cond.instanceMethod ({ cls := "CashMachineModel", name := "give", desc := "(I)I" } : Jvm.MethodName)) ∈ ja_T := ja_g (ja_i4 (List.mem_of_getElem? (i := 85) rfl)) rfl
theorem jw_806 : (Jvm.Cond.code ({ cls := "CashMachineModel", name := "give", desc := "(I)I" } : Jvm.MethodName) prog_12_method_22_code (3 : Nat) (Option.some Jvm.ClassFile.FieldType.int)) ∈ ja_T := ja_g (ja_i4 (List.mem_of_getElem? (i := 86) rfl)) rfl
theorem jw_807 : (Jvm.Cond.methodLink "CashMachineModel" (128 : Nat) ({ cls := "CashMachineModel", name := "cut", desc := "(I)Z" } : Jvm.MethodName)) ∈ ja_T := ja_g (ja_i4 (List.mem_of_getElem? (i := 87) rfl)) rfl
theorem jv_808 : (Jvm.Cond.privateMethod ({ cls := "CashMachineModel", name := "cut", desc := "(I)Z" } : Jvm.MethodName)) ∈ lw_tbl := ja_i4 (List.mem_of_getElem? (i := 88) rfl)
theorem jw_809 : (Jvm.Cond.instanceMethod ({ cls := "CashMachineModel", name := "cut", desc := "(I)Z" } : Jvm.MethodName)) ∈ ja_T := ja_g (ja_i4 (List.mem_of_getElem? (i := 89) rfl)) rfl
theorem jw_810 : (Jvm.Cond.code ({ cls := "CashMachineModel", name := "cut", desc := "(I)Z" } : Jvm.MethodName) prog_12_method_18_code (2 : Nat) (Option.some Jvm.ClassFile.FieldType.boolean)) ∈ ja_T := ja_g (ja_i4 (List.mem_of_getElem? (i := 90) rfl)) rfl
theorem jw_811 : (Jvm.Cond.methodLink "CashMachineModel" (132 : Nat) ({ cls := "CashMachineModel", name := "fate", desc := "()I" } : Jvm.MethodName)) ∈ ja_T := ja_g (ja_i4 (List.mem_of_getElem? (i := 91) rfl)) rfl
theorem jv_812 : (Jvm.Cond.privateMethod ({ cls := "CashMachineModel", name := "fate", desc := "()I" } : Jvm.MethodName)) ∈ lw_tbl := ja_i4 (List.mem_of_getElem? (i := 92) rfl)
theorem jw_813 : (Jvm.Cond.instanceMethod ({ cls := "CashMachineModel", name := "fate", desc := "()I" } : Jvm.MethodName)) ∈ ja_T := ja_g (ja_i4 (List.mem_of_getElem? (i := 93) rfl)) rfl
theorem jw_814 : (Jvm.Cond.code ({ cls := "CashMachineModel", name := "fate", desc := "()I" } : Jvm.MethodName) prog_12_method_16_code (3 : Nat) (Option.some Jvm.ClassFile.FieldType.int)) ∈ ja_T := ja_g (ja_i4 (List.mem_of_getElem? (i := 94) rfl)) rfl
theorem jw_815 : (Jvm.Cond.methodLink "CashMachineModel" (136 : Nat) ({ cls := "CashMachineModel", name := "request", desc := "(I)V" } : Jvm.MethodName)) ∈ ja_T := ja_g (ja_i4 (List.mem_of_getElem? (i := 95) rfl)) rfl
theorem jv_816 : (Jvm.Cond.privateMethod ({ cls := "CashMachineModel", name := "request", desc := "(I)V" } : Jvm.MethodName)) ∈ lw_tbl := ja_i4 (List.mem_of_getElem? (i := 96) rfl)
theorem jw_817 : (Jvm.Cond.instanceMethod ({ cls := "CashMachineModel", name := "request", desc := "(I)V" } : Jvm.MethodName)) ∈ ja_T := ja_g (ja_i4 (List.mem_of_getElem? (i := 97) rfl)) rfl
theorem jw_818 : (Jvm.Cond.code ({ cls := "CashMachineModel", name := "request", desc := "(I)V" } : Jvm.MethodName) prog_12_method_14_code (3 : Nat) (Option.none : Option Jvm.ClassFile.FieldType)) ∈ ja_T := ja_g (ja_i4 (List.mem_of_getElem? (i := 98) rfl)) rfl
theorem jw_819 : (Jvm.Cond.methodLink "CashMachineModel" (124 : Nat) ({ cls := "CashMachineModel", name := "owe", desc := "(II)V" } : Jvm.MethodName)) ∈ ja_T := ja_g (ja_i4 (List.mem_of_getElem? (i := 99) rfl)) rfl
theorem jv_820 : (Jvm.Cond.privateMethod ({ cls := "CashMachineModel", name := "owe", desc := "(II)V" } : Jvm.MethodName)) ∈ lw_tbl := ja_i4 (List.mem_of_getElem? (i := 100) rfl)
theorem jw_821 : (Jvm.Cond.instanceMethod ({ cls := "CashMachineModel", name := "owe", desc := "(II)V" } : Jvm.MethodName)) ∈ ja_T := ja_g (ja_i4 (List.mem_of_getElem? (i := 101) rfl)) rfl
theorem jw_822 : (Jvm.Cond.code ({ cls := "CashMachineModel", name := "owe", desc := "(II)V" } : Jvm.MethodName) prog_12_method_17_code (3 : Nat) (Option.none : Option Jvm.ClassFile.FieldType)) ∈ ja_T := ja_g (ja_i4 (List.mem_of_getElem? (i := 102) rfl)) rfl
theorem jw_823 : (Jvm.Cond.methodLink "CashMachineModel" (140 : Nat) ({ cls := "CashMachineModel", name := "pay", desc := "(I)V" } : Jvm.MethodName)) ∈ ja_T := ja_g (ja_i4 (List.mem_of_getElem? (i := 103) rfl)) rfl
theorem jv_824 : (Jvm.Cond.privateMethod ({ cls := "CashMachineModel", name := "pay", desc := "(I)V" } : Jvm.MethodName)) ∈ lw_tbl := ja_i4 (List.mem_of_getElem? (i := 104) rfl)
theorem jw_825 : (Jvm.Cond.instanceMethod ({ cls := "CashMachineModel", name := "pay", desc := "(I)V" } : Jvm.MethodName)) ∈ ja_T := ja_g (ja_i4 (List.mem_of_getElem? (i := 105) rfl)) rfl
theorem jw_826 : (Jvm.Cond.code ({ cls := "CashMachineModel", name := "pay", desc := "(I)V" } : Jvm.MethodName) prog_12_method_20_code (8 : Nat) (Option.none : Option Jvm.ClassFile.FieldType)) ∈ ja_T := ja_g (ja_i4 (List.mem_of_getElem? (i := 106) rfl)) rfl
theorem jw_827 : (Jvm.Cond.methodLink "CashMachineModel" (112 : Nat) ({ cls := "CashMachineModel", name := "greatest", desc := "(I)I" } : Jvm.MethodName)) ∈ ja_T := ja_g (ja_i4 (List.mem_of_getElem? (i := 107) rfl)) rfl
theorem jv_828 : (Jvm.Cond.privateMethod ({ cls := "CashMachineModel", name := "greatest", desc := "(I)I" } : Jvm.MethodName)) ∈ lw_tbl := ja_i4 (List.mem_of_getElem? (i := 108) rfl)
theorem jw_829 : (Jvm.Cond.instanceMethod ({ cls := "CashMachineModel", name := "greatest", desc := "(I)I" } : Jvm.MethodName)) ∈ ja_T := ja_g (ja_i4 (List.mem_of_getElem? (i := 109) rfl)) rfl
theorem jw_830 : (Jvm.Cond.code ({ cls := "CashMachineModel", name := "greatest", desc := "(I)I" } : Jvm.MethodName) prog_12_method_19_code (4 : Nat) (Option.some Jvm.ClassFile.FieldType.int)) ∈ ja_T := ja_g (ja_i4 (List.mem_of_getElem? (i := 110) rfl)) rfl
theorem jw_831 : (Jvm.Cond.methodLink "CashMachineModel" (143 : Nat) ({ cls := "CashMachineModel", name := "finish", desc := "(II)V" } : Jvm.MethodName)) ∈ ja_T := ja_g (ja_i4 (List.mem_of_getElem? (i := 111) rfl)) rfl
theorem jv_832 : (Jvm.Cond.privateMethod ({ cls := "CashMachineModel", name := "finish", desc := "(II)V" } : Jvm.MethodName)) ∈ lw_tbl := ja_i4 (List.mem_of_getElem? (i := 112) rfl)
theorem jw_833 : (Jvm.Cond.instanceMethod ({ cls := "CashMachineModel", name := "finish", desc := "(II)V" } : Jvm.MethodName)) ∈ ja_T := ja_g (ja_i4 (List.mem_of_getElem? (i := 113) rfl)) rfl
theorem jw_834 : (Jvm.Cond.code ({ cls := "CashMachineModel", name := "finish", desc := "(II)V" } : Jvm.MethodName) prog_12_method_21_code (3 : Nat) (Option.none : Option Jvm.ClassFile.FieldType)) ∈ ja_T := ja_g (ja_i4 (List.mem_of_getElem? (i := 114) rfl)) rfl
theorem jw_835 : (Jvm.Cond.methodLink "CashMachineLaw" (107 : Nat) ({ cls := "CashMachineModel", name := "mix", desc := "(II)I" } : Jvm.MethodName)) ∈ ja_T := ja_g (ja_i4 (List.mem_of_getElem? (i := 115) rfl)) rfl
theorem jw_836 : (Jvm.Cond.instanceMethod ({ cls := "CashMachineModel", name := "mix", desc := "(II)I" } : Jvm.MethodName)) ∈ ja_T := ja_g (ja_i4 (List.mem_of_getElem? (i := 116) rfl)) rfl
theorem jw_837 : (Jvm.Cond.selects "CashMachineModel" ({ cls := "CashMachineModel", name := "mix", desc := "(II)I" } : Jvm.MethodName) ({ cls := "CashMachineModel", name := "mix", desc := "(II)I" } : Jvm.MethodName)) ∈ ja_T := ja_g (ja_i4 (List.mem_of_getElem? (i := 117) rfl)) rfl
theorem jw_838 : (Jvm.Cond.code ({ cls := "CashMachineModel", name := "mix", desc := "(II)I" } : Jvm.MethodName) prog_12_method_24_code (3 : Nat) (Option.some Jvm.ClassFile.FieldType.int)) ∈ ja_T := ja_g (ja_i4 (List.mem_of_getElem? (i := 118) rfl)) rfl
theorem jw_839 : (Jvm.Cond.methodLink "CashMachineLaw" (110 : Nat) ({ cls := "CashMachineModel", name := "line", desc := "(I)I" } : Jvm.MethodName)) ∈ ja_T := ja_g (ja_i4 (List.mem_of_getElem? (i := 119) rfl)) rfl
theorem jw_840 : (Jvm.Cond.instanceMethod ({ cls := "CashMachineModel", name := "line", desc := "(I)I" } : Jvm.MethodName)) ∈ ja_T := ja_g (ja_i4 (List.mem_of_getElem? (i := 120) rfl)) rfl
theorem jw_841 : (Jvm.Cond.selects "CashMachineModel" ({ cls := "CashMachineModel", name := "line", desc := "(I)I" } : Jvm.MethodName) ({ cls := "CashMachineModel", name := "line", desc := "(I)I" } : Jvm.MethodName)) ∈ ja_T := ja_g (ja_i4 (List.mem_of_getElem? (i := 121) rfl)) rfl
theorem jw_842 : (Jvm.Cond.code ({ cls := "CashMachineModel", name := "line", desc := "(I)I" } : Jvm.MethodName) prog_12_method_25_code (2 : Nat) (Option.some Jvm.ClassFile.FieldType.int)) ∈ ja_T := ja_g (ja_i4 (List.mem_of_getElem? (i := 122) rfl)) rfl
theorem jw_843 : (Jvm.Cond.methodLink "CashMachineLaw" (113 : Nat) ({ cls := "CashMachineModel", name := "jam", desc := "(I)I" } : Jvm.MethodName)) ∈ ja_T := ja_g (ja_i4 (List.mem_of_getElem? (i := 123) rfl)) rfl
theorem jw_844 : (Jvm.Cond.instanceMethod ({ cls := "CashMachineModel", name := "jam", desc := "(I)I" } : Jvm.MethodName)) ∈ ja_T := ja_g (ja_i4 (List.mem_of_getElem? (i := 124) rfl)) rfl
theorem jw_845 : (Jvm.Cond.selects "CashMachineModel" ({ cls := "CashMachineModel", name := "jam", desc := "(I)I" } : Jvm.MethodName) ({ cls := "CashMachineModel", name := "jam", desc := "(I)I" } : Jvm.MethodName)) ∈ ja_T := ja_g (ja_i4 (List.mem_of_getElem? (i := 125) rfl)) rfl
theorem jw_846 : (Jvm.Cond.code ({ cls := "CashMachineModel", name := "jam", desc := "(I)I" } : Jvm.MethodName) prog_12_method_26_code (2 : Nat) (Option.some Jvm.ClassFile.FieldType.int)) ∈ ja_T := ja_g (ja_i4 (List.mem_of_getElem? (i := 126) rfl)) rfl
theorem jw_847 : (Jvm.Cond.methodLink "CashMachineLaw" (116 : Nat) ({ cls := "CashMachineModel", name := "power", desc := "(I)I" } : Jvm.MethodName)) ∈ ja_T := ja_g (ja_i4 (List.mem_of_getElem? (i := 127) rfl)) rfl
theorem jw_848 : (Jvm.Cond.instanceMethod ({ cls := "CashMachineModel", name := "power", desc := "(I)I" } : Jvm.MethodName)) ∈ ja_T := ja_g (ja_i4 (List.mem_of_getElem? (i := 128) rfl)) rfl
theorem jw_849 : (Jvm.Cond.selects "CashMachineModel" ({ cls := "CashMachineModel", name := "power", desc := "(I)I" } : Jvm.MethodName) ({ cls := "CashMachineModel", name := "power", desc := "(I)I" } : Jvm.MethodName)) ∈ ja_T := ja_g (ja_i4 (List.mem_of_getElem? (i := 129) rfl)) rfl
theorem jw_850 : (Jvm.Cond.code ({ cls := "CashMachineModel", name := "power", desc := "(I)I" } : Jvm.MethodName) prog_12_method_27_code (2 : Nat) (Option.some Jvm.ClassFile.FieldType.int)) ∈ ja_T := ja_g (ja_i4 (List.mem_of_getElem? (i := 130) rfl)) rfl
theorem jw_851 : (Jvm.Cond.methodLink "CashMachineLaw" (119 : Nat) ({ cls := "CashMachineModel", name := "boot", desc := "()I" } : Jvm.MethodName)) ∈ ja_T := ja_g (ja_i4 (List.mem_of_getElem? (i := 131) rfl)) rfl
theorem jw_852 : (Jvm.Cond.instanceMethod ({ cls := "CashMachineModel", name := "boot", desc := "()I" } : Jvm.MethodName)) ∈ ja_T := ja_g (ja_i4 (List.mem_of_getElem? (i := 132) rfl)) rfl
theorem jw_853 : (Jvm.Cond.selects "CashMachineModel" ({ cls := "CashMachineModel", name := "boot", desc := "()I" } : Jvm.MethodName) ({ cls := "CashMachineModel", name := "boot", desc := "()I" } : Jvm.MethodName)) ∈ ja_T := ja_g (ja_i4 (List.mem_of_getElem? (i := 133) rfl)) rfl
theorem jw_854 : (Jvm.Cond.code ({ cls := "CashMachineModel", name := "boot", desc := "()I" } : Jvm.MethodName) prog_12_method_28_code (2 : Nat) (Option.some Jvm.ClassFile.FieldType.int)) ∈ ja_T := ja_g (ja_i4 (List.mem_of_getElem? (i := 134) rfl)) rfl
theorem jw_855 : (Jvm.Cond.methodLink "CashMachineLaw" (122 : Nat) ({ cls := "CashMachineModel", name := "settle", desc := "()I" } : Jvm.MethodName)) ∈ ja_T := ja_g (ja_i4 (List.mem_of_getElem? (i := 135) rfl)) rfl
theorem jw_856 : (Jvm.Cond.instanceMethod ({ cls := "CashMachineModel", name := "settle", desc := "()I" } : Jvm.MethodName)) ∈ ja_T := ja_g (ja_i4 (List.mem_of_getElem? (i := 136) rfl)) rfl
theorem jw_857 : (Jvm.Cond.selects "CashMachineModel" ({ cls := "CashMachineModel", name := "settle", desc := "()I" } : Jvm.MethodName) ({ cls := "CashMachineModel", name := "settle", desc := "()I" } : Jvm.MethodName)) ∈ ja_T := ja_g (ja_i4 (List.mem_of_getElem? (i := 137) rfl)) rfl
theorem jw_858 : (Jvm.Cond.code ({ cls := "CashMachineModel", name := "settle", desc := "()I" } : Jvm.MethodName) prog_12_method_29_code (5 : Nat) (Option.some Jvm.ClassFile.FieldType.int)) ∈ ja_T := ja_g (ja_i4 (List.mem_of_getElem? (i := 138) rfl)) rfl
theorem jw_859 : (Jvm.Cond.methodLink "CashMachineModel" (155 : Nat) ({ cls := "CashMachineModel", name := "reversalCame", desc := "(II)V" } : Jvm.MethodName)) ∈ ja_T := ja_g (ja_i4 (List.mem_of_getElem? (i := 139) rfl)) rfl
theorem jv_860 : (Jvm.Cond.privateMethod ({ cls := "CashMachineModel", name := "reversalCame", desc := "(II)V" } : Jvm.MethodName)) ∈ lw_tbl := ja_i4 (List.mem_of_getElem? (i := 140) rfl)
theorem jw_861 : (Jvm.Cond.instanceMethod ({ cls := "CashMachineModel", name := "reversalCame", desc := "(II)V" } : Jvm.MethodName)) ∈ ja_T := ja_g (ja_i4 (List.mem_of_getElem? (i := 141) rfl)) rfl
theorem jw_862 : (Jvm.Cond.code ({ cls := "CashMachineModel", name := "reversalCame", desc := "(II)V" } : Jvm.MethodName) prog_12_method_15_code (3 : Nat) (Option.none : Option Jvm.ClassFile.FieldType)) ∈ ja_T := ja_g (ja_i4 (List.mem_of_getElem? (i := 142) rfl)) rfl
theorem jw_863 : (Jvm.Cond.methodLink "CashMachineLaw" (125 : Nat) ({ cls := "CashMachineModel", name := "balance", desc := "(I)I" } : Jvm.MethodName)) ∈ ja_T := ja_g (ja_i4 (List.mem_of_getElem? (i := 143) rfl)) rfl
theorem jw_864 : (Jvm.Cond.instanceMethod ({ cls := "CashMachineModel", name := "balance", desc := "(I)I" } : Jvm.MethodName)) ∈ ja_T := ja_g (ja_i4 (List.mem_of_getElem? (i := 144) rfl)) rfl
theorem jw_865 : (Jvm.Cond.selects "CashMachineModel" ({ cls := "CashMachineModel", name := "balance", desc := "(I)I" } : Jvm.MethodName) ({ cls := "CashMachineModel", name := "balance", desc := "(I)I" } : Jvm.MethodName)) ∈ ja_T := ja_g (ja_i4 (List.mem_of_getElem? (i := 145) rfl)) rfl
theorem jw_866 : (Jvm.Cond.code ({ cls := "CashMachineModel", name := "balance", desc := "(I)I" } : Jvm.MethodName) prog_12_method_30_code (2 : Nat) (Option.some Jvm.ClassFile.FieldType.int)) ∈ ja_T := ja_g (ja_i4 (List.mem_of_getElem? (i := 146) rfl)) rfl
theorem jw_867 : (Jvm.Cond.methodLink "CashMachineLaw" (128 : Nat) ({ cls := "CashMachineModel", name := "trace", desc := "(II)I" } : Jvm.MethodName)) ∈ ja_T := ja_g (ja_i4 (List.mem_of_getElem? (i := 147) rfl)) rfl
theorem jw_868 : (Jvm.Cond.instanceMethod ({ cls := "CashMachineModel", name := "trace", desc := "(II)I" } : Jvm.MethodName)) ∈ ja_T := ja_g (ja_i4 (List.mem_of_getElem? (i := 148) rfl)) rfl
theorem jw_869 : (Jvm.Cond.selects "CashMachineModel" ({ cls := "CashMachineModel", name := "trace", desc := "(II)I" } : Jvm.MethodName) ({ cls := "CashMachineModel", name := "trace", desc := "(II)I" } : Jvm.MethodName)) ∈ ja_T := ja_g (ja_i4 (List.mem_of_getElem? (i := 149) rfl)) rfl
theorem jw_870 : (Jvm.Cond.code ({ cls := "CashMachineModel", name := "trace", desc := "(II)I" } : Jvm.MethodName) prog_12_method_31_code (3 : Nat) (Option.some Jvm.ClassFile.FieldType.int)) ∈ ja_T := ja_g (ja_i4 (List.mem_of_getElem? (i := 150) rfl)) rfl
theorem jw_871 : (Jvm.Cond.methodLink "CashMachineLaw" (131 : Nat) ({ cls := "CashMachineModel", name := "reversal", desc := "(I)I" } : Jvm.MethodName)) ∈ ja_T := ja_g (ja_i4 (List.mem_of_getElem? (i := 151) rfl)) rfl
theorem jw_872 : (Jvm.Cond.instanceMethod ({ cls := "CashMachineModel", name := "reversal", desc := "(I)I" } : Jvm.MethodName)) ∈ ja_T := ja_g (ja_i4 (List.mem_of_getElem? (i := 152) rfl)) rfl
theorem jw_873 : (Jvm.Cond.selects "CashMachineModel" ({ cls := "CashMachineModel", name := "reversal", desc := "(I)I" } : Jvm.MethodName) ({ cls := "CashMachineModel", name := "reversal", desc := "(I)I" } : Jvm.MethodName)) ∈ ja_T := ja_g (ja_i4 (List.mem_of_getElem? (i := 153) rfl)) rfl
theorem jw_874 : (Jvm.Cond.code ({ cls := "CashMachineModel", name := "reversal", desc := "(I)I" } : Jvm.MethodName) prog_12_method_32_code (2 : Nat) (Option.some Jvm.ClassFile.FieldType.int)) ∈ ja_T := ja_g (ja_i4 (List.mem_of_getElem? (i := 154) rfl)) rfl
theorem jw_875 : (Jvm.Cond.methodLink "CashMachineLaw" (134 : Nat) ({ cls := "CashMachineModel", name := "notes", desc := "(I)I" } : Jvm.MethodName)) ∈ ja_T := ja_g (ja_i4 (List.mem_of_getElem? (i := 155) rfl)) rfl
theorem jw_876 : (Jvm.Cond.instanceMethod ({ cls := "CashMachineModel", name := "notes", desc := "(I)I" } : Jvm.MethodName)) ∈ ja_T := ja_g (ja_i4 (List.mem_of_getElem? (i := 156) rfl)) rfl
theorem jw_877 : (Jvm.Cond.selects "CashMachineModel" ({ cls := "CashMachineModel", name := "notes", desc := "(I)I" } : Jvm.MethodName) ({ cls := "CashMachineModel", name := "notes", desc := "(I)I" } : Jvm.MethodName)) ∈ ja_T := ja_g (ja_i4 (List.mem_of_getElem? (i := 157) rfl)) rfl
theorem jw_878 : (Jvm.Cond.code ({ cls := "CashMachineModel", name := "notes", desc := "(I)I" } : Jvm.MethodName) prog_12_method_33_code (2 : Nat) (Option.some Jvm.ClassFile.FieldType.int)) ∈ ja_T := ja_g (ja_i4 (List.mem_of_getElem? (i := 158) rfl)) rfl
theorem jw_879 : (Jvm.Cond.methodLink "CashMachineLaw" (138 : Nat) ({ cls := "CashMachineModel", name := "difference", desc := "()I" } : Jvm.MethodName)) ∈ ja_T := ja_g (ja_i4 (List.mem_of_getElem? (i := 159) rfl)) rfl
theorem jw_880 : (Jvm.Cond.instanceMethod ({ cls := "CashMachineModel", name := "difference", desc := "()I" } : Jvm.MethodName)) ∈ ja_T := ja_g (ja_i4 (List.mem_of_getElem? (i := 160) rfl)) rfl
theorem jw_881 : (Jvm.Cond.selects "CashMachineModel" ({ cls := "CashMachineModel", name := "difference", desc := "()I" } : Jvm.MethodName) ({ cls := "CashMachineModel", name := "difference", desc := "()I" } : Jvm.MethodName)) ∈ ja_T := ja_g (ja_i4 (List.mem_of_getElem? (i := 161) rfl)) rfl
theorem jw_882 : (Jvm.Cond.code ({ cls := "CashMachineModel", name := "difference", desc := "()I" } : Jvm.MethodName) prog_12_method_34_code (3 : Nat) (Option.some Jvm.ClassFile.FieldType.int)) ∈ ja_T := ja_g (ja_i4 (List.mem_of_getElem? (i := 162) rfl)) rfl
theorem jw_883 : (Jvm.Cond.methodLink "CashMachineLaw" (141 : Nat) ({ cls := "CashMachineModel", name := "count", desc := "(I)I" } : Jvm.MethodName)) ∈ ja_T := ja_g (ja_i4 (List.mem_of_getElem? (i := 163) rfl)) rfl
theorem jw_884 : (Jvm.Cond.instanceMethod ({ cls := "CashMachineModel", name := "count", desc := "(I)I" } : Jvm.MethodName)) ∈ ja_T := ja_g (ja_i4 (List.mem_of_getElem? (i := 164) rfl)) rfl
theorem jw_885 : (Jvm.Cond.selects "CashMachineModel" ({ cls := "CashMachineModel", name := "count", desc := "(I)I" } : Jvm.MethodName) ({ cls := "CashMachineModel", name := "count", desc := "(I)I" } : Jvm.MethodName)) ∈ ja_T := ja_g (ja_i4 (List.mem_of_getElem? (i := 165) rfl)) rfl
theorem jw_886 : (Jvm.Cond.code ({ cls := "CashMachineModel", name := "count", desc := "(I)I" } : Jvm.MethodName) prog_12_method_35_code (4 : Nat) (Option.some Jvm.ClassFile.FieldType.int)) ∈ ja_T := ja_g (ja_i4 (List.mem_of_getElem? (i := 166) rfl)) rfl
theorem jw_887 : (Jvm.Cond.arrayClass Jvm.ClassFile.FieldType.long) ∈ ja_T := ja_g (ja_i4 (List.mem_of_getElem? (i := 167) rfl)) rfl
theorem jw_888 : (Jvm.Cond.sameMethod "java/lang/Throwable" "java/lang/Throwable" "fillInStackTrace" "(I)Ljava/lang/Throwable;") ∈ ja_T := ja_g (ja_i4 (List.mem_of_getElem? (i := 168) rfl)) rfl
theorem jx_A : ∀ w ∈ u_ws jR_A jF_A 6, w ∈ ja_T := by
  show ∀ w ∈ [Jvm.Cond.lays "CashMachine$Account" "CashMachine$Account" "opened" "Z", Jvm.Cond.lays "CashMachine$Account" "CashMachine$Account" "pin" "I", Jvm.Cond.lays "CashMachine$Account" "CashMachine$Account" "openedWith" "I", Jvm.Cond.lays "CashMachine$Account" "CashMachine$Account" "balance" "I", Jvm.Cond.lays "CashMachine$Account" "CashMachine$Account" "triesLeft" "I", Jvm.Cond.lays "CashMachine$Account" "CashMachine$Account" "blocked" "Z"], w ∈ ja_T
  exact List.forall_mem_cons.mpr ⟨jw_58, List.forall_mem_cons.mpr ⟨jw_60, List.forall_mem_cons.mpr ⟨jw_62, List.forall_mem_cons.mpr ⟨jw_64, List.forall_mem_cons.mpr ⟨jw_66, List.forall_mem_cons.mpr ⟨jw_68, fun _ h => absurd h List.not_mem_nil⟩⟩⟩⟩⟩⟩
theorem jx_K : ∀ w ∈ u_ws jR_K jF_K 2, w ∈ ja_T := by
  show ∀ w ∈ [Jvm.Cond.lays "CashMachine$Cassette" "CashMachine$Cassette" "value" "I", Jvm.Cond.lays "CashMachine$Cassette" "CashMachine$Cassette" "notes" "I"], w ∈ ja_T
  exact List.forall_mem_cons.mpr ⟨jw_136, List.forall_mem_cons.mpr ⟨jw_138, fun _ h => absurd h List.not_mem_nil⟩⟩
theorem jx_E : ∀ w ∈ u_ws jR_E jF_E 5, w ∈ ja_T := by
  show ∀ w ∈ [Jvm.Cond.laysFinal "CashMachine$Entry" "CashMachine$Entry" "trace" "I", Jvm.Cond.lays "CashMachine$Entry" "CashMachine$Entry" "account" "I", Jvm.Cond.lays "CashMachine$Entry" "CashMachine$Entry" "amount" "I", Jvm.Cond.lays "CashMachine$Entry" "CashMachine$Entry" "state" "I", Jvm.Cond.lays "CashMachine$Entry" "CashMachine$Entry" "presented" "I"], w ∈ ja_T
  exact List.forall_mem_cons.mpr ⟨jw_190, List.forall_mem_cons.mpr ⟨jw_192, List.forall_mem_cons.mpr ⟨jw_194, List.forall_mem_cons.mpr ⟨jw_196, List.forall_mem_cons.mpr ⟨jw_198, fun _ h => absurd h List.not_mem_nil⟩⟩⟩⟩⟩
theorem jx_H : ∀ w ∈ u_ws jR_H jF_H 4, w ∈ ja_T := by
  show ∀ w ∈ [Jvm.Cond.laysFinal "CashMachine$Host" "CashMachine$Host" "accounts" "[LCashMachine$Account;", Jvm.Cond.laysFinal "CashMachine$Host" "CashMachine$Host" "answers" "[I", Jvm.Cond.laysFinal "CashMachine$Host" "CashMachine$Host" "accountOfTrace" "[I", Jvm.Cond.laysFinal "CashMachine$Host" "CashMachine$Host" "reversed" "[Z"], w ∈ ja_T
  exact List.forall_mem_cons.mpr ⟨jw_78, List.forall_mem_cons.mpr ⟨jw_80, List.forall_mem_cons.mpr ⟨jw_82, List.forall_mem_cons.mpr ⟨jw_84, fun _ h => absurd h List.not_mem_nil⟩⟩⟩⟩
theorem jx_N : ∀ w ∈ u_ws jR_N jF_N 2, w ∈ ja_T := by
  show ∀ w ∈ [Jvm.Cond.laysFinal "CashMachine$Line" "CashMachine$Line" "fates" "[I", Jvm.Cond.lays "CashMachine$Line" "CashMachine$Line" "size" "I"], w ∈ ja_T
  exact List.forall_mem_cons.mpr ⟨jw_96, List.forall_mem_cons.mpr ⟨jw_98, fun _ h => absurd h List.not_mem_nil⟩⟩
theorem jx_D : ∀ w ∈ u_ws jR_D jF_D 6, w ∈ ja_T := by
  show ∀ w ∈ [Jvm.Cond.laysFinal "CashMachine$Dispenser" "CashMachine$Dispenser" "cassettes" "[LCashMachine$Cassette;", Jvm.Cond.laysFinal "CashMachine$Dispenser" "CashMachine$Dispenser" "mix" "LCashMachine$Mix;", Jvm.Cond.lays "CashMachine$Dispenser" "CashMachine$Dispenser" "jam" "I", Jvm.Cond.lays "CashMachine$Dispenser" "CashMachine$Dispenser" "presentedInAll" "I", Jvm.Cond.lays "CashMachine$Dispenser" "CashMachine$Dispenser" "lastTrace" "I", Jvm.Cond.lays "CashMachine$Dispenser" "CashMachine$Dispenser" "lastPresented" "I"], w ∈ ja_T
  exact List.forall_mem_cons.mpr ⟨jw_151, List.forall_mem_cons.mpr ⟨jw_153, List.forall_mem_cons.mpr ⟨jw_155, List.forall_mem_cons.mpr ⟨jw_157, List.forall_mem_cons.mpr ⟨jw_159, List.forall_mem_cons.mpr ⟨jw_161, fun _ h => absurd h List.not_mem_nil⟩⟩⟩⟩⟩⟩
theorem jx_J : ∀ w ∈ u_ws jR_J jF_J 2, w ∈ ja_T := by
  show ∀ w ∈ [Jvm.Cond.laysFinal "CashMachine$Journal" "CashMachine$Journal" "entries" "[LCashMachine$Entry;", Jvm.Cond.lays "CashMachine$Journal" "CashMachine$Journal" "size" "I"], w ∈ ja_T
  exact List.forall_mem_cons.mpr ⟨jw_205, List.forall_mem_cons.mpr ⟨jw_207, fun _ h => absurd h List.not_mem_nil⟩⟩
theorem jx_R : ∀ w ∈ u_ws jR_R jF_R 3, w ∈ ja_T := by
  show ∀ w ∈ [Jvm.Cond.laysFinal "CashMachine$Reversals" "CashMachine$Reversals" "traces" "[I", Jvm.Cond.laysFinal "CashMachine$Reversals" "CashMachine$Reversals" "amounts" "[I", Jvm.Cond.lays "CashMachine$Reversals" "CashMachine$Reversals" "size" "I"], w ∈ ja_T
  exact List.forall_mem_cons.mpr ⟨jw_222, List.forall_mem_cons.mpr ⟨jw_224, List.forall_mem_cons.mpr ⟨jw_226, fun _ h => absurd h List.not_mem_nil⟩⟩⟩
theorem jx_X : ∀ w ∈ u_ws jR_X jF_X 2, w ∈ ja_T := by
  show ∀ w ∈ [Jvm.Cond.laysFinal "CashMachine$Mix" "CashMachine$Mix" "taken" "[I", Jvm.Cond.laysFinal "CashMachine$Mix" "CashMachine$Mix" "rankOfLastTwo" "[I"], w ∈ ja_T
  exact List.forall_mem_cons.mpr ⟨jw_119, List.forall_mem_cons.mpr ⟨jw_121, fun _ h => absurd h List.not_mem_nil⟩⟩
theorem jx_C : ∀ w ∈ u_ws jR_C jF_C 9, w ∈ ja_T := by
  show ∀ w ∈ [Jvm.Cond.laysFinal "CashMachine" "CashMachine" "host" "LCashMachine$Host;", Jvm.Cond.laysFinal "CashMachine" "CashMachine" "line" "LCashMachine$Line;", Jvm.Cond.laysFinal "CashMachine" "CashMachine" "dispenser" "LCashMachine$Dispenser;", Jvm.Cond.laysFinal "CashMachine" "CashMachine" "journal" "LCashMachine$Journal;", Jvm.Cond.laysFinal "CashMachine" "CashMachine" "pending" "LCashMachine$Reversals;", Jvm.Cond.lays "CashMachine" "CashMachine" "on" "Z", Jvm.Cond.lays "CashMachine" "CashMachine" "session" "I", Jvm.Cond.lays "CashMachine" "CashMachine" "verified" "Z", Jvm.Cond.lays "CashMachine" "CashMachine" "failurePlace" "I"], w ∈ ja_T
  exact List.forall_mem_cons.mpr ⟨jw_238, List.forall_mem_cons.mpr ⟨jw_240, List.forall_mem_cons.mpr ⟨jw_242, List.forall_mem_cons.mpr ⟨jw_244, List.forall_mem_cons.mpr ⟨jw_246, List.forall_mem_cons.mpr ⟨jw_248, List.forall_mem_cons.mpr ⟨jw_250, List.forall_mem_cons.mpr ⟨jw_252, List.forall_mem_cons.mpr ⟨jw_254, fun _ h => absurd h List.not_mem_nil⟩⟩⟩⟩⟩⟩⟩⟩⟩
theorem jx_M : ∀ w ∈ u_ws jR_M jF_M 30, w ∈ ja_T := by
  show ∀ w ∈ [Jvm.Cond.lays "CashMachineModel" "CashMachineModel" "thrown" "I", Jvm.Cond.laysFinal "CashMachineModel" "CashMachineModel" "opened" "[Z", Jvm.Cond.laysFinal "CashMachineModel" "CashMachineModel" "pins" "[I", Jvm.Cond.laysFinal "CashMachineModel" "CashMachineModel" "first" "[I", Jvm.Cond.laysFinal "CashMachineModel" "CashMachineModel" "balances" "[I", Jvm.Cond.laysFinal "CashMachineModel" "CashMachineModel" "tries" "[I", Jvm.Cond.laysFinal "CashMachineModel" "CashMachineModel" "blocked" "[Z", Jvm.Cond.laysFinal "CashMachineModel" "CashMachineModel" "values" "[I", Jvm.Cond.laysFinal "CashMachineModel" "CashMachineModel" "counts" "[I", Jvm.Cond.laysFinal "CashMachineModel" "CashMachineModel" "best" "[I", Jvm.Cond.lays "CashMachineModel" "CashMachineModel" "down" "Z", Jvm.Cond.lays "CashMachineModel" "CashMachineModel" "session" "I", Jvm.Cond.lays "CashMachineModel" "CashMachineModel" "verified" "Z", Jvm.Cond.laysFinal "CashMachineModel" "CashMachineModel" "state" "[I", Jvm.Cond.laysFinal "CashMachineModel" "CashMachineModel" "account" "[I", Jvm.Cond.laysFinal "CashMachineModel" "CashMachineModel" "amount" "[I", Jvm.Cond.laysFinal "CashMachineModel" "CashMachineModel" "presented" "[I", Jvm.Cond.laysFinal "CashMachineModel" "CashMachineModel" "known" "[I", Jvm.Cond.laysFinal "CashMachineModel" "CashMachineModel" "reversed" "[Z", Jvm.Cond.lays "CashMachineModel" "CashMachineModel" "traces" "I", Jvm.Cond.laysFinal "CashMachineModel" "CashMachineModel" "pendingTrace" "[I", Jvm.Cond.laysFinal "CashMachineModel" "CashMachineModel" "pendingAmount" "[I", Jvm.Cond.lays "CashMachineModel" "CashMachineModel" "pending" "I", Jvm.Cond.laysFinal "CashMachineModel" "CashMachineModel" "fates" "[I", Jvm.Cond.lays "CashMachineModel" "CashMachineModel" "coming" "I", Jvm.Cond.lays "CashMachineModel" "CashMachineModel" "jam" "I", Jvm.Cond.lays "CashMachineModel" "CashMachineModel" "power" "I", Jvm.Cond.lays "CashMachineModel" "CashMachineModel" "paidTrace" "I", Jvm.Cond.lays "CashMachineModel" "CashMachineModel" "paidValue" "I", Jvm.Cond.lays "CashMachineModel" "CashMachineModel" "paidAll" "I"], w ∈ ja_T
  exact List.forall_mem_cons.mpr ⟨jw_690, List.forall_mem_cons.mpr ⟨jw_692, List.forall_mem_cons.mpr ⟨jw_694, List.forall_mem_cons.mpr ⟨jw_696, List.forall_mem_cons.mpr ⟨jw_698, List.forall_mem_cons.mpr ⟨jw_700, List.forall_mem_cons.mpr ⟨jw_702, List.forall_mem_cons.mpr ⟨jw_704, List.forall_mem_cons.mpr ⟨jw_706, List.forall_mem_cons.mpr ⟨jw_708, List.forall_mem_cons.mpr ⟨jw_710, List.forall_mem_cons.mpr ⟨jw_712, List.forall_mem_cons.mpr ⟨jw_714, List.forall_mem_cons.mpr ⟨jw_716, List.forall_mem_cons.mpr ⟨jw_718, List.forall_mem_cons.mpr ⟨jw_720, List.forall_mem_cons.mpr ⟨jw_722, List.forall_mem_cons.mpr ⟨jw_724, List.forall_mem_cons.mpr ⟨jw_726, List.forall_mem_cons.mpr ⟨jw_728, List.forall_mem_cons.mpr ⟨jw_730, List.forall_mem_cons.mpr ⟨jw_732, List.forall_mem_cons.mpr ⟨jw_734, List.forall_mem_cons.mpr ⟨jw_736, List.forall_mem_cons.mpr ⟨jw_738, List.forall_mem_cons.mpr ⟨jw_740, List.forall_mem_cons.mpr ⟨jw_742, List.forall_mem_cons.mpr ⟨jw_744, List.forall_mem_cons.mpr ⟨jw_746, List.forall_mem_cons.mpr ⟨jw_748, fun _ h => absurd h List.not_mem_nil⟩⟩⟩⟩⟩⟩⟩⟩⟩⟩⟩⟩⟩⟩⟩⟩⟩⟩⟩⟩⟩⟩⟩⟩⟩⟩⟩⟩⟩⟩
end
