section
-- ===== PART A: goes FIRST, ahead of the names: the tables' words, and 'selects' of the private methods out of them =====
/-- a private method of a class that the tables say can be made, by its rows of tables_1 -/
def lw_okq (q : MethodName × Nat) : Prop := (q.1.cls ≠ "java/lang/invoke/MethodHandle" ∧ q.1.cls ≠ "java/lang/invoke/VarHandle") ∧ Cond.instantiable q.1.cls q.2 ∈ tables_1 ∧ Cond.privateMethod q.1 ∈ tables_1 ∧ Cond.instanceMethod q.1 ∈ tables_1
theorem lw_p0 : lw_okq (⟨"java/lang/Throwable", "fillInStackTrace", "(I)Ljava/lang/Throwable;"⟩, 6) := ⟨⟨by decide +kernel, by decide +kernel⟩, List.mem_of_getElem? (i := 319) (by decide +kernel), List.mem_of_getElem? (i := 317) (by decide +kernel), List.mem_of_getElem? (i := 318) (by decide +kernel)⟩
theorem lw_p1 : lw_okq (⟨"CashMachine", "endSession", "()V"⟩, 9) := ⟨⟨by decide +kernel, by decide +kernel⟩, List.mem_of_getElem? (i := 24) (by decide +kernel), List.mem_of_getElem? (i := 433) (by decide +kernel), List.mem_of_getElem? (i := 434) (by decide +kernel)⟩
theorem lw_p2 : lw_okq (⟨"CashMachine$Mix", "rankLastTwo", "(LCashMachine$Cassette;LCashMachine$Cassette;I)V"⟩, 2) := ⟨⟨by decide +kernel, by decide +kernel⟩, List.mem_of_getElem? (i := 110) (by decide +kernel), List.mem_of_getElem? (i := 460) (by decide +kernel), List.mem_of_getElem? (i := 461) (by decide +kernel)⟩
theorem lw_p3 : lw_okq (⟨"CashMachine$Mix", "keep", "(III)V"⟩, 2) := ⟨⟨by decide +kernel, by decide +kernel⟩, List.mem_of_getElem? (i := 110) (by decide +kernel), List.mem_of_getElem? (i := 471) (by decide +kernel), List.mem_of_getElem? (i := 472) (by decide +kernel)⟩
theorem lw_p4 : lw_okq (⟨"CashMachine", "request", "(LCashMachine$Entry;)I"⟩, 9) := ⟨⟨by decide +kernel, by decide +kernel⟩, List.mem_of_getElem? (i := 24) (by decide +kernel), List.mem_of_getElem? (i := 494) (by decide +kernel), List.mem_of_getElem? (i := 495) (by decide +kernel)⟩
theorem lw_p5 : lw_okq (⟨"CashMachine", "failsAt", "(I)Z"⟩, 9) := ⟨⟨by decide +kernel, by decide +kernel⟩, List.mem_of_getElem? (i := 24) (by decide +kernel), List.mem_of_getElem? (i := 498) (by decide +kernel), List.mem_of_getElem? (i := 499) (by decide +kernel)⟩
theorem lw_p6 : lw_okq (⟨"CashMachine", "exchangeRequest", "(LCashMachine$Entry;)I"⟩, 9) := ⟨⟨by decide +kernel, by decide +kernel⟩, List.mem_of_getElem? (i := 24) (by decide +kernel), List.mem_of_getElem? (i := 502) (by decide +kernel), List.mem_of_getElem? (i := 503) (by decide +kernel)⟩
theorem lw_p7 : lw_okq (⟨"CashMachine$Host", "decide", "(ILCashMachine$Account;I)I"⟩, 4) := ⟨⟨by decide +kernel, by decide +kernel⟩, List.mem_of_getElem? (i := 32) (by decide +kernel), List.mem_of_getElem? (i := 517) (by decide +kernel), List.mem_of_getElem? (i := 518) (by decide +kernel)⟩
theorem lw_p8 : lw_okq (⟨"CashMachine", "giveUp", "(LCashMachine$Entry;)V"⟩, 9) := ⟨⟨by decide +kernel, by decide +kernel⟩, List.mem_of_getElem? (i := 24) (by decide +kernel), List.mem_of_getElem? (i := 521) (by decide +kernel), List.mem_of_getElem? (i := 522) (by decide +kernel)⟩
theorem lw_p9 : lw_okq (⟨"CashMachine", "present", "(LCashMachine$Entry;)I"⟩, 9) := ⟨⟨by decide +kernel, by decide +kernel⟩, List.mem_of_getElem? (i := 24) (by decide +kernel), List.mem_of_getElem? (i := 529) (by decide +kernel), List.mem_of_getElem? (i := 530) (by decide +kernel)⟩
theorem lw_p10 : lw_okq (⟨"CashMachine$Dispenser", "nextCassette", "()I"⟩, 6) := ⟨⟨by decide +kernel, by decide +kernel⟩, List.mem_of_getElem? (i := 102) (by decide +kernel), List.mem_of_getElem? (i := 537) (by decide +kernel), List.mem_of_getElem? (i := 538) (by decide +kernel)⟩
theorem lw_p11 : lw_okq (⟨"CashMachine", "finish", "(LCashMachine$Entry;I)V"⟩, 9) := ⟨⟨by decide +kernel, by decide +kernel⟩, List.mem_of_getElem? (i := 24) (by decide +kernel), List.mem_of_getElem? (i := 541) (by decide +kernel), List.mem_of_getElem? (i := 542) (by decide +kernel)⟩
theorem lw_p12 : lw_okq (⟨"CashMachine", "recover", "(LCashMachine$Entry;)V"⟩, 9) := ⟨⟨by decide +kernel, by decide +kernel⟩, List.mem_of_getElem? (i := 24) (by decide +kernel), List.mem_of_getElem? (i := 588) (by decide +kernel), List.mem_of_getElem? (i := 589) (by decide +kernel)⟩
theorem lw_p13 : lw_okq (⟨"CashMachine", "exchangeReversal", "(I)Z"⟩, 9) := ⟨⟨by decide +kernel, by decide +kernel⟩, List.mem_of_getElem? (i := 24) (by decide +kernel), List.mem_of_getElem? (i := 603) (by decide +kernel), List.mem_of_getElem? (i := 604) (by decide +kernel)⟩
theorem lw_p14 : lw_okq (⟨"CashMachineModel", "fail", "(I)I"⟩, 30) := ⟨⟨by decide +kernel, by decide +kernel⟩, List.mem_of_getElem? (i := 655) (by decide +kernel), List.mem_of_getElem? (i := 764) (by decide +kernel), List.mem_of_getElem? (i := 765) (by decide +kernel)⟩
theorem lw_p15 : lw_okq (⟨"CashMachineModel", "mixed", "(I)Z"⟩, 30) := ⟨⟨by decide +kernel, by decide +kernel⟩, List.mem_of_getElem? (i := 655) (by decide +kernel), List.mem_of_getElem? (i := 788) (by decide +kernel), List.mem_of_getElem? (i := 789) (by decide +kernel)⟩
def lw_privs_1 : List (MethodName × Nat) := [(⟨"java/lang/Throwable", "fillInStackTrace", "(I)Ljava/lang/Throwable;"⟩, 6), (⟨"CashMachine", "endSession", "()V"⟩, 9), (⟨"CashMachine$Mix", "rankLastTwo", "(LCashMachine$Cassette;LCashMachine$Cassette;I)V"⟩, 2), (⟨"CashMachine$Mix", "keep", "(III)V"⟩, 2), (⟨"CashMachine", "request", "(LCashMachine$Entry;)I"⟩, 9), (⟨"CashMachine", "failsAt", "(I)Z"⟩, 9), (⟨"CashMachine", "exchangeRequest", "(LCashMachine$Entry;)I"⟩, 9), (⟨"CashMachine$Host", "decide", "(ILCashMachine$Account;I)I"⟩, 4), (⟨"CashMachine", "giveUp", "(LCashMachine$Entry;)V"⟩, 9), (⟨"CashMachine", "present", "(LCashMachine$Entry;)I"⟩, 9), (⟨"CashMachine$Dispenser", "nextCassette", "()I"⟩, 6), (⟨"CashMachine", "finish", "(LCashMachine$Entry;I)V"⟩, 9), (⟨"CashMachine", "recover", "(LCashMachine$Entry;)V"⟩, 9), (⟨"CashMachine", "exchangeReversal", "(I)Z"⟩, 9), (⟨"CashMachineModel", "fail", "(I)I"⟩, 30), (⟨"CashMachineModel", "mixed", "(I)Z"⟩, 30)]
theorem lw_r1 : ∀ q ∈ lw_privs_1, lw_okq q := List.forall_mem_cons.mpr ⟨lw_p0, List.forall_mem_cons.mpr ⟨lw_p1, List.forall_mem_cons.mpr ⟨lw_p2, List.forall_mem_cons.mpr ⟨lw_p3, List.forall_mem_cons.mpr ⟨lw_p4, List.forall_mem_cons.mpr ⟨lw_p5, List.forall_mem_cons.mpr ⟨lw_p6, List.forall_mem_cons.mpr ⟨lw_p7, List.forall_mem_cons.mpr ⟨lw_p8, List.forall_mem_cons.mpr ⟨lw_p9, List.forall_mem_cons.mpr ⟨lw_p10, List.forall_mem_cons.mpr ⟨lw_p11, List.forall_mem_cons.mpr ⟨lw_p12, List.forall_mem_cons.mpr ⟨lw_p13, List.forall_mem_cons.mpr ⟨lw_p14, List.forall_mem_cons.mpr ⟨lw_p15, fun _ h => absurd h List.not_mem_nil⟩⟩⟩⟩⟩⟩⟩⟩⟩⟩⟩⟩⟩⟩⟩⟩
theorem lw_p16 : lw_okq (⟨"CashMachineModel", "thirds", "(IIIZ)Z"⟩, 30) := ⟨⟨by decide +kernel, by decide +kernel⟩, List.mem_of_getElem? (i := 655) (by decide +kernel), List.mem_of_getElem? (i := 792) (by decide +kernel), List.mem_of_getElem? (i := 793) (by decide +kernel)⟩
theorem lw_p17 : lw_okq (⟨"CashMachineModel", "better", "(IIIIZ)Z"⟩, 30) := ⟨⟨by decide +kernel, by decide +kernel⟩, List.mem_of_getElem? (i := 655) (by decide +kernel), List.mem_of_getElem? (i := 796) (by decide +kernel), List.mem_of_getElem? (i := 797) (by decide +kernel)⟩
theorem lw_p18 : lw_okq (⟨"CashMachineModel", "notesOf", "(IIII)I"⟩, 30) := ⟨⟨by decide +kernel, by decide +kernel⟩, List.mem_of_getElem? (i := 655) (by decide +kernel), List.mem_of_getElem? (i := 800) (by decide +kernel), List.mem_of_getElem? (i := 801) (by decide +kernel)⟩
theorem lw_p19 : lw_okq (⟨"CashMachineModel", "give", "(I)I"⟩, 30) := ⟨⟨by decide +kernel, by decide +kernel⟩, List.mem_of_getElem? (i := 655) (by decide +kernel), List.mem_of_getElem? (i := 804) (by decide +kernel), List.mem_of_getElem? (i := 805) (by decide +kernel)⟩
theorem lw_p20 : lw_okq (⟨"CashMachineModel", "cut", "(I)Z"⟩, 30) := ⟨⟨by decide +kernel, by decide +kernel⟩, List.mem_of_getElem? (i := 655) (by decide +kernel), List.mem_of_getElem? (i := 808) (by decide +kernel), List.mem_of_getElem? (i := 809) (by decide +kernel)⟩
theorem lw_p21 : lw_okq (⟨"CashMachineModel", "fate", "()I"⟩, 30) := ⟨⟨by decide +kernel, by decide +kernel⟩, List.mem_of_getElem? (i := 655) (by decide +kernel), List.mem_of_getElem? (i := 812) (by decide +kernel), List.mem_of_getElem? (i := 813) (by decide +kernel)⟩
theorem lw_p22 : lw_okq (⟨"CashMachineModel", "request", "(I)V"⟩, 30) := ⟨⟨by decide +kernel, by decide +kernel⟩, List.mem_of_getElem? (i := 655) (by decide +kernel), List.mem_of_getElem? (i := 816) (by decide +kernel), List.mem_of_getElem? (i := 817) (by decide +kernel)⟩
theorem lw_p23 : lw_okq (⟨"CashMachineModel", "owe", "(II)V"⟩, 30) := ⟨⟨by decide +kernel, by decide +kernel⟩, List.mem_of_getElem? (i := 655) (by decide +kernel), List.mem_of_getElem? (i := 820) (by decide +kernel), List.mem_of_getElem? (i := 821) (by decide +kernel)⟩
theorem lw_p24 : lw_okq (⟨"CashMachineModel", "pay", "(I)V"⟩, 30) := ⟨⟨by decide +kernel, by decide +kernel⟩, List.mem_of_getElem? (i := 655) (by decide +kernel), List.mem_of_getElem? (i := 824) (by decide +kernel), List.mem_of_getElem? (i := 825) (by decide +kernel)⟩
theorem lw_p25 : lw_okq (⟨"CashMachineModel", "greatest", "(I)I"⟩, 30) := ⟨⟨by decide +kernel, by decide +kernel⟩, List.mem_of_getElem? (i := 655) (by decide +kernel), List.mem_of_getElem? (i := 828) (by decide +kernel), List.mem_of_getElem? (i := 829) (by decide +kernel)⟩
theorem lw_p26 : lw_okq (⟨"CashMachineModel", "finish", "(II)V"⟩, 30) := ⟨⟨by decide +kernel, by decide +kernel⟩, List.mem_of_getElem? (i := 655) (by decide +kernel), List.mem_of_getElem? (i := 832) (by decide +kernel), List.mem_of_getElem? (i := 833) (by decide +kernel)⟩
theorem lw_p27 : lw_okq (⟨"CashMachineModel", "reversalCame", "(II)V"⟩, 30) := ⟨⟨by decide +kernel, by decide +kernel⟩, List.mem_of_getElem? (i := 655) (by decide +kernel), List.mem_of_getElem? (i := 860) (by decide +kernel), List.mem_of_getElem? (i := 861) (by decide +kernel)⟩
def lw_privs_2 : List (MethodName × Nat) := [(⟨"CashMachineModel", "thirds", "(IIIZ)Z"⟩, 30), (⟨"CashMachineModel", "better", "(IIIIZ)Z"⟩, 30), (⟨"CashMachineModel", "notesOf", "(IIII)I"⟩, 30), (⟨"CashMachineModel", "give", "(I)I"⟩, 30), (⟨"CashMachineModel", "cut", "(I)Z"⟩, 30), (⟨"CashMachineModel", "fate", "()I"⟩, 30), (⟨"CashMachineModel", "request", "(I)V"⟩, 30), (⟨"CashMachineModel", "owe", "(II)V"⟩, 30), (⟨"CashMachineModel", "pay", "(I)V"⟩, 30), (⟨"CashMachineModel", "greatest", "(I)I"⟩, 30), (⟨"CashMachineModel", "finish", "(II)V"⟩, 30), (⟨"CashMachineModel", "reversalCame", "(II)V"⟩, 30)]
theorem lw_r2 : ∀ q ∈ lw_privs_2, lw_okq q := List.forall_mem_cons.mpr ⟨lw_p16, List.forall_mem_cons.mpr ⟨lw_p17, List.forall_mem_cons.mpr ⟨lw_p18, List.forall_mem_cons.mpr ⟨lw_p19, List.forall_mem_cons.mpr ⟨lw_p20, List.forall_mem_cons.mpr ⟨lw_p21, List.forall_mem_cons.mpr ⟨lw_p22, List.forall_mem_cons.mpr ⟨lw_p23, List.forall_mem_cons.mpr ⟨lw_p24, List.forall_mem_cons.mpr ⟨lw_p25, List.forall_mem_cons.mpr ⟨lw_p26, List.forall_mem_cons.mpr ⟨lw_p27, fun _ h => absurd h List.not_mem_nil⟩⟩⟩⟩⟩⟩⟩⟩⟩⟩⟩⟩
def lw_privs : List (MethodName × Nat) := lw_privs_1 ++ (lw_privs_2)
def lw_tbl : List Cond := k2_sels lw_privs ++ tables_1
theorem lw_privs_ok : ∀ q ∈ lw_privs, lw_okq q := by
  show ∀ q ∈ lw_privs_1 ++ (lw_privs_2), lw_okq q
  exact List.forall_mem_append.mpr ⟨lw_r1, lw_r2⟩
-- ===== end of PART A; then your names; then what follows =====
/-! THE CLAIM OUT OF ONE WALK OF THE LAW'S BODY. Your part is whole_start (and what it stands on); all else here is the same for every law, but numbers. -/
def R_law : String := "CashMachineLaw"
def lw_P (b : Addr) (xs : List Int32) (args : Array Value) (s : State) : Prop := args = #[.ref b] ∧ s.IntsAt b xs ∧ xs.length ≤ 2048 ∧ (Jvm.Cond.and given_1 narrow_1).before args s = true
def lw_Q (_ : Array Value) (s : State) (o : Outcome) (t : State) : Prop := o = .returned (some (.int 1)) ∧ Framed s o t [] 601024 7293034
def lw_Z (below : List Frame) (a : Array Value) (s : State) : State → Prop := fun t => ∃ o, t.status = .running ∧ Ended t below o ∧ lw_Q a s o t
/-- the law's own end, with 1 on the stack, nothing written that was there before, its room as the claim has it -/
theorem lw_ret {p : Program} {l : Launch} {e : Env} {s : State} {m : MethodId} {below : List Frame} {meth : Method} {c : Code} {b : Nat} (hx : p.tables.exec = Jvm.exec) (hb : c.code = code) (hr : meth.sig.returnType = ret) (hlocks : meth.locks = false) {pc : Nat} {H : Heap} {ls : Array Slot} (hdg : decode code pc = .ok (.ireturn, 1)) : W p l e room_1 s m #[Value.ref b] below meth c H [] 601024 7293034 (lw_Z below #[Value.ref b] s) (F0 m pc ls [.int 1]) := by
  intro T hT X
  obtain ⟨fs, hret, hrun, hended, hW, hframe⟩ := X.leave (v := some (.int 1)) (hlocks := hlocks) (fun h => by rw [hr] at h; cases h)
  have hmeth' : T.vm.method? m = some meth := X.method'
  refine ⟨T.setFrames fs, ?_, .returned (some (.int 1)), hrun, hended, rfl, ⟨_, rfl⟩, hW, hframe⟩
  jvm_step X.here [X.here.top, hx, hb, hdg, hmeth', hr, ret, narrow_b1]
  (try refine ⟨rfl, ?_⟩); (try refine ⟨rfl, ?_⟩)
  first | (intro acts; rw [hret _ acts rfl rfl rfl]) | rw [hret _ _ rfl rfl rfl]
  exact Steps.refl _
/-- what holds at the law's entry: the machine, the code, the tables' words (any of lw_tbl by 'hts w (by decide +kernel)'), the script of L ints xs at the cell b, what the Statement gives of the start (any of its parts by flat_of_before) -/
def lw_At (p : Program) (s : State) (m : MethodId) (meth : Method) (c : Code) (b L : Nat) (xs : Nat → Int32) : Prop :=
  p.tables.exec = Jvm.exec ∧ c.code = code ∧ meth.sig.returnType = ret ∧ c.maxLocals = 7 ∧ s.vm.findClass R_law = some m.cls ∧ (∀ w ∈ lw_tbl, w.before #[Value.ref b] s = true) ∧ va_X b L xs s s.heap ∧ b < s.heap.size ∧ meth.locks = false ∧ (Jvm.Cond.and given_1 narrow_1).before #[Value.ref b] s = true
end
section
/-! THE LAYER: a method's frame with its locals as a list (the first entry of a number counts), its world as a predicate of numbers. A row an instruction. -/
def ja_T : List Cond := lw_tbl.filter goodWord
abbrev ja_S : Type := Nat → Nat → Int32
def ja_lk : List (Nat × Value) → Nat → Option Value
  | [], _ => none
  | (j, v) :: t, i => match Nat.beq j i with
    | true => some v
    | false => ja_lk t i
def ja_nd : List (Nat × Value) → List (Nat × Value)
  | [] => []
  | (i, v) :: t => (i, v) :: (ja_nd t).filter (fun q => !(q.1 == i))
def ja_L (ls : Array Slot) (n : Nat) (L : List (Nat × Value)) : Prop := lv_has ls n (ja_nd L) ∧ ∀ q ∈ L, q.2.category = 1
theorem ja_nd_mem : ∀ {L : List (Nat × Value)} {q : Nat × Value}, q ∈ ja_nd L → q ∈ L
  | [], _, h => h
  | (i, v) :: t, q, h => by
    rcases List.mem_cons.mp h with h | h
    · exact h ▸ List.mem_cons_self
    · exact List.mem_cons_of_mem _ (ja_nd_mem ((List.mem_filter.mp h).1))
theorem ja_lk_mem : ∀ {L : List (Nat × Value)} {i : Nat} {v : Value}, ja_lk L i = some v → (i, v) ∈ ja_nd L
  | [], _, _, h => by cases h
  | (j, w) :: t, i, v, h => by
    unfold ja_lk at h
    cases hb : Nat.beq j i with
    | true =>
      rw [hb] at h
      have e1 : j = i := Nat.eq_of_beq_eq_true hb
      have e2 : w = v := Option.some.inj h
      subst e1; subst e2
      exact List.mem_cons_self
    | false =>
      rw [hb] at h
      have e1 : j ≠ i := Nat.ne_of_beq_eq_false hb
      refine List.mem_cons_of_mem _ (List.mem_filter.mpr ⟨ja_lk_mem h, ?_⟩)
      simpa using fun q => e1 q.symm
theorem ja_at {ls : Array Slot} {n i : Nat} {L : List (Nat × Value)} {v : Value} (h : ja_L ls n L) (k : ja_lk L i = some v) : ls[i]? = some (.val v) := h.1.2.2 (i, v) (ja_lk_mem k)
theorem ja_st {ls : Array Slot} {n i : Nat} {L : List (Nat × Value)} {v : Value} (h : ja_L ls n L) : (i, v) :: (ja_nd L).filter (fun q => !(q.1 == i) && !(q.1 + 1 == i && q.2.category == 2)) = ja_nd ((i, v) :: L) := by
  show _ = (i, v) :: (ja_nd L).filter (fun q => !(q.1 == i))
  congr 1
  refine List.filter_congr fun q hq => ?_
  have := h.2 q (ja_nd_mem hq)
  simp [this]
theorem ja_L.cons {ls ls' : Array Slot} {n i : Nat} {L : List (Nat × Value)} {v : Value} (h : ja_L ls n L) (hv : v.category = 1) (h' : lv_has ls' n (ja_nd ((i, v) :: L))) : ja_L ls' n ((i, v) :: L) :=
  ⟨h', fun q hq => by
    rcases List.mem_cons.mp hq with e | e
    · subst e; exact hv
    · exact h.2 q e⟩
/-- fewer locals: each of the new list is what the old one holds -/
def ja_sub (L : List (Nat × Value)) : List (Nat × Value) → Prop
  | [] => True
  | q :: t => ja_lk L q.1 = some q.2 ∧ ja_sub L t
theorem ja_sub_mem {L : List (Nat × Value)} : ∀ {L' : List (Nat × Value)}, ja_sub L L' → ∀ q ∈ L', ja_lk L q.1 = some q.2
  | [], _, _, h => by cases h
  | q :: t, hs, r, hr => by
    rcases List.mem_cons.mp hr with e | e
    · subst e; exact hs.1
    · exact ja_sub_mem hs.2 r e
theorem ja_L.less {ls : Array Slot} {n : Nat} {L L' : List (Nat × Value)} (h : ja_L ls n L) (hs : ja_sub L L') : ja_L ls n L' :=
  ⟨⟨h.1.1, h.1.2.1, fun q hq => h.1.2.2 q (ja_lk_mem (ja_sub_mem hs q (ja_nd_mem hq)))⟩, fun q hq => h.2 q (ja_nd_mem (ja_lk_mem (ja_sub_mem hs q hq)))⟩
section JA
variable {p : Program} {l : Launch} {e : Env} {R : Room} {s : State} {m : MethodId} {args : Array Value} {below : List Frame} {meth : Method} {c : Code} {Wp : ja_S → Heap → Prop} {b0 nL cells slots : Nat} {Q : State → Prop} {S : ja_S} {pc q : Nat} {L : List (Nat × Value)} {st : List Value} {cc : ByteArray} {own : String}
def ja_V (p : Program) (l : Launch) (e : Env) (R : Room) (s : State) (m : MethodId) (args : Array Value) (below : List Frame) (meth : Method) (c : Code) (Wp : ja_S → Heap → Prop) (b0 nL cells slots : Nat) (Q : State → Prop) (S : ja_S) (pc : Nat) (L : List (Nat × Value)) (st : List Value) : Prop :=
  ∀ (ls : Array Slot) (H : Heap) (locs : List Loc), ja_L ls nL L → Wp S H → va_S (fun q => b0 ≤ q) s.heap H locs → W p l e R s m args below meth c H locs cells slots Q (F0 m pc ls st)
theorem ja_less {L' : List (Nat × Value)} (h : ja_sub L L') (k : ja_V p l e R s m args below meth c Wp b0 nL cells slots Q S pc L' st) : ja_V p l e R s m args below meth c Wp b0 nL cells slots Q S pc L st := fun ls H locs hL hP hS => k ls H locs (hL.less h) hP hS
theorem ja_wide {k n : Nat} (h1 : cells ≤ k) (h2 : slots ≤ n) (kk : ja_V p l e R s m args below meth c Wp b0 nL k n Q S pc L st) : ja_V p l e R s m args below meth c Wp b0 nL cells slots Q S pc L st := fun ls H locs hL hP hS => W.widen h1 h2 (kk ls H locs hL hP hS)

theorem ja_iconst {X : Prop} (O : CallFix p m c cc nL s args ja_T own ∧ X) {n : Int} {v : Int32} (hd : decode cc pc = .ok (.iconst n, 1)) (hp : pc + 1 = q) (hv : Int32.ofInt n = v) (k : ja_V p l e R s m args below meth c Wp b0 nL cells slots Q S q L (.int v :: st)) : ja_V p l e R s m args below meth c Wp b0 nL cells slots Q S pc L (st) := by
  subst hp; exact fun ls H locs hL hP hS => lv_iconst O.1.1 O.1.2.1 hd hv (k ls H locs hL hP hS)
theorem ja_bipush {X : Prop} (O : CallFix p m c cc nL s args ja_T own ∧ X) {n : Int} {v : Int32} (hd : decode cc pc = .ok (.bipush n, 2)) (hp : pc + 2 = q) (hv : (Int8.ofInt n).toInt32 = v) (k : ja_V p l e R s m args below meth c Wp b0 nL cells slots Q S q L (.int v :: st)) : ja_V p l e R s m args below meth c Wp b0 nL cells slots Q S pc L (st) := by
  subst hp; exact fun ls H locs hL hP hS => lv_bipush O.1.1 O.1.2.1 hd hv (k ls H locs hL hP hS)
theorem ja_sipush {X : Prop} (O : CallFix p m c cc nL s args ja_T own ∧ X) {n : Int} {v : Int32} (hd : decode cc pc = .ok (.sipush n, 3)) (hp : pc + 3 = q) (hv : (Int16.ofInt n).toInt32 = v) (k : ja_V p l e R s m args below meth c Wp b0 nL cells slots Q S q L (.int v :: st)) : ja_V p l e R s m args below meth c Wp b0 nL cells slots Q S pc L (st) := by
  subst hp; exact fun ls H locs hL hP hS => lv_sipush O.1.1 O.1.2.1 hd hv (k ls H locs hL hP hS)
theorem ja_null {X : Prop} (O : CallFix p m c cc nL s args ja_T own ∧ X)  (hd : decode cc pc = .ok (.aconst_null, 1)) (hp : pc + 1 = q)  (k : ja_V p l e R s m args below meth c Wp b0 nL cells slots Q S q L (.null :: st)) : ja_V p l e R s m args below meth c Wp b0 nL cells slots Q S pc L (st) := by
  subst hp; exact fun ls H locs hL hP hS => lv_null O.1.1 O.1.2.1 hd  (k ls H locs hL hP hS)
theorem ja_ldc {X : Prop} (O : CallFix p m c cc nL s args ja_T own ∧ X) {i : Nat} {v : Int32} (hd : decode cc pc = .ok (.ldc i, 2)) (hp : pc + 2 = q) (hv : Jvm.Cond.constant own i v ∈ ja_T) (k : ja_V p l e R s m args below meth c Wp b0 nL cells slots Q S q L (.int v :: st)) : ja_V p l e R s m args below meth c Wp b0 nL cells slots Q S pc L (st) := by
  subst hp; exact fun ls H locs hL hP hS => lv_ldc O.1.1 O.1.2.1 O.1.2.2.2.1 (O.1.2.2.2.2 _ hv) hd (k ls H locs hL hP hS)
theorem ja_iload_n {X : Prop} (O : CallFix p m c cc nL s args ja_T own ∧ X) {z : Fin 4} {i : Nat} {x : Int32} (hd : decode cc pc = .ok (.iload_n z, 1)) (hp : pc + 1 = q) (hi : (z : Nat) = i) (hl : ja_lk L i = some (.int x)) (k : ja_V p l e R s m args below meth c Wp b0 nL cells slots Q S q L (.int x :: st)) : ja_V p l e R s m args below meth c Wp b0 nL cells slots Q S pc L (st) := by
  subst hp; exact fun ls H locs hL hP hS => lv_iload_n O.1.1 O.1.2.1 hd hi (ja_at hL hl) (k ls H locs hL hP hS)
theorem ja_iload {X : Prop} (O : CallFix p m c cc nL s args ja_T own ∧ X) {i : Nat} {x : Int32} (hd : decode cc pc = .ok (.iload i, 2)) (hp : pc + 2 = q) (hl : ja_lk L i = some (.int x)) (k : ja_V p l e R s m args below meth c Wp b0 nL cells slots Q S q L (.int x :: st)) : ja_V p l e R s m args below meth c Wp b0 nL cells slots Q S pc L (st) := by
  subst hp; exact fun ls H locs hL hP hS => lv_iload O.1.1 O.1.2.1 hd (ja_at hL hl) (k ls H locs hL hP hS)
theorem ja_istore_n {X : Prop} (O : CallFix p m c cc nL s args ja_T own ∧ X) {z : Fin 4} {i : Nat} {x : Int32} (hd : decode cc pc = .ok (.istore_n z, 1)) (hp : pc + 1 = q) (hi : (z : Nat) = i) (hn : i < nL) (k : ja_V p l e R s m args below meth c Wp b0 nL cells slots Q S q ((i, .int x) :: L) st) : ja_V p l e R s m args below meth c Wp b0 nL cells slots Q S pc L (.int x :: st) := by
  subst hp; exact fun ls H locs hL hP hS => lv_istore_n O.1.1 O.1.2.1 hd hi hL.1 hn (ja_st hL) (fun ls' hl => k ls' H locs (hL.cons rfl hl) hP hS)
theorem ja_istore {X : Prop} (O : CallFix p m c cc nL s args ja_T own ∧ X) {i : Nat} {x : Int32} (hd : decode cc pc = .ok (.istore i, 2)) (hp : pc + 2 = q) (hn : i < nL) (k : ja_V p l e R s m args below meth c Wp b0 nL cells slots Q S q ((i, .int x) :: L) st) : ja_V p l e R s m args below meth c Wp b0 nL cells slots Q S pc L (.int x :: st) := by
  subst hp; exact fun ls H locs hL hP hS => lv_istore O.1.1 O.1.2.1 hd hL.1 hn (ja_st hL) (fun ls' hl => k ls' H locs (hL.cons rfl hl) hP hS)
theorem ja_aload_n {X : Prop} (O : CallFix p m c cc nL s args ja_T own ∧ X) {z : Fin 4} {i : Nat} {x : Nat} (hd : decode cc pc = .ok (.aload_n z, 1)) (hp : pc + 1 = q) (hi : (z : Nat) = i) (hl : ja_lk L i = some (.ref x)) (k : ja_V p l e R s m args below meth c Wp b0 nL cells slots Q S q L (.ref x :: st)) : ja_V p l e R s m args below meth c Wp b0 nL cells slots Q S pc L (st) := by
  subst hp; exact fun ls H locs hL hP hS => lv_aload_n O.1.1 O.1.2.1 hd hi (ja_at hL hl) (k ls H locs hL hP hS)
theorem ja_aload {X : Prop} (O : CallFix p m c cc nL s args ja_T own ∧ X) {i : Nat} {x : Nat} (hd : decode cc pc = .ok (.aload i, 2)) (hp : pc + 2 = q) (hl : ja_lk L i = some (.ref x)) (k : ja_V p l e R s m args below meth c Wp b0 nL cells slots Q S q L (.ref x :: st)) : ja_V p l e R s m args below meth c Wp b0 nL cells slots Q S pc L (st) := by
  subst hp; exact fun ls H locs hL hP hS => lv_aload O.1.1 O.1.2.1 hd (ja_at hL hl) (k ls H locs hL hP hS)
theorem ja_astore_n {X : Prop} (O : CallFix p m c cc nL s args ja_T own ∧ X) {z : Fin 4} {i : Nat} {x : Nat} (hd : decode cc pc = .ok (.astore_n z, 1)) (hp : pc + 1 = q) (hi : (z : Nat) = i) (hn : i < nL) (k : ja_V p l e R s m args below meth c Wp b0 nL cells slots Q S q ((i, .ref x) :: L) st) : ja_V p l e R s m args below meth c Wp b0 nL cells slots Q S pc L (.ref x :: st) := by
  subst hp; exact fun ls H locs hL hP hS => lv_astore_n O.1.1 O.1.2.1 hd hi hL.1 hn (ja_st hL) (fun ls' hl => k ls' H locs (hL.cons rfl hl) hP hS)
theorem ja_astore {X : Prop} (O : CallFix p m c cc nL s args ja_T own ∧ X) {i : Nat} {x : Nat} (hd : decode cc pc = .ok (.astore i, 2)) (hp : pc + 2 = q) (hn : i < nL) (k : ja_V p l e R s m args below meth c Wp b0 nL cells slots Q S q ((i, .ref x) :: L) st) : ja_V p l e R s m args below meth c Wp b0 nL cells slots Q S pc L (.ref x :: st) := by
  subst hp; exact fun ls H locs hL hP hS => lv_astore O.1.1 O.1.2.1 hd hL.1 hn (ja_st hL) (fun ls' hl => k ls' H locs (hL.cons rfl hl) hP hS)
theorem ja_iinc {X : Prop} (O : CallFix p m c cc nL s args ja_T own ∧ X) {i : Nat} {n : Int} {x v : Int32} (hd : decode cc pc = .ok (.iinc i n, 3)) (hp : pc + 3 = q) (hl : ja_lk L i = some (.int x)) (hv : x + Int32.ofInt n = v) (hn : i < nL) (k : ja_V p l e R s m args below meth c Wp b0 nL cells slots Q S q ((i, .int v) :: L) st) : ja_V p l e R s m args below meth c Wp b0 nL cells slots Q S pc L st := by
  subst hp; intro ls H locs hL hP hS; obtain ⟨j, hj⟩ := List.getElem?_of_mem (ja_lk_mem hl); exact lv_iinc O.1.1 O.1.2.1 hd hL.1 hj hv hn (ja_st hL) (fun ls' h => k ls' H locs (hL.cons rfl h) hP hS)
theorem ja_iadd {X : Prop} (O : CallFix p m c cc nL s args ja_T own ∧ X) {x y : Int32} (hd : decode cc pc = .ok (.iadd, 1)) (hp : pc + 1 = q)  (k : ja_V p l e R s m args below meth c Wp b0 nL cells slots Q S q L (.int (x + y) :: st)) : ja_V p l e R s m args below meth c Wp b0 nL cells slots Q S pc L (.int y :: .int x :: st) := by
  subst hp; exact fun ls H locs hL hP hS => lv_iadd O.1.1 O.1.2.1 hd  (k ls H locs hL hP hS)
theorem ja_isub {X : Prop} (O : CallFix p m c cc nL s args ja_T own ∧ X) {x y : Int32} (hd : decode cc pc = .ok (.isub, 1)) (hp : pc + 1 = q)  (k : ja_V p l e R s m args below meth c Wp b0 nL cells slots Q S q L (.int (x - y) :: st)) : ja_V p l e R s m args below meth c Wp b0 nL cells slots Q S pc L (.int y :: .int x :: st) := by
  subst hp; exact fun ls H locs hL hP hS => lv_isub O.1.1 O.1.2.1 hd  (k ls H locs hL hP hS)
theorem ja_imul {X : Prop} (O : CallFix p m c cc nL s args ja_T own ∧ X) {x y : Int32} (hd : decode cc pc = .ok (.imul, 1)) (hp : pc + 1 = q)  (k : ja_V p l e R s m args below meth c Wp b0 nL cells slots Q S q L (.int (x * y) :: st)) : ja_V p l e R s m args below meth c Wp b0 nL cells slots Q S pc L (.int y :: .int x :: st) := by
  subst hp; exact fun ls H locs hL hP hS => lv_imul O.1.1 O.1.2.1 hd  (k ls H locs hL hP hS)
theorem ja_iand {X : Prop} (O : CallFix p m c cc nL s args ja_T own ∧ X) {x y : Int32} (hd : decode cc pc = .ok (.iand, 1)) (hp : pc + 1 = q)  (k : ja_V p l e R s m args below meth c Wp b0 nL cells slots Q S q L (.int (x &&& y) :: st)) : ja_V p l e R s m args below meth c Wp b0 nL cells slots Q S pc L (.int y :: .int x :: st) := by
  subst hp; exact fun ls H locs hL hP hS => lv_iand O.1.1 O.1.2.1 hd  (k ls H locs hL hP hS)
theorem ja_ior {X : Prop} (O : CallFix p m c cc nL s args ja_T own ∧ X) {x y : Int32} (hd : decode cc pc = .ok (.ior, 1)) (hp : pc + 1 = q)  (k : ja_V p l e R s m args below meth c Wp b0 nL cells slots Q S q L (.int (x ||| y) :: st)) : ja_V p l e R s m args below meth c Wp b0 nL cells slots Q S pc L (.int y :: .int x :: st) := by
  subst hp; exact fun ls H locs hL hP hS => lv_ior O.1.1 O.1.2.1 hd  (k ls H locs hL hP hS)
theorem ja_ishl {X : Prop} (O : CallFix p m c cc nL s args ja_T own ∧ X) {x y : Int32} (hd : decode cc pc = .ok (.ishl, 1)) (hp : pc + 1 = q)  (k : ja_V p l e R s m args below meth c Wp b0 nL cells slots Q S q L (.int (x <<< (y &&& 31)) :: st)) : ja_V p l e R s m args below meth c Wp b0 nL cells slots Q S pc L (.int y :: .int x :: st) := by
  subst hp; exact fun ls H locs hL hP hS => lv_ishl O.1.1 O.1.2.1 hd  (k ls H locs hL hP hS)
theorem ja_idiv {X : Prop} (O : CallFix p m c cc nL s args ja_T own ∧ X) {x y : Int32} (hd : decode cc pc = .ok (.idiv, 1)) (hp : pc + 1 = q) (hne : ¬ y = 0) (k : ja_V p l e R s m args below meth c Wp b0 nL cells slots Q S q L (.int (x / y) :: st)) : ja_V p l e R s m args below meth c Wp b0 nL cells slots Q S pc L (.int y :: .int x :: st) := by
  subst hp; exact fun ls H locs hL hP hS => lv_idiv O.1.1 O.1.2.1 hd hne (k ls H locs hL hP hS)
theorem ja_irem {X : Prop} (O : CallFix p m c cc nL s args ja_T own ∧ X) {x y : Int32} (hd : decode cc pc = .ok (.irem, 1)) (hp : pc + 1 = q) (hne : ¬ y = 0) (k : ja_V p l e R s m args below meth c Wp b0 nL cells slots Q S q L (.int (x - x / y * y) :: st)) : ja_V p l e R s m args below meth c Wp b0 nL cells slots Q S pc L (.int y :: .int x :: st) := by
  subst hp; exact fun ls H locs hL hP hS => lv_irem O.1.1 O.1.2.1 hd hne (k ls H locs hL hP hS)
theorem ja_ineg {X : Prop} (O : CallFix p m c cc nL s args ja_T own ∧ X) {x : Int32} (hd : decode cc pc = .ok (.ineg, 1)) (hp : pc + 1 = q)  (k : ja_V p l e R s m args below meth c Wp b0 nL cells slots Q S q L (.int (-x) :: st)) : ja_V p l e R s m args below meth c Wp b0 nL cells slots Q S pc L (.int x :: st) := by
  subst hp; exact fun ls H locs hL hP hS => lv_ineg O.1.1 O.1.2.1 hd  (k ls H locs hL hP hS)
theorem ja_dup {X : Prop} (O : CallFix p m c cc nL s args ja_T own ∧ X) {x : Value} (hd : decode cc pc = .ok (.dup, 1)) (hp : pc + 1 = q) (hx : x.category = 1) (k : ja_V p l e R s m args below meth c Wp b0 nL cells slots Q S q L (x :: x :: st)) : ja_V p l e R s m args below meth c Wp b0 nL cells slots Q S pc L (x :: st) := by
  subst hp; exact fun ls H locs hL hP hS => lv_dup O.1.1 O.1.2.1 hd hx (k ls H locs hL hP hS)
theorem ja_pop {X : Prop} (O : CallFix p m c cc nL s args ja_T own ∧ X) {x : Value} (hd : decode cc pc = .ok (.pop, 1)) (hp : pc + 1 = q) (hx : x.category = 1) (k : ja_V p l e R s m args below meth c Wp b0 nL cells slots Q S q L (st)) : ja_V p l e R s m args below meth c Wp b0 nL cells slots Q S pc L (x :: st) := by
  subst hp; exact fun ls H locs hL hP hS => lv_pop O.1.1 O.1.2.1 hd hx (k ls H locs hL hP hS)
theorem ja_dup_x1 {X : Prop} (O : CallFix p m c cc nL s args ja_T own ∧ X) {x y : Value} (hd : decode cc pc = .ok (.dup_x1, 1)) (hp : pc + 1 = q) (hx : x.category = 1) (hy : y.category = 1) (k : ja_V p l e R s m args below meth c Wp b0 nL cells slots Q S q L (x :: y :: x :: st)) : ja_V p l e R s m args below meth c Wp b0 nL cells slots Q S pc L (x :: y :: st) := by
  subst hp; exact fun ls H locs hL hP hS => lv_dup_x1 O.1.1 O.1.2.1 hd hx hy (k ls H locs hL hP hS)
theorem ja_dup_x2 {X : Prop} (O : CallFix p m c cc nL s args ja_T own ∧ X) {x y z : Value} (hd : decode cc pc = .ok (.dup_x2, 1)) (hp : pc + 1 = q) (hx : x.category = 1) (hy : y.category = 1) (hz : z.category = 1) (k : ja_V p l e R s m args below meth c Wp b0 nL cells slots Q S q L (x :: y :: z :: x :: st)) : ja_V p l e R s m args below meth c Wp b0 nL cells slots Q S pc L (x :: y :: z :: st) := by
  subst hp; exact fun ls H locs hL hP hS => lv_dup_x2 O.1.1 O.1.2.1 hd hx hy hz (k ls H locs hL hP hS)
theorem ja_dup2 {X : Prop} (O : CallFix p m c cc nL s args ja_T own ∧ X) {x y : Value} (hd : decode cc pc = .ok (.dup2, 1)) (hp : pc + 1 = q) (hx : x.category = 1) (hy : y.category = 1) (k : ja_V p l e R s m args below meth c Wp b0 nL cells slots Q S q L (x :: y :: x :: y :: st)) : ja_V p l e R s m args below meth c Wp b0 nL cells slots Q S pc L (x :: y :: st) := by
  subst hp; exact fun ls H locs hL hP hS => lv_dup2_11 O.1.1 O.1.2.1 hd hx hy (k ls H locs hL hP hS)
theorem ja_i2l {X : Prop} (O : CallFix p m c cc nL s args ja_T own ∧ X) {x : Int32} (hd : decode cc pc = .ok (.i2l, 1)) (hp : pc + 1 = q)  (k : ja_V p l e R s m args below meth c Wp b0 nL cells slots Q S q L (.long x.toInt64 :: st)) : ja_V p l e R s m args below meth c Wp b0 nL cells slots Q S pc L (.int x :: st) := by
  subst hp; exact fun ls H locs hL hP hS => lv_i2l O.1.1 O.1.2.1 hd rfl (k ls H locs hL hP hS)
theorem ja_lcmp {X : Prop} (O : CallFix p m c cc nL s args ja_T own ∧ X) {x y : Int64} (hd : decode cc pc = .ok (.lcmp, 1)) (hp : pc + 1 = q)  (k : ja_V p l e R s m args below meth c Wp b0 nL cells slots Q S q L (.int (lg_cmp x y) :: st)) : ja_V p l e R s m args below meth c Wp b0 nL cells slots Q S pc L (.long y :: .long x :: st) := by
  subst hp; exact fun ls H locs hL hP hS => W.lcmp O.1.1 O.1.2.1 hd  (k ls H locs hL hP hS)
theorem ja_if_eq {X : Prop} (O : CallFix p m c cc nL s args ja_T own ∧ X) {x : Int32} {off : Int} {g : Nat} (hd : decode cc pc = .ok (.ifCond .eq off, 3)) (ht : (pc : Int) + off = (g : Int)) (hp : pc + 3 = q) (kt : x = 0 → ja_V p l e R s m args below meth c Wp b0 nL cells slots Q S g L st) (kf : ¬ x = 0 → ja_V p l e R s m args below meth c Wp b0 nL cells slots Q S q L st) : ja_V p l e R s m args below meth c Wp b0 nL cells slots Q S pc L (.int x :: st) := by
  subst hp; exact fun ls H locs hL hP hS => lv_if_eq O.1.1 O.1.2.1 hd ht (fun h => kt h ls H locs hL hP hS) (fun h => kf h ls H locs hL hP hS)
theorem ja_if_ne {X : Prop} (O : CallFix p m c cc nL s args ja_T own ∧ X) {x : Int32} {off : Int} {g : Nat} (hd : decode cc pc = .ok (.ifCond .ne off, 3)) (ht : (pc : Int) + off = (g : Int)) (hp : pc + 3 = q) (kt : ¬ x = 0 → ja_V p l e R s m args below meth c Wp b0 nL cells slots Q S g L st) (kf : x = 0 → ja_V p l e R s m args below meth c Wp b0 nL cells slots Q S q L st) : ja_V p l e R s m args below meth c Wp b0 nL cells slots Q S pc L (.int x :: st) := by
  subst hp; exact fun ls H locs hL hP hS => lv_if_ne O.1.1 O.1.2.1 hd ht (fun h => kt h ls H locs hL hP hS) (fun h => kf h ls H locs hL hP hS)
theorem ja_if_lt {X : Prop} (O : CallFix p m c cc nL s args ja_T own ∧ X) {x : Int32} {off : Int} {g : Nat} (hd : decode cc pc = .ok (.ifCond .lt off, 3)) (ht : (pc : Int) + off = (g : Int)) (hp : pc + 3 = q) (kt : x < 0 → ja_V p l e R s m args below meth c Wp b0 nL cells slots Q S g L st) (kf : ¬ x < 0 → ja_V p l e R s m args below meth c Wp b0 nL cells slots Q S q L st) : ja_V p l e R s m args below meth c Wp b0 nL cells slots Q S pc L (.int x :: st) := by
  subst hp; exact fun ls H locs hL hP hS => lv_if_lt O.1.1 O.1.2.1 hd ht (fun h => kt h ls H locs hL hP hS) (fun h => kf h ls H locs hL hP hS)
theorem ja_if_ge {X : Prop} (O : CallFix p m c cc nL s args ja_T own ∧ X) {x : Int32} {off : Int} {g : Nat} (hd : decode cc pc = .ok (.ifCond .ge off, 3)) (ht : (pc : Int) + off = (g : Int)) (hp : pc + 3 = q) (kt : 0 ≤ x → ja_V p l e R s m args below meth c Wp b0 nL cells slots Q S g L st) (kf : ¬ 0 ≤ x → ja_V p l e R s m args below meth c Wp b0 nL cells slots Q S q L st) : ja_V p l e R s m args below meth c Wp b0 nL cells slots Q S pc L (.int x :: st) := by
  subst hp; exact fun ls H locs hL hP hS => lv_if_ge O.1.1 O.1.2.1 hd ht (fun h => kt h ls H locs hL hP hS) (fun h => kf h ls H locs hL hP hS)
theorem ja_if_gt {X : Prop} (O : CallFix p m c cc nL s args ja_T own ∧ X) {x : Int32} {off : Int} {g : Nat} (hd : decode cc pc = .ok (.ifCond .gt off, 3)) (ht : (pc : Int) + off = (g : Int)) (hp : pc + 3 = q) (kt : 0 < x → ja_V p l e R s m args below meth c Wp b0 nL cells slots Q S g L st) (kf : ¬ 0 < x → ja_V p l e R s m args below meth c Wp b0 nL cells slots Q S q L st) : ja_V p l e R s m args below meth c Wp b0 nL cells slots Q S pc L (.int x :: st) := by
  subst hp; exact fun ls H locs hL hP hS => lv_if_gt O.1.1 O.1.2.1 hd ht (fun h => kt h ls H locs hL hP hS) (fun h => kf h ls H locs hL hP hS)
theorem ja_if_le {X : Prop} (O : CallFix p m c cc nL s args ja_T own ∧ X) {x : Int32} {off : Int} {g : Nat} (hd : decode cc pc = .ok (.ifCond .le off, 3)) (ht : (pc : Int) + off = (g : Int)) (hp : pc + 3 = q) (kt : x ≤ 0 → ja_V p l e R s m args below meth c Wp b0 nL cells slots Q S g L st) (kf : ¬ x ≤ 0 → ja_V p l e R s m args below meth c Wp b0 nL cells slots Q S q L st) : ja_V p l e R s m args below meth c Wp b0 nL cells slots Q S pc L (.int x :: st) := by
  subst hp; exact fun ls H locs hL hP hS => lv_if_le O.1.1 O.1.2.1 hd ht (fun h => kt h ls H locs hL hP hS) (fun h => kf h ls H locs hL hP hS)
theorem ja_icmp_eq {X : Prop} (O : CallFix p m c cc nL s args ja_T own ∧ X) {x y : Int32} {off : Int} {g : Nat} (hd : decode cc pc = .ok (.if_icmp .eq off, 3)) (ht : (pc : Int) + off = (g : Int)) (hp : pc + 3 = q) (kt : x = y → ja_V p l e R s m args below meth c Wp b0 nL cells slots Q S g L st) (kf : ¬ x = y → ja_V p l e R s m args below meth c Wp b0 nL cells slots Q S q L st) : ja_V p l e R s m args below meth c Wp b0 nL cells slots Q S pc L (.int y :: .int x :: st) := by
  subst hp; exact fun ls H locs hL hP hS => lv_icmp_eq O.1.1 O.1.2.1 hd ht (fun h => kt h ls H locs hL hP hS) (fun h => kf h ls H locs hL hP hS)
theorem ja_icmp_ne {X : Prop} (O : CallFix p m c cc nL s args ja_T own ∧ X) {x y : Int32} {off : Int} {g : Nat} (hd : decode cc pc = .ok (.if_icmp .ne off, 3)) (ht : (pc : Int) + off = (g : Int)) (hp : pc + 3 = q) (kt : ¬ x = y → ja_V p l e R s m args below meth c Wp b0 nL cells slots Q S g L st) (kf : x = y → ja_V p l e R s m args below meth c Wp b0 nL cells slots Q S q L st) : ja_V p l e R s m args below meth c Wp b0 nL cells slots Q S pc L (.int y :: .int x :: st) := by
  subst hp; exact fun ls H locs hL hP hS => lv_icmp_ne O.1.1 O.1.2.1 hd ht (fun h => kt h ls H locs hL hP hS) (fun h => kf h ls H locs hL hP hS)
theorem ja_icmp_lt {X : Prop} (O : CallFix p m c cc nL s args ja_T own ∧ X) {x y : Int32} {off : Int} {g : Nat} (hd : decode cc pc = .ok (.if_icmp .lt off, 3)) (ht : (pc : Int) + off = (g : Int)) (hp : pc + 3 = q) (kt : x < y → ja_V p l e R s m args below meth c Wp b0 nL cells slots Q S g L st) (kf : ¬ x < y → ja_V p l e R s m args below meth c Wp b0 nL cells slots Q S q L st) : ja_V p l e R s m args below meth c Wp b0 nL cells slots Q S pc L (.int y :: .int x :: st) := by
  subst hp; exact fun ls H locs hL hP hS => lv_icmp_lt O.1.1 O.1.2.1 hd ht (fun h => kt h ls H locs hL hP hS) (fun h => kf h ls H locs hL hP hS)
theorem ja_icmp_ge {X : Prop} (O : CallFix p m c cc nL s args ja_T own ∧ X) {x y : Int32} {off : Int} {g : Nat} (hd : decode cc pc = .ok (.if_icmp .ge off, 3)) (ht : (pc : Int) + off = (g : Int)) (hp : pc + 3 = q) (kt : y ≤ x → ja_V p l e R s m args below meth c Wp b0 nL cells slots Q S g L st) (kf : ¬ y ≤ x → ja_V p l e R s m args below meth c Wp b0 nL cells slots Q S q L st) : ja_V p l e R s m args below meth c Wp b0 nL cells slots Q S pc L (.int y :: .int x :: st) := by
  subst hp; exact fun ls H locs hL hP hS => lv_icmp_ge O.1.1 O.1.2.1 hd ht (fun h => kt h ls H locs hL hP hS) (fun h => kf h ls H locs hL hP hS)
theorem ja_icmp_gt {X : Prop} (O : CallFix p m c cc nL s args ja_T own ∧ X) {x y : Int32} {off : Int} {g : Nat} (hd : decode cc pc = .ok (.if_icmp .gt off, 3)) (ht : (pc : Int) + off = (g : Int)) (hp : pc + 3 = q) (kt : y < x → ja_V p l e R s m args below meth c Wp b0 nL cells slots Q S g L st) (kf : ¬ y < x → ja_V p l e R s m args below meth c Wp b0 nL cells slots Q S q L st) : ja_V p l e R s m args below meth c Wp b0 nL cells slots Q S pc L (.int y :: .int x :: st) := by
  subst hp; exact fun ls H locs hL hP hS => lv_icmp_gt O.1.1 O.1.2.1 hd ht (fun h => kt h ls H locs hL hP hS) (fun h => kf h ls H locs hL hP hS)
theorem ja_icmp_le {X : Prop} (O : CallFix p m c cc nL s args ja_T own ∧ X) {x y : Int32} {off : Int} {g : Nat} (hd : decode cc pc = .ok (.if_icmp .le off, 3)) (ht : (pc : Int) + off = (g : Int)) (hp : pc + 3 = q) (kt : x ≤ y → ja_V p l e R s m args below meth c Wp b0 nL cells slots Q S g L st) (kf : ¬ x ≤ y → ja_V p l e R s m args below meth c Wp b0 nL cells slots Q S q L st) : ja_V p l e R s m args below meth c Wp b0 nL cells slots Q S pc L (.int y :: .int x :: st) := by
  subst hp; exact fun ls H locs hL hP hS => lv_icmp_le O.1.1 O.1.2.1 hd ht (fun h => kt h ls H locs hL hP hS) (fun h => kf h ls H locs hL hP hS)
theorem ja_goto {X : Prop} (O : CallFix p m c cc nL s args ja_T own ∧ X) {off : Int} {g : Nat} (hd : decode cc pc = .ok (.goto off, 3)) (ht : (pc : Int) + off = (g : Int)) (k : ja_V p l e R s m args below meth c Wp b0 nL cells slots Q S g L st) : ja_V p l e R s m args below meth c Wp b0 nL cells slots Q S pc L st := by
  exact fun ls H locs hL hP hS => lv_goto O.1.1 O.1.2.1 hd ht (k ls H locs hL hP hS)
theorem ja_tableOut {X : Prop} (O : CallFix p m c cc nL s args ja_T own ∧ X) {dflt lo hi : Int} {offs : Array Int} {len g : Nat} {x : Int32} (hd : decode cc pc = .ok (.tableswitch dflt lo hi offs, len)) (h : x.toInt < lo ∨ hi < x.toInt) (ht : (pc : Int) + dflt = (g : Int)) (k : ja_V p l e R s m args below meth c Wp b0 nL cells slots Q S g L st) : ja_V p l e R s m args below meth c Wp b0 nL cells slots Q S pc L (.int x :: st) := by
  exact fun ls H locs hL hP hS => lv_tableOut O.1.1 O.1.2.1 hd h ht (k ls H locs hL hP hS)
theorem ja_tableIn {X : Prop} (O : CallFix p m c cc nL s args ja_T own ∧ X) {dflt lo hi off : Int} {offs : Array Int} {len g : Nat} {x : Int32} (hd : decode cc pc = .ok (.tableswitch dflt lo hi offs, len)) (h1 : ¬ x.toInt < lo) (h2 : ¬ hi < x.toInt) (ho : offs[(x.toInt - lo).toNat]? = some off) (ht : (pc : Int) + off = (g : Int)) (k : ja_V p l e R s m args below meth c Wp b0 nL cells slots Q S g L st) : ja_V p l e R s m args below meth c Wp b0 nL cells slots Q S pc L (.int x :: st) := by
  exact fun ls H locs hL hP hS => lv_tableIn O.1.1 O.1.2.1 hd h1 h2 ho ht (k ls H locs hL hP hS)
end JA
end
section
/-! CALLS THAT THROW, AND WHERE THE EXCEPTION IS CAUGHT. The kit's 'Met' is of methods that return; here the same for methods that throw, and the search through a handler table whose classes may be resolved only then. -/
section JTH
def jt_M (l : Launch) (y : MethodName) (ws : List Cond) (rm : Room) (Pc : Array Value → State → Prop) (Qc : Array Value → State → Addr → State → Prop) (mc ms : Nat) (free : Addr → Prop) : Prop :=
  MetFree l y (headSpec ws rm) Pc (fun _ _ _ _ _ => True) (fun a st o t => ∃ x, o = .threw x ∧ Qc a st x t ∧ ∃ L, st.WarmedH t.vm ∧ st.sameButNew ({ t with vm := st.vm } : State) L mc ms ∧ ∀ q ∈ L, free q.base)
variable {p : Program} {l : Launch} {e : Env} {R : Room} {s : State} {m : MethodId} {args : Array Value} {below : List Frame} {meth : Method} {c : Code} {H : Heap} {locs : List Loc} {cells slots : Nat} {Q : State → Prop}
/-- where the walk of a method that throws ends -/
def jt_Q (below : List Frame) (Qc : Array Value → State → Addr → State → Prop) (a : Array Value) (s : State) (mc ms : Nat) (free : Addr → Prop) : State → Prop := fun t =>
  ∃ x, t.status = .running ∧ Ended t below (.threw x) ∧ Qc a s x t ∧ ∃ L, s.WarmedH t.vm ∧ s.sameButNew ({ t with vm := s.vm } : State) L mc ms ∧ ∀ q ∈ L, free q.base
theorem jt_M.ofW {y : MethodName} {ws ws' : List Cond} {rm : Room} {Pc : Array Value → State → Prop} {Qc : Array Value → State → Addr → State → Prop} {mc ms : Nat} {free : Addr → Prop} {cc : ByteArray} {maxL : Nat} {ret : Option FieldType}
    (hy : plainName y.cls = true) (hw : ws = Cond.code y cc maxL ret :: ws')
    (body : ∀ p e s m args below meth c s₁, BodyLoose p l y (headSpec ws rm) cc maxL ret e s m args below meth c s₁ → c.maxLocals = maxL → Pc args s →
      W p l e (headSpec ws rm).room s m args below meth c s.heap [] 0 0 (jt_Q below Qc args s mc ms free) (entryFrame m args maxL)) : jt_M l y ws rm Pc Qc mc ms free := by
  refine MetFree.of_bodyS (code := cc) (maxLocals := maxL) (ret := ret) hy ?_ ?_
  · intro args s m h hn
    obtain ⟨meth, c, h1, h2, h3, h4, h5, h6, -, -⟩ := Cond.code_spec hn (atoms_spec (ws := ws) h _ (by rw [hw]; exact List.mem_cons_self))
    exact ⟨meth, c, h1, h2, h3, h4, h5, h6⟩
  · intro p e s m args below meth c s₁ B hml hP _
    have hh0 : s₁.heap = s.heap := by rw [B.state]; rfl
    obtain ⟨t, a1, x, b1, b2, b3⟩ := body p e s m args below meth c s₁ B hml hP s₁ hh0 (Stand.of_body B)
    exact ⟨t, .threw x, a1, b1, b2, x, rfl, b3⟩
def jt_Run (p : Program) (l : Launch) (e : Env) (R : Room) (s : State) (m : MethodId) (args : Array Value) (below : List Frame) (meth : Method) (c : Code) (H : Heap) (locs : List Loc) (cells slots mc ms : Nat) (g : JFrame) (rest : List Value) (Qa : State → Addr → State → Prop) (free : Addr → Prop) : Prop :=
  ∀ T : State, T.heap = H → Stand p l e R s m args below meth c T locs cells slots → ∃ (x : Addr) (st₀ t T' : State) (L : List Loc), st₀.heap = H ∧ Stand p l e R s m args below meth c T' (locs ++ L) (cells + mc) (slots + ms) ∧ (∀ q ∈ L, free q.base) ∧ T'.heap = t.heap ∧ T'.vm = t.vm ∧ Qa st₀ x t ∧
    ∀ tg, Steps p.tables e below ((T'.setTop { g with stack := rest }).pushFrame (.throwing x)) tg → Steps p.tables e below (T.setTop g) tg
theorem jt_runV {y : MethodName} {bytes cc : ByteArray} {maxL nL mc ms n index : Nat} {ret : Option FieldType} {ws : List Cond} {rm : Room} {Pc : Array Value → State → Prop} {Qc : Array Value → State → Addr → State → Prop} {free : Addr → Prop} {Ts : List Cond} {own C : String} {b : Addr} {As rest : List Value} {g : JFrame}
    (S : CallFix p m c cc nL s args Ts own) (hM : jt_M l y ws rm Pc Qc mc ms free) (cw : CallW R s args own C index y bytes maxL ret ws rm mc ms n) (hp : PreV s H C b Pc As)
    (hg : g.method = m) (hn : As.length = n) (hsize : g.locals.size = nL) (hstack : g.stack = As.reverse ++ .ref b :: rest) (hW : 2 * g.monitorRoom + (rest.map fun v => v.category).sum ≤ 8) (hdg : decode cc g.pc = .ok (.invokevirtual index, 3)) (hf : cells + mc ≤ R.cells ∧ slots + ms ≤ R.slots) :
    jt_Run p l e R s m args below meth c H locs cells slots mc ms g rest (Qc (Value.ref b :: As).toArray) free := by
  obtain ⟨⟨hrc, hrs, hfr, hlo, hws, hcw, hcode, hini, hy, hlen, hl⟩, hinst, hsel⟩ := cw
  obtain ⟨hx, hb, hml, hown, -⟩ := S
  obtain ⟨hblind, ⟨cellB, hcB, hoB, hclB⟩, hPc⟩ := hp
  intro T hT X
  subst hb
  obtain ⟨mk, methM, hnamed, hmethM, hstM, habM⟩ := Cond.instanceMethod_spec hinst
  obtain ⟨methM', cM, hmethM', hcM, -, hlM, -, -, -, hsigM⟩ := Cond.code_spec hnamed hcode
  cases hmethM.symm.trans hmethM'
  obtain ⟨c2, r2, m2, q1, q2, q3, q4, kP, hkP, hkPi⟩ := Cond.selects_spec hsel
  cases hclB.symm.trans q1
  cases (State.methodFound?_of_named hnamed hy).symm.trans q2
  cases hnamed.symm.trans q3
  have hselP : selectMethod e.platform s.vm cellB.cls mk = .method mk := by rw [Launch.admits_selectMethod X.admits]; exact q4
  obtain ⟨vm₁, X₁, hstep₁⟩ := X.invokevirtual hx hown hl hnamed hmethM hstM hkP hkPi hy (a := b) (cell := cellB) (by rw [hT]; exact hcB)
    (fun z h => by rw [h] at hoB; cases hoB) hselP hmethM habM hkP hkPi (g := g) hg (argsL := As) (rest := rest) (hn.trans (hlen _ hsigM)) hstack hdg
  have h : At (T.setVm vm₁) { g with stack := rest }.method c below := by rw [show ({ g with stack := rest } : JFrame).method = m from hg]; exact X₁.here
  have hnamed₁ : (T.setVm vm₁).methodNamed? y = some mk := X₁.named hnamed
  have hcode₁ : (Cond.code y bytes maxL ret).before (Value.ref b :: As).toArray (T.setVm vm₁) = true := hws _ hcw _ _ X₁.warmed
  obtain ⟨methY, cY, hmY, hcY, -, hlY, -, -, -, -⟩ := Cond.code_spec hnamed₁ hcode₁
  obtain ⟨kY, hkY, -⟩ := className_of_methodNamed hnamed₁
  have hini₁ : (Cond.initialized y.cls).before (Value.ref b :: As).toArray (T.setVm vm₁) = true := word_at X₁.warmed (Or.inl (by first | rfl | simp [Cond.onTables, Cond.keeps, Cond.steady])) hini
  have hinitY : kY.init = .initialized := Cond.initialized_spec (findClass_of_methodNamed hnamed₁) hkY hini₁
  have happ : (headSpec ws rm).appliesLoose y e.platform ((T.setVm vm₁).calling { g with stack := rest } mk (Value.ref b :: As).toArray) = true :=
    Spec.appliesLoose_calling (g := { g with stack := rest }) h hdg hnamed₁ hkY hinitY
      (X₁.room_calling (g := { g with stack := rest }) (R' := (headSpec ws rm).room) (hsize.trans hml.symm) hmY hcY hfr (by rw [hlY]; show 2 * g.monitorRoom + (rest.map fun v => v.category).sum + (maxL + 11) + rm.locals ≤ R.locals; omega)
        (by rw [show (headSpec ws rm).room.cells = mc from hrc]; exact hf.1) (by rw [show (headSpec ws rm).room.slots = ms from hrs]; exact hf.2)) (atoms_intro fun w hw => hws w hw _ _ X₁.warmed)
  obtain ⟨mid, hmid⟩ := h.above
  have hfr2 : ((T.setVm vm₁).setTop { g with stack := rest }).frames = (.java { g with stack := rest } :: mid) ++ below := by rw [State.frames_setTop' _ h.top, hmid]; rfl
  have hPre : Pc (Value.ref b :: As).toArray ((T.setVm vm₁).calling { g with stack := rest } mk (Value.ref b :: As).toArray) := hblind _ _ _ _ (hPc (T.setVm vm₁) hT X₁.warmed)
  obtain ⟨o, s₂, hsteps, -, hend, hq⟩ := Steps.callFree hM p X.admits X.cas X.clock (acts := []) hfr2 happ hPre trivial
  obtain ⟨v, rfl, hqc, L, hW₂, hsm, hL⟩ := hq
  have hend' : s₂.frames = .throwing v :: .java { g with stack := rest } :: (T.setVm vm₁).frames.tail := by
    have h9 : s₂.frames = .throwing v :: ((T.setVm vm₁).setTop { g with stack := rest }).frames := hend
    rw [h9, State.frames_setTop' _ h.top]
  generalize hU : T.setVm vm₁ = U at *
  generalize hg' : ({ g with stack := rest } : JFrame) = g' at *
  obtain ⟨e2, q2, q3, q4, q5, q6⟩ := id hsm
  have hsteps' : Steps p.tables e below (doInvoke e (U.setTop g') [] mk (Value.ref b :: As).toArray).1 s₂ := hsteps
  have e3 : s₂ = ({ (U.calling g' mk (Value.ref b :: As).toArray).setFrames s₂.frames with heap := s₂.heap, slotsUsed := s₂.slotsUsed } : State).setVm s₂.vm := by
    have h1 : s₂ = ({ s₂ with vm := (U.calling g' mk (Value.ref b :: As).toArray).vm } : State).setVm s₂.vm := rfl
    have h2 : ({ s₂ with vm := (U.calling g' mk (Value.ref b :: As).toArray).vm } : State) = ({ (U.calling g' mk (Value.ref b :: As).toArray).setFrames s₂.frames with heap := s₂.heap, slotsUsed := s₂.slotsUsed } : State) := e2
    rw [h2] at h1
    exact h1
  have hW' : U.WarmedH s₂.vm := hW₂
  obtain ⟨g₀, hg0⟩ := Option.isSome_iff_exists.mp h.top
  obtain ⟨r, hr⟩ := State.topJava?_eq_some.mp hg0
  have hs₂ : s₂ = ((({ U with heap := s₂.heap, slotsUsed := s₂.slotsUsed } : State).setVm s₂.vm).setTop g').pushFrame (.throwing v) := by
    have hr' : (({ U with heap := s₂.heap, slotsUsed := s₂.slotsUsed } : State).setVm s₂.vm).frames = .java g₀ :: r := hr
    refine e3.trans ?_
    rw [hend', State.calling_eq h.top, State.setFrames_setFrames, State.pushFrame, State.frames_setTop _ hr', State.setTop_of_frames _ hr', State.setFrames_setFrames, hr]
    rfl
  have hsame : U.sameButNew ({ U with heap := s₂.heap, slotsUsed := s₂.slotsUsed } : State) L mc ms := by
    refine ⟨?_, q2, q3, q4, q5, q6⟩
    obtain ⟨t, ht, -⟩ := State.frames_cons hr
    show ({ U with heap := s₂.heap, slotsUsed := s₂.slotsUsed } : State) = { U.setFrames U.frames with heap := s₂.heap, slotsUsed := s₂.slotsUsed }
    rw [State.setFrames_self ht]
  refine ⟨v, U.calling g' mk (Value.ref b :: As).toArray, s₂, ({ U with heap := s₂.heap, slotsUsed := s₂.slotsUsed } : State).setVm s₂.vm, L, by rw [← hT, ← hU]; rfl,
    ⟨X₁.admits, X₁.cas, X₁.clock, X₁.frames, X₁.room, X₁.hears, X₁.method, X₁.code, (X₁.here.setHeapUsed s₂.heap s₂.slotsUsed).setVm hW'.alike, X₁.tail, State.WarmedH.trans X₁.warmed hW', X₁.limits, X₁.bytes, X₁.same.trans (hsame.setVm s.vm)⟩,
    hL, rfl, rfl, hqc, fun tg htg => hstep₁ tg fun acts => ?_⟩
  rw [doInvoke_state]
  refine hsteps'.trans ?_
  rw [hs₂]
  exact htg
/-- the search in a table: an entry that covers the pc and names a class, resolved now or before: it takes the exception if the object's class can be assigned to it -/
theorem jt_go {Q : Handler → Pre} {E : CtlPost} {d : Bool} {acts : List Action} {u : State} {f : JFrame} {a : Addr} {x : ExceptionTableEntry} {t : List ExceptionTableEntry} {k : ClassId} {cell : Cell} {vm' : Vm} (hx : covers x f.pc = true) (h0 : x.catchType ≠ 0)
    (hg : (Jvm.resolveClass f.method.cls x.catchType).Gives e.toSetting u.vm (.ok k) vm') (hsz : vm'.classes.size ≤ u.vm.classes.size) (hcell : u.heap[a]? = some cell) (hobj : ∀ k, cell.vm ≠ .statics k)
    (hk : ∃ k, vm'.classes[cell.cls]? = some k) (hc : ∃ z, vm'.classes[k]? = some z) :
    wp (findHandler.go f a (x :: t)) Q E e d acts u ↔ if vm'.assignable cell.cls k = true then Q (.found x.handlerPc) d acts (u.setVm vm') else wp (findHandler.go f a t) Q E e d acts (u.setVm vm') := by
  simp only [covers] at hx
  obtain ⟨ha, ht⟩ := hg.op (op := VmOp.resolveClass f.method.cls x.catchType) rfl
  cases hfit : vm'.assignable cell.cls k <;>
    simp [findHandler.go, hx, h0, ha, ht, hsz, hcell, hobj, hk, hc, hfit, VmOp.dirties, VmOp.acts]
/-- what the search gives, and the tables behind it -/
def jt_F (e : Env) (u : State) (f : JFrame) (a : Addr) (pc : Nat) (vm' : Vm) : Prop := ∀ (Q : Handler → Pre) (E : CtlPost) (d : Bool) (acts : List Action), wp (findHandler f a) Q E e d acts u ↔ Q (.found pc) d acts (u.setVm vm')
theorem jt_step {u : State} {a : Addr} {f : JFrame} {r : List Frame} {pc : Nat} {vm' : Vm} (hf : jt_F e u f a pc vm') :
    (stepThrowing e u a (.java f :: r)).Is ((u.setVm vm').setFrames (.java { f with pc := pc, stack := [.ref a] } :: r)) [] := by
  simp only [stepThrowing, searchFrame, vmDo]
  generalize hr : Sem.go _ e false [] u = res
  obtain ⟨as, rfl, ha⟩ := Sem.eq_ok_of hr (a := Handler.found pc) (s' := u.setVm vm') (acts' := []) (by simp [hf _ _ _ _])
  exact ⟨rfl, ha⟩
/-- into a handler of the method's own -/
theorem jt_caught {tb : Tables} {u target : State} {g : JFrame} {a : Addr} {pc : Nat} {vm' : Vm} (h : At u g.method c below) (hf : jt_F e ((u.setTop g).pushFrame (.throwing a)) g a pc vm')
    (hrest : Steps tb e below ((u.setVm vm').setTop { g with pc := pc, stack := [.ref a] }) target) :
    Steps tb e below ((u.setTop g).pushFrame (.throwing a)) target := by
  obtain ⟨hgo, hw⟩ := h.throwing a
  refine Steps.head hgo hw ?_
  rw [stepThread_throwing (frames_entered h.top _), (jt_step (u := (u.setTop g).pushFrame (.throwing a)) hf).1]
  obtain ⟨g₀, hg⟩ := Option.isSome_iff_exists.mp h.top
  obtain ⟨r, hr⟩ := State.topJava?_eq_some.mp hg
  have hr' : (u.setVm vm').frames = .java g₀ :: r := hr
  rw [State.setTop_of_frames _ hr'] at hrest
  have e1 : (((u.setTop g).pushFrame (.throwing a)).setVm vm').setFrames (.java { g with pc := pc, stack := [.ref a] } :: u.frames.tail) = (u.setVm vm').setFrames (.java { g with pc := pc, stack := [.ref a] } :: r) := by
    rw [State.pushFrame, State.setTop_of_frames _ hr, hr]
    show ((((u.setFrames _).setFrames _).setVm vm').setFrames _) = _
    rw [State.setFrames_setFrames]
    show (((u.setFrames _).setFrames _).setVm vm') = _
    rw [State.setFrames_setFrames]
    rfl
  rw [e1]
  exact hrest
end JTH
end
