/-! THE LAYER: a method's frame with its locals as a list (the first entry of a number counts), its world as a predicate of numbers. A row an instruction. -/
def ja_T : List Cond := lw_tbl.filter goodWord
abbrev ja_S : Type := Nat → Nat → Int32
def ja_lk : List (Nat × Value) → Nat → Option Value
  | [], _ => none
  | (j, v) :: t, i => match Nat.beq j i with
    | true => some v
    | false => ja_lk t i
def ja_nd : List (Nat × Value) → List (Nat × Value)
  | [] => []
  | (i, v) :: t => (i, v) :: (ja_nd t).filter (fun q => !(q.1 == i))
def ja_L (ls : Array Slot) (n : Nat) (L : List (Nat × Value)) : Prop := lv_has ls n (ja_nd L) ∧ ∀ q ∈ L, q.2.category = 1
theorem ja_nd_mem : ∀ {L : List (Nat × Value)} {q : Nat × Value}, q ∈ ja_nd L → q ∈ L
  | [], _, h => h
  | (i, v) :: t, q, h => by
    rcases List.mem_cons.mp h with h | h
    · exact h ▸ List.mem_cons_self
    · exact List.mem_cons_of_mem _ (ja_nd_mem ((List.mem_filter.mp h).1))
theorem ja_lk_mem : ∀ {L : List (Nat × Value)} {i : Nat} {v : Value}, ja_lk L i = some v → (i, v) ∈ ja_nd L
  | [], _, _, h => by cases h
  | (j, w) :: t, i, v, h => by
    unfold ja_lk at h
    cases hb : Nat.beq j i with
    | true =>
      rw [hb] at h
      have e1 : j = i := Nat.eq_of_beq_eq_true hb
      have e2 : w = v := Option.some.inj h
      subst e1; subst e2
      exact List.mem_cons_self
    | false =>
      rw [hb] at h
      have e1 : j ≠ i := Nat.ne_of_beq_eq_false hb
      refine List.mem_cons_of_mem _ (List.mem_filter.mpr ⟨ja_lk_mem h, ?_⟩)
      simpa using fun q => e1 q.symm
theorem ja_at {ls : Array Slot} {n i : Nat} {L : List (Nat × Value)} {v : Value} (h : ja_L ls n L) (k : ja_lk L i = some v) : ls[i]? = some (.val v) := h.1.2.2 (i, v) (ja_lk_mem k)
theorem ja_st {ls : Array Slot} {n i : Nat} {L : List (Nat × Value)} {v : Value} (h : ja_L ls n L) : (i, v) :: (ja_nd L).filter (fun q => !(q.1 == i) && !(q.1 + 1 == i && q.2.category == 2)) = ja_nd ((i, v) :: L) := by
  show _ = (i, v) :: (ja_nd L).filter (fun q => !(q.1 == i))
  congr 1
  refine List.filter_congr fun q hq => ?_
  have := h.2 q (ja_nd_mem hq)
  simp [this]
theorem ja_L.cons {ls ls' : Array Slot} {n i : Nat} {L : List (Nat × Value)} {v : Value} (h : ja_L ls n L) (hv : v.category = 1) (h' : lv_has ls' n (ja_nd ((i, v) :: L))) : ja_L ls' n ((i, v) :: L) :=
  ⟨h', fun q hq => by
    rcases List.mem_cons.mp hq with e | e
    · subst e; exact hv
    · exact h.2 q e⟩
/-- fewer locals: each of the new list is what the old one holds -/
def ja_sub (L : List (Nat × Value)) : List (Nat × Value) → Prop
  | [] => True
  | q :: t => ja_lk L q.1 = some q.2 ∧ ja_sub L t
theorem ja_sub_mem {L : List (Nat × Value)} : ∀ {L' : List (Nat × Value)}, ja_sub L L' → ∀ q ∈ L', ja_lk L q.1 = some q.2
  | [], _, _, h => by cases h
  | q :: t, hs, r, hr => by
    rcases List.mem_cons.mp hr with e | e
    · subst e; exact hs.1
    · exact ja_sub_mem hs.2 r e
theorem ja_L.less {ls : Array Slot} {n : Nat} {L L' : List (Nat × Value)} (h : ja_L ls n L) (hs : ja_sub L L') : ja_L ls n L' :=
  ⟨⟨h.1.1, h.1.2.1, fun q hq => h.1.2.2 q (ja_lk_mem (ja_sub_mem hs q (ja_nd_mem hq)))⟩, fun q hq => h.2 q (ja_nd_mem (ja_lk_mem (ja_sub_mem hs q hq)))⟩
section JA
variable {p : Program} {l : Launch} {e : Env} {R : Room} {s : State} {m : MethodId} {args : Array Value} {below : List Frame} {meth : Method} {c : Code} {Wp : ja_S → Heap → Prop} {b0 nL cells slots : Nat} {Q : State → Prop} {S : ja_S} {pc q : Nat} {L : List (Nat × Value)} {st : List Value} {cc : ByteArray} {own : String}
def ja_V (p : Program) (l : Launch) (e : Env) (R : Room) (s : State) (m : MethodId) (args : Array Value) (below : List Frame) (meth : Method) (c : Code) (Wp : ja_S → Heap → Prop) (b0 nL cells slots : Nat) (Q : State → Prop) (S : ja_S) (pc : Nat) (L : List (Nat × Value)) (st : List Value) : Prop :=
  ∀ (ls : Array Slot) (H : Heap) (locs : List Loc), ja_L ls nL L → Wp S H → va_S (fun q => b0 ≤ q) s.heap H locs → W p l e R s m args below meth c H locs cells slots Q (F0 m pc ls st)
theorem ja_less {L' : List (Nat × Value)} (h : ja_sub L L') (k : ja_V p l e R s m args below meth c Wp b0 nL cells slots Q S pc L' st) : ja_V p l e R s m args below meth c Wp b0 nL cells slots Q S pc L st := fun ls H locs hL hP hS => k ls H locs (hL.less h) hP hS
theorem ja_wide {k n : Nat} (h1 : cells ≤ k) (h2 : slots ≤ n) (kk : ja_V p l e R s m args below meth c Wp b0 nL k n Q S pc L st) : ja_V p l e R s m args below meth c Wp b0 nL cells slots Q S pc L st := fun ls H locs hL hP hS => W.widen h1 h2 (kk ls H locs hL hP hS)

theorem ja_iconst {X : Prop} (O : CallFix p m c cc nL s args ja_T own ∧ X) {n : Int} {v : Int32} (hd : decode cc pc = .ok (.iconst n, 1)) (hp : pc + 1 = q) (hv : Int32.ofInt n = v) (k : ja_V p l e R s m args below meth c Wp b0 nL cells slots Q S q L (.int v :: st)) : ja_V p l e R s m args below meth c Wp b0 nL cells slots Q S pc L (st) := by
  subst hp; exact fun ls H locs hL hP hS => lv_iconst O.1.1 O.1.2.1 hd hv (k ls H locs hL hP hS)
theorem ja_bipush {X : Prop} (O : CallFix p m c cc nL s args ja_T own ∧ X) {n : Int} {v : Int32} (hd : decode cc pc = .ok (.bipush n, 2)) (hp : pc + 2 = q) (hv : (Int8.ofInt n).toInt32 = v) (k : ja_V p l e R s m args below meth c Wp b0 nL cells slots Q S q L (.int v :: st)) : ja_V p l e R s m args below meth c Wp b0 nL cells slots Q S pc L (st) := by
  subst hp; exact fun ls H locs hL hP hS => lv_bipush O.1.1 O.1.2.1 hd hv (k ls H locs hL hP hS)
theorem ja_sipush {X : Prop} (O : CallFix p m c cc nL s args ja_T own ∧ X) {n : Int} {v : Int32} (hd : decode cc pc = .ok (.sipush n, 3)) (hp : pc + 3 = q) (hv : (Int16.ofInt n).toInt32 = v) (k : ja_V p l e R s m args below meth c Wp b0 nL cells slots Q S q L (.int v :: st)) : ja_V p l e R s m args below meth c Wp b0 nL cells slots Q S pc L (st) := by
  subst hp; exact fun ls H locs hL hP hS => lv_sipush O.1.1 O.1.2.1 hd hv (k ls H locs hL hP hS)
theorem ja_null {X : Prop} (O : CallFix p m c cc nL s args ja_T own ∧ X)  (hd : decode cc pc = .ok (.aconst_null, 1)) (hp : pc + 1 = q)  (k : ja_V p l e R s m args below meth c Wp b0 nL cells slots Q S q L (.null :: st)) : ja_V p l e R s m args below meth c Wp b0 nL cells slots Q S pc L (st) := by
  subst hp; exact fun ls H locs hL hP hS => lv_null O.1.1 O.1.2.1 hd  (k ls H locs hL hP hS)
theorem ja_ldc {X : Prop} (O : CallFix p m c cc nL s args ja_T own ∧ X) {i : Nat} {v : Int32} (hd : decode cc pc = .ok (.ldc i, 2)) (hp : pc + 2 = q) (hv : Jvm.Cond.constant own i v ∈ ja_T) (k : ja_V p l e R s m args below meth c Wp b0 nL cells slots Q S q L (.int v :: st)) : ja_V p l e R s m args below meth c Wp b0 nL cells slots Q S pc L (st) := by
  subst hp; exact fun ls H locs hL hP hS => lv_ldc O.1.1 O.1.2.1 O.1.2.2.2.1 (O.1.2.2.2.2 _ hv) hd (k ls H locs hL hP hS)
theorem ja_iload_n {X : Prop} (O : CallFix p m c cc nL s args ja_T own ∧ X) {z : Fin 4} {i : Nat} {x : Int32} (hd : decode cc pc = .ok (.iload_n z, 1)) (hp : pc + 1 = q) (hi : (z : Nat) = i) (hl : ja_lk L i = some (.int x)) (k : ja_V p l e R s m args below meth c Wp b0 nL cells slots Q S q L (.int x :: st)) : ja_V p l e R s m args below meth c Wp b0 nL cells slots Q S pc L (st) := by
  subst hp; exact fun ls H locs hL hP hS => lv_iload_n O.1.1 O.1.2.1 hd hi (ja_at hL hl) (k ls H locs hL hP hS)
theorem ja_iload {X : Prop} (O : CallFix p m c cc nL s args ja_T own ∧ X) {i : Nat} {x : Int32} (hd : decode cc pc = .ok (.iload i, 2)) (hp : pc + 2 = q) (hl : ja_lk L i = some (.int x)) (k : ja_V p l e R s m args below meth c Wp b0 nL cells slots Q S q L (.int x :: st)) : ja_V p l e R s m args below meth c Wp b0 nL cells slots Q S pc L (st) := by
  subst hp; exact fun ls H locs hL hP hS => lv_iload O.1.1 O.1.2.1 hd (ja_at hL hl) (k ls H locs hL hP hS)
theorem ja_istore_n {X : Prop} (O : CallFix p m c cc nL s args ja_T own ∧ X) {z : Fin 4} {i : Nat} {x : Int32} (hd : decode cc pc = .ok (.istore_n z, 1)) (hp : pc + 1 = q) (hi : (z : Nat) = i) (hn : i < nL) (k : ja_V p l e R s m args below meth c Wp b0 nL cells slots Q S q ((i, .int x) :: L) st) : ja_V p l e R s m args below meth c Wp b0 nL cells slots Q S pc L (.int x :: st) := by
  subst hp; exact fun ls H locs hL hP hS => lv_istore_n O.1.1 O.1.2.1 hd hi hL.1 hn (ja_st hL) (fun ls' hl => k ls' H locs (hL.cons rfl hl) hP hS)
theorem ja_istore {X : Prop} (O : CallFix p m c cc nL s args ja_T own ∧ X) {i : Nat} {x : Int32} (hd : decode cc pc = .ok (.istore i, 2)) (hp : pc + 2 = q) (hn : i < nL) (k : ja_V p l e R s m args below meth c Wp b0 nL cells slots Q S q ((i, .int x) :: L) st) : ja_V p l e R s m args below meth c Wp b0 nL cells slots Q S pc L (.int x :: st) := by
  subst hp; exact fun ls H locs hL hP hS => lv_istore O.1.1 O.1.2.1 hd hL.1 hn (ja_st hL) (fun ls' hl => k ls' H locs (hL.cons rfl hl) hP hS)
theorem ja_aload_n {X : Prop} (O : CallFix p m c cc nL s args ja_T own ∧ X) {z : Fin 4} {i : Nat} {x : Nat} (hd : decode cc pc = .ok (.aload_n z, 1)) (hp : pc + 1 = q) (hi : (z : Nat) = i) (hl : ja_lk L i = some (.ref x)) (k : ja_V p l e R s m args below meth c Wp b0 nL cells slots Q S q L (.ref x :: st)) : ja_V p l e R s m args below meth c Wp b0 nL cells slots Q S pc L (st) := by
  subst hp; exact fun ls H locs hL hP hS => lv_aload_n O.1.1 O.1.2.1 hd hi (ja_at hL hl) (k ls H locs hL hP hS)
theorem ja_aload {X : Prop} (O : CallFix p m c cc nL s args ja_T own ∧ X) {i : Nat} {x : Nat} (hd : decode cc pc = .ok (.aload i, 2)) (hp : pc + 2 = q) (hl : ja_lk L i = some (.ref x)) (k : ja_V p l e R s m args below meth c Wp b0 nL cells slots Q S q L (.ref x :: st)) : ja_V p l e R s m args below meth c Wp b0 nL cells slots Q S pc L (st) := by
  subst hp; exact fun ls H locs hL hP hS => lv_aload O.1.1 O.1.2.1 hd (ja_at hL hl) (k ls H locs hL hP hS)
theorem ja_astore_n {X : Prop} (O : CallFix p m c cc nL s args ja_T own ∧ X) {z : Fin 4} {i : Nat} {x : Nat} (hd : decode cc pc = .ok (.astore_n z, 1)) (hp : pc + 1 = q) (hi : (z : Nat) = i) (hn : i < nL) (k : ja_V p l e R s m args below meth c Wp b0 nL cells slots Q S q ((i, .ref x) :: L) st) : ja_V p l e R s m args below meth c Wp b0 nL cells slots Q S pc L (.ref x :: st) := by
  subst hp; exact fun ls H locs hL hP hS => lv_astore_n O.1.1 O.1.2.1 hd hi hL.1 hn (ja_st hL) (fun ls' hl => k ls' H locs (hL.cons rfl hl) hP hS)
theorem ja_astore {X : Prop} (O : CallFix p m c cc nL s args ja_T own ∧ X) {i : Nat} {x : Nat} (hd : decode cc pc = .ok (.astore i, 2)) (hp : pc + 2 = q) (hn : i < nL) (k : ja_V p l e R s m args below meth c Wp b0 nL cells slots Q S q ((i, .ref x) :: L) st) : ja_V p l e R s m args below meth c Wp b0 nL cells slots Q S pc L (.ref x :: st) := by
  subst hp; exact fun ls H locs hL hP hS => lv_astore O.1.1 O.1.2.1 hd hL.1 hn (ja_st hL) (fun ls' hl => k ls' H locs (hL.cons rfl hl) hP hS)
theorem ja_iinc {X : Prop} (O : CallFix p m c cc nL s args ja_T own ∧ X) {i : Nat} {n : Int} {x v : Int32} (hd : decode cc pc = .ok (.iinc i n, 3)) (hp : pc + 3 = q) (hl : ja_lk L i = some (.int x)) (hv : x + Int32.ofInt n = v) (hn : i < nL) (k : ja_V p l e R s m args below meth c Wp b0 nL cells slots Q S q ((i, .int v) :: L) st) : ja_V p l e R s m args below meth c Wp b0 nL cells slots Q S pc L st := by
  subst hp; intro ls H locs hL hP hS; obtain ⟨j, hj⟩ := List.getElem?_of_mem (ja_lk_mem hl); exact lv_iinc O.1.1 O.1.2.1 hd hL.1 hj hv hn (ja_st hL) (fun ls' h => k ls' H locs (hL.cons rfl h) hP hS)
theorem ja_iadd {X : Prop} (O : CallFix p m c cc nL s args ja_T own ∧ X) {x y : Int32} (hd : decode cc pc = .ok (.iadd, 1)) (hp : pc + 1 = q)  (k : ja_V p l e R s m args below meth c Wp b0 nL cells slots Q S q L (.int (x + y) :: st)) : ja_V p l e R s m args below meth c Wp b0 nL cells slots Q S pc L (.int y :: .int x :: st) := by
  subst hp; exact fun ls H locs hL hP hS => lv_iadd O.1.1 O.1.2.1 hd  (k ls H locs hL hP hS)
theorem ja_isub {X : Prop} (O : CallFix p m c cc nL s args ja_T own ∧ X) {x y : Int32} (hd : decode cc pc = .ok (.isub, 1)) (hp : pc + 1 = q)  (k : ja_V p l e R s m args below meth c Wp b0 nL cells slots Q S q L (.int (x - y) :: st)) : ja_V p l e R s m args below meth c Wp b0 nL cells slots Q S pc L (.int y :: .int x :: st) := by
  subst hp; exact fun ls H locs hL hP hS => lv_isub O.1.1 O.1.2.1 hd  (k ls H locs hL hP hS)
theorem ja_imul {X : Prop} (O : CallFix p m c cc nL s args ja_T own ∧ X) {x y : Int32} (hd : decode cc pc = .ok (.imul, 1)) (hp : pc + 1 = q)  (k : ja_V p l e R s m args below meth c Wp b0 nL cells slots Q S q L (.int (x * y) :: st)) : ja_V p l e R s m args below meth c Wp b0 nL cells slots Q S pc L (.int y :: .int x :: st) := by
  subst hp; exact fun ls H locs hL hP hS => lv_imul O.1.1 O.1.2.1 hd  (k ls H locs hL hP hS)
theorem ja_iand {X : Prop} (O : CallFix p m c cc nL s args ja_T own ∧ X) {x y : Int32} (hd : decode cc pc = .ok (.iand, 1)) (hp : pc + 1 = q)  (k : ja_V p l e R s m args below meth c Wp b0 nL cells slots Q S q L (.int (x &&& y) :: st)) : ja_V p l e R s m args below meth c Wp b0 nL cells slots Q S pc L (.int y :: .int x :: st) := by
  subst hp; exact fun ls H locs hL hP hS => lv_iand O.1.1 O.1.2.1 hd  (k ls H locs hL hP hS)
theorem ja_ior {X : Prop} (O : CallFix p m c cc nL s args ja_T own ∧ X) {x y : Int32} (hd : decode cc pc = .ok (.ior, 1)) (hp : pc + 1 = q)  (k : ja_V p l e R s m args below meth c Wp b0 nL cells slots Q S q L (.int (x ||| y) :: st)) : ja_V p l e R s m args below meth c Wp b0 nL cells slots Q S pc L (.int y :: .int x :: st) := by
  subst hp; exact fun ls H locs hL hP hS => lv_ior O.1.1 O.1.2.1 hd  (k ls H locs hL hP hS)
theorem ja_ishl {X : Prop} (O : CallFix p m c cc nL s args ja_T own ∧ X) {x y : Int32} (hd : decode cc pc = .ok (.ishl, 1)) (hp : pc + 1 = q)  (k : ja_V p l e R s m args below meth c Wp b0 nL cells slots Q S q L (.int (x <<< (y &&& 31)) :: st)) : ja_V p l e R s m args below meth c Wp b0 nL cells slots Q S pc L (.int y :: .int x :: st) := by
  subst hp; exact fun ls H locs hL hP hS => lv_ishl O.1.1 O.1.2.1 hd  (k ls H locs hL hP hS)
theorem ja_idiv {X : Prop} (O : CallFix p m c cc nL s args ja_T own ∧ X) {x y : Int32} (hd : decode cc pc = .ok (.idiv, 1)) (hp : pc + 1 = q) (hne : ¬ y = 0) (k : ja_V p l e R s m args below meth c Wp b0 nL cells slots Q S q L (.int (x / y) :: st)) : ja_V p l e R s m args below meth c Wp b0 nL cells slots Q S pc L (.int y :: .int x :: st) := by
  subst hp; exact fun ls H locs hL hP hS => lv_idiv O.1.1 O.1.2.1 hd hne (k ls H locs hL hP hS)
theorem ja_irem {X : Prop} (O : CallFix p m c cc nL s args ja_T own ∧ X) {x y : Int32} (hd : decode cc pc = .ok (.irem, 1)) (hp : pc + 1 = q) (hne : ¬ y = 0) (k : ja_V p l e R s m args below meth c Wp b0 nL cells slots Q S q L (.int (x - x / y * y) :: st)) : ja_V p l e R s m args below meth c Wp b0 nL cells slots Q S pc L (.int y :: .int x :: st) := by
  subst hp; exact fun ls H locs hL hP hS => lv_irem O.1.1 O.1.2.1 hd hne (k ls H locs hL hP hS)
theorem ja_ineg {X : Prop} (O : CallFix p m c cc nL s args ja_T own ∧ X) {x : Int32} (hd : decode cc pc = .ok (.ineg, 1)) (hp : pc + 1 = q)  (k : ja_V p l e R s m args below meth c Wp b0 nL cells slots Q S q L (.int (-x) :: st)) : ja_V p l e R s m args below meth c Wp b0 nL cells slots Q S pc L (.int x :: st) := by
  subst hp; exact fun ls H locs hL hP hS => lv_ineg O.1.1 O.1.2.1 hd  (k ls H locs hL hP hS)
theorem ja_dup {X : Prop} (O : CallFix p m c cc nL s args ja_T own ∧ X) {x : Value} (hd : decode cc pc = .ok (.dup, 1)) (hp : pc + 1 = q) (hx : x.category = 1) (k : ja_V p l e R s m args below meth c Wp b0 nL cells slots Q S q L (x :: x :: st)) : ja_V p l e R s m args below meth c Wp b0 nL cells slots Q S pc L (x :: st) := by
  subst hp; exact fun ls H locs hL hP hS => lv_dup O.1.1 O.1.2.1 hd hx (k ls H locs hL hP hS)
theorem ja_pop {X : Prop} (O : CallFix p m c cc nL s args ja_T own ∧ X) {x : Value} (hd : decode cc pc = .ok (.pop, 1)) (hp : pc + 1 = q) (hx : x.category = 1) (k : ja_V p l e R s m args below meth c Wp b0 nL cells slots Q S q L (st)) : ja_V p l e R s m args below meth c Wp b0 nL cells slots Q S pc L (x :: st) := by
  subst hp; exact fun ls H locs hL hP hS => lv_pop O.1.1 O.1.2.1 hd hx (k ls H locs hL hP hS)
theorem ja_dup_x1 {X : Prop} (O : CallFix p m c cc nL s args ja_T own ∧ X) {x y : Value} (hd : decode cc pc = .ok (.dup_x1, 1)) (hp : pc + 1 = q) (hx : x.category = 1) (hy : y.category = 1) (k : ja_V p l e R s m args below meth c Wp b0 nL cells slots Q S q L (x :: y :: x :: st)) : ja_V p l e R s m args below meth c Wp b0 nL cells slots Q S pc L (x :: y :: st) := by
  subst hp; exact fun ls H locs hL hP hS => lv_dup_x1 O.1.1 O.1.2.1 hd hx hy (k ls H locs hL hP hS)
theorem ja_dup_x2 {X : Prop} (O : CallFix p m c cc nL s args ja_T own ∧ X) {x y z : Value} (hd : decode cc pc = .ok (.dup_x2, 1)) (hp : pc + 1 = q) (hx : x.category = 1) (hy : y.category = 1) (hz : z.category = 1) (k : ja_V p l e R s m args below meth c Wp b0 nL cells slots Q S q L (x :: y :: z :: x :: st)) : ja_V p l e R s m args below meth c Wp b0 nL cells slots Q S pc L (x :: y :: z :: st) := by
  subst hp; exact fun ls H locs hL hP hS => lv_dup_x2 O.1.1 O.1.2.1 hd hx hy hz (k ls H locs hL hP hS)
theorem ja_dup2 {X : Prop} (O : CallFix p m c cc nL s args ja_T own ∧ X) {x y : Value} (hd : decode cc pc = .ok (.dup2, 1)) (hp : pc + 1 = q) (hx : x.category = 1) (hy : y.category = 1) (k : ja_V p l e R s m args below meth c Wp b0 nL cells slots Q S q L (x :: y :: x :: y :: st)) : ja_V p l e R s m args below meth c Wp b0 nL cells slots Q S pc L (x :: y :: st) := by
  subst hp; exact fun ls H locs hL hP hS => lv_dup2_11 O.1.1 O.1.2.1 hd hx hy (k ls H locs hL hP hS)
theorem ja_i2l {X : Prop} (O : CallFix p m c cc nL s args ja_T own ∧ X) {x : Int32} (hd : decode cc pc = .ok (.i2l, 1)) (hp : pc + 1 = q)  (k : ja_V p l e R s m args below meth c Wp b0 nL cells slots Q S q L (.long x.toInt64 :: st)) : ja_V p l e R s m args below meth c Wp b0 nL cells slots Q S pc L (.int x :: st) := by
  subst hp; exact fun ls H locs hL hP hS => lv_i2l O.1.1 O.1.2.1 hd rfl (k ls H locs hL hP hS)
theorem ja_lcmp {X : Prop} (O : CallFix p m c cc nL s args ja_T own ∧ X) {x y : Int64} (hd : decode cc pc = .ok (.lcmp, 1)) (hp : pc + 1 = q)  (k : ja_V p l e R s m args below meth c Wp b0 nL cells slots Q S q L (.int (lg_cmp x y) :: st)) : ja_V p l e R s m args below meth c Wp b0 nL cells slots Q S pc L (.long y :: .long x :: st) := by
  subst hp; exact fun ls H locs hL hP hS => W.lcmp O.1.1 O.1.2.1 hd  (k ls H locs hL hP hS)
theorem ja_if_eq {X : Prop} (O : CallFix p m c cc nL s args ja_T own ∧ X) {x : Int32} {off : Int} {g : Nat} (hd : decode cc pc = .ok (.ifCond .eq off, 3)) (ht : (pc : Int) + off = (g : Int)) (hp : pc + 3 = q) (kt : x = 0 → ja_V p l e R s m args below meth c Wp b0 nL cells slots Q S g L st) (kf : ¬ x = 0 → ja_V p l e R s m args below meth c Wp b0 nL cells slots Q S q L st) : ja_V p l e R s m args below meth c Wp b0 nL cells slots Q S pc L (.int x :: st) := by
  subst hp; exact fun ls H locs hL hP hS => lv_if_eq O.1.1 O.1.2.1 hd ht (fun h => kt h ls H locs hL hP hS) (fun h => kf h ls H locs hL hP hS)
theorem ja_if_ne {X : Prop} (O : CallFix p m c cc nL s args ja_T own ∧ X) {x : Int32} {off : Int} {g : Nat} (hd : decode cc pc = .ok (.ifCond .ne off, 3)) (ht : (pc : Int) + off = (g : Int)) (hp : pc + 3 = q) (kt : ¬ x = 0 → ja_V p l e R s m args below meth c Wp b0 nL cells slots Q S g L st) (kf : x = 0 → ja_V p l e R s m args below meth c Wp b0 nL cells slots Q S q L st) : ja_V p l e R s m args below meth c Wp b0 nL cells slots Q S pc L (.int x :: st) := by
  subst hp; exact fun ls H locs hL hP hS => lv_if_ne O.1.1 O.1.2.1 hd ht (fun h => kt h ls H locs hL hP hS) (fun h => kf h ls H locs hL hP hS)
theorem ja_if_lt {X : Prop} (O : CallFix p m c cc nL s args ja_T own ∧ X) {x : Int32} {off : Int} {g : Nat} (hd : decode cc pc = .ok (.ifCond .lt off, 3)) (ht : (pc : Int) + off = (g : Int)) (hp : pc + 3 = q) (kt : x < 0 → ja_V p l e R s m args below meth c Wp b0 nL cells slots Q S g L st) (kf : ¬ x < 0 → ja_V p l e R s m args below meth c Wp b0 nL cells slots Q S q L st) : ja_V p l e R s m args below meth c Wp b0 nL cells slots Q S pc L (.int x :: st) := by
  subst hp; exact fun ls H locs hL hP hS => lv_if_lt O.1.1 O.1.2.1 hd ht (fun h => kt h ls H locs hL hP hS) (fun h => kf h ls H locs hL hP hS)
theorem ja_if_ge {X : Prop} (O : CallFix p m c cc nL s args ja_T own ∧ X) {x : Int32} {off : Int} {g : Nat} (hd : decode cc pc = .ok (.ifCond .ge off, 3)) (ht : (pc : Int) + off = (g : Int)) (hp : pc + 3 = q) (kt : 0 ≤ x → ja_V p l e R s m args below meth c Wp b0 nL cells slots Q S g L st) (kf : ¬ 0 ≤ x → ja_V p l e R s m args below meth c Wp b0 nL cells slots Q S q L st) : ja_V p l e R s m args below meth c Wp b0 nL cells slots Q S pc L (.int x :: st) := by
  subst hp; exact fun ls H locs hL hP hS => lv_if_ge O.1.1 O.1.2.1 hd ht (fun h => kt h ls H locs hL hP hS) (fun h => kf h ls H locs hL hP hS)
theorem ja_if_gt {X : Prop} (O : CallFix p m c cc nL s args ja_T own ∧ X) {x : Int32} {off : Int} {g : Nat} (hd : decode cc pc = .ok (.ifCond .gt off, 3)) (ht : (pc : Int) + off = (g : Int)) (hp : pc + 3 = q) (kt : 0 < x → ja_V p l e R s m args below meth c Wp b0 nL cells slots Q S g L st) (kf : ¬ 0 < x → ja_V p l e R s m args below meth c Wp b0 nL cells slots Q S q L st) : ja_V p l e R s m args below meth c Wp b0 nL cells slots Q S pc L (.int x :: st) := by
  subst hp; exact fun ls H locs hL hP hS => lv_if_gt O.1.1 O.1.2.1 hd ht (fun h => kt h ls H locs hL hP hS) (fun h => kf h ls H locs hL hP hS)
theorem ja_if_le {X : Prop} (O : CallFix p m c cc nL s args ja_T own ∧ X) {x : Int32} {off : Int} {g : Nat} (hd : decode cc pc = .ok (.ifCond .le off, 3)) (ht : (pc : Int) + off = (g : Int)) (hp : pc + 3 = q) (kt : x ≤ 0 → ja_V p l e R s m args below meth c Wp b0 nL cells slots Q S g L st) (kf : ¬ x ≤ 0 → ja_V p l e R s m args below meth c Wp b0 nL cells slots Q S q L st) : ja_V p l e R s m args below meth c Wp b0 nL cells slots Q S pc L (.int x :: st) := by
  subst hp; exact fun ls H locs hL hP hS => lv_if_le O.1.1 O.1.2.1 hd ht (fun h => kt h ls H locs hL hP hS) (fun h => kf h ls H locs hL hP hS)
theorem ja_icmp_eq {X : Prop} (O : CallFix p m c cc nL s args ja_T own ∧ X) {x y : Int32} {off : Int} {g : Nat} (hd : decode cc pc = .ok (.if_icmp .eq off, 3)) (ht : (pc : Int) + off = (g : Int)) (hp : pc + 3 = q) (kt : x = y → ja_V p l e R s m args below meth c Wp b0 nL cells slots Q S g L st) (kf : ¬ x = y → ja_V p l e R s m args below meth c Wp b0 nL cells slots Q S q L st) : ja_V p l e R s m args below meth c Wp b0 nL cells slots Q S pc L (.int y :: .int x :: st) := by
  subst hp; exact fun ls H locs hL hP hS => lv_icmp_eq O.1.1 O.1.2.1 hd ht (fun h => kt h ls H locs hL hP hS) (fun h => kf h ls H locs hL hP hS)
theorem ja_icmp_ne {X : Prop} (O : CallFix p m c cc nL s args ja_T own ∧ X) {x y : Int32} {off : Int} {g : Nat} (hd : decode cc pc = .ok (.if_icmp .ne off, 3)) (ht : (pc : Int) + off = (g : Int)) (hp : pc + 3 = q) (kt : ¬ x = y → ja_V p l e R s m args below meth c Wp b0 nL cells slots Q S g L st) (kf : x = y → ja_V p l e R s m args below meth c Wp b0 nL cells slots Q S q L st) : ja_V p l e R s m args below meth c Wp b0 nL cells slots Q S pc L (.int y :: .int x :: st) := by
  subst hp; exact fun ls H locs hL hP hS => lv_icmp_ne O.1.1 O.1.2.1 hd ht (fun h => kt h ls H locs hL hP hS) (fun h => kf h ls H locs hL hP hS)
theorem ja_icmp_lt {X : Prop} (O : CallFix p m c cc nL s args ja_T own ∧ X) {x y : Int32} {off : Int} {g : Nat} (hd : decode cc pc = .ok (.if_icmp .lt off, 3)) (ht : (pc : Int) + off = (g : Int)) (hp : pc + 3 = q) (kt : x < y → ja_V p l e R s m args below meth c Wp b0 nL cells slots Q S g L st) (kf : ¬ x < y → ja_V p l e R s m args below meth c Wp b0 nL cells slots Q S q L st) : ja_V p l e R s m args below meth c Wp b0 nL cells slots Q S pc L (.int y :: .int x :: st) := by
  subst hp; exact fun ls H locs hL hP hS => lv_icmp_lt O.1.1 O.1.2.1 hd ht (fun h => kt h ls H locs hL hP hS) (fun h => kf h ls H locs hL hP hS)
theorem ja_icmp_ge {X : Prop} (O : CallFix p m c cc nL s args ja_T own ∧ X) {x y : Int32} {off : Int} {g : Nat} (hd : decode cc pc = .ok (.if_icmp .ge off, 3)) (ht : (pc : Int) + off = (g : Int)) (hp : pc + 3 = q) (kt : y ≤ x → ja_V p l e R s m args below meth c Wp b0 nL cells slots Q S g L st) (kf : ¬ y ≤ x → ja_V p l e R s m args below meth c Wp b0 nL cells slots Q S q L st) : ja_V p l e R s m args below meth c Wp b0 nL cells slots Q S pc L (.int y :: .int x :: st) := by
  subst hp; exact fun ls H locs hL hP hS => lv_icmp_ge O.1.1 O.1.2.1 hd ht (fun h => kt h ls H locs hL hP hS) (fun h => kf h ls H locs hL hP hS)
theorem ja_icmp_gt {X : Prop} (O : CallFix p m c cc nL s args ja_T own ∧ X) {x y : Int32} {off : Int} {g : Nat} (hd : decode cc pc = .ok (.if_icmp .gt off, 3)) (ht : (pc : Int) + off = (g : Int)) (hp : pc + 3 = q) (kt : y < x → ja_V p l e R s m args below meth c Wp b0 nL cells slots Q S g L st) (kf : ¬ y < x → ja_V p l e R s m args below meth c Wp b0 nL cells slots Q S q L st) : ja_V p l e R s m args below meth c Wp b0 nL cells slots Q S pc L (.int y :: .int x :: st) := by
  subst hp; exact fun ls H locs hL hP hS => lv_icmp_gt O.1.1 O.1.2.1 hd ht (fun h => kt h ls H locs hL hP hS) (fun h => kf h ls H locs hL hP hS)
theorem ja_icmp_le {X : Prop} (O : CallFix p m c cc nL s args ja_T own ∧ X) {x y : Int32} {off : Int} {g : Nat} (hd : decode cc pc = .ok (.if_icmp .le off, 3)) (ht : (pc : Int) + off = (g : Int)) (hp : pc + 3 = q) (kt : x ≤ y → ja_V p l e R s m args below meth c Wp b0 nL cells slots Q S g L st) (kf : ¬ x ≤ y → ja_V p l e R s m args below meth c Wp b0 nL cells slots Q S q L st) : ja_V p l e R s m args below meth c Wp b0 nL cells slots Q S pc L (.int y :: .int x :: st) := by
  subst hp; exact fun ls H locs hL hP hS => lv_icmp_le O.1.1 O.1.2.1 hd ht (fun h => kt h ls H locs hL hP hS) (fun h => kf h ls H locs hL hP hS)
theorem ja_goto {X : Prop} (O : CallFix p m c cc nL s args ja_T own ∧ X) {off : Int} {g : Nat} (hd : decode cc pc = .ok (.goto off, 3)) (ht : (pc : Int) + off = (g : Int)) (k : ja_V p l e R s m args below meth c Wp b0 nL cells slots Q S g L st) : ja_V p l e R s m args below meth c Wp b0 nL cells slots Q S pc L st := by
  exact fun ls H locs hL hP hS => lv_goto O.1.1 O.1.2.1 hd ht (k ls H locs hL hP hS)
theorem ja_tableOut {X : Prop} (O : CallFix p m c cc nL s args ja_T own ∧ X) {dflt lo hi : Int} {offs : Array Int} {len g : Nat} {x : Int32} (hd : decode cc pc = .ok (.tableswitch dflt lo hi offs, len)) (h : x.toInt < lo ∨ hi < x.toInt) (ht : (pc : Int) + dflt = (g : Int)) (k : ja_V p l e R s m args below meth c Wp b0 nL cells slots Q S g L st) : ja_V p l e R s m args below meth c Wp b0 nL cells slots Q S pc L (.int x :: st) := by
  exact fun ls H locs hL hP hS => lv_tableOut O.1.1 O.1.2.1 hd h ht (k ls H locs hL hP hS)
theorem ja_tableIn {X : Prop} (O : CallFix p m c cc nL s args ja_T own ∧ X) {dflt lo hi off : Int} {offs : Array Int} {len g : Nat} {x : Int32} (hd : decode cc pc = .ok (.tableswitch dflt lo hi offs, len)) (h1 : ¬ x.toInt < lo) (h2 : ¬ hi < x.toInt) (ho : offs[(x.toInt - lo).toNat]? = some off) (ht : (pc : Int) + off = (g : Int)) (k : ja_V p l e R s m args below meth c Wp b0 nL cells slots Q S g L st) : ja_V p l e R s m args below meth c Wp b0 nL cells slots Q S pc L (.int x :: st) := by
  exact fun ls H locs hL hP hS => lv_tableIn O.1.1 O.1.2.1 hd h1 h2 ho ht (k ls H locs hL hP hS)
end JA
