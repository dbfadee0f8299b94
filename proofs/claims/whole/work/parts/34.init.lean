/-! CONSTRUCTORS: rows over a world ws ++ X, ws any cells, X those that the walk knows -/
def ki_W (s0 : State) (G : jb_Gt) (ws X : va_W) : ja_S → Heap → Prop := fun _ H => va_P G.1 jb_cl (ws ++ X) H ∧ va_D (fun q => s0.heap.size ≤ q) (ws ++ X)
def ki_X (s0 s : State) (G : jb_Gt) : Prop := s0.WarmedH s.vm ∧ va_K G.1 jb_cl (jb_ty G.2) s ∧ s0.heap.size ≤ s.heap.size ∧ ∀ q, q < s0.heap.size → s.heap[q]? = s0.heap[q]?
def ki_G (s0 : State) (a0 : Array Value) (G : jb_Gt) : Prop := (∀ w ∈ lw_tbl, w.before a0 s0 = true) ∧ va_K G.1 jb_cl (jb_ty G.2) s0
def ki_B (s0 : State) (G : jb_Gt) (ws : va_W) (U : State) : Prop := s0.WarmedH U.vm ∧ (va_P G.1 jb_cl ws U.heap ∧ va_D (fun q => s0.heap.size ≤ q) ws) ∧ s0.heap.size ≤ U.heap.size ∧ ∀ q, q < s0.heap.size → U.heap[q]? = s0.heap[q]?
def ki_Q (s0 : State) (G : jb_Gt) (ws : va_W) (post : va_W → Prop) : Array Value → State → Outcome → State → Prop := fun _ st o t => (∃ Y, o = .returned none ∧ post Y ∧ va_P G.1 jb_cl (ws ++ Y) t.heap ∧ va_D (fun q => s0.heap.size ≤ q) (ws ++ Y)) ∧ va_F (fun q => s0.heap.size ≤ q) st t
abbrev ki_r (d mc ms : Nat) : Room := { frames := d, cells := mc, slots := ms, locals := 40 * d }
def ki_C (l : Launch) (s0 : State) (G : jb_Gt) (y : MethodName) (cc : ByteArray) (n d mc ms : Nat) (As : List Value) (ws X : va_W) (post : va_W → Prop) : Prop :=
  Met l y [Cond.code y cc n none] (ki_r d mc ms) (va_Pc As (ki_B s0 G (ws ++ X))) (ki_Q s0 G ws post) mc ms (fun q => s0.heap.size ≤ q)
theorem ki_blind {s0 : State} {G : jb_Gt} {ws : va_W} {As : List Value} : FrameBlind (va_Pc As (ki_B s0 G ws)) := fun _ _ _ _ h => h
theorem ki_at {ws X : va_W} {i : Nat} {q : Nat × va_E} (h : X[i]? = some q) : (ws ++ X)[ws.length + i]? = some q := by
  rw [List.getElem?_append_right (Nat.le_add_right _ _), Nat.add_sub_cancel_left]; exact h
theorem ki_st {ws X X' : va_W} {i : Nat} {q : Nat × va_E} (h : X.set i q = X') : (ws ++ X).set (ws.length + i) q = ws ++ X' := by
  rw [List.set_append_right _ _ (Nat.le_add_right _ _), Nat.add_sub_cancel_left, h]
theorem ki_words {s0 s : State} {a0 args : Array Value} {G : jb_Gt} (K : ki_G s0 a0 G) (hW : s0.WarmedH s.vm) : ∀ w ∈ ja_T, w.before args s = true := fun w hw =>
  word_at hW (good_of_word (List.mem_filter.mp hw).2) (K.1 w (List.mem_filter.mp hw).1)
theorem ki_last {F : va_W} {q : Nat × va_E} : (F ++ [q])[F.length]? = some q := by simp
theorem ki_up (b : Nat → Nat) (i z : Nat) : va_up (fun j => if j < i then some (b j) else none) i (some z) = fun j => if j < i + 1 then some (va_up b i z j) else none := by
  funext j
  unfold va_up
  by_cases h : j = i
  · subst h; simp
  · have h2 : (j < i + 1) ↔ (j < i) := by omega
    simp only [h, if_false, h2]
theorem ki_rg (g : Nat → va_E) (b : Nat → Nat) (i z : Nat) : (List.range (i + 1)).map (fun j => ((va_up b i z j, g j) : Nat × va_E)) = (List.range i).map (fun j => (b j, g j)) ++ [(z, g i)] := by
  rw [List.range_succ, List.map_append]
  congr 1
  · refine List.map_congr_left fun j hj => ?_
    have : j ≠ i := Nat.ne_of_lt (List.mem_range.mp hj)
    simp [va_up, this]
  · simp [va_up]
theorem ki_nil (b : Nat → Nat) : (fun _ : Nat => (none : Option Nat)) = fun j => if j < 0 then some (b j) else none := by
  funext j; simp
section KI
variable {p : Program} {l : Launch} {e : Env} {R : Room} {s s0 : State} {m : MethodId} {args a0 : Array Value} {below : List Frame} {meth : Method} {c : Code} {G : jb_Gt} {ws X X' : va_W} {nL cells slots : Nat} {Q : State → Prop} {S : ja_S} {pc q : Nat} {L : List (Nat × Value)} {st : List Value} {cc : ByteArray} {own : String}
theorem ki_of {y : MethodName} {n d mc ms : Nat} {As : List Value} {post : va_W → Prop} (K : ki_G s0 a0 G) (hy : plainName y.cls = true) (hc : jo_cat As = true) (hn : (lg_sl As).length ≤ n)
    (body : ∀ (p : Program) (e : Env) (s : State) (m : MethodId) (args : Array Value) (below : List Frame) (meth : Method) (c : Code), CallFix p m c cc n s args ja_T y.cls ∧ ki_X s0 s G → meth.sig.returnType = none → meth.locks = false → meth.name = y.name →
      ja_V p l e (ki_r d mc ms) s m args below meth c (ki_W s0 G ws X) s0.heap.size n 0 0 (MQ below (ki_Q s0 G ws post) args s mc ms (fun q => s0.heap.size ≤ q)) (fun _ _ => 0) 0 (lv_args 0 As) []) : ki_C l s0 G y cc n d mc ms As ws X post := by
  refine Met.ofW (cc := cc) (maxL := n) (ret := none) hy rfl ?_
  intro p e s m args below meth c s₁ B hml hv
  obtain ⟨rfl, hB⟩ := hv
  have hown : s.vm.findClass y.cls = some m.cls := findClass_of_methodNamed B.named
  have hl := lv_entry As (n := n) hn
  rw [lg_entry_eq]
  exact body p e s m _ below meth c ⟨⟨B.exec, B.bytes, hml, hown, ki_words K hB.1⟩, hB.1, va_K.moved hB.1.alike K.2, hB.2.2.1, hB.2.2.2⟩ B.returns B.notSynchronized (name_of_methodNamed B.named B.method).1 _ s.heap [] ⟨⟨hl.1, hl.2.1, fun q hq => hl.2.2 q (ja_nd_mem hq)⟩, jo_en hc⟩ hB.2.1 va_S.rf
theorem ki_ret (O : CallFix p m c cc nL s args ja_T own ∧ ki_X s0 s G) {post : va_W → Prop} (hr : meth.sig.returnType = none) (hk : meth.locks = false) (h : post X) (hd : decode cc pc = .ok (.return_, 1)) : ja_V p l e R s m args below meth c (ki_W s0 G ws X) s0.heap.size nL cells slots (MQ below (ki_Q s0 G ws post) args s cells slots (fun q => s0.heap.size ≤ q)) S pc L [] :=
  fun ls H locs hL hP hS => W.vret O.1.1 O.1.2.1 hr (fun t ht hW => ⟨⟨X, rfl, h, by rw [ht]; exact hP.1, hP.2⟩, hS.F ht⟩) hS.2.2 hd hk
theorem ki_to (h : X = X') (k : ja_V p l e R s m args below meth c (ki_W s0 G ws X') s0.heap.size nL cells slots Q S pc L st) : ja_V p l e R s m args below meth c (ki_W s0 G ws X) s0.heap.size nL cells slots Q S pc L st := by subst h; exact k
theorem ki_re {i a n : Nat} {cA : ClassId} {f f' : Nat → Option Nat} (he : X[i]? = some (a, .inl (cA, n, .inr (.inr (.inr (.inr f)))))) (hf : ∀ j, j < n → f j = f' j) (hset : X.set i (a, .inl (cA, n, .inr (.inr (.inr (.inr f'))))) = X')
    (k : ja_V p l e R s m args below meth c (ki_W s0 G ws X') s0.heap.size nL cells slots Q S pc L st) : ja_V p l e R s m args below meth c (ki_W s0 G ws X) s0.heap.size nL cells slots Q S pc L st := by
  intro ls H locs hL hP hS
  refine k ls H locs hL ?_ hS
  show _ ∧ _
  rw [← ki_st hset]
  refine ⟨hP.1.set hP.2 (ki_at he) ?_ (fun _ _ => rfl), hP.2.set (ki_at he)⟩
  have h1 : H[a]? = some (vp_cell cA (n, .inr (.inr (.inr (.inr f))))) := hP.1 _ _ (ki_at he)
  show H[a]? = some (vp_cell cA (n, .inr (.inr (.inr (.inr f')))))
  rw [h1, vp_cell_q, vp_cell_q]
  unfold arrV
  congr 3
  funext j
  show va_rf (f j) = va_rf (f' j)
  rw [hf _ j.2]
theorem ki_cs {c1 s1 : Nat} (h1 : cells = c1) (h2 : slots = s1) (k : ja_V p l e R s m args below meth c (ki_W s0 G ws X) s0.heap.size nL c1 s1 Q S pc L st) : ja_V p l e R s m args below meth c (ki_W s0 G ws X) s0.heap.size nL cells slots Q S pc L st := by subst h1; subst h2; exact k
theorem ki_obj (O : CallFix p m c cc nL s args ja_T own ∧ ki_X s0 s G) {idx a : Nat} (hl : Cond.methodLink own idx Lib.objectInit ∈ ja_T) (hR : 1 ≤ R.frames ∧ 20 ≤ R.locals) (hst : (st.map fun v => v.category).sum ≤ 8) (hd : decode cc pc = .ok (.invokespecial idx, 3)) (hp : pc + 3 = q)
    (kk : ja_V p l e R s m args below meth c (ki_W s0 G ws X) s0.heap.size nL cells slots Q S q L st) : ja_V p l e R s m args below meth c (ki_W s0 G ws X) s0.heap.size nL cells slots Q S pc L (.ref a :: st) := by
  subst hp
  exact fun ls H locs hL hP hS => W.objInit O.1.1 O.1.2.1 O.1.2.2.2.1 (O.1.2.2.2.2 _ hl) (O.1.2.2.2.2 _ jw_29) (O.1.2.2.2.2 _ jw_30) rfl (hL.1.1.trans O.1.2.2.1.symm) rfl hd hR.1 (by show 2 * 0 + _ + 12 ≤ _; omega) (kk ls H locs hL hP hS)
theorem ki_new (O : CallFix p m c cc nL s args ja_T own ∧ ki_X s0 s G) {C : String} {T : u_T} {N ci index : Nat} {fs : List Value} (hin : ∀ w ∈ u_ws C T N, w ∈ ja_T) (ty : Nat → FieldType) (hty : ∀ k, k < N → parseFieldDescriptor (T k).2.2.1 = some (ty k)) (hcl : Cond.classLink own index C ∈ ja_T) (hinst : Cond.instantiable C N ∈ ja_T) (hini : Cond.initialized C ∈ ja_T) (hc : jb_cl[ci]? = some (C, T, N)) (hfs : ∀ j, j < N → defaultValue (ty j) = vp_V fs j) (hz : cells + 1 ≤ R.cells ∧ slots + N ≤ R.slots) (hd : decode cc pc = .ok (.new index, 3)) (hp : pc + 3 = q) {X1 : Nat → va_W} (hX : ∀ z, X ++ [(z, .inr (ci, fs))] = X1 z)
    (kk : ∀ z, ja_V p l e R s m args below meth c (ki_W s0 G ws (X1 z)) s0.heap.size nL (cells + 1) (slots + N) Q S q L (.ref z :: st)) : ja_V p l e R s m args below meth c (ki_W s0 G ws X) s0.heap.size nL cells slots Q S pc L st := by
  subst hp
  intro ls H locs hL hP hS
  refine va_new O.1.1 O.1.2.1 O.1.2.2.2.2 hin ty hty O.1.2.2.2.1 (O.1.2.2.2.2 _ hcl) (O.1.2.2.2.2 _ hinst) (O.1.2.2.2.2 _ hini) O.2.2.1 hP.1 hP.2 hS (fun q h => Nat.le_trans O.2.2.2.1 h) hc hfs hz.1 hz.2 hd (fun z H1 hP1 hD1 hS1 => kk z ls H1 locs hL ?_ hS1)
  rw [List.append_assoc, hX] at hP1 hD1
  exact ⟨hP1, hD1⟩
theorem ki_newa (O : CallFix p m c cc nL s args ja_T own ∧ ki_X s0 s G) {atype : ArrayType} {ty : FieldType} {t0 : Nat} {n : Int32} {N : Nat} {a0 : vp_A} (harr : Cond.arrayClass (newarray.typeOf atype) ∈ ja_T) (hty : newarray.typeOf atype = ty) (ht : (jb_ty G.2)[t0]? = some (G.2 t0, ty)) (hra : ∀ U cA, va_RA U cA ty → U.vm.findClass ("[" ++ ty.toString) = some cA) (ha : ∀ cA : ClassId, vp_cell cA a0 = arrV cA N (fun _ => defaultValue ty)) (hn : ¬ n < 0) (hN : n.toNatClampNeg = N) (hbytes : N * componentBytes ty ≤ 536870912) (hz : cells + 1 ≤ R.cells ∧ slots + N ≤ R.slots) (hd : decode cc pc = .ok (.newarray atype, 2)) (hp : pc + 2 = q) {X1 : Nat → va_W} (hX : ∀ z, X ++ [(z, .inl (G.2 t0, a0))] = X1 z)
    (kk : ∀ z, ja_V p l e R s m args below meth c (ki_W s0 G ws (X1 z)) s0.heap.size nL (cells + 1) (slots + N) Q S q L (.ref z :: st)) : ja_V p l e R s m args below meth c (ki_W s0 G ws X) s0.heap.size nL cells slots Q S pc L (.int n :: st) := by
  subst hp
  intro ls H locs hL hP hS
  refine va_newa O.1.1 O.1.2.1 (O.1.2.2.2.2 _ harr) hty O.2.2.1 hP.1 hP.2 hS (fun q h => Nat.le_trans O.2.2.2.1 h) ha hn hN hbytes hz.1 hz.2 hd (fun z cA H1 hK1 hP1 hD1 hS1 => kk z ls H1 locs hL ?_ hS1)
  have e1 := hra _ _ (O.2.2.1.2 t0 _ ht).2
  have e2 := hra _ _ (hK1.2 6 (cA, ty) rfl).2
  have e3 : cA = G.2 t0 := Option.some.inj (e2.symm.trans e1)
  subst e3
  rw [List.append_assoc, hX] at hP1 hD1
  exact ⟨hP1, hD1⟩
theorem ki_anew (O : CallFix p m c cc nL s args ja_T own ∧ ki_X s0 s G) {C : String} {index t0 N : Nat} {n : Int32} (hcl : Cond.classLink own index C ∈ ja_T) (hao : va_AO C s) (ht : (jb_ty G.2)[t0]? = some (G.2 t0, .object C)) (hn : ¬ n < 0) (hN : n.toNatClampNeg = N) (hbytes : N * 4 ≤ 536870912) (hz : cells + 1 ≤ R.cells ∧ slots + N ≤ R.slots) (hd : decode cc pc = .ok (.anewarray index, 3)) (hp : pc + 3 = q) {X1 : Nat → va_W} (hX : ∀ z, X ++ [(z, .inl (G.2 t0, N, .inr (.inr (.inr (.inr fun _ => none)))))] = X1 z)
    (kk : ∀ z, ja_V p l e R s m args below meth c (ki_W s0 G ws (X1 z)) s0.heap.size nL (cells + 1) (slots + N) Q S q L (.ref z :: st)) : ja_V p l e R s m args below meth c (ki_W s0 G ws X) s0.heap.size nL cells slots Q S pc L (.int n :: st) := by
  subst hp; subst hN
  intro ls H locs hL hP hS
  refine W.anew O.1.1 O.1.2.1 O.1.2.2.2.1 (O.1.2.2.2.2 _ hcl) hao.use rfl hd rfl hn hbytes hz.1 hz.2 (fun cA kA comp h1 h2 h3 h4 => ?_)
  obtain ⟨_, _, -, -, -, h5⟩ := (O.2.2.1.2 t0 _ ht).2
  have e3 : cA = G.2 t0 := Option.some.inj (h1.symm.trans h5)
  subst e3
  have hk : ∀ (k : Nat) (x : Nat × va_E), (ws ++ X)[k]? = some x → (H.push { cls := G.2 t0, slots := Array.replicate n.toNatClampNeg .null, vm := .none })[x.1]? = H[x.1]? := fun k x hx => by
    have := (hP.1 k x hx).lt
    rw [Array.getElem?_push, if_neg (Nat.ne_of_lt this)]
  have hP1 : va_P G.1 jb_cl ((ws ++ X) ++ [(H.size, .inl (G.2 t0, n.toNatClampNeg, .inr (.inr (.inr (.inr fun _ => none)))))]) (H.push { cls := G.2 t0, slots := Array.replicate n.toNatClampNeg .null, vm := .none }) := by
    refine (hP.1.kept hk).app (fun k x hx => ?_)
    have hz9 : k < 1 := (List.getElem?_eq_some_iff.mp hx).1
    rw [show k = 0 by omega] at hx
    cases hx
    show (H.push _)[H.size]? = some (vp_cell _ _)
    rw [vp_cell_q]
    show (H.push _)[H.size]? = some (arrV _ _ (fun _ => Value.null))
    rw [← arrV_new]; simp
  have hD1 := hP.2.push (e := .inl (G.2 t0, n.toNatClampNeg, .inr (.inr (.inr (.inr fun _ => none))))) hP.1 rfl (show s0.heap.size ≤ H.size from Nat.le_trans O.2.2.2.1 hS.1)
  rw [List.append_assoc, hX] at hP1 hD1
  exact kk H.size ls _ locs hL ⟨hP1, hD1⟩ ⟨Nat.le_trans hS.1 (by simp), fun x h1 h2 => by
    rw [Array.getElem?_push, if_neg (Nat.ne_of_lt (Nat.lt_of_lt_of_le h1 hS.1))]; exact hS.2.1 x h1 h2, hS.2.2⟩
theorem ki_get (O : CallFix p m c cc nL s args ja_T own ∧ ki_X s0 s G) {i ci k N index a : Nat} {C : String} {T : u_T} {fs : List Value} {v : Value} (he : X[i]? = some (a, .inr (ci, fs))) (hc : jb_cl[ci]? = some (C, T, N)) (hin : ∀ w ∈ u_ws C T N, w ∈ ja_T) (hk : k < N) (hl : Cond.fieldLink own index (T k).1 (T k).2.1 (T k).2.2.1 ∈ ja_T) (hv : fs[k]? = some v) (hd : decode cc pc = .ok (.getfield index, 3)) (hp : pc + 3 = q)
    (kk : ja_V p l e R s m args below meth c (ki_W s0 G ws X) s0.heap.size nL cells slots Q S q L (v :: st)) : ja_V p l e R s m args below meth c (ki_W s0 G ws X) s0.heap.size nL cells slots Q S pc L (.ref a :: st) := by
  subst hp
  exact fun ls H locs hL hP hS => va_get O.1.1 O.1.2.1 O.1.2.2.2.2 hin O.1.2.2.2.1 O.2.2.1 hP.1 _ (ki_at he) hc k hk (O.1.2.2.2.2 _ hl) (fun _ h => h) hv hd (kk ls H locs hL hP hS)
theorem ki_put (O : CallFix p m c cc nL s args ja_T own ∧ ki_X s0 s G) {i ci k N index a : Nat} {C : String} {T : u_T} {fs : List Value} {v : Value} {ty : FieldType} (he : X[i]? = some (a, .inr (ci, fs))) (hc : jb_cl[ci]? = some (C, T, N)) (hin : ∀ w ∈ u_ws C T N, w ∈ ja_T) (ty0 : Nat → FieldType) (hty : ∀ k, k < N → parseFieldDescriptor (T k).2.2.1 = some (ty0 k)) (hnm : ∀ a, a < N → ∀ b, b < N → a ≠ b → (T a).2.1 ≠ (T b).2.1) (hk : k < N) (hl : Cond.fieldLink own index (T k).1 (T k).2.1 (T k).2.2.1 ∈ ja_T) (hf : (T k).2.2.2 = false) (hd0 : parseFieldDescriptor (T k).2.2.1 = some ty) (hn : narrow ty v = v) (hfit : fits ty v = true) (hlen : k < fs.length) (hset : X.set i (a, .inr (ci, fs.set k v)) = X') (hd : decode cc pc = .ok (.putfield index, 3)) (hp : pc + 3 = q)
    (kk : ja_V p l e R s m args below meth c (ki_W s0 G ws X') s0.heap.size nL cells slots Q S q L st) : ja_V p l e R s m args below meth c (ki_W s0 G ws X) s0.heap.size nL cells slots Q S pc L (v :: .ref a :: st) := by
  subst hp
  exact fun ls H locs hL hP hS => va_put O.1.1 O.1.2.1 O.1.2.2.2.2 hin ty0 hty hnm O.1.2.2.2.1 O.2.2.1 hP.1 hP.2 hS _ (ki_at he) hc k hk (O.1.2.2.2.2 _ hl) (fun _ h => h) hf hd0 hn hfit hlen hd (fun H1 locs1 hP1 hD1 hS1 => kk ls H1 locs1 hL (show _ ∧ _ by rw [← ki_st hset]; exact ⟨hP1, hD1⟩) hS1)
theorem ki_putF (O : CallFix p m c cc nL s args ja_T own ∧ ki_X s0 s G) {i ci k N index a : Nat} {C : String} {T : u_T} {fs : List Value} {v : Value} {ty : FieldType} (hnm0 : meth.name = "<init>") (he : X[i]? = some (a, .inr (ci, fs))) (hc : jb_cl[ci]? = some (C, T, N)) (hin : ∀ w ∈ u_ws C T N, w ∈ ja_T) (ty0 : Nat → FieldType) (hty : ∀ k, k < N → parseFieldDescriptor (T k).2.2.1 = some (ty0 k)) (hnm : ∀ a, a < N → ∀ b, b < N → a ≠ b → (T a).2.1 ≠ (T b).2.1) (hk : k < N) (hl : Cond.fieldLink own index (T k).1 (T k).2.1 (T k).2.2.1 ∈ ja_T) (hf : (T k).2.2.2 = true) (hdc : (T k).1 = own) (hd0 : parseFieldDescriptor (T k).2.2.1 = some ty) (hn : narrow ty v = v) (hfit : fits ty v = true) (hlen : k < fs.length) (hset : X.set i (a, .inr (ci, fs.set k v)) = X') (hd : decode cc pc = .ok (.putfield index, 3)) (hp : pc + 3 = q)
    (kk : ja_V p l e R s m args below meth c (ki_W s0 G ws X') s0.heap.size nL cells slots Q S q L st) : ja_V p l e R s m args below meth c (ki_W s0 G ws X) s0.heap.size nL cells slots Q S pc L (v :: .ref a :: st) := by
  subst hp
  exact fun ls H locs hL hP hS => va_putF O.1.1 O.1.2.1 O.1.2.2.2.2 hin ty0 hty hnm O.1.2.2.2.1 O.2.2.1 hP.1 hP.2 hS _ (ki_at he) hc k hk (O.1.2.2.2.2 _ hl) (fun _ h => h) hf hnm0 hdc hd0 hn hfit hlen hd (fun H1 locs1 hP1 hD1 hS1 => kk ls H1 locs1 hL (show _ ∧ _ by rw [← ki_st hset]; exact ⟨hP1, hD1⟩) hS1)
theorem ki_iast (O : CallFix p m c cc nL s args ja_T own ∧ ki_X s0 s G) {i n k a : Nat} {f : Nat → Int32} {x y : Int32} (he : X[i]? = some (a, .inl (G.2 0, n, .inl f))) (hx : x = nI k) (hk : k < n) (hn : n < 2 ^ 31) (hset : X.set i (a, .inl (G.2 0, n, .inl (upd f k y))) = X') (hd : decode cc pc = .ok (.iastore, 1)) (hp : pc + 1 = q)
    (kk : ja_V p l e R s m args below meth c (ki_W s0 G ws X') s0.heap.size nL cells slots Q S q L st) : ja_V p l e R s m args below meth c (ki_W s0 G ws X) s0.heap.size nL cells slots Q S pc L (.int y :: .int x :: .ref a :: st) := by
  subst hp; subst hx
  intro ls H locs hL hP hS
  refine va_iast O.1.1 O.1.2.1 O.2.2.1 hP.1 hP.2 hS _ 0 (ki_at he) rfl (vp_in_nI hk hn) hd (fun H1 locs1 hP1 hD1 hS1 => kk ls H1 locs1 hL ?_ hS1)
  rw [nI_clamp (show k < 2 ^ 31 by omega), ki_st hset] at hP1 hD1
  exact ⟨hP1, hD1⟩
theorem ki_aast (O : CallFix p m c cc nL s args ja_T own ∧ ki_X s0 s G) {i n k a v j t0 ci : Nat} {r : vw_C} {vs : List Value} {f : Nat → Option Nat} {x : Int32} (he : X[i]? = some (a, .inl (G.2 t0, n, .inr (.inr (.inr (.inr f)))))) (ht : (jb_ty G.2)[t0]? = some (G.2 t0, .object r.1)) (hv : X[j]? = some (v, .inr (ci, vs))) (hc : jb_cl[ci]? = some r) (hx : x = nI k) (hk : k < n) (hn : n < 2 ^ 31) (hset : X.set i (a, .inl (G.2 t0, n, .inr (.inr (.inr (.inr (va_up f k (some v))))))) = X') (hd : decode cc pc = .ok (.aastore, 1)) (hp : pc + 1 = q)
    (kk : ja_V p l e R s m args below meth c (ki_W s0 G ws X') s0.heap.size nL cells slots Q S q L st) : ja_V p l e R s m args below meth c (ki_W s0 G ws X) s0.heap.size nL cells slots Q S pc L (.ref v :: .int x :: .ref a :: st) := by
  subst hp; subst hx
  intro ls H locs hL hP hS
  refine va_astq O.1.1 O.1.2.1 O.2.2.1 hP.1 hP.2 hS _ t0 _ ci (ki_at he) ht (ki_at hv) hc (vp_in_nI hk hn) hd (fun H1 locs1 hP1 hD1 hS1 => kk ls H1 locs1 hL ?_ hS1)
  rw [nI_clamp (show k < 2 ^ 31 by omega), ki_st hset] at hP1 hD1
  exact ⟨hP1, hD1⟩
theorem ki_go {H : Heap} {locs : List Loc} {ls : Array Slot} {st0 rest : List Value} {post : va_W → Prop} {a : Array Value} {mc ms : Nat} (hr : va_Run p l e R s m args below meth c H locs cells slots mc ms (F0 m pc ls st0) rest (ki_Q s0 G ws post a) (fun q => s0.heap.size ≤ q)) (hS : va_S (fun q => s0.heap.size ≤ q) s.heap H locs)
    (kk : ∀ (Y : va_W) (H1 : Heap) (locs1 : List Loc), post Y → va_P G.1 jb_cl (ws ++ Y) H1 → va_D (fun q => s0.heap.size ≤ q) (ws ++ Y) → va_S (fun q => s0.heap.size ≤ q) s.heap H1 locs1 → W p l e R s m args below meth c H1 locs1 (cells + mc) (slots + ms) Q (F0 m (pc + 3) ls rest)) : W p l e R s m args below meth c H locs cells slots Q (F0 m pc ls st0) := by
  intro T hT X9
  obtain ⟨v, st₀, t, T', Ls, h0, X', hL, e1, e2, ⟨⟨Y, hv, hp, hb, hD⟩, hz, hk⟩, st9⟩ := hr T hT X9
  cases hv
  rw [h0] at hz hk
  obtain ⟨t2, a1, b1⟩ := kk Y T'.heap (locs ++ Ls) hp (by rw [e1]; exact hb) hD
    ⟨Nat.le_trans hS.1 (by rw [e1]; exact hz), fun q h1 h2 => by rw [e1, hk q (Nat.lt_of_lt_of_le h1 hS.1) h2]; exact hS.2.1 q h1 h2, fun q hq => by
      rcases List.mem_append.mp hq with h | h
      · exact hS.2.2 q h
      · exact hL q h⟩ T' rfl X'
  exact ⟨t2, st9 t2 a1, b1⟩
theorem ki_pre {H : Heap} {locs : List Loc} {As : List Value} (O2 : ki_X s0 s G) (hP : ki_W s0 G ws X (fun _ _ => 0) H) (hS : va_S (fun q => s0.heap.size ≤ q) s.heap H locs) : ∀ U : State, U.heap = H → s.WarmedH U.vm → va_Pc As (ki_B s0 G (ws ++ X)) As.toArray U := fun U hU hW =>
  ⟨rfl, State.WarmedH.trans O2.1 hW, by rw [hU]; exact hP, by rw [hU]; exact Nat.le_trans O2.2.2.1 hS.1, fun q hq => by rw [hU, hS.2.1 q (Nat.lt_of_lt_of_le hq O2.2.2.1) (Nat.not_le.mpr hq)]; exact O2.2.2.2 q hq⟩
theorem ki_I (O : CallFix p m c cc nL s args ja_T own ∧ ki_X s0 s G) {y : MethodName} {bytes : ByteArray} {n k d mc ms index b : Nat} {E0 : va_E} {post : va_W → Prop} {As : List Value} (hC : ki_C l s0 G y bytes n d mc ms (.ref b :: As) (ws ++ X) [(b, E0)] post) (hl : Cond.methodLink own index y ∈ ja_T) (hcd : Cond.code y bytes n none ∈ ja_T) (hini : Cond.initialized y.cls ∈ ja_T) (hdd : y.cls ≠ "java/lang/invoke/MethodHandle" ∧ y.cls ≠ "java/lang/invoke/VarHandle" ∧ (parseMethodDescriptor y.desc).map (fun d => d.parameters.length) = some k) (hk : As.length = k) (hi : Cond.instanceMethod y ∈ ja_T) (hnm : y.name = "<init>") (hR : d + 1 ≤ R.frames ∧ 8 + (n + 11) + 40 * d ≤ R.locals) (hst : (st.map fun v => v.category).sum ≤ 8) (hz : cells + mc ≤ R.cells ∧ slots + ms ≤ R.slots) (hd : decode cc pc = .ok (.invokespecial index, 3)) (hX : X ++ [(b, E0)] = X') (hp : pc + 3 = q)
    (kk : ∀ Y, post Y → ja_V p l e R s m args below meth c (ki_W s0 G ws (X ++ Y)) s0.heap.size nL (cells + mc) (slots + ms) Q S q L st) : ja_V p l e R s m args below meth c (ki_W s0 G ws X') s0.heap.size nL cells slots Q S pc L (As.reverse ++ .ref b :: st) := by
  subst hX; subst hp
  intro ls H locs hL hP hS
  have hP' : ki_W s0 G (ws ++ X) [(b, E0)] (fun _ _ => 0) H := by
    show _ ∧ _
    rw [List.append_assoc]
    exact hP
  exact ki_go (va_runI (As := As) (rest := st) O.1 hC ⟨callB_of k O.1.2.2.2.2 (jo_goodc hcd) rfl rfl rfl (O.1.2.2.2.2 _ hini) (O.1.2.2.2.2 _ hl) hdd hR, hnm, O.1.2.2.2.2 _ hi⟩ ⟨ki_blind, ki_pre O.2 hP' hS⟩ rfl hk hL.1.1 rfl (lv_room hst) hd hz) hS (fun Y H1 locs1 hp hP1 hD1 hS1 => kk Y hp ls H1 locs1 hL (show _ ∧ _ by rw [← List.append_assoc]; exact ⟨hP1, hD1⟩) hS1)
theorem ki_IN (O : CallFix p m c cc nL s args ja_T own ∧ ki_X s0 s G) {y : MethodName} {bytes : ByteArray} {n k d mc ms index b : Nat} {host : String} {E0 : va_E} {post : va_W → Prop} {As : List Value} (hC : ki_C l s0 G y bytes n d mc ms (.ref b :: As) (ws ++ X) [(b, E0)] post) (hl : va_Nw (.methodLinkNest own index y host) s) (hcd : Cond.code y bytes n none ∈ ja_T) (hini : Cond.initialized y.cls ∈ ja_T) (hdd : y.cls ≠ "java/lang/invoke/MethodHandle" ∧ y.cls ≠ "java/lang/invoke/VarHandle" ∧ (parseMethodDescriptor y.desc).map (fun d => d.parameters.length) = some k) (hk : As.length = k) (hi : Cond.instanceMethod y ∈ ja_T) (hnm : y.name = "<init>") (hR : d + 1 ≤ R.frames ∧ 8 + (n + 11) + 40 * d ≤ R.locals) (hst : (st.map fun v => v.category).sum ≤ 8) (hz : cells + mc ≤ R.cells ∧ slots + ms ≤ R.slots) (hd : decode cc pc = .ok (.invokespecial index, 3)) (hX : X ++ [(b, E0)] = X') (hp : pc + 3 = q)
    (kk : ∀ Y, post Y → ja_V p l e R s m args below meth c (ki_W s0 G ws (X ++ Y)) s0.heap.size nL (cells + mc) (slots + ms) Q S q L st) : ja_V p l e R s m args below meth c (ki_W s0 G ws X') s0.heap.size nL cells slots Q S pc L (As.reverse ++ .ref b :: st) := by
  subst hX; subst hp
  intro ls H locs hL hP hS
  have hP' : ki_W s0 G (ws ++ X) [(b, E0)] (fun _ _ => 0) H := by
    show _ ∧ _
    rw [List.append_assoc]
    exact hP
  exact ki_go (va_runIN (As := As) (rest := st) O.1 hC ⟨va_cnB k O.1.2.2.2.2 (jo_goodc hcd) rfl rfl rfl hl (O.1.2.2.2.2 _ hini) hdd hR, hnm, O.1.2.2.2.2 _ hi⟩ ⟨ki_blind, ki_pre O.2 hP' hS⟩ rfl hk hL.1.1 rfl (lv_room hst) hd hz) hS (fun Y H1 locs1 hp hP1 hD1 hS1 => kk Y hp ls H1 locs1 hL (show _ ∧ _ by rw [← List.append_assoc]; exact ⟨hP1, hD1⟩) hS1)
end KI
