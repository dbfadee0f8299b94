/-! THE LAW'S WRAPPERS (hand text): a call that may throw, the search for the handler, contracts of methods with handlers -/
section JQ
variable {p : Program} {l : Launch} {e : Env} {R : Room} {s s0 : State} {m : MethodId} {args : Array Value} {below : List Frame} {meth : Method} {c : Code} {H : Heap} {locs : List Loc} {cells slots : Nat} {Q : State → Prop}
theorem jt_runB {y : MethodName} {bytes cc : ByteArray} {maxL nL mc ms n index : Nat} {ret : Option FieldType} {ws : List Cond} {rm : Room} {Pc : Array Value → State → Prop} {Qr : Array Value → State → Option Value → State → Prop} {Qt : Array Value → State → Addr → State → Prop} {free : Addr → Prop} {Ts : List Cond} {own C : String} {b : Addr} {As rest : List Value} {g : JFrame}
    (S : CallFix p m c cc nL s args Ts own) (hM : jt_B l y ws rm Pc Qr Qt mc ms free) (cw : CallW R s args own C index y bytes maxL ret ws rm mc ms n) (hp : PreV s H C b Pc As)
    (hg : g.method = m) (hn : As.length = n) (hsize : g.locals.size = nL) (hstack : g.stack = As.reverse ++ .ref b :: rest) (hW : 2 * g.monitorRoom + (rest.map fun v => v.category).sum ≤ 8) (hdg : decode cc g.pc = .ok (.invokevirtual index, 3)) (hf : cells + mc ≤ R.cells ∧ slots + ms ≤ R.slots)
    (T : State) (hT : T.heap = H) (X : Stand p l e R s m args below meth c T locs cells slots) :
    ∃ (st₀ t T' : State) (L : List Loc), st₀.heap = H ∧ s.WarmedH st₀.vm ∧ Stand p l e R s m args below meth c T' (locs ++ L) (cells + mc) (slots + ms) ∧ (∀ q ∈ L, free q.base) ∧ T'.heap = t.heap ∧
      ((∃ v, Qr (Value.ref b :: As).toArray st₀ v t ∧ ∀ tg, Steps p.tables e below (T'.setTop { g with pc := g.pc + 3, stack := v.toList ++ rest }) tg → Steps p.tables e below (T.setTop g) tg) ∨
       ∃ x, Qt (Value.ref b :: As).toArray st₀ x t ∧ ∀ tg, Steps p.tables e below ((T'.setTop { g with stack := rest }).pushFrame (.throwing x)) tg → Steps p.tables e below (T.setTop g) tg) := by
  obtain ⟨⟨hrc, hrs, hfr, hlo, hws, hcw, hcode, hini, hy, hlen, hl⟩, hinst, hsel⟩ := cw
  obtain ⟨hx, hb, hml, hown, -⟩ := S
  obtain ⟨hblind, ⟨cellB, hcB, hoB, hclB⟩, hPc⟩ := hp
  subst hb
  obtain ⟨mk, methM, hnamed, hmethM, hstM, habM⟩ := Cond.instanceMethod_spec hinst
  obtain ⟨methM', cM, hmethM', hcM, -, hlM, -, -, -, hsigM⟩ := Cond.code_spec hnamed hcode
  cases hmethM.symm.trans hmethM'
  obtain ⟨c2, r2, m2, q1, q2, q3, q4, kP, hkP, hkPi⟩ := Cond.selects_spec hsel
  cases hclB.symm.trans q1
  cases (State.methodFound?_of_named hnamed hy).symm.trans q2
  cases hnamed.symm.trans q3
  have hselP : selectMethod e.platform s.vm cellB.cls mk = .method mk := by rw [Launch.admits_selectMethod X.admits]; exact q4
  obtain ⟨vm₁, X₁, hstep₁⟩ := X.invokevirtual hx hown hl hnamed hmethM hstM hkP hkPi hy (a := b) (cell := cellB) (by rw [hT]; exact hcB)
    (fun z h => by rw [h] at hoB; cases hoB) hselP hmethM habM hkP hkPi (g := g) hg (argsL := As) (rest := rest) (hn.trans (hlen _ hsigM)) hstack hdg
  have h : At (T.setVm vm₁) { g with stack := rest }.method c below := by rw [show ({ g with stack := rest } : JFrame).method = m from hg]; exact X₁.here
  have hnamed₁ : (T.setVm vm₁).methodNamed? y = some mk := X₁.named hnamed
  have hcode₁ : (Cond.code y bytes maxL ret).before (Value.ref b :: As).toArray (T.setVm vm₁) = true := hws _ hcw _ _ X₁.warmed
  obtain ⟨methY, cY, hmY, hcY, -, hlY, -, -, -, -⟩ := Cond.code_spec hnamed₁ hcode₁
  obtain ⟨kY, hkY, -⟩ := className_of_methodNamed hnamed₁
  have hini₁ : (Cond.initialized y.cls).before (Value.ref b :: As).toArray (T.setVm vm₁) = true := word_at X₁.warmed (Or.inl (by first | rfl | simp [Cond.onTables, Cond.keeps, Cond.steady])) hini
  have hinitY : kY.init = .initialized := Cond.initialized_spec (findClass_of_methodNamed hnamed₁) hkY hini₁
  have happ : (headSpec ws rm).appliesLoose y e.platform ((T.setVm vm₁).calling { g with stack := rest } mk (Value.ref b :: As).toArray) = true :=
    Spec.appliesLoose_calling (g := { g with stack := rest }) h hdg hnamed₁ hkY hinitY
      (X₁.room_calling (g := { g with stack := rest }) (R' := (headSpec ws rm).room) (hsize.trans hml.symm) hmY hcY hfr (by rw [hlY]; show 2 * g.monitorRoom + (rest.map fun v => v.category).sum + (maxL + 11) + rm.locals ≤ R.locals; omega)
        (by rw [show (headSpec ws rm).room.cells = mc from hrc]; exact hf.1) (by rw [show (headSpec ws rm).room.slots = ms from hrs]; exact hf.2)) (atoms_intro fun w hw => hws w hw _ _ X₁.warmed)
  obtain ⟨mid, hmid⟩ := h.above
  have hfr2 : ((T.setVm vm₁).setTop { g with stack := rest }).frames = (.java { g with stack := rest } :: mid) ++ below := by rw [State.frames_setTop' _ h.top, hmid]; rfl
  have hPre : Pc (Value.ref b :: As).toArray ((T.setVm vm₁).calling { g with stack := rest } mk (Value.ref b :: As).toArray) := hblind _ _ _ _ (hPc (T.setVm vm₁) hT X₁.warmed)
  obtain ⟨o, s₂, hsteps, -, hend, hq⟩ := Steps.callFree hM p X.admits X.cas X.clock (acts := []) hfr2 happ hPre trivial
  obtain ⟨hqc, L, hW₂, hsm, hL⟩ := hq
  have hgp : g.pc = ({ g with stack := rest } : JFrame).pc := rfl
  have hdg' : decode c.code ({ g with stack := rest } : JFrame).pc = .ok (.invokevirtual index, 3) := hdg
  have hend2 : (∃ x, o = .threw x ∧ s₂.frames = .throwing x :: .java { g with stack := rest } :: (T.setVm vm₁).frames.tail) ∨ (∃ v, o = .returned v ∧ s₂.frames = .java { g with pc := g.pc + 3, stack := v.toList ++ rest } :: (T.setVm vm₁).frames.tail) := by
    cases o with
    | threw x =>
      refine Or.inl ⟨x, rfl, ?_⟩
      have h9 : s₂.frames = .throwing x :: ((T.setVm vm₁).setTop { g with stack := rest }).frames := hend
      rw [h9, State.frames_setTop' _ h.top]
    | returned v =>
      refine Or.inr ⟨v, rfl, ?_⟩
      have hend' := hend
      rw [State.frames_setTop' { g with stack := rest } h.top] at hend'
      obtain ⟨c₂, i₂, len₂, hc₂, hd₂, hf₂⟩ := hend'
      have hW9 : (T.setVm vm₁).WarmedH s₂.vm := hW₂
      have hcc : c₂ = c := by
        have h1 : s₂.code? g.method = (T.setVm vm₁).code? g.method := by
          rw [State.code?_eq, State.code?_eq, hW9.alike.method?]
        exact Option.some.inj (hc₂.symm.trans (h1.trans h.code))
      subst hcc
      have hlen : len₂ = 3 := by rw [hdg'] at hd₂; cases hd₂; rfl
      subst hlen
      exact hf₂
  generalize hU : T.setVm vm₁ = U at *
  generalize hg' : ({ g with stack := rest } : JFrame) = g' at *
  obtain ⟨e2, q2, q3, q4, q5, q6⟩ := id hsm
  have hsteps' : Steps p.tables e below (doInvoke e (U.setTop g') [] mk (Value.ref b :: As).toArray).1 s₂ := hsteps
  have e3 : s₂ = ({ (U.calling g' mk (Value.ref b :: As).toArray).setFrames s₂.frames with heap := s₂.heap, slotsUsed := s₂.slotsUsed } : State).setVm s₂.vm := by
    have h1 : s₂ = ({ s₂ with vm := (U.calling g' mk (Value.ref b :: As).toArray).vm } : State).setVm s₂.vm := rfl
    have h2 : ({ s₂ with vm := (U.calling g' mk (Value.ref b :: As).toArray).vm } : State) = ({ (U.calling g' mk (Value.ref b :: As).toArray).setFrames s₂.frames with heap := s₂.heap, slotsUsed := s₂.slotsUsed } : State) := e2
    rw [h2] at h1
    exact h1
  have hW' : U.WarmedH s₂.vm := hW₂
  obtain ⟨g₀, hg0⟩ := Option.isSome_iff_exists.mp h.top
  obtain ⟨r, hr⟩ := State.topJava?_eq_some.mp hg0
  have hsame : U.sameButNew ({ U with heap := s₂.heap, slotsUsed := s₂.slotsUsed } : State) L mc ms := by
    refine ⟨?_, q2, q3, q4, q5, q6⟩
    obtain ⟨t, ht, -⟩ := State.frames_cons hr
    show ({ U with heap := s₂.heap, slotsUsed := s₂.slotsUsed } : State) = { U.setFrames U.frames with heap := s₂.heap, slotsUsed := s₂.slotsUsed }
    rw [State.setFrames_self ht]
  have hr' : (({ U with heap := s₂.heap, slotsUsed := s₂.slotsUsed } : State).setVm s₂.vm).frames = .java g₀ :: r := hr
  have hst0 : s.WarmedH (U.calling g' mk (Value.ref b :: As).toArray).vm := X₁.warmed
  refine ⟨U.calling g' mk (Value.ref b :: As).toArray, s₂, ({ U with heap := s₂.heap, slotsUsed := s₂.slotsUsed } : State).setVm s₂.vm, L, by rw [← hT, ← hU]; rfl, hst0,
    ⟨X₁.admits, X₁.cas, X₁.clock, X₁.frames, X₁.room, X₁.hears, X₁.method, X₁.code, (X₁.here.setHeapUsed s₂.heap s₂.slotsUsed).setVm hW'.alike, X₁.tail, State.WarmedH.trans X₁.warmed hW', X₁.limits, X₁.bytes, X₁.same.trans (hsame.setVm s.vm)⟩,
    hL, rfl, ?_⟩
  rcases hend2 with ⟨x, ho, hend'⟩ | ⟨v, ho, hend'⟩
  · subst ho
    rcases hqc with ⟨v, hv, -⟩ | ⟨x', hv, hqt⟩
    · cases hv
    cases hv
    refine Or.inr ⟨x, hqt, fun tg htg => hstep₁ tg fun acts => ?_⟩
    have hs₂ : s₂ = ((({ U with heap := s₂.heap, slotsUsed := s₂.slotsUsed } : State).setVm s₂.vm).setTop g').pushFrame (.throwing x) := by
      refine e3.trans ?_
      rw [hend', State.calling_eq h.top, State.setFrames_setFrames, State.pushFrame, State.frames_setTop _ hr', State.setTop_of_frames _ hr', State.setFrames_setFrames, hr]
      rfl
    rw [doInvoke_state]
    refine hsteps'.trans ?_
    rw [hs₂]
    exact htg
  · subst ho
    rcases hqc with ⟨v', hv, hqr⟩ | ⟨x', hv, -⟩
    rotate_left
    · cases hv
    cases hv
    refine Or.inl ⟨v, hqr, fun tg htg => hstep₁ tg fun acts => ?_⟩
    have hs₂ : s₂ = (({ U with heap := s₂.heap, slotsUsed := s₂.slotsUsed } : State).setVm s₂.vm).setTop { g with pc := g.pc + 3, stack := v.toList ++ rest } := by
      refine e3.trans ?_
      rw [hend', State.calling_eq h.top, State.setFrames_setFrames, State.setTop_of_frames _ hr', hr]
      rfl
    rw [doInvoke_state]
    refine hsteps'.trans ?_
    rw [hs₂]
    exact htg
/-- the entry that takes an exception of the number cE -/
def jh_L (s : State) (args : Array Value) (own : String) (pc : Nat) (cE : ClassId) : List ExceptionTableEntry → Nat → Prop
  | [], _ => False
  | x :: t, h => covers x pc = true ∧ x.catchType ≠ 0 ∧ ∃ N cN, (Cond.classLink own x.catchType N).before args s = true ∧ s.vm.findClass N = some cN ∧ ((s.vm.assignable cE cN = true ∧ x.handlerPc = h) ∨ (s.vm.assignable cE cN = false ∧ jh_L s args own pc cE t h))
theorem jh_go {own : String} {d : ClassId} {cE : ClassId} {h : Nat} (hpl : e.platform.magicAccessors = ({} : Platform).magicAccessors) (hown : s.vm.findClass own = some d) (hcE : ∃ k, s.vm.classes[cE]? = some k) :
    ∀ (xs : List ExceptionTableEntry) (u : State) (f : JFrame) (a : Addr) (ce9 : Cell), f.method.cls = d → s.WarmedH u.vm → u.heap[a]? = some ce9 → ce9.cls = cE → ce9.vm = .none → jh_L s args own f.pc cE xs h →
      ∃ vm', s.WarmedH vm' ∧ ∀ (Q : Handler → Pre) (E : CtlPost) (dd : Bool) (acts : List Action), wp (findHandler.go f a xs) Q E e dd acts u ↔ Q (.found h) dd acts (u.setVm vm')
  | [], _, _, _, _, _, _, _, _, _, hL => hL.elim
  | x :: t, u, f, a, ce9, hf, hW, hcell, hcls, hvm, hL => by
    obtain ⟨h1, h2, N, cN, h3, h4, h5⟩ := hL
    obtain ⟨c', hc', hcl⟩ := Cond.classLink_spec hown h3 e.platform hpl
    cases h4.symm.trans hc'
    obtain ⟨_, _, _, kt, _, _, _, _, _, hkt, _, _⟩ := hcl.here
    obtain ⟨hg₁, hwarm₁, -⟩ := State.classEntry (e := e) hW hcl
    subst hf
    obtain ⟨k0, hk0⟩ := hcE
    obtain ⟨k1, hk1, -⟩ := hwarm₁.alike.2.2 _ _ hk0
    obtain ⟨k2, hk2, -⟩ := hwarm₁.alike.2.2 _ _ hkt
    have hsz : (u.vm.noted f.method.cls x.catchType (.cls cN)).classes.size ≤ u.vm.classes.size := Nat.le_of_eq (Vm.size_noted _ _ _ _)
    have hobj : ∀ k, ce9.vm ≠ .statics k := fun k q => by rw [hvm] at q; cases q
    have hasg : (u.vm.noted f.method.cls x.catchType (.cls cN)).assignable ce9.cls cN = s.vm.assignable cE cN := by rw [hwarm₁.alike.assignable, hcls]
    rcases h5 with ⟨a1, a2⟩ | ⟨a1, a2⟩
    · refine ⟨_, hwarm₁, fun Q E dd acts => ?_⟩
      rw [jt_go h1 h2 hg₁ hsz hcell hobj ⟨k1, by rw [hcls]; exact hk1⟩ ⟨k2, hk2⟩, hasg, a1, if_pos rfl, a2]
    · obtain ⟨vm', w1, w2⟩ := jh_go (h := h) hpl hown ⟨k0, hk0⟩ t (u.setVm (u.vm.noted f.method.cls x.catchType (.cls cN))) f a ce9 rfl hwarm₁ hcell hcls hvm a2
      refine ⟨vm', w1, fun Q E dd acts => ?_⟩
      rw [jt_go h1 h2 hg₁ hsz hcell hobj ⟨k1, by rw [hcls]; exact hk1⟩ ⟨k2, hk2⟩, hasg, a1, if_neg (by decide), w2 Q E dd acts]
      exact Iff.rfl
end JQ
section JQ2
variable {p : Program} {l : Launch} {e : Env} {R : Room} {s s0 : State} {m : MethodId} {args : Array Value} {below : List Frame} {meth : Method} {c : Code} {G : jb_Gt} {ad : Nat → Nat} {a0 : Array Value} {nL : Nat} {Q : State → Prop} {S : ja_S} {pc q : Nat} {L : List (Nat × Value)} {st : List Value} {cc : ByteArray} {own : String}
theorem ju_V (O : CallFix p m c cc nL s args ja_T own ∧ jb_X s0 s G ad) {y : MethodName} {bytes : ByteArray} {n k d index : Nat} {ret : Option FieldType} {post : Int32 → ja_S → Prop} {tp : String → ja_S → Prop} {As : List Value} {i ci N : Nat} {T : u_T} {fs : List Value}
    (hC : jo_Y l s0 G ad y bytes n ret d (.ref (ad i) :: As) S post tp) (he : (jb_en G ad S)[i]? = some (ad i, .inr (ci, fs))) (hc : jb_cl[ci]? = some (y.cls, T, N))
    (hl : Cond.methodLink own index y ∈ ja_T) (hcd : Cond.code y bytes n ret ∈ ja_T) (hini : Cond.initialized y.cls ∈ ja_T) (hdd : y.cls ≠ "java/lang/invoke/MethodHandle" ∧ y.cls ≠ "java/lang/invoke/VarHandle" ∧ (parseMethodDescriptor y.desc).map (fun d => d.parameters.length) = some k) (hk : As.length = k)
    (hi : Cond.instanceMethod y ∈ ja_T) (hs : Cond.selects y.cls y y ∈ ja_T) (hR : d + 1 ≤ R.frames ∧ 8 + (n + 11) + 40 * d ≤ R.locals) (hst : (st.map fun v => v.category).sum ≤ 8) (hz : 0 + 1 ≤ R.cells ∧ 0 + 6 ≤ R.slots) (hd : decode cc pc = .ok (.invokevirtual index, 3))
    (kr : ∀ r S', post r S' → ja_V p l e R s m args below meth c (jb_W G ad) s0.heap.size nL 1 6 Q S' (pc + 3) L (.int r :: st))
    (kt : ∀ E S', tp E S' → ∃ h, (∀ cE, s.vm.findClass E = some cE → (∃ k, s.vm.classes[cE]? = some k) ∧ jh_L s args own pc cE c.exceptionTable.toList h) ∧ ∀ x : Nat, ja_V p l e R s m args below meth c (jb_W G ad) s0.heap.size nL 1 6 Q S' h L [.ref x]) :
    ja_V p l e R s m args below meth c (jb_W G ad) s0.heap.size nL 0 0 Q S pc L (As.reverse ++ .ref (ad i) :: st) := by
  intro ls H locs hL hP hS T₀ hT X
  obtain ⟨st₀, t, T', Ls, h0, hw0, X', hLs, e1, hq⟩ := jt_runB (As := As) (rest := st) (g := F0 m pc ls (As.reverse ++ .ref (ad i) :: st)) O.1 hC ⟨callB_of k O.1.2.2.2.2 (jo_goodc hcd) rfl rfl rfl (O.1.2.2.2.2 _ hini) (O.1.2.2.2.2 _ hl) hdd hR, O.1.2.2.2.2 _ hi, O.1.2.2.2.2 _ hs⟩ ⟨jo_blind, va_recv O.2.2.1 hP hc he, jo_pre O.2 hP hS⟩ rfl hk hL.1.1 rfl (lv_room hst) hd hz T₀ hT X
  have mkS : ∀ (hz' : st₀.heap.size ≤ t.heap.size) (hk' : ∀ q, q < st₀.heap.size → ¬ s0.heap.size ≤ q → t.heap[q]? = st₀.heap[q]?), va_S (fun q => s0.heap.size ≤ q) s.heap T'.heap (locs ++ Ls) := by
    intro hz' hk'
    rw [h0] at hz' hk'
    exact ⟨Nat.le_trans hS.1 (by rw [e1]; exact hz'), fun q h1 h2 => by rw [e1, hk' q (Nat.lt_of_lt_of_le h1 hS.1) h2]; exact hS.2.1 q h1 h2, fun q hq => by
      rcases List.mem_append.mp hq with h | h
      · exact hS.2.2 q h
      · exact hLs q h⟩
  rcases hq with ⟨v, ⟨⟨r, S', hv, hp, hb⟩, hz', hk'⟩, hst'⟩ | ⟨x, ⟨⟨E, S', ht, hb, ce, hce, hvm, hfc⟩, hz', hk'⟩, hst'⟩
  · subst hv
    obtain ⟨t2, a1, b1⟩ := kr r S' hp ls T'.heap (locs ++ Ls) hL (show va_P G.1 jb_cl (jb_en G ad S') T'.heap by rw [e1]; exact hb) (mkS hz' hk') T' rfl X'
    exact ⟨t2, hst' t2 a1, b1⟩
  · obtain ⟨h, hcat, kk⟩ := kt E S' ht
    have hfs : s.vm.findClass E = some ce.cls := by rw [← hfc]; exact (hw0.alike.findClass E _).symm
    obtain ⟨hck, hjL⟩ := hcat ce.cls hfs
    have hpl : e.platform.magicAccessors = ({} : Platform).magicAccessors := by rw [X'.admits.platform]
    have hAt : At T' (F0 m pc ls st).method c below := X'.here
    have hcellT : ((T'.setTop (F0 m pc ls st)).pushFrame (.throwing x)).heap[x]? = some ce := by
      show T'.heap[x]? = some ce
      rw [e1]; exact hce
    obtain ⟨vm', w1, w2⟩ := jh_go (e := e) (s := s) (args := args) (own := own) (d := m.cls) (cE := ce.cls) (h := h) hpl O.1.2.2.2.1 hck c.exceptionTable.toList ((T'.setTop (F0 m pc ls st)).pushFrame (.throwing x)) (F0 m pc ls st) x ce rfl X'.warmed hcellT rfl hvm hjL
    have hF : jt_F e ((T'.setTop (F0 m pc ls st)).pushFrame (.throwing x)) (F0 m pc ls st) x h vm' := by
      intro Q1 E1 dd acts
      have hmm : ((T'.setTop (F0 m pc ls st)).pushFrame (.throwing x)).vm.method? (F0 m pc ls st).method = some meth := X'.method'
      rw [Jvm.W.findHandler_eq hmm X'.code, w2]
    obtain ⟨t2, a1, b1⟩ := kk x ls T'.heap (locs ++ Ls) hL (show va_P G.1 jb_cl (jb_en G ad S') T'.heap by rw [e1]; exact hb) (mkS hz' hk') (T'.setVm vm') rfl (X'.noted w1)
    exact ⟨t2, hst' t2 (jt_caught hAt hF a1), b1⟩
theorem js_37 {cells slots : Nat} (O : CallFix p m c cc nL s args ja_T own ∧ jb_X s0 s G ad) {k : Nat} {x y : Int32} (hx : x = nI k) (hk : k < 1) (hd : decode cc pc = .ok (.lastore, 1)) (hp : pc + 1 = q) (kk : ja_V p l e R s m args below meth c (jb_W G ad) s0.heap.size nL cells slots Q (jb_u S 62 k y) q L st) : ja_V p l e R s m args below meth c (jb_W G ad) s0.heap.size nL cells slots Q S pc L (.long y.toInt64 :: .int x :: .ref (ad 37) :: st) := by
  subst hp; subst hx
  intro ls H locs hL hP hS
  refine va_last O.1.1 O.1.2.1 O.2.2.1 hP (O.2.2.2.1.va S) hS 37 2 rfl rfl (vp_in_nI hk (by decide)) hd (fun H1 locs1 hP1 _ hS1 => ?_)
  rw [nI_clamp (show k < 2 ^ 31 by omega)] at hP1
  have e1 : vp_updL (fun i => (S 62 i).toInt64) k y.toInt64 = fun i => (jb_u S 62 k y 62 i).toInt64 := by
    funext i
    show (if i = k then y.toInt64 else (S 62 i).toInt64) = (upd (S 62) k y i).toInt64
    by_cases z : i = k
    · rw [if_pos z, z, pk_us]
    · rw [if_neg z, pk_un z]
  refine kk ls H1 locs1 hL (show va_P G.1 jb_cl (jb_en G ad _) H1 from ?_) hS1
  rw [e1] at hP1
  exact hP1
/-- the contract of a method with handlers -/
def ju_C (l : Launch) (s0 : State) (G : jb_Gt) (ad : Nat → Nat) (y : MethodName) (cc : ByteArray) (n : Nat) (ret : Option FieldType) (hh : List (Nat × Nat × Nat × Nat)) (d : Nat) (As : List Value) (S : ja_S) (post : Option Value → ja_S → Prop) : Prop :=
  Met l y [Cond.codeWith y cc n ret hh] (jo_r1 d) (jo_P s0 G ad S As) (jo_Q s0 G ad post) 1 6 (fun q => s0.heap.size ≤ q)
abbrev ju_M (s0 : State) (G : jb_Gt) (ad : Nat → Nat) (below : List Frame) (args : Array Value) (s : State) (post : Option Value → ja_S → Prop) : State → Prop := MQ below (jo_Q s0 G ad post) args s 1 6 (fun q => s0.heap.size ≤ q)
theorem ju_of {y : MethodName} {n : Nat} {ret : Option FieldType} {hh : List (Nat × Nat × Nat × Nat)} {d : Nat} {As : List Value} {post : Option Value → ja_S → Prop} (K : jo_G s0 a0 G ad) (hy : plainName y.cls = true) (hc : jo_cat As = true) (hn : (lg_sl As).length ≤ n)
    (body : ∀ (p : Program) (e : Env) (s : State) (m : MethodId) (args : Array Value) (below : List Frame) (meth : Method) (c : Code), CallFix p m c cc n s args ja_T y.cls ∧ jb_X s0 s G ad → meth.sig.returnType = ret → meth.locks = false → c.exceptionTable.toList.map (fun h => (h.startPc, h.endPc, h.handlerPc, h.catchType)) = hh →
      ja_V p l e (jo_r1 d) s m args below meth c (jb_W G ad) s0.heap.size n 0 0 (ju_M s0 G ad below args s post) S 0 (lv_args 0 As) []) : ju_C l s0 G ad y cc n ret hh d As S post := by
  refine va_MetW (cc := cc) (maxL := n) (ret := ret) (hh := hh) hy rfl ?_
  intro p e s m args below meth c s₁ B hml hv
  obtain ⟨rfl, hB⟩ := hv
  have hown : s.vm.findClass y.cls = some m.cls := findClass_of_methodNamed B.named
  have hl := lv_entry As (n := n) hn
  obtain ⟨m9, meth9, c9, hn9, g1, g2, -, -, g5, -⟩ := Cond.codeWith_spec (atoms_spec (ws := [Cond.codeWith y cc n ret hh]) B.pre _ List.mem_cons_self)
  cases B.named.symm.trans hn9
  cases B.method.symm.trans g1
  have hcd : meth.code = some c := (Stand.of_body B).code
  cases hcd.symm.trans g2
  rw [lg_entry_eq]
  exact body p e s m _ below meth c ⟨⟨B.exec, B.bytes, hml, hown, jo_words K hB.1⟩, jo_X K hB⟩ B.returns B.notSynchronized g5 _ s.heap [] ⟨⟨hl.1, hl.2.1, fun q hq => hl.2.2 q (ja_nd_mem hq)⟩, jo_en hc⟩ hB.2.1 va_S.rf
theorem ju_ir (O : CallFix p m c cc nL s args ja_T own ∧ jb_X s0 s G ad) (hr : meth.sig.returnType = some .int) (hk : meth.locks = false) {x : Int32} {P : Int32 → ja_S → Prop} (h : P x S) (hd : decode cc pc = .ok (.ireturn, 1)) : ja_V p l e R s m args below meth c (jb_W G ad) s0.heap.size nL 1 6 (ju_M s0 G ad below args s (jo_i P)) S pc L [.int x] :=
  fun ls H locs hL hP hS => W.iret (v := x) O.1.1 O.1.2.1 hr (fun t ht hW => ⟨⟨_, S, rfl, ⟨x, rfl, h⟩, by rw [ht]; exact hP⟩, hS.F ht⟩) hS.2.2 hd hk
end JQ2
