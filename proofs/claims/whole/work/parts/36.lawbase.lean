/-! BEHIND A CALL: what the class's public methods leave of the reference, and the reference's of the class; the law's rows -/
section KL0
variable {S : ja_S}
theorem hi_open (a b d : Int32) : hi S (cp_open S a b d).2.2 := by
  unfold cp_open; repeat' split
  all_goals (repeat first | exact hi.rf | refine hi.sv rfl ?_)
theorem hi_load (a b d : Int32) : hi S (cp_load S a b d).2.2 := by
  unfold cp_load; repeat' split
  all_goals (repeat first | exact hi.rf | refine hi.sv rfl ?_)
theorem hi_ins (a : Int32) : hi S (cp_ins S a).2.2 := by
  unfold cp_ins; repeat' split
  all_goals (repeat first | exact hi.rf | refine hi.sv rfl ?_)
theorem hi_eject : hi S (cp_eject S).2.2 := by
  unfold cp_eject; repeat' split
  · exact hi.rf
  · exact hi.end_ hi.rf
theorem hi_line (a : Int32) : hi S (cp_line S a).2.2 := by
  unfold cp_line; repeat' split
  all_goals (repeat first | exact hi.rf | refine hi.sv rfl ?_)
theorem hi_jam (a : Int32) : hi S (cp_jam S a).2.2 := by
  unfold cp_jam
  by_cases h : jp_in a (-1) 100
  · rw [if_pos h]; exact hi.sv rfl hi.rf
  · rw [if_neg h]; exact hi.rf
theorem hi_pow (a : Int32) : hi S (cp_pow S a).2.2 := by
  unfold cp_pow
  by_cases h : jp_in a 0 4
  · rw [if_pos h]; exact hi.sv rfl hi.rf
  · rw [if_neg h]; exact hi.rf
theorem hi_bal (a : Int32) : hi S (cp_bal S a).2.2 := by
  unfold cp_bal; split <;> exact hi.rf
theorem hi_revl (a : Int32) : hi S (cp_revl S a).2.2 := by
  unfold cp_revl; split <;> exact hi.rf
theorem hi_notes (a : Int32) : hi S (cp_notes S a).2.2 := by
  unfold cp_notes; split <;> exact hi.rf
theorem hi_tr (a b : Int32) : hi S (cp_tr S a b).2.2 := by
  unfold cp_tr; repeat' split
  all_goals exact hi.rf
theorem hi_ct (b : Int32) : hi S (cp_ct S b).2.2 := by
  unfold cp_ct
  by_cases h0 : b = 0
  · rw [if_pos h0]; exact hi.rf
  rw [if_neg h0]
  by_cases h0 : b = 1
  · rw [if_pos h0]; exact hi.rf
  rw [if_neg h0]
  by_cases h0 : b = 2
  · rw [if_pos h0]; exact hi.rf
  rw [if_neg h0]
  by_cases h0 : b = 3
  · rw [if_pos h0]; exact hi.rf
  rw [if_neg h0]
  by_cases h0 : b = 4
  · rw [if_pos h0]; exact hi.rf
  rw [if_neg h0]
  by_cases h0 : b = 5
  · rw [if_pos h0]; exact hi.rf
  rw [if_neg h0]
  by_cases h0 : b = 6
  · rw [if_pos h0]; exact hi.rf
  rw [if_neg h0]
  by_cases h0 : b = 7
  · rw [if_pos h0]; exact hi.rf
  rw [if_neg h0]; exact hi.rf
theorem hi_try (j : Nat) (x : Int32) : hi S (cf_try S j x).2 := by
  unfold cf_try; repeat' split
  all_goals (repeat first | exact hi.rf | refine hi.sv rfl ?_)
theorem hi_pin (x : Int32) : hi S (cp_pin S x).2.2 := by
  unfold cp_pin; repeat' split
  · exact hi.sv rfl (hi_try _ _)
  · exact hi.end_ (hi.sv rfl (hi_try _ _))
  · exact hi.rf
theorem hi_boot : hi S (cp_boot S).2.2 := by
  unfold cp_boot; split
  · show hi S (cf_boot S)
    unfold cf_boot; split
    · exact hi.sv rfl hi.rf
    · exact hi.rec_ (hi.sv rfl hi.rf)
  · exact hi.rf
theorem hi_stl : hi S (cp_stl S).2.2 := by
  unfold cp_stl; split
  · exact hi.rf
  · exact hi.drop (hi.stl 41 0 hi.rf)
theorem hi_mix (a b : Int32) (f g : Nat → Int32) (x : Bool) : hi S (cp_mix S a b f g x).2.2 := by
  unfold cp_mix; repeat' split
  all_goals (repeat first | exact hi.rf | refine hi.sv rfl ?_)
theorem hi_wd (t j : Nat) (b : Int32) (f g : Nat → Int32) (x : Bool) : hi S (cp_wd S t j b f g x).2.2 := by
  unfold cp_wd; repeat' split
  · exact hi.wd (hi.sv rfl (hi.sv rfl hi.rf))
  all_goals (repeat first | exact hi.rf | refine hi.sv rfl ?_)
theorem lo_open (a b d : Int32) : lo S (mp_open S a b d).2.2 := by
  unfold mp_open; repeat' split
  · show lo S (mf_open _ _ _ _)
    unfold mf_open
    repeat first | exact lo.rf | refine lo.sv rfl ?_
  · exact lo.fail lo.rf
  · exact lo.fail lo.rf
theorem lo_load (a b d : Int32) : lo S (mp_load S a b d).2.2 := by
  unfold mp_load; repeat' split
  · repeat first | exact lo.rf | refine lo.sv rfl ?_
  · exact lo.fail lo.rf
  · exact lo.fail lo.rf
theorem lo_ins (a : Int32) : lo S (mp_ins S a).2.2 := by
  unfold mp_ins; repeat' split
  · repeat first | exact lo.rf | refine lo.sv rfl ?_
  · exact lo.fail lo.rf
  · exact lo.fail lo.rf
  · exact lo.fail lo.rf
theorem lo_eject : lo S (mp_eject S).2.2 := by
  unfold mp_eject; repeat' split
  · repeat first | exact lo.rf | refine lo.sv rfl ?_
  · exact lo.fail lo.rf
theorem lo_line (a : Int32) : lo S (mp_line S a).2.2 := by
  unfold mp_line; repeat' split
  · exact lo.fail lo.rf
  · repeat first | exact lo.rf | refine lo.sv rfl ?_
  · exact lo.fail lo.rf
theorem lo_jam (a : Int32) : lo S (mp_jam S a).2.2 := by
  unfold mp_jam
  by_cases h : jp_in a (-1) 100
  · rw [if_pos h]; exact lo.sv rfl (lo.sv rfl lo.rf)
  · rw [if_neg h]; exact lo.fail lo.rf
theorem lo_pow (a : Int32) : lo S (mp_pow S a).2.2 := by
  unfold mp_pow
  by_cases h : jp_in a 0 4
  · rw [if_pos h]; exact lo.sv rfl (lo.sv rfl lo.rf)
  · rw [if_neg h]; exact lo.fail lo.rf
theorem lo_bal (a : Int32) : lo S (mp_bal S a).2.2 := by
  unfold mp_bal; split
  · exact lo.sv rfl lo.rf
  · exact lo.fail lo.rf
theorem lo_revl (a : Int32) : lo S (mp_revl S a).2.2 := by
  unfold mp_revl; split
  · exact lo.sv rfl lo.rf
  · exact lo.fail lo.rf
theorem lo_notes (a : Int32) : lo S (mp_notes S a).2.2 := by
  unfold mp_notes; split
  · exact lo.sv rfl lo.rf
  · exact lo.fail lo.rf
theorem lo_tr (a b : Int32) : lo S (mp_tr S a b).2.2 := by
  unfold mp_tr; repeat' split
  all_goals first | exact lo.fail lo.rf | exact lo.sv rfl lo.rf
theorem lo_ct (b : Int32) : lo S (mp_ct S b).2.2 := by
  unfold mp_ct
  by_cases h0 : b = 0
  · rw [if_pos h0]; exact lo.sv rfl lo.rf
  rw [if_neg h0]
  by_cases h0 : b = 1
  · rw [if_pos h0]; exact lo.sv rfl lo.rf
  rw [if_neg h0]
  by_cases h0 : b = 2
  · rw [if_pos h0]; exact lo.sv rfl lo.rf
  rw [if_neg h0]
  by_cases h0 : b = 3
  · rw [if_pos h0]; exact lo.sv rfl lo.rf
  rw [if_neg h0]
  by_cases h0 : b = 4
  · rw [if_pos h0]; exact lo.sv rfl lo.rf
  rw [if_neg h0]
  by_cases h0 : b = 5
  · rw [if_pos h0]; exact lo.sv rfl lo.rf
  rw [if_neg h0]
  by_cases h0 : b = 6
  · rw [if_pos h0]; exact lo.sv rfl lo.rf
  rw [if_neg h0]
  by_cases h0 : b = 7
  · rw [if_pos h0]; exact lo.sv rfl lo.rf
  rw [if_neg h0]; exact lo.fail lo.rf
theorem lo_pin (x : Int32) : lo S (mp_pin S x).2.2 := by
  unfold mp_pin; split
  · show lo S (mf_pin _ _ _).2
    unfold mf_pin; repeat' split
    all_goals (repeat first | exact lo.rf | refine lo.sv rfl ?_)
  · exact lo.fail lo.rf
theorem lo_boot : lo S (mp_boot S).2.2 := by
  unfold mp_boot; split
  · exact lo.fail lo.rf
  · show lo S (mf_boot _ _)
    unfold mf_boot; split
    · exact lo.owe (lo.sv rfl (lo.sv rfl (lo.sv rfl lo.rf)))
    · split
      · exact lo.fin (lo.sv rfl (lo.sv rfl lo.rf))
      · exact lo.sv rfl (lo.sv rfl lo.rf)
theorem lo_stl : lo S (mp_stl S).2.2 := by
  unfold mp_stl; split
  · exact lo.stl 81 0 (lo.sv rfl lo.rf)
  · exact lo.fail lo.rf
theorem lo_mix (a b : Int32) (g : Nat → Int32) (x : Bool) : lo S (mp_mix S a b g x).2.2 := by
  unfold mp_mix; repeat' split
  · repeat first | exact lo.rf | refine lo.sv rfl ?_
  · repeat first | exact lo.rf | refine lo.sv rfl ?_
  · exact lo.fail lo.rf
theorem lo_wd (t j : Nat) (b : Int32) (g : Nat → Int32) (x : Bool) : lo S (mp_wd S t j b g x).2.2 := by
  unfold mp_wd; repeat' split
  · repeat first | exact lo.rf | refine lo.sv rfl ?_
  · exact lo.give (lo.sv rfl (lo.sv rfl (lo.sv rfl (lo.sv rfl (lo.sv rfl (lo.sv rfl lo.rf))))))
  · repeat first | exact lo.rf | refine lo.sv rfl ?_
  · exact lo.fail lo.rf
  · exact lo.fail lo.rf
theorem kl_62M {C M : ja_S} {t k : Nat} {f : Nat → Int32} (h : rr C M t k) : rr C (jb_sv M 62 f) t k := h
theorem kl_62C {C M : ja_S} {t k : Nat} {f : Nat → Int32} (h : rr C M t k) : rr (jb_sv C 62 f) M t k := h
theorem kl_wM {C : ja_S} {t k : Nat} {F : Int32 × Int32 × ja_S} (h : rr C F.2.2 t k) : rr C (jl_w F) t k := by
  unfold jl_w; split
  · exact kl_62M h
  · exact h
theorem kl_wC {M : ja_S} {t k : Nat} {F : Int32 × Int32 × ja_S} (h : rr F.2.2 M t k) : rr (jl_w F) M t k := by
  unfold jl_w; split
  · exact kl_62C h
  · exact h
/-- the reference's call begins in step with the class before its call -/
theorem kl_mid {t k : Nat} {F : Int32 × Int32 × ja_S} (h : rr S S t k) (hF : hi S F.2.2) : rr S (jl_w F) t k := kl_wM (rr_M hF h)
/-- behind both calls -/
theorem kl_end {F g : Int32 × Int32 × ja_S} {S2 : ja_S} (q : sm_q F g) (e2 : S2 = g.2.2) (hg : lo (jl_w F) g.2.2) : rS S2 ∧ S2 32 0 = F.1 ∧ (F.1 = 0 → S2 62 0 = g.2.1) := by
  obtain ⟨h1, h2, ⟨t, k, h⟩, h4⟩ := q
  subst e2
  refine ⟨⟨t, k, rr_C hg (kl_wC h)⟩, h4.trans h1.symm, fun h0 => ?_⟩
  rw [hg 62 (Or.inr rfl), ← h2 h0]
  unfold jl_w
  rw [if_pos h0]
  exact jb_us
end KL0
section KL1
variable {p : Program} {l : Launch} {e : Env} {R : Room} {s s0 : State} {m : MethodId} {args : Array Value} {below : List Frame} {meth : Method} {c : Code} {G : jb_Gt} {ad : Nat → Nat} {a0 : Array Value} {nL cells slots : Nat} {Q : State → Prop} {S : ja_S} {pc q : Nat} {L : List (Nat × Value)} {st : List Value} {cc : ByteArray} {own : String}
theorem kl_ld (O : CallFix p m c cc nL s args ja_T own ∧ jb_X s0 s G ad) {b N k : Nat} {xs : Nat → Int32} {x : Int32} (hX : va_X b N xs s s.heap) (hb : b < s0.heap.size) (hx : x = nI k) (hk : k < N) (hN : N < 2 ^ 31) (hd : decode cc pc = .ok (.iaload, 1)) (hp : pc + 1 = q) (kk : ja_V p l e R s m args below meth c (jb_W G ad) s0.heap.size nL cells slots Q S q L (.int (xs k) :: st)) : ja_V p l e R s m args below meth c (jb_W G ad) s0.heap.size nL cells slots Q S pc L (.int x :: .ref b :: st) := by
  subst hp; subst hx
  intro ls H locs hL hP hS
  refine va_sld O.1.1 O.1.2.1 hX (Nat.lt_of_lt_of_le hb O.2.2.2.2.1) (Nat.not_le.mpr hb) hS (vp_in_nI hk hN) hd ?_
  rw [nI_clamp (show k < 2 ^ 31 by omega)]
  exact kk ls H locs hL hP hS
theorem kl_len (O : CallFix p m c cc nL s args ja_T own ∧ jb_X s0 s G ad) {b N : Nat} {xs : Nat → Int32} (hX : va_X b N xs s s.heap) (hb : b < s0.heap.size) (hd : decode cc pc = .ok (.arraylength, 1)) (hp : pc + 1 = q) (kk : ja_V p l e R s m args below meth c (jb_W G ad) s0.heap.size nL cells slots Q S q L (.int (nI N) :: st)) : ja_V p l e R s m args below meth c (jb_W G ad) s0.heap.size nL cells slots Q S pc L (.ref b :: st) := by
  subst hp
  exact fun ls H locs hL hP hS => va_slen O.1.1 O.1.2.1 hX (Nat.lt_of_lt_of_le hb O.2.2.2.2.1) (Nat.not_le.mpr hb) hS hd (kk ls H locs hL hP hS)
/-- a static call of a method with handlers -/
theorem kl_runS {H : Heap} {locs : List Loc} {y : MethodName} {bytes : ByteArray} {maxL mc ms n index : Nat} {ret : Option FieldType} {hh : List (Nat × Nat × Nat × Nat)} {rm : Room} {Pc : Array Value → State → Prop} {Qc : Array Value → State → Outcome → State → Prop} {free : Addr → Prop} {As rest : List Value} {g : JFrame} (C9 : CallFix p m c cc nL s args ja_T own) (hM : Met l y [Cond.codeWith y bytes maxL ret hh] rm Pc Qc mc ms free) (hl : Cond.methodLink own index y ∈ ja_T) (hcd : Cond.codeWith y bytes maxL ret hh ∈ ja_T) (hini : Cond.initialized y.cls ∈ ja_T) (hsta : Cond.static y ∈ ja_T) (hy : y.cls ≠ "java/lang/invoke/MethodHandle" ∧ y.cls ≠ "java/lang/invoke/VarHandle" ∧ (parseMethodDescriptor y.desc).map (fun d => d.parameters.length) = some n) (hrc : rm.cells = mc) (hrs : rm.slots = ms) (hR : rm.frames + 1 ≤ R.frames ∧ 8 + (maxL + 11) + rm.locals ≤ R.locals) (hp : PreS s H Pc As)
    (hg : g.method = m) (hn : As.length = n) (hsize : g.locals.size = nL) (hstack : g.stack = As.reverse ++ rest) (hW : 2 * g.monitorRoom + (rest.map fun v => v.category).sum ≤ 8) (hdg : decode cc g.pc = .ok (.invokestatic index, 3)) (hf : cells + mc ≤ R.cells ∧ slots + ms ≤ R.slots) :
    va_Run p l e R s m args below meth c H locs cells slots mc ms g rest (Qc As.toArray) free := by
  have hK : Back l R p e below s args y 3 8 (PreOf R mc ms Pc) (PostOf Qc mc ms free) := va_backW (hh := hh) (bytes := bytes) (maxL := maxL) (ret := ret) hM hp.1 hrc hrs hR.1 hR.2 (fun w hw a' U hW => by rw [List.mem_singleton.mp hw]; exact word_at hW (good_of_word rfl) (C9.2.2.2.2 _ hcd)) List.mem_cons_self (fun a' U hW => word_at hW (good_of_word rfl) (C9.2.2.2.2 _ hini))
  obtain ⟨hx, hb, hml, ho, hts⟩ := C9
  intro T hT X
  obtain ⟨mk, methM, cM, hnamed, hmethM, -, -, -, -, -, -, hsigM⟩ := Cond.codeWith_spec (hts _ hcd)
  have hstatic : methM.isStatic = true := Cond.static_spec hnamed hmethM (hts _ hsta)
  obtain ⟨kP, hkP, -⟩ := className_of_methodNamed hnamed
  have hinitP : kP.init = .initialized := Cond.initialized_spec (findClass_of_methodNamed hnamed) hkP (hts _ hini)
  have hlen : As.length = methM.sig.parameters.length := by
    have h9 := hy.2.2
    rw [hsigM] at h9
    exact hn.trans (Option.some.inj h9).symm
  obtain ⟨vm₁, X₁, hstep₁⟩ := X.invokestatic hx ho (hts _ hl) hnamed hmethM hstatic hkP hinitP ⟨hy.1, hy.2.1⟩ (g := g) hg (argsL := As) (rest := rest) hlen hstack (by rw [hb]; exact hdg)
  obtain ⟨v, ⟨U', l2, c2, s2⟩, X', ⟨g', mk', t, L, e1, e2, hq, h1, hL, h2, h3⟩, hsteps⟩ := hK m meth c ⟨T.setVm vm₁, locs, cells, slots⟩ { g with stack := rest } (.invokestatic index) mk As.toArray X₁ hg (hsize.trans hml.symm) (by rw [hb]; exact hdg) hW (X₁.named hnamed) ⟨hf.1, hf.2, hp.2 (T.setVm vm₁) hT X₁.warmed⟩
  dsimp only [Pt.U, Pt.locs, Pt.cells, Pt.slots] at X' e1 e2 h1 h2 h3 hsteps
  subst h1; subst h2; subst h3
  exact ⟨v, (T.setVm vm₁).calling g' mk' As.toArray, t, U', L, hT, X', hL, e1, e2, hq, fun target h => hstep₁ _ fun acts => by rw [doInvoke_state]; exact hsteps.trans h⟩
theorem kl_S (O : CallFix p m c cc nL s args ja_T own ∧ jb_X s0 s G ad) {y : MethodName} {bytes : ByteArray} {n k d index : Nat} {ret : Option FieldType} {hh : List (Nat × Nat × Nat × Nat)} {P : Int32 → ja_S → Prop} {As : List Value} (hC : ju_C l s0 G ad y bytes n ret hh d As S (jo_i P)) (hl : Cond.methodLink own index y ∈ ja_T) (hcd : Cond.codeWith y bytes n ret hh ∈ ja_T) (hini : Cond.initialized y.cls ∈ ja_T) (hdd : y.cls ≠ "java/lang/invoke/MethodHandle" ∧ y.cls ≠ "java/lang/invoke/VarHandle" ∧ (parseMethodDescriptor y.desc).map (fun d => d.parameters.length) = some k) (hk : As.length = k) (hs : Cond.static y ∈ ja_T) (hR : d + 1 ≤ R.frames ∧ 8 + (n + 11) + 40 * d ≤ R.locals) (hst : (st.map fun v => v.category).sum ≤ 8) (hz : cells + 1 ≤ R.cells ∧ slots + 6 ≤ R.slots) (hd : decode cc pc = .ok (.invokestatic index, 3)) (hp : pc + 3 = q) (kk : ∀ r S', P r S' → ja_V p l e R s m args below meth c (jb_W G ad) s0.heap.size nL (cells + 1) (slots + 6) Q S' q L (.int r :: st)) : ja_V p l e R s m args below meth c (jb_W G ad) s0.heap.size nL cells slots Q S pc L (As.reverse ++ st) := by
  subst hp
  exact fun ls H locs hL hP hS => jo_go (kl_runS (As := As) (rest := st) O.1 hC hl hcd hini hs hdd rfl rfl hR ⟨jo_blind, jo_pre O.2 hP hS⟩ rfl hk hL.1.1 rfl (lv_room hst) hd hz) hS (fun v S' H1 locs1 hp hP1 hS1 => by
    obtain ⟨r, rfl, hp⟩ := hp
    exact kk r S' hp ls H1 locs1 hL hP1 hS1)
theorem kl_cs {c1 s1 : Nat} {Wp : ja_S → Heap → Prop} {b0 : Nat} (h1 : cells = c1) (h2 : slots = s1) (k : ja_V p l e R s m args below meth c Wp b0 nL c1 s1 Q S pc L st) : ja_V p l e R s m args below meth c Wp b0 nL cells slots Q S pc L st := by subst h1; subst h2; exact k
end KL1
