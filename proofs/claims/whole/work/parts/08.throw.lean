/-! WHERE A METHOD THROWS: 'new E', 'dup', 'invokespecial E.<init>', 'athrow', by the library's ctorThrow0 at a walk begun anew where the exception is made, so that all that was written before stays known -/
section JTW
variable {p : Program} {l : Launch} {e : Env} {R : Room} {s : State} {m : MethodId} {args : Array Value} {below : List Frame} {meth : Method} {c : Code} {T : State} {locs : List Loc} {cells slots : Nat}
theorem jt_hears {u v : State} {k : MethodId} {b : List Frame} (ha : u.vm.Alike v.vm) (h : u.hears k b = true) : v.hears k b = true := by
  have hm : ∀ x, v.vm.method? x = u.vm.method? x := fun x => ha.method? x
  have hc : ∀ x, v.code? x = u.code? x := fun x => by rw [State.code?_eq, State.code?_eq, hm]
  cases b with
  | nil => unfold State.hears at h ⊢; rw [hm]; exact h
  | cons f r =>
    cases f with
    | java g =>
      have h' : ((u.code? g.method).bind fun c => (decode c.code g.pc).toOption).isSome = true := h
      show ((v.code? g.method).bind fun c => (decode c.code g.pc).toOption).isSome = true
      rw [hc]; exact h'
    | _ => first | (unfold State.hears at h ⊢; rw [hm]; exact h) | (unfold State.hears; rfl) | exact h
theorem jt_rebase (X : Stand p l e R s m args below meth c T locs cells slots) {a b : Nat} (ha : cells + a ≤ R.cells) (hb : slots + b ≤ R.slots) :
    Stand p l e { R with cells := a, slots := b } (T.setFrames (.invoking m args :: below)) m args below meth c T [] 0 0 := by
  obtain ⟨g₀, hfr⟩ := X.frames_eq
  have hcur : T.cur < T.threads.size := State.cur_lt_of_frames hfr
  have hF : (T.setFrames (.invoking m args :: below)).frames = .invoking m args :: below := State.frames_setFrames _ hcur
  have hM : (T.setFrames (.invoking m args :: below)).vm.method? m = some meth := X.method'
  obtain ⟨t, ht, -⟩ := State.frames_cons hfr
  refine ⟨X.admits, X.cas, X.clock, hF, ?_, jt_hears (u := s) X.warmed.alike X.hears, hM, X.code, X.here, X.tail, State.WarmedH.refl T, (State.stackLimits_setFrames _ _ _).symm, (State.stackBytes_setFrames _ _).symm, ?_⟩
  · have hr := X.room
    simp only [State.hasRoom, Bool.and_eq_true, decide_eq_true_eq] at hr ⊢
    obtain ⟨⟨⟨⟨r1, r2, r3, r4, r5, r6⟩, r7⟩, r8⟩, r9⟩ := hr
    have e1 : (T.setFrames (.invoking m args :: below)).localsInUse = s.localsInUse := by
      rw [State.localsInUse_invoking X.frames X.method X.code, State.localsInUse_invoking hF hM X.code]
    have e2 : e.platform.stackLimits (T.setFrames (.invoking m args :: below)).me = e.platform.stackLimits s.me := by rw [State.stackLimits_setFrames]; exact X.limits
    have e3 : (T.setFrames (.invoking m args :: below)).me.stackBytes = s.me.stackBytes := by rw [State.stackBytes_setFrames]; exact X.bytes
    have e4 : (T.setFrames (.invoking m args :: below)).frames.length = s.frames.length := by rw [hF, X.frames]
    have h1 := X.cellsAbove ha
    have h2 := X.slotsAbove hb
    rw [e1, e2, e3, e4]
    exact ⟨⟨⟨⟨r1, r2, r3, r4, r5, r6⟩, h1⟩, h2⟩, X.book⟩
  · have e1 : T = { (T.setFrames (.invoking m args :: below)).setFrames T.frames with heap := T.heap, slotsUsed := T.slotsUsed } := by
      rw [State.setFrames_setFrames, State.setFrames_self ht]
    refine ⟨e1, Nat.le_refl _, Nat.le_refl _, ?_, ?_, fun a c h => ⟨c, h, rfl, rfl, fun _ _ => rfl⟩⟩
    · show T.slotsUsed = T.slotsUsed + ((T.heap.toList.drop T.heap.size).map (·.slots.size)).sum
      rw [List.drop_eq_nil_of_le (by simp)]; rfl
    · show ((T.heap.toList.drop T.heap.size).map (·.slots.size)).sum ≤ 0
      rw [List.drop_eq_nil_of_le (by simp)]; exact Nat.le_refl _
theorem jt_ls {s0 U : State} (hh : ∀ q, q < s0.heap.size → U.heap[q]? = s0.heap[q]?) {o n d : String} {A A' : Array Value} (h : (Cond.laysStatic o n d).before A (s0.setVm U.vm) = true) : (Cond.laysStatic o n d).before A' U = true := by
  obtain ⟨c, k, i, f, a, cell, h1, h2, h3, h4, h5, h6, h7, h8, h9⟩ := Cond.laysStatic_spec h
  have h5' : U.heap[a]? = some cell := by rw [hh a (Array.getElem?_eq_some_iff.mp h5).1]; exact h5
  have h1' : U.vm.findClass o = some c := h1
  have h2' : U.fieldFound? o n d = some (c, k, i, f) := h2
  simp [Cond.before, Cond.holds, Cond.value, h1', h2', h3, h4, h5', h6, h7, h8, h9]
theorem jt_rs {s0 U : State} (hh : ∀ q, q < s0.heap.size → U.heap[q]? = s0.heap[q]?) {o n d : String} {A A' : Array Value} (hl : (Cond.laysStatic o n d).before A (s0.setVm U.vm) = true) (h : (Cond.isRef (.static o n d)).before A (s0.setVm U.vm) = true) : (Cond.isRef (.static o n d)).before A' U = true := by
  obtain ⟨c, k, i, f, a, cell, h1, h2, h3, h4, h5, h6, h7, h8, h9⟩ := Cond.laysStatic_spec hl
  have h5' : U.heap[a]? = some cell := by rw [hh a (Array.getElem?_eq_some_iff.mp h5).1]; exact h5
  have h2' : U.fieldFound? o n d = some (c, k, i, f) := h2
  have h5s : s0.heap[a]? = some cell := h5
  have e1 : (Term.static o n d).eval A (s0.setVm U.vm) none [] (s0.setVm U.vm) = cell.slots[f.slot]? := by simp [Term.eval, State.fieldNamed?, h2, h3, h4, h5s, h6]
  have e2 : (Term.static o n d).eval A' U none [] U = cell.slots[f.slot]? := by simp [Term.eval, State.fieldNamed?, h2', h3, h4, h5', h6]
  simp only [Cond.before, Cond.holds, Cond.value, e1] at h
  simp only [Cond.before, Cond.holds, Cond.value, e2]
  exact h
/-- a word of the tables, or of the start, at any later state -/
theorem jt_face {s0 U : State} {a0 A : Array Value} {w : Cond} (hW : s0.WarmedH U.vm) (h : w.before a0 s0 = true) (hf : w.keepsFace = true) (ht : w.onTables = true) : w.before A U = true :=
  va_tabs ht (rfl : (s0.setVm U.vm).vm = U.vm) (Cond.before_shiftedFace (State.Shifted.of_warmed hW) w hf h)
end JTW
def jt_l : List String := ["java/lang/RuntimeException", "java/lang/Exception"]
section JTX
variable {p : Program} {l : Launch} {e : Env} {R : Room} {s s0 : State} {m : MethodId} {args : Array Value} {below : List Frame} {meth : Method} {c : Code} {G : jb_Gt} {ad : Nat → Nat} {a0 : Array Value}
/-- what a later state has of the start's words -/
def jt_Z (s0 : State) (a0 : Array Value) (U : State) : Prop := (∀ w ∈ lw_tbl, w.before a0 s0 = true) ∧ (Jvm.Cond.and given_1 narrow_1).before a0 s0 = true ∧ s0.WarmedH U.vm ∧ ∀ q, q < s0.heap.size → U.heap[q]? = s0.heap[q]?
theorem jt_g {U : State} {A : Array Value} {w : Cond} (Z : jt_Z s0 a0 U) (h : w ∈ ja_T) : w.before A U = true := word_at Z.2.2.1 (good_of_word (List.mem_filter.mp h).2) (Z.1 w (List.mem_filter.mp h).1)
theorem jt_f {U : State} {A : Array Value} {w : Cond} (Z : jt_Z s0 a0 U) (h : w ∈ lw_tbl) (hf : w.keepsFace = true) (ht : w.onTables = true) : w.before A U = true := jt_face Z.2.2.1 (Z.1 w h) hf ht
theorem jt_s {U : State} {A : Array Value} {x n d : String} (Z : jt_Z s0 a0 U) (h : Cond.laysStatic x n d ∈ lw_tbl) : (Cond.laysStatic x n d).before A U = true := jt_ls (A := a0) Z.2.2.2 (Cond.before_shiftedFace (State.Shifted.of_warmed Z.2.2.1) _ rfl (Z.1 _ h))
theorem jt_r {U : State} {A : Array Value} {x n d : String} (Z : jt_Z s0 a0 U) (h : Cond.laysStatic x n d ∈ lw_tbl) (hr : (Cond.isRef (.static x n d)).before a0 s0 = true) : (Cond.isRef (.static x n d)).before A U = true := jt_rs (A := a0) Z.2.2.2 (Cond.before_shiftedFace (State.Shifted.of_warmed Z.2.2.1) _ rfl (Z.1 _ h)) (Cond.before_shiftedFace (State.Shifted.of_warmed Z.2.2.1) _ rfl hr)
theorem jt_atA {U : State} {A : Array Value} (Z : jt_Z s0 a0 U) : ∀ w ∈ Bundle.ownAtoms0 "CashMachine" 65 "java/lang/IllegalArgumentException" jt_l, w.before A U = true :=
  List.forall_mem_cons.mpr ⟨jt_g Z jw_12, List.forall_mem_cons.mpr ⟨jt_g Z jw_300, List.forall_mem_cons.mpr ⟨jt_g Z jw_309, List.forall_mem_cons.mpr ⟨jt_g Z jw_315, List.forall_mem_cons.mpr ⟨jt_g Z jw_318, List.forall_mem_cons.mpr ⟨jt_g Z jw_320, List.forall_mem_cons.mpr ⟨jt_g Z jw_301, List.forall_mem_cons.mpr ⟨jt_g Z jw_302, List.forall_mem_cons.mpr ⟨jt_g Z jw_29, List.forall_mem_cons.mpr ⟨jt_g Z jw_30, List.forall_mem_cons.mpr ⟨jt_g Z jw_303, List.forall_mem_cons.mpr ⟨jt_g Z jw_308, List.forall_mem_cons.mpr ⟨jt_g Z jw_316, List.forall_mem_cons.mpr ⟨jt_g Z jw_332, List.forall_mem_cons.mpr ⟨jt_g Z jw_290, List.forall_mem_cons.mpr ⟨jt_g Z jw_333, List.forall_mem_cons.mpr ⟨jt_g Z jw_292, List.forall_mem_cons.mpr ⟨jt_g Z jw_334, List.forall_mem_cons.mpr ⟨jt_g Z jw_294, List.forall_mem_cons.mpr ⟨jt_g Z jw_304, List.forall_mem_cons.mpr ⟨jt_s Z jv_305, List.forall_mem_cons.mpr ⟨jt_g Z jw_306, List.forall_mem_cons.mpr ⟨jt_s Z jv_307, List.forall_mem_cons.mpr ⟨jt_g Z jw_296, List.forall_mem_cons.mpr ⟨jt_g Z jw_322, List.forall_mem_cons.mpr ⟨jt_g Z jw_323, List.forall_mem_cons.mpr ⟨jt_g Z jw_324, List.forall_mem_cons.mpr ⟨jt_g Z jw_325, List.forall_mem_cons.mpr ⟨jt_f Z jv_281 rfl rfl, List.forall_mem_cons.mpr ⟨jt_g Z jw_325, List.forall_mem_cons.mpr ⟨jt_g Z jw_326, List.forall_mem_cons.mpr ⟨jt_g Z jw_327, List.forall_mem_cons.mpr ⟨jt_g Z jw_328, List.forall_mem_cons.mpr ⟨jt_f Z jv_283 rfl rfl, List.forall_mem_cons.mpr ⟨jt_g Z jw_328, List.forall_mem_cons.mpr ⟨jt_g Z jw_329, List.forall_mem_cons.mpr ⟨jt_g Z jw_330, List.forall_mem_cons.mpr ⟨jt_g Z jw_301, List.forall_mem_cons.mpr ⟨jt_f Z jv_285 rfl rfl, List.forall_mem_cons.mpr ⟨jt_g Z jw_321, List.forall_mem_cons.mpr ⟨jt_g Z jw_279, List.forall_mem_cons.mpr ⟨jt_f Z jv_280 rfl rfl, List.forall_mem_cons.mpr ⟨jt_g Z jw_287, List.forall_mem_cons.mpr ⟨jt_g Z jw_288, List.forall_mem_cons.mpr ⟨jt_g Z jw_289, List.forall_mem_cons.mpr ⟨jt_g Z jw_291, List.forall_mem_cons.mpr ⟨jt_g Z jw_293, List.forall_mem_cons.mpr ⟨jt_g Z jw_295, List.forall_mem_cons.mpr ⟨jt_r Z jv_305 (flat_of_before _ Z.2.1 _ (by decide +kernel)), List.forall_mem_cons.mpr ⟨jt_r Z jv_307 (flat_of_before _ Z.2.1 _ (by decide +kernel)), List.forall_mem_cons.mpr ⟨jt_g Z jw_299, List.forall_mem_cons.mpr ⟨jt_g Z jw_298, List.forall_mem_cons.mpr ⟨jt_g Z jw_297, fun _ h => absurd h List.not_mem_nil⟩⟩⟩⟩⟩⟩⟩⟩⟩⟩⟩⟩⟩⟩⟩⟩⟩⟩⟩⟩⟩⟩⟩⟩⟩⟩⟩⟩⟩⟩⟩⟩⟩⟩⟩⟩⟩⟩⟩⟩⟩⟩⟩⟩⟩⟩⟩⟩⟩⟩⟩⟩⟩
theorem jt_atS {U : State} {A : Array Value} (Z : jt_Z s0 a0 U) : ∀ w ∈ Bundle.ownAtoms0 "CashMachine" 72 "java/lang/IllegalStateException" jt_l, w.before A U = true :=
  List.forall_mem_cons.mpr ⟨jt_g Z jw_12, List.forall_mem_cons.mpr ⟨jt_g Z jw_300, List.forall_mem_cons.mpr ⟨jt_g Z jw_309, List.forall_mem_cons.mpr ⟨jt_g Z jw_315, List.forall_mem_cons.mpr ⟨jt_g Z jw_318, List.forall_mem_cons.mpr ⟨jt_g Z jw_320, List.forall_mem_cons.mpr ⟨jt_g Z jw_301, List.forall_mem_cons.mpr ⟨jt_g Z jw_302, List.forall_mem_cons.mpr ⟨jt_g Z jw_29, List.forall_mem_cons.mpr ⟨jt_g Z jw_30, List.forall_mem_cons.mpr ⟨jt_g Z jw_303, List.forall_mem_cons.mpr ⟨jt_g Z jw_308, List.forall_mem_cons.mpr ⟨jt_g Z jw_316, List.forall_mem_cons.mpr ⟨jt_g Z jw_332, List.forall_mem_cons.mpr ⟨jt_g Z jw_290, List.forall_mem_cons.mpr ⟨jt_g Z jw_333, List.forall_mem_cons.mpr ⟨jt_g Z jw_292, List.forall_mem_cons.mpr ⟨jt_g Z jw_334, List.forall_mem_cons.mpr ⟨jt_g Z jw_294, List.forall_mem_cons.mpr ⟨jt_g Z jw_304, List.forall_mem_cons.mpr ⟨jt_s Z jv_305, List.forall_mem_cons.mpr ⟨jt_g Z jw_306, List.forall_mem_cons.mpr ⟨jt_s Z jv_307, List.forall_mem_cons.mpr ⟨jt_g Z jw_296, List.forall_mem_cons.mpr ⟨jt_g Z jw_358, List.forall_mem_cons.mpr ⟨jt_g Z jw_359, List.forall_mem_cons.mpr ⟨jt_g Z jw_360, List.forall_mem_cons.mpr ⟨jt_g Z jw_325, List.forall_mem_cons.mpr ⟨jt_f Z jv_281 rfl rfl, List.forall_mem_cons.mpr ⟨jt_g Z jw_325, List.forall_mem_cons.mpr ⟨jt_g Z jw_326, List.forall_mem_cons.mpr ⟨jt_g Z jw_327, List.forall_mem_cons.mpr ⟨jt_g Z jw_328, List.forall_mem_cons.mpr ⟨jt_f Z jv_283 rfl rfl, List.forall_mem_cons.mpr ⟨jt_g Z jw_328, List.forall_mem_cons.mpr ⟨jt_g Z jw_329, List.forall_mem_cons.mpr ⟨jt_g Z jw_330, List.forall_mem_cons.mpr ⟨jt_g Z jw_301, List.forall_mem_cons.mpr ⟨jt_f Z jv_285 rfl rfl, List.forall_mem_cons.mpr ⟨jt_g Z jw_357, List.forall_mem_cons.mpr ⟨jt_g Z jw_349, List.forall_mem_cons.mpr ⟨jt_f Z jv_350 rfl rfl, List.forall_mem_cons.mpr ⟨jt_g Z jw_351, List.forall_mem_cons.mpr ⟨jt_g Z jw_311, List.forall_mem_cons.mpr ⟨jt_g Z jw_352, List.forall_mem_cons.mpr ⟨jt_g Z jw_353, List.forall_mem_cons.mpr ⟨jt_g Z jw_354, List.forall_mem_cons.mpr ⟨jt_g Z jw_355, List.forall_mem_cons.mpr ⟨jt_r Z jv_305 (flat_of_before _ Z.2.1 _ (by decide +kernel)), List.forall_mem_cons.mpr ⟨jt_r Z jv_307 (flat_of_before _ Z.2.1 _ (by decide +kernel)), List.forall_mem_cons.mpr ⟨jt_g Z jw_299, List.forall_mem_cons.mpr ⟨jt_g Z jw_298, List.forall_mem_cons.mpr ⟨jt_g Z jw_356, fun _ h => absurd h List.not_mem_nil⟩⟩⟩⟩⟩⟩⟩⟩⟩⟩⟩⟩⟩⟩⟩⟩⟩⟩⟩⟩⟩⟩⟩⟩⟩⟩⟩⟩⟩⟩⟩⟩⟩⟩⟩⟩⟩⟩⟩⟩⟩⟩⟩⟩⟩⟩⟩⟩⟩⟩⟩⟩⟩
theorem jt_atN {U : State} {A : Array Value} (Z : jt_Z s0 a0 U) : ∀ w ∈ Bundle.ownAtoms0 "CashMachine" 87 "java/util/NoSuchElementException" jt_l, w.before A U = true :=
  List.forall_mem_cons.mpr ⟨jt_g Z jw_12, List.forall_mem_cons.mpr ⟨jt_g Z jw_300, List.forall_mem_cons.mpr ⟨jt_g Z jw_309, List.forall_mem_cons.mpr ⟨jt_g Z jw_315, List.forall_mem_cons.mpr ⟨jt_g Z jw_318, List.forall_mem_cons.mpr ⟨jt_g Z jw_320, List.forall_mem_cons.mpr ⟨jt_g Z jw_301, List.forall_mem_cons.mpr ⟨jt_g Z jw_302, List.forall_mem_cons.mpr ⟨jt_g Z jw_29, List.forall_mem_cons.mpr ⟨jt_g Z jw_30, List.forall_mem_cons.mpr ⟨jt_g Z jw_303, List.forall_mem_cons.mpr ⟨jt_g Z jw_308, List.forall_mem_cons.mpr ⟨jt_g Z jw_316, List.forall_mem_cons.mpr ⟨jt_g Z jw_332, List.forall_mem_cons.mpr ⟨jt_g Z jw_290, List.forall_mem_cons.mpr ⟨jt_g Z jw_333, List.forall_mem_cons.mpr ⟨jt_g Z jw_292, List.forall_mem_cons.mpr ⟨jt_g Z jw_334, List.forall_mem_cons.mpr ⟨jt_g Z jw_294, List.forall_mem_cons.mpr ⟨jt_g Z jw_304, List.forall_mem_cons.mpr ⟨jt_s Z jv_305, List.forall_mem_cons.mpr ⟨jt_g Z jw_306, List.forall_mem_cons.mpr ⟨jt_s Z jv_307, List.forall_mem_cons.mpr ⟨jt_g Z jw_296, List.forall_mem_cons.mpr ⟨jt_g Z jw_401, List.forall_mem_cons.mpr ⟨jt_g Z jw_402, List.forall_mem_cons.mpr ⟨jt_g Z jw_403, List.forall_mem_cons.mpr ⟨jt_g Z jw_325, List.forall_mem_cons.mpr ⟨jt_f Z jv_281 rfl rfl, List.forall_mem_cons.mpr ⟨jt_g Z jw_325, List.forall_mem_cons.mpr ⟨jt_g Z jw_326, List.forall_mem_cons.mpr ⟨jt_g Z jw_327, List.forall_mem_cons.mpr ⟨jt_g Z jw_328, List.forall_mem_cons.mpr ⟨jt_f Z jv_283 rfl rfl, List.forall_mem_cons.mpr ⟨jt_g Z jw_328, List.forall_mem_cons.mpr ⟨jt_g Z jw_329, List.forall_mem_cons.mpr ⟨jt_g Z jw_330, List.forall_mem_cons.mpr ⟨jt_g Z jw_301, List.forall_mem_cons.mpr ⟨jt_f Z jv_285 rfl rfl, List.forall_mem_cons.mpr ⟨jt_g Z jw_400, List.forall_mem_cons.mpr ⟨jt_g Z jw_392, List.forall_mem_cons.mpr ⟨jt_f Z jv_393 rfl rfl, List.forall_mem_cons.mpr ⟨jt_g Z jw_394, List.forall_mem_cons.mpr ⟨jt_g Z jw_314, List.forall_mem_cons.mpr ⟨jt_g Z jw_395, List.forall_mem_cons.mpr ⟨jt_g Z jw_396, List.forall_mem_cons.mpr ⟨jt_g Z jw_397, List.forall_mem_cons.mpr ⟨jt_g Z jw_398, List.forall_mem_cons.mpr ⟨jt_r Z jv_305 (flat_of_before _ Z.2.1 _ (by decide +kernel)), List.forall_mem_cons.mpr ⟨jt_r Z jv_307 (flat_of_before _ Z.2.1 _ (by decide +kernel)), List.forall_mem_cons.mpr ⟨jt_g Z jw_299, List.forall_mem_cons.mpr ⟨jt_g Z jw_298, List.forall_mem_cons.mpr ⟨jt_g Z jw_399, fun _ h => absurd h List.not_mem_nil⟩⟩⟩⟩⟩⟩⟩⟩⟩⟩⟩⟩⟩⟩⟩⟩⟩⟩⟩⟩⟩⟩⟩⟩⟩⟩⟩⟩⟩⟩⟩⟩⟩⟩⟩⟩⟩⟩⟩⟩⟩⟩⟩⟩⟩⟩⟩⟩⟩⟩⟩⟩⟩
theorem jt_atU {U : State} {A : Array Value} (Z : jt_Z s0 a0 U) : ∀ w ∈ Bundle.ownAtoms0 "CashMachine" 99 "java/lang/UnsupportedOperationException" jt_l, w.before A U = true :=
  List.forall_mem_cons.mpr ⟨jt_g Z jw_12, List.forall_mem_cons.mpr ⟨jt_g Z jw_300, List.forall_mem_cons.mpr ⟨jt_g Z jw_309, List.forall_mem_cons.mpr ⟨jt_g Z jw_315, List.forall_mem_cons.mpr ⟨jt_g Z jw_318, List.forall_mem_cons.mpr ⟨jt_g Z jw_320, List.forall_mem_cons.mpr ⟨jt_g Z jw_301, List.forall_mem_cons.mpr ⟨jt_g Z jw_302, List.forall_mem_cons.mpr ⟨jt_g Z jw_29, List.forall_mem_cons.mpr ⟨jt_g Z jw_30, List.forall_mem_cons.mpr ⟨jt_g Z jw_303, List.forall_mem_cons.mpr ⟨jt_g Z jw_308, List.forall_mem_cons.mpr ⟨jt_g Z jw_316, List.forall_mem_cons.mpr ⟨jt_g Z jw_332, List.forall_mem_cons.mpr ⟨jt_g Z jw_290, List.forall_mem_cons.mpr ⟨jt_g Z jw_333, List.forall_mem_cons.mpr ⟨jt_g Z jw_292, List.forall_mem_cons.mpr ⟨jt_g Z jw_334, List.forall_mem_cons.mpr ⟨jt_g Z jw_294, List.forall_mem_cons.mpr ⟨jt_g Z jw_304, List.forall_mem_cons.mpr ⟨jt_s Z jv_305, List.forall_mem_cons.mpr ⟨jt_g Z jw_306, List.forall_mem_cons.mpr ⟨jt_s Z jv_307, List.forall_mem_cons.mpr ⟨jt_g Z jw_296, List.forall_mem_cons.mpr ⟨jt_g Z jw_416, List.forall_mem_cons.mpr ⟨jt_g Z jw_417, List.forall_mem_cons.mpr ⟨jt_g Z jw_418, List.forall_mem_cons.mpr ⟨jt_g Z jw_325, List.forall_mem_cons.mpr ⟨jt_f Z jv_281 rfl rfl, List.forall_mem_cons.mpr ⟨jt_g Z jw_325, List.forall_mem_cons.mpr ⟨jt_g Z jw_326, List.forall_mem_cons.mpr ⟨jt_g Z jw_327, List.forall_mem_cons.mpr ⟨jt_g Z jw_328, List.forall_mem_cons.mpr ⟨jt_f Z jv_283 rfl rfl, List.forall_mem_cons.mpr ⟨jt_g Z jw_328, List.forall_mem_cons.mpr ⟨jt_g Z jw_329, List.forall_mem_cons.mpr ⟨jt_g Z jw_330, List.forall_mem_cons.mpr ⟨jt_g Z jw_301, List.forall_mem_cons.mpr ⟨jt_f Z jv_285 rfl rfl, List.forall_mem_cons.mpr ⟨jt_g Z jw_415, List.forall_mem_cons.mpr ⟨jt_g Z jw_407, List.forall_mem_cons.mpr ⟨jt_f Z jv_408 rfl rfl, List.forall_mem_cons.mpr ⟨jt_g Z jw_409, List.forall_mem_cons.mpr ⟨jt_g Z jw_313, List.forall_mem_cons.mpr ⟨jt_g Z jw_410, List.forall_mem_cons.mpr ⟨jt_g Z jw_411, List.forall_mem_cons.mpr ⟨jt_g Z jw_412, List.forall_mem_cons.mpr ⟨jt_g Z jw_413, List.forall_mem_cons.mpr ⟨jt_r Z jv_305 (flat_of_before _ Z.2.1 _ (by decide +kernel)), List.forall_mem_cons.mpr ⟨jt_r Z jv_307 (flat_of_before _ Z.2.1 _ (by decide +kernel)), List.forall_mem_cons.mpr ⟨jt_g Z jw_299, List.forall_mem_cons.mpr ⟨jt_g Z jw_298, List.forall_mem_cons.mpr ⟨jt_g Z jw_414, fun _ h => absurd h List.not_mem_nil⟩⟩⟩⟩⟩⟩⟩⟩⟩⟩⟩⟩⟩⟩⟩⟩⟩⟩⟩⟩⟩⟩⟩⟩⟩⟩⟩⟩⟩⟩⟩⟩⟩⟩⟩⟩⟩⟩⟩⟩⟩⟩⟩⟩⟩⟩⟩⟩⟩⟩⟩⟩⟩
theorem jt_atB {U : State} {A : Array Value} (Z : jt_Z s0 a0 U) : ∀ w ∈ Bundle.ownAtoms0 "CashMachine" 117 "java/lang/IndexOutOfBoundsException" jt_l, w.before A U = true :=
  List.forall_mem_cons.mpr ⟨jt_g Z jw_12, List.forall_mem_cons.mpr ⟨jt_g Z jw_300, List.forall_mem_cons.mpr ⟨jt_g Z jw_309, List.forall_mem_cons.mpr ⟨jt_g Z jw_315, List.forall_mem_cons.mpr ⟨jt_g Z jw_318, List.forall_mem_cons.mpr ⟨jt_g Z jw_320, List.forall_mem_cons.mpr ⟨jt_g Z jw_301, List.forall_mem_cons.mpr ⟨jt_g Z jw_302, List.forall_mem_cons.mpr ⟨jt_g Z jw_29, List.forall_mem_cons.mpr ⟨jt_g Z jw_30, List.forall_mem_cons.mpr ⟨jt_g Z jw_303, List.forall_mem_cons.mpr ⟨jt_g Z jw_308, List.forall_mem_cons.mpr ⟨jt_g Z jw_316, List.forall_mem_cons.mpr ⟨jt_g Z jw_332, List.forall_mem_cons.mpr ⟨jt_g Z jw_290, List.forall_mem_cons.mpr ⟨jt_g Z jw_333, List.forall_mem_cons.mpr ⟨jt_g Z jw_292, List.forall_mem_cons.mpr ⟨jt_g Z jw_334, List.forall_mem_cons.mpr ⟨jt_g Z jw_294, List.forall_mem_cons.mpr ⟨jt_g Z jw_304, List.forall_mem_cons.mpr ⟨jt_s Z jv_305, List.forall_mem_cons.mpr ⟨jt_g Z jw_306, List.forall_mem_cons.mpr ⟨jt_s Z jv_307, List.forall_mem_cons.mpr ⟨jt_g Z jw_296, List.forall_mem_cons.mpr ⟨jt_g Z jw_484, List.forall_mem_cons.mpr ⟨jt_g Z jw_485, List.forall_mem_cons.mpr ⟨jt_g Z jw_486, List.forall_mem_cons.mpr ⟨jt_g Z jw_325, List.forall_mem_cons.mpr ⟨jt_f Z jv_281 rfl rfl, List.forall_mem_cons.mpr ⟨jt_g Z jw_325, List.forall_mem_cons.mpr ⟨jt_g Z jw_326, List.forall_mem_cons.mpr ⟨jt_g Z jw_327, List.forall_mem_cons.mpr ⟨jt_g Z jw_328, List.forall_mem_cons.mpr ⟨jt_f Z jv_283 rfl rfl, List.forall_mem_cons.mpr ⟨jt_g Z jw_328, List.forall_mem_cons.mpr ⟨jt_g Z jw_329, List.forall_mem_cons.mpr ⟨jt_g Z jw_330, List.forall_mem_cons.mpr ⟨jt_g Z jw_301, List.forall_mem_cons.mpr ⟨jt_f Z jv_285 rfl rfl, List.forall_mem_cons.mpr ⟨jt_g Z jw_483, List.forall_mem_cons.mpr ⟨jt_g Z jw_475, List.forall_mem_cons.mpr ⟨jt_f Z jv_476 rfl rfl, List.forall_mem_cons.mpr ⟨jt_g Z jw_477, List.forall_mem_cons.mpr ⟨jt_g Z jw_312, List.forall_mem_cons.mpr ⟨jt_g Z jw_478, List.forall_mem_cons.mpr ⟨jt_g Z jw_479, List.forall_mem_cons.mpr ⟨jt_g Z jw_480, List.forall_mem_cons.mpr ⟨jt_g Z jw_481, List.forall_mem_cons.mpr ⟨jt_r Z jv_305 (flat_of_before _ Z.2.1 _ (by decide +kernel)), List.forall_mem_cons.mpr ⟨jt_r Z jv_307 (flat_of_before _ Z.2.1 _ (by decide +kernel)), List.forall_mem_cons.mpr ⟨jt_g Z jw_299, List.forall_mem_cons.mpr ⟨jt_g Z jw_298, List.forall_mem_cons.mpr ⟨jt_g Z jw_482, fun _ h => absurd h List.not_mem_nil⟩⟩⟩⟩⟩⟩⟩⟩⟩⟩⟩⟩⟩⟩⟩⟩⟩⟩⟩⟩⟩⟩⟩⟩⟩⟩⟩⟩⟩⟩⟩⟩⟩⟩⟩⟩⟩⟩⟩⟩⟩⟩⟩⟩⟩⟩⟩⟩⟩⟩⟩⟩⟩
end JTX
section JTB
def jt_Bq (Qr : Array Value → State → Option Value → State → Prop) (Qt : Array Value → State → Addr → State → Prop) (a : Array Value) (st : State) (o : Outcome) (t : State) : Prop := (∃ v, o = .returned v ∧ Qr a st v t) ∨ ∃ x, o = .threw x ∧ Qt a st x t
/-- a method that may throw -/
def jt_B (l : Launch) (y : MethodName) (ws : List Cond) (rm : Room) (Pc : Array Value → State → Prop) (Qr : Array Value → State → Option Value → State → Prop) (Qt : Array Value → State → Addr → State → Prop) (mc ms : Nat) (free : Addr → Prop) : Prop :=
  MetFree l y (headSpec ws rm) Pc (fun _ _ _ _ _ => True) (fun a st o t => jt_Bq Qr Qt a st o t ∧ ∃ L, st.WarmedH t.vm ∧ st.sameButNew ({ t with vm := st.vm } : State) L mc ms ∧ ∀ q ∈ L, free q.base)
def jt_BQ (below : List Frame) (Qr : Array Value → State → Option Value → State → Prop) (Qt : Array Value → State → Addr → State → Prop) (a : Array Value) (s : State) (mc ms : Nat) (free : Addr → Prop) : State → Prop := fun t =>
  ∃ o, t.status = .running ∧ Ended t below o ∧ jt_Bq Qr Qt a s o t ∧ ∃ L, s.WarmedH t.vm ∧ s.sameButNew ({ t with vm := s.vm } : State) L mc ms ∧ ∀ q ∈ L, free q.base
variable {p : Program} {l : Launch} {e : Env} {R : Room} {s s0 : State} {m : MethodId} {args : Array Value} {below : List Frame} {meth : Method} {c : Code} {G : jb_Gt} {ad : Nat → Nat} {a0 : Array Value} {nL cells slots : Nat} {S : ja_S} {pc q : Nat} {L : List (Nat × Value)} {st : List Value} {cc : ByteArray} {own : String}
theorem jt_B.ofW {y : MethodName} {ws ws' : List Cond} {rm : Room} {Pc : Array Value → State → Prop} {Qr : Array Value → State → Option Value → State → Prop} {Qt : Array Value → State → Addr → State → Prop} {mc ms : Nat} {free : Addr → Prop} {cc : ByteArray} {maxL : Nat} {ret : Option FieldType}
    (hy : plainName y.cls = true) (hw : ws = Cond.code y cc maxL ret :: ws')
    (body : ∀ p e s m args below meth c s₁, BodyLoose p l y (headSpec ws rm) cc maxL ret e s m args below meth c s₁ → c.maxLocals = maxL → Pc args s →
      W p l e (headSpec ws rm).room s m args below meth c s.heap [] 0 0 (jt_BQ below Qr Qt args s mc ms free) (entryFrame m args maxL)) : jt_B l y ws rm Pc Qr Qt mc ms free := by
  refine MetFree.of_bodyS (code := cc) (maxLocals := maxL) (ret := ret) hy ?_ ?_
  · intro args s m h hn
    obtain ⟨meth, c, h1, h2, h3, h4, h5, h6, -, -⟩ := Cond.code_spec hn (atoms_spec (ws := ws) h _ (by rw [hw]; exact List.mem_cons_self))
    exact ⟨meth, c, h1, h2, h3, h4, h5, h6⟩
  · intro p e s m args below meth c s₁ B hml hP _
    have hh0 : s₁.heap = s.heap := by rw [B.state]; rfl
    obtain ⟨t, a1, o, b1, b2, b3⟩ := body p e s m args below meth c s₁ B hml hP s₁ hh0 (Stand.of_body B)
    exact ⟨t, o, a1, b1, b2, b3⟩
def jo_Qr (s0 : State) (G : jb_Gt) (ad : Nat → Nat) (post : Int32 → ja_S → Prop) : Array Value → State → Option Value → State → Prop := fun _ st v t => (∃ r S', v = some (.int r) ∧ post r S' ∧ va_P G.1 jb_cl (jb_en G ad S') t.heap) ∧ va_F (fun q => s0.heap.size ≤ q) st t
def jo_Qt (s0 : State) (G : jb_Gt) (ad : Nat → Nat) (tp : String → ja_S → Prop) : Array Value → State → Addr → State → Prop := fun _ st x t => (∃ E S', tp E S' ∧ va_P G.1 jb_cl (jb_en G ad S') t.heap ∧ ∃ ce, t.heap[x]? = some ce ∧ ce.vm = .none ∧ st.vm.findClass E = some ce.cls) ∧ va_F (fun q => s0.heap.size ≤ q) st t
abbrev jo_r1 (d : Nat) : Room := { frames := d, cells := 1, slots := 6, locals := 40 * d }
/-- y, called with As in the state S: it returns an int, post of it and of the state behind it; or it throws, tp of the exception's class and the state -/
def jo_Y (l : Launch) (s0 : State) (G : jb_Gt) (ad : Nat → Nat) (y : MethodName) (cc : ByteArray) (n : Nat) (ret : Option FieldType) (d : Nat) (As : List Value) (S : ja_S) (post : Int32 → ja_S → Prop) (tp : String → ja_S → Prop) : Prop :=
  jt_B l y [Cond.code y cc n ret] (jo_r1 d) (jo_P s0 G ad S As) (jo_Qr s0 G ad post) (jo_Qt s0 G ad tp) 1 6 (fun q => s0.heap.size ≤ q)
abbrev jo_E (s0 : State) (G : jb_Gt) (ad : Nat → Nat) (below : List Frame) (args : Array Value) (s : State) (post : Int32 → ja_S → Prop) (tp : String → ja_S → Prop) : State → Prop := jt_BQ below (jo_Qr s0 G ad post) (jo_Qt s0 G ad tp) args s 1 6 (fun q => s0.heap.size ≤ q)
theorem jo_ofB {y : MethodName} {cc : ByteArray} {n : Nat} {ret : Option FieldType} {d : Nat} {As : List Value} {S : ja_S} {post : Int32 → ja_S → Prop} {tp : String → ja_S → Prop} (K : jo_G s0 a0 G ad) (hy : plainName y.cls = true) (hc : jo_cat As = true) (hn : (lg_sl As).length ≤ n)
    (body : ∀ (p : Program) (e : Env) (s : State) (m : MethodId) (args : Array Value) (below : List Frame) (meth : Method) (c : Code), CallFix p m c cc n s args ja_T y.cls ∧ jb_X s0 s G ad → meth.sig.returnType = ret → meth.locks = false ∧ c.exceptionTable.isEmpty = true →
      ja_V p l e (jo_r1 d) s m args below meth c (jb_W G ad) s0.heap.size n 0 0 (jo_E s0 G ad below args s post tp) S 0 (lv_args 0 As) []) : jo_Y l s0 G ad y cc n ret d As S post tp := by
  refine jt_B.ofW (cc := cc) (maxL := n) (ret := ret) hy rfl ?_
  intro p e s m args below meth c s₁ B hml hv
  obtain ⟨rfl, hB⟩ := hv
  have hown : s.vm.findClass y.cls = some m.cls := findClass_of_methodNamed B.named
  have hl := lv_entry As (n := n) hn
  have hx := BodyLoose.noHandlers B (atoms_spec (ws := [Cond.code y cc n ret]) B.pre _ List.mem_cons_self)
  rw [lg_entry_eq]
  exact body p e s m _ below meth c ⟨⟨B.exec, B.bytes, hml, hown, jo_words K hB.1⟩, jo_X K hB⟩ B.returns ⟨B.notSynchronized, hx⟩ _ s.heap [] ⟨⟨hl.1, hl.2.1, fun q hq => hl.2.2 q (ja_nd_mem hq)⟩, jo_en hc⟩ hB.2.1 va_S.rf
theorem jo_Mono {Q Q' : State → Prop} {H : Heap} {locs : List Loc} {g : JFrame} (h : ∀ t, Q t → Q' t) (k : W p l e R s m args below meth c H locs cells slots Q g) : W p l e R s m args below meth c H locs cells slots Q' g := fun T hT X => by
  obtain ⟨t, a, b⟩ := k T hT X
  exact ⟨t, a, h t b⟩
theorem jo_irB (O : CallFix p m c cc nL s args ja_T own ∧ jb_X s0 s G ad) (hr : meth.sig.returnType = some .int) (hk : meth.locks = false ∧ c.exceptionTable.isEmpty = true) {x : Int32} {P : Int32 → ja_S → Prop} {tp : String → ja_S → Prop} (h : P x S) (hd : decode cc pc = .ok (.ireturn, 1)) : ja_V p l e R s m args below meth c (jb_W G ad) s0.heap.size nL 0 0 (jo_E s0 G ad below args s P tp) S pc L [.int x] := fun ls H locs hL hP hS =>
  W.widen (k := 1) (n := 6) (by omega) (by omega) (jo_Mono (fun t h => by
    obtain ⟨o, b1, b2, ⟨⟨v, S', e1, ⟨r, e2, hp⟩, hb⟩, hF⟩, L, ⟨-, hW, hf⟩, hL⟩ := h
    subst e1
    exact ⟨_, b1, b2, Or.inl ⟨v, rfl, ⟨r, S', e2, hp, hb⟩, hF⟩, L, hW, hf, hL⟩)
    (W.iret (Qc := jo_Q s0 G ad (jo_i P)) (free := fun q => s0.heap.size ≤ q) (v := x) O.1.1 O.1.2.1 hr (fun t ht hW => ⟨⟨_, S, rfl, ⟨x, rfl, h⟩, by rw [ht]; exact hP⟩, hS.F ht⟩) hS.2.2 hd hk.1))
theorem jo_th (K : jo_G s0 a0 G ad) (hfl : l.stackTraces = false) (O : CallFix p m c cc nL s args ja_T "CashMachine" ∧ jb_X s0 s G ad) {E : String} {ix ic : Nat} {post : Int32 → ja_S → Prop} {tp : String → ja_S → Prop}
    (hat : ∀ (U : State) (A : Array Value), jt_Z s0 a0 U → ∀ w ∈ Bundle.ownAtoms0 "CashMachine" ic E jt_l, w.before A U = true) (hfit : Bundle.fit E = true) (hcl : Cond.classLink "CashMachine" ix E ∈ ja_T) (hins : Cond.instantiable E 6 ∈ ja_T) (hini : Cond.initialized E ∈ ja_T)
    (hk : meth.locks = false ∧ c.exceptionTable.isEmpty = true) (hRf : 5 < R.frames) (hRl : (st.map fun v => v.category).sum + 81 ≤ R.locals) (hRc : 1 ≤ R.cells ∧ 6 ≤ R.slots)
    (d0 : decode cc pc = .ok (.new ix, 3)) (d1 : decode cc (pc + 3) = .ok (.dup, 1)) (d2 : decode cc (pc + 4) = .ok (.invokespecial ic, 3)) (d3 : decode cc (pc + 7) = .ok (.athrow, 1)) (ht : tp E S) :
    ja_V p l e R s m args below meth c (jb_W G ad) s0.heap.size nL 0 0 (jo_E s0 G ad below args s post tp) S pc L st := by
  intro ls H locs hL hP hS T hT X
  have hlocks : meth.locks = false := hk.1
  obtain ⟨vm', cC, kC, h1, h2, h3, h4, X1, st1⟩ := X.newCold O.1.1 O.1.2.2.2.1 (O.1.2.2.2.2 _ hcl) (O.1.2.2.2.2 _ hins) (O.1.2.2.2.2 _ hini) (g := F0 m pc ls st) rfl (by rw [O.1.2.1]; exact d0) (by omega) (by omega)
  have hW' : s.WarmedH vm' := X1.warmed
  have X0 := X.noted hW'
  have Y0 := jt_rebase X0 (a := 1) (b := 6) (by omega) (by omega)
  have Y1 := Y0.pushed { cls := cC, slots := kC.instanceTypes.map defaultValue, vm := .none }
  have hsz : (kC.instanceTypes.map defaultValue).size = 6 := by simp [h4]
  have Z : jt_Z s0 a0 ((T.setVm vm').setFrames (.invoking m args :: below)) := ⟨K.1, K.2.2.2, State.WarmedH.trans O.2.1 hW', fun q hq => by
    show T.heap[q]? = _
    rw [hT, hS.2.1 q (Nat.lt_of_lt_of_le hq O.2.2.2.2.1) (Nat.not_le.mpr hq)]; exact O.2.2.2.2.2 q hq⟩
  obtain ⟨kC', hkC', he⟩ := hW'.alike.2.2 _ _ h2
  have hty : kC'.instanceTypes = kC.instanceTypes := by rw [he]
  have hfc : ((T.setVm vm').setFrames (.invoking m args :: below)).vm.findClass E = some cC := by show vm'.findClass E = _; rw [hW'.alike.findClass]; exact h1
  have htr : e.platform.stackTraces = false := by rw [X.admits.platform]; exact hfl
  obtain ⟨U, hsteps, hrun, hend, hWU, hsame, ce, hce, hoc⟩ := Y1.ctorThrow0 O.1.1 htr (own := "CashMachine") (cls := E) (names := jt_l) (ic := ic) (by show vm'.findClass _ = _; rw [hW'.alike.findClass]; exact O.1.2.2.2.1) hfit (by decide) (hat _ _ Z) (fun x hx => by cases hx) (a := T.heap.size) (cX := cC) (kX := kC') hfc hkC'
    (by show (T.heap.push _)[T.heap.size]? = _; simp [freshCell, hty]) (Nat.le_refl _) (g := F0 m (pc + 4) ls (.ref T.heap.size :: .ref T.heap.size :: st)) rfl (by rw [O.1.2.2.1]; exact hL.1.1) rfl rfl (rest := st) rfl (by rw [O.1.2.1]; exact d2) (by rw [O.1.2.1]; exact d3)
    (fun x hx => by
      have h0 : c.exceptionTable.size = 0 := by simpa [Array.isEmpty] using hk.2
      have h1 : c.exceptionTable.toList = [] := List.eq_nil_of_length_eq_zero (by simpa using h0)
      rw [h1] at hx; cases hx) (by show 2 + 3 < R.frames; omega) (by
      show 2 * 0 + (1 + (st.map fun v => v.category).sum) + (13 * (2 + 1) + 41) ≤ R.locals
      omega) hlocks
  have hold : ∀ q, q < H.size → U.heap[q]? = H[q]? := fun q hq => by
    cases hc : H[q]? with
    | none => exact absurd hc (by simp; omega)
    | some cell => exact hsame.old_cell (show (T.heap)[q]? = some cell by rw [hT]; exact hc)
  refine ⟨U, st1 U ?_, .threw T.heap.size, hrun, hend, Or.inr ⟨_, rfl, ⟨E, S, ht, hP.kept (fun k q hk => hold _ (hP k q hk).lt), ce, hce, hoc.vm, ?_⟩, ?_⟩, locs, State.WarmedH.trans hW' hWU, ?_, hS.2.2⟩
  · have hb : c.code = cc := O.1.2.1
    jvm_step X1.here [X1.here.top, O.1.1, hb, d1]
    exact ⟨_, State.topJava?_setTop' _ X1.here.top, _, _, rfl, rfl, hsteps⟩
  · rw [← hoc.cls]
    show s.vm.findClass E = vm'.findClass E
    rw [hW'.alike.findClass]
  · refine ⟨?_, fun q h1 h2 => ?_⟩
    · exact Nat.le_trans hS.1 (by rw [← hT]; exact hsame.2.1)
    · rw [hold q (Nat.lt_of_lt_of_le h1 hS.1)]; exact hS.2.1 q h1 h2
  · have h9 := (X0.ends (.invoking m args :: below)).2
    have h8 := h9.trans (hsame.setVm s.vm)
    rw [List.append_nil] at h8
    exact State.sameButNew.mono h8 (by simp) (by simp [h4])
end JTB
