/-! THE LAW'S WRAPPERS, by program (wip/whole/gen/p33.py): what is known of the exceptions' kinds, then each wrapper's contract -/
def jh_T (s : State) (args : Array Value) (own : String) (pc : Nat) (cE : ClassId) : List (Nat × Nat × Nat × Nat) → Nat → Prop
  | [], _ => False
  | q :: t, h => (q.1 ≤ pc ∧ pc < q.2.1) ∧ q.2.2.2 ≠ 0 ∧ ∃ N cN, (Cond.classLink own q.2.2.2 N).before args s = true ∧ s.vm.findClass N = some cN ∧ ((s.vm.assignable cE cN = true ∧ q.2.2.1 = h) ∨ (s.vm.assignable cE cN = false ∧ jh_T s args own pc cE t h))
theorem jh_map {s : State} {args : Array Value} {own : String} {pc h : Nat} {cE : ClassId} : ∀ {xs : List ExceptionTableEntry} {hh : List (Nat × Nat × Nat × Nat)}, xs.map (fun h => (h.startPc, h.endPc, h.handlerPc, h.catchType)) = hh → jh_T s args own pc cE hh h → jh_L s args own pc cE xs h
  | [], _, e, q => by subst e; exact q.elim
  | x :: t, _, e, q => by
    subst e
    obtain ⟨⟨q1, q2⟩, q3, N, cN, q4, q5, q6⟩ := q
    refine ⟨by simp only [covers, Bool.and_eq_true, decide_eq_true_eq]; exact ⟨q1, q2⟩, q3, N, cN, q4, q5, ?_⟩
    rcases q6 with q6 | ⟨q6, q7⟩
    · exact Or.inl q6
    · exact Or.inr ⟨q6, jh_map rfl q7⟩
section JH
variable {s s0 : State} {a0 args : Array Value} {G : jb_Gt} {ad : Nat → Nat}
theorem jh_1 (K : jo_G s0 a0 G ad) (X : jb_X s0 s G ad) (hts : ∀ w ∈ ja_T, w.before args s = true) {E : String} (h1 : Cond.castable E E ∈ lw_tbl) (h2 : Cond.instantiable E 6 ∈ ja_T) : ∃ c, s.vm.findClass E = some c ∧ (∃ k, s.vm.classes[c]? = some k) ∧ s.vm.assignable c c = true := by
  obtain ⟨c, t, w1, w2, w3⟩ := Cond.castable_spec (K.1 _ h1)
  cases w1.symm.trans w2
  obtain ⟨cC, kC, hfc, hk, -⟩ := Cond.instantiable_spec (hts _ h2)
  have e1 : s.vm.findClass E = some c := (X.1.alike.findClass E _).trans w1
  cases hfc.symm.trans e1
  exact ⟨_, e1, ⟨kC, hk⟩, (X.1.alike.assignable _ _).trans w3⟩
theorem jh_2 (K : jo_G s0 a0 G ad) (X : jb_X s0 s G ad) {A B : String} {a b : ClassId} (h : Cond.not (Cond.castable A B) ∈ flatC (Jvm.Cond.and given_1 narrow_1)) (hA : s.vm.findClass A = some a) (hB : s.vm.findClass B = some b) : s.vm.assignable a b = false := by
  have w := flat_of_before _ K.2.2.2 _ h
  have eA : s0.vm.findClass A = some a := (X.1.alike.findClass A _).symm.trans hA
  have eB : s0.vm.findClass B = some b := (X.1.alike.findClass B _).symm.trans hB
  rw [X.1.alike.assignable]
  simpa [Cond.before, Cond.holds, Cond.value, eA, eB] using w
end JH
def jl_w (F : Int32 × Int32 × ja_S) : ja_S := if F.1 = 0 then jb_u F.2.2 62 0 F.2.1 else F.2.2
theorem jh_nAS : Cond.not (Cond.castable "java/lang/IllegalArgumentException" "java/lang/IllegalStateException") ∈ flatC (Jvm.Cond.and given_1 narrow_1) := by decide +kernel
theorem jh_nAN : Cond.not (Cond.castable "java/lang/IllegalArgumentException" "java/util/NoSuchElementException") ∈ flatC (Jvm.Cond.and given_1 narrow_1) := by decide +kernel
theorem jh_nAU : Cond.not (Cond.castable "java/lang/IllegalArgumentException" "java/lang/UnsupportedOperationException") ∈ flatC (Jvm.Cond.and given_1 narrow_1) := by decide +kernel
theorem jh_nAB : Cond.not (Cond.castable "java/lang/IllegalArgumentException" "java/lang/IndexOutOfBoundsException") ∈ flatC (Jvm.Cond.and given_1 narrow_1) := by decide +kernel
theorem jh_nSA : Cond.not (Cond.castable "java/lang/IllegalStateException" "java/lang/IllegalArgumentException") ∈ flatC (Jvm.Cond.and given_1 narrow_1) := by decide +kernel
theorem jh_nSN : Cond.not (Cond.castable "java/lang/IllegalStateException" "java/util/NoSuchElementException") ∈ flatC (Jvm.Cond.and given_1 narrow_1) := by decide +kernel
theorem jh_nSU : Cond.not (Cond.castable "java/lang/IllegalStateException" "java/lang/UnsupportedOperationException") ∈ flatC (Jvm.Cond.and given_1 narrow_1) := by decide +kernel
theorem jh_nSB : Cond.not (Cond.castable "java/lang/IllegalStateException" "java/lang/IndexOutOfBoundsException") ∈ flatC (Jvm.Cond.and given_1 narrow_1) := by decide +kernel
theorem jh_nNA : Cond.not (Cond.castable "java/util/NoSuchElementException" "java/lang/IllegalArgumentException") ∈ flatC (Jvm.Cond.and given_1 narrow_1) := by decide +kernel
theorem jh_nNS : Cond.not (Cond.castable "java/util/NoSuchElementException" "java/lang/IllegalStateException") ∈ flatC (Jvm.Cond.and given_1 narrow_1) := by decide +kernel
theorem jh_nNU : Cond.not (Cond.castable "java/util/NoSuchElementException" "java/lang/UnsupportedOperationException") ∈ flatC (Jvm.Cond.and given_1 narrow_1) := by decide +kernel
theorem jh_nNB : Cond.not (Cond.castable "java/util/NoSuchElementException" "java/lang/IndexOutOfBoundsException") ∈ flatC (Jvm.Cond.and given_1 narrow_1) := by decide +kernel
theorem jh_nUA : Cond.not (Cond.castable "java/lang/UnsupportedOperationException" "java/lang/IllegalArgumentException") ∈ flatC (Jvm.Cond.and given_1 narrow_1) := by decide +kernel
theorem jh_nUS : Cond.not (Cond.castable "java/lang/UnsupportedOperationException" "java/lang/IllegalStateException") ∈ flatC (Jvm.Cond.and given_1 narrow_1) := by decide +kernel
theorem jh_nUN : Cond.not (Cond.castable "java/lang/UnsupportedOperationException" "java/util/NoSuchElementException") ∈ flatC (Jvm.Cond.and given_1 narrow_1) := by decide +kernel
theorem jh_nUB : Cond.not (Cond.castable "java/lang/UnsupportedOperationException" "java/lang/IndexOutOfBoundsException") ∈ flatC (Jvm.Cond.and given_1 narrow_1) := by decide +kernel
theorem jh_nBA : Cond.not (Cond.castable "java/lang/IndexOutOfBoundsException" "java/lang/IllegalArgumentException") ∈ flatC (Jvm.Cond.and given_1 narrow_1) := by decide +kernel
theorem jh_nBS : Cond.not (Cond.castable "java/lang/IndexOutOfBoundsException" "java/lang/IllegalStateException") ∈ flatC (Jvm.Cond.and given_1 narrow_1) := by decide +kernel
theorem jh_nBN : Cond.not (Cond.castable "java/lang/IndexOutOfBoundsException" "java/util/NoSuchElementException") ∈ flatC (Jvm.Cond.and given_1 narrow_1) := by decide +kernel
theorem jh_nBU : Cond.not (Cond.castable "java/lang/IndexOutOfBoundsException" "java/lang/UnsupportedOperationException") ∈ flatC (Jvm.Cond.and given_1 narrow_1) := by decide +kernel
set_option maxRecDepth 100000 in
theorem co_L_open {l : Launch} {s0 : State} {a0 : Array Value} {G : jb_Gt} {ad : Nat → Nat} (K : jo_G s0 a0 G ad) {S : ja_S} (hfl : l.stackTraces = false) (a b d : Int32) : ju_C l s0 G ad jy_L_open jc_L_open 6 (some .int) [(0, 12, 15, 13), (0, 12, 19, 15)] 7 [.ref (ad 0), .int a, .int b, .int d, .ref (ad 37)] S (jo_i fun r S' => ∃ F, F = cp_open S a b d ∧ r = F.1 ∧ S' = jl_w F) := by
  refine ju_of K (by decide) rfl (Nat.le_of_ble_eq_true rfl) ?_
  intro p e s m args below meth c O hr hk hT
  refine ja_aload O (q := 2) jd_L_open_0 rfl rfl ?_
  refine ja_iconst O (q := 3) (v := 0) jd_L_open_2 rfl (by decide) ?_
  refine ja_aload_n O (q := 4) jd_L_open_3 rfl rfl rfl ?_
  refine ja_iload_n O (q := 5) jd_L_open_4 rfl rfl rfl ?_
  refine ja_iload_n O (q := 6) jd_L_open_5 rfl rfl rfl ?_
  refine ja_iload_n O (q := 7) jd_L_open_6 rfl rfl rfl ?_
  refine ju_V O (k := 3) (As := [.int a, .int b, .int d]) (i := 0) (d := 6) (co_C_open K hfl a b d) rfl rfl jw_270 jw_273 jw_1 ⟨by decide, by decide, by decide +kernel⟩ rfl jw_271 jw_272 ⟨by decide, by decide⟩ (Nat.le_of_ble_eq_true rfl) ⟨by decide, by decide⟩ jd_L_open_7 (fun r S' h => ?_) (fun E S' h => ?_)
  · obtain ⟨h1, h2, h3⟩ := h
    subst h2; subst h3
    refine ja_i2l O (q := 11) jd_L_open_10 rfl ?_
    refine js_37 O (k := 0) rfl (by decide) (q := 12) jd_L_open_11 rfl ?_
    refine ja_goto O (g := 23) jd_L_open_12 (by decide) ?_
    refine ja_iconst O (q := 24) (v := 0) jd_L_open_23 rfl (by decide) ?_
    exact ju_ir O hr hk ⟨_, rfl, h1.symm, by unfold jl_w; rw [if_pos h1]⟩ jd_L_open_24
  · obtain ⟨⟨k, hk9, hF⟩, hS9⟩ := h
    subst hS9
    rcases k with _ | _ | k
    · cases hk9
      refine ⟨15, fun cE hE => ?_, fun x9 => ?_⟩
      · obtain ⟨c0, f0, k0, y0⟩ := jh_1 K O.2 O.1.2.2.2.2 jv_280 jw_279
        cases hE.symm.trans f0
        exact ⟨k0, jh_map hT ⟨⟨by decide, by decide⟩, by decide, _, _, O.1.2.2.2.2 _ jw_268, f0, Or.inl ⟨y0, rfl⟩⟩⟩
      · refine ja_astore O (q := 17) jd_L_open_15 rfl (by decide) ?_
        refine ja_iconst O (q := 18) (v := 1) jd_L_open_17 rfl (by decide) ?_
        exact ju_ir O hr hk ⟨_, rfl, hF.symm, by unfold jl_w; rw [if_neg (by rw [hF]; decide)]⟩ jd_L_open_18
    · cases hk9
      refine ⟨19, fun cE hE => ?_, fun x9 => ?_⟩
      · obtain ⟨c1, f1, k1, y1⟩ := jh_1 K O.2 O.1.2.2.2.2 jv_350 jw_349
        cases hE.symm.trans f1
        obtain ⟨c0, f0, k0, y0⟩ := jh_1 K O.2 O.1.2.2.2.2 jv_280 jw_279
        exact ⟨k1, jh_map hT ⟨⟨by decide, by decide⟩, by decide, _, _, O.1.2.2.2.2 _ jw_268, f0, Or.inr ⟨jh_2 K O.2 jh_nSA f1 f0, ⟨⟨by decide, by decide⟩, by decide, _, _, O.1.2.2.2.2 _ jw_269, f1, Or.inl ⟨y1, rfl⟩⟩⟩⟩⟩
      · refine ja_astore O (q := 21) jd_L_open_19 rfl (by decide) ?_
        refine ja_iconst O (q := 22) (v := 2) jd_L_open_21 rfl (by decide) ?_
        exact ju_ir O hr hk ⟨_, rfl, hF.symm, by unfold jl_w; rw [if_neg (by rw [hF]; decide)]⟩ jd_L_open_22
    · cases hk9
set_option maxRecDepth 100000 in
theorem co_L_load {l : Launch} {s0 : State} {a0 : Array Value} {G : jb_Gt} {ad : Nat → Nat} (K : jo_G s0 a0 G ad) {S : ja_S} (hfl : l.stackTraces = false) (a b d : Int32) : ju_C l s0 G ad jy_L_load jc_L_load 6 (some .int) [(0, 12, 15, 13), (0, 12, 19, 15)] 7 [.ref (ad 0), .int a, .int b, .int d, .ref (ad 37)] S (jo_i fun r S' => ∃ F, F = cp_load S a b d ∧ r = F.1 ∧ S' = jl_w F) := by
  refine ju_of K (by decide) rfl (Nat.le_of_ble_eq_true rfl) ?_
  intro p e s m args below meth c O hr hk hT
  refine ja_aload O (q := 2) jd_L_load_0 rfl rfl ?_
  refine ja_iconst O (q := 3) (v := 0) jd_L_load_2 rfl (by decide) ?_
  refine ja_aload_n O (q := 4) jd_L_load_3 rfl rfl rfl ?_
  refine ja_iload_n O (q := 5) jd_L_load_4 rfl rfl rfl ?_
  refine ja_iload_n O (q := 6) jd_L_load_5 rfl rfl rfl ?_
  refine ja_iload_n O (q := 7) jd_L_load_6 rfl rfl rfl ?_
  refine ju_V O (k := 3) (As := [.int a, .int b, .int d]) (i := 0) (d := 6) (co_C_load K hfl a b d) rfl rfl jw_374 jw_377 jw_1 ⟨by decide, by decide, by decide +kernel⟩ rfl jw_375 jw_376 ⟨by decide, by decide⟩ (Nat.le_of_ble_eq_true rfl) ⟨by decide, by decide⟩ jd_L_load_7 (fun r S' h => ?_) (fun E S' h => ?_)
  · obtain ⟨h1, h2, h3⟩ := h
    subst h2; subst h3
    refine ja_i2l O (q := 11) jd_L_load_10 rfl ?_
    refine js_37 O (k := 0) rfl (by decide) (q := 12) jd_L_load_11 rfl ?_
    refine ja_goto O (g := 23) jd_L_load_12 (by decide) ?_
    refine ja_iconst O (q := 24) (v := 0) jd_L_load_23 rfl (by decide) ?_
    exact ju_ir O hr hk ⟨_, rfl, h1.symm, by unfold jl_w; rw [if_pos h1]⟩ jd_L_load_24
  · obtain ⟨⟨k, hk9, hF⟩, hS9⟩ := h
    subst hS9
    rcases k with _ | _ | k
    · cases hk9
      refine ⟨15, fun cE hE => ?_, fun x9 => ?_⟩
      · obtain ⟨c0, f0, k0, y0⟩ := jh_1 K O.2 O.1.2.2.2.2 jv_280 jw_279
        cases hE.symm.trans f0
        exact ⟨k0, jh_map hT ⟨⟨by decide, by decide⟩, by decide, _, _, O.1.2.2.2.2 _ jw_268, f0, Or.inl ⟨y0, rfl⟩⟩⟩
      · refine ja_astore O (q := 17) jd_L_load_15 rfl (by decide) ?_
        refine ja_iconst O (q := 18) (v := 1) jd_L_load_17 rfl (by decide) ?_
        exact ju_ir O hr hk ⟨_, rfl, hF.symm, by unfold jl_w; rw [if_neg (by rw [hF]; decide)]⟩ jd_L_load_18
    · cases hk9
      refine ⟨19, fun cE hE => ?_, fun x9 => ?_⟩
      · obtain ⟨c1, f1, k1, y1⟩ := jh_1 K O.2 O.1.2.2.2.2 jv_350 jw_349
        cases hE.symm.trans f1
        obtain ⟨c0, f0, k0, y0⟩ := jh_1 K O.2 O.1.2.2.2.2 jv_280 jw_279
        exact ⟨k1, jh_map hT ⟨⟨by decide, by decide⟩, by decide, _, _, O.1.2.2.2.2 _ jw_268, f0, Or.inr ⟨jh_2 K O.2 jh_nSA f1 f0, ⟨⟨by decide, by decide⟩, by decide, _, _, O.1.2.2.2.2 _ jw_269, f1, Or.inl ⟨y1, rfl⟩⟩⟩⟩⟩
      · refine ja_astore O (q := 21) jd_L_load_19 rfl (by decide) ?_
        refine ja_iconst O (q := 22) (v := 2) jd_L_load_21 rfl (by decide) ?_
        exact ju_ir O hr hk ⟨_, rfl, hF.symm, by unfold jl_w; rw [if_neg (by rw [hF]; decide)]⟩ jd_L_load_22
    · cases hk9
set_option maxRecDepth 100000 in
theorem co_L_insert {l : Launch} {s0 : State} {a0 : Array Value} {G : jb_Gt} {ad : Nat → Nat} (K : jo_G s0 a0 G ad) {S : ja_S} (hfl : l.stackTraces = false) (a : Int32) : ju_C l s0 G ad jy_L_insert jc_L_insert 4 (some .int) [(0, 9, 12, 15), (0, 9, 15, 24), (0, 9, 18, 26)] 7 [.ref (ad 0), .int a, .ref (ad 37)] S (jo_i fun r S' => ∃ F, F = cp_ins S a ∧ r = F.1 ∧ S' = jl_w F) := by
  refine ju_of K (by decide) rfl (Nat.le_of_ble_eq_true rfl) ?_
  intro p e s m args below meth c O hr hk hT
  refine ja_aload_n O (q := 1) jd_L_insert_0 rfl rfl rfl ?_
  refine ja_iconst O (q := 2) (v := 0) jd_L_insert_1 rfl (by decide) ?_
  refine ja_aload_n O (q := 3) jd_L_insert_2 rfl rfl rfl ?_
  refine ja_iload_n O (q := 4) jd_L_insert_3 rfl rfl rfl ?_
  refine ju_V O (k := 1) (As := [.int a]) (i := 0) (d := 6) (co_C_insert K hfl a) rfl rfl jw_387 jw_390 jw_1 ⟨by decide, by decide, by decide +kernel⟩ rfl jw_388 jw_389 ⟨by decide, by decide⟩ (Nat.le_of_ble_eq_true rfl) ⟨by decide, by decide⟩ jd_L_insert_4 (fun r S' h => ?_) (fun E S' h => ?_)
  · obtain ⟨h1, h2, h3⟩ := h
    subst h2; subst h3
    refine ja_i2l O (q := 8) jd_L_insert_7 rfl ?_
    refine js_37 O (k := 0) rfl (by decide) (q := 9) jd_L_insert_8 rfl ?_
    refine ja_goto O (g := 21) jd_L_insert_9 (by decide) ?_
    refine ja_iconst O (q := 22) (v := 0) jd_L_insert_21 rfl (by decide) ?_
    exact ju_ir O hr hk ⟨_, rfl, h1.symm, by unfold jl_w; rw [if_pos h1]⟩ jd_L_insert_22
  · obtain ⟨⟨k, hk9, hF⟩, hS9⟩ := h
    subst hS9
    rcases k with _ | _ | _ | k
    · cases hk9
      refine ⟨12, fun cE hE => ?_, fun x9 => ?_⟩
      · obtain ⟨c0, f0, k0, y0⟩ := jh_1 K O.2 O.1.2.2.2.2 jv_350 jw_349
        cases hE.symm.trans f0
        exact ⟨k0, jh_map hT ⟨⟨by decide, by decide⟩, by decide, _, _, O.1.2.2.2.2 _ jw_269, f0, Or.inl ⟨y0, rfl⟩⟩⟩
      · refine ja_astore_n O (q := 13) jd_L_insert_12 rfl rfl (by decide) ?_
        refine ja_iconst O (q := 14) (v := 1) jd_L_insert_13 rfl (by decide) ?_
        exact ju_ir O hr hk ⟨_, rfl, hF.symm, by unfold jl_w; rw [if_neg (by rw [hF]; decide)]⟩ jd_L_insert_14
    · cases hk9
      refine ⟨15, fun cE hE => ?_, fun x9 => ?_⟩
      · obtain ⟨c1, f1, k1, y1⟩ := jh_1 K O.2 O.1.2.2.2.2 jv_393 jw_392
        cases hE.symm.trans f1
        obtain ⟨c0, f0, k0, y0⟩ := jh_1 K O.2 O.1.2.2.2.2 jv_350 jw_349
        exact ⟨k1, jh_map hT ⟨⟨by decide, by decide⟩, by decide, _, _, O.1.2.2.2.2 _ jw_269, f0, Or.inr ⟨jh_2 K O.2 jh_nNS f1 f0, ⟨⟨by decide, by decide⟩, by decide, _, _, O.1.2.2.2.2 _ jw_385, f1, Or.inl ⟨y1, rfl⟩⟩⟩⟩⟩
      · refine ja_astore_n O (q := 16) jd_L_insert_15 rfl rfl (by decide) ?_
        refine ja_iconst O (q := 17) (v := 2) jd_L_insert_16 rfl (by decide) ?_
        exact ju_ir O hr hk ⟨_, rfl, hF.symm, by unfold jl_w; rw [if_neg (by rw [hF]; decide)]⟩ jd_L_insert_17
    · cases hk9
      refine ⟨18, fun cE hE => ?_, fun x9 => ?_⟩
      · obtain ⟨c2, f2, k2, y2⟩ := jh_1 K O.2 O.1.2.2.2.2 jv_408 jw_407
        cases hE.symm.trans f2
        obtain ⟨c0, f0, k0, y0⟩ := jh_1 K O.2 O.1.2.2.2.2 jv_350 jw_349
        obtain ⟨c1, f1, k1, y1⟩ := jh_1 K O.2 O.1.2.2.2.2 jv_393 jw_392
        exact ⟨k2, jh_map hT ⟨⟨by decide, by decide⟩, by decide, _, _, O.1.2.2.2.2 _ jw_269, f0, Or.inr ⟨jh_2 K O.2 jh_nUS f2 f0, ⟨⟨by decide, by decide⟩, by decide, _, _, O.1.2.2.2.2 _ jw_385, f1, Or.inr ⟨jh_2 K O.2 jh_nUN f2 f1, ⟨⟨by decide, by decide⟩, by decide, _, _, O.1.2.2.2.2 _ jw_386, f2, Or.inl ⟨y2, rfl⟩⟩⟩⟩⟩⟩⟩
      · refine ja_astore_n O (q := 19) jd_L_insert_18 rfl rfl (by decide) ?_
        refine ja_iconst O (q := 20) (v := 3) jd_L_insert_19 rfl (by decide) ?_
        exact ju_ir O hr hk ⟨_, rfl, hF.symm, by unfold jl_w; rw [if_neg (by rw [hF]; decide)]⟩ jd_L_insert_20
    · cases hk9
set_option maxRecDepth 100000 in
theorem co_L_pin {l : Launch} {s0 : State} {a0 : Array Value} {G : jb_Gt} {ad : Nat → Nat} (K : jo_G s0 a0 G ad) {S : ja_S} (hfl : l.stackTraces = false) (a : Int32) (hs : S 1 0 = -1 ∨ ∃ j, j < 8 ∧ S 1 0 = nI j) : ju_C l s0 G ad jy_L_pin jc_L_pin 4 (some .int) [(0, 9, 12, 15)] 7 [.ref (ad 0), .int a, .ref (ad 37)] S (jo_i fun r S' => ∃ F, F = cp_pin S a ∧ r = F.1 ∧ S' = jl_w F) := by
  refine ju_of K (by decide) rfl (Nat.le_of_ble_eq_true rfl) ?_
  intro p e s m args below meth c O hr hk hT
  refine ja_aload_n O (q := 1) jd_L_pin_0 rfl rfl rfl ?_
  refine ja_iconst O (q := 2) (v := 0) jd_L_pin_1 rfl (by decide) ?_
  refine ja_aload_n O (q := 3) jd_L_pin_2 rfl rfl rfl ?_
  refine ja_iload_n O (q := 4) jd_L_pin_3 rfl rfl rfl ?_
  refine ju_V O (k := 1) (As := [.int a]) (i := 0) (d := 6) (co_C_pin K hfl a hs) rfl rfl jw_424 jw_427 jw_1 ⟨by decide, by decide, by decide +kernel⟩ rfl jw_425 jw_426 ⟨by decide, by decide⟩ (Nat.le_of_ble_eq_true rfl) ⟨by decide, by decide⟩ jd_L_pin_4 (fun r S' h => ?_) (fun E S' h => ?_)
  · obtain ⟨h1, h2, h3⟩ := h
    subst h2; subst h3
    refine ja_i2l O (q := 8) jd_L_pin_7 rfl ?_
    refine js_37 O (k := 0) rfl (by decide) (q := 9) jd_L_pin_8 rfl ?_
    refine ja_goto O (g := 15) jd_L_pin_9 (by decide) ?_
    refine ja_iconst O (q := 16) (v := 0) jd_L_pin_15 rfl (by decide) ?_
    exact ju_ir O hr hk ⟨_, rfl, h1.symm, by unfold jl_w; rw [if_pos h1]⟩ jd_L_pin_16
  · obtain ⟨⟨k, hk9, hF⟩, hS9⟩ := h
    subst hS9
    rcases k with _ | k
    · cases hk9
      refine ⟨12, fun cE hE => ?_, fun x9 => ?_⟩
      · obtain ⟨c0, f0, k0, y0⟩ := jh_1 K O.2 O.1.2.2.2.2 jv_350 jw_349
        cases hE.symm.trans f0
        exact ⟨k0, jh_map hT ⟨⟨by decide, by decide⟩, by decide, _, _, O.1.2.2.2.2 _ jw_269, f0, Or.inl ⟨y0, rfl⟩⟩⟩
      · refine ja_astore_n O (q := 13) jd_L_pin_12 rfl rfl (by decide) ?_
        refine ja_iconst O (q := 14) (v := 1) jd_L_pin_13 rfl (by decide) ?_
        exact ju_ir O hr hk ⟨_, rfl, hF.symm, by unfold jl_w; rw [if_neg (by rw [hF]; decide)]⟩ jd_L_pin_14
    · cases hk9
set_option maxRecDepth 100000 in
theorem co_L_eject {l : Launch} {s0 : State} {a0 : Array Value} {G : jb_Gt} {ad : Nat → Nat} (K : jo_G s0 a0 G ad) {S : ja_S} (hfl : l.stackTraces = false)  : ju_C l s0 G ad jy_L_eject jc_L_eject 3 (some .int) [(0, 8, 11, 15)] 7 [.ref (ad 0), .ref (ad 37)] S (jo_i fun r S' => ∃ F, F = cp_eject S ∧ r = F.1 ∧ S' = jl_w F) := by
  refine ju_of K (by decide) rfl (Nat.le_of_ble_eq_true rfl) ?_
  intro p e s m args below meth c O hr hk hT
  refine ja_aload_n O (q := 1) jd_L_eject_0 rfl rfl rfl ?_
  refine ja_iconst O (q := 2) (v := 0) jd_L_eject_1 rfl (by decide) ?_
  refine ja_aload_n O (q := 3) jd_L_eject_2 rfl rfl rfl ?_
  refine ju_V O (k := 0) (As := []) (i := 0) (d := 6) (co_C_eject K hfl ) rfl rfl jw_439 jw_442 jw_1 ⟨by decide, by decide, by decide +kernel⟩ rfl jw_440 jw_441 ⟨by decide, by decide⟩ (Nat.le_of_ble_eq_true rfl) ⟨by decide, by decide⟩ jd_L_eject_3 (fun r S' h => ?_) (fun E S' h => ?_)
  · obtain ⟨h1, h2, h3⟩ := h
    subst h2; subst h3
    refine ja_i2l O (q := 7) jd_L_eject_6 rfl ?_
    refine js_37 O (k := 0) rfl (by decide) (q := 8) jd_L_eject_7 rfl ?_
    refine ja_goto O (g := 14) jd_L_eject_8 (by decide) ?_
    refine ja_iconst O (q := 15) (v := 0) jd_L_eject_14 rfl (by decide) ?_
    exact ju_ir O hr hk ⟨_, rfl, h1.symm, by unfold jl_w; rw [if_pos h1]⟩ jd_L_eject_15
  · obtain ⟨⟨k, hk9, hF⟩, hS9⟩ := h
    subst hS9
    rcases k with _ | k
    · cases hk9
      refine ⟨11, fun cE hE => ?_, fun x9 => ?_⟩
      · obtain ⟨c0, f0, k0, y0⟩ := jh_1 K O.2 O.1.2.2.2.2 jv_350 jw_349
        cases hE.symm.trans f0
        exact ⟨k0, jh_map hT ⟨⟨by decide, by decide⟩, by decide, _, _, O.1.2.2.2.2 _ jw_269, f0, Or.inl ⟨y0, rfl⟩⟩⟩
      · refine ja_astore_n O (q := 12) jd_L_eject_11 rfl rfl (by decide) ?_
        refine ja_iconst O (q := 13) (v := 1) jd_L_eject_12 rfl (by decide) ?_
        exact ju_ir O hr hk ⟨_, rfl, hF.symm, by unfold jl_w; rw [if_neg (by rw [hF]; decide)]⟩ jd_L_eject_13
    · cases hk9
set_option maxRecDepth 100000 in
theorem co_L_line {l : Launch} {s0 : State} {a0 : Array Value} {G : jb_Gt} {ad : Nat → Nat} (K : jo_G s0 a0 G ad) {S : ja_S} (hfl : l.stackTraces = false) (a : Int32) (n : Nat) (hn : n ≤ 8) (h4 : S 4 0 = nI n) : ju_C l s0 G ad jy_L_line jc_L_line 4 (some .int) [(0, 9, 12, 13), (0, 9, 15, 15)] 7 [.ref (ad 0), .int a, .ref (ad 37)] S (jo_i fun r S' => ∃ F, F = cp_line S a ∧ r = F.1 ∧ S' = jl_w F) := by
  refine ju_of K (by decide) rfl (Nat.le_of_ble_eq_true rfl) ?_
  intro p e s m args below meth c O hr hk hT
  refine ja_aload_n O (q := 1) jd_L_line_0 rfl rfl rfl ?_
  refine ja_iconst O (q := 2) (v := 0) jd_L_line_1 rfl (by decide) ?_
  refine ja_aload_n O (q := 3) jd_L_line_2 rfl rfl rfl ?_
  refine ja_iload_n O (q := 4) jd_L_line_3 rfl rfl rfl ?_
  refine ju_V O (k := 1) (As := [.int a]) (i := 0) (d := 6) (co_C_line K hfl a n hn h4) rfl rfl jw_554 jw_557 jw_1 ⟨by decide, by decide, by decide +kernel⟩ rfl jw_555 jw_556 ⟨by decide, by decide⟩ (Nat.le_of_ble_eq_true rfl) ⟨by decide, by decide⟩ jd_L_line_4 (fun r S' h => ?_) (fun E S' h => ?_)
  · obtain ⟨h1, h2, h3⟩ := h
    subst h2; subst h3
    refine ja_i2l O (q := 8) jd_L_line_7 rfl ?_
    refine js_37 O (k := 0) rfl (by decide) (q := 9) jd_L_line_8 rfl ?_
    refine ja_goto O (g := 18) jd_L_line_9 (by decide) ?_
    refine ja_iconst O (q := 19) (v := 0) jd_L_line_18 rfl (by decide) ?_
    exact ju_ir O hr hk ⟨_, rfl, h1.symm, by unfold jl_w; rw [if_pos h1]⟩ jd_L_line_19
  · obtain ⟨⟨k, hk9, hF⟩, hS9⟩ := h
    subst hS9
    rcases k with _ | _ | k
    · cases hk9
      refine ⟨12, fun cE hE => ?_, fun x9 => ?_⟩
      · obtain ⟨c0, f0, k0, y0⟩ := jh_1 K O.2 O.1.2.2.2.2 jv_280 jw_279
        cases hE.symm.trans f0
        exact ⟨k0, jh_map hT ⟨⟨by decide, by decide⟩, by decide, _, _, O.1.2.2.2.2 _ jw_268, f0, Or.inl ⟨y0, rfl⟩⟩⟩
      · refine ja_astore_n O (q := 13) jd_L_line_12 rfl rfl (by decide) ?_
        refine ja_iconst O (q := 14) (v := 1) jd_L_line_13 rfl (by decide) ?_
        exact ju_ir O hr hk ⟨_, rfl, hF.symm, by unfold jl_w; rw [if_neg (by rw [hF]; decide)]⟩ jd_L_line_14
    · cases hk9
      refine ⟨15, fun cE hE => ?_, fun x9 => ?_⟩
      · obtain ⟨c1, f1, k1, y1⟩ := jh_1 K O.2 O.1.2.2.2.2 jv_350 jw_349
        cases hE.symm.trans f1
        obtain ⟨c0, f0, k0, y0⟩ := jh_1 K O.2 O.1.2.2.2.2 jv_280 jw_279
        exact ⟨k1, jh_map hT ⟨⟨by decide, by decide⟩, by decide, _, _, O.1.2.2.2.2 _ jw_268, f0, Or.inr ⟨jh_2 K O.2 jh_nSA f1 f0, ⟨⟨by decide, by decide⟩, by decide, _, _, O.1.2.2.2.2 _ jw_269, f1, Or.inl ⟨y1, rfl⟩⟩⟩⟩⟩
      · refine ja_astore_n O (q := 16) jd_L_line_15 rfl rfl (by decide) ?_
        refine ja_iconst O (q := 17) (v := 2) jd_L_line_16 rfl (by decide) ?_
        exact ju_ir O hr hk ⟨_, rfl, hF.symm, by unfold jl_w; rw [if_neg (by rw [hF]; decide)]⟩ jd_L_line_17
    · cases hk9
set_option maxRecDepth 100000 in
theorem co_L_jam {l : Launch} {s0 : State} {a0 : Array Value} {G : jb_Gt} {ad : Nat → Nat} (K : jo_G s0 a0 G ad) {S : ja_S} (hfl : l.stackTraces = false) (a : Int32) : ju_C l s0 G ad jy_L_jam jc_L_jam 4 (some .int) [(0, 9, 12, 13)] 7 [.ref (ad 0), .int a, .ref (ad 37)] S (jo_i fun r S' => ∃ F, F = cp_jam S a ∧ r = F.1 ∧ S' = jl_w F) := by
  refine ju_of K (by decide) rfl (Nat.le_of_ble_eq_true rfl) ?_
  intro p e s m args below meth c O hr hk hT
  refine ja_aload_n O (q := 1) jd_L_jam_0 rfl rfl rfl ?_
  refine ja_iconst O (q := 2) (v := 0) jd_L_jam_1 rfl (by decide) ?_
  refine ja_aload_n O (q := 3) jd_L_jam_2 rfl rfl rfl ?_
  refine ja_iload_n O (q := 4) jd_L_jam_3 rfl rfl rfl ?_
  refine ju_V O (k := 1) (As := [.int a]) (i := 0) (d := 6) (co_C_jam K hfl a) rfl rfl jw_565 jw_568 jw_1 ⟨by decide, by decide, by decide +kernel⟩ rfl jw_566 jw_567 ⟨by decide, by decide⟩ (Nat.le_of_ble_eq_true rfl) ⟨by decide, by decide⟩ jd_L_jam_4 (fun r S' h => ?_) (fun E S' h => ?_)
  · obtain ⟨h1, h2, h3⟩ := h
    subst h2; subst h3
    refine ja_i2l O (q := 8) jd_L_jam_7 rfl ?_
    refine js_37 O (k := 0) rfl (by decide) (q := 9) jd_L_jam_8 rfl ?_
    refine ja_goto O (g := 15) jd_L_jam_9 (by decide) ?_
    refine ja_iconst O (q := 16) (v := 0) jd_L_jam_15 rfl (by decide) ?_
    exact ju_ir O hr hk ⟨_, rfl, h1.symm, by unfold jl_w; rw [if_pos h1]⟩ jd_L_jam_16
  · obtain ⟨⟨k, hk9, hF⟩, hS9⟩ := h
    subst hS9
    rcases k with _ | k
    · cases hk9
      refine ⟨12, fun cE hE => ?_, fun x9 => ?_⟩
      · obtain ⟨c0, f0, k0, y0⟩ := jh_1 K O.2 O.1.2.2.2.2 jv_280 jw_279
        cases hE.symm.trans f0
        exact ⟨k0, jh_map hT ⟨⟨by decide, by decide⟩, by decide, _, _, O.1.2.2.2.2 _ jw_268, f0, Or.inl ⟨y0, rfl⟩⟩⟩
      · refine ja_astore_n O (q := 13) jd_L_jam_12 rfl rfl (by decide) ?_
        refine ja_iconst O (q := 14) (v := 1) jd_L_jam_13 rfl (by decide) ?_
        exact ju_ir O hr hk ⟨_, rfl, hF.symm, by unfold jl_w; rw [if_neg (by rw [hF]; decide)]⟩ jd_L_jam_14
    · cases hk9
set_option maxRecDepth 100000 in
theorem co_L_power {l : Launch} {s0 : State} {a0 : Array Value} {G : jb_Gt} {ad : Nat → Nat} (K : jo_G s0 a0 G ad) {S : ja_S} (hfl : l.stackTraces = false) (a : Int32) : ju_C l s0 G ad jy_L_power jc_L_power 4 (some .int) [(0, 9, 12, 13)] 7 [.ref (ad 0), .int a, .ref (ad 37)] S (jo_i fun r S' => ∃ F, F = cp_pow S a ∧ r = F.1 ∧ S' = jl_w F) := by
  refine ju_of K (by decide) rfl (Nat.le_of_ble_eq_true rfl) ?_
  intro p e s m args below meth c O hr hk hT
  refine ja_aload_n O (q := 1) jd_L_power_0 rfl rfl rfl ?_
  refine ja_iconst O (q := 2) (v := 0) jd_L_power_1 rfl (by decide) ?_
  refine ja_aload_n O (q := 3) jd_L_power_2 rfl rfl rfl ?_
  refine ja_iload_n O (q := 4) jd_L_power_3 rfl rfl rfl ?_
  refine ju_V O (k := 1) (As := [.int a]) (i := 0) (d := 6) (co_C_power K hfl a) rfl rfl jw_572 jw_575 jw_1 ⟨by decide, by decide, by decide +kernel⟩ rfl jw_573 jw_574 ⟨by decide, by decide⟩ (Nat.le_of_ble_eq_true rfl) ⟨by decide, by decide⟩ jd_L_power_4 (fun r S' h => ?_) (fun E S' h => ?_)
  · obtain ⟨h1, h2, h3⟩ := h
    subst h2; subst h3
    refine ja_i2l O (q := 8) jd_L_power_7 rfl ?_
    refine js_37 O (k := 0) rfl (by decide) (q := 9) jd_L_power_8 rfl ?_
    refine ja_goto O (g := 15) jd_L_power_9 (by decide) ?_
    refine ja_iconst O (q := 16) (v := 0) jd_L_power_15 rfl (by decide) ?_
    exact ju_ir O hr hk ⟨_, rfl, h1.symm, by unfold jl_w; rw [if_pos h1]⟩ jd_L_power_16
  · obtain ⟨⟨k, hk9, hF⟩, hS9⟩ := h
    subst hS9
    rcases k with _ | k
    · cases hk9
      refine ⟨12, fun cE hE => ?_, fun x9 => ?_⟩
      · obtain ⟨c0, f0, k0, y0⟩ := jh_1 K O.2 O.1.2.2.2.2 jv_280 jw_279
        cases hE.symm.trans f0
        exact ⟨k0, jh_map hT ⟨⟨by decide, by decide⟩, by decide, _, _, O.1.2.2.2.2 _ jw_268, f0, Or.inl ⟨y0, rfl⟩⟩⟩
      · refine ja_astore_n O (q := 13) jd_L_power_12 rfl rfl (by decide) ?_
        refine ja_iconst O (q := 14) (v := 1) jd_L_power_13 rfl (by decide) ?_
        exact ju_ir O hr hk ⟨_, rfl, hF.symm, by unfold jl_w; rw [if_neg (by rw [hF]; decide)]⟩ jd_L_power_14
    · cases hk9
set_option maxRecDepth 100000 in
theorem co_L_boot {l : Launch} {s0 : State} {a0 : Array Value} {G : jb_Gt} {ad : Nat → Nat} (K : jo_G s0 a0 G ad) {S : ja_S} (hfl : l.stackTraces = false) (t k : Nat) (ht : t ≤ 40) (h9 : S 9 0 = nI t) (h10 : S 10 0 = nI k) (hk9 : ∀ e, t = e + 1 → (S 22 e = 1 ∨ S 22 e = 2) → k < 40) : ju_C l s0 G ad jy_L_boot jc_L_boot 3 (some .int) [(0, 8, 11, 15)] 7 [.ref (ad 0), .ref (ad 37)] S (jo_i fun r S' => ∃ F, F = cp_boot S ∧ r = F.1 ∧ S' = jl_w F) := by
  refine ju_of K (by decide) rfl (Nat.le_of_ble_eq_true rfl) ?_
  intro p e s m args below meth c O hr hk hT
  refine ja_aload_n O (q := 1) jd_L_boot_0 rfl rfl rfl ?_
  refine ja_iconst O (q := 2) (v := 0) jd_L_boot_1 rfl (by decide) ?_
  refine ja_aload_n O (q := 3) jd_L_boot_2 rfl rfl rfl ?_
  refine ju_V O (k := 0) (As := []) (i := 0) (d := 6) (co_C_boot K hfl t k ht h9 h10 hk9) rfl rfl jw_579 jw_582 jw_1 ⟨by decide, by decide, by decide +kernel⟩ rfl jw_580 jw_581 ⟨by decide, by decide⟩ (Nat.le_of_ble_eq_true rfl) ⟨by decide, by decide⟩ jd_L_boot_3 (fun r S' h => ?_) (fun E S' h => ?_)
  · obtain ⟨h1, h2, h3⟩ := h
    subst h2; subst h3
    refine ja_i2l O (q := 7) jd_L_boot_6 rfl ?_
    refine js_37 O (k := 0) rfl (by decide) (q := 8) jd_L_boot_7 rfl ?_
    refine ja_goto O (g := 14) jd_L_boot_8 (by decide) ?_
    refine ja_iconst O (q := 15) (v := 0) jd_L_boot_14 rfl (by decide) ?_
    exact ju_ir O hr hk ⟨_, rfl, h1.symm, by unfold jl_w; rw [if_pos h1]⟩ jd_L_boot_15
  · obtain ⟨⟨k, hk9, hF⟩, hS9⟩ := h
    subst hS9
    rcases k with _ | k
    · cases hk9
      refine ⟨11, fun cE hE => ?_, fun x9 => ?_⟩
      · obtain ⟨c0, f0, k0, y0⟩ := jh_1 K O.2 O.1.2.2.2.2 jv_350 jw_349
        cases hE.symm.trans f0
        exact ⟨k0, jh_map hT ⟨⟨by decide, by decide⟩, by decide, _, _, O.1.2.2.2.2 _ jw_269, f0, Or.inl ⟨y0, rfl⟩⟩⟩
      · refine ja_astore_n O (q := 12) jd_L_boot_11 rfl rfl (by decide) ?_
        refine ja_iconst O (q := 13) (v := 1) jd_L_boot_12 rfl (by decide) ?_
        exact ju_ir O hr hk ⟨_, rfl, hF.symm, by unfold jl_w; rw [if_neg (by rw [hF]; decide)]⟩ jd_L_boot_13
    · cases hk9
set_option maxRecDepth 100000 in
theorem co_L_settle {l : Launch} {s0 : State} {a0 : Array Value} {G : jb_Gt} {ad : Nat → Nat} (K : jo_G s0 a0 G ad) {S : ja_S} (hfl : l.stackTraces = false) (k n0 : Nat) (hk9 : k ≤ 40) (hn0 : n0 ≤ 8) (h4 : S 4 0 = nI n0) (h10 : S 10 0 = nI k) (hpd0 : jp_pd S k) : ju_C l s0 G ad jy_L_settle jc_L_settle 3 (some .int) [(0, 8, 11, 15)] 7 [.ref (ad 0), .ref (ad 37)] S (jo_i fun r S' => ∃ F, F = cp_stl S ∧ r = F.1 ∧ S' = jl_w F) := by
  refine ju_of K (by decide) rfl (Nat.le_of_ble_eq_true rfl) ?_
  intro p e s m args below meth c O hr hk hT
  refine ja_aload_n O (q := 1) jd_L_settle_0 rfl rfl rfl ?_
  refine ja_iconst O (q := 2) (v := 0) jd_L_settle_1 rfl (by decide) ?_
  refine ja_aload_n O (q := 3) jd_L_settle_2 rfl rfl rfl ?_
  refine ju_V O (k := 0) (As := []) (i := 0) (d := 6) (co_C_settle K hfl k n0 hk9 hn0 h4 h10 hpd0) rfl rfl jw_598 jw_601 jw_1 ⟨by decide, by decide, by decide +kernel⟩ rfl jw_599 jw_600 ⟨by decide, by decide⟩ (Nat.le_of_ble_eq_true rfl) ⟨by decide, by decide⟩ jd_L_settle_3 (fun r S' h => ?_) (fun E S' h => ?_)
  · obtain ⟨h1, h2, h3⟩ := h
    subst h2; subst h3
    refine ja_i2l O (q := 7) jd_L_settle_6 rfl ?_
    refine js_37 O (k := 0) rfl (by decide) (q := 8) jd_L_settle_7 rfl ?_
    refine ja_goto O (g := 14) jd_L_settle_8 (by decide) ?_
    refine ja_iconst O (q := 15) (v := 0) jd_L_settle_14 rfl (by decide) ?_
    exact ju_ir O hr hk ⟨_, rfl, h1.symm, by unfold jl_w; rw [if_pos h1]⟩ jd_L_settle_15
  · obtain ⟨⟨k, hk9, hF⟩, hS9⟩ := h
    subst hS9
    rcases k with _ | k
    · cases hk9
      refine ⟨11, fun cE hE => ?_, fun x9 => ?_⟩
      · obtain ⟨c0, f0, k0, y0⟩ := jh_1 K O.2 O.1.2.2.2.2 jv_350 jw_349
        cases hE.symm.trans f0
        exact ⟨k0, jh_map hT ⟨⟨by decide, by decide⟩, by decide, _, _, O.1.2.2.2.2 _ jw_269, f0, Or.inl ⟨y0, rfl⟩⟩⟩
      · refine ja_astore_n O (q := 12) jd_L_settle_11 rfl rfl (by decide) ?_
        refine ja_iconst O (q := 13) (v := 1) jd_L_settle_12 rfl (by decide) ?_
        exact ju_ir O hr hk ⟨_, rfl, hF.symm, by unfold jl_w; rw [if_neg (by rw [hF]; decide)]⟩ jd_L_settle_13
    · cases hk9
set_option maxRecDepth 100000 in
theorem co_L_balance {l : Launch} {s0 : State} {a0 : Array Value} {G : jb_Gt} {ad : Nat → Nat} (K : jo_G s0 a0 G ad) {S : ja_S} (hfl : l.stackTraces = false) (a : Int32) : ju_C l s0 G ad jy_L_balance jc_L_balance 4 (some .int) [(0, 9, 12, 24)] 7 [.ref (ad 0), .int a, .ref (ad 37)] S (jo_i fun r S' => ∃ F, F = cp_bal S a ∧ r = F.1 ∧ S' = jl_w F) := by
  refine ju_of K (by decide) rfl (Nat.le_of_ble_eq_true rfl) ?_
  intro p e s m args below meth c O hr hk hT
  refine ja_aload_n O (q := 1) jd_L_balance_0 rfl rfl rfl ?_
  refine ja_iconst O (q := 2) (v := 0) jd_L_balance_1 rfl (by decide) ?_
  refine ja_aload_n O (q := 3) jd_L_balance_2 rfl rfl rfl ?_
  refine ja_iload_n O (q := 4) jd_L_balance_3 rfl rfl rfl ?_
  refine ju_V O (k := 1) (As := [.int a]) (i := 0) (d := 6) (co_C_balance K hfl a) rfl rfl jw_618 jw_621 jw_1 ⟨by decide, by decide, by decide +kernel⟩ rfl jw_619 jw_620 ⟨by decide, by decide⟩ (Nat.le_of_ble_eq_true rfl) ⟨by decide, by decide⟩ jd_L_balance_4 (fun r S' h => ?_) (fun E S' h => ?_)
  · obtain ⟨h1, h2, h3⟩ := h
    subst h2; subst h3
    refine ja_i2l O (q := 8) jd_L_balance_7 rfl ?_
    refine js_37 O (k := 0) rfl (by decide) (q := 9) jd_L_balance_8 rfl ?_
    refine ja_goto O (g := 15) jd_L_balance_9 (by decide) ?_
    refine ja_iconst O (q := 16) (v := 0) jd_L_balance_15 rfl (by decide) ?_
    exact ju_ir O hr hk ⟨_, rfl, h1.symm, by unfold jl_w; rw [if_pos h1]⟩ jd_L_balance_16
  · obtain ⟨⟨k, hk9, hF⟩, hS9⟩ := h
    subst hS9
    rcases k with _ | k
    · cases hk9
      refine ⟨12, fun cE hE => ?_, fun x9 => ?_⟩
      · obtain ⟨c0, f0, k0, y0⟩ := jh_1 K O.2 O.1.2.2.2.2 jv_393 jw_392
        cases hE.symm.trans f0
        exact ⟨k0, jh_map hT ⟨⟨by decide, by decide⟩, by decide, _, _, O.1.2.2.2.2 _ jw_385, f0, Or.inl ⟨y0, rfl⟩⟩⟩
      · refine ja_astore_n O (q := 13) jd_L_balance_12 rfl rfl (by decide) ?_
        refine ja_iconst O (q := 14) (v := 1) jd_L_balance_13 rfl (by decide) ?_
        exact ju_ir O hr hk ⟨_, rfl, hF.symm, by unfold jl_w; rw [if_neg (by rw [hF]; decide)]⟩ jd_L_balance_14
    · cases hk9
set_option maxRecDepth 100000 in
theorem co_L_trace {l : Launch} {s0 : State} {a0 : Array Value} {G : jb_Gt} {ad : Nat → Nat} (K : jo_G s0 a0 G ad) {S : ja_S} (hfl : l.stackTraces = false) (a b : Int32) (t : Nat) (ht : t ≤ 40) (h9 : S 9 0 = nI t) : ju_C l s0 G ad jy_L_trace jc_L_trace 5 (some .int) [(0, 10, 13, 24), (0, 10, 17, 13)] 7 [.ref (ad 0), .int a, .int b, .ref (ad 37)] S (jo_i fun r S' => ∃ F, F = cp_tr S a b ∧ r = F.1 ∧ S' = jl_w F) := by
  refine ju_of K (by decide) rfl (Nat.le_of_ble_eq_true rfl) ?_
  intro p e s m args below meth c O hr hk hT
  refine ja_aload_n O (q := 1) jd_L_trace_0 rfl rfl rfl ?_
  refine ja_iconst O (q := 2) (v := 0) jd_L_trace_1 rfl (by decide) ?_
  refine ja_aload_n O (q := 3) jd_L_trace_2 rfl rfl rfl ?_
  refine ja_iload_n O (q := 4) jd_L_trace_3 rfl rfl rfl ?_
  refine ja_iload_n O (q := 5) jd_L_trace_4 rfl rfl rfl ?_
  refine ju_V O (k := 2) (As := [.int a, .int b]) (i := 0) (d := 6) (co_C_trace K hfl a b t ht h9) rfl rfl jw_625 jw_628 jw_1 ⟨by decide, by decide, by decide +kernel⟩ rfl jw_626 jw_627 ⟨by decide, by decide⟩ (Nat.le_of_ble_eq_true rfl) ⟨by decide, by decide⟩ jd_L_trace_5 (fun r S' h => ?_) (fun E S' h => ?_)
  · obtain ⟨h1, h2, h3⟩ := h
    subst h2; subst h3
    refine ja_i2l O (q := 9) jd_L_trace_8 rfl ?_
    refine js_37 O (k := 0) rfl (by decide) (q := 10) jd_L_trace_9 rfl ?_
    refine ja_goto O (g := 21) jd_L_trace_10 (by decide) ?_
    refine ja_iconst O (q := 22) (v := 0) jd_L_trace_21 rfl (by decide) ?_
    exact ju_ir O hr hk ⟨_, rfl, h1.symm, by unfold jl_w; rw [if_pos h1]⟩ jd_L_trace_22
  · obtain ⟨⟨k, hk9, hF⟩, hS9⟩ := h
    subst hS9
    rcases k with _ | _ | k
    · cases hk9
      refine ⟨13, fun cE hE => ?_, fun x9 => ?_⟩
      · obtain ⟨c0, f0, k0, y0⟩ := jh_1 K O.2 O.1.2.2.2.2 jv_393 jw_392
        cases hE.symm.trans f0
        exact ⟨k0, jh_map hT ⟨⟨by decide, by decide⟩, by decide, _, _, O.1.2.2.2.2 _ jw_385, f0, Or.inl ⟨y0, rfl⟩⟩⟩
      · refine ja_astore O (q := 15) jd_L_trace_13 rfl (by decide) ?_
        refine ja_iconst O (q := 16) (v := 1) jd_L_trace_15 rfl (by decide) ?_
        exact ju_ir O hr hk ⟨_, rfl, hF.symm, by unfold jl_w; rw [if_neg (by rw [hF]; decide)]⟩ jd_L_trace_16
    · cases hk9
      refine ⟨17, fun cE hE => ?_, fun x9 => ?_⟩
      · obtain ⟨c1, f1, k1, y1⟩ := jh_1 K O.2 O.1.2.2.2.2 jv_280 jw_279
        cases hE.symm.trans f1
        obtain ⟨c0, f0, k0, y0⟩ := jh_1 K O.2 O.1.2.2.2.2 jv_393 jw_392
        exact ⟨k1, jh_map hT ⟨⟨by decide, by decide⟩, by decide, _, _, O.1.2.2.2.2 _ jw_385, f0, Or.inr ⟨jh_2 K O.2 jh_nAN f1 f0, ⟨⟨by decide, by decide⟩, by decide, _, _, O.1.2.2.2.2 _ jw_268, f1, Or.inl ⟨y1, rfl⟩⟩⟩⟩⟩
      · refine ja_astore O (q := 19) jd_L_trace_17 rfl (by decide) ?_
        refine ja_iconst O (q := 20) (v := 2) jd_L_trace_19 rfl (by decide) ?_
        exact ju_ir O hr hk ⟨_, rfl, hF.symm, by unfold jl_w; rw [if_neg (by rw [hF]; decide)]⟩ jd_L_trace_20
    · cases hk9
set_option maxRecDepth 100000 in
theorem co_L_reversal {l : Launch} {s0 : State} {a0 : Array Value} {G : jb_Gt} {ad : Nat → Nat} (K : jo_G s0 a0 G ad) {S : ja_S} (hfl : l.stackTraces = false) (a : Int32) (k : Nat) (hk9 : k ≤ 40) (h10 : S 10 0 = nI k) : ju_C l s0 G ad jy_L_reversal jc_L_reversal 4 (some .int) [(0, 9, 12, 24)] 7 [.ref (ad 0), .int a, .ref (ad 37)] S (jo_i fun r S' => ∃ F, F = cp_revl S a ∧ r = F.1 ∧ S' = jl_w F) := by
  refine ju_of K (by decide) rfl (Nat.le_of_ble_eq_true rfl) ?_
  intro p e s m args below meth c O hr hk hT
  refine ja_aload_n O (q := 1) jd_L_reversal_0 rfl rfl rfl ?_
  refine ja_iconst O (q := 2) (v := 0) jd_L_reversal_1 rfl (by decide) ?_
  refine ja_aload_n O (q := 3) jd_L_reversal_2 rfl rfl rfl ?_
  refine ja_iload_n O (q := 4) jd_L_reversal_3 rfl rfl rfl ?_
  refine ju_V O (k := 1) (As := [.int a]) (i := 0) (d := 6) (co_C_reversal K hfl a k hk9 h10) rfl rfl jw_632 jw_635 jw_1 ⟨by decide, by decide, by decide +kernel⟩ rfl jw_633 jw_634 ⟨by decide, by decide⟩ (Nat.le_of_ble_eq_true rfl) ⟨by decide, by decide⟩ jd_L_reversal_4 (fun r S' h => ?_) (fun E S' h => ?_)
  · obtain ⟨h1, h2, h3⟩ := h
    subst h2; subst h3
    refine ja_i2l O (q := 8) jd_L_reversal_7 rfl ?_
    refine js_37 O (k := 0) rfl (by decide) (q := 9) jd_L_reversal_8 rfl ?_
    refine ja_goto O (g := 15) jd_L_reversal_9 (by decide) ?_
    refine ja_iconst O (q := 16) (v := 0) jd_L_reversal_15 rfl (by decide) ?_
    exact ju_ir O hr hk ⟨_, rfl, h1.symm, by unfold jl_w; rw [if_pos h1]⟩ jd_L_reversal_16
  · obtain ⟨⟨k, hk9, hF⟩, hS9⟩ := h
    subst hS9
    rcases k with _ | k
    · cases hk9
      refine ⟨12, fun cE hE => ?_, fun x9 => ?_⟩
      · obtain ⟨c0, f0, k0, y0⟩ := jh_1 K O.2 O.1.2.2.2.2 jv_393 jw_392
        cases hE.symm.trans f0
        exact ⟨k0, jh_map hT ⟨⟨by decide, by decide⟩, by decide, _, _, O.1.2.2.2.2 _ jw_385, f0, Or.inl ⟨y0, rfl⟩⟩⟩
      · refine ja_astore_n O (q := 13) jd_L_reversal_12 rfl rfl (by decide) ?_
        refine ja_iconst O (q := 14) (v := 1) jd_L_reversal_13 rfl (by decide) ?_
        exact ju_ir O hr hk ⟨_, rfl, hF.symm, by unfold jl_w; rw [if_neg (by rw [hF]; decide)]⟩ jd_L_reversal_14
    · cases hk9
set_option maxRecDepth 100000 in
theorem co_L_notes {l : Launch} {s0 : State} {a0 : Array Value} {G : jb_Gt} {ad : Nat → Nat} (K : jo_G s0 a0 G ad) {S : ja_S} (hfl : l.stackTraces = false) (a : Int32) : ju_C l s0 G ad jy_L_notes jc_L_notes 4 (some .int) [(0, 9, 12, 13)] 7 [.ref (ad 0), .int a, .ref (ad 37)] S (jo_i fun r S' => ∃ F, F = cp_notes S a ∧ r = F.1 ∧ S' = jl_w F) := by
  refine ju_of K (by decide) rfl (Nat.le_of_ble_eq_true rfl) ?_
  intro p e s m args below meth c O hr hk hT
  refine ja_aload_n O (q := 1) jd_L_notes_0 rfl rfl rfl ?_
  refine ja_iconst O (q := 2) (v := 0) jd_L_notes_1 rfl (by decide) ?_
  refine ja_aload_n O (q := 3) jd_L_notes_2 rfl rfl rfl ?_
  refine ja_iload_n O (q := 4) jd_L_notes_3 rfl rfl rfl ?_
  refine ju_V O (k := 1) (As := [.int a]) (i := 0) (d := 6) (co_C_notes K hfl a) rfl rfl jw_639 jw_642 jw_1 ⟨by decide, by decide, by decide +kernel⟩ rfl jw_640 jw_641 ⟨by decide, by decide⟩ (Nat.le_of_ble_eq_true rfl) ⟨by decide, by decide⟩ jd_L_notes_4 (fun r S' h => ?_) (fun E S' h => ?_)
  · obtain ⟨h1, h2, h3⟩ := h
    subst h2; subst h3
    refine ja_i2l O (q := 8) jd_L_notes_7 rfl ?_
    refine js_37 O (k := 0) rfl (by decide) (q := 9) jd_L_notes_8 rfl ?_
    refine ja_goto O (g := 15) jd_L_notes_9 (by decide) ?_
    refine ja_iconst O (q := 16) (v := 0) jd_L_notes_15 rfl (by decide) ?_
    exact ju_ir O hr hk ⟨_, rfl, h1.symm, by unfold jl_w; rw [if_pos h1]⟩ jd_L_notes_16
  · obtain ⟨⟨k, hk9, hF⟩, hS9⟩ := h
    subst hS9
    rcases k with _ | k
    · cases hk9
      refine ⟨12, fun cE hE => ?_, fun x9 => ?_⟩
      · obtain ⟨c0, f0, k0, y0⟩ := jh_1 K O.2 O.1.2.2.2.2 jv_280 jw_279
        cases hE.symm.trans f0
        exact ⟨k0, jh_map hT ⟨⟨by decide, by decide⟩, by decide, _, _, O.1.2.2.2.2 _ jw_268, f0, Or.inl ⟨y0, rfl⟩⟩⟩
      · refine ja_astore_n O (q := 13) jd_L_notes_12 rfl rfl (by decide) ?_
        refine ja_iconst O (q := 14) (v := 1) jd_L_notes_13 rfl (by decide) ?_
        exact ju_ir O hr hk ⟨_, rfl, hF.symm, by unfold jl_w; rw [if_neg (by rw [hF]; decide)]⟩ jd_L_notes_14
    · cases hk9
set_option maxRecDepth 100000 in
theorem co_L_count {l : Launch} {s0 : State} {a0 : Array Value} {G : jb_Gt} {ad : Nat → Nat} (K : jo_G s0 a0 G ad) {S : ja_S} (hfl : l.stackTraces = false) (a : Int32) : ju_C l s0 G ad jy_L_count jc_L_count 4 (some .int) [(0, 9, 12, 13)] 7 [.ref (ad 0), .int a, .ref (ad 37)] S (jo_i fun r S' => ∃ F, F = cp_ct S a ∧ r = F.1 ∧ S' = jl_w F) := by
  refine ju_of K (by decide) rfl (Nat.le_of_ble_eq_true rfl) ?_
  intro p e s m args below meth c O hr hk hT
  refine ja_aload_n O (q := 1) jd_L_count_0 rfl rfl rfl ?_
  refine ja_iconst O (q := 2) (v := 0) jd_L_count_1 rfl (by decide) ?_
  refine ja_aload_n O (q := 3) jd_L_count_2 rfl rfl rfl ?_
  refine ja_iload_n O (q := 4) jd_L_count_3 rfl rfl rfl ?_
  refine ju_V O (k := 1) (As := [.int a]) (i := 0) (d := 6) (co_C_count K hfl a) rfl rfl jw_646 jw_649 jw_1 ⟨by decide, by decide, by decide +kernel⟩ rfl jw_647 jw_648 ⟨by decide, by decide⟩ (Nat.le_of_ble_eq_true rfl) ⟨by decide, by decide⟩ jd_L_count_4 (fun r S' h => ?_) (fun E S' h => ?_)
  · obtain ⟨h1, h2, h3⟩ := h
    subst h2; subst h3
    refine ja_i2l O (q := 8) jd_L_count_7 rfl ?_
    refine js_37 O (k := 0) rfl (by decide) (q := 9) jd_L_count_8 rfl ?_
    refine ja_goto O (g := 15) jd_L_count_9 (by decide) ?_
    refine ja_iconst O (q := 16) (v := 0) jd_L_count_15 rfl (by decide) ?_
    exact ju_ir O hr hk ⟨_, rfl, h1.symm, by unfold jl_w; rw [if_pos h1]⟩ jd_L_count_16
  · obtain ⟨⟨k, hk9, hF⟩, hS9⟩ := h
    subst hS9
    rcases k with _ | k
    · cases hk9
      refine ⟨12, fun cE hE => ?_, fun x9 => ?_⟩
      · obtain ⟨c0, f0, k0, y0⟩ := jh_1 K O.2 O.1.2.2.2.2 jv_280 jw_279
        cases hE.symm.trans f0
        exact ⟨k0, jh_map hT ⟨⟨by decide, by decide⟩, by decide, _, _, O.1.2.2.2.2 _ jw_268, f0, Or.inl ⟨y0, rfl⟩⟩⟩
      · refine ja_astore_n O (q := 13) jd_L_count_12 rfl rfl (by decide) ?_
        refine ja_iconst O (q := 14) (v := 1) jd_L_count_13 rfl (by decide) ?_
        exact ju_ir O hr hk ⟨_, rfl, hF.symm, by unfold jl_w; rw [if_neg (by rw [hF]; decide)]⟩ jd_L_count_14
    · cases hk9
set_option maxRecDepth 100000 in
theorem co_L_mix {l : Launch} {s0 : State} {a0 : Array Value} {G : jb_Gt} {ad : Nat → Nat} (K : jo_G s0 a0 G ad) {S : ja_S} (hfl : l.stackTraces = false) (a b : Int32) (v n9 : Nat → Nat) (hK : jm_K S v n9) : ju_C l s0 G ad jy_L_mix jc_L_mix 5 (some .int) [(0, 10, 13, 13), (0, 10, 17, 26)] 7 [.ref (ad 0), .int a, .int b, .ref (ad 37)] S (jo_i fun r S' => ∃ F, (∃ f g x, (jp_in a 0 3 ∧ jp_in b 1 5000 → cq_fd v n9 b.toNatClampNeg g x) ∧ F = cp_mix S a b f g x) ∧ r = F.1 ∧ S' = jl_w F) := by
  refine ju_of K (by decide) rfl (Nat.le_of_ble_eq_true rfl) ?_
  intro p e s m args below meth c O hr hk hT
  refine ja_aload_n O (q := 1) jd_L_mix_0 rfl rfl rfl ?_
  refine ja_iconst O (q := 2) (v := 0) jd_L_mix_1 rfl (by decide) ?_
  refine ja_aload_n O (q := 3) jd_L_mix_2 rfl rfl rfl ?_
  refine ja_iload_n O (q := 4) jd_L_mix_3 rfl rfl rfl ?_
  refine ja_iload_n O (q := 5) jd_L_mix_4 rfl rfl rfl ?_
  refine ju_V O (k := 2) (As := [.int a, .int b]) (i := 0) (d := 6) (co_C_mix K hfl a b v n9 hK) rfl rfl jw_547 jw_550 jw_1 ⟨by decide, by decide, by decide +kernel⟩ rfl jw_548 jw_549 ⟨by decide, by decide⟩ (Nat.le_of_ble_eq_true rfl) ⟨by decide, by decide⟩ jd_L_mix_5 (fun r S' h => ?_) (fun E S' h => ?_)
  · obtain ⟨f, g, x, hpm, h1, h2, h3⟩ := h
    subst h2; subst h3
    refine ja_i2l O (q := 9) jd_L_mix_8 rfl ?_
    refine js_37 O (k := 0) rfl (by decide) (q := 10) jd_L_mix_9 rfl ?_
    refine ja_goto O (g := 21) jd_L_mix_10 (by decide) ?_
    refine ja_iconst O (q := 22) (v := 0) jd_L_mix_21 rfl (by decide) ?_
    exact ju_ir O hr hk ⟨_, ⟨f, g, x, hpm, rfl⟩, h1.symm, by unfold jl_w; rw [if_pos h1]⟩ jd_L_mix_22
  · obtain ⟨f, g, x, hpm, ⟨k, hk9, hF⟩, hS9⟩ := h
    subst hS9
    rcases k with _ | _ | k
    · cases hk9
      refine ⟨13, fun cE hE => ?_, fun x9 => ?_⟩
      · obtain ⟨c0, f0, k0, y0⟩ := jh_1 K O.2 O.1.2.2.2.2 jv_280 jw_279
        cases hE.symm.trans f0
        exact ⟨k0, jh_map hT ⟨⟨by decide, by decide⟩, by decide, _, _, O.1.2.2.2.2 _ jw_268, f0, Or.inl ⟨y0, rfl⟩⟩⟩
      · refine ja_astore O (q := 15) jd_L_mix_13 rfl (by decide) ?_
        refine ja_iconst O (q := 16) (v := 1) jd_L_mix_15 rfl (by decide) ?_
        exact ju_ir O hr hk ⟨_, ⟨f, g, x, hpm, rfl⟩, hF.symm, by unfold jl_w; rw [if_neg (by rw [hF]; decide)]⟩ jd_L_mix_16
    · cases hk9
      refine ⟨17, fun cE hE => ?_, fun x9 => ?_⟩
      · obtain ⟨c1, f1, k1, y1⟩ := jh_1 K O.2 O.1.2.2.2.2 jv_408 jw_407
        cases hE.symm.trans f1
        obtain ⟨c0, f0, k0, y0⟩ := jh_1 K O.2 O.1.2.2.2.2 jv_280 jw_279
        exact ⟨k1, jh_map hT ⟨⟨by decide, by decide⟩, by decide, _, _, O.1.2.2.2.2 _ jw_268, f0, Or.inr ⟨jh_2 K O.2 jh_nUA f1 f0, ⟨⟨by decide, by decide⟩, by decide, _, _, O.1.2.2.2.2 _ jw_386, f1, Or.inl ⟨y1, rfl⟩⟩⟩⟩⟩
      · refine ja_astore O (q := 19) jd_L_mix_17 rfl (by decide) ?_
        refine ja_iconst O (q := 20) (v := 2) jd_L_mix_19 rfl (by decide) ?_
        exact ju_ir O hr hk ⟨_, ⟨f, g, x, hpm, rfl⟩, hF.symm, by unfold jl_w; rw [if_neg (by rw [hF]; decide)]⟩ jd_L_mix_20
    · cases hk9
set_option maxRecDepth 100000 in
theorem co_L_withdraw {l : Launch} {s0 : State} {a0 : Array Value} {G : jb_Gt} {ad : Nat → Nat} (K : jo_G s0 a0 G ad) {S : ja_S} (hfl : l.stackTraces = false) (a : Int32) (v n9 : Nat → Nat) (hK : jm_K S v n9) (t n k : Nat) (ht : t ≤ 40) (h9 : S 9 0 = nI t) (hn : n ≤ 8) (h4 : S 4 0 = nI n) (h10 : S 10 0 = nI k) (hkt : k ≤ t) (hjam : S 5 0 = -1 ∨ ∃ J, J ≤ 100 ∧ S 5 0 = nI J) (h19 : ∀ e, e < 40 → S 19 e = nI (e + 1)) (j : Nat) (hj : j < 8) (hs : S 1 0 = -1 ∨ S 1 0 = nI j) : ju_C l s0 G ad jy_L_withdraw jc_L_withdraw 4 (some .int) [(0, 9, 12, 15), (0, 9, 15, 13), (0, 9, 18, 26), (0, 9, 21, 38)] 7 [.ref (ad 0), .int a, .ref (ad 37)] S (jo_i fun r S' => ∃ F, (∃ f g x, ((¬ S 1 0 = -1 ∧ ¬ S 2 0 = 0) ∧ jp_in a 1 5000 → cq_fd v n9 a.toNatClampNeg g x) ∧ F = cp_wd S t j a f g x) ∧ r = F.1 ∧ S' = jl_w F) := by
  refine ju_of K (by decide) rfl (Nat.le_of_ble_eq_true rfl) ?_
  intro p e s m args below meth c O hr hk hT
  refine ja_aload_n O (q := 1) jd_L_withdraw_0 rfl rfl rfl ?_
  refine ja_iconst O (q := 2) (v := 0) jd_L_withdraw_1 rfl (by decide) ?_
  refine ja_aload_n O (q := 3) jd_L_withdraw_2 rfl rfl rfl ?_
  refine ja_iload_n O (q := 4) jd_L_withdraw_3 rfl rfl rfl ?_
  refine ju_V O (k := 1) (As := [.int a]) (i := 0) (d := 6) (co_C_withdraw K hfl a v n9 hK t n k ht h9 hn h4 h10 hkt hjam h19 j hj hs) rfl rfl jw_447 jw_450 jw_1 ⟨by decide, by decide, by decide +kernel⟩ rfl jw_448 jw_449 ⟨by decide, by decide⟩ (Nat.le_of_ble_eq_true rfl) ⟨by decide, by decide⟩ jd_L_withdraw_4 (fun r S' h => ?_) (fun E S' h => ?_)
  · obtain ⟨f, g, x, hpm, h1, h2, h3⟩ := h
    subst h2; subst h3
    refine ja_i2l O (q := 8) jd_L_withdraw_7 rfl ?_
    refine js_37 O (k := 0) rfl (by decide) (q := 9) jd_L_withdraw_8 rfl ?_
    refine ja_goto O (g := 24) jd_L_withdraw_9 (by decide) ?_
    refine ja_iconst O (q := 25) (v := 0) jd_L_withdraw_24 rfl (by decide) ?_
    exact ju_ir O hr hk ⟨_, ⟨f, g, x, hpm, rfl⟩, h1.symm, by unfold jl_w; rw [if_pos h1]⟩ jd_L_withdraw_25
  · obtain ⟨f, g, x, hpm, ⟨k, hk9, hF⟩, hS9⟩ := h
    subst hS9
    rcases k with _ | _ | _ | _ | k
    · cases hk9
      refine ⟨12, fun cE hE => ?_, fun x9 => ?_⟩
      · obtain ⟨c0, f0, k0, y0⟩ := jh_1 K O.2 O.1.2.2.2.2 jv_350 jw_349
        cases hE.symm.trans f0
        exact ⟨k0, jh_map hT ⟨⟨by decide, by decide⟩, by decide, _, _, O.1.2.2.2.2 _ jw_269, f0, Or.inl ⟨y0, rfl⟩⟩⟩
      · refine ja_astore_n O (q := 13) jd_L_withdraw_12 rfl rfl (by decide) ?_
        refine ja_iconst O (q := 14) (v := 1) jd_L_withdraw_13 rfl (by decide) ?_
        exact ju_ir O hr hk ⟨_, ⟨f, g, x, hpm, rfl⟩, hF.symm, by unfold jl_w; rw [if_neg (by rw [hF]; decide)]⟩ jd_L_withdraw_14
    · cases hk9
      refine ⟨15, fun cE hE => ?_, fun x9 => ?_⟩
      · obtain ⟨c1, f1, k1, y1⟩ := jh_1 K O.2 O.1.2.2.2.2 jv_280 jw_279
        cases hE.symm.trans f1
        obtain ⟨c0, f0, k0, y0⟩ := jh_1 K O.2 O.1.2.2.2.2 jv_350 jw_349
        exact ⟨k1, jh_map hT ⟨⟨by decide, by decide⟩, by decide, _, _, O.1.2.2.2.2 _ jw_269, f0, Or.inr ⟨jh_2 K O.2 jh_nAS f1 f0, ⟨⟨by decide, by decide⟩, by decide, _, _, O.1.2.2.2.2 _ jw_268, f1, Or.inl ⟨y1, rfl⟩⟩⟩⟩⟩
      · refine ja_astore_n O (q := 16) jd_L_withdraw_15 rfl rfl (by decide) ?_
        refine ja_iconst O (q := 17) (v := 2) jd_L_withdraw_16 rfl (by decide) ?_
        exact ju_ir O hr hk ⟨_, ⟨f, g, x, hpm, rfl⟩, hF.symm, by unfold jl_w; rw [if_neg (by rw [hF]; decide)]⟩ jd_L_withdraw_17
    · cases hk9
      refine ⟨18, fun cE hE => ?_, fun x9 => ?_⟩
      · obtain ⟨c2, f2, k2, y2⟩ := jh_1 K O.2 O.1.2.2.2.2 jv_408 jw_407
        cases hE.symm.trans f2
        obtain ⟨c0, f0, k0, y0⟩ := jh_1 K O.2 O.1.2.2.2.2 jv_350 jw_349
        obtain ⟨c1, f1, k1, y1⟩ := jh_1 K O.2 O.1.2.2.2.2 jv_280 jw_279
        exact ⟨k2, jh_map hT ⟨⟨by decide, by decide⟩, by decide, _, _, O.1.2.2.2.2 _ jw_269, f0, Or.inr ⟨jh_2 K O.2 jh_nUS f2 f0, ⟨⟨by decide, by decide⟩, by decide, _, _, O.1.2.2.2.2 _ jw_268, f1, Or.inr ⟨jh_2 K O.2 jh_nUA f2 f1, ⟨⟨by decide, by decide⟩, by decide, _, _, O.1.2.2.2.2 _ jw_386, f2, Or.inl ⟨y2, rfl⟩⟩⟩⟩⟩⟩⟩
      · refine ja_astore_n O (q := 19) jd_L_withdraw_18 rfl rfl (by decide) ?_
        refine ja_iconst O (q := 20) (v := 3) jd_L_withdraw_19 rfl (by decide) ?_
        exact ju_ir O hr hk ⟨_, ⟨f, g, x, hpm, rfl⟩, hF.symm, by unfold jl_w; rw [if_neg (by rw [hF]; decide)]⟩ jd_L_withdraw_20
    · cases hk9
      refine ⟨21, fun cE hE => ?_, fun x9 => ?_⟩
      · obtain ⟨c3, f3, k3, y3⟩ := jh_1 K O.2 O.1.2.2.2.2 jv_476 jw_475
        cases hE.symm.trans f3
        obtain ⟨c0, f0, k0, y0⟩ := jh_1 K O.2 O.1.2.2.2.2 jv_350 jw_349
        obtain ⟨c1, f1, k1, y1⟩ := jh_1 K O.2 O.1.2.2.2.2 jv_280 jw_279
        obtain ⟨c2, f2, k2, y2⟩ := jh_1 K O.2 O.1.2.2.2.2 jv_408 jw_407
        exact ⟨k3, jh_map hT ⟨⟨by decide, by decide⟩, by decide, _, _, O.1.2.2.2.2 _ jw_269, f0, Or.inr ⟨jh_2 K O.2 jh_nBS f3 f0, ⟨⟨by decide, by decide⟩, by decide, _, _, O.1.2.2.2.2 _ jw_268, f1, Or.inr ⟨jh_2 K O.2 jh_nBA f3 f1, ⟨⟨by decide, by decide⟩, by decide, _, _, O.1.2.2.2.2 _ jw_386, f2, Or.inr ⟨jh_2 K O.2 jh_nBU f3 f2, ⟨⟨by decide, by decide⟩, by decide, _, _, O.1.2.2.2.2 _ jw_446, f3, Or.inl ⟨y3, rfl⟩⟩⟩⟩⟩⟩⟩⟩⟩
      · refine ja_astore_n O (q := 22) jd_L_withdraw_21 rfl rfl (by decide) ?_
        refine ja_iconst O (q := 23) (v := 4) jd_L_withdraw_22 rfl (by decide) ?_
        exact ju_ir O hr hk ⟨_, ⟨f, g, x, hpm, rfl⟩, hF.symm, by unfold jl_w; rw [if_neg (by rw [hF]; decide)]⟩ jd_L_withdraw_23
    · cases hk9
