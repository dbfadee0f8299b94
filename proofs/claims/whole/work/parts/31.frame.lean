/-! WHICH SIDE A CALL TOUCHES (hand text): the class leaves the reference's numbers, the reference the class's -/
def hi (C X : ja_S) : Prop := ∀ v, 32 ≤ v → X v = C v
def lo (C X : ja_S) : Prop := ∀ v, v < 32 ∨ v = 62 → X v = C v
theorem hi.rf {C : ja_S} : hi C C := fun _ _ => rfl
theorem lo.rf {C : ja_S} : lo C C := fun _ _ => rfl
theorem hi.sv {C X : ja_S} {w : Nat} {f : Nat → Int32} (hw : Nat.blt w 32 = true) (h : hi C X) : hi C (jb_sv X w f) := fun v hv => by
  have hw' : w < 32 := Nat.blt_eq.mp hw
  have e : Nat.beq v w = false := by
    cases q : Nat.beq v w with
    | false => rfl
    | true => have := Nat.eq_of_beq_eq_true q; omega
  show cond (Nat.beq v w) f (X v) = C v
  rw [e]; exact h v hv
theorem lo.sv {C X : ja_S} {w : Nat} {f : Nat → Int32} (hw : (Nat.ble 32 w && Nat.ble w 61) = true) (h : lo C X) : lo C (jb_sv X w f) := fun v hv => by
  have hw' := (Bool.and_eq_true_iff.mp hw)
  have h1 := Nat.le_of_ble_eq_true hw'.1
  have h2 := Nat.le_of_ble_eq_true hw'.2
  have e : Nat.beq v w = false := by
    cases q : Nat.beq v w with
    | false => rfl
    | true => have := Nat.eq_of_beq_eq_true q; omega
  show cond (Nat.beq v w) f (X v) = C v
  rw [e]; exact h v hv
section HI
variable {C X : ja_S} {p x y t : Int32} {i j e k : Nat}
theorem hi.end_ (h : hi C X) : hi C (cf_end X) := hi.sv rfl (hi.sv rfl h)
theorem hi.fail (h : hi C X) : hi C (cf_fail X p).2 := by
  unfold cf_fail; split
  · exact hi.end_ (hi.sv rfl (hi.sv rfl h))
  · exact h
theorem hi.fate (h : hi C X) : hi C (cf_fate X).2 := by
  unfold cf_fate; split
  · exact h
  · exact hi.sv rfl (hi.sv rfl h)
theorem hi.rq (h : hi C X) : hi C (cf_rq X i j x) := by
  unfold cf_rq; split
  · refine hi.sv rfl (hi.sv rfl ?_)
    unfold cf_dec; split
    · exact hi.sv rfl h
    · exact h
  · exact h
theorem hi.rev (h : hi C X) : hi C (cf_rev X i x) := by
  unfold cf_rev
  refine hi.sv rfl ?_
  split
  · exact hi.sv rfl h
  · exact h
theorem hi.owe (h : hi C X) : hi C (cf_owe X x y) := hi.sv rfl (hi.sv rfl (hi.sv rfl h))
theorem hi.give (h : hi C X) : hi C (cf_give X e) := hi.owe (hi.sv rfl h)
theorem hi.fin (h : hi C X) : hi C (cf_fin X e x) := by
  unfold cf_fin; split
  · exact hi.sv rfl (hi.sv rfl h)
  · exact hi.owe (hi.sv rfl (hi.sv rfl h))
theorem hi.xr (h : hi C X) : hi C (cf_xr X e j).2 := by
  unfold cf_xr; split
  · exact hi.fate h
  · split
    · exact hi.rq (hi.fate h)
    · show hi C (if _ then _ else _)
      split
      · exact hi.rq (hi.rq (hi.fate h))
      · exact hi.rq (hi.fate h)
theorem hi.xv (h : hi C X) : hi C (cf_xv X i x).2 := by
  unfold cf_xv; split
  · exact hi.fate h
  · show hi C (if _ then _ else _)
    split
    · exact hi.rev (hi.rev (hi.fate h))
    · exact hi.rev (hi.fate h)
theorem hi.rec_ (h : hi C X) : hi C (cf_rec X e) := by
  unfold cf_rec; split
  · exact hi.give h
  · split
    · exact hi.fin h
    · exact h
theorem hi.drop (h : hi C X) : hi C (cf_drop X k i) := hi.sv rfl (hi.sv rfl (hi.sv rfl h))
theorem hi.stl : ∀ (n : Nat) {X : ja_S} (i : Nat), hi C X → hi C (cf_stl n X i).2
  | 0, _, _, h => h
  | n + 1, X, i, h => by
    unfold cf_stl; split
    · split
      · exact hi.xv h
      · exact hi.stl n _ (hi.xv h)
    · exact h
theorem hi.pl : ∀ (n : Nat) {X : ja_S} (i : Nat) (w z : Int32), hi C X → hi C (cf_pl n X i w z).2
  | 0, _, _, _, _, h => h
  | n + 1, X, i, w, z, h => by
    unfold cf_pl; split
    · exact hi.pl n _ _ _ (hi.sv rfl (hi.sv rfl h))
    · exact h
theorem hi.pay (h : hi C X) : hi C (cf_pay X x).2 := hi.sv rfl (hi.sv rfl (hi.sv rfl (hi.pl 201 _ _ _ (hi.sv rfl h))))
theorem hi.pres (h : hi C X) : hi C (cf_pres X e).2 := by
  unfold cf_pres; split
  · unfold cf_pr2; split
    · exact hi.fin (hi.fail (hi.pay (hi.fail h)))
    · exact hi.fail (hi.pay (hi.fail h))
  · exact hi.fail h
theorem hi.rqst (h : hi C X) : hi C (cf_rqst X e j).2 := by
  unfold cf_rqst; split
  · unfold cf_rq1; split
    · exact hi.give (hi.xr (hi.fail h))
    · split
      · exact hi.sv rfl (hi.xr (hi.fail h))
      · split
        · exact hi.pres (hi.sv rfl (hi.fail (hi.xr (hi.fail h))))
        · exact hi.fail (hi.xr (hi.fail h))
  · exact hi.fail h
theorem hi.wd (h : hi C X) : hi C (cf_wd X i j x).2 := hi.rqst (hi.sv rfl (hi.sv rfl (hi.sv rfl (hi.sv rfl h))))
theorem lo.fail (h : lo C X) : lo C (mk_f X x).2.2 := lo.sv rfl (lo.sv rfl h)
theorem lo.cut (h : lo C X) : lo C (mf_cut X p).2 := by
  unfold mf_cut; split
  · exact lo.sv rfl (lo.sv rfl (lo.sv rfl (lo.sv rfl h)))
  · exact h
theorem lo.owe (h : lo C X) : lo C (mf_owe X x y) := lo.sv rfl (lo.sv rfl (lo.sv rfl h))
theorem lo.req (h : lo C X) : lo C (mf_req X i j) := by
  unfold mf_req; split
  · split
    · exact lo.sv rfl (lo.sv rfl h)
    · exact lo.sv rfl h
  · exact h
theorem lo.rev (h : lo C X) : lo C (mf_rev X i x) := by
  unfold mf_rev
  refine lo.sv rfl ?_
  split
  · exact lo.sv rfl h
  · exact h
theorem lo.fate (h : lo C X) : lo C (mf_fate X).2 := by
  unfold mf_fate; split
  · exact h
  · exact lo.sv rfl (lo.sv rfl h)
theorem lo.fin (h : lo C X) : lo C (mf_fin X i x) := by
  unfold mf_fin; split
  · exact lo.sv rfl (lo.sv rfl h)
  · exact lo.owe (lo.sv rfl (lo.sv rfl h))
theorem lo.pl : ∀ (n : Nat) {X : ja_S} (w g z : Int32), lo C X → lo C (mf_pl n X w g z).2
  | 0, _, _, _, _, h => h
  | n + 1, X, w, g, z, h => by
    unfold mf_pl
    exact lo.pl n _ _ _ (lo.sv rfl h)
theorem lo.pq (h : lo C X) : lo C (mf_pq X).2 := lo.pl 4 (mf_w X) 0 0 (lo.sv (f := upd (X 39) 0 (-1)) rfl h)
theorem lo.pay (h : lo C X) : lo C (mf_pay X x) := lo.sv rfl (lo.sv rfl (lo.sv rfl (lo.pq h)))
theorem lo.gv5 (h : lo C X) : lo C (mf_gv5 X i).2 := by
  unfold mf_gv5; split
  · exact lo.fin (lo.cut h)
  · exact lo.cut h
theorem lo.gv4 (h : lo C X) : lo C (mf_gv4 X i).2 := by
  unfold mf_gv4; split
  · exact lo.gv5 (lo.pay (lo.cut h))
  · exact lo.cut h
theorem lo.gv3 (h : lo C X) : lo C (mf_gv3 x X i).2 := by
  unfold mf_gv3; split
  · exact lo.owe (lo.sv rfl h)
  · split
    · exact lo.sv rfl h
    · split
      · exact lo.gv4 (lo.sv rfl (lo.cut h))
      · exact lo.cut h
theorem lo.give (h : lo C X) : lo C (mf_give X i j).2 := by
  unfold mf_give; split
  · unfold mf_gv2
    refine lo.gv3 ?_
    by_cases z : (mf_fate (mf_cut X 1).2).1 = 1
    · rw [if_pos z]; exact lo.fate (lo.cut h)
    · rw [if_neg z]; exact lo.req (lo.fate (lo.cut h))
  · exact lo.cut h
theorem lo.xv (h : lo C X) : lo C (mf_xv X) := by
  unfold mf_xv; split
  · exact lo.fate h
  · exact lo.rev (lo.fate h)
theorem lo.stl : ∀ (n : Nat) {X : ja_S} (i : Nat), lo C X → lo C (mf_stl n X i).2
  | 0, _, _, h => h
  | n + 1, X, i, h => by
    unfold mf_stl; split
    · exact h
    · split
      · exact lo.stl n _ (lo.sv rfl (lo.sv rfl (lo.sv rfl (lo.xv h))))
      · exact lo.xv h
end HI
theorem rr_M {C M M' : ja_S} {t k : Nat} (hM : hi M M') (h : rr C M t k) : rr C M' t k := by
  unfold rr r_s r_o r_l r_a r_c r_t r_h r_p r_d jm_KM at *
  rw [hM 33 (by decide), hM 34 (by decide), hM 35 (by decide), hM 36 (by decide), hM 37 (by decide), hM 38 (by decide), hM 39 (by decide), hM 40 (by decide), hM 41 (by decide), hM 42 (by decide), hM 43 (by decide), hM 44 (by decide), hM 45 (by decide), hM 46 (by decide), hM 47 (by decide), hM 48 (by decide), hM 49 (by decide), hM 50 (by decide), hM 51 (by decide), hM 53 (by decide), hM 54 (by decide), hM 55 (by decide), hM 56 (by decide), hM 57 (by decide), hM 58 (by decide), hM 59 (by decide), hM 60 (by decide), hM 61 (by decide)]
  exact h
theorem rr_C {C C' M : ja_S} {t k : Nat} (hC : lo C C') (h : rr C M t k) : rr C' M t k := by
  unfold rr r_s r_o r_l r_a r_c r_t r_h r_p r_d jm_K at *
  have hC : ∀ v, v < 32 → C' v = C v := fun v hv => hC v (Or.inl hv)
  rw [hC 0 (by decide), hC 1 (by decide), hC 2 (by decide), hC 3 (by decide), hC 4 (by decide), hC 5 (by decide), hC 6 (by decide), hC 7 (by decide), hC 8 (by decide), hC 9 (by decide), hC 10 (by decide), hC 11 (by decide), hC 12 (by decide), hC 13 (by decide), hC 14 (by decide), hC 15 (by decide), hC 16 (by decide), hC 17 (by decide), hC 18 (by decide), hC 19 (by decide), hC 20 (by decide), hC 21 (by decide), hC 22 (by decide), hC 23 (by decide), hC 24 (by decide), hC 25 (by decide), hC 26 (by decide), hC 27 (by decide), hC 30 (by decide), hC 31 (by decide)]
  exact h
/-- S in one world: both sides -/
def rS (S : ja_S) : Prop := ∃ t k, rr S S t k
/-- behind a call of the class and the reference's beside it -/
theorem rS_of {S S1 S2 : ja_S} {f g : Int32 × Int32 × ja_S} (q : sm_q f g) (e1 : S1 = f.2.2) (e2 : S2 = g.2.2) (hg : lo S1 S2) : rS S2 := by
  obtain ⟨-, -, ⟨t, k, h⟩, -⟩ := q
  rw [← e1, ← e2] at h
  exact ⟨t, k, rr_C hg h⟩
