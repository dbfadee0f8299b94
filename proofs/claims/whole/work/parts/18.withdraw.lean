/-! CONTRACTS of the class, by program (wip/whole/gen/p18.py): present, request, withdraw, mix -/
theorem jp_fail_v {C : ja_S} {p : Int32} {v : Nat} (h0 : Nat.beq v 0 = false) (h1 : Nat.beq v 1 = false) (h2 : Nat.beq v 2 = false) (h3 : Nat.beq v 3 = false) : (cf_fail C p).2 v = C v := by
  unfold cf_fail; split
  · simp [cf_end, jb_u, jb_sv, h0, h1, h2, h3]
  · rfl
theorem jp_xr_v {C : ja_S} {e j v : Nat} (h4 : Nat.beq v 4 = false) (h27 : Nat.beq v 27 = false) (h14 : Nat.beq v 14 = false) (h24 : Nat.beq v 24 = false) (h25 : Nat.beq v 25 = false) : (cf_xr C e j).2 v = C v := by
  have hf : (cf_fate C).2 v = C v := jp_fate_v h4 h27
  unfold cf_xr cf_req
  repeat' split
  all_goals first | exact hf | (show cf_rq _ _ _ _ v = _; simp only [jp_rq_v h14 h24 h25, hf]; done) | (simp only [jp_rq_v h14 h24 h25, hf]; done)
theorem jp_pl_v {v : Nat} (h28 : Nat.beq v 28 = false) (h18 : Nat.beq v 18 = false) : ∀ (f : Nat) (C : ja_S) (i : Nat) (w z : Int32), (cf_pl f C i w z).2 v = C v
  | 0, _, _, _, _ => rfl
  | f + 1, C, i, w, z => by
    unfold cf_pl; split
    · rw [jp_pl_v h28 h18 f]; simp [jb_u, jb_sv, h28, h18]
    · rfl
theorem jp_pay_v {C : ja_S} {x : Int32} {v : Nat} (h28 : Nat.beq v 28 = false) (h18 : Nat.beq v 18 = false) (h5 : Nat.beq v 5 = false) (h6 : Nat.beq v 6 = false) (h7 : Nat.beq v 7 = false) (h8 : Nat.beq v 8 = false) : (cf_pay C x).2 v = C v := by
  unfold cf_pay
  show jb_u (jb_u (jb_u _ 7 0 _) 8 0 _) 6 0 _ v = _
  simp only [jb_u, jb_sv, h6, h7, h8, cond_false]
  rw [jp_pl_v h28 h18]
  simp [jb_sv, h5]
def cf_pr2 (P : Int32 × ja_S) (e : Nat) : Int32 × ja_S := if (cf_fail P.2 4).1 = 0 then (P.1, cf_fin (cf_fail P.2 4).2 e P.1) else (-3, (cf_fail P.2 4).2)
def cf_pres (C : ja_S) (e : Nat) : Int32 × ja_S := if (cf_fail C 3).1 = 0 then cf_pr2 (cf_pay (cf_fail C 3).2 ((cf_fail C 3).2 19 e)) e else (-3, (cf_fail C 3).2)
def cf_rq1 (X : Int32 × ja_S) (e : Nat) : Int32 × ja_S := if X.1 = -2 then (-2, cf_give X.2 e) else if X.1 = -1 then (-1, jb_u X.2 22 e 4) else if (cf_fail X.2 2).1 = 0 then cf_pres (jb_u (cf_fail X.2 2).2 22 e 2) e else (-3, (cf_fail X.2 2).2)
def cf_rqst (C : ja_S) (e j : Nat) : Int32 × ja_S := if (cf_fail C 1).1 = 0 then cf_rq1 (cf_xr (cf_fail C 1).2 e j) e else (-3, (cf_fail C 1).2)
def cf_beg (C : ja_S) (t j : Nat) (b : Int32) : ja_S := jb_u (jb_u (jb_u (jb_u C 9 0 (nI (t + 1))) 20 t (nI j)) 21 t b) 22 t 1
def cf_wd (C : ja_S) (t j : Nat) (b : Int32) : Int32 × ja_S := cf_rqst (cf_beg C t j b) t j
/-- what the mix that was found is: none, or THE mix -/
def cq_fd (v n : Nat → Nat) (A : Nat) (g : Nat → Int32) (x : Bool) : Prop := (x = true ∧ ∃ t, jm_be v n A t ∧ ∀ i, i < 4 → g i = nI (t i)) ∨ (x = false ∧ ∀ t, ¬ jm_mx v n A t)
def cp_mix (C : ja_S) (a b : Int32) (f g : Nat → Int32) (x : Bool) : Int32 × Int32 × ja_S := if jp_in a 0 3 ∧ jp_in b 1 5000 then (if x then (0, g a.toNatClampNeg, jb_sv (jb_sv C 29 f) 28 g) else (2, 0, jb_sv (jb_sv C 29 f) 28 g)) else (1, 0, C)
def cp_wd (C : ja_S) (t j : Nat) (b : Int32) (f g : Nat → Int32) (x : Bool) : Int32 × Int32 × ja_S := if ¬ C 1 0 = -1 ∧ ¬ C 2 0 = 0 then (if jp_in b 1 5000 then (if x then (if C 9 0 < 40 then (0, (cf_wd (jb_sv (jb_sv C 29 f) 28 g) t j b).1, (cf_wd (jb_sv (jb_sv C 29 f) 28 g) t j b).2) else (4, 0, jb_sv (jb_sv C 29 f) 28 g)) else (3, 0, jb_sv (jb_sv C 29 f) 28 g)) else (2, 0, C)) else (1, 0, C)
theorem jp_fdB {v n : Nat → Nat} {A : Nat} {g : Nat → Int32} {r : Int32} (h : (r = 1 ∧ ∃ t, jm_be v n A t ∧ ∀ i, i < 4 → g i = nI (t i)) ∨ (r = 0 ∧ ∀ t, ¬ jm_mx v n A t)) : cq_fd v n A g (!(r == 0)) := by
  rcases h with ⟨rfl, h⟩ | ⟨rfl, h⟩
  · exact Or.inl ⟨rfl, h⟩
  · exact Or.inr ⟨rfl, h⟩
theorem jp_15 {b : Int32} (h : jp_in b 1 5000) : ∃ A, 1 ≤ A ∧ A ≤ 5000 ∧ b = nI A := by
  obtain ⟨A, hA, rfl⟩ := jp_in_nI (n := 5000) (by decide) ⟨Int32.le_trans (by decide) h.1, h.2⟩
  exact ⟨A, (nI_leI (by decide) (by omega)).mp h.1, hA, rfl⟩
set_option maxRecDepth 100000 in
theorem co_C_present {l : Launch} {s0 : State} {a0 : Array Value} {G : jb_Gt} {ad : Nat → Nat} (K : jo_G s0 a0 G ad) {S : ja_S} (e : Nat) (he : e < 40) (k : Nat) (hk9 : k < 40) (h10 : S 10 0 = nI k) (hjam : S 5 0 = -1 ∨ ∃ J, J ≤ 100 ∧ S 5 0 = nI J) : jo_C l s0 G ad jy_C_present jc_C_present 3 (some .int) 3 [.ref (ad 0), .ref (ad (50 + e))] S (jo_i fun r S' => r = (cf_pres S e).1 ∧ S' = (cf_pres S e).2) := by
  refine jo_of K (by decide) rfl (Nat.le_of_ble_eq_true rfl) ?_
  intro p e0 s m args below meth c O hr hk
  refine ja_aload_n O (q := 1) jd_C_present_0 rfl rfl rfl ?_
  refine ja_iconst O (q := 2) (v := 3) jd_C_present_1 rfl (by decide) ?_
  refine jm_C_201 O (d := 2) ⟨by decide, by decide⟩ (Nat.le_of_ble_eq_true rfl) ⟨by decide, by decide⟩ (co_C_failsAt K 3) (q := 5) jd_C_present_2 rfl (fun r S' h => ?_)
  obtain ⟨h1, h2⟩ := h
  rw [h1, h2]
  clear h1 h2
  refine ja_if_eq O (g := 11) (q := 8) jd_C_present_5 (by decide) rfl (fun h_5 => ?_) (fun h_5 => ?_)
  · refine ja_aload_n O (q := 12) jd_C_present_11 rfl rfl rfl ?_
    refine jg_C_26 O (q := 15) jd_C_present_12 rfl ?_
    refine ja_aload_n O (q := 16) jd_C_present_15 rfl rfl rfl ?_
    refine jg_C_213 O (by first | assumption | omega) (q := 19) jd_C_present_16 rfl ?_
    refine jm_C_216 O (d := 2) ⟨by decide, by decide⟩ (Nat.le_of_ble_eq_true rfl) ⟨by decide, by decide⟩ (co_D_payMix K (S := (cf_fail S 3).2) _ (by rw [jp_fail_v rfl rfl rfl rfl]; exact hjam)) (q := 22) jd_C_present_19 rfl (fun r S' h => ?_)
    obtain ⟨h1, h2⟩ := h
    rw [h1, h2]
    clear h1 h2
    refine ja_istore_n O (q := 23) jd_C_present_22 rfl rfl (by decide) ?_
    refine ja_aload_n O (q := 24) jd_C_present_23 rfl rfl rfl ?_
    refine ja_iconst O (q := 25) (v := 4) jd_C_present_24 rfl (by decide) ?_
    refine jm_C_201 O (d := 2) ⟨by decide, by decide⟩ (Nat.le_of_ble_eq_true rfl) ⟨by decide, by decide⟩ (co_C_failsAt K 4) (q := 28) jd_C_present_25 rfl (fun r S' h => ?_)
    obtain ⟨h1, h2⟩ := h
    rw [h1, h2]
    clear h1 h2
    refine ja_if_eq O (g := 34) (q := 31) jd_C_present_28 (by decide) rfl (fun h_28 => ?_) (fun h_28 => ?_)
    · refine ja_aload_n O (q := 35) jd_C_present_34 rfl rfl rfl ?_
      refine ja_aload_n O (q := 36) jd_C_present_35 rfl rfl rfl ?_
      refine ja_iload_n O (q := 37) jd_C_present_36 rfl rfl rfl ?_
      refine jm_C_220 O (d := 2) ⟨by decide, by decide⟩ (Nat.le_of_ble_eq_true rfl) ⟨by decide, by decide⟩ (co_C_finish K (S := (cf_fail (cf_pay (cf_fail S 3).2 ((cf_fail S 3).2 19 e)).2 4).2) e he k hk9 (by rw [jp_fail_v rfl rfl rfl rfl, jp_pay_v rfl rfl rfl rfl rfl rfl, jp_fail_v rfl rfl rfl rfl]; exact h10) _) (q := 40) jd_C_present_37 rfl (fun S' h => ?_)
      subst h
      refine ja_iload_n O (q := 41) jd_C_present_40 rfl rfl rfl ?_
      exact jo_ir O hr hk (by simp only [cf_pres, if_pos h_5, cf_pr2, if_pos h_28]; exact ⟨trivial, trivial⟩) jd_C_present_41
    · refine ja_bipush O (q := 33) (v := (-3)) jd_C_present_31 rfl (by decide) ?_
      exact jo_ir O hr hk (by simp only [cf_pres, if_pos h_5, cf_pr2, if_neg h_28]; exact ⟨trivial, trivial⟩) jd_C_present_33
  · refine ja_bipush O (q := 10) (v := (-3)) jd_C_present_8 rfl (by decide) ?_
    exact jo_ir O hr hk (by simp only [cf_pres, if_neg h_5]; exact ⟨trivial, trivial⟩) jd_C_present_10
set_option maxRecDepth 100000 in
theorem co_C_request {l : Launch} {s0 : State} {a0 : Array Value} {G : jb_Gt} {ad : Nat → Nat} (K : jo_G s0 a0 G ad) {S : ja_S} (e j n : Nat) (he : e < 40) (hj : j < 8) (hn : n ≤ 8) (h4 : S 4 0 = nI n) (h19 : S 19 e = nI (e + 1)) (h20 : S 20 e = nI j) (k : Nat) (hk9 : k < 40) (h10 : S 10 0 = nI k) (hjam : S 5 0 = -1 ∨ ∃ J, J ≤ 100 ∧ S 5 0 = nI J) : jo_C l s0 G ad jy_C_request jc_C_request 3 (some .int) 4 [.ref (ad 0), .ref (ad (50 + e))] S (jo_i fun r S' => r = (cf_rqst S e j).1 ∧ S' = (cf_rqst S e j).2) := by
  refine jo_of K (by decide) rfl (Nat.le_of_ble_eq_true rfl) ?_
  intro p e0 s m args below meth c O hr hk
  refine ja_aload_n O (q := 1) jd_C_request_0 rfl rfl rfl ?_
  refine ja_iconst O (q := 2) (v := 1) jd_C_request_1 rfl (by decide) ?_
  refine jm_C_201 O (d := 2) ⟨by decide, by decide⟩ (Nat.le_of_ble_eq_true rfl) ⟨by decide, by decide⟩ (co_C_failsAt K 1) (q := 5) jd_C_request_2 rfl (fun r S' h => ?_)
  obtain ⟨h1, h2⟩ := h
  rw [h1, h2]
  clear h1 h2
  refine ja_if_eq O (g := 11) (q := 8) jd_C_request_5 (by decide) rfl (fun h_5 => ?_) (fun h_5 => ?_)
  · refine ja_aload_n O (q := 12) jd_C_request_11 rfl rfl rfl ?_
    refine ja_aload_n O (q := 13) jd_C_request_12 rfl rfl rfl ?_
    refine jm_C_204 O (d := 3) ⟨by decide, by decide⟩ (Nat.le_of_ble_eq_true rfl) ⟨by decide, by decide⟩ (co_C_exchangeRequest K (S := (cf_fail S 1).2) e j n he hj hn (by rw [jp_fail_v rfl rfl rfl rfl]; exact h4) (by rw [jp_fail_v rfl rfl rfl rfl]; exact h19) (by rw [jp_fail_v rfl rfl rfl rfl]; exact h20)) (q := 16) jd_C_request_13 rfl (fun r S' h => ?_)
    obtain ⟨h1, h2⟩ := h
    rw [h1, h2]
    clear h1 h2
    refine ja_istore_n O (q := 17) jd_C_request_16 rfl rfl (by decide) ?_
    refine ja_iload_n O (q := 18) jd_C_request_17 rfl rfl rfl ?_
    refine ja_bipush O (q := 20) (v := (-2)) jd_C_request_18 rfl (by decide) ?_
    refine ja_icmp_ne O (g := 31) (q := 23) jd_C_request_20 (by decide) rfl (fun h_20 => ?_) (fun h_20 => ?_)
    · refine ja_iload_n O (q := 32) jd_C_request_31 rfl rfl rfl ?_
      refine ja_iconst O (q := 33) (v := (-1)) jd_C_request_32 rfl (by decide) ?_
      refine ja_icmp_ne O (g := 43) (q := 36) jd_C_request_33 (by decide) rfl (fun h_33 => ?_) (fun h_33 => ?_)
      · refine ja_aload_n O (q := 44) jd_C_request_43 rfl rfl rfl ?_
        refine ja_iconst O (q := 45) (v := 2) jd_C_request_44 rfl (by decide) ?_
        refine jm_C_201 O (d := 2) ⟨by decide, by decide⟩ (Nat.le_of_ble_eq_true rfl) ⟨by decide, by decide⟩ (co_C_failsAt K 2) (q := 48) jd_C_request_45 rfl (fun r S' h => ?_)
        obtain ⟨h1, h2⟩ := h
        rw [h1, h2]
        clear h1 h2
        refine ja_if_eq O (g := 54) (q := 51) jd_C_request_48 (by decide) rfl (fun h_48 => ?_) (fun h_48 => ?_)
        · refine ja_aload_n O (q := 55) jd_C_request_54 rfl rfl rfl ?_
          refine ja_iconst O (q := 56) (v := 2) jd_C_request_55 rfl (by decide) ?_
          refine jp_C_166 O (by first | assumption | omega) (q := 59) jd_C_request_56 rfl ?_
          refine ja_aload_n O (q := 60) jd_C_request_59 rfl rfl rfl ?_
          refine ja_aload_n O (q := 61) jd_C_request_60 rfl rfl rfl ?_
          refine jm_C_210 O (d := 3) ⟨by decide, by decide⟩ (Nat.le_of_ble_eq_true rfl) ⟨by decide, by decide⟩ (co_C_present K (S := jb_u (cf_fail (cf_xr (cf_fail S 1).2 e j).2 2).2 22 e 2) e he k hk9 (by show (cf_fail (cf_xr (cf_fail S 1).2 e j).2 2).2 10 0 = _; rw [jp_fail_v rfl rfl rfl rfl, jp_xr_v rfl rfl rfl rfl rfl, jp_fail_v rfl rfl rfl rfl]; exact h10) (by rw [show jb_u (cf_fail (cf_xr (cf_fail S 1).2 e j).2 2).2 22 e 2 5 0 = S 5 0 from by show (cf_fail (cf_xr (cf_fail S 1).2 e j).2 2).2 5 0 = _; rw [jp_fail_v rfl rfl rfl rfl, jp_xr_v rfl rfl rfl rfl rfl, jp_fail_v rfl rfl rfl rfl]]; exact hjam)) (q := 64) jd_C_request_61 rfl (fun r S' h => ?_)
          obtain ⟨h1, h2⟩ := h
          rw [h1, h2]
          clear h1 h2
          exact jo_ir O hr hk (by simp only [cf_rqst, if_pos h_5, cf_rq1, if_neg (show ¬ (cf_xr (cf_fail S 1).2 e j).1 = -2 from h_20), if_neg (show ¬ (cf_xr (cf_fail S 1).2 e j).1 = -1 from h_33), if_pos h_48]; exact ⟨trivial, trivial⟩) jd_C_request_64
        · refine ja_bipush O (q := 53) (v := (-3)) jd_C_request_51 rfl (by decide) ?_
          exact jo_ir O hr hk (by simp only [cf_rqst, if_pos h_5, cf_rq1, if_neg (show ¬ (cf_xr (cf_fail S 1).2 e j).1 = -2 from h_20), if_neg (show ¬ (cf_xr (cf_fail S 1).2 e j).1 = -1 from h_33), if_neg h_48]; exact ⟨trivial, trivial⟩) jd_C_request_53
      · refine ja_aload_n O (q := 37) jd_C_request_36 rfl rfl rfl ?_
        refine ja_iconst O (q := 38) (v := 4) jd_C_request_37 rfl (by decide) ?_
        refine jp_C_166 O (by first | assumption | omega) (q := 41) jd_C_request_38 rfl ?_
        refine ja_iconst O (q := 42) (v := (-1)) jd_C_request_41 rfl (by decide) ?_
        exact jo_ir O hr hk (by simp only [cf_rqst, if_pos h_5, cf_rq1, if_neg (show ¬ (cf_xr (cf_fail S 1).2 e j).1 = -2 from h_20), if_pos (show (cf_xr (cf_fail S 1).2 e j).1 = -1 from h_33)]; exact ⟨trivial, trivial⟩) jd_C_request_42
    · refine ja_aload_n O (q := 24) jd_C_request_23 rfl rfl rfl ?_
      refine ja_aload_n O (q := 25) jd_C_request_24 rfl rfl rfl ?_
      refine jm_C_207 O (d := 2) ⟨by decide, by decide⟩ (Nat.le_of_ble_eq_true rfl) ⟨by decide, by decide⟩ (co_C_giveUp K (S := (cf_xr (cf_fail S 1).2 e j).2) e he k hk9 (by rw [jp_xr_v rfl rfl rfl rfl rfl, jp_fail_v rfl rfl rfl rfl]; exact h10)) (q := 28) jd_C_request_25 rfl (fun S' h => ?_)
      subst h
      refine ja_bipush O (q := 30) (v := (-2)) jd_C_request_28 rfl (by decide) ?_
      exact jo_ir O hr hk (by simp only [cf_rqst, if_pos h_5, cf_rq1, if_pos (show (cf_xr (cf_fail S 1).2 e j).1 = -2 from h_20)]; exact ⟨trivial, trivial⟩) jd_C_request_30
  · refine ja_bipush O (q := 10) (v := (-3)) jd_C_request_8 rfl (by decide) ?_
    exact jo_ir O hr hk (by simp only [cf_rqst, if_neg h_5]; exact ⟨trivial, trivial⟩) jd_C_request_10
set_option maxRecDepth 100000 in
theorem co_C_mix {l : Launch} {s0 : State} {a0 : Array Value} {G : jb_Gt} {ad : Nat → Nat} (K : jo_G s0 a0 G ad) {S : ja_S} (hfl : l.stackTraces = false) (a b : Int32) (v n9 : Nat → Nat) (hK : jm_K S v n9) : jo_Y l s0 G ad jy_C_mix jc_C_mix 3 (some .int) 6 [.ref (ad 0), .int a, .int b] S (fun r S' => ∃ f g x, ((jp_in a 0 3 ∧ jp_in b 1 5000 → cq_fd v n9 b.toNatClampNeg g x)) ∧ jo_ps (cp_mix S a b f g x) r S') (fun E S' => ∃ f g x, ((jp_in a 0 3 ∧ jp_in b 1 5000 → cq_fd v n9 b.toNatClampNeg g x)) ∧ jo_ts ["java/lang/IllegalArgumentException", "java/lang/UnsupportedOperationException"] (cp_mix S a b f g x) E S') := by
  refine jo_ofB K (by decide) rfl (Nat.le_of_ble_eq_true rfl) ?_
  intro p e s m args below meth c O hr hk
  refine ja_iload_n O (q := 1) jd_C_mix_0 rfl rfl rfl ?_
  refine ja_iconst O (q := 2) (v := 0) jd_C_mix_1 rfl (by decide) ?_
  refine ja_iconst O (q := 3) (v := 3) jd_C_mix_2 rfl (by decide) ?_
  refine jm_C_58 O (d := 1) ⟨by decide, by decide⟩ (Nat.le_of_ble_eq_true rfl) ⟨by decide, by decide⟩ (co_C_isWithin K a 0 3) (q := 6) jd_C_mix_3 rfl (fun r S' h => ?_)
  obtain ⟨e9, -, hin_3⟩ := h
  have e9 := e9.symm
  subst e9
  refine ja_if_eq O (g := 20) (q := 9) jd_C_mix_6 (by decide) rfl (fun h_6 => ?_) (fun h_6 => ?_)
  · exact jo_th K hfl O (fun _ _ Z => jt_atA Z) (by decide) jw_278 jw_279 jw_15 hk (by decide) (Nat.le_of_ble_eq_true rfl) ⟨by decide, by decide⟩ jd_C_mix_20 jd_C_mix_23 jd_C_mix_24 jd_C_mix_27 (by
        have q : ¬ (jp_in a 0 3 ∧ jp_in b 1 5000) := by first | exact fun q => (hin_3.mp h_6) q.1 | exact fun q => (hin_14.mp h_17) q.2
        exact ⟨S 29, S 28, true, fun hb => absurd hb q, ⟨0, rfl, by simp only [cp_mix, if_neg q]; rfl⟩, by simp only [cp_mix, if_neg q]⟩)
  · refine ja_iload_n O (q := 10) jd_C_mix_9 rfl rfl rfl ?_
    refine ja_iconst O (q := 11) (v := 1) jd_C_mix_10 rfl (by decide) ?_
    refine ja_sipush O (q := 14) (v := 5000) jd_C_mix_11 rfl (by decide) ?_
    refine jm_C_58 O (d := 1) ⟨by decide, by decide⟩ (Nat.le_of_ble_eq_true rfl) ⟨by decide, by decide⟩ (co_C_isWithin K b 1 5000) (q := 17) jd_C_mix_14 rfl (fun r S' h => ?_)
    obtain ⟨e9, -, hin_14⟩ := h
    have e9 := e9.symm
    subst e9
    refine ja_if_ne O (g := 28) (q := 20) jd_C_mix_17 (by decide) rfl (fun h_17 => ?_) (fun h_17 => ?_)
    · have i1 := jp_no hin_3 h_6
      have i2 := jp_no hin_14 h_17
      have i4 : jp_in a 0 3 ∧ jp_in b 1 5000 := ⟨i1, i2⟩
      obtain ⟨j, hj, rfl⟩ := jp_in_nI (n := 3) (by decide) i1
      obtain ⟨A, hA1, hA, rfl⟩ := jp_15 i2
      have hj4 : j < 4 := by omega
      have hcl : (nI j).toNatClampNeg = j := nI_clamp (by omega)
      have hcA : (nI A).toNatClampNeg = A := nI_clamp (by omega)
      refine ja_aload_n O (q := 29) jd_C_mix_28 rfl rfl rfl ?_
      refine jg_C_26 O (q := 32) jd_C_mix_29 rfl ?_
      refine ja_iload_n O (q := 33) jd_C_mix_32 rfl rfl rfl ?_
      refine jm_C_109 O (d := 4) ⟨by decide, by decide⟩ (Nat.le_of_ble_eq_true rfl) ⟨by decide, by decide⟩ (co_D_findMix K v n9 A hA hK) (q := 36) jd_C_mix_33 rfl (fun r S' h => ?_)
      obtain ⟨f, g, rfl, hfd⟩ := h
      have hfd2 := jp_fdB hfd
      have hr01 : r = 0 ∨ r = 1 := hfd.elim (fun z => Or.inr z.1) (fun z => Or.inl z.1)
      refine ja_if_ne O (g := 47) (q := 39) jd_C_mix_36 (by decide) rfl (fun h_36 => ?_) (fun h_36 => ?_)
      · refine ja_aload_n O (q := 48) jd_C_mix_47 rfl rfl rfl ?_
        refine jg_C_26 O (q := 51) jd_C_mix_48 rfl ?_
        refine jg_C_126 O (q := 54) jd_C_mix_51 rfl ?_
        refine jg_C_130 O (q := 57) jd_C_mix_54 rfl ?_
        refine ja_iload_n O (q := 58) jd_C_mix_57 rfl rfl rfl ?_
        refine jl_14 O (k := j) rfl (by first | assumption | omega) (q := 59) jd_C_mix_58 rfl ?_
        exact jo_irB O hr hk (by
            have e1 := hr01.resolve_left h_36
            subst e1
            exact ⟨f, g, true, fun _ => by rw [hcA]; exact hfd2, by simp only [jo_ps, cp_mix, if_pos i4, hcl]; exact ⟨rfl, rfl, rfl⟩⟩) jd_C_mix_59
      · exact jo_th K hfl O (fun _ _ Z => jt_atU Z) (by decide) jw_406 jw_407 jw_18 hk (by decide) (Nat.le_of_ble_eq_true rfl) ⟨by decide, by decide⟩ jd_C_mix_39 jd_C_mix_42 jd_C_mix_43 jd_C_mix_46 (by
            subst h_36
            exact ⟨f, g, false, fun _ => by rw [hcA]; exact hfd2, ⟨1, rfl, by simp only [cp_mix, if_pos i4]; rfl⟩, by simp only [cp_mix, if_pos i4]; rfl⟩)
    · exact jo_th K hfl O (fun _ _ Z => jt_atA Z) (by decide) jw_278 jw_279 jw_15 hk (by decide) (Nat.le_of_ble_eq_true rfl) ⟨by decide, by decide⟩ jd_C_mix_20 jd_C_mix_23 jd_C_mix_24 jd_C_mix_27 (by
          have q : ¬ (jp_in a 0 3 ∧ jp_in b 1 5000) := by first | exact fun q => (hin_3.mp h_6) q.1 | exact fun q => (hin_14.mp h_17) q.2
          exact ⟨S 29, S 28, true, fun hb => absurd hb q, ⟨0, rfl, by simp only [cp_mix, if_neg q]; rfl⟩, by simp only [cp_mix, if_neg q]⟩)
set_option maxRecDepth 100000 in
theorem co_C_withdraw {l : Launch} {s0 : State} {a0 : Array Value} {G : jb_Gt} {ad : Nat → Nat} (K : jo_G s0 a0 G ad) {S : ja_S} (hfl : l.stackTraces = false) (b : Int32) (v n9 : Nat → Nat) (hK : jm_K S v n9) (t n k : Nat) (ht : t ≤ 40) (h9 : S 9 0 = nI t) (hn : n ≤ 8) (h4 : S 4 0 = nI n) (h10 : S 10 0 = nI k) (hkt : k ≤ t) (hjam : S 5 0 = -1 ∨ ∃ J, J ≤ 100 ∧ S 5 0 = nI J) (h19 : ∀ e, e < 40 → S 19 e = nI (e + 1)) (j : Nat) (hj : j < 8) (hs : S 1 0 = -1 ∨ S 1 0 = nI j) : jo_Y l s0 G ad jy_C_withdraw jc_C_withdraw 2 (some .int) 6 [.ref (ad 0), .int b] S (fun r S' => ∃ f g x, (((¬ S 1 0 = -1 ∧ ¬ S 2 0 = 0) ∧ jp_in b 1 5000 → cq_fd v n9 b.toNatClampNeg g x)) ∧ jo_ps (cp_wd S t j b f g x) r S') (fun E S' => ∃ f g x, (((¬ S 1 0 = -1 ∧ ¬ S 2 0 = 0) ∧ jp_in b 1 5000 → cq_fd v n9 b.toNatClampNeg g x)) ∧ jo_ts ["java/lang/IllegalStateException", "java/lang/IllegalArgumentException", "java/lang/UnsupportedOperationException", "java/lang/IndexOutOfBoundsException"] (cp_wd S t j b f g x) E S') := by
  refine jo_ofB K (by decide) rfl (Nat.le_of_ble_eq_true rfl) ?_
  intro p e s m args below meth c O hr hk
  refine ja_aload_n O (q := 1) jd_C_withdraw_0 rfl rfl rfl ?_
  refine jg_C_48 O (q := 4) jd_C_withdraw_1 rfl ?_
  refine ja_iconst O (q := 5) (v := (-1)) jd_C_withdraw_4 rfl (by decide) ?_
  refine ja_icmp_eq O (g := 15) (q := 8) jd_C_withdraw_5 (by decide) rfl (fun h_5 => ?_) (fun h_5 => ?_)
  · exact jo_th K hfl O (fun _ _ Z => jt_atS Z) (by decide) jw_348 jw_349 jw_16 hk (by decide) (Nat.le_of_ble_eq_true rfl) ⟨by decide, by decide⟩ jd_C_withdraw_15 jd_C_withdraw_18 jd_C_withdraw_19 jd_C_withdraw_22 (by
        have q : ¬ (¬ S 1 0 = -1 ∧ ¬ S 2 0 = 0) := by first | exact fun q => q.1 h_5 | exact fun q => q.2 h_12
        exact ⟨S 29, S 28, true, fun hb => absurd hb.1 q, ⟨0, rfl, by simp only [cp_wd, if_neg q]; rfl⟩, by simp only [cp_wd, if_neg q]⟩)
  · refine ja_aload_n O (q := 9) jd_C_withdraw_8 rfl rfl rfl ?_
    refine jg_C_52 O (q := 12) jd_C_withdraw_9 rfl ?_
    refine ja_if_ne O (g := 23) (q := 15) jd_C_withdraw_12 (by decide) rfl (fun h_12 => ?_) (fun h_12 => ?_)
    · have i4 : ¬ S 1 0 = -1 ∧ ¬ S 2 0 = 0 := ⟨h_5, h_12⟩
      have hs1 := hs.resolve_left h_5
      refine ja_iload_n O (q := 24) jd_C_withdraw_23 rfl rfl rfl ?_
      refine ja_iconst O (q := 25) (v := 1) jd_C_withdraw_24 rfl (by decide) ?_
      refine ja_sipush O (q := 28) (v := 5000) jd_C_withdraw_25 rfl (by decide) ?_
      refine jm_C_58 O (d := 1) ⟨by decide, by decide⟩ (Nat.le_of_ble_eq_true rfl) ⟨by decide, by decide⟩ (co_C_isWithin K b 1 5000) (q := 31) jd_C_withdraw_28 rfl (fun r S' h => ?_)
      obtain ⟨e9, -, hin_28⟩ := h
      have e9 := e9.symm
      subst e9
      refine ja_if_ne O (g := 42) (q := 34) jd_C_withdraw_31 (by decide) rfl (fun h_31 => ?_) (fun h_31 => ?_)
      · have i2 := jp_no hin_28 h_31
        obtain ⟨A, hA1, hA, rfl⟩ := jp_15 i2
        have hcA : (nI A).toNatClampNeg = A := nI_clamp (by omega)
        refine ja_aload_n O (q := 43) jd_C_withdraw_42 rfl rfl rfl ?_
        refine jg_C_26 O (q := 46) jd_C_withdraw_43 rfl ?_
        refine ja_iload_n O (q := 47) jd_C_withdraw_46 rfl rfl rfl ?_
        refine jm_C_109 O (d := 4) ⟨by decide, by decide⟩ (Nat.le_of_ble_eq_true rfl) ⟨by decide, by decide⟩ (co_D_findMix K v n9 A hA hK) (q := 50) jd_C_withdraw_47 rfl (fun r S' h => ?_)
        obtain ⟨f, g, rfl, hfd⟩ := h
        have hfd2 := jp_fdB hfd
        have hr01 : r = 0 ∨ r = 1 := hfd.elim (fun z => Or.inr z.1) (fun z => Or.inl z.1)
        refine ja_if_ne O (g := 61) (q := 53) jd_C_withdraw_50 (by decide) rfl (fun h_50 => ?_) (fun h_50 => ?_)
        · have e1 := hr01.resolve_left h_50
          subst e1
          refine ja_aload_n O (q := 62) jd_C_withdraw_61 rfl rfl rfl ?_
          refine jg_C_33 O (q := 65) jd_C_withdraw_62 rfl ?_
          refine jg_C_112 O (q := 68) jd_C_withdraw_65 rfl ?_
          refine ja_bipush O (q := 70) (v := 40) jd_C_withdraw_68 rfl (by decide) ?_
          refine ja_icmp_lt O (g := 81) (q := 73) jd_C_withdraw_70 (by decide) rfl (fun h_70 => ?_) (fun h_70 => ?_)
          · have i9 : S 9 0 < 40 := h_70
            have ht9 : t < 40 := by rw [h9] at i9; exact (nI_ltI (by omega) (by decide)).mp i9
            refine ja_aload_n O (q := 82) jd_C_withdraw_81 rfl rfl rfl ?_
            refine ja_aload_n O (q := 83) jd_C_withdraw_82 rfl rfl rfl ?_
            refine jg_C_33 O (q := 86) jd_C_withdraw_83 rfl ?_
            refine ja_aload_n O (q := 87) jd_C_withdraw_86 rfl rfl rfl ?_
            refine jg_C_48 O (q := 90) jd_C_withdraw_87 rfl ?_
            refine ja_iload_n O (q := 91) jd_C_withdraw_90 rfl rfl rfl ?_
            refine jm_C_118 O (d := 1) ⟨by decide, by decide⟩ (Nat.le_of_ble_eq_true rfl) ⟨by decide, by decide⟩ (co_J_begin K (S := jb_sv (jb_sv S 29 f) 28 g) t ht9 h9 _ _) (q := 94) jd_C_withdraw_91 rfl (fun r S' h => ?_)
            obtain ⟨rfl, rfl⟩ := h
            rw [show jb_sv (jb_sv S 29 f) 28 g 1 0 = nI j from hs1]
            refine jm_C_122 O (d := 4) ⟨by decide, by decide⟩ (Nat.le_of_ble_eq_true rfl) ⟨by decide, by decide⟩ (co_C_request K (S := jb_u (jb_u (jb_u (jb_u (jb_sv (jb_sv S 29 f) 28 g) 9 0 (nI (t + 1))) 20 t (nI j)) 21 t (nI A)) 22 t 1) t j n ht9 hj hn h4 (h19 t ht9) (by show upd _ t (nI j) t = _; rw [pk_us]) k (by omega) h10 hjam) (q := 97) jd_C_withdraw_94 rfl (fun r S' h => ?_)
            obtain ⟨h1, h2⟩ := h
            rw [h1, h2]
            clear h1 h2
            exact jo_irB O hr hk ⟨f, g, true, fun _ => by rw [hcA]; exact hfd2, by simp only [jo_ps, cp_wd, if_pos i4, if_pos i2, if_pos i9]; exact ⟨rfl, rfl, rfl⟩⟩ jd_C_withdraw_97
          · exact jo_th K hfl O (fun _ _ Z => jt_atB Z) (by decide) jw_474 jw_475 jw_21 hk (by decide) (Nat.le_of_ble_eq_true rfl) ⟨by decide, by decide⟩ jd_C_withdraw_73 jd_C_withdraw_76 jd_C_withdraw_77 jd_C_withdraw_80 (by
                have q : ¬ S 9 0 < 40 := h_70
                exact ⟨f, g, true, fun _ => by rw [hcA]; exact hfd2, ⟨3, rfl, by simp only [cp_wd, if_pos i4, if_pos i2, if_neg q]; rfl⟩, by simp only [cp_wd, if_pos i4, if_pos i2, if_neg q]; rfl⟩)
        · exact jo_th K hfl O (fun _ _ Z => jt_atU Z) (by decide) jw_406 jw_407 jw_18 hk (by decide) (Nat.le_of_ble_eq_true rfl) ⟨by decide, by decide⟩ jd_C_withdraw_53 jd_C_withdraw_56 jd_C_withdraw_57 jd_C_withdraw_60 (by
              subst h_50
              exact ⟨f, g, false, fun _ => by rw [hcA]; exact hfd2, ⟨2, rfl, by simp only [cp_wd, if_pos i4, if_pos i2]; rfl⟩, by simp only [cp_wd, if_pos i4, if_pos i2]; rfl⟩)
      · exact jo_th K hfl O (fun _ _ Z => jt_atA Z) (by decide) jw_278 jw_279 jw_15 hk (by decide) (Nat.le_of_ble_eq_true rfl) ⟨by decide, by decide⟩ jd_C_withdraw_34 jd_C_withdraw_37 jd_C_withdraw_38 jd_C_withdraw_41 (by
            have q := hin_28.mp h_31
            exact ⟨S 29, S 28, true, fun hb => absurd hb.2 q, ⟨1, rfl, by simp only [cp_wd, if_pos i4, if_neg q]; rfl⟩, by simp only [cp_wd, if_pos i4, if_neg q]⟩)
    · exact jo_th K hfl O (fun _ _ Z => jt_atS Z) (by decide) jw_348 jw_349 jw_16 hk (by decide) (Nat.le_of_ble_eq_true rfl) ⟨by decide, by decide⟩ jd_C_withdraw_15 jd_C_withdraw_18 jd_C_withdraw_19 jd_C_withdraw_22 (by
          have q : ¬ (¬ S 1 0 = -1 ∧ ¬ S 2 0 = 0) := by first | exact fun q => q.1 h_5 | exact fun q => q.2 h_12
          exact ⟨S 29, S 28, true, fun hb => absurd hb.1 q, ⟨0, rfl, by simp only [cp_wd, if_neg q]; rfl⟩, by simp only [cp_wd, if_neg q]⟩)
