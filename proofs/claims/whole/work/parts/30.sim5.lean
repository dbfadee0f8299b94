/-! THE RELATION (hand text): a withdrawal, the mix -/
/-- what the mix that was found is on both sides -/
def pb_k (C M : ja_S) : Prop := ∃ tk : Nat → Nat, ∀ d, d < 4 → C 28 d = nI (tk d) ∧ M 52 d = nI (tk d) ∧ ∃ N, N ≤ 50 ∧ C 18 d = nI N ∧ tk d ≤ N
theorem sm_pay {C M : ja_S} {t k : Nat} (h : rr C M t k) (hk : pb_k C M) (x : Int32) : (cf_pay C x).1 = mf_pay M x 42 0 ∧ rr (cf_pay C x).2 (mf_pay M x) t k := by
  obtain ⟨hs, ho, hl, ha, ⟨v, n, hK, hM⟩, ht, hh, hp, hd⟩ := id h
  obtain ⟨tk, hk⟩ := hk
  have hle : ∀ d, d < 4 → tk d ≤ n d := fun d hd => by
    obtain ⟨_, _, N, n1, n2, n3⟩ := hk d hd
    have := (nI_eq (by omega) (by have := (hK d hd).2.2.2.2; omega)).mp (n2.symm.trans (hK d hd).2.1)
    omega
  have hC : pb_C (jb_u C 5 0 (-1)) v tk n := fun d hd => ⟨(hk d hd).1, (hK d hd).1, (hK d hd).2.1, hle d hd, (hK d hd).2.2.2.2, (hK d hd).2.2.2.1⟩
  have hM0 : pb_M (jb_u M 39 0 (-1)) 0 v tk n := fun d hd => ⟨(hM d hd).1, (hM d hd).2.1, (hM d hd).2.2.2.2, (hM d hd).2.2.2.1, tk d, Nat.le_trans (hle d hd) (hM d hd).2.2.2.2, (hk d hd).2.1, fun _ => rfl⟩
  have hb0 : ∀ d : Fin 4, mf_bit 0 d = 0 := by decide +kernel
  have s0 : ∀ d, d < 4 → tk d ≤ 50 := fun d hd => Nat.le_trans (hle d hd) (hM d hd).2.2.2.2
  have k0 := s0 0 (by omega)
  have k1 := s0 1 (by omega)
  have k2 := s0 2 (by omega)
  have k3 := s0 3 (by omega)
  have key : ∃ W L, cf_w C = nI W ∧ mf_w M = nI L ∧ W ≤ 1000 ∧ L ≤ 1000 ∧ (L = W - 0 ∨ (tk 0 + tk 1 + tk 2 + tk 3 ≤ L ∧ tk 0 + tk 1 + tk 2 + tk 3 ≤ W - 0)) := by
    unfold cf_w mf_w
    rw [hs.2.2.2.2.1]
    rcases hs.2.2.2.2.2.2.2 with q | ⟨J, j1, q⟩
    · rw [q]; exact ⟨200, 1000, by decide, by decide, by omega, by omega, Or.inr ⟨by omega, by omega⟩⟩
    · rw [q, if_neg (jp_m1n (by omega)), if_pos (nI_pos' (by omega))]; exact ⟨J, J, rfl, rfl, by omega, by omega, Or.inl rfl⟩
  obtain ⟨W, L, w1, w2, w3, w4, w5⟩ := key
  obtain ⟨z', C', M', n', q1, q2, q3⟩ := sm_pl 4 201 0 L W _ _ 0 0 v tk n 0 hC hM0 ⟨0, by omega, rfl, rfl⟩ rfl (fun d hd q => absurd (hb0 ⟨d, hd⟩) q) (by omega) w3 w4 w5 (by omega)
  rw [← w1] at q1
  rw [← w2] at q2
  have hCv : ∀ v, Nat.beq v 28 = false → Nat.beq v 18 = false → C' v = jb_u C 5 0 (-1) v := fun v a b => by
    have := jp_pl_v a b 201 (jb_u C 5 0 (-1)) 0 (cf_w C) 0
    rw [q1] at this; exact this
  have hMv : ∀ v, Nat.beq v 51 = false → M' v = jb_u M 39 0 (-1) v := fun v a => by
    have := mf_pl_v a 4 (jb_u M 39 0 (-1)) (mf_w M) 0 0
    rw [q2] at this; exact this
  have eC : cf_pay C x = (z', jb_u (jb_u (jb_u C' 7 0 x) 8 0 z') 6 0 (C' 6 0 + z')) := by unfold cf_pay; rw [q1]
  have ePQ : mf_pq M = (z', M') := q2
  have eM : mf_pay M x = jb_u (jb_u (jb_u M' 41 0 x) 42 0 z') 43 0 (M' 43 0 + z') := by unfold mf_pay; rw [ePQ]
  rw [eC, eM]
  clear eC eM ePQ q1 q2
  refine ⟨rfl, ?_, ?_, ?_, ?_, ⟨v, n', fun d hd => ?_, fun d hd => ?_⟩, ?_, ?_, ?_, ⟨rfl, rfl, ?_⟩⟩
  · unfold r_s
    show ((C' 0 0 = 0 ∧ M' 33 0 = 1) ∨ (C' 0 0 = 1 ∧ M' 33 0 = 0)) ∧ M' 34 0 = C' 1 0 ∧ M' 35 0 = C' 2 0 ∧ M' 40 0 = C' 3 0 ∧ M' 39 0 = C' 5 0 ∧ (C' 2 0 = 0 ∨ C' 2 0 = 1) ∧ (C' 1 0 = -1 → C' 2 0 = 0) ∧ (C' 5 0 = -1 ∨ ∃ J, J ≤ 100 ∧ C' 5 0 = nI J)
    rw [hCv 0 rfl rfl, hCv 1 rfl rfl, hCv 2 rfl rfl, hCv 3 rfl rfl, hCv 5 rfl rfl, hMv 33 rfl, hMv 34 rfl, hMv 35 rfl, hMv 40 rfl, hMv 39 rfl]
    exact ⟨hs.1, hs.2.1, hs.2.2.1, hs.2.2.2.1, rfl, hs.2.2.2.2.2.1, hs.2.2.2.2.2.2.1, Or.inl rfl⟩
  · unfold r_o
    show C' 1 0 = -1 ∨ ∃ j, j < 8 ∧ C' 1 0 = nI j ∧ ¬ C' 11 j = 0 ∧ C' 16 j = 0
    rw [hCv 1 rfl rfl, hCv 11 rfl rfl, hCv 16 rfl rfl]; exact ho
  · unfold r_l
    show ∃ n, n ≤ 8 ∧ C' 4 0 = nI n ∧ M' 38 0 = nI n ∧ ∀ i, i < n → M' 61 i = C' 27 i ∧ (C' 27 i = 0 ∨ C' 27 i = 1 ∨ C' 27 i = 2 ∨ C' 27 i = 3)
    rw [hCv 4 rfl rfl, hCv 27 rfl rfl, hMv 38 rfl, hMv 61 rfl]; exact hl
  · unfold r_a
    show ∀ j, j < 8 → M' 44 j = C' 11 j ∧ M' 45 j = C' 12 j ∧ M' 46 j = C' 13 j ∧ M' 47 j = C' 14 j ∧ M' 49 j = C' 16 j ∧ (C' 11 j = 0 → C' 15 j = 3 ∧ C' 16 j = 0) ∧ (¬ C' 11 j = 0 → M' 48 j = C' 15 j ∧ (C' 16 j = 0 → C' 15 j = 1 ∨ C' 15 j = 2 ∨ C' 15 j = 3))
    rw [hCv 11 rfl rfl, hCv 12 rfl rfl, hCv 13 rfl rfl, hCv 14 rfl rfl, hCv 15 rfl rfl, hCv 16 rfl rfl, hMv 44 rfl, hMv 45 rfl, hMv 46 rfl, hMv 47 rfl, hMv 48 rfl, hMv 49 rfl]; exact ha
  · show C' 17 d = nI (v d) ∧ C' 18 d = nI (n' d) ∧ 1 ≤ v d ∧ v d ≤ 500 ∧ n' d ≤ 50
    rw [hCv 17 rfl rfl]
    exact ⟨(hK d hd).1, (q3 d hd).1, (hK d hd).2.2.1, (hK d hd).2.2.2.1, (q3 d hd).2.2⟩
  · show M' 50 d = nI (v d) ∧ M' 51 d = nI (n' d) ∧ 1 ≤ v d ∧ v d ≤ 500 ∧ n' d ≤ 50
    rw [hMv 50 rfl]
    exact ⟨(hM d hd).1, (q3 d hd).2.1, (hK d hd).2.2.1, (hK d hd).2.2.2.1, (q3 d hd).2.2⟩
  · unfold r_t
    show t ≤ 40 ∧ C' 9 0 = nI t ∧ M' 36 0 = nI t ∧ (∀ e, e < t → M' 53 (e + 1) = C' 22 e ∧ M' 54 (e + 1) = C' 20 e ∧ M' 55 (e + 1) = C' 21 e ∧ ∃ j, j < 8 ∧ C' 20 e = nI j) ∧ ∀ e, e < 40 → M' 56 (e + 1) = C' 23 e ∧ C' 19 e = nI (e + 1)
    rw [hCv 9 rfl rfl, hCv 22 rfl rfl, hCv 20 rfl rfl, hCv 21 rfl rfl, hCv 23 rfl rfl, hCv 19 rfl rfl, hMv 36 rfl, hMv 53 rfl, hMv 54 rfl, hMv 55 rfl, hMv 56 rfl]; exact ht
  · unfold r_h
    show ∀ i, i < 41 → M' 58 i = C' 26 i ∧ ((C' 24 i = 0 ∧ M' 57 i = 0) ∨ (i ≤ t ∧ ((C' 24 i = 2 ∧ M' 57 i = 1 ∧ ∃ j, j < 8 ∧ C' 25 i = nI j ∧ M' 54 i = nI j) ∨ (C' 24 i = -1 ∧ M' 57 i = 2))))
    rw [hCv 26 rfl rfl, hCv 24 rfl rfl, hCv 25 rfl rfl, hMv 58 rfl, hMv 57 rfl, hMv 54 rfl]; exact hh
  · unfold r_p
    show C' 10 0 = nI k ∧ M' 37 0 = nI k ∧ k ≤ t ∧ (∀ e, t = e + 1 → C' 22 e = 1 ∨ C' 22 e = 2 → k < t) ∧ ∀ i, i < k → M' 59 i = C' 30 i ∧ M' 60 i = C' 31 i ∧ ∃ u, u < 41 ∧ C' 30 i = nI u
    rw [hCv 10 rfl rfl, hCv 22 rfl rfl, hCv 30 rfl rfl, hCv 31 rfl rfl, hMv 37 rfl, hMv 59 rfl, hMv 60 rfl]; exact hp
  · show M' 43 0 + z' = C' 6 0 + z'
    rw [hCv 6 rfl rfl, hMv 43 rfl]
    exact congrArg (· + z') hd.2.2
theorem pb_kc {C M C' M' : ja_S} (h : pb_k C M) (h1 : C' 28 = C 28) (h2 : C' 18 = C 18) (h3 : M' 52 = M 52) : pb_k C' M' := by
  unfold pb_k; rw [h1, h2, h3]; exact h
/-- the last entry is APPROVED -/
theorem sm_p2 {C M : ja_S} {e k : Nat} {x : Int32} (hp : r_p C M (e + 1) k) (hk : k < e + 1) : r_p (jb_u C 22 e x) M (e + 1) k := by
  obtain ⟨p1, p2, p3, p4, p5⟩ := hp
  exact ⟨p1, p2, p3, fun e' he q => by omega, p5⟩
theorem sm_pres {C M : ja_S} {e k : Nat} (h : rr C M (e + 1) k) (hk : k < e + 1) (hb : pb_k C M) : (cf_pres C e).1 = (mf_gv4 M (e + 1)).1 ∧ ∃ k', rr (cf_pres C e).2 (mf_gv4 M (e + 1)).2 (e + 1) k' := by
  obtain ⟨a1, a2⟩ := sm_cut h 3
  have hb1 : pb_k (cf_fail C 3).2 (mf_cut M 3).2 := pb_kc hb (jp_fail_v rfl rfl rfl rfl) (jp_fail_v rfl rfl rfl rfl) (mf_cut_v rfl rfl rfl rfl)
  unfold cf_pres mf_gv4
  by_cases z : (cf_fail C 3).1 = 0
  · rw [if_pos z, if_pos (a1.symm.trans z)]
    have h19 : (cf_fail C 3).2 19 e = nI (e + 1) := (a2.2.2.2.2.2.1.2.2.2.2 e (by have := a2.2.2.2.2.2.1.1; omega)).2
    rw [h19]
    obtain ⟨b1, b2⟩ := sm_pay a2 hb1 (nI (e + 1))
    obtain ⟨c1, c2⟩ := sm_cut b2 4
    unfold cf_pr2 mf_gv5
    by_cases y : (cf_fail (cf_pay (cf_fail C 3).2 (nI (e + 1))).2 4).1 = 0
    · rw [if_pos y, if_pos (c1.symm.trans y)]
      have e42 : (mf_cut (mf_pay (mf_cut M 3).2 (nI (e + 1))) 4).2 42 0 = (cf_pay (cf_fail C 3).2 (nI (e + 1))).1 := by rw [mf_cut_v rfl rfl rfl rfl]; exact b1.symm
      rw [e42]
      refine ⟨?_, sm_fin c2 hk _⟩
      show _ = mf_fin _ _ _ 42 0
      rw [mf_fin_v rfl rfl rfl rfl rfl, e42]
    · rw [if_neg y, if_neg (fun q => y (c1.trans q))]
      exact ⟨rfl, k, c2⟩
  · rw [if_neg z, if_neg (fun q => z (a1.trans q))]
    exact ⟨rfl, k, a2⟩
theorem sm_g35 {C2 M2 : ja_S} {e k : Nat} {f : Int32} (r1 : rr C2 M2 (e + 1) k) (r2 : (C2 24 (e + 1) = 2 ∧ M2 57 (e + 1) = 1) ∨ (C2 24 (e + 1) = -1 ∧ M2 57 (e + 1) = 2)) (hbq : pb_k C2 M2) (hk : k < e + 1) (n12 : ¬ (f = 1 ∨ f = 2)) :
    (cf_rq1 (if C2 24 (e + 1) = 2 then 2 else -1, C2) e).1 = (mf_gv3 f M2 (e + 1)).1 ∧ ∃ k', rr (cf_rq1 (if C2 24 (e + 1) = 2 then 2 else -1, C2) e).2 (mf_gv3 f M2 (e + 1)).2 (e + 1) k' := by
  unfold mf_gv3
  rw [if_neg n12]
  rcases r2 with ⟨y1, y2⟩ | ⟨y1, y2⟩
  · rw [if_pos y1, if_neg (show ¬ M2 57 (e + 1) = 2 by rw [y2]; decide)]
    unfold cf_rq1
    obtain ⟨c1, c2⟩ := sm_cut r1 2
    show (if (cf_fail C2 2).1 = 0 then cf_pres (jb_u (cf_fail C2 2).2 22 e 2) e else (-3, (cf_fail C2 2).2)).1 = _ ∧ ∃ k', rr (if (cf_fail C2 2).1 = 0 then cf_pres (jb_u (cf_fail C2 2).2 22 e 2) e else (-3, (cf_fail C2 2).2)).2 _ _ k'
    by_cases w : (cf_fail C2 2).1 = 0
    · rw [if_pos w, if_pos (c1.symm.trans w)]
      obtain ⟨hs, ho, hl, ha, hc, ht, hh, hp, hd⟩ := id c2
      exact sm_pres ⟨hs, ho, hl, ha, hc, sm_st ht, hh, sm_p2 hp hk, hd⟩ hk (pb_kc hbq (jp_fail_v (C := C2) rfl rfl rfl rfl) (jp_fail_v (C := C2) rfl rfl rfl rfl) (mf_cut_v (M := M2) rfl rfl rfl rfl))
    · rw [if_neg w, if_neg (fun q => w (c1.trans q))]
      exact ⟨rfl, k, c2⟩
  · rw [if_neg (show ¬ C2 24 (e + 1) = 2 by rw [y1]; decide), if_pos y2]
    obtain ⟨hs, ho, hl, ha, hc, ht, hh, hp, hd⟩ := id r1
    exact ⟨rfl, k, hs, ho, hl, ha, hc, sm_st ht, hh, sm_ps hp (by decide) (by decide), hd⟩
theorem sm_rqst {C M : ja_S} {e j k : Nat} (h : rr C M (e + 1) k) (hk : k < e + 1) (hj : j < 8) (h20 : C 20 e = nI j) (hb : pb_k C M) : (cf_rqst C e j).1 = (mf_give M (e + 1) j).1 ∧ ∃ k', rr (cf_rqst C e j).2 (mf_give M (e + 1) j).2 (e + 1) k' := by
  obtain ⟨a1, a2⟩ := sm_cut h 1
  unfold cf_rqst mf_give
  by_cases z : (cf_fail C 1).1 = 0
  · rw [if_pos z, if_pos (a1.symm.trans z)]
    have hb1 : pb_k (cf_fail C 1).2 (mf_cut M 1).2 := pb_kc hb (jp_fail_v rfl rfl rfl rfl) (jp_fail_v rfl rfl rfl rfl) (mf_cut_v rfl rfl rfl rfl)
    have g20 : (cf_fail C 1).2 20 e = nI j := by rw [jp_fail_v rfl rfl rfl rfl]; exact h20
    generalize (cf_fail C 1).2 = C1 at *
    generalize (mf_cut M 1).2 = M1 at *
    obtain ⟨f1, f2, f3⟩ := sm_fate a2
    have g20' : (cf_fate C1).2 20 e = nI j := by rw [jp_fate_v rfl rfl]; exact g20
    have e21 : (cf_fate C1).2 21 e = C1 21 e := by rw [jp_fate_v rfl rfl]
    obtain ⟨r1, r2⟩ := sm_req f3 hj g20'
    rw [e21] at r1 r2
    have hbq : pb_k (cf_rq (cf_fate C1).2 (e + 1) j (C1 21 e)) (mf_req (mf_fate M1).2 (e + 1) j) := pb_kc hb1 (by rw [jp_rq_v rfl rfl rfl, jp_fate_v rfl rfl]) (by rw [jp_rq_v rfl rfl rfl, jp_fate_v rfl rfl]) (by rw [mf_req_v rfl rfl, mf_fate_v rfl rfl])
    have exr : ¬ (cf_fate C1).1 = 1 → ¬ (cf_fate C1).1 = 2 → cf_xr C1 e j = (if cf_rq (cf_fate C1).2 (e + 1) j (C1 21 e) 24 (e + 1) = 2 then 2 else -1, cf_rq (cf_fate C1).2 (e + 1) j (C1 21 e)) := fun n1 n2 => by
      unfold cf_xr cf_req
      rw [if_neg n1, if_neg n2, cf_rq2]
      have i1 : ∀ X : ja_S, (if (cf_fate C1).1 = 3 then X else X) = X := fun X => by split <;> rfl
      rw [i1]
      by_cases w : cf_rq (cf_fate C1).2 (e + 1) j (C1 21 e) 24 (e + 1) = 2
      · simp only [if_pos w]; rfl
      · simp only [if_neg w]; rfl
    unfold mf_gv2
    rw [← f1]
    rcases f2 with y | y | y | y
    · have n1 : ¬ (cf_fate C1).1 = 1 := by rw [y]; decide
      have n2 : ¬ (cf_fate C1).1 = 2 := by rw [y]; decide
      rw [exr n1 n2, if_neg n1]
      exact sm_g35 r1 r2 hbq hk (fun q => q.elim n1 n2)
    · have ex : cf_xr C1 e j = (-2, (cf_fate C1).2) := by unfold cf_xr; rw [if_pos y]
      rw [ex, if_pos y]
      unfold mf_gv3
      rw [if_pos (Or.inl y)]
      exact ⟨rfl, k + 1, sm_give f3 hk⟩
    · have n1 : ¬ (cf_fate C1).1 = 1 := by rw [y]; decide
      have ex : cf_xr C1 e j = (-2, cf_rq (cf_fate C1).2 (e + 1) j (C1 21 e)) := by unfold cf_xr; rw [if_neg n1, if_pos y]
      rw [ex, if_neg n1]
      unfold mf_gv3
      rw [if_pos (Or.inr y)]
      exact ⟨rfl, k + 1, sm_give r1 hk⟩
    · have n1 : ¬ (cf_fate C1).1 = 1 := by rw [y]; decide
      have n2 : ¬ (cf_fate C1).1 = 2 := by rw [y]; decide
      rw [exr n1 n2, if_neg n1]
      exact sm_g35 r1 r2 hbq hk (fun q => q.elim n1 n2)
  · rw [if_neg z, if_neg (fun q => z (a1.trans q))]
    exact ⟨rfl, k, a2⟩
theorem sm_fdx {v n : Nat → Nat} {A : Nat} {g g' : Nat → Int32} {x x' : Bool} (h : cq_fd v n A g x) (h' : cq_fd v n A g' x') : x = x' ∧ (x = true → ∃ t, jm_mx v n A t ∧ (∀ i, i < 4 → g i = nI (t i)) ∧ ∀ i, i < 4 → g' i = nI (t i)) := by
  rcases h with ⟨rfl, t, h1, h2⟩ | ⟨rfl, h1⟩
  · rcases h' with ⟨rfl, t', h3, h4⟩ | ⟨rfl, h3⟩
    · exact ⟨rfl, fun _ => ⟨t, h1.1, h2, fun i hi => by rw [h4 i hi, jm_one h3 h1 i hi]⟩⟩
    · exact absurd h1.1 (h3 t)
  · rcases h' with ⟨rfl, t', h3, h4⟩ | ⟨rfl, h3⟩
    · exact absurd h3.1 (h1 t')
    · exact ⟨rfl, fun q => absurd q (by decide)⟩
theorem sm_mix {C M : ja_S} {t k : Nat} (h : rr C M t k) {v n : Nat → Nat} (a b : Int32) {f g g' : Nat → Int32} {x x' : Bool} (h1 : jp_in a 0 3 ∧ jp_in b 1 5000 → cq_fd v n b.toNatClampNeg g x) (h2 : jp_in a 0 3 ∧ jp_in b 1 5000 → cq_fd v n b.toNatClampNeg g' x') : sm_q (cp_mix C a b f g x) (mp_mix M a b g' x') := by
  unfold cp_mix mp_mix
  by_cases z : jp_in a 0 3 ∧ jp_in b 1 5000
  · rw [if_pos z, if_pos z]
    obtain ⟨rfl, q⟩ := sm_fdx (h1 z) (h2 z)
    cases x with
    | false => exact ⟨rfl, fun _ => rfl, ⟨t, k, h⟩, rfl⟩
    | true =>
      obtain ⟨tk, q1, q2, q3⟩ := q rfl
      obtain ⟨j, hj, rfl⟩ := jp_in_nI (n := 3) (by decide) z.1
      refine ⟨rfl, fun _ => ?_, ⟨t, k, h⟩, rfl⟩
      show g (nI j).toNatClampNeg = g' (nI j).toNatClampNeg
      rw [nI_clamp (show j < 2 ^ 31 by omega), q2 j (by omega), q3 j (by omega)]
  · rw [if_neg z, if_neg z]; exact sm_f h 1
theorem sm_beg {C M : ja_S} {t k j : Nat} {b : Int32} (h : rr C M t k) (ht4 : t < 40) (hj : j < 8) : rr (cf_beg C t j b) (mf_beg M t j b) (t + 1) k := by
  obtain ⟨hs, ho, hl, ha, hc, ⟨t1, t2, t3, t4, t5⟩, hh, ⟨p1, p2, p3, p4, p5⟩, hd⟩ := id h
  refine ⟨hs, ho, hl, ha, hc, ⟨by omega, rfl, rfl, fun e he => ?_, t5⟩, fun i hi => ?_, ⟨p1, p2, by omega, fun e he q => by omega, p5⟩, hd⟩
  · show upd (M 53) (t + 1) 1 (e + 1) = upd (C 22) t 1 e ∧ upd (M 54) (t + 1) (nI j) (e + 1) = upd (C 20) t (nI j) e ∧ upd (M 55) (t + 1) b (e + 1) = upd (C 21) t b e ∧ ∃ j', j' < 8 ∧ upd (C 20) t (nI j) e = nI j'
    by_cases y : e = t
    · subst y; rw [pk_us, pk_us, pk_us, pk_us, pk_us, pk_us]; exact ⟨rfl, rfl, rfl, j, hj, rfl⟩
    · rw [pk_un y, pk_un y, pk_un y, pk_un (by omega), pk_un (by omega), pk_un (by omega)]; exact t4 e (by omega)
  · obtain ⟨u1, u2⟩ := hh i hi
    refine ⟨u1, ?_⟩
    rcases u2 with u2 | ⟨u3, u4⟩
    · exact Or.inl u2
    · refine Or.inr ⟨by omega, ?_⟩
      rcases u4 with ⟨w1, w2, j', w3, w4, w5⟩ | w
      · refine Or.inl ⟨w1, w2, j', w3, w4, ?_⟩
        show upd (M 54) (t + 1) (nI j) i = nI j'
        rw [pk_un (by omega)]; exact w5
      · exact Or.inr w
theorem mf_give_v {M : ja_S} {t j v : Nat} (h1 : Nat.beq v 40 = false) (h2 : Nat.beq v 33 = false) (h3 : Nat.beq v 34 = false) (h4 : Nat.beq v 35 = false) (h5 : Nat.beq v 38 = false) (h6 : Nat.beq v 61 = false) (h7 : Nat.beq v 57 = false) (h8 : Nat.beq v 47 = false) (h9 : Nat.beq v 59 = false) (h10 : Nat.beq v 60 = false) (h11 : Nat.beq v 37 = false) (h12 : Nat.beq v 53 = false) (h13 : Nat.beq v 56 = false) (h14 : Nat.beq v 51 = false) (h15 : Nat.beq v 39 = false) (h16 : Nat.beq v 41 = false) (h17 : Nat.beq v 42 = false) (h18 : Nat.beq v 43 = false) : (mf_give M t j).2 v = M v := by
  have cu : ∀ (X : ja_S) (p : Int32), (mf_cut X p).2 v = X v := fun X p => mf_cut_v h1 h2 h3 h4
  have ju : ∀ (X : ja_S) (x : Int32), jb_u X 53 t x v = X v := fun X x => by simp only [jb_u, jb_sv, h12, cond_false]
  have g5 : ∀ X : ja_S, (mf_gv5 X t).2 v = X v := fun X => by
    unfold mf_gv5; split
    · show mf_fin _ _ _ v = _
      rw [mf_fin_v h9 h10 h11 h12 h13, cu]
    · exact cu X 4
  have g4 : ∀ X : ja_S, (mf_gv4 X t).2 v = X v := fun X => by
    unfold mf_gv4; split
    · rw [g5, mf_pay_v h14 h15 h16 h17 h18, cu]
    · exact cu X 3
  have g3 : ∀ (f : Int32) (X : ja_S), (mf_gv3 f X t).2 v = X v := fun f X => by
    unfold mf_gv3; split
    · show mf_owe _ _ _ v = _
      rw [mf_owe_v h9 h10 h11, ju]
    · split
      · exact ju X 4
      · split
        · rw [g4, ju, cu]
        · exact cu X 2
  unfold mf_give; split
  · unfold mf_gv2
    rw [g3]
    by_cases z : (mf_fate (mf_cut M 1).2).1 = 1
    · rw [if_pos z, mf_fate_v h5 h6, cu]
    · rw [if_neg z, mf_req_v h7 h8, mf_fate_v h5 h6, cu]
  · exact cu M 1
theorem sm_wd {C M : ja_S} {t k j : Nat} (h : rr C M t k) {v n : Nat → Nat} (hK : jm_K C v n) (hj : j < 8) (hs1 : C 1 0 = -1 ∨ C 1 0 = nI j) (b : Int32) {f g g' : Nat → Int32} {x x' : Bool} (h1 : (¬ C 1 0 = -1 ∧ ¬ C 2 0 = 0) ∧ jp_in b 1 5000 → cq_fd v n b.toNatClampNeg g x) (h2 : (¬ M 34 0 < 0 ∧ ¬ M 35 0 = 0) ∧ jp_in b 1 5000 → cq_fd v n b.toNatClampNeg g' x') : sm_q (cp_wd C t j b f g x) (mp_wd M t j b g' x') := by
  unfold cp_wd mp_wd
  obtain ⟨hs, ho, hl, ha, hc, ht, hh, hp, hd⟩ := id h
  have t1 := ht.1
  have e1 : (¬ C 1 0 = -1 ∧ ¬ C 2 0 = 0) ↔ (¬ M 34 0 < 0 ∧ ¬ M 35 0 = 0) := by rw [r_os hs ho, hs.2.2.1]
  by_cases i4 : ¬ C 1 0 = -1 ∧ ¬ C 2 0 = 0
  · rw [if_pos i4, if_pos (e1.mp i4)]
    by_cases z : jp_in b 1 5000
    · rw [if_pos z, if_pos z]
      obtain ⟨rfl, q⟩ := sm_fdx (h1 ⟨i4, z⟩) (h2 ⟨e1.mp i4, z⟩)
      cases x with
      | false => exact ⟨rfl, fun _ => rfl, ⟨t, k, h⟩, rfl⟩
      | true =>
        obtain ⟨tk, q1, q2, q3⟩ := q rfl
        simp only [if_true]
        rw [ht.2.1, ht.2.2.1]
        rcases Nat.lt_or_ge t 40 with y | y
        · rw [if_pos (show nI t < 40 from nI_lt (b := 40) y (by omega)), if_neg (show ¬ nI t = 40 from fun w => absurd ((nI_eq (b := 40) (by omega) (by omega)).mp w) (by omega))]
          have hb : rr (cf_beg (jb_sv (jb_sv C 29 f) 28 g) t j b) (mf_beg (jb_sv (mk_z M) 52 g') t j b) (t + 1) k := sm_beg (C := jb_sv (jb_sv C 29 f) 28 g) (M := jb_sv (mk_z M) 52 g') h y hj
          obtain ⟨w1, k', w2⟩ := sm_rqst (j := j) hb (by have := hp.2.2.1; omega) hj (by show upd (C 20) t (nI j) t = _; rw [pk_us]) ⟨tk, fun d hd => ⟨q2 d hd, q3 d hd, n d, (hK d hd).2.2.2.2, (hK d hd).2.1, q1.1 d hd⟩⟩
          refine ⟨rfl, fun _ => w1, ⟨t + 1, k', w2⟩, ?_⟩
          show (mf_give _ _ _).2 32 0 = 0
          rw [mf_give_v rfl rfl rfl rfl rfl rfl rfl rfl rfl rfl rfl rfl rfl rfl rfl rfl rfl rfl]; rfl
        · have e40 : t = 40 := by omega
          subst e40
          rw [if_neg (show ¬ nI 40 < 40 by decide), if_pos (show nI 40 = 40 from rfl)]
          exact ⟨rfl, fun _ => rfl, ⟨40, k, h⟩, rfl⟩
    · rw [if_neg z, if_neg z]; exact sm_f h 2
  · rw [if_neg i4, if_neg (fun q => i4 (e1.mpr q))]; exact sm_f h 1
