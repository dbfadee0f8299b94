/-! THE RELATION (hand text): settling. What lies behind without the pending reversals, then the loops side by side -/
def r9 (C M : ja_S) (t : Nat) : Prop := r_s C M ∧ r_o C ∧ r_l C M ∧ r_a C M ∧ r_c C M ∧ r_t C M t ∧ r_h C M t ∧ r_d C M
theorem rr9 {C M : ja_S} {t k : Nat} (h : rr C M t k) : r9 C M t := ⟨h.1, h.2.1, h.2.2.1, h.2.2.2.1, h.2.2.2.2.1, h.2.2.2.2.2.1, h.2.2.2.2.2.2.1, h.2.2.2.2.2.2.2.2⟩
theorem r9r {C M : ja_S} {t k : Nat} (h : r9 C M t) (p : r_p C M t k) : rr C M t k := ⟨h.1, h.2.1, h.2.2.1, h.2.2.2.1, h.2.2.2.2.1, h.2.2.2.2.2.1, h.2.2.2.2.2.2.1, p, h.2.2.2.2.2.2.2⟩
theorem sm_fate9 {C M : ja_S} {t : Nat} (h : r9 C M t) : (cf_fate C).1 = (mf_fate M).1 ∧ ((cf_fate C).1 = 0 ∨ (cf_fate C).1 = 1 ∨ (cf_fate C).1 = 2 ∨ (cf_fate C).1 = 3) ∧ r9 (cf_fate C).2 (mf_fate M).2 t := by
  obtain ⟨hs, ho, hl, ha, hc, ht, hh, hd⟩ := id h
  obtain ⟨n, hn, h4, h38, hf⟩ := hl
  unfold cf_fate mf_fate
  by_cases z : n = 0
  · subst z
    rw [if_pos (show C 4 0 = 0 from h4), if_pos (show M 38 0 = 0 from h38)]
    exact ⟨rfl, Or.inl rfl, h⟩
  · have z0 : ¬ nI n = 0 := nI_ne0 (by omega) (by omega)
    rw [if_neg (show ¬ C 4 0 = 0 by rw [h4]; exact z0), if_neg (show ¬ M 38 0 = 0 by rw [h38]; exact z0), h4, h38, nI_clamp (show n < 2 ^ 31 by omega), jp_m1 (by omega)]
    refine ⟨(hf 0 (by omega)).1.symm, (hf 0 (by omega)).2, hs, ho, ⟨n - 1, by omega, rfl, rfl, fun i hi => ?_⟩, ha, hc, ht, hh, hd⟩
    show mf_dn (M 61) (n - 1) i = va_cpy (C 27) (C 27) 1 0 (n - 1) i ∧ (va_cpy (C 27) (C 27) 1 0 (n - 1) i = 0 ∨ va_cpy (C 27) (C 27) 1 0 (n - 1) i = 1 ∨ va_cpy (C 27) (C 27) 1 0 (n - 1) i = 2 ∨ va_cpy (C 27) (C 27) 1 0 (n - 1) i = 3)
    rw [pk_cpy_in (by omega) (by omega), mf_dn, if_pos hi, show 1 + (i - 0) = i + 1 by omega]
    exact hf (i + 1) (by omega)
theorem sm_rev9 {C M : ja_S} {t u : Nat} {x : Int32} (h : r9 C M t) (hu : u < 41) : r9 (cf_rev C u x) (mf_rev M u x) t := by
  obtain ⟨hs, ho, hl, ha, hc, ht, hh, hd⟩ := id h
  obtain ⟨u1, u2⟩ := hh u hu
  have hh' : ∀ (C1 M1 : ja_S), C1 26 = C 26 → C1 24 = C 24 → C1 25 = C 25 → M1 58 = M 58 → M1 57 = M 57 → M1 54 = M 54 → r_h (jb_u C1 26 u 1) (jb_u M1 58 u 1) t := by
    intro C1 M1 d1 d2 d3 d4 d5 d6 i hi
    show upd (M1 58) u 1 i = upd (C1 26) u 1 i ∧ ((C1 24 i = 0 ∧ M1 57 i = 0) ∨ (i ≤ t ∧ ((C1 24 i = 2 ∧ M1 57 i = 1 ∧ ∃ j, j < 8 ∧ C1 25 i = nI j ∧ M1 54 i = nI j) ∨ (C1 24 i = -1 ∧ M1 57 i = 2))))
    rw [d1, d2, d3, d4, d5, d6]
    refine ⟨?_, (hh i hi).2⟩
    by_cases y : i = u
    · subst y; rw [pk_us, pk_us]
    · rw [pk_un y, pk_un y]; exact (hh i hi).1
  unfold cf_rev mf_rev
  rw [u1]
  by_cases w : C 26 u = 0 ∧ C 24 u = 2
  · rcases u2 with ⟨y, _⟩ | ⟨_, ⟨y1, y2, j, hj, y3, y4⟩ | ⟨y, _⟩⟩
    · rw [w.2] at y; exact absurd y (by decide)
    · rw [if_pos w, if_pos (show C 26 u = 0 ∧ M 57 u = 1 from ⟨w.1, y2⟩), y3, y4, nI_clamp (show j < 2 ^ 31 by omega), (ha j hj).2.2.2.1]
      refine ⟨hs, ho, hl, ?_, hc, ht, ?_, hd⟩
      · exact sm_ab (C := C) (M := M) ha
      · exact hh' (jb_u C 14 j (C 14 j + x)) (jb_u M 47 j (C 14 j + x)) rfl rfl rfl rfl rfl rfl
    · rw [w.2] at y; exact absurd y (by decide)
  · have w' : ¬ (C 26 u = 0 ∧ M 57 u = 1) := fun q => by
      rcases u2 with ⟨_, y⟩ | ⟨_, ⟨y1, y2, j, hj, y3, y4⟩ | ⟨_, y⟩⟩
      · rw [q.2] at y; exact absurd y (by decide)
      · exact w ⟨q.1, y1⟩
      · rw [q.2] at y; exact absurd y (by decide)
    rw [if_neg w, if_neg w']
    exact ⟨hs, ho, hl, ha, hc, ht, hh' C M rfl rfl rfl rfl rfl rfl, hd⟩
/-- i of the k pending ones have been settled: the reference has dropped them, the class not yet -/
def r_pi (C M : ja_S) (t k i : Nat) : Prop := C 10 0 = nI k ∧ M 37 0 = nI (k - i) ∧ i ≤ k ∧ k ≤ t ∧ (∀ e, t = e + 1 → C 22 e = 1 ∨ C 22 e = 2 → k < t) ∧ ∀ x, x + i < k → M 59 x = C 30 (x + i) ∧ M 60 x = C 31 (x + i) ∧ ∃ u, u < 41 ∧ C 30 (x + i) = nI u
theorem cf_xv_v {C : ja_S} {t v : Nat} {x : Int32} (h4 : Nat.beq v 4 = false) (h27 : Nat.beq v 27 = false) (h14 : Nat.beq v 14 = false) (h26 : Nat.beq v 26 = false) : (cf_xv C t x).2 v = C v := jp_xv_v h4 h27 h14 h26
theorem sm_xv {C M : ja_S} {t k i : Nat} (h : r9 C M t) (p : r_pi C M t k i) (hi : i < k) :
    r9 (cf_xv C (C 30 i).toNatClampNeg (C 31 i)).2 (mf_xv M) t ∧ ((cf_xv C (C 30 i).toNatClampNeg (C 31 i)).1 = 0 ↔ ¬ ((mf_fate M).1 = 0 ∨ (mf_fate M).1 = 3)) := by
  obtain ⟨p1, p2, p3, p4, p5, p6⟩ := p
  obtain ⟨q1, q2, u, hu, q3⟩ := p6 0 (by omega)
  rw [Nat.zero_add] at q1 q2 q3
  obtain ⟨f1, f2, f3⟩ := sm_fate9 h
  have e1 : (C 30 i).toNatClampNeg = u := by rw [q3]; exact nI_clamp (by omega)
  unfold cf_xv mf_xv
  rw [← f1, q1, q2, e1]
  rcases f2 with z | z | z | z
  · rw [if_neg (show ¬ (cf_fate C).1 = 1 by rw [z]; decide), if_neg (show ¬ (cf_fate C).1 = 1 by rw [z]; decide)]
    simp only [z]
    exact ⟨sm_rev9 f3 hu, by decide⟩
  · rw [if_pos z, if_pos z]
    simp only [z]
    exact ⟨f3, by decide⟩
  · rw [if_neg (show ¬ (cf_fate C).1 = 1 by rw [z]; decide), if_neg (show ¬ (cf_fate C).1 = 1 by rw [z]; decide)]
    simp only [z]
    exact ⟨sm_rev9 f3 hu, by decide⟩
  · rw [if_neg (show ¬ (cf_fate C).1 = 1 by rw [z]; decide), if_neg (show ¬ (cf_fate C).1 = 1 by rw [z]; decide)]
    simp only [z]
    refine ⟨?_, by decide⟩
    show r9 (cf_rev (cf_rev (cf_fate C).2 u (C 31 i)) u (C 31 i)) _ t
    rw [cf_rev2]
    exact sm_rev9 f3 hu
theorem sm_stl : ∀ (fC fM : Nat) (C M : ja_S) (t k i : Nat), r9 C M t → r_pi C M t k i → k - i < fC → k - i < fM →
    ∃ d C' M', cf_stl fC C i = (d, C') ∧ mf_stl fM M i = (d, M') ∧ r9 C' M' t ∧ r_pi C' M' t k d ∧ M' 32 = M 32
  | 0, _, _, _, _, _, _, _, _, h, _ => absurd h (by omega)
  | _, 0, _, _, _, _, _, _, _, _, h => absurd h (by omega)
  | fC + 1, fM + 1, C, M, t, k, i, h, p, h1, h2 => by
    obtain ⟨p1, p2, p3, p4, p5, p6⟩ := id p
    have ht4 := h.2.2.2.2.2.1.1
    rcases Nat.lt_or_ge i k with z | z
    · obtain ⟨s1, s2⟩ := sm_xv h p z
      obtain ⟨X, eX⟩ : ∃ X, cf_xv C (C 30 i).toNatClampNeg (C 31 i) = X := ⟨_, rfl⟩
      obtain ⟨Y, eY⟩ : ∃ Y, mf_xv M = Y := ⟨_, rfl⟩
      have hX : ∀ v, Nat.beq v 4 = false → Nat.beq v 27 = false → Nat.beq v 14 = false → Nat.beq v 26 = false → X.2 v = C v := fun v a b c d => by rw [← eX]; exact cf_xv_v a b c d
      have hY : ∀ v, Nat.beq v 38 = false → Nat.beq v 61 = false → Nat.beq v 47 = false → Nat.beq v 58 = false → Y v = M v := fun v a b c d => by rw [← eY]; exact mf_xv_v a b c d
      have e1 : cf_stl (fC + 1) C i = if X.1 = 0 then (i, X.2) else cf_stl fC X.2 (i + 1) := by
        rw [cf_stl, if_pos (show nI i < C 10 0 by rw [p1]; exact nI_lt z (by omega)), eX]
      have e2 : mf_stl (fM + 1) M i = if (mf_fate M).1 = 0 ∨ (mf_fate M).1 = 3 then mf_stl fM (mf_sh Y) (i + 1) else (i, Y) := by
        rw [mf_stl, if_neg (show ¬ M 37 0 ≤ 0 by rw [p2]; exact nI_nle (by omega) (by omega)), eY]
      rw [eX, eY] at s1
      rw [eX] at s2
      have pX : r_pi X.2 Y t k i := by
        unfold r_pi
        rw [hX 10 rfl rfl rfl rfl, hX 22 rfl rfl rfl rfl, hX 30 rfl rfl rfl rfl, hX 31 rfl rfl rfl rfl, hY 37 rfl rfl rfl rfl, hY 59 rfl rfl rfl rfl, hY 60 rfl rfl rfl rfl]
        exact p
      by_cases y : X.1 = 0
      · rw [e1, e2, if_pos y, if_neg (s2.mp y)]
        exact ⟨i, X.2, Y, rfl, rfl, s1, pX, hY 32 rfl rfl rfl rfl⟩
      · have y' : (mf_fate M).1 = 0 ∨ (mf_fate M).1 = 3 := Classical.byContradiction fun q => y (s2.mpr q)
        rw [e1, e2, if_neg y, if_pos y']
        have y37 : Y 37 0 = nI (k - i) := by rw [hY 37 rfl rfl rfl rfl]; exact p2
        have pS : r_pi X.2 (mf_sh Y) t k (i + 1) := by
          obtain ⟨p1, p2, p3, p4, p5, p6⟩ := pX
          refine ⟨p1, ?_, by omega, p4, p5, fun x hx => ?_⟩
          · show upd (Y 37) 0 (Y 37 0 - 1) 0 = _
            rw [pk_us, y37, jp_m1 (by omega), show k - i - 1 = k - (i + 1) by omega]
          · have q := p6 (x + 1) (by omega)
            rw [show x + 1 + i = x + (i + 1) by omega] at q
            show mf_dn (Y 59) ((Y 37 0).toNatClampNeg - 1) x = _ ∧ mf_dn (Y 60) ((Y 37 0).toNatClampNeg - 1) x = _ ∧ _
            rw [y37, nI_clamp (show k - i < 2 ^ 31 by omega), mf_dn, mf_dn, if_pos (by omega), if_pos (by omega)]
            exact q
        obtain ⟨d, C', M', z1, z2, z3, z4, z5⟩ := sm_stl fC fM X.2 (mf_sh Y) t k (i + 1) s1 pS (by omega) (by omega)
        exact ⟨d, C', M', z1, z2, z3, z4, z5.trans (hY 32 rfl rfl rfl rfl)⟩
    · have e1 : cf_stl (fC + 1) C i = (i, C) := by
        rw [cf_stl, if_neg (show ¬ nI i < C 10 0 by rw [p1]; exact nI_nlt z (by omega))]
      have e2 : mf_stl (fM + 1) M i = (i, M) := by
        rw [mf_stl, if_pos (show M 37 0 ≤ 0 by rw [p2, show k - i = 0 by omega]; decide)]
      exact ⟨i, C, M, e1, e2, h, p, rfl⟩
theorem sm_settle {C M : ja_S} {t k : Nat} (h : rr C M t k) : sm_q (cp_stl C) (mp_stl M) := by
  unfold cp_stl mp_stl
  obtain ⟨hs, ho, hl, ha, hc, ht, hh, hp, hd⟩ := id h
  have t1 := ht.1
  have pk := hp.2.2.1
  rcases hs.1 with ⟨z1, z2⟩ | ⟨z1, z2⟩
  · rw [if_pos z1, if_neg (show ¬ M 33 0 = 0 by rw [z2]; decide)]; exact sm_f h 1
  · obtain ⟨d, C', M', e1, e2, h9, ⟨p1, p2, p3, p4, p5, p6⟩, e3⟩ := sm_stl 41 81 C (mk_z M) t k 0 (rr9 h) ⟨hp.1, hp.2.1, by omega, pk, hp.2.2.2.1, hp.2.2.2.2⟩ (by omega) (by omega)
    rw [if_neg (show ¬ C 0 0 = 0 by rw [z1]; decide), if_pos z2, e1, e2, hp.1, nI_clamp (show k < 2 ^ 31 by omega)]
    refine ⟨rfl, fun _ => rfl, ⟨t, k - d, r9r h9 ⟨rfl, p2, by omega, fun e he q => ?_, fun x hx => ?_⟩⟩, by show M' 32 0 = 0; rw [e3]; rfl⟩
    · have := p5 e he q
      omega
    · show M' 59 x = va_cpy (C' 30) (C' 30) d 0 (k - d) x ∧ M' 60 x = va_cpy (C' 31) (C' 31) d 0 (k - d) x ∧ ∃ u, u < 41 ∧ va_cpy (C' 30) (C' 30) d 0 (k - d) x = nI u
      rw [pk_cpy_in (by omega) (by omega), pk_cpy_in (by omega) (by omega), show d + (x - 0) = x + d by omega]
      exact p6 x (by omega)
