/-! THE RELATION, step by step (hand text): pin, power failure, fate, request, reversal, owing, boot -/
theorem sm_pin {C M : ja_S} {t k : Nat} (h : rr C M t k) (x : Int32) : sm_q (cp_pin C x) (mp_pin M x) := by
  unfold cp_pin mp_pin
  obtain ⟨hs, ho, hl, ha, hc, ht, hh, hp, hd⟩ := id h
  have e1 : (¬ C 1 0 = -1 ∧ C 2 0 = 0) ↔ (¬ M 34 0 < 0 ∧ M 35 0 = 0) := by rw [r_os hs ho, hs.2.2.1]
  by_cases i4 : ¬ C 1 0 = -1 ∧ C 2 0 = 0
  · rw [if_pos i4, if_pos (e1.mp i4)]
    obtain ⟨j, hj, hj1, h11, h16⟩ := ho.resolve_left i4.1
    have hm34 : M 34 0 = nI j := hs.2.1.trans hj1
    rw [hj1, hm34, nI_clamp (show j < 2 ^ 31 by omega)]
    obtain ⟨f1, f2, f3, f4, f5, f6, f7⟩ := ha j hj
    obtain ⟨f8, f9⟩ := f7 h11
    have hne : ¬ C 1 0 = -1 := i4.1
    by_cases z : x = C 12 j
    · have e2 : cf_pin C j x = jb_u (jb_u C 15 j 3) 2 0 1 := by simp only [cf_pin, cf_try, if_pos z]
      have e3 : mf_pin M j x = (3, jb_u (jb_u (mk_z M) 35 0 1) 48 j 3) := by rw [mf_pin, if_pos (z.trans f2.symm)]
      rw [e2, e3, if_pos (show jb_u (jb_u C 15 j 3) 2 0 1 16 j = 0 from h16)]
      refine ⟨rfl, fun _ => ?_, ⟨t, k, ⟨hs.1, hs.2.1, rfl, hs.2.2.2.1, hs.2.2.2.2.1, Or.inr rfl, fun q => absurd q hne, hs.2.2.2.2.2.2.2⟩, ho, hl, fun i hi => ?_, hc, ht, hh, hp, hd⟩, rfl⟩
      · show upd (C 15) j 3 j = 3
        rw [pk_us]
      · obtain ⟨g1, g2, g3, g4, g5, g6, g7⟩ := ha i hi
        show M 44 i = C 11 i ∧ M 45 i = C 12 i ∧ M 46 i = C 13 i ∧ M 47 i = C 14 i ∧ M 49 i = C 16 i ∧ (C 11 i = 0 → upd (C 15) j 3 i = 3 ∧ C 16 i = 0) ∧ (¬ C 11 i = 0 → upd (M 48) j 3 i = upd (C 15) j 3 i ∧ (C 16 i = 0 → upd (C 15) j 3 i = 1 ∨ upd (C 15) j 3 i = 2 ∨ upd (C 15) j 3 i = 3))
        by_cases e : i = j
        · subst e; rw [pk_us, pk_us]; exact ⟨g1, g2, g3, g4, g5, fun q => absurd q h11, fun _ => ⟨rfl, fun _ => Or.inr (Or.inr rfl)⟩⟩
        · rw [pk_un e, pk_un e]; exact ⟨g1, g2, g3, g4, g5, g6, g7⟩
    · obtain ⟨c, hcc⟩ : ∃ c, C 15 j - 1 = c := ⟨_, rfl⟩
      have hc3 : c = 0 ∨ c = 1 ∨ c = 2 := by
        rw [← hcc]
        rcases f9 h16 with q | q | q <;> rw [q] <;> decide
      have e2 : cf_pin C j x = jb_u (jb_u (jb_u C 15 j c) 16 j (if 0 < c then 0 else 1)) 2 0 0 := by simp only [cf_pin, cf_try, if_neg z, hcc]
      have e2' : cf_pin C j x 16 j = if 0 < c then 0 else 1 := by rw [e2]; show upd (C 16) j _ j = _; rw [pk_us]
      have e2'' : cf_pin C j x 15 j = c := by rw [e2]; show upd (C 15) j _ j = _; rw [pk_us]
      by_cases c0 : c = 0
      · have e3 : mf_pin M j x = (c, jb_u (jb_u (jb_u (mk_z M) 48 j c) 49 j 1) 34 0 (-1)) := by rw [mf_pin, if_neg (fun q => z (q.trans f2)), f8, hcc, if_pos c0]
        rw [e2', e2'', e3, e2, c0, if_neg (show ¬ (if (0 : Int32) < 0 then (0 : Int32) else 1) = 0 by decide)]
        refine ⟨rfl, fun _ => rfl, ⟨t, k, ⟨hs.1, rfl, hs.2.2.1.trans i4.2, hs.2.2.2.1, hs.2.2.2.2.1, Or.inl rfl, fun _ => rfl, hs.2.2.2.2.2.2.2⟩, Or.inl rfl, hl, fun i hi => ?_, hc, ht, hh, hp, hd⟩, rfl⟩
        obtain ⟨g1, g2, g3, g4, g5, g6, g7⟩ := ha i hi
        show M 44 i = C 11 i ∧ M 45 i = C 12 i ∧ M 46 i = C 13 i ∧ M 47 i = C 14 i ∧ upd (M 49) j 1 i = upd (C 16) j 1 i ∧ (C 11 i = 0 → upd (C 15) j 0 i = 3 ∧ upd (C 16) j 1 i = 0) ∧ (¬ C 11 i = 0 → upd (M 48) j 0 i = upd (C 15) j 0 i ∧ (upd (C 16) j 1 i = 0 → upd (C 15) j 0 i = 1 ∨ upd (C 15) j 0 i = 2 ∨ upd (C 15) j 0 i = 3))
        by_cases e : i = j
        · subst e; rw [pk_us, pk_us, pk_us, pk_us]; exact ⟨g1, g2, g3, g4, rfl, fun q => absurd q h11, fun _ => ⟨rfl, fun q => absurd q (by decide)⟩⟩
        · rw [pk_un e, pk_un e, pk_un e, pk_un e]; exact ⟨g1, g2, g3, g4, g5, g6, g7⟩
      · have c1 : c = 1 ∨ c = 2 := hc3.resolve_left c0
        have c2 : 0 < c := by rcases c1 with q | q <;> rw [q] <;> decide
        have e3 : mf_pin M j x = (c, jb_u (mk_z M) 48 j c) := by rw [mf_pin, if_neg (fun q => z (q.trans f2)), f8, hcc, if_neg c0]
        rw [e2', e2'', e3, e2, if_pos c2, if_pos rfl]
        refine ⟨rfl, fun _ => rfl, ⟨t, k, ⟨hs.1, hs.2.1, hs.2.2.1.trans i4.2, hs.2.2.2.1, hs.2.2.2.2.1, Or.inl rfl, fun _ => rfl, hs.2.2.2.2.2.2.2⟩, Or.inr ⟨j, hj, hj1, h11, ?_⟩, hl, fun i hi => ?_, hc, ht, hh, hp, hd⟩, rfl⟩
        · show upd (C 16) j 0 j = 0
          rw [pk_us]
        obtain ⟨g1, g2, g3, g4, g5, g6, g7⟩ := ha i hi
        show M 44 i = C 11 i ∧ M 45 i = C 12 i ∧ M 46 i = C 13 i ∧ M 47 i = C 14 i ∧ M 49 i = upd (C 16) j 0 i ∧ (C 11 i = 0 → upd (C 15) j c i = 3 ∧ upd (C 16) j 0 i = 0) ∧ (¬ C 11 i = 0 → upd (M 48) j c i = upd (C 15) j c i ∧ (upd (C 16) j 0 i = 0 → upd (C 15) j c i = 1 ∨ upd (C 15) j c i = 2 ∨ upd (C 15) j c i = 3))
        by_cases e : i = j
        · subst e; rw [pk_us, pk_us, pk_us]; exact ⟨g1, g2, g3, g4, g5.trans h16, fun q => absurd q h11, fun _ => ⟨rfl, fun _ => c1.elim Or.inl (fun q => Or.inr (Or.inl q))⟩⟩
        · rw [pk_un e, pk_un e, pk_un e]; exact ⟨g1, g2, g3, g4, g5, g6, g7⟩
  · rw [if_neg i4, if_neg (fun q => i4 (e1.mpr q))]; exact sm_f h 1
theorem sm_cut {C M : ja_S} {t k : Nat} (h : rr C M t k) (p : Int32) : (cf_fail C p).1 = (mf_cut M p).1 ∧ rr (cf_fail C p).2 (mf_cut M p).2 t k := by
  obtain ⟨hs, ho, hl, ha, hc, ht, hh, hp, hd⟩ := id h
  unfold cf_fail mf_cut
  by_cases z : C 3 0 = p
  · rw [if_pos z, if_pos (hs.2.2.2.1.trans z)]
    exact ⟨rfl, ⟨Or.inl ⟨rfl, rfl⟩, rfl, rfl, rfl, hs.2.2.2.2.1, Or.inl rfl, fun _ => rfl, hs.2.2.2.2.2.2.2⟩, Or.inl rfl, hl, ha, hc, ht, hh, hp, hd⟩
  · rw [if_neg z, if_neg (fun q => z (hs.2.2.2.1.symm.trans q))]
    exact ⟨rfl, h⟩
theorem sm_fate {C M : ja_S} {t k : Nat} (h : rr C M t k) : (cf_fate C).1 = (mf_fate M).1 ∧ ((cf_fate C).1 = 0 ∨ (cf_fate C).1 = 1 ∨ (cf_fate C).1 = 2 ∨ (cf_fate C).1 = 3) ∧ rr (cf_fate C).2 (mf_fate M).2 t k := by
  obtain ⟨hs, ho, hl, ha, hc, ht, hh, hp, hd⟩ := id h
  obtain ⟨n, hn, h4, h38, hf⟩ := hl
  unfold cf_fate mf_fate
  by_cases z : n = 0
  · subst z
    rw [if_pos (show C 4 0 = 0 from h4), if_pos (show M 38 0 = 0 from h38)]
    exact ⟨rfl, Or.inl rfl, h⟩
  · have z0 : ¬ nI n = 0 := nI_ne0 (by omega) (by omega)
    rw [if_neg (show ¬ C 4 0 = 0 by rw [h4]; exact z0), if_neg (show ¬ M 38 0 = 0 by rw [h38]; exact z0), h4, h38, nI_clamp (show n < 2 ^ 31 by omega), jp_m1 (by omega)]
    refine ⟨(hf 0 (by omega)).1.symm, (hf 0 (by omega)).2, hs, ho, ⟨n - 1, by omega, rfl, rfl, fun i hi => ?_⟩, ha, hc, ht, hh, hp, hd⟩
    show mf_dn (M 61) (n - 1) i = va_cpy (C 27) (C 27) 1 0 (n - 1) i ∧ (va_cpy (C 27) (C 27) 1 0 (n - 1) i = 0 ∨ va_cpy (C 27) (C 27) 1 0 (n - 1) i = 1 ∨ va_cpy (C 27) (C 27) 1 0 (n - 1) i = 2 ∨ va_cpy (C 27) (C 27) 1 0 (n - 1) i = 3)
    rw [pk_cpy_in (by omega) (by omega), mf_dn, if_pos hi, show 1 + (i - 0) = i + 1 by omega]
    exact hf (i + 1) (by omega)
/-- a number added to a balance on both sides -/
theorem sm_ab {C M : ja_S} {j : Nat} {x : Int32} (ha : r_a C M) : r_a (jb_u C 14 j x) (jb_u M 47 j x) := fun i hi => by
  obtain ⟨g1, g2, g3, g4, g5⟩ := ha i hi
  refine ⟨g1, g2, g3, ?_, g5⟩
  show upd (M 47) j x i = upd (C 14) j x i
  by_cases e : i = j
  · subst e; rw [pk_us, pk_us]
  · rw [pk_un e, pk_un e]; exact g4
theorem sm_req {C M : ja_S} {e j k : Nat} (h : rr C M (e + 1) k) (hj : j < 8) (h20 : C 20 e = nI j) :
    rr (cf_rq C (e + 1) j (C 21 e)) (mf_req M (e + 1) j) (e + 1) k ∧ ((cf_rq C (e + 1) j (C 21 e) 24 (e + 1) = 2 ∧ mf_req M (e + 1) j 57 (e + 1) = 1) ∨ (cf_rq C (e + 1) j (C 21 e) 24 (e + 1) = -1 ∧ mf_req M (e + 1) j 57 (e + 1) = 2)) := by
  obtain ⟨hs, ho, hl, ha, hc, ht, hh, hp, hd⟩ := id h
  obtain ⟨t1, t2, t3, t4, t5⟩ := id ht
  obtain ⟨q1, q2, q3, -⟩ := t4 e (by omega)
  obtain ⟨u1, u2⟩ := hh (e + 1) (by omega)
  obtain ⟨f1, f2, f3, f4, f5, f6, f7⟩ := ha j hj
  unfold cf_rq mf_req
  by_cases z : C 24 (e + 1) = 0
  · have z' : M 57 (e + 1) = 0 := by
      rcases u2 with ⟨_, y⟩ | ⟨_, ⟨y, _⟩ | ⟨y, _⟩⟩
      · exact y
      · rw [z] at y; exact absurd y (by decide)
      · rw [z] at y; exact absurd y (by decide)
    rw [if_pos z, if_pos z', u1, f5, q3, f4]
    have hh' : ∀ (c m : Int32) (C1 M1 : ja_S), C1 26 = C 26 → C1 24 = C 24 → C1 25 = C 25 → M1 58 = M 58 → M1 57 = M 57 → M1 54 = M 54 → ((c = 2 ∧ m = 1) ∨ (c = -1 ∧ m = 2)) → r_h (jb_u (jb_u C1 24 (e + 1) c) 25 (e + 1) (nI j)) (jb_u M1 57 (e + 1) m) (e + 1) := by
      intro c m C1 M1 d1 d2 d3 d4 d5 d6 hcm i hi
      show M1 58 i = C1 26 i ∧ ((upd (C1 24) (e + 1) c i = 0 ∧ upd (M1 57) (e + 1) m i = 0) ∨ (i ≤ e + 1 ∧ ((upd (C1 24) (e + 1) c i = 2 ∧ upd (M1 57) (e + 1) m i = 1 ∧ ∃ j', j' < 8 ∧ upd (C1 25) (e + 1) (nI j) i = nI j' ∧ M1 54 i = nI j') ∨ (upd (C1 24) (e + 1) c i = -1 ∧ upd (M1 57) (e + 1) m i = 2))))
      rw [d1, d2, d3, d4, d5, d6]
      by_cases y : i = e + 1
      · subst y
        rw [pk_us, pk_us, pk_us]
        refine ⟨u1, Or.inr ⟨Nat.le_refl _, ?_⟩⟩
        rcases hcm with ⟨y1, y2⟩ | ⟨y1, y2⟩
        · exact Or.inl ⟨y1, y2, j, hj, rfl, q2.trans h20⟩
        · exact Or.inr ⟨y1, y2⟩
      · rw [pk_un y, pk_un y, pk_un y]; exact hh i hi
    unfold cf_dec
    by_cases w : C 26 (e + 1) = 0 ∧ C 16 j = 0 ∧ C 21 e ≤ C 14 j
    · rw [if_pos w, if_pos w]
      refine ⟨⟨hs, ho, hl, ?_, hc, ht, ?_, hp, hd⟩, Or.inl ⟨?_, ?_⟩⟩
      · exact sm_ab (C := C) (M := M) ha
      · exact hh' 2 1 (jb_u C 14 j (C 14 j - C 21 e)) (jb_u M 47 j (C 14 j - C 21 e)) rfl rfl rfl rfl rfl rfl (Or.inl ⟨rfl, rfl⟩)
      · show upd (C 24) (e + 1) 2 (e + 1) = 2
        rw [pk_us]
      · show upd (M 57) (e + 1) 1 (e + 1) = 1
        rw [pk_us]
    · rw [if_neg w, if_neg w]
      refine ⟨⟨hs, ho, hl, ha, hc, ht, ?_, hp, hd⟩, Or.inr ⟨?_, ?_⟩⟩
      · exact hh' (-1) 2 C M rfl rfl rfl rfl rfl rfl (Or.inr ⟨rfl, rfl⟩)
      · show upd (C 24) (e + 1) (-1) (e + 1) = -1
        rw [pk_us]
      · show upd (M 57) (e + 1) 2 (e + 1) = 2
        rw [pk_us]
  · rcases u2 with ⟨y, _⟩ | ⟨_, ⟨y1, y2, _⟩ | ⟨y1, y2⟩⟩
    · exact absurd y z
    · rw [if_neg z, if_neg (show ¬ M 57 (e + 1) = 0 by rw [y2]; decide)]
      exact ⟨h, Or.inl ⟨y1, y2⟩⟩
    · rw [if_neg z, if_neg (show ¬ M 57 (e + 1) = 0 by rw [y2]; decide)]
      exact ⟨h, Or.inr ⟨y1, y2⟩⟩
theorem cf_rq2 {C : ja_S} {t j : Nat} {x : Int32} : cf_rq (cf_rq C t j x) t j x = cf_rq C t j x := by
  by_cases z : C 24 t = 0
  · have e : cf_rq C t j x 24 t = (cf_dec C t j x).1 := by
      unfold cf_rq; rw [if_pos z]; show upd ((cf_dec C t j x).2 24) t _ t = _; rw [pk_us]
    have n : ¬ (cf_dec C t j x).1 = 0 := by
      unfold cf_dec; split
      · show ¬ (2 : Int32) = 0
        decide
      · show ¬ (-1 : Int32) = 0
        decide
    rw [show cf_rq (cf_rq C t j x) t j x = if cf_rq C t j x 24 t = 0 then _ else cf_rq C t j x from rfl, if_neg (by rw [e]; exact n)]
  · have e : cf_rq C t j x = C := by unfold cf_rq; rw [if_neg z]
    rw [e, e]
theorem jb_uself {C : ja_S} {v j : Nat} {x : Int32} (h : C v j = x) : jb_u C v j x = C := by
  funext w
  show cond (Nat.beq w v) (upd (C v) j x) (C w) = C w
  cases q : Nat.beq w v with
  | false => rfl
  | true =>
    have e := Nat.eq_of_beq_eq_true q
    subst e
    funext i
    show upd (C w) j x i = C w i
    by_cases y : i = j
    · subst y; rw [pk_us]; exact h.symm
    · rw [pk_un y]
theorem cf_rev2 {C : ja_S} {t : Nat} {x : Int32} : cf_rev (cf_rev C t x) t x = cf_rev C t x := by
  have e : cf_rev C t x 26 t = 1 := by unfold cf_rev; show upd _ t 1 t = 1; rw [pk_us]
  rw [show cf_rev (cf_rev C t x) t x = jb_u (if cf_rev C t x 26 t = 0 ∧ cf_rev C t x 24 t = 2 then _ else cf_rev C t x) 26 t 1 from rfl, if_neg (fun q => by rw [e] at q; exact absurd q.1 (by decide))]
  exact jb_uself e
theorem sm_rev {C M : ja_S} {t k u : Nat} {x : Int32} (h : rr C M t k) (hu : u < 41) : rr (cf_rev C u x) (mf_rev M u x) t k := by
  obtain ⟨hs, ho, hl, ha, hc, ht, hh, hp, hd⟩ := id h
  obtain ⟨u1, u2⟩ := hh u hu
  have hh' : ∀ (C1 M1 : ja_S), C1 26 = C 26 → C1 24 = C 24 → C1 25 = C 25 → M1 58 = M 58 → M1 57 = M 57 → M1 54 = M 54 → r_h (jb_u C1 26 u 1) (jb_u M1 58 u 1) t := by
    intro C1 M1 d1 d2 d3 d4 d5 d6 i hi
    show upd (M1 58) u 1 i = upd (C1 26) u 1 i ∧ ((C1 24 i = 0 ∧ M1 57 i = 0) ∨ (i ≤ t ∧ ((C1 24 i = 2 ∧ M1 57 i = 1 ∧ ∃ j, j < 8 ∧ C1 25 i = nI j ∧ M1 54 i = nI j) ∨ (C1 24 i = -1 ∧ M1 57 i = 2))))
    rw [d1, d2, d3, d4, d5, d6]
    refine ⟨?_, (hh i hi).2⟩
    by_cases y : i = u
    · subst y; rw [pk_us, pk_us]
    · rw [pk_un y, pk_un y]; exact (hh i hi).1
  unfold cf_rev mf_rev
  rw [u1]
  by_cases w : C 26 u = 0 ∧ C 24 u = 2
  · rcases u2 with ⟨y, _⟩ | ⟨_, ⟨y1, y2, j, hj, y3, y4⟩ | ⟨y, _⟩⟩
    · rw [w.2] at y; exact absurd y (by decide)
    · rw [if_pos w, if_pos (show C 26 u = 0 ∧ M 57 u = 1 from ⟨w.1, y2⟩), y3, y4, nI_clamp (show j < 2 ^ 31 by omega), (ha j hj).2.2.2.1]
      refine ⟨hs, ho, hl, ?_, hc, ht, ?_, hp, hd⟩
      · exact sm_ab (C := C) (M := M) ha
      · exact hh' (jb_u C 14 j (C 14 j + x)) (jb_u M 47 j (C 14 j + x)) rfl rfl rfl rfl rfl rfl
    · rw [w.2] at y; exact absurd y (by decide)
  · have w' : ¬ (C 26 u = 0 ∧ M 57 u = 1) := fun q => by
      rcases u2 with ⟨_, y⟩ | ⟨_, ⟨y1, y2, j, hj, y3, y4⟩ | ⟨_, y⟩⟩
      · rw [q.2] at y; exact absurd y (by decide)
      · exact w ⟨q.1, y1⟩
      · rw [q.2] at y; exact absurd y (by decide)
    rw [if_neg w, if_neg w']
    exact ⟨hs, ho, hl, ha, hc, ht, hh' C M rfl rfl rfl rfl rfl rfl, hp, hd⟩
/-- the last entry's state and what was presented of it, both sides -/
theorem sm_st {C M : ja_S} {e : Nat} {x : Int32} (ht : r_t C M (e + 1)) : r_t (jb_u C 22 e x) (jb_u M 53 (e + 1) x) (e + 1) := by
  obtain ⟨t1, t2, t3, t4, t5⟩ := ht
  refine ⟨t1, t2, t3, fun i hi => ?_, t5⟩
  obtain ⟨q1, q2⟩ := t4 i hi
  refine ⟨?_, q2⟩
  show upd (M 53) (e + 1) x (i + 1) = upd (C 22) e x i
  by_cases y : i = e
  · subst y; rw [pk_us, pk_us]
  · rw [pk_un y, pk_un (by omega)]; exact q1
theorem sm_pr {C M : ja_S} {e : Nat} {x : Int32} (ht : r_t C M (e + 1)) : r_t (jb_u C 23 e x) (jb_u M 56 (e + 1) x) (e + 1) := by
  obtain ⟨t1, t2, t3, t4, t5⟩ := ht
  refine ⟨t1, t2, t3, t4, fun i hi => ?_⟩
  obtain ⟨q1, q2⟩ := t5 i hi
  refine ⟨?_, q2⟩
  show upd (M 56) (e + 1) x (i + 1) = upd (C 23) e x i
  by_cases y : i = e
  · subst y; rw [pk_us, pk_us]
  · rw [pk_un y, pk_un (by omega)]; exact q1
/-- the last entry's state becomes one of the end -/
theorem sm_ps {C M : ja_S} {e k : Nat} {x : Int32} (hp : r_p C M (e + 1) k) (h1 : ¬ x = 1) (h2 : ¬ x = 2) : r_p (jb_u C 22 e x) M (e + 1) k := by
  obtain ⟨p1, p2, p3, p4, p5⟩ := hp
  refine ⟨p1, p2, p3, fun e' he q => ?_, p5⟩
  have he : e' = e := by omega
  subst he
  have q : upd (C 22) e' x e' = 1 ∨ upd (C 22) e' x e' = 2 := q
  rw [pk_us] at q
  exact q.elim (fun z => absurd z h1) (fun z => absurd z h2)
theorem sm_owe {C M : ja_S} {e k : Nat} {y : Int32} (h : rr C M (e + 1) k) (hk : k < e + 1) (h22 : ¬ C 22 e = 1 ∧ ¬ C 22 e = 2) : rr (cf_owe C (nI (e + 1)) y) (mf_owe M (nI (e + 1)) y) (e + 1) (k + 1) := by
  obtain ⟨hs, ho, hl, ha, hc, ht, hh, ⟨p1, p2, p3, p4, p5⟩, hd⟩ := id h
  have t1 := ht.1
  unfold cf_owe mf_owe
  rw [p1, p2, nI_clamp (show k < 2 ^ 31 by omega), nI_1]
  refine ⟨hs, ho, hl, ha, hc, ht, hh, ⟨rfl, rfl, by omega, fun e' he q => ?_, fun i hi => ?_⟩, hd⟩
  · have he : e' = e := by omega
    subst he
    exact q.elim (fun z => absurd z h22.1) (fun z => absurd z h22.2)
  · show upd (M 59) k (nI (e + 1)) i = upd (C 30) k (nI (e + 1)) i ∧ upd (M 60) k y i = upd (C 31) k y i ∧ ∃ u, u < 41 ∧ upd (C 30) k (nI (e + 1)) i = nI u
    by_cases z : i = k
    · subst z; rw [pk_us, pk_us, pk_us, pk_us]; exact ⟨rfl, rfl, e + 1, by omega, rfl⟩
    · rw [pk_un z, pk_un z, pk_un z, pk_un z]; exact p5 i (by omega)
theorem sm_give {C M : ja_S} {e k : Nat} (h : rr C M (e + 1) k) (hk : k < e + 1) : rr (cf_give C e) (mf_owe (jb_u M 53 (e + 1) 4) (nI (e + 1)) (M 55 (e + 1))) (e + 1) (k + 1) := by
  obtain ⟨hs, ho, hl, ha, hc, ht, hh, hp, hd⟩ := id h
  have t1 := ht.1
  unfold cf_give
  rw [(ht.2.2.2.2 e (by omega)).2, (ht.2.2.2.1 e (by omega)).2.2.1]
  refine sm_owe ⟨hs, ho, hl, ha, hc, sm_st ht, hh, sm_ps hp (by decide) (by decide), hd⟩ hk ⟨?_, ?_⟩
  · show ¬ upd (C 22) e 4 e = 1
    rw [pk_us]; decide
  · show ¬ upd (C 22) e 4 e = 2
    rw [pk_us]; decide
theorem sm_fin {C M : ja_S} {e k : Nat} (h : rr C M (e + 1) k) (hk : k < e + 1) (x : Int32) : ∃ k', rr (cf_fin C e x) (mf_fin M (e + 1) x) (e + 1) k' := by
  obtain ⟨hs, ho, hl, ha, hc, ht, hh, hp, hd⟩ := id h
  have t1 := ht.1
  have b : rr (jb_u (jb_u C 22 e 3) 23 e x) (jb_u (jb_u M 53 (e + 1) 3) 56 (e + 1) x) (e + 1) k := ⟨hs, ho, hl, ha, hc, sm_pr (sm_st ht), hh, sm_ps hp (by decide) (by decide), hd⟩
  unfold cf_fin mf_fin
  rw [(ht.2.2.2.2 e (by omega)).2, (ht.2.2.2.1 e (by omega)).2.2.1]
  by_cases z : C 21 e ≤ x
  · rw [if_pos z, if_pos z]; exact ⟨k, b⟩
  · rw [if_neg z, if_neg z]
    refine ⟨k + 1, sm_owe b hk ⟨?_, ?_⟩⟩
    · show ¬ upd (C 22) e 3 e = 1
      rw [pk_us]; decide
    · show ¬ upd (C 22) e 3 e = 2
      rw [pk_us]; decide
theorem sm_boot {C M : ja_S} {t k : Nat} (h : rr C M t k) : sm_q (cp_boot C) (mp_boot M) := by
  unfold cp_boot mp_boot
  obtain ⟨hs, ho, hl, ha, hc, ht, hh, hp, hd⟩ := id h
  have t1 := ht.1
  rcases hs.1 with ⟨z1, z2⟩ | ⟨z1, z2⟩
  · rw [if_pos z1, if_neg (show ¬ M 33 0 = 0 by rw [z2]; decide), ht.2.2.1, nI_clamp (show t < 2 ^ 31 by omega)]
    have b : rr (jb_u C 0 0 1) (jb_u (mk_z M) 33 0 0) t k := ⟨⟨Or.inr ⟨rfl, rfl⟩, hs.2⟩, ho, hl, ha, hc, ht, hh, hp, hd⟩
    have key : ∃ k', rr (cf_boot C) (mf_boot M t) t k' ∧ mf_boot M t 32 0 = 0 := by
      unfold cf_boot mf_boot
      rw [ht.2.1, nI_clamp (show t < 2 ^ 31 by omega)]
      rcases Nat.eq_zero_or_pos t with z | z
      · subst z
        rw [if_pos (show nI 0 ≤ 0 by decide), if_neg (fun q => absurd q.1 (by omega)), if_neg (fun q => absurd q.1 (by omega))]
        exact ⟨k, b, rfl⟩
      · obtain ⟨e, rfl⟩ : ∃ e, t = e + 1 := ⟨t - 1, by omega⟩
        rw [if_neg (nI_nle (by omega) (by omega)), Nat.add_sub_cancel]
        have q1 := (ht.2.2.2.1 e (by omega)).1
        rw [q1]
        unfold cf_rec
        by_cases w1 : C 22 e = 1
        · rw [if_pos (show jb_u C 0 0 1 22 e = 1 from w1), if_pos (show 0 < e + 1 ∧ C 22 e = 1 from ⟨z, w1⟩)]
          exact ⟨k + 1, sm_give b (hp.2.2.2.1 e rfl (Or.inl w1)), by rw [mf_owe_v rfl rfl rfl]; rfl⟩
        · rw [if_neg (show ¬ jb_u C 0 0 1 22 e = 1 from w1), if_neg (show ¬ (0 < e + 1 ∧ C 22 e = 1) from fun q => w1 q.2)]
          by_cases w2 : C 22 e = 2
          · rw [if_pos (show jb_u C 0 0 1 22 e = 2 from w2), if_pos (show 0 < e + 1 ∧ C 22 e = 2 from ⟨z, w2⟩)]
            have e5 : cf_pfor (jb_u C 0 0 1) (jb_u C 0 0 1 19 e) = if M 41 0 = nI (e + 1) then M 42 0 else 0 := by
              show (if C 19 e = C 7 0 then C 8 0 else 0) = _
              rw [(ht.2.2.2.2 e (by omega)).2, hd.1, hd.2.1]
              by_cases y : C 7 0 = nI (e + 1)
              · rw [if_pos y, if_pos y.symm]
              · rw [if_neg y, if_neg (fun q => y q.symm)]
            rw [e5]
            obtain ⟨k', hk'⟩ := sm_fin b (hp.2.2.2.1 e rfl (Or.inr w2)) (if M 41 0 = nI (e + 1) then M 42 0 else 0)
            exact ⟨k', hk', by rw [mf_fin_v rfl rfl rfl rfl rfl]; rfl⟩
          · rw [if_neg (show ¬ jb_u C 0 0 1 22 e = 2 from w2), if_neg (show ¬ (0 < e + 1 ∧ C 22 e = 2) from fun q => w2 q.2)]
            exact ⟨k, b, rfl⟩
    obtain ⟨k', hk', h32⟩ := key
    refine ⟨rfl, fun _ => ?_, ⟨t, k', hk'⟩, h32⟩
    exact hk'.2.2.2.2.2.2.2.1.1.trans hk'.2.2.2.2.2.2.2.1.2.1.symm
  · rw [if_neg (show ¬ C 0 0 = 0 by rw [z1]; decide), if_pos z2]; exact sm_f h 1
