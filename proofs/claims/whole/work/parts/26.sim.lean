/-! THE RELATION of class and reference (hand text): what they have in common, group by group; each step keeps it. C is read at the class's codes, M at the reference's. -/
def r_s (C M : ja_S) : Prop := ((C 0 0 = 0 ∧ M 33 0 = 1) ∨ (C 0 0 = 1 ∧ M 33 0 = 0)) ∧ M 34 0 = C 1 0 ∧ M 35 0 = C 2 0 ∧ M 40 0 = C 3 0 ∧ M 39 0 = C 5 0 ∧ (C 2 0 = 0 ∨ C 2 0 = 1) ∧ (C 1 0 = -1 → C 2 0 = 0) ∧ (C 5 0 = -1 ∨ ∃ J, J ≤ 100 ∧ C 5 0 = nI J)
def r_o (C : ja_S) : Prop := C 1 0 = -1 ∨ ∃ j, j < 8 ∧ C 1 0 = nI j ∧ ¬ C 11 j = 0 ∧ C 16 j = 0
def r_l (C M : ja_S) : Prop := ∃ n, n ≤ 8 ∧ C 4 0 = nI n ∧ M 38 0 = nI n ∧ ∀ i, i < n → M 61 i = C 27 i ∧ (C 27 i = 0 ∨ C 27 i = 1 ∨ C 27 i = 2 ∨ C 27 i = 3)
def r_a (C M : ja_S) : Prop := ∀ j, j < 8 → M 44 j = C 11 j ∧ M 45 j = C 12 j ∧ M 46 j = C 13 j ∧ M 47 j = C 14 j ∧ M 49 j = C 16 j ∧ (C 11 j = 0 → C 15 j = 3 ∧ C 16 j = 0) ∧ (¬ C 11 j = 0 → M 48 j = C 15 j ∧ (C 16 j = 0 → C 15 j = 1 ∨ C 15 j = 2 ∨ C 15 j = 3))
def r_c (C M : ja_S) : Prop := ∃ v n, jm_K C v n ∧ jm_KM M v n
def r_t (C M : ja_S) (t : Nat) : Prop := t ≤ 40 ∧ C 9 0 = nI t ∧ M 36 0 = nI t ∧ (∀ e, e < t → M 53 (e + 1) = C 22 e ∧ M 54 (e + 1) = C 20 e ∧ M 55 (e + 1) = C 21 e ∧ ∃ j, j < 8 ∧ C 20 e = nI j) ∧ ∀ e, e < 40 → M 56 (e + 1) = C 23 e ∧ C 19 e = nI (e + 1)
def r_h (C M : ja_S) (t : Nat) : Prop := ∀ i, i < 41 → M 58 i = C 26 i ∧ ((C 24 i = 0 ∧ M 57 i = 0) ∨ (i ≤ t ∧ ((C 24 i = 2 ∧ M 57 i = 1 ∧ ∃ j, j < 8 ∧ C 25 i = nI j ∧ M 54 i = nI j) ∨ (C 24 i = -1 ∧ M 57 i = 2))))
def r_p (C M : ja_S) (t k : Nat) : Prop := C 10 0 = nI k ∧ M 37 0 = nI k ∧ k ≤ t ∧ (∀ e, t = e + 1 → C 22 e = 1 ∨ C 22 e = 2 → k < t) ∧ ∀ i, i < k → M 59 i = C 30 i ∧ M 60 i = C 31 i ∧ ∃ u, u < 41 ∧ C 30 i = nI u
def r_d (C M : ja_S) : Prop := M 41 0 = C 7 0 ∧ M 42 0 = C 8 0 ∧ M 43 0 = C 6 0
def rr (C M : ja_S) (t k : Nat) : Prop := r_s C M ∧ r_o C ∧ r_l C M ∧ r_a C M ∧ r_c C M ∧ r_t C M t ∧ r_h C M t ∧ r_p C M t k ∧ r_d C M
/-- f and g: what a call gave on both sides -/
def sm_q (f g : Int32 × Int32 × ja_S) : Prop := f.1 = g.1 ∧ (f.1 = 0 → f.2.1 = g.2.1) ∧ (∃ t k, rr f.2.2 g.2.2 t k) ∧ g.2.2 32 0 = g.1
theorem sm_f {C M : ja_S} {t k : Nat} (h : rr C M t k) (x : Int32) : sm_q (x, 0, C) (mk_f M x) := ⟨rfl, fun _ => rfl, ⟨t, k, h⟩, rfl⟩
theorem jp_ct_c {f g : Nat → Int32} : ∀ {n : Nat}, (∀ i, i < n → f i = g i) → jp_ct f n = jp_ct g n
  | 0, _ => rfl
  | n + 1, h => by unfold jp_ct; rw [jp_ct_c (fun i hi => h i (by omega)), h n (by omega)]
theorem jp_sm_c {f g : Nat → Int32} : ∀ {n : Nat}, (∀ i, i < n → f i = g i) → jp_sm f n = jp_sm g n
  | 0, _ => rfl
  | n + 1, h => by unfold jp_sm; rw [jp_sm_c (fun i hi => h i (by omega)), h n (by omega)]
theorem mf_sm_c {x : Int32} {f g : Nat → Int32} : ∀ {n : Nat}, (∀ i, i < n → f i = g i) → mf_sm x f n = jp_sm g n + x
  | 0, _ => by show x = 0 + x; rw [Int32.zero_add]
  | n + 1, h => by
    unfold mf_sm jp_sm
    rw [mf_sm_c (fun i hi => h i (by omega)), h n (by omega), Int32.add_assoc, Int32.add_assoc, Int32.add_comm x]
theorem sm_open {C M : ja_S} {t k : Nat} (h : rr C M t k) (a b d : Int32) : sm_q (cp_open C a b d) (mp_open M a b d) := by
  unfold cp_open mp_open
  by_cases i4 : jp_in a 0 7 ∧ jp_in b 0 9999 ∧ jp_in d 0 1000000
  · rw [if_pos i4, if_pos i4]
    obtain ⟨j, hj, rfl⟩ := jp_in_nI (n := 7) (by decide) i4.1
    rw [nI_clamp (show j < 2 ^ 31 by omega)]
    obtain ⟨hs, ho, hl, ha, hc, ht, hh, hp, hd⟩ := id h
    obtain ⟨e1, e2, e3, e4, e5, e6, e7⟩ := ha j (by omega)
    by_cases z : C 11 j = 0
    · rw [if_pos z, if_pos (e1.trans z)]
      refine ⟨rfl, fun _ => jp_ct_c (fun i hi => ?_), ⟨t, k, hs, ?_, hl, ?_, hc, ht, hh, hp, hd⟩, rfl⟩
      · show upd (C 11) j 1 i = upd (M 44) j 1 i
        by_cases e : i = j
        · subst e; rw [pk_us, pk_us]
        · rw [pk_un e, pk_un e, (ha i hi).1]
      · rcases ho with q | ⟨i, hi, q1, q2, q3⟩
        · exact Or.inl q
        · refine Or.inr ⟨i, hi, q1, ?_, q3⟩
          show ¬ upd (C 11) j 1 i = 0
          by_cases e : i = j
          · subst e; rw [pk_us]; decide
          · rw [pk_un e]; exact q2
      · intro i hi
        show upd (M 44) j 1 i = upd (C 11) j 1 i ∧ upd (M 45) j b i = upd (C 12) j b i ∧ upd (M 46) j d i = upd (C 13) j d i ∧ upd (M 47) j d i = upd (C 14) j d i ∧ M 49 i = C 16 i ∧ (upd (C 11) j 1 i = 0 → C 15 i = 3 ∧ C 16 i = 0) ∧ (¬ upd (C 11) j 1 i = 0 → upd (M 48) j 3 i = C 15 i ∧ (C 16 i = 0 → C 15 i = 1 ∨ C 15 i = 2 ∨ C 15 i = 3))
        by_cases e : i = j
        · subst e
          rw [pk_us, pk_us, pk_us, pk_us, pk_us, pk_us, pk_us, pk_us, pk_us]
          exact ⟨rfl, rfl, rfl, rfl, e5, fun q => absurd q (by decide), fun _ => ⟨(e6 z).1.symm, fun _ => Or.inr (Or.inr (e6 z).1)⟩⟩
        · rw [pk_un e, pk_un e, pk_un e, pk_un e, pk_un e, pk_un e, pk_un e, pk_un e, pk_un e]
          exact ha i hi
    · rw [if_neg z, if_neg (fun q => z (e1.symm.trans q))]
      exact sm_f h 2
  · rw [if_neg i4, if_neg i4]; exact sm_f h 1
theorem jp_neg {x : Int32} (h : x = -1 ∨ ∃ j, j < 8 ∧ x = nI j) : x < 0 ↔ x = -1 := by
  rcases h with rfl | ⟨j, hj, rfl⟩
  · decide
  · exact iff_of_false (nI_pos (by omega)) (jp_m1n (by omega))
theorem r_os {C M : ja_S} (hs : r_s C M) (ho : r_o C) : M 34 0 < 0 ↔ C 1 0 = -1 := by
  rw [hs.2.1]
  exact jp_neg (ho.elim Or.inl (fun ⟨j, h1, h2, _⟩ => Or.inr ⟨j, h1, h2⟩))
theorem jm_Ku {C M : ja_S} {v n : Nat → Nat} {i a b : Nat} (hK : jm_K C v n) (hM : jm_KM M v n) (h1 : 1 ≤ a) (h2 : a ≤ 500) (h3 : b ≤ 50) : r_c (jb_u (jb_u C 17 i (nI a)) 18 i (nI b)) (jb_u (jb_u M 50 i (nI a)) 51 i (nI b)) := by
  refine ⟨fun x => if x = i then a else v x, fun x => if x = i then b else n x, fun x hx => ?_, fun x hx => ?_⟩
  · show upd (C 17) i (nI a) x = nI (if x = i then a else v x) ∧ upd (C 18) i (nI b) x = nI (if x = i then b else n x) ∧ 1 ≤ (if x = i then a else v x) ∧ (if x = i then a else v x) ≤ 500 ∧ (if x = i then b else n x) ≤ 50
    by_cases e : x = i
    · subst e; rw [pk_us, pk_us]; simp only [if_true]; exact ⟨trivial, trivial, h1, h2, h3⟩
    · rw [pk_un e, pk_un e]; simp only [if_neg e]; exact hK x hx
  · show upd (M 50) i (nI a) x = nI (if x = i then a else v x) ∧ upd (M 51) i (nI b) x = nI (if x = i then b else n x) ∧ 1 ≤ (if x = i then a else v x) ∧ (if x = i then a else v x) ≤ 500 ∧ (if x = i then b else n x) ≤ 50
    by_cases e : x = i
    · subst e; rw [pk_us, pk_us]; simp only [if_true]; exact ⟨trivial, trivial, h1, h2, h3⟩
    · rw [pk_un e, pk_un e]; simp only [if_neg e]; exact hM x hx
theorem sm_load {C M : ja_S} {t k : Nat} (h : rr C M t k) (a b d : Int32) : sm_q (cp_load C a b d) (mp_load M a b d) := by
  unfold cp_load mp_load
  obtain ⟨hs, ho, hl, ha, hc, ht, hh, hp, hd⟩ := id h
  by_cases i4 : jp_in a 0 3 ∧ jp_in b 1 500 ∧ jp_in d 0 50
  · rw [if_pos i4, if_pos i4]
    obtain ⟨j, hj, rfl⟩ := jp_in_nI (n := 3) (by decide) i4.1
    obtain ⟨x, hx, rfl⟩ := jp_in_nI (n := 50) (by decide) i4.2.2
    obtain ⟨y, hy, rfl⟩ := jp_in_nI (n := 500) (by decide) ⟨Int32.le_trans (by decide) i4.2.1.1, i4.2.1.2⟩
    have hy1 : 1 ≤ y := (nI_leI (by decide) (by omega)).mp i4.2.1.1
    rw [nI_clamp (show j < 2 ^ 31 by omega)]
    obtain ⟨v, n, hK, hM⟩ := hc
    by_cases z : C 1 0 = -1
    · rw [if_pos z, if_pos ((r_os hs ho).mpr z)]
      refine ⟨rfl, fun _ => ?_, ⟨t, k, hs, ho, hl, ha, jm_Ku hK hM hy1 hy hx, ht, hh, hp, hd⟩, rfl⟩
      show C 17 j * C 18 j = M 50 j * M 51 j
      rw [(hK j (by omega)).1, (hK j (by omega)).2.1, (hM j (by omega)).1, (hM j (by omega)).2.1]
    · rw [if_neg z, if_neg (fun q => z ((r_os hs ho).mp q))]; exact sm_f h 2
  · rw [if_neg i4, if_neg i4]; exact sm_f h 1
theorem sm_ins {C M : ja_S} {t k : Nat} (h : rr C M t k) (a : Int32) : sm_q (cp_ins C a) (mp_ins M a) := by
  unfold cp_ins mp_ins
  obtain ⟨hs, ho, hl, ha, hc, ht, hh, hp, hd⟩ := id h
  have e1 : (¬ C 0 0 = 0 ∧ C 1 0 = -1) ↔ (M 33 0 = 0 ∧ M 34 0 < 0) := by
    rw [r_os hs ho]
    rcases hs.1 with ⟨q1, q2⟩ | ⟨q1, q2⟩ <;> rw [q1, q2] <;> simp
  by_cases i4 : ¬ C 0 0 = 0 ∧ C 1 0 = -1
  · rw [if_pos i4, if_pos (e1.mp i4)]
    by_cases z : jp_in a 0 7
    · obtain ⟨j, hj, rfl⟩ := jp_in_nI (n := 7) (by decide) z
      rw [nI_clamp (show j < 2 ^ 31 by omega)]
      obtain ⟨f1, f2, f3, f4, f5, f6, f7⟩ := ha j (by omega)
      by_cases y : C 11 j = 0
      · rw [if_neg (fun q => q.2 y), if_neg (fun q => q.2 (f1.trans y))]; exact sm_f h 2
      · rw [if_pos (show jp_in (nI j) 0 7 ∧ ¬ C 11 j = 0 from ⟨z, y⟩), if_pos (show jp_in (nI j) 0 7 ∧ ¬ M 44 j = 0 from ⟨z, fun q => y (f1.symm.trans q)⟩)]
        by_cases x : C 16 j = 0
        · rw [if_pos x, if_pos (f5.trans x)]
          refine ⟨rfl, fun _ => (f7 y).1.symm, ⟨t, k, ⟨hs.1, rfl, rfl, hs.2.2.2.1, hs.2.2.2.2.1, Or.inl rfl, fun _ => rfl, hs.2.2.2.2.2.2.2⟩, Or.inr ⟨j, by omega, rfl, y, x⟩, hl, ha, hc, ht, hh, hp, hd⟩, rfl⟩
        · rw [if_neg x, if_neg (fun q => x (f5.symm.trans q))]; exact sm_f h 3
    · rw [if_neg (fun q => z q.1), if_neg (fun q => z q.1)]; exact sm_f h 2
  · rw [if_neg i4, if_neg (fun q => i4 (e1.mpr q))]; exact sm_f h 1
theorem sm_eject {C M : ja_S} {t k : Nat} (h : rr C M t k) : sm_q (cp_eject C) (mp_eject M) := by
  unfold cp_eject mp_eject
  obtain ⟨hs, ho, hl, ha, hc, ht, hh, hp, hd⟩ := id h
  by_cases z : C 1 0 = -1
  · rw [if_pos z, if_neg (Int32.not_le.mpr ((r_os hs ho).mpr z))]; exact sm_f h 1
  · rw [if_neg z, if_pos (Int32.not_lt.mp (fun q => z ((r_os hs ho).mp q)))]
    exact ⟨rfl, fun _ => hs.2.1.symm, ⟨t, k, ⟨hs.1, rfl, rfl, hs.2.2.2.1, hs.2.2.2.2.1, Or.inl rfl, fun _ => rfl, hs.2.2.2.2.2.2.2⟩, Or.inl rfl, hl, ha, hc, ht, hh, hp, hd⟩, rfl⟩
theorem sm_line {C M : ja_S} {t k : Nat} (h : rr C M t k) (a : Int32) : sm_q (cp_line C a) (mp_line M a) := by
  unfold cp_line mp_line
  obtain ⟨hs, ho, hl, ha, hc, ht, hh, hp, hd⟩ := id h
  by_cases z : jp_in a 0 3
  · rw [if_pos z, if_pos z]
    obtain ⟨n, hn, h4, h38, hf⟩ := hl
    rw [h4, h38, nI_clamp (show n < 2 ^ 31 by omega)]
    by_cases y : n = 8
    · subst y; rw [if_neg (show ¬ nI 8 < 8 by decide), if_pos (show nI 8 = 8 from rfl)]; exact sm_f h 2
    · rw [if_pos (show nI n < 8 from nI_lt (b := 8) (by omega) (by omega)), if_neg (show ¬ nI n = 8 from fun q => y ((nI_eq (b := 8) (by omega) (by omega)).mp q))]
      refine ⟨rfl, fun _ => rfl, ⟨t, k, hs, ho, ⟨n + 1, by omega, nI_1 n, nI_1 n, fun i hi => ?_⟩, ha, hc, ht, hh, hp, hd⟩, rfl⟩
      show upd (M 61) n a i = upd (C 27) n a i ∧ (upd (C 27) n a i = 0 ∨ upd (C 27) n a i = 1 ∨ upd (C 27) n a i = 2 ∨ upd (C 27) n a i = 3)
      by_cases e : i = n
      · subst e; rw [pk_us, pk_us]
        refine ⟨rfl, ?_⟩
        obtain ⟨j, hj, rfl⟩ := jp_in_nI (n := 3) (by decide) z
        rcases (show j = 0 ∨ j = 1 ∨ j = 2 ∨ j = 3 by omega) with rfl | rfl | rfl | rfl
        · exact Or.inl rfl
        · exact Or.inr (Or.inl rfl)
        · exact Or.inr (Or.inr (Or.inl rfl))
        · exact Or.inr (Or.inr (Or.inr rfl))
      · rw [pk_un e, pk_un e]; exact hf i (by omega)
  · rw [if_neg z, if_neg z]; exact sm_f h 1
theorem sm_jam {C M : ja_S} {t k : Nat} (h : rr C M t k) (a : Int32) : sm_q (cp_jam C a) (mp_jam M a) := by
  unfold cp_jam mp_jam
  obtain ⟨hs, ho, hl, ha, hc, ht, hh, hp, hd⟩ := id h
  by_cases z : jp_in a (-1) 100
  · rw [if_pos z, if_pos z]
    have hz : a = -1 ∨ ∃ J, J ≤ 100 ∧ a = nI J := by
      by_cases y : a = -1
      · exact Or.inl y
      · refine Or.inr (jp_in_nI (n := 100) (by decide) ⟨?_, z.2⟩)
        have := z.1
        have y' : ¬ a.toInt = -1 := fun q => y (Int32.toInt_inj.mp (q.trans (by decide)))
        simp only [Int32.le_iff_toInt_le] at *
        have e1 : (-1 : Int32).toInt = -1 := by decide
        have e0 : (0 : Int32).toInt = 0 := by decide
        omega
    refine ⟨rfl, fun _ => ?_, ⟨t, k, ⟨hs.1, hs.2.1, hs.2.2.1, hs.2.2.2.1, rfl, hs.2.2.2.2.2.1, hs.2.2.2.2.2.2.1, hz⟩, ho, hl, ha, hc, ht, hh, hp, hd⟩, rfl⟩
    show (if a = -1 then (0 : Int32) else 1) = if 0 ≤ a then 1 else 0
    rcases hz with rfl | ⟨J, hJ, rfl⟩
    · decide
    · rw [if_neg (jp_m1n (by omega)), if_pos (nI_pos' (by omega))]
  · rw [if_neg z, if_neg z]; exact sm_f h 1
theorem sm_pow {C M : ja_S} {t k : Nat} (h : rr C M t k) (a : Int32) : sm_q (cp_pow C a) (mp_pow M a) := by
  unfold cp_pow mp_pow
  obtain ⟨hs, ho, hl, ha, hc, ht, hh, hp, hd⟩ := id h
  by_cases z : jp_in a 0 4
  · rw [if_pos z, if_pos z]
    exact ⟨rfl, fun _ => rfl, ⟨t, k, ⟨hs.1, hs.2.1, hs.2.2.1, rfl, hs.2.2.2.2⟩, ho, hl, ha, hc, ht, hh, hp, hd⟩, rfl⟩
  · rw [if_neg z, if_neg z]; exact sm_f h 1
theorem sm_bal {C M : ja_S} {t k : Nat} (h : rr C M t k) (a : Int32) : sm_q (cp_bal C a) (mp_bal M a) := by
  unfold cp_bal mp_bal
  obtain ⟨hs, ho, hl, ha, hc, ht, hh, hp, hd⟩ := id h
  by_cases z : jp_in a 0 7
  · obtain ⟨j, hj, rfl⟩ := jp_in_nI (n := 7) (by decide) z
    rw [nI_clamp (show j < 2 ^ 31 by omega)]
    obtain ⟨f1, f2, f3, f4, f5, f6, f7⟩ := ha j (by omega)
    by_cases y : C 11 j = 0
    · rw [if_neg (fun q => q.2 y), if_neg (fun q => q.2 (f1.trans y))]; exact sm_f h 1
    · rw [if_pos (show jp_in (nI j) 0 7 ∧ ¬ C 11 j = 0 from ⟨z, y⟩), if_pos (show jp_in (nI j) 0 7 ∧ ¬ M 44 j = 0 from ⟨z, fun q => y (f1.symm.trans q)⟩)]
      exact ⟨rfl, fun _ => f4.symm, ⟨t, k, h⟩, rfl⟩
  · rw [if_neg (fun q => z q.1), if_neg (fun q => z q.1)]; exact sm_f h 1
theorem sm_tr {C M : ja_S} {t k : Nat} (h : rr C M t k) (a b : Int32) : sm_q (cp_tr C a b) (mp_tr M a b) := by
  unfold cp_tr mp_tr
  obtain ⟨hs, ho, hl, ha, hc, ht, hh, hp, hd⟩ := id h
  obtain ⟨t1, t2, t3, t4, t5⟩ := id ht
  rw [t2, t3]
  by_cases z : jp_in a 1 (nI t)
  · rw [if_pos z, if_pos z]
    obtain ⟨j, hj, rfl⟩ := jp_in_nI (n := t) (by omega) ⟨Int32.le_trans (by decide) z.1, z.2⟩
    have hj1 : 1 ≤ j := (nI_leI (by decide) (by omega)).mp z.1
    obtain ⟨e, rfl⟩ : ∃ e, j = e + 1 := ⟨j - 1, by omega⟩
    rw [nI_clamp (show e + 1 < 2 ^ 31 by omega), Nat.add_sub_cancel]
    obtain ⟨q1, q2, q3, -⟩ := t4 e (by omega)
    by_cases b0 : b = 0
    · rw [if_pos b0, if_pos b0]; exact ⟨rfl, fun _ => q1.symm, ⟨t, k, h⟩, rfl⟩
    rw [if_neg b0, if_neg b0]
    by_cases b0 : b = 1
    · rw [if_pos b0, if_pos b0]; exact ⟨rfl, fun _ => q2.symm, ⟨t, k, h⟩, rfl⟩
    rw [if_neg b0, if_neg b0]
    by_cases b0 : b = 2
    · rw [if_pos b0, if_pos b0]; exact ⟨rfl, fun _ => q3.symm, ⟨t, k, h⟩, rfl⟩
    rw [if_neg b0, if_neg b0]
    by_cases b0 : b = 3
    · rw [if_pos b0, if_pos b0]; exact ⟨rfl, fun _ => (t5 e (by omega)).1.symm, ⟨t, k, h⟩, rfl⟩
    rw [if_neg b0, if_neg b0]
    exact sm_f h 2
  · rw [if_neg z, if_neg z]; exact sm_f h 1
theorem sm_revl {C M : ja_S} {t k : Nat} (h : rr C M t k) (a : Int32) : sm_q (cp_revl C a) (mp_revl M a) := by
  unfold cp_revl mp_revl
  obtain ⟨hs, ho, hl, ha, hc, ht, hh, hp, hd⟩ := id h
  obtain ⟨p1, p2, p3, p4, p5⟩ := id hp
  have ht4 := ht.1
  rw [p1, p2]
  by_cases z : ¬ a < 0 ∧ ¬ nI k ≤ a
  · obtain ⟨j, hj, rfl⟩ := nI_of z.1
    have hjk : j < k := Nat.lt_of_not_le (fun q => z.2 (nI_le q (by omega)))
    rw [if_pos (show jp_in (nI j) 0 (nI k - 1) from by rw [jp_m1 (by omega)]; exact jp_nI_in (by omega) (by omega)), if_pos z, nI_clamp (show j < 2 ^ 31 by omega)]
    exact ⟨rfl, fun _ => (p5 j hjk).2.1.symm, ⟨t, k, h⟩, rfl⟩
  · rw [if_neg (fun q => z ?_), if_neg z]
    · exact sm_f h 1
    · refine ⟨Int32.not_lt.mpr q.1, fun y => ?_⟩
      have q1 := q.1
      have q2 := q.2
      rcases Nat.eq_zero_or_pos k with x | x
      · subst x; exact absurd (Int32.le_trans q1 q2) (by decide)
      · rw [jp_m1 x] at q2
        exact absurd (Int32.le_trans y q2) (nI_ge (by omega) (by omega))
theorem sm_notes {C M : ja_S} {t k : Nat} (h : rr C M t k) (a : Int32) : sm_q (cp_notes C a) (mp_notes M a) := by
  unfold cp_notes mp_notes
  obtain ⟨hs, ho, hl, ha, hc, ht, hh, hp, hd⟩ := id h
  by_cases z : jp_in a 0 3
  · rw [if_pos z, if_pos z]
    obtain ⟨j, hj, rfl⟩ := jp_in_nI (n := 3) (by decide) z
    rw [nI_clamp (show j < 2 ^ 31 by omega)]
    obtain ⟨v, n, hK, hM⟩ := hc
    exact ⟨rfl, fun _ => (hK j (by omega)).2.1.trans (hM j (by omega)).2.1.symm, ⟨t, k, h⟩, rfl⟩
  · rw [if_neg z, if_neg z]; exact sm_f h 1
theorem sm_dif {C M : ja_S} {t k : Nat} (h : rr C M t k) : jp_sm (fun j => C 13 j - C 14 j) 8 - C 6 0 = mf_sm (-(M 43 0)) (fun j => M 46 j - M 47 j) 8 := by
  obtain ⟨hs, ho, hl, ha, hc, ht, hh, hp, hd⟩ := id h
  rw [mf_sm_c (g := fun j => C 13 j - C 14 j) (fun i hi => by show M 46 i - M 47 i = C 13 i - C 14 i; rw [(ha i hi).2.2.1, (ha i hi).2.2.2.1]), hd.2.2, Int32.sub_eq_add_neg]
theorem sm_ct {C M : ja_S} {t k : Nat} (h : rr C M t k) (b : Int32) : sm_q (cp_ct C b) (mp_ct M b) := by
  unfold cp_ct mp_ct
  obtain ⟨hs, ho, hl, ha, hc, ht, hh, hp, hd⟩ := id h
  by_cases b0 : b = 0
  · rw [if_pos b0, if_pos b0]; exact ⟨rfl, fun _ => ht.2.1.trans ht.2.2.1.symm, ⟨t, k, h⟩, rfl⟩
  rw [if_neg b0, if_neg b0]
  by_cases b0 : b = 1
  · rw [if_pos b0, if_pos b0]; exact ⟨rfl, fun _ => hp.1.trans hp.2.1.symm, ⟨t, k, h⟩, rfl⟩
  rw [if_neg b0, if_neg b0]
  by_cases b0 : b = 2
  · rw [if_pos b0, if_pos b0]
    obtain ⟨n, hn, h4, h38, hf⟩ := hl
    exact ⟨rfl, fun _ => h4.trans h38.symm, ⟨t, k, h⟩, rfl⟩
  rw [if_neg b0, if_neg b0]
  by_cases b0 : b = 3
  · rw [if_pos b0, if_pos b0]
    refine ⟨rfl, fun _ => ?_, ⟨t, k, h⟩, rfl⟩
    show (if C 0 0 = 0 then (0 : Int32) else 1) = if M 33 0 = 0 then 1 else 0
    rcases hs.1 with ⟨q1, q2⟩ | ⟨q1, q2⟩ <;> rw [q1, q2] <;> decide
  rw [if_neg b0, if_neg b0]
  by_cases b0 : b = 4
  · rw [if_pos b0, if_pos b0]; exact ⟨rfl, fun _ => hs.2.1.symm, ⟨t, k, h⟩, rfl⟩
  rw [if_neg b0, if_neg b0]
  by_cases b0 : b = 5
  · rw [if_pos b0, if_pos b0]
    refine ⟨rfl, fun _ => ?_, ⟨t, k, h⟩, rfl⟩
    show (if C 2 0 = 0 then (0 : Int32) else 1) = if M 34 0 < 0 then 0 else if M 35 0 = 0 then 0 else 1
    by_cases z : C 1 0 = -1
    · rw [if_pos ((r_os hs ho).mpr z), if_pos (hs.2.2.2.2.2.2.1 z)]
    · rw [if_neg (fun q => z ((r_os hs ho).mp q)), hs.2.2.1]
  rw [if_neg b0, if_neg b0]
  by_cases b0 : b = 6
  · rw [if_pos b0, if_pos b0]; exact ⟨rfl, fun _ => hd.2.2.symm, ⟨t, k, h⟩, rfl⟩
  rw [if_neg b0, if_neg b0]
  by_cases b0 : b = 7
  · rw [if_pos b0, if_pos b0]; exact ⟨rfl, fun _ => jp_ct_c (fun i hi => (ha i hi).2.2.2.2.1.symm), ⟨t, k, h⟩, rfl⟩
  rw [if_neg b0, if_neg b0]
  exact sm_f h 1
