/-! CONTRACTS of the class, by program (wip/whole/gen/p14.py): pin, boot, trace, count, settle -/
def cf_try (C : ja_S) (j : Nat) (x : Int32) : Int32 × ja_S := if x = C 12 j then (1, jb_u C 15 j 3) else (0, jb_u (jb_u C 15 j (C 15 j - 1)) 16 j (if 0 < C 15 j - 1 then 0 else 1))
theorem jp_try {C C' : ja_S} {j : Nat} {x r : Int32} (h : (x = C 12 j ∧ r = 1 ∧ C' = jb_u C 15 j 3) ∨ (x ≠ C 12 j ∧ r = 0 ∧ C' = jb_u (jb_u C 15 j (C 15 j - 1)) 16 j (if 0 < C 15 j - 1 then 0 else 1))) : r = (cf_try C j x).1 ∧ C' = (cf_try C j x).2 ∧ (r = 0 ∨ r = 1) := by
  rcases h with ⟨e, rfl, rfl⟩ | ⟨e, rfl, rfl⟩
  · simp [cf_try, e]
  · simp [cf_try, e]
def cf_pin (C : ja_S) (j : Nat) (x : Int32) : ja_S := jb_u (cf_try C j x).2 2 0 (cf_try C j x).1
def cp_pin (C : ja_S) (x : Int32) : Int32 × Int32 × ja_S :=
  if ¬ C 1 0 = -1 ∧ C 2 0 = 0 then
    if cf_pin C (C 1 0).toNatClampNeg x 16 (C 1 0).toNatClampNeg = 0 then (0, cf_pin C (C 1 0).toNatClampNeg x 15 (C 1 0).toNatClampNeg, cf_pin C (C 1 0).toNatClampNeg x)
    else (0, cf_pin C (C 1 0).toNatClampNeg x 15 (C 1 0).toNatClampNeg, cf_end (cf_pin C (C 1 0).toNatClampNeg x))
  else (1, 0, C)
def cf_boot (C : ja_S) : ja_S := if C 9 0 ≤ 0 then jb_u C 0 0 1 else cf_rec (jb_u C 0 0 1) ((C 9 0).toNatClampNeg - 1)
def cp_boot (C : ja_S) : Int32 × Int32 × ja_S := if C 0 0 = 0 then (0, cf_boot C 10 0, cf_boot C) else (1, 0, C)
def cp_tr (C : ja_S) (a b : Int32) : Int32 × Int32 × ja_S :=
  if jp_in a 1 (C 9 0) then
    if b = 0 then (0, C 22 (a.toNatClampNeg - 1), C) else if b = 1 then (0, C 20 (a.toNatClampNeg - 1), C) else if b = 2 then (0, C 21 (a.toNatClampNeg - 1), C) else if b = 3 then (0, C 23 (a.toNatClampNeg - 1), C) else (2, 0, C)
  else (1, 0, C)
def cp_ct (C : ja_S) (b : Int32) : Int32 × Int32 × ja_S :=
  if b = 0 then (0, C 9 0, C) else if b = 1 then (0, C 10 0, C) else if b = 2 then (0, C 4 0, C) else if b = 3 then (0, if C 0 0 = 0 then 0 else 1, C) else if b = 4 then (0, C 1 0, C) else if b = 5 then (0, if C 2 0 = 0 then 0 else 1, C) else if b = 6 then (0, C 6 0, C) else if b = 7 then (0, jp_ct (C 16) 8, C) else (1, 0, C)
def cf_stl : Nat → ja_S → Nat → Nat × ja_S
  | 0, C, i => (i, C)
  | n + 1, C, i => if nI i < C 10 0 then (if (cf_xv C (C 30 i).toNatClampNeg (C 31 i)).1 = 0 then (i, (cf_xv C (C 30 i).toNatClampNeg (C 31 i)).2) else cf_stl n (cf_xv C (C 30 i).toNatClampNeg (C 31 i)).2 (i + 1)) else (i, C)
def cp_stl (C : ja_S) : Int32 × Int32 × ja_S := if C 0 0 = 0 then (1, 0, C) else (0, nI (cf_stl 41 C 0).1, cf_drop (cf_stl 41 C 0).2 (C 10 0).toNatClampNeg (cf_stl 41 C 0).1)
theorem jp_xv_v {C : ja_S} {t v : Nat} {x : Int32} (h4 : Nat.beq v 4 = false) (h27 : Nat.beq v 27 = false) (h14 : Nat.beq v 14 = false) (h26 : Nat.beq v 26 = false) : (cf_xv C t x).2 v = C v := by
  unfold cf_xv; split
  · exact jp_fate_v h4 h27
  · show (if (cf_fate C).1 = 3 then cf_rev (cf_rev (cf_fate C).2 t x) t x else cf_rev (cf_fate C).2 t x) v = _
    split
    · rw [jp_rev_v h14 h26, jp_rev_v h14 h26, jp_fate_v h4 h27]
    · rw [jp_rev_v h14 h26, jp_fate_v h4 h27]
theorem jp_fate_4 {C : ja_S} {n : Nat} (hn : n ≤ 8) (h : C 4 0 = nI n) : ∃ n', n' ≤ 8 ∧ (cf_fate C).2 4 0 = nI n' := by
  unfold cf_fate; split
  · exact ⟨n, hn, h⟩
  · rename_i h0
    have h1 : 0 < n := Nat.pos_of_ne_zero (fun q => h0 (by rw [h, q]; rfl))
    refine ⟨n - 1, by omega, ?_⟩
    show upd (C 4) 0 (C 4 0 - 1) 0 = _
    rw [pk_us, h, jp_m1 h1]
theorem jp_xv_4 {C : ja_S} {t n : Nat} {x : Int32} (hn : n ≤ 8) (h : C 4 0 = nI n) : ∃ n', n' ≤ 8 ∧ (cf_xv C t x).2 4 0 = nI n' := by
  obtain ⟨n', h1, h2⟩ := jp_fate_4 hn h
  refine ⟨n', h1, ?_⟩
  unfold cf_xv; split
  · exact h2
  · show (if (cf_fate C).1 = 3 then cf_rev (cf_rev (cf_fate C).2 t x) t x else cf_rev (cf_fate C).2 t x) 4 0 = _
    split
    · rw [jp_rev_v rfl rfl, jp_rev_v rfl rfl]; exact h2
    · rw [jp_rev_v rfl rfl]; exact h2
/-- what the pending reversals are: of traces whose account is known where they were approved -/
def jp_pd (C : ja_S) (k : Nat) : Prop := ∀ i, i < k → ∃ t, t < 41 ∧ C 30 i = nI t ∧ (C 24 t = 2 → ∃ j, j < 8 ∧ C 25 t = nI j)
set_option maxRecDepth 100000 in
theorem co_C_pin {l : Launch} {s0 : State} {a0 : Array Value} {G : jb_Gt} {ad : Nat → Nat} (K : jo_G s0 a0 G ad) {S : ja_S} (hfl : l.stackTraces = false) (x : Int32) (hs : S 1 0 = -1 ∨ ∃ j, j < 8 ∧ S 1 0 = nI j) : jo_Y l s0 G ad jy_C_pin jc_C_pin 3 (some .int) 6 [.ref (ad 0), .int x] S (jo_ps (cp_pin S x)) (jo_ts ["java/lang/IllegalStateException"] (cp_pin S x)) := by
  refine jo_ofB K (by decide) rfl (Nat.le_of_ble_eq_true rfl) ?_
  intro p e s m args below meth c O hr hk
  refine ja_aload_n O (q := 1) jd_C_pin_0 rfl rfl rfl ?_
  refine jg_C_48 O (q := 4) jd_C_pin_1 rfl ?_
  refine ja_iconst O (q := 5) (v := (-1)) jd_C_pin_4 rfl (by decide) ?_
  refine ja_icmp_eq O (g := 15) (q := 8) jd_C_pin_5 (by decide) rfl (fun h_5 => ?_) (fun h_5 => ?_)
  · exact jo_th K hfl O (fun _ _ Z => jt_atS Z) (by decide) jw_348 jw_349 jw_16 hk (by decide) (Nat.le_of_ble_eq_true rfl) ⟨by decide, by decide⟩ jd_C_pin_15 jd_C_pin_18 jd_C_pin_19 jd_C_pin_22 ⟨⟨0, rfl, by
        have q : ¬ (¬ S 1 0 = -1 ∧ S 2 0 = 0) := by first | exact fun q => q.1 h_5 | exact fun q => h_12 q.2
        simp only [cp_pin, if_neg q]; first | done | rfl⟩, by
        have q : ¬ (¬ S 1 0 = -1 ∧ S 2 0 = 0) := by first | exact fun q => q.1 h_5 | exact fun q => h_12 q.2
        simp only [cp_pin, if_neg q]; first | done | rfl⟩
  · refine ja_aload_n O (q := 9) jd_C_pin_8 rfl rfl rfl ?_
    refine jg_C_52 O (q := 12) jd_C_pin_9 rfl ?_
    refine ja_if_eq O (g := 23) (q := 15) jd_C_pin_12 (by decide) rfl (fun h_12 => ?_) (fun h_12 => ?_)
    · have i4 : ¬ S 1 0 = -1 ∧ S 2 0 = 0 := ⟨h_5, h_12⟩
      obtain ⟨j, hj, hj1⟩ := hs.resolve_left h_5
      have hcl : (S 1 0).toNatClampNeg = j := by rw [hj1]; exact nI_clamp (by omega)
      refine ja_aload_n O (q := 24) jd_C_pin_23 rfl rfl rfl ?_
      refine jg_C_10 O (q := 27) jd_C_pin_24 rfl ?_
      refine jg_C_88 O (q := 30) jd_C_pin_27 rfl ?_
      refine ja_aload_n O (q := 31) jd_C_pin_30 rfl rfl rfl ?_
      refine jg_C_48 O (q := 34) jd_C_pin_31 rfl ?_
      refine jl_8 O (k := j) hj1 (by first | assumption | omega) (q := 35) jd_C_pin_34 rfl ?_
      refine ja_astore_n O (q := 36) jd_C_pin_35 rfl rfl (by decide) ?_
      refine ja_aload_n O (q := 37) jd_C_pin_36 rfl rfl rfl ?_
      refine ja_aload_n O (q := 38) jd_C_pin_37 rfl rfl rfl ?_
      refine ja_iload_n O (q := 39) jd_C_pin_38 rfl rfl rfl ?_
      refine jm_C_103 O (by first | assumption | omega) (d := 1) ⟨by decide, by decide⟩ (Nat.le_of_ble_eq_true rfl) ⟨by decide, by decide⟩ (co_A_tryPin K j hj x) (q := 42) jd_C_pin_39 rfl (fun r S' h => ?_)
      obtain ⟨rfl, rfl, hb9⟩ := jp_try h
      refine jp_C_52 O (by first | assumption | exact Or.inl rfl | exact Or.inr rfl) (q := 45) jd_C_pin_42 rfl ?_
      refine (show ja_V p l e (jo_r1 6) s m args below meth c (jb_W G ad) s0.heap.size 3 0 0 _ (cf_pin S j x) 45 _ _ from ?_)
      refine ja_aload_n O (q := 46) jd_C_pin_45 rfl rfl rfl ?_
      refine jg_C_92 O (by first | assumption | omega) (q := 49) jd_C_pin_46 rfl ?_
      refine ja_if_eq O (g := 56) (q := 52) jd_C_pin_49 (by decide) rfl (fun h_49 => ?_) (fun h_49 => ?_)
      · refine ja_aload_n O (q := 57) jd_C_pin_56 rfl rfl rfl ?_
        refine jg_C_100 O (by first | assumption | omega) (q := 60) jd_C_pin_57 rfl ?_
        exact jo_irB O hr hk (by first | (simp only [jo_ps, cp_pin, if_pos i4, hcl, if_pos h_49]; exact ⟨trivial, trivial, trivial⟩) | (simp only [jo_ps, cp_pin, if_pos i4, hcl, if_neg h_49]; exact ⟨trivial, rfl, rfl⟩)) jd_C_pin_60
      · refine ja_aload_n O (q := 53) jd_C_pin_52 rfl rfl rfl ?_
        refine jm_C_106 O (d := 1) ⟨by decide, by decide⟩ (Nat.le_of_ble_eq_true rfl) ⟨by decide, by decide⟩ (co_C_endSession K) (q := 56) jd_C_pin_53 rfl (fun S' h => ?_)
        subst h
        refine ja_aload_n O (q := 57) jd_C_pin_56 rfl rfl rfl ?_
        refine jg_C_100 O (by first | assumption | omega) (q := 60) jd_C_pin_57 rfl ?_
        exact jo_irB O hr hk (by first | (simp only [jo_ps, cp_pin, if_pos i4, hcl, if_pos h_49]; exact ⟨trivial, trivial, trivial⟩) | (simp only [jo_ps, cp_pin, if_pos i4, hcl, if_neg h_49]; exact ⟨trivial, rfl, rfl⟩)) jd_C_pin_60
    · exact jo_th K hfl O (fun _ _ Z => jt_atS Z) (by decide) jw_348 jw_349 jw_16 hk (by decide) (Nat.le_of_ble_eq_true rfl) ⟨by decide, by decide⟩ jd_C_pin_15 jd_C_pin_18 jd_C_pin_19 jd_C_pin_22 ⟨⟨0, rfl, by
          have q : ¬ (¬ S 1 0 = -1 ∧ S 2 0 = 0) := by first | exact fun q => q.1 h_5 | exact fun q => h_12 q.2
          simp only [cp_pin, if_neg q]; first | done | rfl⟩, by
          have q : ¬ (¬ S 1 0 = -1 ∧ S 2 0 = 0) := by first | exact fun q => q.1 h_5 | exact fun q => h_12 q.2
          simp only [cp_pin, if_neg q]; first | done | rfl⟩
set_option maxRecDepth 100000 in
theorem co_C_boot {l : Launch} {s0 : State} {a0 : Array Value} {G : jb_Gt} {ad : Nat → Nat} (K : jo_G s0 a0 G ad) {S : ja_S} (hfl : l.stackTraces = false) (t k : Nat) (ht : t ≤ 40) (h9 : S 9 0 = nI t) (h10 : S 10 0 = nI k) (hk9 : ∀ e, t = e + 1 → (S 22 e = 1 ∨ S 22 e = 2) → k < 40) : jo_Y l s0 G ad jy_C_boot jc_C_boot 1 (some .int) 6 [.ref (ad 0)] S (jo_ps (cp_boot S)) (jo_ts ["java/lang/IllegalStateException"] (cp_boot S)) := by
  refine jo_ofB K (by decide) rfl (Nat.le_of_ble_eq_true rfl) ?_
  intro p e s m args below meth c O hr hk
  refine ja_aload_n O (q := 1) jd_C_boot_0 rfl rfl rfl ?_
  refine jg_C_44 O (q := 4) jd_C_boot_1 rfl ?_
  refine ja_if_eq O (g := 15) (q := 7) jd_C_boot_4 (by decide) rfl (fun h_4 => ?_) (fun h_4 => ?_)
  · refine ja_aload_n O (q := 16) jd_C_boot_15 rfl rfl rfl ?_
    refine ja_iconst O (q := 17) (v := 1) jd_C_boot_16 rfl (by decide) ?_
    refine jp_C_44 O (by first | assumption | exact Or.inl rfl | exact Or.inr rfl) (q := 20) jd_C_boot_17 rfl ?_
    refine ja_aload_n O (q := 21) jd_C_boot_20 rfl rfl rfl ?_
    refine jg_C_33 O (q := 24) jd_C_boot_21 rfl ?_
    refine jg_C_112 O (q := 27) jd_C_boot_24 rfl ?_
    refine ja_if_le O (g := 41) (q := 30) jd_C_boot_27 (by decide) rfl (fun h_27 => ?_) (fun h_27 => ?_)
    · refine ja_aload_n O (q := 42) jd_C_boot_41 rfl rfl rfl ?_
      refine jg_C_40 O (q := 45) jd_C_boot_42 rfl ?_
      refine jg_C_152 O (q := 48) jd_C_boot_45 rfl ?_
      exact jo_irB O hr hk (by first | (have q : cf_boot S = cf_rec (jb_u S 0 0 1) e9 := (by simp only [cf_boot]; rw [if_neg (show ¬ S 9 0 ≤ 0 from h_27), hcl]); simp only [jo_ps, cp_boot, if_pos h_4, q]; exact ⟨trivial, trivial, trivial⟩) | (have q : cf_boot S = jb_u S 0 0 1 := (by simp only [cf_boot]; rw [if_pos (show S 9 0 ≤ 0 from h_27)]); simp only [jo_ps, cp_boot, if_pos h_4, q]; exact ⟨trivial, trivial, trivial⟩)) jd_C_boot_48
    · have h9p : 0 < t := by
        rcases Nat.eq_zero_or_pos t with z | z
        · exact absurd (show S 9 0 ≤ 0 by rw [h9, z]; decide) h_27
        · exact z
      obtain ⟨e9, rfl⟩ : ∃ e9, t = e9 + 1 := ⟨t - 1, by omega⟩
      have hcl : (S 9 0).toNatClampNeg - 1 = e9 := by rw [h9, nI_clamp (by omega)]; omega
      refine ja_aload_n O (q := 31) jd_C_boot_30 rfl rfl rfl ?_
      refine ja_aload_n O (q := 32) jd_C_boot_31 rfl rfl rfl ?_
      refine jg_C_33 O (q := 35) jd_C_boot_32 rfl ?_
      refine jm_C_144 O (d := 1) ⟨by decide, by decide⟩ (Nat.le_of_ble_eq_true rfl) ⟨by decide, by decide⟩ (co_J_last K (S := jb_u S 0 0 1) e9 (by omega) h9) (q := 38) jd_C_boot_35 rfl (fun r S' h => ?_)
      obtain ⟨rfl, e8⟩ := h
      subst e8
      refine jm_C_148 O (d := 3) ⟨by decide, by decide⟩ (Nat.le_of_ble_eq_true rfl) ⟨by decide, by decide⟩ (co_C_recover K (S := jb_u S 0 0 1) e9 (by omega) k (hk9 e9 rfl) h10) (q := 41) jd_C_boot_38 rfl (fun S' h => ?_)
      subst h
      refine ja_aload_n O (q := 42) jd_C_boot_41 rfl rfl rfl ?_
      refine jg_C_40 O (q := 45) jd_C_boot_42 rfl ?_
      refine jg_C_152 O (q := 48) jd_C_boot_45 rfl ?_
      exact jo_irB O hr hk (by first | (have q : cf_boot S = cf_rec (jb_u S 0 0 1) e9 := (by simp only [cf_boot]; rw [if_neg (show ¬ S 9 0 ≤ 0 from h_27), hcl]); simp only [jo_ps, cp_boot, if_pos h_4, q]; exact ⟨trivial, trivial, trivial⟩) | (have q : cf_boot S = jb_u S 0 0 1 := (by simp only [cf_boot]; rw [if_pos (show S 9 0 ≤ 0 from h_27)]); simp only [jo_ps, cp_boot, if_pos h_4, q]; exact ⟨trivial, trivial, trivial⟩)) jd_C_boot_48
  · exact jo_th K hfl O (fun _ _ Z => jt_atS Z) (by decide) jw_348 jw_349 jw_16 hk (by decide) (Nat.le_of_ble_eq_true rfl) ⟨by decide, by decide⟩ jd_C_boot_7 jd_C_boot_10 jd_C_boot_11 jd_C_boot_14 ⟨⟨0, rfl, by
        simp only [cp_boot, if_neg h_4]; first | done | rfl⟩, by
        simp only [cp_boot, if_neg h_4]; first | done | rfl⟩
set_option maxRecDepth 100000 in
theorem co_C_trace {l : Launch} {s0 : State} {a0 : Array Value} {G : jb_Gt} {ad : Nat → Nat} (K : jo_G s0 a0 G ad) {S : ja_S} (hfl : l.stackTraces = false) (a b : Int32) (t : Nat) (ht : t ≤ 40) (h9 : S 9 0 = nI t) : jo_Y l s0 G ad jy_C_trace jc_C_trace 4 (some .int) 6 [.ref (ad 0), .int a, .int b] S (jo_ps (cp_tr S a b)) (jo_ts ["java/util/NoSuchElementException", "java/lang/IllegalArgumentException"] (cp_tr S a b)) := by
  refine jo_ofB K (by decide) rfl (Nat.le_of_ble_eq_true rfl) ?_
  intro p e s m args below meth c O hr hk
  refine ja_iload_n O (q := 1) jd_C_trace_0 rfl rfl rfl ?_
  refine ja_iconst O (q := 2) (v := 1) jd_C_trace_1 rfl (by decide) ?_
  refine ja_aload_n O (q := 3) jd_C_trace_2 rfl rfl rfl ?_
  refine jg_C_33 O (q := 6) jd_C_trace_3 rfl ?_
  refine jg_C_112 O (q := 9) jd_C_trace_6 rfl ?_
  refine jm_C_58 O (d := 1) ⟨by decide, by decide⟩ (Nat.le_of_ble_eq_true rfl) ⟨by decide, by decide⟩ (co_C_isWithin K a 1 (S 9 0)) (q := 12) jd_C_trace_9 rfl (fun r S' h => ?_)
  obtain ⟨e9, -, hin_9⟩ := h
  have e9 := e9.symm
  subst e9
  refine ja_if_ne O (g := 23) (q := 15) jd_C_trace_12 (by decide) rfl (fun h_12 => ?_) (fun h_12 => ?_)
  · have i1 := jp_no hin_9 h_12
    have i2 : ∃ e9, e9 < 40 ∧ a = nI (e9 + 1) := by
      have i3 := i1
      rw [h9] at i3
      obtain ⟨j, hj, e8⟩ := jp_in_nI (n := t) (by omega) ⟨Int32.le_trans (by decide) i3.1, i3.2⟩
      subst e8
      have : 1 ≤ j := (nI_leI (by decide) (by omega)).mp i3.1
      exact ⟨j - 1, by omega, by rw [show j - 1 + 1 = j by omega]⟩
    obtain ⟨e9, he9, rfl⟩ := i2
    have hcl : (nI (e9 + 1)).toNatClampNeg - 1 = e9 := by rw [nI_clamp (by omega)]; omega
    refine ja_aload_n O (q := 24) jd_C_trace_23 rfl rfl rfl ?_
    refine jg_C_33 O (q := 27) jd_C_trace_24 rfl ?_
    refine jg_C_162 O (q := 30) jd_C_trace_27 rfl ?_
    refine ja_iload_n O (q := 31) jd_C_trace_30 rfl rfl rfl ?_
    refine ja_iconst O (q := 32) (v := 1) jd_C_trace_31 rfl (by decide) ?_
    refine ja_isub O (q := 33) jd_C_trace_32 rfl ?_
    refine jl_16 O (k := e9) (nI_pred e9) (by first | assumption | omega) (q := 34) jd_C_trace_33 rfl ?_
    refine ja_astore_n O (q := 35) jd_C_trace_34 rfl rfl (by decide) ?_
    refine ja_iload_n O (q := 36) jd_C_trace_35 rfl rfl rfl ?_
    by_cases b_0 : b = 0
    · subst b_0
      refine ja_tableIn O (g := 68) jd_C_trace_36 (by decide) (by decide) (by rfl) (by decide) ?_
      refine ja_aload_n O (q := 69) jd_C_trace_68 rfl rfl rfl ?_
      refine jg_C_166 O (by first | assumption | omega) (q := 72) jd_C_trace_69 rfl ?_
      exact jo_irB O hr hk (by simp only [jo_ps, cp_tr, if_pos i1, hcl]; exact ⟨rfl, rfl, rfl⟩) jd_C_trace_72
    by_cases b_1 : b = 1
    · subst b_1
      refine ja_tableIn O (g := 73) jd_C_trace_36 (by decide) (by decide) (by rfl) (by decide) ?_
      refine ja_aload_n O (q := 74) jd_C_trace_73 rfl rfl rfl ?_
      refine jg_C_171 O (by first | assumption | omega) (q := 77) jd_C_trace_74 rfl ?_
      exact jo_irB O hr hk (by simp only [jo_ps, cp_tr, if_pos i1, hcl]; exact ⟨rfl, rfl, rfl⟩) jd_C_trace_77
    by_cases b_2 : b = 2
    · subst b_2
      refine ja_tableIn O (g := 78) jd_C_trace_36 (by decide) (by decide) (by rfl) (by decide) ?_
      refine ja_aload_n O (q := 79) jd_C_trace_78 rfl rfl rfl ?_
      refine jg_C_174 O (by first | assumption | omega) (q := 82) jd_C_trace_79 rfl ?_
      exact jo_irB O hr hk (by simp only [jo_ps, cp_tr, if_pos i1, hcl]; exact ⟨rfl, rfl, rfl⟩) jd_C_trace_82
    by_cases b_3 : b = 3
    · subst b_3
      refine ja_tableIn O (g := 83) jd_C_trace_36 (by decide) (by decide) (by rfl) (by decide) ?_
      refine ja_aload_n O (q := 84) jd_C_trace_83 rfl rfl rfl ?_
      refine jg_C_177 O (by first | assumption | omega) (q := 87) jd_C_trace_84 rfl ?_
      exact jo_irB O hr hk (by simp only [jo_ps, cp_tr, if_pos i1, hcl]; exact ⟨rfl, rfl, rfl⟩) jd_C_trace_87
    have n_0 := lv_neT b_0 (a := 0) (by decide)
    have n_1 := lv_neT b_1 (a := 1) (by decide)
    have n_2 := lv_neT b_2 (a := 2) (by decide)
    have n_3 := lv_neT b_3 (a := 3) (by decide)
    refine ja_tableOut O (g := 88) jd_C_trace_36 (by omega) (by decide) ?_
    exact jo_th K hfl O (fun _ _ Z => jt_atA Z) (by decide) jw_278 jw_279 jw_15 hk (by decide) (Nat.le_of_ble_eq_true rfl) ⟨by decide, by decide⟩ jd_C_trace_88 jd_C_trace_91 jd_C_trace_92 jd_C_trace_95 ⟨⟨1, rfl, by
        simp only [cp_tr, if_pos i1, if_neg b_0, if_neg b_1, if_neg b_2, if_neg b_3]; first | done | rfl⟩, by
        simp only [cp_tr, if_pos i1, if_neg b_0, if_neg b_1, if_neg b_2, if_neg b_3]; first | done | rfl⟩
  · exact jo_th K hfl O (fun _ _ Z => jt_atN Z) (by decide) jw_391 jw_392 jw_17 hk (by decide) (Nat.le_of_ble_eq_true rfl) ⟨by decide, by decide⟩ jd_C_trace_15 jd_C_trace_18 jd_C_trace_19 jd_C_trace_22 ⟨⟨0, rfl, by
        simp only [cp_tr, if_neg (hin_9.mp h_12)]; first | done | rfl⟩, by
        simp only [cp_tr, if_neg (hin_9.mp h_12)]; first | done | rfl⟩
set_option maxRecDepth 100000 in
theorem co_C_count {l : Launch} {s0 : State} {a0 : Array Value} {G : jb_Gt} {ad : Nat → Nat} (K : jo_G s0 a0 G ad) {S : ja_S} (hfl : l.stackTraces = false) (b : Int32) : jo_Y l s0 G ad jy_C_count jc_C_count 2 (some .int) 6 [.ref (ad 0), .int b] S (jo_ps (cp_ct S b)) (jo_ts ["java/lang/IllegalArgumentException"] (cp_ct S b)) := by
  refine jo_ofB K (by decide) rfl (Nat.le_of_ble_eq_true rfl) ?_
  intro p e s m args below meth c O hr hk
  refine ja_iload_n O (q := 1) jd_C_count_0 rfl rfl rfl ?_
  by_cases b_0 : b = 0
  · subst b_0
    refine ja_tableIn O (g := 48) jd_C_count_1 (by decide) (by decide) (by rfl) (by decide) ?_
    refine ja_aload_n O (q := 49) jd_C_count_48 rfl rfl rfl ?_
    refine jg_C_33 O (q := 52) jd_C_count_49 rfl ?_
    refine jg_C_112 O (q := 55) jd_C_count_52 rfl ?_
    exact jo_irB O hr hk (by simp only [jo_ps, cp_ct]; exact ⟨rfl, rfl, rfl⟩) jd_C_count_55
  by_cases b_1 : b = 1
  · subst b_1
    refine ja_tableIn O (g := 56) jd_C_count_1 (by decide) (by decide) (by rfl) (by decide) ?_
    refine ja_aload_n O (q := 57) jd_C_count_56 rfl rfl rfl ?_
    refine jg_C_40 O (q := 60) jd_C_count_57 rfl ?_
    refine jg_C_152 O (q := 63) jd_C_count_60 rfl ?_
    exact jo_irB O hr hk (by simp only [jo_ps, cp_ct]; exact ⟨rfl, rfl, rfl⟩) jd_C_count_63
  by_cases b_2 : b = 2
  · subst b_2
    refine ja_tableIn O (g := 64) jd_C_count_1 (by decide) (by decide) (by rfl) (by decide) ?_
    refine ja_aload_n O (q := 65) jd_C_count_64 rfl rfl rfl ?_
    refine jg_C_19 O (q := 68) jd_C_count_65 rfl ?_
    refine jg_C_136 O (q := 71) jd_C_count_68 rfl ?_
    exact jo_irB O hr hk (by simp only [jo_ps, cp_ct]; exact ⟨rfl, rfl, rfl⟩) jd_C_count_71
  by_cases b_3 : b = 3
  · subst b_3
    refine ja_tableIn O (g := 72) jd_C_count_1 (by decide) (by decide) (by rfl) (by decide) ?_
    refine ja_aload_n O (q := 73) jd_C_count_72 rfl rfl rfl ?_
    refine jg_C_44 O (q := 76) jd_C_count_73 rfl ?_
    refine ja_if_eq O (g := 83) (q := 79) jd_C_count_76 (by decide) rfl (fun h_76 => ?_) (fun h_76 => ?_)
    · refine ja_iconst O (q := 84) (v := 0) jd_C_count_83 rfl (by decide) ?_
      exact jo_irB O hr hk (by simp only [jo_ps, cp_ct]; simp [h_76]) jd_C_count_84
    · refine ja_iconst O (q := 80) (v := 1) jd_C_count_79 rfl (by decide) ?_
      refine ja_goto O (g := 84) jd_C_count_80 (by decide) ?_
      exact jo_irB O hr hk (by simp only [jo_ps, cp_ct]; simp [h_76]) jd_C_count_84
  by_cases b_4 : b = 4
  · subst b_4
    refine ja_tableIn O (g := 85) jd_C_count_1 (by decide) (by decide) (by rfl) (by decide) ?_
    refine ja_aload_n O (q := 86) jd_C_count_85 rfl rfl rfl ?_
    refine jg_C_48 O (q := 89) jd_C_count_86 rfl ?_
    exact jo_irB O hr hk (by simp only [jo_ps, cp_ct]; exact ⟨rfl, rfl, rfl⟩) jd_C_count_89
  by_cases b_5 : b = 5
  · subst b_5
    refine ja_tableIn O (g := 90) jd_C_count_1 (by decide) (by decide) (by rfl) (by decide) ?_
    refine ja_aload_n O (q := 91) jd_C_count_90 rfl rfl rfl ?_
    refine jg_C_52 O (q := 94) jd_C_count_91 rfl ?_
    refine ja_if_eq O (g := 101) (q := 97) jd_C_count_94 (by decide) rfl (fun h_94 => ?_) (fun h_94 => ?_)
    · refine ja_iconst O (q := 102) (v := 0) jd_C_count_101 rfl (by decide) ?_
      exact jo_irB O hr hk (by simp only [jo_ps, cp_ct]; simp [h_94]) jd_C_count_102
    · refine ja_iconst O (q := 98) (v := 1) jd_C_count_97 rfl (by decide) ?_
      refine ja_goto O (g := 102) jd_C_count_98 (by decide) ?_
      exact jo_irB O hr hk (by simp only [jo_ps, cp_ct]; simp [h_94]) jd_C_count_102
  by_cases b_6 : b = 6
  · subst b_6
    refine ja_tableIn O (g := 103) jd_C_count_1 (by decide) (by decide) (by rfl) (by decide) ?_
    refine ja_aload_n O (q := 104) jd_C_count_103 rfl rfl rfl ?_
    refine jg_C_26 O (q := 107) jd_C_count_104 rfl ?_
    refine jg_C_195 O (q := 110) jd_C_count_107 rfl ?_
    exact jo_irB O hr hk (by simp only [jo_ps, cp_ct]; exact ⟨rfl, rfl, rfl⟩) jd_C_count_110
  by_cases b_7 : b = 7
  · subst b_7
    refine ja_tableIn O (g := 111) jd_C_count_1 (by decide) (by decide) (by rfl) (by decide) ?_
    refine ja_aload_n O (q := 112) jd_C_count_111 rfl rfl rfl ?_
    refine jg_C_10 O (q := 115) jd_C_count_112 rfl ?_
    refine jm_C_198 O (d := 1) ⟨by decide, by decide⟩ (Nat.le_of_ble_eq_true rfl) ⟨by decide, by decide⟩ (co_H_blockedAccounts K) (q := 118) jd_C_count_115 rfl (fun r S' h => ?_)
    obtain ⟨e9, rfl⟩ := h
    have e9 := e9.symm
    subst e9
    exact jo_irB O hr hk (by simp only [jo_ps, cp_ct]; exact ⟨rfl, rfl, rfl⟩) jd_C_count_118
  have n_0 := lv_neT b_0 (a := 0) (by decide)
  have n_1 := lv_neT b_1 (a := 1) (by decide)
  have n_2 := lv_neT b_2 (a := 2) (by decide)
  have n_3 := lv_neT b_3 (a := 3) (by decide)
  have n_4 := lv_neT b_4 (a := 4) (by decide)
  have n_5 := lv_neT b_5 (a := 5) (by decide)
  have n_6 := lv_neT b_6 (a := 6) (by decide)
  have n_7 := lv_neT b_7 (a := 7) (by decide)
  refine ja_tableOut O (g := 119) jd_C_count_1 (by omega) (by decide) ?_
  exact jo_th K hfl O (fun _ _ Z => jt_atA Z) (by decide) jw_278 jw_279 jw_15 hk (by decide) (Nat.le_of_ble_eq_true rfl) ⟨by decide, by decide⟩ jd_C_count_119 jd_C_count_122 jd_C_count_123 jd_C_count_126 ⟨⟨0, rfl, by
      simp only [cp_ct, if_neg b_0, if_neg b_1, if_neg b_2, if_neg b_3, if_neg b_4, if_neg b_5, if_neg b_6, if_neg b_7]; first | done | rfl⟩, by
      simp only [cp_ct, if_neg b_0, if_neg b_1, if_neg b_2, if_neg b_3, if_neg b_4, if_neg b_5, if_neg b_6, if_neg b_7]; first | done | rfl⟩
set_option maxRecDepth 100000 in
theorem co_C_settle {l : Launch} {s0 : State} {a0 : Array Value} {G : jb_Gt} {ad : Nat → Nat} (K : jo_G s0 a0 G ad) {S : ja_S} (hfl : l.stackTraces = false) (k n0 : Nat) (hk9 : k ≤ 40) (hn0 : n0 ≤ 8) (h4 : S 4 0 = nI n0) (h10 : S 10 0 = nI k) (hpd0 : jp_pd S k) : jo_Y l s0 G ad jy_C_settle jc_C_settle 2 (some .int) 6 [.ref (ad 0)] S (jo_ps (cp_stl S)) (jo_ts ["java/lang/IllegalStateException"] (cp_stl S)) := by
  refine jo_ofB K (by decide) rfl (Nat.le_of_ble_eq_true rfl) ?_
  intro p e s m args below meth c O hr hk
  refine ja_aload_n O (q := 1) jd_C_settle_0 rfl rfl rfl ?_
  refine jg_C_44 O (q := 4) jd_C_settle_1 rfl ?_
  refine ja_if_ne O (g := 15) (q := 7) jd_C_settle_4 (by decide) rfl (fun h_4 => ?_) (fun h_4 => ?_)
  · have loop : ∀ (n : Nat) (i : Nat) (C : ja_S) (n1 : Nat), n1 ≤ 8 → C 4 0 = nI n1 → C 10 0 = nI k → jp_pd C k → i ≤ k → 40 < i + n → cf_stl n C i = cf_stl 41 S 0 → ja_V p l e (jo_r1 6) s m args below meth c (jb_W G ad) s0.heap.size 2 0 0 (jo_E s0 G ad below args s (jo_ps (cp_stl S)) (jo_ts ["java/lang/IllegalStateException"] (cp_stl S))) (C) 17 [(0, .ref (ad 0)), (1, .int (nI i))] [] := by
      intro n
      induction n with
      | zero => intro i C n1 hn1 g4 g10 hpd hi hn hE; exact absurd hn (by omega)
      | succ n ih =>
        intro i C n1 hn1 g4 g10 hpd hi hn hE
        refine ja_iload_n O (q := 18) jd_C_settle_17 rfl rfl rfl ?_
        refine ja_aload_n O (q := 19) jd_C_settle_18 rfl rfl rfl ?_
        refine jg_C_40 O (q := 22) jd_C_settle_19 rfl ?_
        refine jg_C_152 O (q := 25) jd_C_settle_22 rfl ?_
        refine ja_icmp_ge O (g := 42) (q := 28) jd_C_settle_25 (by decide) rfl (fun h_25 => ?_) (fun h_25 => ?_)
        · first
          | (have hz : (cf_xv C t (C 31 i)).1 = 0 := h_33
             generalize hC9 : (cf_xv C t (C 31 i)).2 = C9
             have g10 : C9 10 0 = nI k := (by rw [← hC9, jp_xv_v rfl rfl rfl rfl]; exact g10)
             have hE9 : cf_stl 41 S 0 = (i, C9) := (by rw [← hE, cf_stl, if_pos h25, htc, if_pos hz, hC9]))
          | (have hE9 : cf_stl 41 S 0 = (i, C) := (by rw [← hE, cf_stl, if_neg (fun q => by simp only [Int32.lt_iff_toInt_lt, Int32.le_iff_toInt_le] at *; omega)])
             obtain ⟨C9, rfl⟩ : ∃ C9, C9 = C := ⟨C, rfl⟩)
          refine ja_aload_n O (q := 43) jd_C_settle_42 rfl rfl rfl ?_
          refine jg_C_40 O (q := 46) jd_C_settle_43 rfl ?_
          refine ja_iload_n O (q := 47) jd_C_settle_46 rfl rfl rfl ?_
          refine jm_C_156 O (d := 1) ⟨by decide, by decide⟩ (Nat.le_of_ble_eq_true rfl) ⟨by decide, by decide⟩ (co_R_dropFirst K (S := C9) k i hi (by omega) g10) (q := 50) jd_C_settle_47 rfl (fun S' h => ?_)
          subst h
          refine ja_iload_n O (q := 51) jd_C_settle_50 rfl rfl rfl ?_
          exact jo_irB O hr hk (by simp only [jo_ps, cp_stl, if_neg h_4]; rw [hE9, h10, nI_clamp (by omega)]; exact ⟨trivial, rfl, rfl⟩) jd_C_settle_51
        · have h25 : nI i < C 10 0 := by simp only [Int32.lt_iff_toInt_lt, Int32.le_iff_toInt_le] at *; omega
          have hik : i < k := by rw [g10] at h25; exact (nI_ltI (by omega) (by omega)).mp h25
          obtain ⟨t, ht, h30, hj⟩ := hpd i hik
          have htc : (C 30 i).toNatClampNeg = t := by rw [h30]; exact nI_clamp (by omega)
          refine ja_aload_n O (q := 29) jd_C_settle_28 rfl rfl rfl ?_
          refine ja_iload_n O (q := 30) jd_C_settle_29 rfl rfl rfl ?_
          refine jm_C_153 O (d := 3) ⟨by decide, by decide⟩ (Nat.le_of_ble_eq_true rfl) ⟨by decide, by decide⟩ (co_C_exchangeReversal K (S := C) i t n1 (by omega) ht hn1 g4 h30 hj) (q := 33) jd_C_settle_30 rfl (fun r S' h => ?_)
          obtain ⟨rfl, rfl⟩ := h
          refine ja_if_eq O (g := 42) (q := 36) jd_C_settle_33 (by decide) rfl (fun h_33 => ?_) (fun h_33 => ?_)
          · first
            | (have hz : (cf_xv C t (C 31 i)).1 = 0 := h_33
               generalize hC9 : (cf_xv C t (C 31 i)).2 = C9
               have g10 : C9 10 0 = nI k := (by rw [← hC9, jp_xv_v rfl rfl rfl rfl]; exact g10)
               have hE9 : cf_stl 41 S 0 = (i, C9) := (by rw [← hE, cf_stl, if_pos h25, htc, if_pos hz, hC9]))
            | (have hE9 : cf_stl 41 S 0 = (i, C) := (by rw [← hE, cf_stl, if_neg (fun q => by simp only [Int32.lt_iff_toInt_lt, Int32.le_iff_toInt_le] at *; omega)])
               obtain ⟨C9, rfl⟩ : ∃ C9, C9 = C := ⟨C, rfl⟩)
            refine ja_aload_n O (q := 43) jd_C_settle_42 rfl rfl rfl ?_
            refine jg_C_40 O (q := 46) jd_C_settle_43 rfl ?_
            refine ja_iload_n O (q := 47) jd_C_settle_46 rfl rfl rfl ?_
            refine jm_C_156 O (d := 1) ⟨by decide, by decide⟩ (Nat.le_of_ble_eq_true rfl) ⟨by decide, by decide⟩ (co_R_dropFirst K (S := C9) k i hi (by omega) g10) (q := 50) jd_C_settle_47 rfl (fun S' h => ?_)
            subst h
            refine ja_iload_n O (q := 51) jd_C_settle_50 rfl rfl rfl ?_
            exact jo_irB O hr hk (by simp only [jo_ps, cp_stl, if_neg h_4]; rw [hE9, h10, nI_clamp (by omega)]; exact ⟨trivial, rfl, rfl⟩) jd_C_settle_51
          · refine ja_iinc O (q := 39) (v := nI (i + 1)) jd_C_settle_36 rfl rfl (nI_1 i) (by decide) ?_
            refine ja_goto O (g := 17) jd_C_settle_39 (by decide) ?_
            refine ja_less (L' := [(0, .ref (ad 0)), (1, .int (nI (i + 1)))]) ⟨rfl, rfl, trivial⟩ ?_
            obtain ⟨n2, hn2, g4'⟩ := jp_xv_4 (t := t) (x := C 31 i) hn1 g4
            exact ih (i + 1) (cf_xv C t (C 31 i)).2 n2 hn2 g4' (by rw [jp_xv_v rfl rfl rfl rfl]; exact g10) (fun i' hi' => by rw [jp_xv_v rfl rfl rfl rfl, jp_xv_v rfl rfl rfl rfl, jp_xv_v rfl rfl rfl rfl]; exact hpd i' hi') (by omega) (by omega) (by rw [← hE, cf_stl, if_pos h25, htc, if_neg h_33])
    refine ja_iconst O (q := 16) (v := 0) jd_C_settle_15 rfl (by decide) ?_
    refine ja_istore_n O (q := 17) jd_C_settle_16 rfl rfl (by decide) ?_
    refine ja_less (L' := [(0, .ref (ad 0)), (1, .int (nI 0))]) ⟨rfl, rfl, trivial⟩ ?_
    exact loop 41 0 S n0 hn0 h4 h10 hpd0 (by omega) (by omega) rfl
  · exact jo_th K hfl O (fun _ _ Z => jt_atS Z) (by decide) jw_348 jw_349 jw_16 hk (by decide) (Nat.le_of_ble_eq_true rfl) ⟨by decide, by decide⟩ jd_C_settle_7 jd_C_settle_10 jd_C_settle_11 jd_C_settle_14 ⟨⟨0, rfl, by
        simp only [cp_stl, if_pos h_4]; first | done | rfl⟩, by
        simp only [cp_stl, if_pos h_4]; first | done | rfl⟩
