/-! CONTRACTS of the class, by program (wip/whole/gen/p13.py): public methods. cp_x C .. = (0 or the number of the exception as the law counts them, the answer, the state) -/
/-- y behaves as the function f: what it returns, what it throws (es: the classes in the order of their numbers) -/
abbrev jo_ps (f : Int32 × Int32 × ja_S) : Int32 → ja_S → Prop := fun r S' => f.1 = 0 ∧ r = f.2.1 ∧ S' = f.2.2
abbrev jo_ts (es : List String) (f : Int32 × Int32 × ja_S) : String → ja_S → Prop := fun E S' => (∃ k, es[k]? = some E ∧ f.1 = nI (k + 1)) ∧ S' = f.2.2
def cp_open (C : ja_S) (a b d : Int32) : Int32 × Int32 × ja_S :=
  if jp_in a 0 7 ∧ jp_in b 0 9999 ∧ jp_in d 0 1000000 then
    if C 11 a.toNatClampNeg = 0 then (0, jp_ct (jb_u (jb_u (jb_u (jb_u C 11 a.toNatClampNeg 1) 12 a.toNatClampNeg b) 13 a.toNatClampNeg d) 14 a.toNatClampNeg d 11) 8, jb_u (jb_u (jb_u (jb_u C 11 a.toNatClampNeg 1) 12 a.toNatClampNeg b) 13 a.toNatClampNeg d) 14 a.toNatClampNeg d)
    else (2, 0, C)
  else (1, 0, C)
def cp_load (C : ja_S) (a b d : Int32) : Int32 × Int32 × ja_S :=
  if jp_in a 0 3 ∧ jp_in b 1 500 ∧ jp_in d 0 50 then
    if C 1 0 = -1 then (0, C 17 a.toNatClampNeg * C 18 a.toNatClampNeg, jb_u (jb_u C 17 a.toNatClampNeg b) 18 a.toNatClampNeg d) else (2, 0, C)
  else (1, 0, C)
def cp_ins (C : ja_S) (a : Int32) : Int32 × Int32 × ja_S :=
  if ¬ C 0 0 = 0 ∧ C 1 0 = -1 then
    if jp_in a 0 7 ∧ ¬ C 11 a.toNatClampNeg = 0 then
      if C 16 a.toNatClampNeg = 0 then (0, C 15 a.toNatClampNeg, jb_u (jb_u C 1 0 a) 2 0 0) else (3, 0, C)
    else (2, 0, C)
  else (1, 0, C)
def cp_eject (C : ja_S) : Int32 × Int32 × ja_S := if C 1 0 = -1 then (1, 0, C) else (0, C 1 0, cf_end C)
def cp_line (C : ja_S) (a : Int32) : Int32 × Int32 × ja_S :=
  if jp_in a 0 3 then if C 4 0 < 8 then (0, C 4 0 + 1, jb_u (jb_u C 27 (C 4 0).toNatClampNeg a) 4 0 (C 4 0 + 1)) else (2, 0, C) else (1, 0, C)
def cp_jam (C : ja_S) (a : Int32) : Int32 × Int32 × ja_S := if jp_in a (-1) 100 then (0, if a = -1 then 0 else 1, jb_u C 5 0 a) else (1, 0, C)
def cp_pow (C : ja_S) (a : Int32) : Int32 × Int32 × ja_S := if jp_in a 0 4 then (0, if a = 0 then 0 else 1, jb_u C 3 0 a) else (1, 0, C)
def cp_bal (C : ja_S) (a : Int32) : Int32 × Int32 × ja_S := if jp_in a 0 7 ∧ ¬ C 11 a.toNatClampNeg = 0 then (0, C 14 a.toNatClampNeg, C) else (1, 0, C)
def cp_revl (C : ja_S) (a : Int32) : Int32 × Int32 × ja_S := if jp_in a 0 (C 10 0 - 1) then (0, C 31 a.toNatClampNeg, C) else (1, 0, C)
def cp_notes (C : ja_S) (a : Int32) : Int32 × Int32 × ja_S := if jp_in a 0 3 then (0, C 18 a.toNatClampNeg, C) else (1, 0, C)
theorem jp_op {C : ja_S} {a : Int32} : (∃ j, j < 8 ∧ a = nI j ∧ C 11 j ≠ 0) ↔ (jp_in a 0 7 ∧ ¬ C 11 a.toNatClampNeg = 0) := by
  constructor
  · rintro ⟨j, hj, rfl, h⟩
    exact ⟨jp_nI_in (n := 7) (by decide) (by omega), by rw [nI_clamp (by omega)]; exact h⟩
  · rintro ⟨h1, h2⟩
    obtain ⟨j, hj, rfl⟩ := jp_in_nI (n := 7) (by decide) h1
    exact ⟨j, by omega, rfl, by rw [nI_clamp (by omega)] at h2; exact h2⟩
theorem jp_no {P : Prop} {r : Int32} (h : r = 0 ↔ ¬ P) (q : ¬ r = 0) : P := Classical.byContradiction fun z => q (h.mpr z)
set_option maxRecDepth 100000 in
theorem co_C_open {l : Launch} {s0 : State} {a0 : Array Value} {G : jb_Gt} {ad : Nat → Nat} (K : jo_G s0 a0 G ad) {S : ja_S} (hfl : l.stackTraces = false) (a b d : Int32) : jo_Y l s0 G ad jy_C_open jc_C_open 4 (some .int) 6 [.ref (ad 0), .int a, .int b, .int d] S (jo_ps (cp_open S a b d)) (jo_ts ["java/lang/IllegalArgumentException", "java/lang/IllegalStateException"] (cp_open S a b d)) := by
  refine jo_ofB K (by decide) rfl (Nat.le_of_ble_eq_true rfl) ?_
  intro p e s m args below meth c O hr hk
  refine ja_iload_n O (q := 1) jd_C_open_0 rfl rfl rfl ?_
  refine ja_iconst O (q := 2) (v := 0) jd_C_open_1 rfl (by decide) ?_
  refine ja_bipush O (q := 4) (v := 7) jd_C_open_2 rfl (by decide) ?_
  refine jm_C_58 O (d := 1) ⟨by decide, by decide⟩ (Nat.le_of_ble_eq_true rfl) ⟨by decide, by decide⟩ (co_C_isWithin K a 0 7) (q := 7) jd_C_open_4 rfl (fun r S' h => ?_)
  obtain ⟨e9, -, hin_4⟩ := h
  have e9 := e9.symm
  subst e9
  refine ja_if_eq O (g := 31) (q := 10) jd_C_open_7 (by decide) rfl (fun h_7 => ?_) (fun h_7 => ?_)
  · exact jo_th K hfl O (fun _ _ Z => jt_atA Z) (by decide) jw_278 jw_279 jw_15 hk (by decide) (Nat.le_of_ble_eq_true rfl) ⟨by decide, by decide⟩ jd_C_open_31 jd_C_open_34 jd_C_open_35 jd_C_open_38 ⟨⟨0, rfl, by
        have q : ¬ (jp_in a 0 7 ∧ jp_in b 0 9999 ∧ jp_in d 0 1000000) := by first | exact fun q => (hin_4.mp h_7) q.1 | exact fun q => (hin_15.mp h_18) q.2.1 | exact fun q => (hin_25.mp h_28) q.2.2
        simp only [cp_open, if_neg q]; first | done | rfl⟩, by
        have q : ¬ (jp_in a 0 7 ∧ jp_in b 0 9999 ∧ jp_in d 0 1000000) := by first | exact fun q => (hin_4.mp h_7) q.1 | exact fun q => (hin_15.mp h_18) q.2.1 | exact fun q => (hin_25.mp h_28) q.2.2
        simp only [cp_open, if_neg q]; first | done | rfl⟩
  · refine ja_iload_n O (q := 11) jd_C_open_10 rfl rfl rfl ?_
    refine ja_iconst O (q := 12) (v := 0) jd_C_open_11 rfl (by decide) ?_
    refine ja_sipush O (q := 15) (v := 9999) jd_C_open_12 rfl (by decide) ?_
    refine jm_C_58 O (d := 1) ⟨by decide, by decide⟩ (Nat.le_of_ble_eq_true rfl) ⟨by decide, by decide⟩ (co_C_isWithin K b 0 9999) (q := 18) jd_C_open_15 rfl (fun r S' h => ?_)
    obtain ⟨e9, -, hin_15⟩ := h
    have e9 := e9.symm
    subst e9
    refine ja_if_eq O (g := 31) (q := 21) jd_C_open_18 (by decide) rfl (fun h_18 => ?_) (fun h_18 => ?_)
    · exact jo_th K hfl O (fun _ _ Z => jt_atA Z) (by decide) jw_278 jw_279 jw_15 hk (by decide) (Nat.le_of_ble_eq_true rfl) ⟨by decide, by decide⟩ jd_C_open_31 jd_C_open_34 jd_C_open_35 jd_C_open_38 ⟨⟨0, rfl, by
          have q : ¬ (jp_in a 0 7 ∧ jp_in b 0 9999 ∧ jp_in d 0 1000000) := by first | exact fun q => (hin_4.mp h_7) q.1 | exact fun q => (hin_15.mp h_18) q.2.1 | exact fun q => (hin_25.mp h_28) q.2.2
          simp only [cp_open, if_neg q]; first | done | rfl⟩, by
          have q : ¬ (jp_in a 0 7 ∧ jp_in b 0 9999 ∧ jp_in d 0 1000000) := by first | exact fun q => (hin_4.mp h_7) q.1 | exact fun q => (hin_15.mp h_18) q.2.1 | exact fun q => (hin_25.mp h_28) q.2.2
          simp only [cp_open, if_neg q]; first | done | rfl⟩
    · refine ja_iload_n O (q := 22) jd_C_open_21 rfl rfl rfl ?_
      refine ja_iconst O (q := 23) (v := 0) jd_C_open_22 rfl (by decide) ?_
      refine ja_ldc O (q := 25) (v := 1000000) jd_C_open_23 rfl jw_277 ?_
      refine jm_C_58 O (d := 1) ⟨by decide, by decide⟩ (Nat.le_of_ble_eq_true rfl) ⟨by decide, by decide⟩ (co_C_isWithin K d 0 1000000) (q := 28) jd_C_open_25 rfl (fun r S' h => ?_)
      obtain ⟨e9, -, hin_25⟩ := h
      have e9 := e9.symm
      subst e9
      refine ja_if_ne O (g := 39) (q := 31) jd_C_open_28 (by decide) rfl (fun h_28 => ?_) (fun h_28 => ?_)
      · have i1 := jp_no hin_4 h_7
        have i2 := jp_no hin_15 h_18
        have i3 := jp_no hin_25 h_28
        have i4 : jp_in a 0 7 ∧ jp_in b 0 9999 ∧ jp_in d 0 1000000 := ⟨i1, i2, i3⟩
        obtain ⟨j, hj, rfl⟩ := jp_in_nI (n := 7) (by decide) i1
        have hj8 : j < 8 := by omega
        have hcl : (nI j).toNatClampNeg = j := nI_clamp (by omega)
        refine ja_aload_n O (q := 40) jd_C_open_39 rfl rfl rfl ?_
        refine jg_C_10 O (q := 43) jd_C_open_40 rfl ?_
        refine ja_iload_n O (q := 44) jd_C_open_43 rfl rfl rfl ?_
        refine jm_C_66 O (d := 2) ⟨by decide, by decide⟩ (Nat.le_of_ble_eq_true rfl) ⟨by decide, by decide⟩ (co_H_isOpen K (nI j)) (q := 47) jd_C_open_44 rfl (fun r S' h => ?_)
        obtain ⟨e9, h01, hop⟩ := h
        have e9 := e9.symm
        subst e9
        refine ja_if_eq O (g := 58) (q := 50) jd_C_open_47 (by decide) rfl (fun h_47 => ?_) (fun h_47 => ?_)
        · have hz : S 11 j = 0 := Classical.byContradiction fun z => by
            have := hop.mpr ⟨j, hj8, rfl, z⟩
            rw [h_47] at this; exact absurd this (by decide)
          refine ja_aload_n O (q := 59) jd_C_open_58 rfl rfl rfl ?_
          refine jg_C_10 O (q := 62) jd_C_open_59 rfl ?_
          refine ja_iload_n O (q := 63) jd_C_open_62 rfl rfl rfl ?_
          refine ja_iload_n O (q := 64) jd_C_open_63 rfl rfl rfl ?_
          refine ja_iload_n O (q := 65) jd_C_open_64 rfl rfl rfl ?_
          refine jm_C_73 O (d := 1) ⟨by decide, by decide⟩ (Nat.le_of_ble_eq_true rfl) ⟨by decide, by decide⟩ (co_H_openAccount K j hj8 b d) (q := 68) jd_C_open_65 rfl (fun S' h => ?_)
          subst h
          refine ja_aload_n O (q := 69) jd_C_open_68 rfl rfl rfl ?_
          refine jg_C_10 O (q := 72) jd_C_open_69 rfl ?_
          refine jm_C_77 O (d := 1) ⟨by decide, by decide⟩ (Nat.le_of_ble_eq_true rfl) ⟨by decide, by decide⟩ (co_H_openAccounts K) (q := 75) jd_C_open_72 rfl (fun r S' h => ?_)
          obtain ⟨rfl, rfl⟩ := h
          exact jo_irB O hr hk (by simp only [jo_ps, cp_open, if_pos i4, hcl, if_pos hz]; exact ⟨trivial, trivial, trivial⟩) jd_C_open_75
        · exact jo_th K hfl O (fun _ _ Z => jt_atS Z) (by decide) jw_348 jw_349 jw_16 hk (by decide) (Nat.le_of_ble_eq_true rfl) ⟨by decide, by decide⟩ jd_C_open_50 jd_C_open_53 jd_C_open_54 jd_C_open_57 ⟨⟨1, rfl, by
              have q : ¬ S 11 j = 0 := (hcl ▸ (jp_op.mp (hop.mp (h01.resolve_left h_47))).2)
              simp only [cp_open, if_pos i4, hcl, if_neg q]; first | done | rfl⟩, by
              have q : ¬ S 11 j = 0 := (hcl ▸ (jp_op.mp (hop.mp (h01.resolve_left h_47))).2)
              simp only [cp_open, if_pos i4, hcl, if_neg q]; first | done | rfl⟩
      · exact jo_th K hfl O (fun _ _ Z => jt_atA Z) (by decide) jw_278 jw_279 jw_15 hk (by decide) (Nat.le_of_ble_eq_true rfl) ⟨by decide, by decide⟩ jd_C_open_31 jd_C_open_34 jd_C_open_35 jd_C_open_38 ⟨⟨0, rfl, by
            have q : ¬ (jp_in a 0 7 ∧ jp_in b 0 9999 ∧ jp_in d 0 1000000) := by first | exact fun q => (hin_4.mp h_7) q.1 | exact fun q => (hin_15.mp h_18) q.2.1 | exact fun q => (hin_25.mp h_28) q.2.2
            simp only [cp_open, if_neg q]; first | done | rfl⟩, by
            have q : ¬ (jp_in a 0 7 ∧ jp_in b 0 9999 ∧ jp_in d 0 1000000) := by first | exact fun q => (hin_4.mp h_7) q.1 | exact fun q => (hin_15.mp h_18) q.2.1 | exact fun q => (hin_25.mp h_28) q.2.2
            simp only [cp_open, if_neg q]; first | done | rfl⟩
set_option maxRecDepth 100000 in
theorem co_C_load {l : Launch} {s0 : State} {a0 : Array Value} {G : jb_Gt} {ad : Nat → Nat} (K : jo_G s0 a0 G ad) {S : ja_S} (hfl : l.stackTraces = false) (a b d : Int32) : jo_Y l s0 G ad jy_C_load jc_C_load 4 (some .int) 6 [.ref (ad 0), .int a, .int b, .int d] S (jo_ps (cp_load S a b d)) (jo_ts ["java/lang/IllegalArgumentException", "java/lang/IllegalStateException"] (cp_load S a b d)) := by
  refine jo_ofB K (by decide) rfl (Nat.le_of_ble_eq_true rfl) ?_
  intro p e s m args below meth c O hr hk
  refine ja_iload_n O (q := 1) jd_C_load_0 rfl rfl rfl ?_
  refine ja_iconst O (q := 2) (v := 0) jd_C_load_1 rfl (by decide) ?_
  refine ja_iconst O (q := 3) (v := 3) jd_C_load_2 rfl (by decide) ?_
  refine jm_C_58 O (d := 1) ⟨by decide, by decide⟩ (Nat.le_of_ble_eq_true rfl) ⟨by decide, by decide⟩ (co_C_isWithin K a 0 3) (q := 6) jd_C_load_3 rfl (fun r S' h => ?_)
  obtain ⟨e9, -, hin_3⟩ := h
  have e9 := e9.symm
  subst e9
  refine ja_if_eq O (g := 30) (q := 9) jd_C_load_6 (by decide) rfl (fun h_6 => ?_) (fun h_6 => ?_)
  · exact jo_th K hfl O (fun _ _ Z => jt_atA Z) (by decide) jw_278 jw_279 jw_15 hk (by decide) (Nat.le_of_ble_eq_true rfl) ⟨by decide, by decide⟩ jd_C_load_30 jd_C_load_33 jd_C_load_34 jd_C_load_37 ⟨⟨0, rfl, by
        have q : ¬ (jp_in a 0 3 ∧ jp_in b 1 500 ∧ jp_in d 0 50) := by first | exact fun q => (hin_3.mp h_6) q.1 | exact fun q => (hin_14.mp h_17) q.2.1 | exact fun q => (hin_24.mp h_27) q.2.2
        simp only [cp_load, if_neg q]; first | done | rfl⟩, by
        have q : ¬ (jp_in a 0 3 ∧ jp_in b 1 500 ∧ jp_in d 0 50) := by first | exact fun q => (hin_3.mp h_6) q.1 | exact fun q => (hin_14.mp h_17) q.2.1 | exact fun q => (hin_24.mp h_27) q.2.2
        simp only [cp_load, if_neg q]; first | done | rfl⟩
  · refine ja_iload_n O (q := 10) jd_C_load_9 rfl rfl rfl ?_
    refine ja_iconst O (q := 11) (v := 1) jd_C_load_10 rfl (by decide) ?_
    refine ja_sipush O (q := 14) (v := 500) jd_C_load_11 rfl (by decide) ?_
    refine jm_C_58 O (d := 1) ⟨by decide, by decide⟩ (Nat.le_of_ble_eq_true rfl) ⟨by decide, by decide⟩ (co_C_isWithin K b 1 500) (q := 17) jd_C_load_14 rfl (fun r S' h => ?_)
    obtain ⟨e9, -, hin_14⟩ := h
    have e9 := e9.symm
    subst e9
    refine ja_if_eq O (g := 30) (q := 20) jd_C_load_17 (by decide) rfl (fun h_17 => ?_) (fun h_17 => ?_)
    · exact jo_th K hfl O (fun _ _ Z => jt_atA Z) (by decide) jw_278 jw_279 jw_15 hk (by decide) (Nat.le_of_ble_eq_true rfl) ⟨by decide, by decide⟩ jd_C_load_30 jd_C_load_33 jd_C_load_34 jd_C_load_37 ⟨⟨0, rfl, by
          have q : ¬ (jp_in a 0 3 ∧ jp_in b 1 500 ∧ jp_in d 0 50) := by first | exact fun q => (hin_3.mp h_6) q.1 | exact fun q => (hin_14.mp h_17) q.2.1 | exact fun q => (hin_24.mp h_27) q.2.2
          simp only [cp_load, if_neg q]; first | done | rfl⟩, by
          have q : ¬ (jp_in a 0 3 ∧ jp_in b 1 500 ∧ jp_in d 0 50) := by first | exact fun q => (hin_3.mp h_6) q.1 | exact fun q => (hin_14.mp h_17) q.2.1 | exact fun q => (hin_24.mp h_27) q.2.2
          simp only [cp_load, if_neg q]; first | done | rfl⟩
    · refine ja_iload_n O (q := 21) jd_C_load_20 rfl rfl rfl ?_
      refine ja_iconst O (q := 22) (v := 0) jd_C_load_21 rfl (by decide) ?_
      refine ja_bipush O (q := 24) (v := 50) jd_C_load_22 rfl (by decide) ?_
      refine jm_C_58 O (d := 1) ⟨by decide, by decide⟩ (Nat.le_of_ble_eq_true rfl) ⟨by decide, by decide⟩ (co_C_isWithin K d 0 50) (q := 27) jd_C_load_24 rfl (fun r S' h => ?_)
      obtain ⟨e9, -, hin_24⟩ := h
      have e9 := e9.symm
      subst e9
      refine ja_if_ne O (g := 38) (q := 30) jd_C_load_27 (by decide) rfl (fun h_27 => ?_) (fun h_27 => ?_)
      · have i1 := jp_no hin_3 h_6
        have i2 := jp_no hin_14 h_17
        have i3 := jp_no hin_24 h_27
        have i4 : jp_in a 0 3 ∧ jp_in b 1 500 ∧ jp_in d 0 50 := ⟨i1, i2, i3⟩
        obtain ⟨j, hj, rfl⟩ := jp_in_nI (n := 3) (by decide) i1
        have hj4 : j < 4 := by omega
        have hcl : (nI j).toNatClampNeg = j := nI_clamp (by omega)
        refine ja_aload_n O (q := 39) jd_C_load_38 rfl rfl rfl ?_
        refine jg_C_48 O (q := 42) jd_C_load_39 rfl ?_
        refine ja_iconst O (q := 43) (v := (-1)) jd_C_load_42 rfl (by decide) ?_
        refine ja_icmp_eq O (g := 54) (q := 46) jd_C_load_43 (by decide) rfl (fun h_43 => ?_) (fun h_43 => ?_)
        · refine ja_aload_n O (q := 55) jd_C_load_54 rfl rfl rfl ?_
          refine jg_C_26 O (q := 58) jd_C_load_55 rfl ?_
          refine ja_iload_n O (q := 59) jd_C_load_58 rfl rfl rfl ?_
          refine ja_iload_n O (q := 60) jd_C_load_59 rfl rfl rfl ?_
          refine ja_iload_n O (q := 61) jd_C_load_60 rfl rfl rfl ?_
          refine jm_C_81 O (d := 1) ⟨by decide, by decide⟩ (Nat.le_of_ble_eq_true rfl) ⟨by decide, by decide⟩ (co_D_exchangeNotes K j hj4 b d) (q := 64) jd_C_load_61 rfl (fun r S' h => ?_)
          obtain ⟨rfl, rfl⟩ := h
          exact jo_irB O hr hk (by simp only [jo_ps, cp_load, if_pos i4, hcl, if_pos h_43]; exact ⟨trivial, trivial, trivial⟩) jd_C_load_64
        · exact jo_th K hfl O (fun _ _ Z => jt_atS Z) (by decide) jw_348 jw_349 jw_16 hk (by decide) (Nat.le_of_ble_eq_true rfl) ⟨by decide, by decide⟩ jd_C_load_46 jd_C_load_49 jd_C_load_50 jd_C_load_53 ⟨⟨1, rfl, by
              simp only [cp_load, if_pos i4, if_neg h_43]; first | done | rfl⟩, by
              simp only [cp_load, if_pos i4, if_neg h_43]; first | done | rfl⟩
      · exact jo_th K hfl O (fun _ _ Z => jt_atA Z) (by decide) jw_278 jw_279 jw_15 hk (by decide) (Nat.le_of_ble_eq_true rfl) ⟨by decide, by decide⟩ jd_C_load_30 jd_C_load_33 jd_C_load_34 jd_C_load_37 ⟨⟨0, rfl, by
            have q : ¬ (jp_in a 0 3 ∧ jp_in b 1 500 ∧ jp_in d 0 50) := by first | exact fun q => (hin_3.mp h_6) q.1 | exact fun q => (hin_14.mp h_17) q.2.1 | exact fun q => (hin_24.mp h_27) q.2.2
            simp only [cp_load, if_neg q]; first | done | rfl⟩, by
            have q : ¬ (jp_in a 0 3 ∧ jp_in b 1 500 ∧ jp_in d 0 50) := by first | exact fun q => (hin_3.mp h_6) q.1 | exact fun q => (hin_14.mp h_17) q.2.1 | exact fun q => (hin_24.mp h_27) q.2.2
            simp only [cp_load, if_neg q]; first | done | rfl⟩
set_option maxRecDepth 100000 in
theorem co_C_insert {l : Launch} {s0 : State} {a0 : Array Value} {G : jb_Gt} {ad : Nat → Nat} (K : jo_G s0 a0 G ad) {S : ja_S} (hfl : l.stackTraces = false) (a : Int32) : jo_Y l s0 G ad jy_C_insert jc_C_insert 2 (some .int) 6 [.ref (ad 0), .int a] S (jo_ps (cp_ins S a)) (jo_ts ["java/lang/IllegalStateException", "java/util/NoSuchElementException", "java/lang/UnsupportedOperationException"] (cp_ins S a)) := by
  refine jo_ofB K (by decide) rfl (Nat.le_of_ble_eq_true rfl) ?_
  intro p e s m args below meth c O hr hk
  refine ja_aload_n O (q := 1) jd_C_insert_0 rfl rfl rfl ?_
  refine jg_C_44 O (q := 4) jd_C_insert_1 rfl ?_
  refine ja_if_eq O (g := 15) (q := 7) jd_C_insert_4 (by decide) rfl (fun h_4 => ?_) (fun h_4 => ?_)
  · exact jo_th K hfl O (fun _ _ Z => jt_atS Z) (by decide) jw_348 jw_349 jw_16 hk (by decide) (Nat.le_of_ble_eq_true rfl) ⟨by decide, by decide⟩ jd_C_insert_15 jd_C_insert_18 jd_C_insert_19 jd_C_insert_22 ⟨⟨0, rfl, by
        have q : ¬ (¬ S 0 0 = 0 ∧ S 1 0 = -1) := by first | exact fun q => q.1 h_4 | exact fun q => h_12 q.2
        simp only [cp_ins, if_neg q]; first | done | rfl⟩, by
        have q : ¬ (¬ S 0 0 = 0 ∧ S 1 0 = -1) := by first | exact fun q => q.1 h_4 | exact fun q => h_12 q.2
        simp only [cp_ins, if_neg q]; first | done | rfl⟩
  · refine ja_aload_n O (q := 8) jd_C_insert_7 rfl rfl rfl ?_
    refine jg_C_48 O (q := 11) jd_C_insert_8 rfl ?_
    refine ja_iconst O (q := 12) (v := (-1)) jd_C_insert_11 rfl (by decide) ?_
    refine ja_icmp_eq O (g := 23) (q := 15) jd_C_insert_12 (by decide) rfl (fun h_12 => ?_) (fun h_12 => ?_)
    · have i4 : ¬ S 0 0 = 0 ∧ S 1 0 = -1 := ⟨h_4, h_12⟩
      refine ja_aload_n O (q := 24) jd_C_insert_23 rfl rfl rfl ?_
      refine jg_C_10 O (q := 27) jd_C_insert_24 rfl ?_
      refine ja_iload_n O (q := 28) jd_C_insert_27 rfl rfl rfl ?_
      refine jm_C_66 O (d := 2) ⟨by decide, by decide⟩ (Nat.le_of_ble_eq_true rfl) ⟨by decide, by decide⟩ (co_H_isOpen K a) (q := 31) jd_C_insert_28 rfl (fun r S' h => ?_)
      obtain ⟨e9, h01, hop⟩ := h
      have e9 := e9.symm
      subst e9
      rw [jp_op] at hop
      refine ja_if_ne O (g := 42) (q := 34) jd_C_insert_31 (by decide) rfl (fun h_31 => ?_) (fun h_31 => ?_)
      · have i5 := hop.mp (h01.resolve_left h_31)
        obtain ⟨j, hj, rfl⟩ := jp_in_nI (n := 7) (by decide) i5.1
        have hj8 : j < 8 := by omega
        have hcl : (nI j).toNatClampNeg = j := nI_clamp (by omega)
        rw [hcl] at i5
        refine ja_aload_n O (q := 43) jd_C_insert_42 rfl rfl rfl ?_
        refine jg_C_10 O (q := 46) jd_C_insert_43 rfl ?_
        refine jg_C_88 O (q := 49) jd_C_insert_46 rfl ?_
        refine ja_iload_n O (q := 50) jd_C_insert_49 rfl rfl rfl ?_
        refine jl_8 O  rfl (by first | assumption | omega) (q := 51) jd_C_insert_50 rfl ?_
        refine jg_C_92 O (by first | assumption | omega) (q := 54) jd_C_insert_51 rfl ?_
        refine ja_if_eq O (g := 65) (q := 57) jd_C_insert_54 (by decide) rfl (fun h_54 => ?_) (fun h_54 => ?_)
        · refine ja_aload_n O (q := 66) jd_C_insert_65 rfl rfl rfl ?_
          refine ja_iload_n O (q := 67) jd_C_insert_66 rfl rfl rfl ?_
          refine jp_C_48 O (q := 70) jd_C_insert_67 rfl ?_
          refine ja_aload_n O (q := 71) jd_C_insert_70 rfl rfl rfl ?_
          refine ja_iconst O (q := 72) (v := 0) jd_C_insert_71 rfl (by decide) ?_
          refine jp_C_52 O (by first | assumption | exact Or.inl rfl | exact Or.inr rfl) (q := 75) jd_C_insert_72 rfl ?_
          refine ja_aload_n O (q := 76) jd_C_insert_75 rfl rfl rfl ?_
          refine jg_C_10 O (q := 79) jd_C_insert_76 rfl ?_
          refine jg_C_88 O (q := 82) jd_C_insert_79 rfl ?_
          refine ja_iload_n O (q := 83) jd_C_insert_82 rfl rfl rfl ?_
          refine jl_8 O  rfl (by first | assumption | omega) (q := 84) jd_C_insert_83 rfl ?_
          refine jg_C_100 O (by first | assumption | omega) (q := 87) jd_C_insert_84 rfl ?_
          exact jo_irB O hr hk (by simp only [jo_ps, cp_ins, if_pos i4, if_pos i5, hcl, if_pos h_54]; exact ⟨trivial, rfl, trivial⟩) jd_C_insert_87
        · exact jo_th K hfl O (fun _ _ Z => jt_atU Z) (by decide) jw_406 jw_407 jw_18 hk (by decide) (Nat.le_of_ble_eq_true rfl) ⟨by decide, by decide⟩ jd_C_insert_57 jd_C_insert_60 jd_C_insert_61 jd_C_insert_64 ⟨⟨2, rfl, by
              simp only [cp_ins, if_pos i4, if_pos i5, hcl, if_neg h_54]; first | done | rfl⟩, by
              simp only [cp_ins, if_pos i4, if_pos i5, hcl, if_neg h_54]; first | done | rfl⟩
      · exact jo_th K hfl O (fun _ _ Z => jt_atN Z) (by decide) jw_391 jw_392 jw_17 hk (by decide) (Nat.le_of_ble_eq_true rfl) ⟨by decide, by decide⟩ jd_C_insert_34 jd_C_insert_37 jd_C_insert_38 jd_C_insert_41 ⟨⟨1, rfl, by
            have q : ¬ (jp_in a 0 7 ∧ ¬ S 11 a.toNatClampNeg = 0) := fun q => by
              have := hop.mpr q
              rw [h_31] at this; exact absurd this (by decide)
            simp only [cp_ins, if_pos i4, if_neg q]; first | done | rfl⟩, by
            have q : ¬ (jp_in a 0 7 ∧ ¬ S 11 a.toNatClampNeg = 0) := fun q => by
              have := hop.mpr q
              rw [h_31] at this; exact absurd this (by decide)
            simp only [cp_ins, if_pos i4, if_neg q]; first | done | rfl⟩
    · exact jo_th K hfl O (fun _ _ Z => jt_atS Z) (by decide) jw_348 jw_349 jw_16 hk (by decide) (Nat.le_of_ble_eq_true rfl) ⟨by decide, by decide⟩ jd_C_insert_15 jd_C_insert_18 jd_C_insert_19 jd_C_insert_22 ⟨⟨0, rfl, by
          have q : ¬ (¬ S 0 0 = 0 ∧ S 1 0 = -1) := by first | exact fun q => q.1 h_4 | exact fun q => h_12 q.2
          simp only [cp_ins, if_neg q]; first | done | rfl⟩, by
          have q : ¬ (¬ S 0 0 = 0 ∧ S 1 0 = -1) := by first | exact fun q => q.1 h_4 | exact fun q => h_12 q.2
          simp only [cp_ins, if_neg q]; first | done | rfl⟩
set_option maxRecDepth 100000 in
theorem co_C_eject {l : Launch} {s0 : State} {a0 : Array Value} {G : jb_Gt} {ad : Nat → Nat} (K : jo_G s0 a0 G ad) {S : ja_S} (hfl : l.stackTraces = false)  : jo_Y l s0 G ad jy_C_eject jc_C_eject 2 (some .int) 6 [.ref (ad 0)] S (jo_ps (cp_eject S)) (jo_ts ["java/lang/IllegalStateException"] (cp_eject S)) := by
  refine jo_ofB K (by decide) rfl (Nat.le_of_ble_eq_true rfl) ?_
  intro p e s m args below meth c O hr hk
  refine ja_aload_n O (q := 1) jd_C_eject_0 rfl rfl rfl ?_
  refine jg_C_48 O (q := 4) jd_C_eject_1 rfl ?_
  refine ja_iconst O (q := 5) (v := (-1)) jd_C_eject_4 rfl (by decide) ?_
  refine ja_icmp_ne O (g := 16) (q := 8) jd_C_eject_5 (by decide) rfl (fun h_5 => ?_) (fun h_5 => ?_)
  · refine ja_aload_n O (q := 17) jd_C_eject_16 rfl rfl rfl ?_
    refine jg_C_48 O (q := 20) jd_C_eject_17 rfl ?_
    refine ja_istore_n O (q := 21) jd_C_eject_20 rfl rfl (by decide) ?_
    refine ja_aload_n O (q := 22) jd_C_eject_21 rfl rfl rfl ?_
    refine jm_C_106 O (d := 1) ⟨by decide, by decide⟩ (Nat.le_of_ble_eq_true rfl) ⟨by decide, by decide⟩ (co_C_endSession K) (q := 25) jd_C_eject_22 rfl (fun S' h => ?_)
    subst h
    refine ja_iload_n O (q := 26) jd_C_eject_25 rfl rfl rfl ?_
    exact jo_irB O hr hk (by simp only [jo_ps, cp_eject, if_neg h_5]; exact ⟨trivial, trivial, rfl⟩) jd_C_eject_26
  · exact jo_th K hfl O (fun _ _ Z => jt_atS Z) (by decide) jw_348 jw_349 jw_16 hk (by decide) (Nat.le_of_ble_eq_true rfl) ⟨by decide, by decide⟩ jd_C_eject_8 jd_C_eject_11 jd_C_eject_12 jd_C_eject_15 ⟨⟨0, rfl, by
        simp only [cp_eject, if_pos h_5]; first | done | rfl⟩, by
        simp only [cp_eject, if_pos h_5]; first | done | rfl⟩
set_option maxRecDepth 100000 in
theorem co_C_line {l : Launch} {s0 : State} {a0 : Array Value} {G : jb_Gt} {ad : Nat → Nat} (K : jo_G s0 a0 G ad) {S : ja_S} (hfl : l.stackTraces = false) (a : Int32) (n : Nat) (hn : n ≤ 8) (h4 : S 4 0 = nI n) : jo_Y l s0 G ad jy_C_line jc_C_line 2 (some .int) 6 [.ref (ad 0), .int a] S (jo_ps (cp_line S a)) (jo_ts ["java/lang/IllegalArgumentException", "java/lang/IllegalStateException"] (cp_line S a)) := by
  refine jo_ofB K (by decide) rfl (Nat.le_of_ble_eq_true rfl) ?_
  intro p e s m args below meth c O hr hk
  refine ja_iload_n O (q := 1) jd_C_line_0 rfl rfl rfl ?_
  refine ja_iconst O (q := 2) (v := 0) jd_C_line_1 rfl (by decide) ?_
  refine ja_iconst O (q := 3) (v := 3) jd_C_line_2 rfl (by decide) ?_
  refine jm_C_58 O (d := 1) ⟨by decide, by decide⟩ (Nat.le_of_ble_eq_true rfl) ⟨by decide, by decide⟩ (co_C_isWithin K a 0 3) (q := 6) jd_C_line_3 rfl (fun r S' h => ?_)
  obtain ⟨e9, -, hin_3⟩ := h
  have e9 := e9.symm
  subst e9
  refine ja_if_ne O (g := 17) (q := 9) jd_C_line_6 (by decide) rfl (fun h_6 => ?_) (fun h_6 => ?_)
  · refine ja_aload_n O (q := 18) jd_C_line_17 rfl rfl rfl ?_
    refine jg_C_19 O (q := 21) jd_C_line_18 rfl ?_
    refine jg_C_136 O (q := 24) jd_C_line_21 rfl ?_
    refine ja_bipush O (q := 26) (v := 8) jd_C_line_24 rfl (by decide) ?_
    refine ja_icmp_lt O (g := 37) (q := 29) jd_C_line_26 (by decide) rfl (fun h_26 => ?_) (fun h_26 => ?_)
    · have i4 : S 4 0 < 8 := h_26
      have hn8 : n < 8 := by
        rw [h4] at i4; exact (nI_ltI (by omega) (by decide)).mp i4
      refine ja_aload_n O (q := 38) jd_C_line_37 rfl rfl rfl ?_
      refine jg_C_19 O (q := 41) jd_C_line_38 rfl ?_
      refine ja_iload_n O (q := 42) jd_C_line_41 rfl rfl rfl ?_
      refine jm_C_137 O (d := 1) ⟨by decide, by decide⟩ (Nat.le_of_ble_eq_true rfl) ⟨by decide, by decide⟩ (co_N_add K n hn8 h4 a) (q := 45) jd_C_line_42 rfl (fun S' h => ?_)
      subst h
      refine ja_aload_n O (q := 46) jd_C_line_45 rfl rfl rfl ?_
      refine jg_C_19 O (q := 49) jd_C_line_46 rfl ?_
      refine jg_C_136 O (q := 52) jd_C_line_49 rfl ?_
      exact jo_irB O hr hk (by simp only [jo_ps, cp_line, if_pos (jp_no hin_3 h_6), if_pos i4]; rw [h4, nI_clamp (by omega), nI_1]; exact ⟨trivial, rfl, rfl⟩) jd_C_line_52
    · exact jo_th K hfl O (fun _ _ Z => jt_atS Z) (by decide) jw_348 jw_349 jw_16 hk (by decide) (Nat.le_of_ble_eq_true rfl) ⟨by decide, by decide⟩ jd_C_line_29 jd_C_line_32 jd_C_line_33 jd_C_line_36 ⟨⟨1, rfl, by
          simp only [cp_line, if_pos (jp_no hin_3 h_6), if_neg (show ¬ S 4 0 < 8 from h_26)]; first | done | rfl⟩, by
          simp only [cp_line, if_pos (jp_no hin_3 h_6), if_neg (show ¬ S 4 0 < 8 from h_26)]; first | done | rfl⟩
  · exact jo_th K hfl O (fun _ _ Z => jt_atA Z) (by decide) jw_278 jw_279 jw_15 hk (by decide) (Nat.le_of_ble_eq_true rfl) ⟨by decide, by decide⟩ jd_C_line_9 jd_C_line_12 jd_C_line_13 jd_C_line_16 ⟨⟨0, rfl, by
        simp only [cp_line, if_neg (hin_3.mp h_6)]; first | done | rfl⟩, by
        simp only [cp_line, if_neg (hin_3.mp h_6)]; first | done | rfl⟩
set_option maxRecDepth 100000 in
theorem co_C_jam {l : Launch} {s0 : State} {a0 : Array Value} {G : jb_Gt} {ad : Nat → Nat} (K : jo_G s0 a0 G ad) {S : ja_S} (hfl : l.stackTraces = false) (a : Int32) : jo_Y l s0 G ad jy_C_jam jc_C_jam 2 (some .int) 6 [.ref (ad 0), .int a] S (jo_ps (cp_jam S a)) (jo_ts ["java/lang/IllegalArgumentException"] (cp_jam S a)) := by
  refine jo_ofB K (by decide) rfl (Nat.le_of_ble_eq_true rfl) ?_
  intro p e s m args below meth c O hr hk
  refine ja_iload_n O (q := 1) jd_C_jam_0 rfl rfl rfl ?_
  refine ja_iconst O (q := 2) (v := (-1)) jd_C_jam_1 rfl (by decide) ?_
  refine ja_bipush O (q := 4) (v := 100) jd_C_jam_2 rfl (by decide) ?_
  refine jm_C_58 O (d := 1) ⟨by decide, by decide⟩ (Nat.le_of_ble_eq_true rfl) ⟨by decide, by decide⟩ (co_C_isWithin K a (-1) 100) (q := 7) jd_C_jam_4 rfl (fun r S' h => ?_)
  obtain ⟨e9, -, hin_4⟩ := h
  have e9 := e9.symm
  subst e9
  refine ja_if_ne O (g := 18) (q := 10) jd_C_jam_7 (by decide) rfl (fun h_7 => ?_) (fun h_7 => ?_)
  · refine ja_aload_n O (q := 19) jd_C_jam_18 rfl rfl rfl ?_
    refine jg_C_26 O (q := 22) jd_C_jam_19 rfl ?_
    refine ja_iload_n O (q := 23) jd_C_jam_22 rfl rfl rfl ?_
    refine jp_C_141 O (q := 26) jd_C_jam_23 rfl ?_
    refine ja_iload_n O (q := 27) jd_C_jam_26 rfl rfl rfl ?_
    refine ja_iconst O (q := 28) (v := (-1)) jd_C_jam_27 rfl (by decide) ?_
    refine ja_icmp_ne O (g := 35) (q := 31) jd_C_jam_28 (by decide) rfl (fun h_28 => ?_) (fun h_28 => ?_)
    · refine ja_iconst O (q := 36) (v := 1) jd_C_jam_35 rfl (by decide) ?_
      exact jo_irB O hr hk (by simp only [jo_ps, cp_jam, if_pos (jp_no hin_4 h_7)]; simp [h_28]) jd_C_jam_36
    · refine ja_iconst O (q := 32) (v := 0) jd_C_jam_31 rfl (by decide) ?_
      refine ja_goto O (g := 36) jd_C_jam_32 (by decide) ?_
      exact jo_irB O hr hk (by simp only [jo_ps, cp_jam, if_pos (jp_no hin_4 h_7)]; simp [h_28]) jd_C_jam_36
  · exact jo_th K hfl O (fun _ _ Z => jt_atA Z) (by decide) jw_278 jw_279 jw_15 hk (by decide) (Nat.le_of_ble_eq_true rfl) ⟨by decide, by decide⟩ jd_C_jam_10 jd_C_jam_13 jd_C_jam_14 jd_C_jam_17 ⟨⟨0, rfl, by
        simp only [cp_jam, if_neg (hin_4.mp h_7)]; first | done | rfl⟩, by
        simp only [cp_jam, if_neg (hin_4.mp h_7)]; first | done | rfl⟩
set_option maxRecDepth 100000 in
theorem co_C_power {l : Launch} {s0 : State} {a0 : Array Value} {G : jb_Gt} {ad : Nat → Nat} (K : jo_G s0 a0 G ad) {S : ja_S} (hfl : l.stackTraces = false) (a : Int32) : jo_Y l s0 G ad jy_C_power jc_C_power 2 (some .int) 6 [.ref (ad 0), .int a] S (jo_ps (cp_pow S a)) (jo_ts ["java/lang/IllegalArgumentException"] (cp_pow S a)) := by
  refine jo_ofB K (by decide) rfl (Nat.le_of_ble_eq_true rfl) ?_
  intro p e s m args below meth c O hr hk
  refine ja_iload_n O (q := 1) jd_C_power_0 rfl rfl rfl ?_
  refine ja_iconst O (q := 2) (v := 0) jd_C_power_1 rfl (by decide) ?_
  refine ja_iconst O (q := 3) (v := 4) jd_C_power_2 rfl (by decide) ?_
  refine jm_C_58 O (d := 1) ⟨by decide, by decide⟩ (Nat.le_of_ble_eq_true rfl) ⟨by decide, by decide⟩ (co_C_isWithin K a 0 4) (q := 6) jd_C_power_3 rfl (fun r S' h => ?_)
  obtain ⟨e9, -, hin_3⟩ := h
  have e9 := e9.symm
  subst e9
  refine ja_if_ne O (g := 17) (q := 9) jd_C_power_6 (by decide) rfl (fun h_6 => ?_) (fun h_6 => ?_)
  · refine ja_aload_n O (q := 18) jd_C_power_17 rfl rfl rfl ?_
    refine ja_iload_n O (q := 19) jd_C_power_18 rfl rfl rfl ?_
    refine jp_C_55 O (q := 22) jd_C_power_19 rfl ?_
    refine ja_iload_n O (q := 23) jd_C_power_22 rfl rfl rfl ?_
    refine ja_if_ne O (g := 30) (q := 26) jd_C_power_23 (by decide) rfl (fun h_23 => ?_) (fun h_23 => ?_)
    · refine ja_iconst O (q := 31) (v := 1) jd_C_power_30 rfl (by decide) ?_
      exact jo_irB O hr hk (by simp only [jo_ps, cp_pow, if_pos (jp_no hin_3 h_6)]; simp [h_23]) jd_C_power_31
    · refine ja_iconst O (q := 27) (v := 0) jd_C_power_26 rfl (by decide) ?_
      refine ja_goto O (g := 31) jd_C_power_27 (by decide) ?_
      exact jo_irB O hr hk (by simp only [jo_ps, cp_pow, if_pos (jp_no hin_3 h_6)]; simp [h_23]) jd_C_power_31
  · exact jo_th K hfl O (fun _ _ Z => jt_atA Z) (by decide) jw_278 jw_279 jw_15 hk (by decide) (Nat.le_of_ble_eq_true rfl) ⟨by decide, by decide⟩ jd_C_power_9 jd_C_power_12 jd_C_power_13 jd_C_power_16 ⟨⟨0, rfl, by
        simp only [cp_pow, if_neg (hin_3.mp h_6)]; first | done | rfl⟩, by
        simp only [cp_pow, if_neg (hin_3.mp h_6)]; first | done | rfl⟩
set_option maxRecDepth 100000 in
theorem co_C_balance {l : Launch} {s0 : State} {a0 : Array Value} {G : jb_Gt} {ad : Nat → Nat} (K : jo_G s0 a0 G ad) {S : ja_S} (hfl : l.stackTraces = false) (a : Int32) : jo_Y l s0 G ad jy_C_balance jc_C_balance 2 (some .int) 6 [.ref (ad 0), .int a] S (jo_ps (cp_bal S a)) (jo_ts ["java/util/NoSuchElementException"] (cp_bal S a)) := by
  refine jo_ofB K (by decide) rfl (Nat.le_of_ble_eq_true rfl) ?_
  intro p e s m args below meth c O hr hk
  refine ja_aload_n O (q := 1) jd_C_balance_0 rfl rfl rfl ?_
  refine jg_C_10 O (q := 4) jd_C_balance_1 rfl ?_
  refine ja_iload_n O (q := 5) jd_C_balance_4 rfl rfl rfl ?_
  refine jm_C_66 O (d := 2) ⟨by decide, by decide⟩ (Nat.le_of_ble_eq_true rfl) ⟨by decide, by decide⟩ (co_H_isOpen K a) (q := 8) jd_C_balance_5 rfl (fun r S' h => ?_)
  obtain ⟨e9, h01, hop⟩ := h
  have e9 := e9.symm
  subst e9
  rw [jp_op] at hop
  refine ja_if_ne O (g := 19) (q := 11) jd_C_balance_8 (by decide) rfl (fun h_8 => ?_) (fun h_8 => ?_)
  · have i5 := hop.mp (h01.resolve_left h_8)
    obtain ⟨j, hj, rfl⟩ := jp_in_nI (n := 7) (by decide) i5.1
    have hj8 : j < 8 := by omega
    have hcl : (nI j).toNatClampNeg = j := nI_clamp (by omega)
    rw [hcl] at i5
    refine ja_aload_n O (q := 20) jd_C_balance_19 rfl rfl rfl ?_
    refine jg_C_10 O (q := 23) jd_C_balance_20 rfl ?_
    refine jg_C_88 O (q := 26) jd_C_balance_23 rfl ?_
    refine ja_iload_n O (q := 27) jd_C_balance_26 rfl rfl rfl ?_
    refine jl_8 O  rfl (by first | assumption | omega) (q := 28) jd_C_balance_27 rfl ?_
    refine jg_C_159 O (by first | assumption | omega) (q := 31) jd_C_balance_28 rfl ?_
    exact jo_irB O hr hk (by simp only [jo_ps, cp_bal, if_pos i5, hcl]; exact ⟨trivial, trivial, trivial⟩) jd_C_balance_31
  · exact jo_th K hfl O (fun _ _ Z => jt_atN Z) (by decide) jw_391 jw_392 jw_17 hk (by decide) (Nat.le_of_ble_eq_true rfl) ⟨by decide, by decide⟩ jd_C_balance_11 jd_C_balance_14 jd_C_balance_15 jd_C_balance_18 ⟨⟨0, rfl, by
        have q : ¬ (jp_in a 0 7 ∧ ¬ S 11 a.toNatClampNeg = 0) := fun q => by
          have := hop.mpr q
          rw [h_8] at this; exact absurd this (by decide)
        simp only [cp_bal, if_neg q]; first | done | rfl⟩, by
        have q : ¬ (jp_in a 0 7 ∧ ¬ S 11 a.toNatClampNeg = 0) := fun q => by
          have := hop.mpr q
          rw [h_8] at this; exact absurd this (by decide)
        simp only [cp_bal, if_neg q]; first | done | rfl⟩
set_option maxRecDepth 100000 in
theorem co_C_reversal {l : Launch} {s0 : State} {a0 : Array Value} {G : jb_Gt} {ad : Nat → Nat} (K : jo_G s0 a0 G ad) {S : ja_S} (hfl : l.stackTraces = false) (a : Int32) (k : Nat) (hk9 : k ≤ 40) (h10 : S 10 0 = nI k) : jo_Y l s0 G ad jy_C_reversal jc_C_reversal 2 (some .int) 6 [.ref (ad 0), .int a] S (jo_ps (cp_revl S a)) (jo_ts ["java/util/NoSuchElementException"] (cp_revl S a)) := by
  refine jo_ofB K (by decide) rfl (Nat.le_of_ble_eq_true rfl) ?_
  intro p e s m args below meth c O hr hk
  refine ja_iload_n O (q := 1) jd_C_reversal_0 rfl rfl rfl ?_
  refine ja_iconst O (q := 2) (v := 0) jd_C_reversal_1 rfl (by decide) ?_
  refine ja_aload_n O (q := 3) jd_C_reversal_2 rfl rfl rfl ?_
  refine jg_C_40 O (q := 6) jd_C_reversal_3 rfl ?_
  refine jg_C_152 O (q := 9) jd_C_reversal_6 rfl ?_
  refine ja_iconst O (q := 10) (v := 1) jd_C_reversal_9 rfl (by decide) ?_
  refine ja_isub O (q := 11) jd_C_reversal_10 rfl ?_
  refine jm_C_58 O (d := 1) ⟨by decide, by decide⟩ (Nat.le_of_ble_eq_true rfl) ⟨by decide, by decide⟩ (co_C_isWithin K a 0 (S 10 0 - 1)) (q := 14) jd_C_reversal_11 rfl (fun r S' h => ?_)
  obtain ⟨e9, -, hin_11⟩ := h
  have e9 := e9.symm
  subst e9
  refine ja_if_ne O (g := 25) (q := 17) jd_C_reversal_14 (by decide) rfl (fun h_14 => ?_) (fun h_14 => ?_)
  · have i1 := jp_no hin_11 h_14
    have i2 : ∃ j, j < 40 ∧ a = nI j := by
      have i3 := i1
      rw [h10] at i3
      rcases Nat.eq_zero_or_pos k with z | z
      · subst z
        exact absurd (Int32.le_trans i3.1 i3.2) (by decide)
      · rw [jp_m1 z] at i3
        obtain ⟨j, hj, e⟩ := jp_in_nI (n := k - 1) (by omega) i3
        exact ⟨j, by omega, e⟩
    obtain ⟨j, hj, rfl⟩ := i2
    have hcl : (nI j).toNatClampNeg = j := nI_clamp (by omega)
    refine ja_aload_n O (q := 26) jd_C_reversal_25 rfl rfl rfl ?_
    refine jg_C_40 O (q := 29) jd_C_reversal_26 rfl ?_
    refine jg_C_180 O (q := 32) jd_C_reversal_29 rfl ?_
    refine ja_iload_n O (q := 33) jd_C_reversal_32 rfl rfl rfl ?_
    refine jl_18 O  rfl (by first | assumption | omega) (q := 34) jd_C_reversal_33 rfl ?_
    exact jo_irB O hr hk (by simp only [jo_ps, cp_revl, if_pos i1, hcl]; exact ⟨trivial, trivial, trivial⟩) jd_C_reversal_34
  · exact jo_th K hfl O (fun _ _ Z => jt_atN Z) (by decide) jw_391 jw_392 jw_17 hk (by decide) (Nat.le_of_ble_eq_true rfl) ⟨by decide, by decide⟩ jd_C_reversal_17 jd_C_reversal_20 jd_C_reversal_21 jd_C_reversal_24 ⟨⟨0, rfl, by
        simp only [cp_revl, if_neg (hin_11.mp h_14)]; first | done | rfl⟩, by
        simp only [cp_revl, if_neg (hin_11.mp h_14)]; first | done | rfl⟩
set_option maxRecDepth 100000 in
theorem co_C_notes {l : Launch} {s0 : State} {a0 : Array Value} {G : jb_Gt} {ad : Nat → Nat} (K : jo_G s0 a0 G ad) {S : ja_S} (hfl : l.stackTraces = false) (a : Int32) : jo_Y l s0 G ad jy_C_notes jc_C_notes 2 (some .int) 6 [.ref (ad 0), .int a] S (jo_ps (cp_notes S a)) (jo_ts ["java/lang/IllegalArgumentException"] (cp_notes S a)) := by
  refine jo_ofB K (by decide) rfl (Nat.le_of_ble_eq_true rfl) ?_
  intro p e s m args below meth c O hr hk
  refine ja_iload_n O (q := 1) jd_C_notes_0 rfl rfl rfl ?_
  refine ja_iconst O (q := 2) (v := 0) jd_C_notes_1 rfl (by decide) ?_
  refine ja_iconst O (q := 3) (v := 3) jd_C_notes_2 rfl (by decide) ?_
  refine jm_C_58 O (d := 1) ⟨by decide, by decide⟩ (Nat.le_of_ble_eq_true rfl) ⟨by decide, by decide⟩ (co_C_isWithin K a 0 3) (q := 6) jd_C_notes_3 rfl (fun r S' h => ?_)
  obtain ⟨e9, -, hin_3⟩ := h
  have e9 := e9.symm
  subst e9
  refine ja_if_ne O (g := 17) (q := 9) jd_C_notes_6 (by decide) rfl (fun h_6 => ?_) (fun h_6 => ?_)
  · have i1 := jp_no hin_3 h_6
    obtain ⟨j, hj, rfl⟩ := jp_in_nI (n := 3) (by decide) i1
    have hj4 : j < 4 := by omega
    have hcl : (nI j).toNatClampNeg = j := nI_clamp (by omega)
    refine ja_aload_n O (q := 18) jd_C_notes_17 rfl rfl rfl ?_
    refine jg_C_26 O (q := 21) jd_C_notes_18 rfl ?_
    refine jg_C_183 O (q := 24) jd_C_notes_21 rfl ?_
    refine ja_iload_n O (q := 25) jd_C_notes_24 rfl rfl rfl ?_
    refine jl_13 O  rfl (by first | assumption | omega) (q := 26) jd_C_notes_25 rfl ?_
    refine jg_C_187 O (by first | assumption | omega) (q := 29) jd_C_notes_26 rfl ?_
    exact jo_irB O hr hk (by simp only [jo_ps, cp_notes, if_pos i1, hcl]; exact ⟨trivial, trivial, trivial⟩) jd_C_notes_29
  · exact jo_th K hfl O (fun _ _ Z => jt_atA Z) (by decide) jw_278 jw_279 jw_15 hk (by decide) (Nat.le_of_ble_eq_true rfl) ⟨by decide, by decide⟩ jd_C_notes_9 jd_C_notes_12 jd_C_notes_13 jd_C_notes_16 ⟨⟨0, rfl, by
        simp only [cp_notes, if_neg (hin_3.mp h_6)]; first | done | rfl⟩, by
        simp only [cp_notes, if_neg (hin_3.mp h_6)]; first | done | rfl⟩
set_option maxRecDepth 100000 in
theorem co_C_difference {l : Launch} {s0 : State} {a0 : Array Value} {G : jb_Gt} {ad : Nat → Nat} (K : jo_G s0 a0 G ad) {S : ja_S}  : jo_C l s0 G ad jy_C_difference jc_C_difference 1 (some .int) 6 [.ref (ad 0)] S (jo_i fun r S' => S' = S ∧ r = jp_sm (fun j => S 13 j - S 14 j) 8 - S 6 0) := by
  refine jo_of K (by decide) rfl (Nat.le_of_ble_eq_true rfl) ?_
  intro p e s m args below meth c O hr hk
  refine ja_aload_n O (q := 1) jd_C_difference_0 rfl rfl rfl ?_
  refine jg_C_10 O (q := 4) jd_C_difference_1 rfl ?_
  refine jm_C_192 O (d := 1) ⟨by decide, by decide⟩ (Nat.le_of_ble_eq_true rfl) ⟨by decide, by decide⟩ (co_H_takenFromBalances K) (q := 7) jd_C_difference_4 rfl (fun r S' h => ?_)
  obtain ⟨e9, rfl⟩ := h
  have e9 := e9.symm
  subst e9
  refine ja_aload_n O (q := 8) jd_C_difference_7 rfl rfl rfl ?_
  refine jg_C_26 O (q := 11) jd_C_difference_8 rfl ?_
  refine jg_C_195 O (q := 14) jd_C_difference_11 rfl ?_
  refine ja_isub O (q := 15) jd_C_difference_14 rfl ?_
  exact jo_ir O hr hk ⟨rfl, rfl⟩ jd_C_difference_15
