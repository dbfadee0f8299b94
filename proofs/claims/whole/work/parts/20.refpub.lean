/-! CONTRACTS of the reference, by program (wip/whole/gen/p20.py): public methods. mp_x M .. = (what thrown() gives behind it, the answer, the state) -/
abbrev mk_z (M : ja_S) : ja_S := jb_u M 32 0 0
def mk_f (M : ja_S) (k : Int32) : Int32 × Int32 × ja_S := (k, 0, jb_u (jb_u M 32 0 0) 32 0 k)
abbrev jo_rs (f : Int32 × Int32 × ja_S) : Int32 → ja_S → Prop := fun r S' => r = f.2.1 ∧ S' = f.2.2
def mf_open (M : ja_S) (j : Nat) (b d : Int32) : ja_S := jb_u (jb_u (jb_u (jb_u (jb_u (mk_z M) 44 j 1) 45 j b) 46 j d) 47 j d) 48 j 3
def mp_open (M : ja_S) (a b d : Int32) : Int32 × Int32 × ja_S :=
  if jp_in a 0 7 ∧ jp_in b 0 9999 ∧ jp_in d 0 1000000 then
    if M 44 a.toNatClampNeg = 0 then (0, jp_ct (mf_open M a.toNatClampNeg b d 44) 8, mf_open M a.toNatClampNeg b d) else mk_f M 2
  else mk_f M 1
def mp_load (M : ja_S) (a b d : Int32) : Int32 × Int32 × ja_S :=
  if jp_in a 0 3 ∧ jp_in b 1 500 ∧ jp_in d 0 50 then
    if M 34 0 < 0 then (0, M 50 a.toNatClampNeg * M 51 a.toNatClampNeg, jb_u (jb_u (mk_z M) 50 a.toNatClampNeg b) 51 a.toNatClampNeg d) else mk_f M 2
  else mk_f M 1
def mp_ins (M : ja_S) (a : Int32) : Int32 × Int32 × ja_S :=
  if M 33 0 = 0 ∧ M 34 0 < 0 then
    if jp_in a 0 7 ∧ ¬ M 44 a.toNatClampNeg = 0 then
      if M 49 a.toNatClampNeg = 0 then (0, M 48 a.toNatClampNeg, jb_u (jb_u (mk_z M) 34 0 a) 35 0 0) else mk_f M 3
    else mk_f M 2
  else mk_f M 1
def mf_pin (M : ja_S) (j : Nat) (x : Int32) : Int32 × ja_S :=
  if x = M 45 j then (3, jb_u (jb_u (mk_z M) 35 0 1) 48 j 3)
  else if M 48 j - 1 = 0 then (M 48 j - 1, jb_u (jb_u (jb_u (mk_z M) 48 j (M 48 j - 1)) 49 j 1) 34 0 (-1))
  else (M 48 j - 1, jb_u (mk_z M) 48 j (M 48 j - 1))
def mp_pin (M : ja_S) (x : Int32) : Int32 × Int32 × ja_S := if ¬ M 34 0 < 0 ∧ M 35 0 = 0 then (0, (mf_pin M (M 34 0).toNatClampNeg x).1, (mf_pin M (M 34 0).toNatClampNeg x).2) else mk_f M 1
def mp_eject (M : ja_S) : Int32 × Int32 × ja_S := if 0 ≤ M 34 0 then (0, M 34 0, jb_u (jb_u (mk_z M) 34 0 (-1)) 35 0 0) else mk_f M 1
def mp_line (M : ja_S) (a : Int32) : Int32 × Int32 × ja_S :=
  if jp_in a 0 3 then if M 38 0 = 8 then mk_f M 2 else (0, M 38 0 + 1, jb_u (jb_u (mk_z M) 61 (M 38 0).toNatClampNeg a) 38 0 (M 38 0 + 1)) else mk_f M 1
def mp_jam (M : ja_S) (a : Int32) : Int32 × Int32 × ja_S := if jp_in a (-1) 100 then (0, if 0 ≤ a then 1 else 0, jb_u (mk_z M) 39 0 a) else mk_f M 1
def mp_pow (M : ja_S) (a : Int32) : Int32 × Int32 × ja_S := if jp_in a 0 4 then (0, if a = 0 then 0 else 1, jb_u (mk_z M) 40 0 a) else mk_f M 1
def mf_boot (M : ja_S) (t : Nat) : ja_S :=
  if 0 < t ∧ M 53 t = 1 then mf_owe (jb_u (jb_u (mk_z M) 33 0 0) 53 t 4) (nI t) (M 55 t)
  else if 0 < t ∧ M 53 t = 2 then mf_fin (jb_u (mk_z M) 33 0 0) t (if M 41 0 = nI t then M 42 0 else 0)
  else jb_u (mk_z M) 33 0 0
def mp_boot (M : ja_S) : Int32 × Int32 × ja_S := if M 33 0 = 0 then mk_f M 1 else (0, mf_boot M (M 36 0).toNatClampNeg 37 0, mf_boot M (M 36 0).toNatClampNeg)
def mp_bal (M : ja_S) (a : Int32) : Int32 × Int32 × ja_S := if jp_in a 0 7 ∧ ¬ M 44 a.toNatClampNeg = 0 then (0, M 47 a.toNatClampNeg, mk_z M) else mk_f M 1
def mp_tr (M : ja_S) (a b : Int32) : Int32 × Int32 × ja_S :=
  if jp_in a 1 (M 36 0) then
    if b = 0 then (0, M 53 a.toNatClampNeg, mk_z M) else if b = 1 then (0, M 54 a.toNatClampNeg, mk_z M) else if b = 2 then (0, M 55 a.toNatClampNeg, mk_z M) else if b = 3 then (0, M 56 a.toNatClampNeg, mk_z M) else mk_f M 2
  else mk_f M 1
def mp_revl (M : ja_S) (a : Int32) : Int32 × Int32 × ja_S := if ¬ a < 0 ∧ ¬ M 37 0 ≤ a then (0, M 60 a.toNatClampNeg, mk_z M) else mk_f M 1
def mp_notes (M : ja_S) (a : Int32) : Int32 × Int32 × ja_S := if jp_in a 0 3 then (0, M 51 a.toNatClampNeg, mk_z M) else mk_f M 1
/-- a beginning and the sum of the first n -/
def mf_sm (x : Int32) (f : Nat → Int32) : Nat → Int32
  | 0 => x
  | n + 1 => mf_sm x f n + f n
def mp_ct (M : ja_S) (b : Int32) : Int32 × Int32 × ja_S :=
  if b = 0 then (0, M 36 0, mk_z M) else if b = 1 then (0, M 37 0, mk_z M) else if b = 2 then (0, M 38 0, mk_z M) else if b = 3 then (0, if M 33 0 = 0 then 1 else 0, mk_z M) else if b = 4 then (0, M 34 0, mk_z M) else if b = 5 then (0, if M 34 0 < 0 then 0 else if M 35 0 = 0 then 0 else 1, mk_z M) else if b = 6 then (0, M 43 0, mk_z M) else if b = 7 then (0, jp_ct (M 49) 8, mk_z M) else mk_f M 1
set_option maxRecDepth 100000 in
theorem co_M_open {l : Launch} {s0 : State} {a0 : Array Value} {G : jb_Gt} {ad : Nat → Nat} (K : jo_G s0 a0 G ad) {S : ja_S} (a b d : Int32) : jo_C l s0 G ad jy_M_open jc_M_open 6 (some .int) 6 [.ref (ad 7), .int a, .int b, .int d] S (jo_i (jo_rs (mp_open S a b d))) := by
  refine jo_of K (by decide) rfl (Nat.le_of_ble_eq_true rfl) ?_
  intro p e s m args below meth c O hr hk
  refine ja_aload_n O (q := 1) jd_M_open_0 rfl rfl rfl ?_
  refine ja_iconst O (q := 2) (v := 0) jd_M_open_1 rfl (by decide) ?_
  refine jp_M_72 O (q := 5) jd_M_open_2 rfl ?_
  refine ja_iload_n O (q := 6) jd_M_open_5 rfl rfl rfl ?_
  refine ja_iconst O (q := 7) (v := 0) jd_M_open_6 rfl (by decide) ?_
  refine ja_bipush O (q := 9) (v := 7) jd_M_open_7 rfl (by decide) ?_
  refine jm_M_75 O (d := 1) ⟨by decide, by decide⟩ (Nat.le_of_ble_eq_true rfl) ⟨by decide, by decide⟩ (co_M_in K a 0 7) (q := 12) jd_M_open_9 rfl (fun r S' h => ?_)
  obtain ⟨rfl, -, hin_9⟩ := h
  refine ja_if_eq O (g := 36) (q := 15) jd_M_open_12 (by decide) rfl (fun h_12 => ?_) (fun h_12 => ?_)
  · refine ja_aload_n O (q := 37) jd_M_open_36 rfl rfl rfl ?_
    refine ja_iconst O (q := 38) (v := 1) jd_M_open_37 rfl (by decide) ?_
    refine jm_M_80 O (d := 1) ⟨by decide, by decide⟩ (Nat.le_of_ble_eq_true rfl) ⟨by decide, by decide⟩ (co_M_fail K 1) (q := 41) jd_M_open_38 rfl (fun r S' h => ?_)
    obtain ⟨rfl, rfl⟩ := h
    exact jo_ir O hr hk (by
        have q : ¬ (jp_in a 0 7 ∧ jp_in b 0 9999 ∧ jp_in d 0 1000000) := by first | exact fun q => (hin_9.mp h_12) q.1 | exact fun q => (hin_20.mp h_23) q.2.1 | exact fun q => (hin_30.mp h_33) q.2.2
        simp only [jo_rs, mp_open, if_neg q]; exact ⟨by first | rfl | trivial, by first | rfl | trivial⟩) jd_M_open_41
  · refine ja_iload_n O (q := 16) jd_M_open_15 rfl rfl rfl ?_
    refine ja_iconst O (q := 17) (v := 0) jd_M_open_16 rfl (by decide) ?_
    refine ja_sipush O (q := 20) (v := 9999) jd_M_open_17 rfl (by decide) ?_
    refine jm_M_75 O (d := 1) ⟨by decide, by decide⟩ (Nat.le_of_ble_eq_true rfl) ⟨by decide, by decide⟩ (co_M_in K b 0 9999) (q := 23) jd_M_open_20 rfl (fun r S' h => ?_)
    obtain ⟨rfl, -, hin_20⟩ := h
    refine ja_if_eq O (g := 36) (q := 26) jd_M_open_23 (by decide) rfl (fun h_23 => ?_) (fun h_23 => ?_)
    · refine ja_aload_n O (q := 37) jd_M_open_36 rfl rfl rfl ?_
      refine ja_iconst O (q := 38) (v := 1) jd_M_open_37 rfl (by decide) ?_
      refine jm_M_80 O (d := 1) ⟨by decide, by decide⟩ (Nat.le_of_ble_eq_true rfl) ⟨by decide, by decide⟩ (co_M_fail K 1) (q := 41) jd_M_open_38 rfl (fun r S' h => ?_)
      obtain ⟨rfl, rfl⟩ := h
      exact jo_ir O hr hk (by
          have q : ¬ (jp_in a 0 7 ∧ jp_in b 0 9999 ∧ jp_in d 0 1000000) := by first | exact fun q => (hin_9.mp h_12) q.1 | exact fun q => (hin_20.mp h_23) q.2.1 | exact fun q => (hin_30.mp h_33) q.2.2
          simp only [jo_rs, mp_open, if_neg q]; exact ⟨by first | rfl | trivial, by first | rfl | trivial⟩) jd_M_open_41
    · refine ja_iload_n O (q := 27) jd_M_open_26 rfl rfl rfl ?_
      refine ja_iconst O (q := 28) (v := 0) jd_M_open_27 rfl (by decide) ?_
      refine ja_ldc O (q := 30) (v := 1000000) jd_M_open_28 rfl jw_762 ?_
      refine jm_M_75 O (d := 1) ⟨by decide, by decide⟩ (Nat.le_of_ble_eq_true rfl) ⟨by decide, by decide⟩ (co_M_in K d 0 1000000) (q := 33) jd_M_open_30 rfl (fun r S' h => ?_)
      obtain ⟨rfl, -, hin_30⟩ := h
      refine ja_if_ne O (g := 42) (q := 36) jd_M_open_33 (by decide) rfl (fun h_33 => ?_) (fun h_33 => ?_)
      · have i1 := jp_no hin_9 h_12
        have i2 := jp_no hin_20 h_23
        have i3 := jp_no hin_30 h_33
        have i4 : jp_in a 0 7 ∧ jp_in b 0 9999 ∧ jp_in d 0 1000000 := ⟨i1, i2, i3⟩
        obtain ⟨j, hj, rfl⟩ := jp_in_nI (n := 7) (by decide) i1
        have hj8 : j < 8 := by omega
        have hcl : (nI j).toNatClampNeg = j := nI_clamp (by omega)
        refine ja_aload_n O (q := 43) jd_M_open_42 rfl rfl rfl ?_
        refine jg_M_7 O (q := 46) jd_M_open_43 rfl ?_
        refine ja_iload_n O (q := 47) jd_M_open_46 rfl rfl rfl ?_
        refine jl_19 O (k := j) rfl (by first | assumption | omega) (q := 48) jd_M_open_47 rfl ?_
        refine ja_if_eq O (g := 57) (q := 51) jd_M_open_48 (by decide) rfl (fun h_48 => ?_) (fun h_48 => ?_)
        · have hz : S 44 j = 0 := h_48
          have loop : ∀ (n : Nat) (i : Nat), i ≤ 8 → 8 < i + n → ja_V p l e (jo_r 6) s m args below meth c (jb_W G ad) s0.heap.size 6 0 0 (jo_M s0 G ad below args s (jo_i (jo_rs (mp_open S (nI j) b d)))) ((mf_open S j b d)) 98 [(0, .ref (ad 7)), (1, .int (nI j)), (2, .int b), (3, .int d), (4, .int (jp_ct (mf_open S j b d 44) i)), (5, .int (nI i))] [] := by
            intro n
            induction n with
            | zero => intro i hi hn; exact absurd hn (by omega)
            | succ n ih =>
              intro i hi hn
              refine ja_iload O (q := 100) jd_M_open_98 rfl rfl ?_
              refine ja_bipush O (q := 102) (v := 8) jd_M_open_100 rfl (by decide) ?_
              refine ja_icmp_ge O (g := 124) (q := 105) jd_M_open_102 (by decide) rfl (fun h_102 => ?_) (fun h_102 => ?_)
              · have hi8 : i = 8 := by
                  rcases Nat.lt_or_ge i 8 with z | z
                  · exact absurd h_102 (nI_ge (b := 8) z (by omega))
                  · omega
                subst hi8
                refine ja_iload O (q := 126) jd_M_open_124 rfl rfl ?_
                exact jo_ir O hr hk (by simp only [jo_rs, mp_open, if_pos i4, hcl, if_pos hz]; exact ⟨by first | rfl | trivial, by first | rfl | trivial⟩) jd_M_open_126
              · have hi8 : i < 8 := by
                  rcases Nat.lt_or_ge i 8 with z | z
                  · exact z
                  · exact absurd (show nI 8 ≤ nI i from nI_le z (by omega)) h_102
                refine ja_aload_n O (q := 106) jd_M_open_105 rfl rfl rfl ?_
                refine jg_M_7 O (q := 109) jd_M_open_106 rfl ?_
                refine ja_iload O (q := 111) jd_M_open_109 rfl rfl ?_
                refine jl_19 O (k := i) rfl (by first | assumption | omega) (q := 112) jd_M_open_111 rfl ?_
                refine ja_if_eq O (g := 118) (q := 115) jd_M_open_112 (by decide) rfl (fun h_112 => ?_) (fun h_112 => ?_)
                · refine ja_iinc O (q := 121) (v := nI (i + 1)) jd_M_open_118 rfl rfl (nI_1 i) (by decide) ?_
                  refine ja_goto O (g := 98) jd_M_open_121 (by decide) ?_
                  refine ja_less (L' := [(0, .ref (ad 7)), (1, .int (nI j)), (2, .int b), (3, .int d), (4, .int (jp_ct (mf_open S j b d 44) (i + 1))), (5, .int (nI (i + 1)))]) ⟨rfl, rfl, rfl, rfl, by first | (show some (Value.int _) = some (Value.int (jp_ct _ i + if mf_open S j b d 44 i = 0 then 0 else 1)); rw [if_pos h_112]; simp; done) | (show some (Value.int _) = some (Value.int (jp_ct _ i + if mf_open S j b d 44 i = 0 then 0 else 1)); rw [if_neg h_112]; rfl), rfl, trivial⟩ ?_
                  exact ih (i + 1) (by omega) (by omega)
                · refine ja_iinc O (q := 118)  jd_M_open_115 rfl rfl rfl (by decide) ?_
                  refine ja_iinc O (q := 121) (v := nI (i + 1)) jd_M_open_118 rfl rfl (nI_1 i) (by decide) ?_
                  refine ja_goto O (g := 98) jd_M_open_121 (by decide) ?_
                  refine ja_less (L' := [(0, .ref (ad 7)), (1, .int (nI j)), (2, .int b), (3, .int d), (4, .int (jp_ct (mf_open S j b d 44) (i + 1))), (5, .int (nI (i + 1)))]) ⟨rfl, rfl, rfl, rfl, by first | (show some (Value.int _) = some (Value.int (jp_ct _ i + if mf_open S j b d 44 i = 0 then 0 else 1)); rw [if_pos h_112]; simp; done) | (show some (Value.int _) = some (Value.int (jp_ct _ i + if mf_open S j b d 44 i = 0 then 0 else 1)); rw [if_neg h_112]; rfl), rfl, trivial⟩ ?_
                  exact ih (i + 1) (by omega) (by omega)
          refine ja_aload_n O (q := 58) jd_M_open_57 rfl rfl rfl ?_
          refine jg_M_7 O (q := 61) jd_M_open_58 rfl ?_
          refine ja_iload_n O (q := 62) jd_M_open_61 rfl rfl rfl ?_
          refine ja_iconst O (q := 63) (v := 1) jd_M_open_62 rfl (by decide) ?_
          refine js_19 O (k := j) rfl (by first | assumption | omega) (by first | assumption | exact Or.inl rfl | exact Or.inr rfl) (q := 64) jd_M_open_63 rfl ?_
          refine ja_aload_n O (q := 65) jd_M_open_64 rfl rfl rfl ?_
          refine jg_M_13 O (q := 68) jd_M_open_65 rfl ?_
          refine ja_iload_n O (q := 69) jd_M_open_68 rfl rfl rfl ?_
          refine ja_iload_n O (q := 70) jd_M_open_69 rfl rfl rfl ?_
          refine js_20 O (k := j) rfl (by first | assumption | omega) (q := 71) jd_M_open_70 rfl ?_
          refine ja_aload_n O (q := 72) jd_M_open_71 rfl rfl rfl ?_
          refine jg_M_17 O (q := 75) jd_M_open_72 rfl ?_
          refine ja_iload_n O (q := 76) jd_M_open_75 rfl rfl rfl ?_
          refine ja_iload_n O (q := 77) jd_M_open_76 rfl rfl rfl ?_
          refine js_21 O (k := j) rfl (by first | assumption | omega) (q := 78) jd_M_open_77 rfl ?_
          refine ja_aload_n O (q := 79) jd_M_open_78 rfl rfl rfl ?_
          refine jg_M_20 O (q := 82) jd_M_open_79 rfl ?_
          refine ja_iload_n O (q := 83) jd_M_open_82 rfl rfl rfl ?_
          refine ja_iload_n O (q := 84) jd_M_open_83 rfl rfl rfl ?_
          refine js_22 O (k := j) rfl (by first | assumption | omega) (q := 85) jd_M_open_84 rfl ?_
          refine ja_aload_n O (q := 86) jd_M_open_85 rfl rfl rfl ?_
          refine jg_M_23 O (q := 89) jd_M_open_86 rfl ?_
          refine ja_iload_n O (q := 90) jd_M_open_89 rfl rfl rfl ?_
          refine ja_iconst O (q := 91) (v := 3) jd_M_open_90 rfl (by decide) ?_
          refine js_23 O (k := j) rfl (by first | assumption | omega) (q := 92) jd_M_open_91 rfl ?_
          refine ja_iconst O (q := 93) (v := 0) jd_M_open_92 rfl (by decide) ?_
          refine ja_istore O (q := 95) jd_M_open_93 rfl (by decide) ?_
          refine ja_iconst O (q := 96) (v := 0) jd_M_open_95 rfl (by decide) ?_
          refine ja_istore O (q := 98) jd_M_open_96 rfl (by decide) ?_
          refine ja_less (L' := [(0, .ref (ad 7)), (1, .int (nI j)), (2, .int b), (3, .int d), (4, .int (jp_ct (mf_open S j b d 44) 0)), (5, .int (nI 0))]) ⟨rfl, rfl, rfl, rfl, rfl, rfl, trivial⟩ ?_
          exact loop 9 0 (by omega) (by omega)
        · refine ja_aload_n O (q := 52) jd_M_open_51 rfl rfl rfl ?_
          refine ja_iconst O (q := 53) (v := 2) jd_M_open_52 rfl (by decide) ?_
          refine jm_M_80 O (d := 1) ⟨by decide, by decide⟩ (Nat.le_of_ble_eq_true rfl) ⟨by decide, by decide⟩ (co_M_fail K 2) (q := 56) jd_M_open_53 rfl (fun r S' h => ?_)
          obtain ⟨rfl, rfl⟩ := h
          exact jo_ir O hr hk (by
              have q : ¬ S 44 j = 0 := h_48
              simp only [jo_rs, mp_open, if_pos i4, hcl, if_neg q]; exact ⟨by first | rfl | trivial, by first | rfl | trivial⟩) jd_M_open_56
      · refine ja_aload_n O (q := 37) jd_M_open_36 rfl rfl rfl ?_
        refine ja_iconst O (q := 38) (v := 1) jd_M_open_37 rfl (by decide) ?_
        refine jm_M_80 O (d := 1) ⟨by decide, by decide⟩ (Nat.le_of_ble_eq_true rfl) ⟨by decide, by decide⟩ (co_M_fail K 1) (q := 41) jd_M_open_38 rfl (fun r S' h => ?_)
        obtain ⟨rfl, rfl⟩ := h
        exact jo_ir O hr hk (by
            have q : ¬ (jp_in a 0 7 ∧ jp_in b 0 9999 ∧ jp_in d 0 1000000) := by first | exact fun q => (hin_9.mp h_12) q.1 | exact fun q => (hin_20.mp h_23) q.2.1 | exact fun q => (hin_30.mp h_33) q.2.2
            simp only [jo_rs, mp_open, if_neg q]; exact ⟨by first | rfl | trivial, by first | rfl | trivial⟩) jd_M_open_41
set_option maxRecDepth 100000 in
theorem co_M_load {l : Launch} {s0 : State} {a0 : Array Value} {G : jb_Gt} {ad : Nat → Nat} (K : jo_G s0 a0 G ad) {S : ja_S} (a b d : Int32) : jo_C l s0 G ad jy_M_load jc_M_load 5 (some .int) 6 [.ref (ad 7), .int a, .int b, .int d] S (jo_i (jo_rs (mp_load S a b d))) := by
  refine jo_of K (by decide) rfl (Nat.le_of_ble_eq_true rfl) ?_
  intro p e s m args below meth c O hr hk
  refine ja_aload_n O (q := 1) jd_M_load_0 rfl rfl rfl ?_
  refine ja_iconst O (q := 2) (v := 0) jd_M_load_1 rfl (by decide) ?_
  refine jp_M_72 O (q := 5) jd_M_load_2 rfl ?_
  refine ja_iload_n O (q := 6) jd_M_load_5 rfl rfl rfl ?_
  refine ja_iconst O (q := 7) (v := 0) jd_M_load_6 rfl (by decide) ?_
  refine ja_iconst O (q := 8) (v := 3) jd_M_load_7 rfl (by decide) ?_
  refine jm_M_75 O (d := 1) ⟨by decide, by decide⟩ (Nat.le_of_ble_eq_true rfl) ⟨by decide, by decide⟩ (co_M_in K a 0 3) (q := 11) jd_M_load_8 rfl (fun r S' h => ?_)
  obtain ⟨rfl, -, hin_8⟩ := h
  refine ja_if_eq O (g := 35) (q := 14) jd_M_load_11 (by decide) rfl (fun h_11 => ?_) (fun h_11 => ?_)
  · refine ja_aload_n O (q := 36) jd_M_load_35 rfl rfl rfl ?_
    refine ja_iconst O (q := 37) (v := 1) jd_M_load_36 rfl (by decide) ?_
    refine jm_M_80 O (d := 1) ⟨by decide, by decide⟩ (Nat.le_of_ble_eq_true rfl) ⟨by decide, by decide⟩ (co_M_fail K 1) (q := 40) jd_M_load_37 rfl (fun r S' h => ?_)
    obtain ⟨rfl, rfl⟩ := h
    exact jo_ir O hr hk (by
        have q : ¬ (jp_in a 0 3 ∧ jp_in b 1 500 ∧ jp_in d 0 50) := by first | exact fun q => (hin_8.mp h_11) q.1 | exact fun q => (hin_19.mp h_22) q.2.1 | exact fun q => (hin_29.mp h_32) q.2.2
        simp only [jo_rs, mp_load, if_neg q]; exact ⟨by first | rfl | trivial, by first | rfl | trivial⟩) jd_M_load_40
  · refine ja_iload_n O (q := 15) jd_M_load_14 rfl rfl rfl ?_
    refine ja_iconst O (q := 16) (v := 1) jd_M_load_15 rfl (by decide) ?_
    refine ja_sipush O (q := 19) (v := 500) jd_M_load_16 rfl (by decide) ?_
    refine jm_M_75 O (d := 1) ⟨by decide, by decide⟩ (Nat.le_of_ble_eq_true rfl) ⟨by decide, by decide⟩ (co_M_in K b 1 500) (q := 22) jd_M_load_19 rfl (fun r S' h => ?_)
    obtain ⟨rfl, -, hin_19⟩ := h
    refine ja_if_eq O (g := 35) (q := 25) jd_M_load_22 (by decide) rfl (fun h_22 => ?_) (fun h_22 => ?_)
    · refine ja_aload_n O (q := 36) jd_M_load_35 rfl rfl rfl ?_
      refine ja_iconst O (q := 37) (v := 1) jd_M_load_36 rfl (by decide) ?_
      refine jm_M_80 O (d := 1) ⟨by decide, by decide⟩ (Nat.le_of_ble_eq_true rfl) ⟨by decide, by decide⟩ (co_M_fail K 1) (q := 40) jd_M_load_37 rfl (fun r S' h => ?_)
      obtain ⟨rfl, rfl⟩ := h
      exact jo_ir O hr hk (by
          have q : ¬ (jp_in a 0 3 ∧ jp_in b 1 500 ∧ jp_in d 0 50) := by first | exact fun q => (hin_8.mp h_11) q.1 | exact fun q => (hin_19.mp h_22) q.2.1 | exact fun q => (hin_29.mp h_32) q.2.2
          simp only [jo_rs, mp_load, if_neg q]; exact ⟨by first | rfl | trivial, by first | rfl | trivial⟩) jd_M_load_40
    · refine ja_iload_n O (q := 26) jd_M_load_25 rfl rfl rfl ?_
      refine ja_iconst O (q := 27) (v := 0) jd_M_load_26 rfl (by decide) ?_
      refine ja_bipush O (q := 29) (v := 50) jd_M_load_27 rfl (by decide) ?_
      refine jm_M_75 O (d := 1) ⟨by decide, by decide⟩ (Nat.le_of_ble_eq_true rfl) ⟨by decide, by decide⟩ (co_M_in K d 0 50) (q := 32) jd_M_load_29 rfl (fun r S' h => ?_)
      obtain ⟨rfl, -, hin_29⟩ := h
      refine ja_if_ne O (g := 41) (q := 35) jd_M_load_32 (by decide) rfl (fun h_32 => ?_) (fun h_32 => ?_)
      · have i1 := jp_no hin_8 h_11
        have i2 := jp_no hin_19 h_22
        have i3 := jp_no hin_29 h_32
        have i4 : jp_in a 0 3 ∧ jp_in b 1 500 ∧ jp_in d 0 50 := ⟨i1, i2, i3⟩
        obtain ⟨j, hj, rfl⟩ := jp_in_nI (n := 3) (by decide) i1
        have hj4 : j < 4 := by omega
        have hcl : (nI j).toNatClampNeg = j := nI_clamp (by omega)
        refine ja_aload_n O (q := 42) jd_M_load_41 rfl rfl rfl ?_
        refine jg_M_38 O (q := 45) jd_M_load_42 rfl ?_
        refine ja_if_lt O (g := 54) (q := 48) jd_M_load_45 (by decide) rfl (fun h_45 => ?_) (fun h_45 => ?_)
        · refine ja_aload_n O (q := 55) jd_M_load_54 rfl rfl rfl ?_
          refine jg_M_29 O (q := 58) jd_M_load_55 rfl ?_
          refine ja_iload_n O (q := 59) jd_M_load_58 rfl rfl rfl ?_
          refine jl_25 O (k := j) rfl (by first | assumption | omega) (q := 60) jd_M_load_59 rfl ?_
          refine ja_aload_n O (q := 61) jd_M_load_60 rfl rfl rfl ?_
          refine jg_M_32 O (q := 64) jd_M_load_61 rfl ?_
          refine ja_iload_n O (q := 65) jd_M_load_64 rfl rfl rfl ?_
          refine jl_26 O (k := j) rfl (by first | assumption | omega) (q := 66) jd_M_load_65 rfl ?_
          refine ja_imul O (q := 67) jd_M_load_66 rfl ?_
          refine ja_istore O (q := 69) jd_M_load_67 rfl (by decide) ?_
          refine ja_aload_n O (q := 70) jd_M_load_69 rfl rfl rfl ?_
          refine jg_M_29 O (q := 73) jd_M_load_70 rfl ?_
          refine ja_iload_n O (q := 74) jd_M_load_73 rfl rfl rfl ?_
          refine ja_iload_n O (q := 75) jd_M_load_74 rfl rfl rfl ?_
          refine js_25 O (k := j) rfl (by first | assumption | omega) (q := 76) jd_M_load_75 rfl ?_
          refine ja_aload_n O (q := 77) jd_M_load_76 rfl rfl rfl ?_
          refine jg_M_32 O (q := 80) jd_M_load_77 rfl ?_
          refine ja_iload_n O (q := 81) jd_M_load_80 rfl rfl rfl ?_
          refine ja_iload_n O (q := 82) jd_M_load_81 rfl rfl rfl ?_
          refine js_26 O (k := j) rfl (by first | assumption | omega) (q := 83) jd_M_load_82 rfl ?_
          refine ja_iload O (q := 85) jd_M_load_83 rfl rfl ?_
          exact jo_ir O hr hk (by
              have q : S 34 0 < 0 := h_45
              simp only [jo_rs, mp_load, if_pos i4, hcl, if_pos q]; exact ⟨by first | rfl | trivial, by first | rfl | trivial⟩) jd_M_load_85
        · refine ja_aload_n O (q := 49) jd_M_load_48 rfl rfl rfl ?_
          refine ja_iconst O (q := 50) (v := 2) jd_M_load_49 rfl (by decide) ?_
          refine jm_M_80 O (d := 1) ⟨by decide, by decide⟩ (Nat.le_of_ble_eq_true rfl) ⟨by decide, by decide⟩ (co_M_fail K 2) (q := 53) jd_M_load_50 rfl (fun r S' h => ?_)
          obtain ⟨rfl, rfl⟩ := h
          exact jo_ir O hr hk (by
              have q : ¬ S 34 0 < 0 := h_45
              simp only [jo_rs, mp_load, if_pos i4, hcl, if_neg q]; exact ⟨by first | rfl | trivial, by first | rfl | trivial⟩) jd_M_load_53
      · refine ja_aload_n O (q := 36) jd_M_load_35 rfl rfl rfl ?_
        refine ja_iconst O (q := 37) (v := 1) jd_M_load_36 rfl (by decide) ?_
        refine jm_M_80 O (d := 1) ⟨by decide, by decide⟩ (Nat.le_of_ble_eq_true rfl) ⟨by decide, by decide⟩ (co_M_fail K 1) (q := 40) jd_M_load_37 rfl (fun r S' h => ?_)
        obtain ⟨rfl, rfl⟩ := h
        exact jo_ir O hr hk (by
            have q : ¬ (jp_in a 0 3 ∧ jp_in b 1 500 ∧ jp_in d 0 50) := by first | exact fun q => (hin_8.mp h_11) q.1 | exact fun q => (hin_19.mp h_22) q.2.1 | exact fun q => (hin_29.mp h_32) q.2.2
            simp only [jo_rs, mp_load, if_neg q]; exact ⟨by first | rfl | trivial, by first | rfl | trivial⟩) jd_M_load_40
set_option maxRecDepth 100000 in
theorem co_M_insert {l : Launch} {s0 : State} {a0 : Array Value} {G : jb_Gt} {ad : Nat → Nat} (K : jo_G s0 a0 G ad) {S : ja_S} (a : Int32) : jo_C l s0 G ad jy_M_insert jc_M_insert 2 (some .int) 6 [.ref (ad 7), .int a] S (jo_i (jo_rs (mp_ins S a))) := by
  refine jo_of K (by decide) rfl (Nat.le_of_ble_eq_true rfl) ?_
  intro p e s m args below meth c O hr hk
  refine ja_aload_n O (q := 1) jd_M_insert_0 rfl rfl rfl ?_
  refine ja_iconst O (q := 2) (v := 0) jd_M_insert_1 rfl (by decide) ?_
  refine jp_M_72 O (q := 5) jd_M_insert_2 rfl ?_
  refine ja_aload_n O (q := 6) jd_M_insert_5 rfl rfl rfl ?_
  refine jg_M_84 O (q := 9) jd_M_insert_6 rfl ?_
  refine ja_if_ne O (g := 19) (q := 12) jd_M_insert_9 (by decide) rfl (fun h_9 => ?_) (fun h_9 => ?_)
  · refine ja_aload_n O (q := 20) jd_M_insert_19 rfl rfl rfl ?_
    refine ja_iconst O (q := 21) (v := 1) jd_M_insert_20 rfl (by decide) ?_
    refine jm_M_80 O (d := 1) ⟨by decide, by decide⟩ (Nat.le_of_ble_eq_true rfl) ⟨by decide, by decide⟩ (co_M_fail K 1) (q := 24) jd_M_insert_21 rfl (fun r S' h => ?_)
    obtain ⟨rfl, rfl⟩ := h
    exact jo_ir O hr hk (by
        have q : ¬ (S 33 0 = 0 ∧ S 34 0 < 0) := by first | exact fun q => h_9 q.1 | exact fun q => h_16 q.2
        simp only [jo_rs, mp_ins, if_neg q]; exact ⟨by first | rfl | trivial, by first | rfl | trivial⟩) jd_M_insert_24
  · refine ja_aload_n O (q := 13) jd_M_insert_12 rfl rfl rfl ?_
    refine jg_M_38 O (q := 16) jd_M_insert_13 rfl ?_
    refine ja_if_lt O (g := 25) (q := 19) jd_M_insert_16 (by decide) rfl (fun h_16 => ?_) (fun h_16 => ?_)
    · have i4 : S 33 0 = 0 ∧ S 34 0 < 0 := ⟨h_9, h_16⟩
      refine ja_iload_n O (q := 26) jd_M_insert_25 rfl rfl rfl ?_
      refine ja_iconst O (q := 27) (v := 0) jd_M_insert_26 rfl (by decide) ?_
      refine ja_bipush O (q := 29) (v := 7) jd_M_insert_27 rfl (by decide) ?_
      refine jm_M_75 O (d := 1) ⟨by decide, by decide⟩ (Nat.le_of_ble_eq_true rfl) ⟨by decide, by decide⟩ (co_M_in K a 0 7) (q := 32) jd_M_insert_29 rfl (fun r S' h => ?_)
      obtain ⟨rfl, -, hin_29⟩ := h
      refine ja_if_eq O (g := 44) (q := 35) jd_M_insert_32 (by decide) rfl (fun h_32 => ?_) (fun h_32 => ?_)
      · refine ja_aload_n O (q := 45) jd_M_insert_44 rfl rfl rfl ?_
        refine ja_iconst O (q := 46) (v := 2) jd_M_insert_45 rfl (by decide) ?_
        refine jm_M_80 O (d := 1) ⟨by decide, by decide⟩ (Nat.le_of_ble_eq_true rfl) ⟨by decide, by decide⟩ (co_M_fail K 2) (q := 49) jd_M_insert_46 rfl (fun r S' h => ?_)
        obtain ⟨rfl, rfl⟩ := h
        exact jo_ir O hr hk (by
            first
            | (have q : ¬ (jp_in (nI j) 0 7 ∧ ¬ S 44 (nI j).toNatClampNeg = 0) := fun q => q.2 (by rw [hcl]; exact h_41)
               simp only [jo_rs, mp_ins, if_pos i4, if_neg q]; exact ⟨by first | rfl | trivial, by first | rfl | trivial⟩)
            | (have q : ¬ (jp_in a 0 7 ∧ ¬ S 44 a.toNatClampNeg = 0) := fun q => (hin_29.mp h_32) q.1
               simp only [jo_rs, mp_ins, if_pos i4, if_neg q]; exact ⟨by first | rfl | trivial, by first | rfl | trivial⟩)) jd_M_insert_49
      · have i1 := jp_no hin_29 h_32
        obtain ⟨j, hj, rfl⟩ := jp_in_nI (n := 7) (by decide) i1
        have hj8 : j < 8 := by omega
        have hcl : (nI j).toNatClampNeg = j := nI_clamp (by omega)
        refine ja_aload_n O (q := 36) jd_M_insert_35 rfl rfl rfl ?_
        refine jg_M_7 O (q := 39) jd_M_insert_36 rfl ?_
        refine ja_iload_n O (q := 40) jd_M_insert_39 rfl rfl rfl ?_
        refine jl_19 O (k := j) rfl (by first | assumption | omega) (q := 41) jd_M_insert_40 rfl ?_
        refine ja_if_ne O (g := 50) (q := 44) jd_M_insert_41 (by decide) rfl (fun h_41 => ?_) (fun h_41 => ?_)
        · have i5 : jp_in (nI j) 0 7 ∧ ¬ S 44 j = 0 := ⟨i1, h_41⟩
          refine ja_aload_n O (q := 51) jd_M_insert_50 rfl rfl rfl ?_
          refine jg_M_26 O (q := 54) jd_M_insert_51 rfl ?_
          refine ja_iload_n O (q := 55) jd_M_insert_54 rfl rfl rfl ?_
          refine jl_24 O (k := j) rfl (by first | assumption | omega) (q := 56) jd_M_insert_55 rfl ?_
          refine ja_if_eq O (g := 65) (q := 59) jd_M_insert_56 (by decide) rfl (fun h_56 => ?_) (fun h_56 => ?_)
          · refine ja_aload_n O (q := 66) jd_M_insert_65 rfl rfl rfl ?_
            refine ja_iload_n O (q := 67) jd_M_insert_66 rfl rfl rfl ?_
            refine jp_M_38 O (q := 70) jd_M_insert_67 rfl ?_
            refine ja_aload_n O (q := 71) jd_M_insert_70 rfl rfl rfl ?_
            refine ja_iconst O (q := 72) (v := 0) jd_M_insert_71 rfl (by decide) ?_
            refine jp_M_88 O (by first | assumption | exact Or.inl rfl | exact Or.inr rfl) (q := 75) jd_M_insert_72 rfl ?_
            refine ja_aload_n O (q := 76) jd_M_insert_75 rfl rfl rfl ?_
            refine jg_M_23 O (q := 79) jd_M_insert_76 rfl ?_
            refine ja_iload_n O (q := 80) jd_M_insert_79 rfl rfl rfl ?_
            refine jl_23 O (k := j) rfl (by first | assumption | omega) (q := 81) jd_M_insert_80 rfl ?_
            exact jo_ir O hr hk (by
                have q : S 49 j = 0 := h_56
                simp only [jo_rs, mp_ins, if_pos i4, hcl, if_pos i5, if_pos q]; exact ⟨by first | rfl | trivial, by first | rfl | trivial⟩) jd_M_insert_81
          · refine ja_aload_n O (q := 60) jd_M_insert_59 rfl rfl rfl ?_
            refine ja_iconst O (q := 61) (v := 3) jd_M_insert_60 rfl (by decide) ?_
            refine jm_M_80 O (d := 1) ⟨by decide, by decide⟩ (Nat.le_of_ble_eq_true rfl) ⟨by decide, by decide⟩ (co_M_fail K 3) (q := 64) jd_M_insert_61 rfl (fun r S' h => ?_)
            obtain ⟨rfl, rfl⟩ := h
            exact jo_ir O hr hk (by
                have q : ¬ S 49 j = 0 := h_56
                simp only [jo_rs, mp_ins, if_pos i4, hcl, if_pos i5, if_neg q]; exact ⟨by first | rfl | trivial, by first | rfl | trivial⟩) jd_M_insert_64
        · refine ja_aload_n O (q := 45) jd_M_insert_44 rfl rfl rfl ?_
          refine ja_iconst O (q := 46) (v := 2) jd_M_insert_45 rfl (by decide) ?_
          refine jm_M_80 O (d := 1) ⟨by decide, by decide⟩ (Nat.le_of_ble_eq_true rfl) ⟨by decide, by decide⟩ (co_M_fail K 2) (q := 49) jd_M_insert_46 rfl (fun r S' h => ?_)
          obtain ⟨rfl, rfl⟩ := h
          exact jo_ir O hr hk (by
              first
              | (have q : ¬ (jp_in (nI j) 0 7 ∧ ¬ S 44 (nI j).toNatClampNeg = 0) := fun q => q.2 (by rw [hcl]; exact h_41)
                 simp only [jo_rs, mp_ins, if_pos i4, if_neg q]; exact ⟨by first | rfl | trivial, by first | rfl | trivial⟩)
              | (have q : ¬ (jp_in a 0 7 ∧ ¬ S 44 a.toNatClampNeg = 0) := fun q => (hin_29.mp h_32) q.1
                 simp only [jo_rs, mp_ins, if_pos i4, if_neg q]; exact ⟨by first | rfl | trivial, by first | rfl | trivial⟩)) jd_M_insert_49
    · refine ja_aload_n O (q := 20) jd_M_insert_19 rfl rfl rfl ?_
      refine ja_iconst O (q := 21) (v := 1) jd_M_insert_20 rfl (by decide) ?_
      refine jm_M_80 O (d := 1) ⟨by decide, by decide⟩ (Nat.le_of_ble_eq_true rfl) ⟨by decide, by decide⟩ (co_M_fail K 1) (q := 24) jd_M_insert_21 rfl (fun r S' h => ?_)
      obtain ⟨rfl, rfl⟩ := h
      exact jo_ir O hr hk (by
          have q : ¬ (S 33 0 = 0 ∧ S 34 0 < 0) := by first | exact fun q => h_9 q.1 | exact fun q => h_16 q.2
          simp only [jo_rs, mp_ins, if_neg q]; exact ⟨by first | rfl | trivial, by first | rfl | trivial⟩) jd_M_insert_24
set_option maxRecDepth 100000 in
theorem co_M_pin {l : Launch} {s0 : State} {a0 : Array Value} {G : jb_Gt} {ad : Nat → Nat} (K : jo_G s0 a0 G ad) {S : ja_S} (x : Int32) (hs : S 34 0 < 0 ∨ ∃ j, j < 8 ∧ S 34 0 = nI j) : jo_C l s0 G ad jy_M_pin jc_M_pin 3 (some .int) 6 [.ref (ad 7), .int x] S (jo_i (jo_rs (mp_pin S x))) := by
  refine jo_of K (by decide) rfl (Nat.le_of_ble_eq_true rfl) ?_
  intro p e s m args below meth c O hr hk
  refine ja_aload_n O (q := 1) jd_M_pin_0 rfl rfl rfl ?_
  refine ja_iconst O (q := 2) (v := 0) jd_M_pin_1 rfl (by decide) ?_
  refine jp_M_72 O (q := 5) jd_M_pin_2 rfl ?_
  refine ja_aload_n O (q := 6) jd_M_pin_5 rfl rfl rfl ?_
  refine jg_M_38 O (q := 9) jd_M_pin_6 rfl ?_
  refine ja_if_lt O (g := 19) (q := 12) jd_M_pin_9 (by decide) rfl (fun h_9 => ?_) (fun h_9 => ?_)
  · refine ja_aload_n O (q := 20) jd_M_pin_19 rfl rfl rfl ?_
    refine ja_iconst O (q := 21) (v := 1) jd_M_pin_20 rfl (by decide) ?_
    refine jm_M_80 O (d := 1) ⟨by decide, by decide⟩ (Nat.le_of_ble_eq_true rfl) ⟨by decide, by decide⟩ (co_M_fail K 1) (q := 24) jd_M_pin_21 rfl (fun r S' h => ?_)
    obtain ⟨rfl, rfl⟩ := h
    exact jo_ir O hr hk (by
        have q : ¬ (¬ S 34 0 < 0 ∧ S 35 0 = 0) := by first | exact fun q => q.1 h_9 | exact fun q => h_16 q.2
        simp only [jo_rs, mp_pin, if_neg q]; exact ⟨by first | rfl | trivial, by first | rfl | trivial⟩) jd_M_pin_24
  · refine ja_aload_n O (q := 13) jd_M_pin_12 rfl rfl rfl ?_
    refine jg_M_88 O (q := 16) jd_M_pin_13 rfl ?_
    refine ja_if_eq O (g := 25) (q := 19) jd_M_pin_16 (by decide) rfl (fun h_16 => ?_) (fun h_16 => ?_)
    · have i4 : ¬ S 34 0 < 0 ∧ S 35 0 = 0 := ⟨h_9, h_16⟩
      obtain ⟨j, hj, hj1⟩ := hs.resolve_left h_9
      have hcl : (S 34 0).toNatClampNeg = j := by rw [hj1]; exact nI_clamp (by omega)
      refine ja_iload_n O (q := 26) jd_M_pin_25 rfl rfl rfl ?_
      refine ja_aload_n O (q := 27) jd_M_pin_26 rfl rfl rfl ?_
      refine jg_M_13 O (q := 30) jd_M_pin_27 rfl ?_
      refine ja_aload_n O (q := 31) jd_M_pin_30 rfl rfl rfl ?_
      refine jg_M_38 O (q := 34) jd_M_pin_31 rfl ?_
      refine jl_20 O (k := j) hj1 (by first | assumption | omega) (q := 35) jd_M_pin_34 rfl ?_
      refine ja_icmp_ne O (g := 55) (q := 38) jd_M_pin_35 (by decide) rfl (fun h_35 => ?_) (fun h_35 => ?_)
      · refine ja_aload_n O (q := 56) jd_M_pin_55 rfl rfl rfl ?_
        refine jg_M_23 O (q := 59) jd_M_pin_56 rfl ?_
        refine ja_aload_n O (q := 60) jd_M_pin_59 rfl rfl rfl ?_
        refine jg_M_38 O (q := 63) jd_M_pin_60 rfl ?_
        refine ja_dup2 O (q := 64) jd_M_pin_63 rfl rfl rfl ?_
        refine jl_23 O (k := j) hj1 (by first | assumption | omega) (q := 65) jd_M_pin_64 rfl ?_
        refine ja_iconst O (q := 66) (v := 1) jd_M_pin_65 rfl (by decide) ?_
        refine ja_isub O (q := 67) jd_M_pin_66 rfl ?_
        refine js_23 O (k := j) hj1 (by first | assumption | omega) (q := 68) jd_M_pin_67 rfl ?_
        refine ja_aload_n O (q := 69) jd_M_pin_68 rfl rfl rfl ?_
        refine jg_M_23 O (q := 72) jd_M_pin_69 rfl ?_
        refine ja_aload_n O (q := 73) jd_M_pin_72 rfl rfl rfl ?_
        refine jg_M_38 O (q := 76) jd_M_pin_73 rfl ?_
        refine jl_23 O (k := j) hj1 (by first | assumption | omega) (q := 77) jd_M_pin_76 rfl ?_
        refine ja_istore_n O (q := 78) jd_M_pin_77 rfl rfl (by decide) ?_
        have e7 : jb_u (jb_u S 32 0 0) 48 j (jb_u S 32 0 0 48 j - 1) 48 j = S 48 j - 1 := by show upd _ j _ j = _; rw [pk_us]; rfl
        refine ja_less (L' := [(0, .ref (ad 7)), (1, .int x), (2, .int (S 48 j - 1))]) ⟨rfl, rfl, by rw [← e7]; rfl, trivial⟩ ?_
        refine ja_iload_n O (q := 79) jd_M_pin_78 rfl rfl rfl ?_
        refine ja_if_ne O (g := 97) (q := 82) jd_M_pin_79 (by decide) rfl (fun h_79 => ?_) (fun h_79 => ?_)
        · refine ja_iload_n O (q := 98) jd_M_pin_97 rfl rfl rfl ?_
          exact jo_ir O hr hk (by
              have q : ¬ x = S 45 j := h_35
              first
              | (have q2 : S 48 j - 1 = 0 := h_79
                 simp only [jo_rs, mp_pin, if_pos i4, hcl, mf_pin, if_neg q, if_pos q2]; exact ⟨by first | rfl | trivial, by first | rfl | trivial⟩)
              | (have q2 : ¬ S 48 j - 1 = 0 := h_79
                 simp only [jo_rs, mp_pin, if_pos i4, hcl, mf_pin, if_neg q, if_neg q2]; exact ⟨by first | rfl | trivial, by first | rfl | trivial⟩)) jd_M_pin_98
        · refine ja_aload_n O (q := 83) jd_M_pin_82 rfl rfl rfl ?_
          refine jg_M_26 O (q := 86) jd_M_pin_83 rfl ?_
          refine ja_aload_n O (q := 87) jd_M_pin_86 rfl rfl rfl ?_
          refine jg_M_38 O (q := 90) jd_M_pin_87 rfl ?_
          refine ja_iconst O (q := 91) (v := 1) jd_M_pin_90 rfl (by decide) ?_
          refine js_24 O (k := j) hj1 (by first | assumption | omega) (by first | assumption | exact Or.inl rfl | exact Or.inr rfl) (q := 92) jd_M_pin_91 rfl ?_
          refine ja_aload_n O (q := 93) jd_M_pin_92 rfl rfl rfl ?_
          refine ja_iconst O (q := 94) (v := (-1)) jd_M_pin_93 rfl (by decide) ?_
          refine jp_M_38 O (q := 97) jd_M_pin_94 rfl ?_
          refine ja_iload_n O (q := 98) jd_M_pin_97 rfl rfl rfl ?_
          exact jo_ir O hr hk (by
              have q : ¬ x = S 45 j := h_35
              first
              | (have q2 : S 48 j - 1 = 0 := h_79
                 simp only [jo_rs, mp_pin, if_pos i4, hcl, mf_pin, if_neg q, if_pos q2]; exact ⟨by first | rfl | trivial, by first | rfl | trivial⟩)
              | (have q2 : ¬ S 48 j - 1 = 0 := h_79
                 simp only [jo_rs, mp_pin, if_pos i4, hcl, mf_pin, if_neg q, if_neg q2]; exact ⟨by first | rfl | trivial, by first | rfl | trivial⟩)) jd_M_pin_98
      · refine ja_aload_n O (q := 39) jd_M_pin_38 rfl rfl rfl ?_
        refine ja_iconst O (q := 40) (v := 1) jd_M_pin_39 rfl (by decide) ?_
        refine jp_M_88 O (by first | assumption | exact Or.inl rfl | exact Or.inr rfl) (q := 43) jd_M_pin_40 rfl ?_
        refine ja_aload_n O (q := 44) jd_M_pin_43 rfl rfl rfl ?_
        refine jg_M_23 O (q := 47) jd_M_pin_44 rfl ?_
        refine ja_aload_n O (q := 48) jd_M_pin_47 rfl rfl rfl ?_
        refine jg_M_38 O (q := 51) jd_M_pin_48 rfl ?_
        refine ja_iconst O (q := 52) (v := 3) jd_M_pin_51 rfl (by decide) ?_
        refine js_23 O (k := j) hj1 (by first | assumption | omega) (q := 53) jd_M_pin_52 rfl ?_
        refine ja_iconst O (q := 54) (v := 3) jd_M_pin_53 rfl (by decide) ?_
        exact jo_ir O hr hk (by
            have q : x = S 45 j := h_35
            simp only [jo_rs, mp_pin, if_pos i4, hcl, mf_pin, if_pos q]; exact ⟨by first | rfl | trivial, by first | rfl | trivial⟩) jd_M_pin_54
    · refine ja_aload_n O (q := 20) jd_M_pin_19 rfl rfl rfl ?_
      refine ja_iconst O (q := 21) (v := 1) jd_M_pin_20 rfl (by decide) ?_
      refine jm_M_80 O (d := 1) ⟨by decide, by decide⟩ (Nat.le_of_ble_eq_true rfl) ⟨by decide, by decide⟩ (co_M_fail K 1) (q := 24) jd_M_pin_21 rfl (fun r S' h => ?_)
      obtain ⟨rfl, rfl⟩ := h
      exact jo_ir O hr hk (by
          have q : ¬ (¬ S 34 0 < 0 ∧ S 35 0 = 0) := by first | exact fun q => q.1 h_9 | exact fun q => h_16 q.2
          simp only [jo_rs, mp_pin, if_neg q]; exact ⟨by first | rfl | trivial, by first | rfl | trivial⟩) jd_M_pin_24
set_option maxRecDepth 100000 in
theorem co_M_eject {l : Launch} {s0 : State} {a0 : Array Value} {G : jb_Gt} {ad : Nat → Nat} (K : jo_G s0 a0 G ad) {S : ja_S}  : jo_C l s0 G ad jy_M_eject jc_M_eject 2 (some .int) 6 [.ref (ad 7)] S (jo_i (jo_rs (mp_eject S))) := by
  refine jo_of K (by decide) rfl (Nat.le_of_ble_eq_true rfl) ?_
  intro p e s m args below meth c O hr hk
  refine ja_aload_n O (q := 1) jd_M_eject_0 rfl rfl rfl ?_
  refine ja_iconst O (q := 2) (v := 0) jd_M_eject_1 rfl (by decide) ?_
  refine jp_M_72 O (q := 5) jd_M_eject_2 rfl ?_
  refine ja_aload_n O (q := 6) jd_M_eject_5 rfl rfl rfl ?_
  refine jg_M_38 O (q := 9) jd_M_eject_6 rfl ?_
  refine ja_if_ge O (g := 18) (q := 12) jd_M_eject_9 (by decide) rfl (fun h_9 => ?_) (fun h_9 => ?_)
  · refine ja_aload_n O (q := 19) jd_M_eject_18 rfl rfl rfl ?_
    refine jg_M_38 O (q := 22) jd_M_eject_19 rfl ?_
    refine ja_istore_n O (q := 23) jd_M_eject_22 rfl rfl (by decide) ?_
    refine ja_aload_n O (q := 24) jd_M_eject_23 rfl rfl rfl ?_
    refine ja_iconst O (q := 25) (v := (-1)) jd_M_eject_24 rfl (by decide) ?_
    refine jp_M_38 O (q := 28) jd_M_eject_25 rfl ?_
    refine ja_aload_n O (q := 29) jd_M_eject_28 rfl rfl rfl ?_
    refine ja_iconst O (q := 30) (v := 0) jd_M_eject_29 rfl (by decide) ?_
    refine jp_M_88 O (by first | assumption | exact Or.inl rfl | exact Or.inr rfl) (q := 33) jd_M_eject_30 rfl ?_
    refine ja_iload_n O (q := 34) jd_M_eject_33 rfl rfl rfl ?_
    exact jo_ir O hr hk (by
        have q : 0 ≤ S 34 0 := h_9
        simp only [jo_rs, mp_eject, if_pos q]; exact ⟨by first | rfl | trivial, by first | rfl | trivial⟩) jd_M_eject_34
  · refine ja_aload_n O (q := 13) jd_M_eject_12 rfl rfl rfl ?_
    refine ja_iconst O (q := 14) (v := 1) jd_M_eject_13 rfl (by decide) ?_
    refine jm_M_80 O (d := 1) ⟨by decide, by decide⟩ (Nat.le_of_ble_eq_true rfl) ⟨by decide, by decide⟩ (co_M_fail K 1) (q := 17) jd_M_eject_14 rfl (fun r S' h => ?_)
    obtain ⟨rfl, rfl⟩ := h
    exact jo_ir O hr hk (by
        have q : ¬ 0 ≤ S 34 0 := h_9
        simp only [jo_rs, mp_eject, if_neg q]; exact ⟨by first | rfl | trivial, by first | rfl | trivial⟩) jd_M_eject_17
set_option maxRecDepth 100000 in
theorem co_M_line {l : Launch} {s0 : State} {a0 : Array Value} {G : jb_Gt} {ad : Nat → Nat} (K : jo_G s0 a0 G ad) {S : ja_S} (a : Int32) (n : Nat) (hn : n ≤ 8) (h38 : S 38 0 = nI n) : jo_C l s0 G ad jy_M_line jc_M_line 2 (some .int) 6 [.ref (ad 7), .int a] S (jo_i (jo_rs (mp_line S a))) := by
  refine jo_of K (by decide) rfl (Nat.le_of_ble_eq_true rfl) ?_
  intro p e s m args below meth c O hr hk
  refine ja_aload_n O (q := 1) jd_M_line_0 rfl rfl rfl ?_
  refine ja_iconst O (q := 2) (v := 0) jd_M_line_1 rfl (by decide) ?_
  refine jp_M_72 O (q := 5) jd_M_line_2 rfl ?_
  refine ja_iload_n O (q := 6) jd_M_line_5 rfl rfl rfl ?_
  refine ja_iconst O (q := 7) (v := 0) jd_M_line_6 rfl (by decide) ?_
  refine ja_iconst O (q := 8) (v := 3) jd_M_line_7 rfl (by decide) ?_
  refine jm_M_75 O (d := 1) ⟨by decide, by decide⟩ (Nat.le_of_ble_eq_true rfl) ⟨by decide, by decide⟩ (co_M_in K a 0 3) (q := 11) jd_M_line_8 rfl (fun r S' h => ?_)
  obtain ⟨rfl, -, hin_8⟩ := h
  refine ja_if_ne O (g := 20) (q := 14) jd_M_line_11 (by decide) rfl (fun h_11 => ?_) (fun h_11 => ?_)
  · refine ja_aload_n O (q := 21) jd_M_line_20 rfl rfl rfl ?_
    refine jg_M_103 O (q := 24) jd_M_line_21 rfl ?_
    refine ja_bipush O (q := 26) (v := 8) jd_M_line_24 rfl (by decide) ?_
    refine ja_icmp_ne O (g := 35) (q := 29) jd_M_line_26 (by decide) rfl (fun h_26 => ?_) (fun h_26 => ?_)
    · have q8 : ¬ S 38 0 = 8 := h_26
      have hn8 : n < 8 := by
        rcases Nat.lt_or_ge n 8 with z | z
        · exact z
        · exact absurd (show S 38 0 = 8 by rw [h38, show n = 8 by omega]; rfl) q8
      have hcl : (S 38 0).toNatClampNeg = n := by rw [h38]; exact nI_clamp (by omega)
      refine ja_aload_n O (q := 36) jd_M_line_35 rfl rfl rfl ?_
      refine jg_M_66 O (q := 39) jd_M_line_36 rfl ?_
      refine ja_aload_n O (q := 40) jd_M_line_39 rfl rfl rfl ?_
      refine jg_M_103 O (q := 43) jd_M_line_40 rfl ?_
      refine ja_iload_n O (q := 44) jd_M_line_43 rfl rfl rfl ?_
      refine js_36 O (k := n) h38 (by first | assumption | omega) (q := 45) jd_M_line_44 rfl ?_
      refine ja_aload_n O (q := 46) jd_M_line_45 rfl rfl rfl ?_
      refine ja_dup O (q := 47) jd_M_line_46 rfl rfl ?_
      refine jg_M_103 O (q := 50) jd_M_line_47 rfl ?_
      refine ja_iconst O (q := 51) (v := 1) jd_M_line_50 rfl (by decide) ?_
      refine ja_iadd O (q := 52) jd_M_line_51 rfl ?_
      refine jp_M_103 O (q := 55) jd_M_line_52 rfl ?_
      refine ja_aload_n O (q := 56) jd_M_line_55 rfl rfl rfl ?_
      refine jg_M_103 O (q := 59) jd_M_line_56 rfl ?_
      exact jo_ir O hr hk (by simp only [jo_rs, mp_line, if_pos (jp_no hin_8 h_11), if_neg q8, hcl]; exact ⟨by first | rfl | trivial, by first | rfl | trivial⟩) jd_M_line_59
    · refine ja_aload_n O (q := 30) jd_M_line_29 rfl rfl rfl ?_
      refine ja_iconst O (q := 31) (v := 2) jd_M_line_30 rfl (by decide) ?_
      refine jm_M_80 O (d := 1) ⟨by decide, by decide⟩ (Nat.le_of_ble_eq_true rfl) ⟨by decide, by decide⟩ (co_M_fail K 2) (q := 34) jd_M_line_31 rfl (fun r S' h => ?_)
      obtain ⟨rfl, rfl⟩ := h
      exact jo_ir O hr hk (by
          have q : S 38 0 = 8 := h_26
          simp only [jo_rs, mp_line, if_pos (jp_no hin_8 h_11), if_pos q]; exact ⟨by first | rfl | trivial, by first | rfl | trivial⟩) jd_M_line_34
  · refine ja_aload_n O (q := 15) jd_M_line_14 rfl rfl rfl ?_
    refine ja_iconst O (q := 16) (v := 1) jd_M_line_15 rfl (by decide) ?_
    refine jm_M_80 O (d := 1) ⟨by decide, by decide⟩ (Nat.le_of_ble_eq_true rfl) ⟨by decide, by decide⟩ (co_M_fail K 1) (q := 19) jd_M_line_16 rfl (fun r S' h => ?_)
    obtain ⟨rfl, rfl⟩ := h
    exact jo_ir O hr hk (by
        have q : ¬ (jp_in a 0 3) := hin_8.mp h_11
        simp only [jo_rs, mp_line, if_neg q]; exact ⟨by first | rfl | trivial, by first | rfl | trivial⟩) jd_M_line_19
set_option maxRecDepth 100000 in
theorem co_M_jam {l : Launch} {s0 : State} {a0 : Array Value} {G : jb_Gt} {ad : Nat → Nat} (K : jo_G s0 a0 G ad) {S : ja_S} (a : Int32) : jo_C l s0 G ad jy_M_jam jc_M_jam 2 (some .int) 6 [.ref (ad 7), .int a] S (jo_i (jo_rs (mp_jam S a))) := by
  refine jo_of K (by decide) rfl (Nat.le_of_ble_eq_true rfl) ?_
  intro p e s m args below meth c O hr hk
  refine ja_aload_n O (q := 1) jd_M_jam_0 rfl rfl rfl ?_
  refine ja_iconst O (q := 2) (v := 0) jd_M_jam_1 rfl (by decide) ?_
  refine jp_M_72 O (q := 5) jd_M_jam_2 rfl ?_
  refine ja_iload_n O (q := 6) jd_M_jam_5 rfl rfl rfl ?_
  refine ja_iconst O (q := 7) (v := (-1)) jd_M_jam_6 rfl (by decide) ?_
  refine ja_bipush O (q := 9) (v := 100) jd_M_jam_7 rfl (by decide) ?_
  refine jm_M_75 O (d := 1) ⟨by decide, by decide⟩ (Nat.le_of_ble_eq_true rfl) ⟨by decide, by decide⟩ (co_M_in K a (-1) 100) (q := 12) jd_M_jam_9 rfl (fun r S' h => ?_)
  obtain ⟨rfl, -, hin_9⟩ := h
  refine ja_if_ne O (g := 21) (q := 15) jd_M_jam_12 (by decide) rfl (fun h_12 => ?_) (fun h_12 => ?_)
  · refine ja_aload_n O (q := 22) jd_M_jam_21 rfl rfl rfl ?_
    refine ja_iload_n O (q := 23) jd_M_jam_22 rfl rfl rfl ?_
    refine jp_M_69 O (q := 26) jd_M_jam_23 rfl ?_
    refine ja_iload_n O (q := 27) jd_M_jam_26 rfl rfl rfl ?_
    refine ja_if_ge O (g := 34) (q := 30) jd_M_jam_27 (by decide) rfl (fun h_27 => ?_) (fun h_27 => ?_)
    · refine ja_iconst O (q := 35) (v := 1) jd_M_jam_34 rfl (by decide) ?_
      exact jo_ir O hr hk (by
          have q := jp_no hin_9 h_12
          first
          | (simp only [jo_rs, mp_jam, if_pos q, if_pos h_27]; exact ⟨by first | rfl | trivial, by first | rfl | trivial⟩)
          | (simp only [jo_rs, mp_jam, if_pos q, if_neg h_27]; exact ⟨by first | rfl | trivial, by first | rfl | trivial⟩)) jd_M_jam_35
    · refine ja_iconst O (q := 31) (v := 0) jd_M_jam_30 rfl (by decide) ?_
      refine ja_goto O (g := 35) jd_M_jam_31 (by decide) ?_
      exact jo_ir O hr hk (by
          have q := jp_no hin_9 h_12
          first
          | (simp only [jo_rs, mp_jam, if_pos q, if_pos h_27]; exact ⟨by first | rfl | trivial, by first | rfl | trivial⟩)
          | (simp only [jo_rs, mp_jam, if_pos q, if_neg h_27]; exact ⟨by first | rfl | trivial, by first | rfl | trivial⟩)) jd_M_jam_35
  · refine ja_aload_n O (q := 16) jd_M_jam_15 rfl rfl rfl ?_
    refine ja_iconst O (q := 17) (v := 1) jd_M_jam_16 rfl (by decide) ?_
    refine jm_M_80 O (d := 1) ⟨by decide, by decide⟩ (Nat.le_of_ble_eq_true rfl) ⟨by decide, by decide⟩ (co_M_fail K 1) (q := 20) jd_M_jam_17 rfl (fun r S' h => ?_)
    obtain ⟨rfl, rfl⟩ := h
    exact jo_ir O hr hk (by
        have q : ¬ (jp_in a (-1) 100) := hin_9.mp h_12
        simp only [jo_rs, mp_jam, if_neg q]; exact ⟨by first | rfl | trivial, by first | rfl | trivial⟩) jd_M_jam_20
set_option maxRecDepth 100000 in
theorem co_M_power {l : Launch} {s0 : State} {a0 : Array Value} {G : jb_Gt} {ad : Nat → Nat} (K : jo_G s0 a0 G ad) {S : ja_S} (a : Int32) : jo_C l s0 G ad jy_M_power jc_M_power 2 (some .int) 6 [.ref (ad 7), .int a] S (jo_i (jo_rs (mp_pow S a))) := by
  refine jo_of K (by decide) rfl (Nat.le_of_ble_eq_true rfl) ?_
  intro p e s m args below meth c O hr hk
  refine ja_aload_n O (q := 1) jd_M_power_0 rfl rfl rfl ?_
  refine ja_iconst O (q := 2) (v := 0) jd_M_power_1 rfl (by decide) ?_
  refine jp_M_72 O (q := 5) jd_M_power_2 rfl ?_
  refine ja_iload_n O (q := 6) jd_M_power_5 rfl rfl rfl ?_
  refine ja_iconst O (q := 7) (v := 0) jd_M_power_6 rfl (by decide) ?_
  refine ja_iconst O (q := 8) (v := 4) jd_M_power_7 rfl (by decide) ?_
  refine jm_M_75 O (d := 1) ⟨by decide, by decide⟩ (Nat.le_of_ble_eq_true rfl) ⟨by decide, by decide⟩ (co_M_in K a 0 4) (q := 11) jd_M_power_8 rfl (fun r S' h => ?_)
  obtain ⟨rfl, -, hin_8⟩ := h
  refine ja_if_ne O (g := 20) (q := 14) jd_M_power_11 (by decide) rfl (fun h_11 => ?_) (fun h_11 => ?_)
  · refine ja_aload_n O (q := 21) jd_M_power_20 rfl rfl rfl ?_
    refine ja_iload_n O (q := 22) jd_M_power_21 rfl rfl rfl ?_
    refine jp_M_109 O (q := 25) jd_M_power_22 rfl ?_
    refine ja_iload_n O (q := 26) jd_M_power_25 rfl rfl rfl ?_
    refine ja_if_ne O (g := 33) (q := 29) jd_M_power_26 (by decide) rfl (fun h_26 => ?_) (fun h_26 => ?_)
    · refine ja_iconst O (q := 34) (v := 1) jd_M_power_33 rfl (by decide) ?_
      exact jo_ir O hr hk (by
          have q := jp_no hin_8 h_11
          first
          | (simp only [jo_rs, mp_pow, if_pos q, if_pos h_26]; exact ⟨by first | rfl | trivial, by first | rfl | trivial⟩)
          | (simp only [jo_rs, mp_pow, if_pos q, if_neg h_26]; exact ⟨by first | rfl | trivial, by first | rfl | trivial⟩)) jd_M_power_34
    · refine ja_iconst O (q := 30) (v := 0) jd_M_power_29 rfl (by decide) ?_
      refine ja_goto O (g := 34) jd_M_power_30 (by decide) ?_
      exact jo_ir O hr hk (by
          have q := jp_no hin_8 h_11
          first
          | (simp only [jo_rs, mp_pow, if_pos q, if_pos h_26]; exact ⟨by first | rfl | trivial, by first | rfl | trivial⟩)
          | (simp only [jo_rs, mp_pow, if_pos q, if_neg h_26]; exact ⟨by first | rfl | trivial, by first | rfl | trivial⟩)) jd_M_power_34
  · refine ja_aload_n O (q := 15) jd_M_power_14 rfl rfl rfl ?_
    refine ja_iconst O (q := 16) (v := 1) jd_M_power_15 rfl (by decide) ?_
    refine jm_M_80 O (d := 1) ⟨by decide, by decide⟩ (Nat.le_of_ble_eq_true rfl) ⟨by decide, by decide⟩ (co_M_fail K 1) (q := 19) jd_M_power_16 rfl (fun r S' h => ?_)
    obtain ⟨rfl, rfl⟩ := h
    exact jo_ir O hr hk (by
        have q : ¬ (jp_in a 0 4) := hin_8.mp h_11
        simp only [jo_rs, mp_pow, if_neg q]; exact ⟨by first | rfl | trivial, by first | rfl | trivial⟩) jd_M_power_19
set_option maxRecDepth 100000 in
theorem co_M_boot {l : Launch} {s0 : State} {a0 : Array Value} {G : jb_Gt} {ad : Nat → Nat} (K : jo_G s0 a0 G ad) {S : ja_S} (t k : Nat) (ht : t ≤ 40) (h36 : S 36 0 = nI t) (h37 : S 37 0 = nI k) (hk9 : k < 80) : jo_C l s0 G ad jy_M_boot jc_M_boot 2 (some .int) 6 [.ref (ad 7)] S (jo_i (jo_rs (mp_boot S))) := by
  refine jo_of K (by decide) rfl (Nat.le_of_ble_eq_true rfl) ?_
  intro p e s m args below meth c O hr hk
  refine ja_aload_n O (q := 1) jd_M_boot_0 rfl rfl rfl ?_
  refine ja_iconst O (q := 2) (v := 0) jd_M_boot_1 rfl (by decide) ?_
  refine jp_M_72 O (q := 5) jd_M_boot_2 rfl ?_
  refine ja_aload_n O (q := 6) jd_M_boot_5 rfl rfl rfl ?_
  refine jg_M_84 O (q := 9) jd_M_boot_6 rfl ?_
  refine ja_if_ne O (g := 18) (q := 12) jd_M_boot_9 (by decide) rfl (fun h_9 => ?_) (fun h_9 => ?_)
  · have q9 : ¬ S 33 0 = 0 := h_9
    have hcl : (S 36 0).toNatClampNeg = t := by rw [h36]; exact nI_clamp (by omega)
    refine ja_aload_n O (q := 19) jd_M_boot_18 rfl rfl rfl ?_
    refine ja_iconst O (q := 20) (v := 0) jd_M_boot_19 rfl (by decide) ?_
    refine jp_M_84 O (by first | assumption | exact Or.inl rfl | exact Or.inr rfl) (q := 23) jd_M_boot_20 rfl ?_
    refine ja_aload_n O (q := 24) jd_M_boot_23 rfl rfl rfl ?_
    refine jg_M_149 O (q := 27) jd_M_boot_24 rfl ?_
    refine ja_istore_n O (q := 28) jd_M_boot_27 rfl rfl (by decide) ?_
    refine ja_less (L' := [(0, .ref (ad 7)), (1, .int (nI t))]) ⟨rfl, by rw [← h36]; rfl, trivial⟩ ?_
    refine ja_iload_n O (q := 29) jd_M_boot_28 rfl rfl rfl ?_
    refine ja_if_le O (g := 63) (q := 32) jd_M_boot_29 (by decide) rfl (fun h_29 => ?_) (fun h_29 => ?_)
    · refine ja_iload_n O (q := 64) jd_M_boot_63 rfl rfl rfl ?_
      refine ja_if_le O (g := 98) (q := 67) jd_M_boot_64 (by decide) rfl (fun h_64 => ?_) (fun h_64 => ?_)
      · refine ja_aload_n O (q := 99) jd_M_boot_98 rfl rfl rfl ?_
        refine jg_M_106 O (q := 102) jd_M_boot_99 rfl ?_
        exact jo_ir O hr hk (by
            have go : ∀ X : ja_S, X = mf_boot S t → jo_rs (mp_boot S) (X 37 0) X := fun X e => by simp only [jo_rs, mp_boot, if_neg q9, hcl]; rw [e]; exact ⟨by first | rfl | trivial, by first | rfl | trivial⟩
            refine go _ ?_
            unfold mf_boot
            first
            | exact absurd h_29 h_64
            | exact absurd h_64 h_29
            | (have z : 0 < t ∧ S 53 t = 1 := ⟨tp, h_39⟩
               rw [if_pos z]; rfl)
            | (have y : ¬ (0 < t ∧ S 53 t = 1) := fun q => h_39 q.2
               have z : 0 < t ∧ S 53 t = 2 := ⟨tp, h_74⟩
               rw [if_neg y, if_pos z]
               first
               | (have x : S 41 0 = nI t := h_84
                  rw [if_pos x]; rfl)
               | (have x : ¬ S 41 0 = nI t := h_84
                  rw [if_neg x]))
            | (have y : ¬ (0 < t ∧ S 53 t = 1) := fun q => h_39 q.2
               have z : ¬ (0 < t ∧ S 53 t = 2) := fun q => h_74 q.2
               rw [if_neg y, if_neg z])
            | (have y : t = 0 := by
                 rcases Nat.eq_zero_or_pos t with z | z
                 · exact z
                 · exact absurd h_29 (fun q => absurd ((nI_leI (b := 0) (by omega) (by omega)).mp q) (by omega))
               subst y
               rw [if_neg (fun q => absurd q.1 (by omega)), if_neg (fun q => absurd q.1 (by omega))])
            | exact absurd h_29 h_64
            | exact absurd h_64 h_29) jd_M_boot_102
      · refine ja_aload_n O (q := 68) jd_M_boot_67 rfl rfl rfl ?_
        refine jg_M_42 O (q := 71) jd_M_boot_68 rfl ?_
        refine ja_iload_n O (q := 72) jd_M_boot_71 rfl rfl rfl ?_
        refine jl_28 O  rfl (by first | assumption | omega) (q := 73) jd_M_boot_72 rfl ?_
        refine ja_iconst O (q := 74) (v := 2) jd_M_boot_73 rfl (by decide) ?_
        refine ja_icmp_ne O (g := 98) (q := 77) jd_M_boot_74 (by decide) rfl (fun h_74 => ?_) (fun h_74 => ?_)
        · refine ja_aload_n O (q := 99) jd_M_boot_98 rfl rfl rfl ?_
          refine jg_M_106 O (q := 102) jd_M_boot_99 rfl ?_
          exact jo_ir O hr hk (by
              have go : ∀ X : ja_S, X = mf_boot S t → jo_rs (mp_boot S) (X 37 0) X := fun X e => by simp only [jo_rs, mp_boot, if_neg q9, hcl]; rw [e]; exact ⟨by first | rfl | trivial, by first | rfl | trivial⟩
              refine go _ ?_
              unfold mf_boot
              first
              | exact absurd h_29 h_64
              | exact absurd h_64 h_29
              | (have z : 0 < t ∧ S 53 t = 1 := ⟨tp, h_39⟩
                 rw [if_pos z]; rfl)
              | (have y : ¬ (0 < t ∧ S 53 t = 1) := fun q => h_39 q.2
                 have z : 0 < t ∧ S 53 t = 2 := ⟨tp, h_74⟩
                 rw [if_neg y, if_pos z]
                 first
                 | (have x : S 41 0 = nI t := h_84
                    rw [if_pos x]; rfl)
                 | (have x : ¬ S 41 0 = nI t := h_84
                    rw [if_neg x]))
              | (have y : ¬ (0 < t ∧ S 53 t = 1) := fun q => h_39 q.2
                 have z : ¬ (0 < t ∧ S 53 t = 2) := fun q => h_74 q.2
                 rw [if_neg y, if_neg z])
              | (have y : t = 0 := by
                   rcases Nat.eq_zero_or_pos t with z | z
                   · exact z
                   · exact absurd h_29 (fun q => absurd ((nI_leI (b := 0) (by omega) (by omega)).mp q) (by omega))
                 subst y
                 rw [if_neg (fun q => absurd q.1 (by omega)), if_neg (fun q => absurd q.1 (by omega))])
              | exact absurd h_29 h_64
              | exact absurd h_64 h_29) jd_M_boot_102
        · refine ja_aload_n O (q := 78) jd_M_boot_77 rfl rfl rfl ?_
          refine ja_iload_n O (q := 79) jd_M_boot_78 rfl rfl rfl ?_
          refine ja_aload_n O (q := 80) jd_M_boot_79 rfl rfl rfl ?_
          refine jg_M_115 O (q := 83) jd_M_boot_80 rfl ?_
          refine ja_iload_n O (q := 84) jd_M_boot_83 rfl rfl rfl ?_
          refine ja_icmp_ne O (g := 94) (q := 87) jd_M_boot_84 (by decide) rfl (fun h_84 => ?_) (fun h_84 => ?_)
          · refine ja_iconst O (q := 95) (v := 0) jd_M_boot_94 rfl (by decide) ?_
            refine jm_M_143 O (d := 2) ⟨by decide, by decide⟩ (Nat.le_of_ble_eq_true rfl) ⟨by decide, by decide⟩ (co_M_finish K (S := jb_u (jb_u S 32 0 0) 33 0 0) t k (by omega) hk9 h37 _) (q := 98) jd_M_boot_95 rfl (fun S' h => ?_)
            subst h
            refine ja_aload_n O (q := 99) jd_M_boot_98 rfl rfl rfl ?_
            refine jg_M_106 O (q := 102) jd_M_boot_99 rfl ?_
            exact jo_ir O hr hk (by
                have go : ∀ X : ja_S, X = mf_boot S t → jo_rs (mp_boot S) (X 37 0) X := fun X e => by simp only [jo_rs, mp_boot, if_neg q9, hcl]; rw [e]; exact ⟨by first | rfl | trivial, by first | rfl | trivial⟩
                refine go _ ?_
                unfold mf_boot
                first
                | exact absurd h_29 h_64
                | exact absurd h_64 h_29
                | (have z : 0 < t ∧ S 53 t = 1 := ⟨tp, h_39⟩
                   rw [if_pos z]; rfl)
                | (have y : ¬ (0 < t ∧ S 53 t = 1) := fun q => h_39 q.2
                   have z : 0 < t ∧ S 53 t = 2 := ⟨tp, h_74⟩
                   rw [if_neg y, if_pos z]
                   first
                   | (have x : S 41 0 = nI t := h_84
                      rw [if_pos x]; rfl)
                   | (have x : ¬ S 41 0 = nI t := h_84
                      rw [if_neg x]))
                | (have y : ¬ (0 < t ∧ S 53 t = 1) := fun q => h_39 q.2
                   have z : ¬ (0 < t ∧ S 53 t = 2) := fun q => h_74 q.2
                   rw [if_neg y, if_neg z])
                | (have y : t = 0 := by
                     rcases Nat.eq_zero_or_pos t with z | z
                     · exact z
                     · exact absurd h_29 (fun q => absurd ((nI_leI (b := 0) (by omega) (by omega)).mp q) (by omega))
                   subst y
                   rw [if_neg (fun q => absurd q.1 (by omega)), if_neg (fun q => absurd q.1 (by omega))])
                | exact absurd h_29 h_64
                | exact absurd h_64 h_29) jd_M_boot_102
          · refine ja_aload_n O (q := 88) jd_M_boot_87 rfl rfl rfl ?_
            refine jg_M_118 O (q := 91) jd_M_boot_88 rfl ?_
            refine ja_goto O (g := 95) jd_M_boot_91 (by decide) ?_
            refine jm_M_143 O (d := 2) ⟨by decide, by decide⟩ (Nat.le_of_ble_eq_true rfl) ⟨by decide, by decide⟩ (co_M_finish K (S := jb_u (jb_u S 32 0 0) 33 0 0) t k (by omega) hk9 h37 _) (q := 98) jd_M_boot_95 rfl (fun S' h => ?_)
            subst h
            refine ja_aload_n O (q := 99) jd_M_boot_98 rfl rfl rfl ?_
            refine jg_M_106 O (q := 102) jd_M_boot_99 rfl ?_
            exact jo_ir O hr hk (by
                have go : ∀ X : ja_S, X = mf_boot S t → jo_rs (mp_boot S) (X 37 0) X := fun X e => by simp only [jo_rs, mp_boot, if_neg q9, hcl]; rw [e]; exact ⟨by first | rfl | trivial, by first | rfl | trivial⟩
                refine go _ ?_
                unfold mf_boot
                first
                | exact absurd h_29 h_64
                | exact absurd h_64 h_29
                | (have z : 0 < t ∧ S 53 t = 1 := ⟨tp, h_39⟩
                   rw [if_pos z]; rfl)
                | (have y : ¬ (0 < t ∧ S 53 t = 1) := fun q => h_39 q.2
                   have z : 0 < t ∧ S 53 t = 2 := ⟨tp, h_74⟩
                   rw [if_neg y, if_pos z]
                   first
                   | (have x : S 41 0 = nI t := h_84
                      rw [if_pos x]; rfl)
                   | (have x : ¬ S 41 0 = nI t := h_84
                      rw [if_neg x]))
                | (have y : ¬ (0 < t ∧ S 53 t = 1) := fun q => h_39 q.2
                   have z : ¬ (0 < t ∧ S 53 t = 2) := fun q => h_74 q.2
                   rw [if_neg y, if_neg z])
                | (have y : t = 0 := by
                     rcases Nat.eq_zero_or_pos t with z | z
                     · exact z
                     · exact absurd h_29 (fun q => absurd ((nI_leI (b := 0) (by omega) (by omega)).mp q) (by omega))
                   subst y
                   rw [if_neg (fun q => absurd q.1 (by omega)), if_neg (fun q => absurd q.1 (by omega))])
                | exact absurd h_29 h_64
                | exact absurd h_64 h_29) jd_M_boot_102
    · have tp : 0 < t := Nat.pos_of_ne_zero (fun q => h_29 (by rw [q]; decide))
      refine ja_aload_n O (q := 33) jd_M_boot_32 rfl rfl rfl ?_
      refine jg_M_42 O (q := 36) jd_M_boot_33 rfl ?_
      refine ja_iload_n O (q := 37) jd_M_boot_36 rfl rfl rfl ?_
      refine jl_28 O (k := t) rfl (by first | assumption | omega) (q := 38) jd_M_boot_37 rfl ?_
      refine ja_iconst O (q := 39) (v := 1) jd_M_boot_38 rfl (by decide) ?_
      refine ja_icmp_ne O (g := 63) (q := 42) jd_M_boot_39 (by decide) rfl (fun h_39 => ?_) (fun h_39 => ?_)
      · refine ja_iload_n O (q := 64) jd_M_boot_63 rfl rfl rfl ?_
        refine ja_if_le O (g := 98) (q := 67) jd_M_boot_64 (by decide) rfl (fun h_64 => ?_) (fun h_64 => ?_)
        · refine ja_aload_n O (q := 99) jd_M_boot_98 rfl rfl rfl ?_
          refine jg_M_106 O (q := 102) jd_M_boot_99 rfl ?_
          exact jo_ir O hr hk (by
              have go : ∀ X : ja_S, X = mf_boot S t → jo_rs (mp_boot S) (X 37 0) X := fun X e => by simp only [jo_rs, mp_boot, if_neg q9, hcl]; rw [e]; exact ⟨by first | rfl | trivial, by first | rfl | trivial⟩
              refine go _ ?_
              unfold mf_boot
              first
              | exact absurd h_29 h_64
              | exact absurd h_64 h_29
              | (have z : 0 < t ∧ S 53 t = 1 := ⟨tp, h_39⟩
                 rw [if_pos z]; rfl)
              | (have y : ¬ (0 < t ∧ S 53 t = 1) := fun q => h_39 q.2
                 have z : 0 < t ∧ S 53 t = 2 := ⟨tp, h_74⟩
                 rw [if_neg y, if_pos z]
                 first
                 | (have x : S 41 0 = nI t := h_84
                    rw [if_pos x]; rfl)
                 | (have x : ¬ S 41 0 = nI t := h_84
                    rw [if_neg x]))
              | (have y : ¬ (0 < t ∧ S 53 t = 1) := fun q => h_39 q.2
                 have z : ¬ (0 < t ∧ S 53 t = 2) := fun q => h_74 q.2
                 rw [if_neg y, if_neg z])
              | (have y : t = 0 := by
                   rcases Nat.eq_zero_or_pos t with z | z
                   · exact z
                   · exact absurd h_29 (fun q => absurd ((nI_leI (b := 0) (by omega) (by omega)).mp q) (by omega))
                 subst y
                 rw [if_neg (fun q => absurd q.1 (by omega)), if_neg (fun q => absurd q.1 (by omega))])
              | exact absurd h_29 h_64
              | exact absurd h_64 h_29) jd_M_boot_102
        · refine ja_aload_n O (q := 68) jd_M_boot_67 rfl rfl rfl ?_
          refine jg_M_42 O (q := 71) jd_M_boot_68 rfl ?_
          refine ja_iload_n O (q := 72) jd_M_boot_71 rfl rfl rfl ?_
          refine jl_28 O  rfl (by first | assumption | omega) (q := 73) jd_M_boot_72 rfl ?_
          refine ja_iconst O (q := 74) (v := 2) jd_M_boot_73 rfl (by decide) ?_
          refine ja_icmp_ne O (g := 98) (q := 77) jd_M_boot_74 (by decide) rfl (fun h_74 => ?_) (fun h_74 => ?_)
          · refine ja_aload_n O (q := 99) jd_M_boot_98 rfl rfl rfl ?_
            refine jg_M_106 O (q := 102) jd_M_boot_99 rfl ?_
            exact jo_ir O hr hk (by
                have go : ∀ X : ja_S, X = mf_boot S t → jo_rs (mp_boot S) (X 37 0) X := fun X e => by simp only [jo_rs, mp_boot, if_neg q9, hcl]; rw [e]; exact ⟨by first | rfl | trivial, by first | rfl | trivial⟩
                refine go _ ?_
                unfold mf_boot
                first
                | exact absurd h_29 h_64
                | exact absurd h_64 h_29
                | (have z : 0 < t ∧ S 53 t = 1 := ⟨tp, h_39⟩
                   rw [if_pos z]; rfl)
                | (have y : ¬ (0 < t ∧ S 53 t = 1) := fun q => h_39 q.2
                   have z : 0 < t ∧ S 53 t = 2 := ⟨tp, h_74⟩
                   rw [if_neg y, if_pos z]
                   first
                   | (have x : S 41 0 = nI t := h_84
                      rw [if_pos x]; rfl)
                   | (have x : ¬ S 41 0 = nI t := h_84
                      rw [if_neg x]))
                | (have y : ¬ (0 < t ∧ S 53 t = 1) := fun q => h_39 q.2
                   have z : ¬ (0 < t ∧ S 53 t = 2) := fun q => h_74 q.2
                   rw [if_neg y, if_neg z])
                | (have y : t = 0 := by
                     rcases Nat.eq_zero_or_pos t with z | z
                     · exact z
                     · exact absurd h_29 (fun q => absurd ((nI_leI (b := 0) (by omega) (by omega)).mp q) (by omega))
                   subst y
                   rw [if_neg (fun q => absurd q.1 (by omega)), if_neg (fun q => absurd q.1 (by omega))])
                | exact absurd h_29 h_64
                | exact absurd h_64 h_29) jd_M_boot_102
          · refine ja_aload_n O (q := 78) jd_M_boot_77 rfl rfl rfl ?_
            refine ja_iload_n O (q := 79) jd_M_boot_78 rfl rfl rfl ?_
            refine ja_aload_n O (q := 80) jd_M_boot_79 rfl rfl rfl ?_
            refine jg_M_115 O (q := 83) jd_M_boot_80 rfl ?_
            refine ja_iload_n O (q := 84) jd_M_boot_83 rfl rfl rfl ?_
            refine ja_icmp_ne O (g := 94) (q := 87) jd_M_boot_84 (by decide) rfl (fun h_84 => ?_) (fun h_84 => ?_)
            · refine ja_iconst O (q := 95) (v := 0) jd_M_boot_94 rfl (by decide) ?_
              refine jm_M_143 O (d := 2) ⟨by decide, by decide⟩ (Nat.le_of_ble_eq_true rfl) ⟨by decide, by decide⟩ (co_M_finish K (S := jb_u (jb_u S 32 0 0) 33 0 0) t k (by omega) hk9 h37 _) (q := 98) jd_M_boot_95 rfl (fun S' h => ?_)
              subst h
              refine ja_aload_n O (q := 99) jd_M_boot_98 rfl rfl rfl ?_
              refine jg_M_106 O (q := 102) jd_M_boot_99 rfl ?_
              exact jo_ir O hr hk (by
                  have go : ∀ X : ja_S, X = mf_boot S t → jo_rs (mp_boot S) (X 37 0) X := fun X e => by simp only [jo_rs, mp_boot, if_neg q9, hcl]; rw [e]; exact ⟨by first | rfl | trivial, by first | rfl | trivial⟩
                  refine go _ ?_
                  unfold mf_boot
                  first
                  | exact absurd h_29 h_64
                  | exact absurd h_64 h_29
                  | (have z : 0 < t ∧ S 53 t = 1 := ⟨tp, h_39⟩
                     rw [if_pos z]; rfl)
                  | (have y : ¬ (0 < t ∧ S 53 t = 1) := fun q => h_39 q.2
                     have z : 0 < t ∧ S 53 t = 2 := ⟨tp, h_74⟩
                     rw [if_neg y, if_pos z]
                     first
                     | (have x : S 41 0 = nI t := h_84
                        rw [if_pos x]; rfl)
                     | (have x : ¬ S 41 0 = nI t := h_84
                        rw [if_neg x]))
                  | (have y : ¬ (0 < t ∧ S 53 t = 1) := fun q => h_39 q.2
                     have z : ¬ (0 < t ∧ S 53 t = 2) := fun q => h_74 q.2
                     rw [if_neg y, if_neg z])
                  | (have y : t = 0 := by
                       rcases Nat.eq_zero_or_pos t with z | z
                       · exact z
                       · exact absurd h_29 (fun q => absurd ((nI_leI (b := 0) (by omega) (by omega)).mp q) (by omega))
                     subst y
                     rw [if_neg (fun q => absurd q.1 (by omega)), if_neg (fun q => absurd q.1 (by omega))])
                  | exact absurd h_29 h_64
                  | exact absurd h_64 h_29) jd_M_boot_102
            · refine ja_aload_n O (q := 88) jd_M_boot_87 rfl rfl rfl ?_
              refine jg_M_118 O (q := 91) jd_M_boot_88 rfl ?_
              refine ja_goto O (g := 95) jd_M_boot_91 (by decide) ?_
              refine jm_M_143 O (d := 2) ⟨by decide, by decide⟩ (Nat.le_of_ble_eq_true rfl) ⟨by decide, by decide⟩ (co_M_finish K (S := jb_u (jb_u S 32 0 0) 33 0 0) t k (by omega) hk9 h37 _) (q := 98) jd_M_boot_95 rfl (fun S' h => ?_)
              subst h
              refine ja_aload_n O (q := 99) jd_M_boot_98 rfl rfl rfl ?_
              refine jg_M_106 O (q := 102) jd_M_boot_99 rfl ?_
              exact jo_ir O hr hk (by
                  have go : ∀ X : ja_S, X = mf_boot S t → jo_rs (mp_boot S) (X 37 0) X := fun X e => by simp only [jo_rs, mp_boot, if_neg q9, hcl]; rw [e]; exact ⟨by first | rfl | trivial, by first | rfl | trivial⟩
                  refine go _ ?_
                  unfold mf_boot
                  first
                  | exact absurd h_29 h_64
                  | exact absurd h_64 h_29
                  | (have z : 0 < t ∧ S 53 t = 1 := ⟨tp, h_39⟩
                     rw [if_pos z]; rfl)
                  | (have y : ¬ (0 < t ∧ S 53 t = 1) := fun q => h_39 q.2
                     have z : 0 < t ∧ S 53 t = 2 := ⟨tp, h_74⟩
                     rw [if_neg y, if_pos z]
                     first
                     | (have x : S 41 0 = nI t := h_84
                        rw [if_pos x]; rfl)
                     | (have x : ¬ S 41 0 = nI t := h_84
                        rw [if_neg x]))
                  | (have y : ¬ (0 < t ∧ S 53 t = 1) := fun q => h_39 q.2
                     have z : ¬ (0 < t ∧ S 53 t = 2) := fun q => h_74 q.2
                     rw [if_neg y, if_neg z])
                  | (have y : t = 0 := by
                       rcases Nat.eq_zero_or_pos t with z | z
                       · exact z
                       · exact absurd h_29 (fun q => absurd ((nI_leI (b := 0) (by omega) (by omega)).mp q) (by omega))
                     subst y
                     rw [if_neg (fun q => absurd q.1 (by omega)), if_neg (fun q => absurd q.1 (by omega))])
                  | exact absurd h_29 h_64
                  | exact absurd h_64 h_29) jd_M_boot_102
      · refine ja_aload_n O (q := 43) jd_M_boot_42 rfl rfl rfl ?_
        refine jg_M_42 O (q := 46) jd_M_boot_43 rfl ?_
        refine ja_iload_n O (q := 47) jd_M_boot_46 rfl rfl rfl ?_
        refine ja_iconst O (q := 48) (v := 4) jd_M_boot_47 rfl (by decide) ?_
        refine js_28 O (k := t) rfl (by first | assumption | omega) (q := 49) jd_M_boot_48 rfl ?_
        refine ja_aload_n O (q := 50) jd_M_boot_49 rfl rfl rfl ?_
        refine ja_iload_n O (q := 51) jd_M_boot_50 rfl rfl rfl ?_
        refine ja_aload_n O (q := 52) jd_M_boot_51 rfl rfl rfl ?_
        refine jg_M_48 O (q := 55) jd_M_boot_52 rfl ?_
        refine ja_iload_n O (q := 56) jd_M_boot_55 rfl rfl rfl ?_
        refine jl_30 O (k := t) rfl (by first | assumption | omega) (q := 57) jd_M_boot_56 rfl ?_
        refine jm_M_124 O (d := 1) ⟨by decide, by decide⟩ (Nat.le_of_ble_eq_true rfl) ⟨by decide, by decide⟩ (co_M_owe K (S := jb_u (jb_u (jb_u S 32 0 0) 33 0 0) 53 t 4) k hk9 h37 _ _) (q := 60) jd_M_boot_57 rfl (fun S' h => ?_)
        subst h
        refine ja_goto O (g := 98) jd_M_boot_60 (by decide) ?_
        refine ja_aload_n O (q := 99) jd_M_boot_98 rfl rfl rfl ?_
        refine jg_M_106 O (q := 102) jd_M_boot_99 rfl ?_
        exact jo_ir O hr hk (by
            have go : ∀ X : ja_S, X = mf_boot S t → jo_rs (mp_boot S) (X 37 0) X := fun X e => by simp only [jo_rs, mp_boot, if_neg q9, hcl]; rw [e]; exact ⟨by first | rfl | trivial, by first | rfl | trivial⟩
            refine go _ ?_
            unfold mf_boot
            first
            | exact absurd h_29 h_64
            | exact absurd h_64 h_29
            | (have z : 0 < t ∧ S 53 t = 1 := ⟨tp, h_39⟩
               rw [if_pos z]; rfl)
            | (have y : ¬ (0 < t ∧ S 53 t = 1) := fun q => h_39 q.2
               have z : 0 < t ∧ S 53 t = 2 := ⟨tp, h_74⟩
               rw [if_neg y, if_pos z]
               first
               | (have x : S 41 0 = nI t := h_84
                  rw [if_pos x]; rfl)
               | (have x : ¬ S 41 0 = nI t := h_84
                  rw [if_neg x]))
            | (have y : ¬ (0 < t ∧ S 53 t = 1) := fun q => h_39 q.2
               have z : ¬ (0 < t ∧ S 53 t = 2) := fun q => h_74 q.2
               rw [if_neg y, if_neg z])
            | (have y : t = 0 := by
                 rcases Nat.eq_zero_or_pos t with z | z
                 · exact z
                 · exact absurd h_29 (fun q => absurd ((nI_leI (b := 0) (by omega) (by omega)).mp q) (by omega))
               subst y
               rw [if_neg (fun q => absurd q.1 (by omega)), if_neg (fun q => absurd q.1 (by omega))])
            | exact absurd h_29 h_64
            | exact absurd h_64 h_29) jd_M_boot_102
  · refine ja_aload_n O (q := 13) jd_M_boot_12 rfl rfl rfl ?_
    refine ja_iconst O (q := 14) (v := 1) jd_M_boot_13 rfl (by decide) ?_
    refine jm_M_80 O (d := 1) ⟨by decide, by decide⟩ (Nat.le_of_ble_eq_true rfl) ⟨by decide, by decide⟩ (co_M_fail K 1) (q := 17) jd_M_boot_14 rfl (fun r S' h => ?_)
    obtain ⟨rfl, rfl⟩ := h
    exact jo_ir O hr hk (by
        have q : S 33 0 = 0 := h_9
        simp only [jo_rs, mp_boot, if_pos q]; exact ⟨by first | rfl | trivial, by first | rfl | trivial⟩) jd_M_boot_17
set_option maxRecDepth 100000 in
theorem co_M_balance {l : Launch} {s0 : State} {a0 : Array Value} {G : jb_Gt} {ad : Nat → Nat} (K : jo_G s0 a0 G ad) {S : ja_S} (a : Int32) : jo_C l s0 G ad jy_M_balance jc_M_balance 2 (some .int) 6 [.ref (ad 7), .int a] S (jo_i (jo_rs (mp_bal S a))) := by
  refine jo_of K (by decide) rfl (Nat.le_of_ble_eq_true rfl) ?_
  intro p e s m args below meth c O hr hk
  refine ja_aload_n O (q := 1) jd_M_balance_0 rfl rfl rfl ?_
  refine ja_iconst O (q := 2) (v := 0) jd_M_balance_1 rfl (by decide) ?_
  refine jp_M_72 O (q := 5) jd_M_balance_2 rfl ?_
  refine ja_iload_n O (q := 6) jd_M_balance_5 rfl rfl rfl ?_
  refine ja_iconst O (q := 7) (v := 0) jd_M_balance_6 rfl (by decide) ?_
  refine ja_bipush O (q := 9) (v := 7) jd_M_balance_7 rfl (by decide) ?_
  refine jm_M_75 O (d := 1) ⟨by decide, by decide⟩ (Nat.le_of_ble_eq_true rfl) ⟨by decide, by decide⟩ (co_M_in K a 0 7) (q := 12) jd_M_balance_9 rfl (fun r S' h => ?_)
  obtain ⟨rfl, -, hin_9⟩ := h
  refine ja_if_eq O (g := 33) (q := 15) jd_M_balance_12 (by decide) rfl (fun h_12 => ?_) (fun h_12 => ?_)
  · refine ja_aload_n O (q := 34) jd_M_balance_33 rfl rfl rfl ?_
    refine ja_iconst O (q := 35) (v := 1) jd_M_balance_34 rfl (by decide) ?_
    refine jm_M_80 O (d := 1) ⟨by decide, by decide⟩ (Nat.le_of_ble_eq_true rfl) ⟨by decide, by decide⟩ (co_M_fail K 1) (q := 38) jd_M_balance_35 rfl (fun r S' h => ?_)
    obtain ⟨rfl, rfl⟩ := h
    exact jo_ir O hr hk (by
        first
        | (have q : jp_in (nI j) 0 7 ∧ ¬ S 44 j = 0 := ⟨i1, h_21⟩
           simp only [jo_rs, mp_bal, hcl, if_pos q]; exact ⟨by first | rfl | trivial, by first | rfl | trivial⟩)
        | (have q : ¬ (jp_in (nI j) 0 7 ∧ ¬ S 44 j = 0) := fun q => q.2 h_21
           simp only [jo_rs, mp_bal, hcl, if_neg q]; exact ⟨by first | rfl | trivial, by first | rfl | trivial⟩)
        | (have q : ¬ (jp_in a 0 7 ∧ ¬ S 44 a.toNatClampNeg = 0) := fun q => (hin_9.mp h_12) q.1
           simp only [jo_rs, mp_bal, if_neg q]; exact ⟨by first | rfl | trivial, by first | rfl | trivial⟩)) jd_M_balance_38
  · have i1 := jp_no hin_9 h_12
    obtain ⟨j, hj, rfl⟩ := jp_in_nI (n := 7) (by decide) i1
    have hj8 : j < 8 := by omega
    have hcl : (nI j).toNatClampNeg = j := nI_clamp (by omega)
    refine ja_aload_n O (q := 16) jd_M_balance_15 rfl rfl rfl ?_
    refine jg_M_7 O (q := 19) jd_M_balance_16 rfl ?_
    refine ja_iload_n O (q := 20) jd_M_balance_19 rfl rfl rfl ?_
    refine jl_19 O (k := j) rfl (by first | assumption | omega) (q := 21) jd_M_balance_20 rfl ?_
    refine ja_if_eq O (g := 33) (q := 24) jd_M_balance_21 (by decide) rfl (fun h_21 => ?_) (fun h_21 => ?_)
    · refine ja_aload_n O (q := 34) jd_M_balance_33 rfl rfl rfl ?_
      refine ja_iconst O (q := 35) (v := 1) jd_M_balance_34 rfl (by decide) ?_
      refine jm_M_80 O (d := 1) ⟨by decide, by decide⟩ (Nat.le_of_ble_eq_true rfl) ⟨by decide, by decide⟩ (co_M_fail K 1) (q := 38) jd_M_balance_35 rfl (fun r S' h => ?_)
      obtain ⟨rfl, rfl⟩ := h
      exact jo_ir O hr hk (by
          first
          | (have q : jp_in (nI j) 0 7 ∧ ¬ S 44 j = 0 := ⟨i1, h_21⟩
             simp only [jo_rs, mp_bal, hcl, if_pos q]; exact ⟨by first | rfl | trivial, by first | rfl | trivial⟩)
          | (have q : ¬ (jp_in (nI j) 0 7 ∧ ¬ S 44 j = 0) := fun q => q.2 h_21
             simp only [jo_rs, mp_bal, hcl, if_neg q]; exact ⟨by first | rfl | trivial, by first | rfl | trivial⟩)
          | (have q : ¬ (jp_in a 0 7 ∧ ¬ S 44 a.toNatClampNeg = 0) := fun q => (hin_9.mp h_12) q.1
             simp only [jo_rs, mp_bal, if_neg q]; exact ⟨by first | rfl | trivial, by first | rfl | trivial⟩)) jd_M_balance_38
    · refine ja_aload_n O (q := 25) jd_M_balance_24 rfl rfl rfl ?_
      refine jg_M_20 O (q := 28) jd_M_balance_25 rfl ?_
      refine ja_iload_n O (q := 29) jd_M_balance_28 rfl rfl rfl ?_
      refine jl_22 O (k := j) rfl (by first | assumption | omega) (q := 30) jd_M_balance_29 rfl ?_
      refine ja_goto O (g := 38) jd_M_balance_30 (by decide) ?_
      exact jo_ir O hr hk (by
          first
          | (have q : jp_in (nI j) 0 7 ∧ ¬ S 44 j = 0 := ⟨i1, h_21⟩
             simp only [jo_rs, mp_bal, hcl, if_pos q]; exact ⟨by first | rfl | trivial, by first | rfl | trivial⟩)
          | (have q : ¬ (jp_in (nI j) 0 7 ∧ ¬ S 44 j = 0) := fun q => q.2 h_21
             simp only [jo_rs, mp_bal, hcl, if_neg q]; exact ⟨by first | rfl | trivial, by first | rfl | trivial⟩)
          | (have q : ¬ (jp_in a 0 7 ∧ ¬ S 44 a.toNatClampNeg = 0) := fun q => (hin_9.mp h_12) q.1
             simp only [jo_rs, mp_bal, if_neg q]; exact ⟨by first | rfl | trivial, by first | rfl | trivial⟩)) jd_M_balance_38
set_option maxRecDepth 100000 in
theorem co_M_trace {l : Launch} {s0 : State} {a0 : Array Value} {G : jb_Gt} {ad : Nat → Nat} (K : jo_G s0 a0 G ad) {S : ja_S} (a b : Int32) (t : Nat) (ht : t ≤ 40) (h36 : S 36 0 = nI t) : jo_C l s0 G ad jy_M_trace jc_M_trace 3 (some .int) 6 [.ref (ad 7), .int a, .int b] S (jo_i (jo_rs (mp_tr S a b))) := by
  refine jo_of K (by decide) rfl (Nat.le_of_ble_eq_true rfl) ?_
  intro p e s m args below meth c O hr hk
  refine ja_aload_n O (q := 1) jd_M_trace_0 rfl rfl rfl ?_
  refine ja_iconst O (q := 2) (v := 0) jd_M_trace_1 rfl (by decide) ?_
  refine jp_M_72 O (q := 5) jd_M_trace_2 rfl ?_
  refine ja_iload_n O (q := 6) jd_M_trace_5 rfl rfl rfl ?_
  refine ja_iconst O (q := 7) (v := 1) jd_M_trace_6 rfl (by decide) ?_
  refine ja_aload_n O (q := 8) jd_M_trace_7 rfl rfl rfl ?_
  refine jg_M_149 O (q := 11) jd_M_trace_8 rfl ?_
  refine jm_M_75 O (d := 1) ⟨by decide, by decide⟩ (Nat.le_of_ble_eq_true rfl) ⟨by decide, by decide⟩ (co_M_in K a 1 (S 36 0)) (q := 14) jd_M_trace_11 rfl (fun r S' h => ?_)
  obtain ⟨rfl, -, hin_11⟩ := h
  refine ja_if_ne O (g := 23) (q := 17) jd_M_trace_14 (by decide) rfl (fun h_14 => ?_) (fun h_14 => ?_)
  · have i1 := jp_no hin_11 h_14
    have i2 : ∃ e9, e9 < 40 ∧ a = nI (e9 + 1) := by
      have i3 := i1
      rw [h36] at i3
      obtain ⟨j, hj, e8⟩ := jp_in_nI (n := t) (by omega) ⟨Int32.le_trans (by decide) i3.1, i3.2⟩
      subst e8
      have : 1 ≤ j := (nI_leI (by decide) (by omega)).mp i3.1
      exact ⟨j - 1, by omega, by rw [show j - 1 + 1 = j by omega]⟩
    obtain ⟨e9, he9, rfl⟩ := i2
    have hcl : (nI (e9 + 1)).toNatClampNeg = e9 + 1 := nI_clamp (by omega)
    refine ja_iload_n O (q := 24) jd_M_trace_23 rfl rfl rfl ?_
    by_cases b_0 : b = 0
    · subst b_0
      refine ja_tableIn O (g := 56) jd_M_trace_24 (by decide) (by decide) (by rfl) (by decide) ?_
      refine ja_aload_n O (q := 57) jd_M_trace_56 rfl rfl rfl ?_
      refine jg_M_42 O (q := 60) jd_M_trace_57 rfl ?_
      refine ja_iload_n O (q := 61) jd_M_trace_60 rfl rfl rfl ?_
      refine jl_28 O (k := e9 + 1) rfl (by first | assumption | omega) (q := 62) jd_M_trace_61 rfl ?_
      exact jo_ir O hr hk (by simp only [jo_rs, mp_tr, if_pos i1, hcl]; exact ⟨by first | rfl | trivial, by first | rfl | trivial⟩) jd_M_trace_62
    by_cases b_1 : b = 1
    · subst b_1
      refine ja_tableIn O (g := 63) jd_M_trace_24 (by decide) (by decide) (by rfl) (by decide) ?_
      refine ja_aload_n O (q := 64) jd_M_trace_63 rfl rfl rfl ?_
      refine jg_M_45 O (q := 67) jd_M_trace_64 rfl ?_
      refine ja_iload_n O (q := 68) jd_M_trace_67 rfl rfl rfl ?_
      refine jl_29 O (k := e9 + 1) rfl (by first | assumption | omega) (q := 69) jd_M_trace_68 rfl ?_
      exact jo_ir O hr hk (by simp only [jo_rs, mp_tr, if_pos i1, hcl]; exact ⟨by first | rfl | trivial, by first | rfl | trivial⟩) jd_M_trace_69
    by_cases b_2 : b = 2
    · subst b_2
      refine ja_tableIn O (g := 70) jd_M_trace_24 (by decide) (by decide) (by rfl) (by decide) ?_
      refine ja_aload_n O (q := 71) jd_M_trace_70 rfl rfl rfl ?_
      refine jg_M_48 O (q := 74) jd_M_trace_71 rfl ?_
      refine ja_iload_n O (q := 75) jd_M_trace_74 rfl rfl rfl ?_
      refine jl_30 O (k := e9 + 1) rfl (by first | assumption | omega) (q := 76) jd_M_trace_75 rfl ?_
      exact jo_ir O hr hk (by simp only [jo_rs, mp_tr, if_pos i1, hcl]; exact ⟨by first | rfl | trivial, by first | rfl | trivial⟩) jd_M_trace_76
    by_cases b_3 : b = 3
    · subst b_3
      refine ja_tableIn O (g := 77) jd_M_trace_24 (by decide) (by decide) (by rfl) (by decide) ?_
      refine ja_aload_n O (q := 78) jd_M_trace_77 rfl rfl rfl ?_
      refine jg_M_51 O (q := 81) jd_M_trace_78 rfl ?_
      refine ja_iload_n O (q := 82) jd_M_trace_81 rfl rfl rfl ?_
      refine jl_31 O (k := e9 + 1) rfl (by first | assumption | omega) (q := 83) jd_M_trace_82 rfl ?_
      exact jo_ir O hr hk (by simp only [jo_rs, mp_tr, if_pos i1, hcl]; exact ⟨by first | rfl | trivial, by first | rfl | trivial⟩) jd_M_trace_83
    have n_0 := lv_neT b_0 (a := 0) (by decide)
    have n_1 := lv_neT b_1 (a := 1) (by decide)
    have n_2 := lv_neT b_2 (a := 2) (by decide)
    have n_3 := lv_neT b_3 (a := 3) (by decide)
    refine ja_tableOut O (g := 84) jd_M_trace_24 (by omega) (by decide) ?_
    refine ja_aload_n O (q := 85) jd_M_trace_84 rfl rfl rfl ?_
    refine ja_iconst O (q := 86) (v := 2) jd_M_trace_85 rfl (by decide) ?_
    refine jm_M_80 O (d := 1) ⟨by decide, by decide⟩ (Nat.le_of_ble_eq_true rfl) ⟨by decide, by decide⟩ (co_M_fail K 2) (q := 89) jd_M_trace_86 rfl (fun r S' h => ?_)
    obtain ⟨rfl, rfl⟩ := h
    exact jo_ir O hr hk (by simp only [jo_rs, mp_tr, if_pos i1, if_neg b_0, if_neg b_1, if_neg b_2, if_neg b_3]; exact ⟨by first | rfl | trivial, by first | rfl | trivial⟩) jd_M_trace_89
  · refine ja_aload_n O (q := 18) jd_M_trace_17 rfl rfl rfl ?_
    refine ja_iconst O (q := 19) (v := 1) jd_M_trace_18 rfl (by decide) ?_
    refine jm_M_80 O (d := 1) ⟨by decide, by decide⟩ (Nat.le_of_ble_eq_true rfl) ⟨by decide, by decide⟩ (co_M_fail K 1) (q := 22) jd_M_trace_19 rfl (fun r S' h => ?_)
    obtain ⟨rfl, rfl⟩ := h
    exact jo_ir O hr hk (by
        have q : ¬ (jp_in a 1 (S 36 0)) := hin_11.mp h_14
        simp only [jo_rs, mp_tr, if_neg q]; exact ⟨by first | rfl | trivial, by first | rfl | trivial⟩) jd_M_trace_22
set_option maxRecDepth 100000 in
theorem co_M_reversal {l : Launch} {s0 : State} {a0 : Array Value} {G : jb_Gt} {ad : Nat → Nat} (K : jo_G s0 a0 G ad) {S : ja_S} (a : Int32) (k : Nat) (hk9 : k < 80) (h37 : S 37 0 = nI k) : jo_C l s0 G ad jy_M_reversal jc_M_reversal 2 (some .int) 6 [.ref (ad 7), .int a] S (jo_i (jo_rs (mp_revl S a))) := by
  refine jo_of K (by decide) rfl (Nat.le_of_ble_eq_true rfl) ?_
  intro p e s m args below meth c O hr hk
  refine ja_aload_n O (q := 1) jd_M_reversal_0 rfl rfl rfl ?_
  refine ja_iconst O (q := 2) (v := 0) jd_M_reversal_1 rfl (by decide) ?_
  refine jp_M_72 O (q := 5) jd_M_reversal_2 rfl ?_
  refine ja_iload_n O (q := 6) jd_M_reversal_5 rfl rfl rfl ?_
  refine ja_if_lt O (g := 26) (q := 9) jd_M_reversal_6 (by decide) rfl (fun h_6 => ?_) (fun h_6 => ?_)
  · refine ja_aload_n O (q := 27) jd_M_reversal_26 rfl rfl rfl ?_
    refine ja_iconst O (q := 28) (v := 1) jd_M_reversal_27 rfl (by decide) ?_
    refine jm_M_80 O (d := 1) ⟨by decide, by decide⟩ (Nat.le_of_ble_eq_true rfl) ⟨by decide, by decide⟩ (co_M_fail K 1) (q := 31) jd_M_reversal_28 rfl (fun r S' h => ?_)
    obtain ⟨rfl, rfl⟩ := h
    exact jo_ir O hr hk (by
        first
        | (simp only [jo_rs, mp_revl, if_pos i4, hcl]; exact ⟨by first | rfl | trivial, by first | rfl | trivial⟩)
        | (have q : ¬ (¬ a < 0 ∧ ¬ S 37 0 ≤ a) := fun q => q.2 h_14
           simp only [jo_rs, mp_revl, if_neg q]; exact ⟨by first | rfl | trivial, by first | rfl | trivial⟩)
        | (have q : ¬ (¬ a < 0 ∧ ¬ S 37 0 ≤ a) := fun q => q.1 h_6
           simp only [jo_rs, mp_revl, if_neg q]; exact ⟨by first | rfl | trivial, by first | rfl | trivial⟩)) jd_M_reversal_31
  · refine ja_iload_n O (q := 10) jd_M_reversal_9 rfl rfl rfl ?_
    refine ja_aload_n O (q := 11) jd_M_reversal_10 rfl rfl rfl ?_
    refine jg_M_106 O (q := 14) jd_M_reversal_11 rfl ?_
    refine ja_icmp_ge O (g := 26) (q := 17) jd_M_reversal_14 (by decide) rfl (fun h_14 => ?_) (fun h_14 => ?_)
    · refine ja_aload_n O (q := 27) jd_M_reversal_26 rfl rfl rfl ?_
      refine ja_iconst O (q := 28) (v := 1) jd_M_reversal_27 rfl (by decide) ?_
      refine jm_M_80 O (d := 1) ⟨by decide, by decide⟩ (Nat.le_of_ble_eq_true rfl) ⟨by decide, by decide⟩ (co_M_fail K 1) (q := 31) jd_M_reversal_28 rfl (fun r S' h => ?_)
      obtain ⟨rfl, rfl⟩ := h
      exact jo_ir O hr hk (by
          first
          | (simp only [jo_rs, mp_revl, if_pos i4, hcl]; exact ⟨by first | rfl | trivial, by first | rfl | trivial⟩)
          | (have q : ¬ (¬ a < 0 ∧ ¬ S 37 0 ≤ a) := fun q => q.2 h_14
             simp only [jo_rs, mp_revl, if_neg q]; exact ⟨by first | rfl | trivial, by first | rfl | trivial⟩)
          | (have q : ¬ (¬ a < 0 ∧ ¬ S 37 0 ≤ a) := fun q => q.1 h_6
             simp only [jo_rs, mp_revl, if_neg q]; exact ⟨by first | rfl | trivial, by first | rfl | trivial⟩)) jd_M_reversal_31
    · have i4 : ¬ a < 0 ∧ ¬ S 37 0 ≤ a := ⟨h_6, h_14⟩
      obtain ⟨j, hj0, rfl⟩ := nI_of h_6
      have hj : j < k := by
        rcases Nat.lt_or_ge j k with z | z
        · exact z
        · exact absurd (show S 37 0 ≤ nI j by rw [h37]; exact nI_le z (by omega)) i4.2
      have hcl : (nI j).toNatClampNeg = j := nI_clamp (by omega)
      refine ja_aload_n O (q := 18) jd_M_reversal_17 rfl rfl rfl ?_
      refine jg_M_63 O (q := 21) jd_M_reversal_18 rfl ?_
      refine ja_iload_n O (q := 22) jd_M_reversal_21 rfl rfl rfl ?_
      refine jl_35 O (k := j) rfl (by first | assumption | omega) (q := 23) jd_M_reversal_22 rfl ?_
      refine ja_goto O (g := 31) jd_M_reversal_23 (by decide) ?_
      exact jo_ir O hr hk (by
          first
          | (simp only [jo_rs, mp_revl, if_pos i4, hcl]; exact ⟨by first | rfl | trivial, by first | rfl | trivial⟩)
          | (have q : ¬ (¬ a < 0 ∧ ¬ S 37 0 ≤ a) := fun q => q.2 h_14
             simp only [jo_rs, mp_revl, if_neg q]; exact ⟨by first | rfl | trivial, by first | rfl | trivial⟩)
          | (have q : ¬ (¬ a < 0 ∧ ¬ S 37 0 ≤ a) := fun q => q.1 h_6
             simp only [jo_rs, mp_revl, if_neg q]; exact ⟨by first | rfl | trivial, by first | rfl | trivial⟩)) jd_M_reversal_31
set_option maxRecDepth 100000 in
theorem co_M_notes {l : Launch} {s0 : State} {a0 : Array Value} {G : jb_Gt} {ad : Nat → Nat} (K : jo_G s0 a0 G ad) {S : ja_S} (a : Int32) : jo_C l s0 G ad jy_M_notes jc_M_notes 2 (some .int) 6 [.ref (ad 7), .int a] S (jo_i (jo_rs (mp_notes S a))) := by
  refine jo_of K (by decide) rfl (Nat.le_of_ble_eq_true rfl) ?_
  intro p e s m args below meth c O hr hk
  refine ja_aload_n O (q := 1) jd_M_notes_0 rfl rfl rfl ?_
  refine ja_iconst O (q := 2) (v := 0) jd_M_notes_1 rfl (by decide) ?_
  refine jp_M_72 O (q := 5) jd_M_notes_2 rfl ?_
  refine ja_iload_n O (q := 6) jd_M_notes_5 rfl rfl rfl ?_
  refine ja_iconst O (q := 7) (v := 0) jd_M_notes_6 rfl (by decide) ?_
  refine ja_iconst O (q := 8) (v := 3) jd_M_notes_7 rfl (by decide) ?_
  refine jm_M_75 O (d := 1) ⟨by decide, by decide⟩ (Nat.le_of_ble_eq_true rfl) ⟨by decide, by decide⟩ (co_M_in K a 0 3) (q := 11) jd_M_notes_8 rfl (fun r S' h => ?_)
  obtain ⟨rfl, -, hin_8⟩ := h
  refine ja_if_eq O (g := 23) (q := 14) jd_M_notes_11 (by decide) rfl (fun h_11 => ?_) (fun h_11 => ?_)
  · refine ja_aload_n O (q := 24) jd_M_notes_23 rfl rfl rfl ?_
    refine ja_iconst O (q := 25) (v := 1) jd_M_notes_24 rfl (by decide) ?_
    refine jm_M_80 O (d := 1) ⟨by decide, by decide⟩ (Nat.le_of_ble_eq_true rfl) ⟨by decide, by decide⟩ (co_M_fail K 1) (q := 28) jd_M_notes_25 rfl (fun r S' h => ?_)
    obtain ⟨rfl, rfl⟩ := h
    exact jo_ir O hr hk (by
        first
        | (simp only [jo_rs, mp_notes, if_pos i1, hcl]; exact ⟨by first | rfl | trivial, by first | rfl | trivial⟩)
        | (simp only [jo_rs, mp_notes, if_neg (hin_8.mp h_11)]; exact ⟨by first | rfl | trivial, by first | rfl | trivial⟩)) jd_M_notes_28
  · have i1 := jp_no hin_8 h_11
    obtain ⟨j, hj, rfl⟩ := jp_in_nI (n := 3) (by decide) i1
    have hj4 : j < 4 := by omega
    have hcl : (nI j).toNatClampNeg = j := nI_clamp (by omega)
    refine ja_aload_n O (q := 15) jd_M_notes_14 rfl rfl rfl ?_
    refine jg_M_32 O (q := 18) jd_M_notes_15 rfl ?_
    refine ja_iload_n O (q := 19) jd_M_notes_18 rfl rfl rfl ?_
    refine jl_26 O (k := j) rfl (by first | assumption | omega) (q := 20) jd_M_notes_19 rfl ?_
    refine ja_goto O (g := 28) jd_M_notes_20 (by decide) ?_
    exact jo_ir O hr hk (by
        first
        | (simp only [jo_rs, mp_notes, if_pos i1, hcl]; exact ⟨by first | rfl | trivial, by first | rfl | trivial⟩)
        | (simp only [jo_rs, mp_notes, if_neg (hin_8.mp h_11)]; exact ⟨by first | rfl | trivial, by first | rfl | trivial⟩)) jd_M_notes_28
set_option maxRecDepth 100000 in
theorem co_M_difference {l : Launch} {s0 : State} {a0 : Array Value} {G : jb_Gt} {ad : Nat → Nat} (K : jo_G s0 a0 G ad) {S : ja_S}  : jo_C l s0 G ad jy_M_difference jc_M_difference 3 (some .int) 6 [.ref (ad 7)] S (jo_i fun r S' => r = mf_sm (-(S 43 0)) (fun j => S 46 j - S 47 j) 8 ∧ S' = mk_z S) := by
  refine jo_of K (by decide) rfl (Nat.le_of_ble_eq_true rfl) ?_
  intro p e s m args below meth c O hr hk
  have loop : ∀ (n : Nat) (i : Nat), i ≤ 8 → 8 < i + n → ja_V p l e (jo_r 6) s m args below meth c (jb_W G ad) s0.heap.size 3 0 0 (jo_M s0 G ad below args s (jo_i fun r S' => r = mf_sm (-(S 43 0)) (fun j => S 46 j - S 47 j) 8 ∧ S' = mk_z S)) (mk_z S) 13 [(0, .ref (ad 7)), (1, .int (mf_sm (-(S 43 0)) (fun j => S 46 j - S 47 j) i)), (2, .int (nI i))] [] := by
    intro n
    induction n with
    | zero => intro i hi hn; exact absurd hn (by omega)
    | succ n ih =>
      intro i hi hn
      refine ja_iload_n O (q := 14) jd_M_difference_13 rfl rfl rfl ?_
      refine ja_bipush O (q := 16) (v := 8) jd_M_difference_14 rfl (by decide) ?_
      refine ja_icmp_ge O (g := 41) (q := 19) jd_M_difference_16 (by decide) rfl (fun h_16 => ?_) (fun h_16 => ?_)
      · have hi8 : i = 8 := by
          rcases Nat.lt_or_ge i 8 with z | z
          · exact absurd h_16 (nI_ge (b := 8) z (by omega))
          · omega
        subst hi8
        refine ja_iload_n O (q := 42) jd_M_difference_41 rfl rfl rfl ?_
        exact jo_ir O hr hk ⟨rfl, rfl⟩ jd_M_difference_42
      · have hi8 : i < 8 := by
          rcases Nat.lt_or_ge i 8 with z | z
          · exact z
          · exact absurd (show nI 8 ≤ nI i from nI_le z (by omega)) h_16
        refine ja_iload_n O (q := 20) jd_M_difference_19 rfl rfl rfl ?_
        refine ja_aload_n O (q := 21) jd_M_difference_20 rfl rfl rfl ?_
        refine jg_M_17 O (q := 24) jd_M_difference_21 rfl ?_
        refine ja_iload_n O (q := 25) jd_M_difference_24 rfl rfl rfl ?_
        refine jl_21 O (k := i) rfl (by first | assumption | omega) (q := 26) jd_M_difference_25 rfl ?_
        refine ja_aload_n O (q := 27) jd_M_difference_26 rfl rfl rfl ?_
        refine jg_M_20 O (q := 30) jd_M_difference_27 rfl ?_
        refine ja_iload_n O (q := 31) jd_M_difference_30 rfl rfl rfl ?_
        refine jl_22 O (k := i) rfl (by first | assumption | omega) (q := 32) jd_M_difference_31 rfl ?_
        refine ja_isub O (q := 33) jd_M_difference_32 rfl ?_
        refine ja_iadd O (q := 34) jd_M_difference_33 rfl ?_
        refine ja_istore_n O (q := 35) jd_M_difference_34 rfl rfl (by decide) ?_
        refine ja_iinc O (q := 38) (v := nI (i + 1)) jd_M_difference_35 rfl rfl (nI_1 i) (by decide) ?_
        refine ja_goto O (g := 13) jd_M_difference_38 (by decide) ?_
        refine ja_less (L' := [(0, .ref (ad 7)), (1, .int (mf_sm (-(S 43 0)) (fun j => S 46 j - S 47 j) (i + 1))), (2, .int (nI (i + 1)))]) ⟨rfl, rfl, rfl, trivial⟩ ?_
        exact ih (i + 1) (by omega) (by omega)
  refine ja_aload_n O (q := 1) jd_M_difference_0 rfl rfl rfl ?_
  refine ja_iconst O (q := 2) (v := 0) jd_M_difference_1 rfl (by decide) ?_
  refine jp_M_72 O (q := 5) jd_M_difference_2 rfl ?_
  refine ja_aload_n O (q := 6) jd_M_difference_5 rfl rfl rfl ?_
  refine jg_M_121 O (q := 9) jd_M_difference_6 rfl ?_
  refine ja_ineg O (q := 10) jd_M_difference_9 rfl ?_
  refine ja_istore_n O (q := 11) jd_M_difference_10 rfl rfl (by decide) ?_
  refine ja_iconst O (q := 12) (v := 0) jd_M_difference_11 rfl (by decide) ?_
  refine ja_istore_n O (q := 13) jd_M_difference_12 rfl rfl (by decide) ?_
  refine ja_less (L' := [(0, .ref (ad 7)), (1, .int (mf_sm (-(S 43 0)) (fun j => S 46 j - S 47 j) 0)), (2, .int (nI 0))]) ⟨rfl, rfl, rfl, trivial⟩ ?_
  exact loop 9 0 (by omega) (by omega)
set_option maxRecDepth 100000 in
theorem co_M_count {l : Launch} {s0 : State} {a0 : Array Value} {G : jb_Gt} {ad : Nat → Nat} (K : jo_G s0 a0 G ad) {S : ja_S} (b : Int32) : jo_C l s0 G ad jy_M_count jc_M_count 4 (some .int) 6 [.ref (ad 7), .int b] S (jo_i (jo_rs (mp_ct S b))) := by
  refine jo_of K (by decide) rfl (Nat.le_of_ble_eq_true rfl) ?_
  intro p e s m args below meth c O hr hk
  refine ja_aload_n O (q := 1) jd_M_count_0 rfl rfl rfl ?_
  refine ja_iconst O (q := 2) (v := 0) jd_M_count_1 rfl (by decide) ?_
  refine jp_M_72 O (q := 5) jd_M_count_2 rfl ?_
  refine ja_iconst O (q := 6) (v := 0) jd_M_count_5 rfl (by decide) ?_
  refine ja_istore_n O (q := 7) jd_M_count_6 rfl rfl (by decide) ?_
  refine ja_iload_n O (q := 8) jd_M_count_7 rfl rfl rfl ?_
  by_cases b_0 : b = 0
  · subst b_0
    refine ja_tableIn O (g := 56) jd_M_count_8 (by decide) (by decide) (by rfl) (by decide) ?_
    refine ja_aload_n O (q := 57) jd_M_count_56 rfl rfl rfl ?_
    refine jg_M_149 O (q := 60) jd_M_count_57 rfl ?_
    exact jo_ir O hr hk (by simp only [jo_rs, mp_ct]; exact ⟨by first | rfl | trivial, by first | rfl | trivial⟩) jd_M_count_60
  by_cases b_1 : b = 1
  · subst b_1
    refine ja_tableIn O (g := 61) jd_M_count_8 (by decide) (by decide) (by rfl) (by decide) ?_
    refine ja_aload_n O (q := 62) jd_M_count_61 rfl rfl rfl ?_
    refine jg_M_106 O (q := 65) jd_M_count_62 rfl ?_
    exact jo_ir O hr hk (by simp only [jo_rs, mp_ct]; exact ⟨by first | rfl | trivial, by first | rfl | trivial⟩) jd_M_count_65
  by_cases b_2 : b = 2
  · subst b_2
    refine ja_tableIn O (g := 66) jd_M_count_8 (by decide) (by decide) (by rfl) (by decide) ?_
    refine ja_aload_n O (q := 67) jd_M_count_66 rfl rfl rfl ?_
    refine jg_M_103 O (q := 70) jd_M_count_67 rfl ?_
    exact jo_ir O hr hk (by simp only [jo_rs, mp_ct]; exact ⟨by first | rfl | trivial, by first | rfl | trivial⟩) jd_M_count_70
  by_cases b_3 : b = 3
  · subst b_3
    refine ja_tableIn O (g := 71) jd_M_count_8 (by decide) (by decide) (by rfl) (by decide) ?_
    refine ja_aload_n O (q := 72) jd_M_count_71 rfl rfl rfl ?_
    refine jg_M_84 O (q := 75) jd_M_count_72 rfl ?_
    refine ja_if_eq O (g := 82) (q := 78) jd_M_count_75 (by decide) rfl (fun h_75 => ?_) (fun h_75 => ?_)
    · refine ja_iconst O (q := 83) (v := 1) jd_M_count_82 rfl (by decide) ?_
      exact jo_ir O hr hk (by
          first
          | (have q : S 33 0 = 0 := h_75
             simp only [jo_rs, mp_ct, if_pos q]; exact ⟨by first | rfl | trivial, by first | rfl | trivial⟩)
          | (have q : ¬ S 33 0 = 0 := h_75
             simp only [jo_rs, mp_ct, if_neg q]; exact ⟨by first | rfl | trivial, by first | rfl | trivial⟩)) jd_M_count_83
    · refine ja_iconst O (q := 79) (v := 0) jd_M_count_78 rfl (by decide) ?_
      refine ja_goto O (g := 83) jd_M_count_79 (by decide) ?_
      exact jo_ir O hr hk (by
          first
          | (have q : S 33 0 = 0 := h_75
             simp only [jo_rs, mp_ct, if_pos q]; exact ⟨by first | rfl | trivial, by first | rfl | trivial⟩)
          | (have q : ¬ S 33 0 = 0 := h_75
             simp only [jo_rs, mp_ct, if_neg q]; exact ⟨by first | rfl | trivial, by first | rfl | trivial⟩)) jd_M_count_83
  by_cases b_4 : b = 4
  · subst b_4
    refine ja_tableIn O (g := 84) jd_M_count_8 (by decide) (by decide) (by rfl) (by decide) ?_
    refine ja_aload_n O (q := 85) jd_M_count_84 rfl rfl rfl ?_
    refine jg_M_38 O (q := 88) jd_M_count_85 rfl ?_
    exact jo_ir O hr hk (by simp only [jo_rs, mp_ct]; exact ⟨by first | rfl | trivial, by first | rfl | trivial⟩) jd_M_count_88
  by_cases b_5 : b = 5
  · subst b_5
    refine ja_tableIn O (g := 89) jd_M_count_8 (by decide) (by decide) (by rfl) (by decide) ?_
    refine ja_aload_n O (q := 90) jd_M_count_89 rfl rfl rfl ?_
    refine jg_M_38 O (q := 93) jd_M_count_90 rfl ?_
    refine ja_if_lt O (g := 107) (q := 96) jd_M_count_93 (by decide) rfl (fun h_93 => ?_) (fun h_93 => ?_)
    · refine ja_iconst O (q := 108) (v := 0) jd_M_count_107 rfl (by decide) ?_
      exact jo_ir O hr hk (by
          first
          | (have q : S 34 0 < 0 := h_93
             simp only [jo_rs, mp_ct, if_pos q]; exact ⟨by first | rfl | trivial, by first | rfl | trivial⟩)
          | (have q : ¬ S 34 0 < 0 := h_93
             have q2 : S 35 0 = 0 := h_100
             simp only [jo_rs, mp_ct, if_neg q, if_pos q2]; exact ⟨by first | rfl | trivial, by first | rfl | trivial⟩)
          | (have q : ¬ S 34 0 < 0 := h_93
             have q2 : ¬ S 35 0 = 0 := h_100
             simp only [jo_rs, mp_ct, if_neg q, if_neg q2]; exact ⟨by first | rfl | trivial, by first | rfl | trivial⟩)) jd_M_count_108
    · refine ja_aload_n O (q := 97) jd_M_count_96 rfl rfl rfl ?_
      refine jg_M_88 O (q := 100) jd_M_count_97 rfl ?_
      refine ja_if_eq O (g := 107) (q := 103) jd_M_count_100 (by decide) rfl (fun h_100 => ?_) (fun h_100 => ?_)
      · refine ja_iconst O (q := 108) (v := 0) jd_M_count_107 rfl (by decide) ?_
        exact jo_ir O hr hk (by
            first
            | (have q : S 34 0 < 0 := h_93
               simp only [jo_rs, mp_ct, if_pos q]; exact ⟨by first | rfl | trivial, by first | rfl | trivial⟩)
            | (have q : ¬ S 34 0 < 0 := h_93
               have q2 : S 35 0 = 0 := h_100
               simp only [jo_rs, mp_ct, if_neg q, if_pos q2]; exact ⟨by first | rfl | trivial, by first | rfl | trivial⟩)
            | (have q : ¬ S 34 0 < 0 := h_93
               have q2 : ¬ S 35 0 = 0 := h_100
               simp only [jo_rs, mp_ct, if_neg q, if_neg q2]; exact ⟨by first | rfl | trivial, by first | rfl | trivial⟩)) jd_M_count_108
      · refine ja_iconst O (q := 104) (v := 1) jd_M_count_103 rfl (by decide) ?_
        refine ja_goto O (g := 108) jd_M_count_104 (by decide) ?_
        exact jo_ir O hr hk (by
            first
            | (have q : S 34 0 < 0 := h_93
               simp only [jo_rs, mp_ct, if_pos q]; exact ⟨by first | rfl | trivial, by first | rfl | trivial⟩)
            | (have q : ¬ S 34 0 < 0 := h_93
               have q2 : S 35 0 = 0 := h_100
               simp only [jo_rs, mp_ct, if_neg q, if_pos q2]; exact ⟨by first | rfl | trivial, by first | rfl | trivial⟩)
            | (have q : ¬ S 34 0 < 0 := h_93
               have q2 : ¬ S 35 0 = 0 := h_100
               simp only [jo_rs, mp_ct, if_neg q, if_neg q2]; exact ⟨by first | rfl | trivial, by first | rfl | trivial⟩)) jd_M_count_108
  by_cases b_6 : b = 6
  · subst b_6
    refine ja_tableIn O (g := 109) jd_M_count_8 (by decide) (by decide) (by rfl) (by decide) ?_
    refine ja_aload_n O (q := 110) jd_M_count_109 rfl rfl rfl ?_
    refine jg_M_121 O (q := 113) jd_M_count_110 rfl ?_
    exact jo_ir O hr hk (by simp only [jo_rs, mp_ct]; exact ⟨by first | rfl | trivial, by first | rfl | trivial⟩) jd_M_count_113
  by_cases b_7 : b = 7
  · subst b_7
    refine ja_tableIn O (g := 114) jd_M_count_8 (by decide) (by decide) (by rfl) (by decide) ?_
    have loop : ∀ (n : Nat) (i : Nat), i ≤ 8 → 8 < i + n → ja_V p l e (jo_r 6) s m args below meth c (jb_W G ad) s0.heap.size 4 0 0 (jo_M s0 G ad below args s (jo_i (jo_rs (mp_ct S 7)))) (mk_z S) 116 [(0, .ref (ad 7)), (1, .int 7), (2, .int (jp_ct (S 49) i)), (3, .int (nI i))] [] := by
      intro n
      induction n with
      | zero => intro i hi hn; exact absurd hn (by omega)
      | succ n ih =>
        intro i hi hn
        refine ja_iload_n O (q := 117) jd_M_count_116 rfl rfl rfl ?_
        refine ja_bipush O (q := 119) (v := 8) jd_M_count_117 rfl (by decide) ?_
        refine ja_icmp_ge O (g := 140) (q := 122) jd_M_count_119 (by decide) rfl (fun h_119 => ?_) (fun h_119 => ?_)
        · have hi8 : i = 8 := by
            rcases Nat.lt_or_ge i 8 with z | z
            · exact absurd h_119 (nI_ge (b := 8) z (by omega))
            · omega
          subst hi8
          refine ja_iload_n O (q := 141) jd_M_count_140 rfl rfl rfl ?_
          exact jo_ir O hr hk (by simp only [jo_rs, mp_ct]; exact ⟨by first | rfl | trivial, by first | rfl | trivial⟩) jd_M_count_141
        · have hi8 : i < 8 := by
            rcases Nat.lt_or_ge i 8 with z | z
            · exact z
            · exact absurd (show nI 8 ≤ nI i from nI_le z (by omega)) h_119
          refine ja_aload_n O (q := 123) jd_M_count_122 rfl rfl rfl ?_
          refine jg_M_26 O (q := 126) jd_M_count_123 rfl ?_
          refine ja_iload_n O (q := 127) jd_M_count_126 rfl rfl rfl ?_
          refine jl_24 O (k := i) rfl (by first | assumption | omega) (q := 128) jd_M_count_127 rfl ?_
          refine ja_if_eq O (g := 134) (q := 131) jd_M_count_128 (by decide) rfl (fun h_128 => ?_) (fun h_128 => ?_)
          · refine ja_iinc O (q := 137) (v := nI (i + 1)) jd_M_count_134 rfl rfl (nI_1 i) (by decide) ?_
            refine ja_goto O (g := 116) jd_M_count_137 (by decide) ?_
            refine ja_less (L' := [(0, .ref (ad 7)), (1, .int 7), (2, .int (jp_ct (S 49) (i + 1))), (3, .int (nI (i + 1)))]) ⟨rfl, rfl, by first | (show some (Value.int _) = some (Value.int (jp_ct _ i + if S 49 i = 0 then 0 else 1)); rw [if_pos (show S 49 i = 0 from h_128)]; simp; done) | (show some (Value.int _) = some (Value.int (jp_ct _ i + if S 49 i = 0 then 0 else 1)); rw [if_neg (show ¬ S 49 i = 0 from h_128)]; rfl), rfl, trivial⟩ ?_
            exact ih (i + 1) (by omega) (by omega)
          · refine ja_iinc O (q := 134)  jd_M_count_131 rfl rfl rfl (by decide) ?_
            refine ja_iinc O (q := 137) (v := nI (i + 1)) jd_M_count_134 rfl rfl (nI_1 i) (by decide) ?_
            refine ja_goto O (g := 116) jd_M_count_137 (by decide) ?_
            refine ja_less (L' := [(0, .ref (ad 7)), (1, .int 7), (2, .int (jp_ct (S 49) (i + 1))), (3, .int (nI (i + 1)))]) ⟨rfl, rfl, by first | (show some (Value.int _) = some (Value.int (jp_ct _ i + if S 49 i = 0 then 0 else 1)); rw [if_pos (show S 49 i = 0 from h_128)]; simp; done) | (show some (Value.int _) = some (Value.int (jp_ct _ i + if S 49 i = 0 then 0 else 1)); rw [if_neg (show ¬ S 49 i = 0 from h_128)]; rfl), rfl, trivial⟩ ?_
            exact ih (i + 1) (by omega) (by omega)
    refine ja_iconst O (q := 115) (v := 0) jd_M_count_114 rfl (by decide) ?_
    refine ja_istore_n O (q := 116) jd_M_count_115 rfl rfl (by decide) ?_
    refine ja_less (L' := [(0, .ref (ad 7)), (1, .int 7), (2, .int (jp_ct (S 49) 0)), (3, .int (nI 0))]) ⟨rfl, rfl, rfl, rfl, trivial⟩ ?_
    exact loop 9 0 (by omega) (by omega)
  have n_0 := lv_neT b_0 (a := 0) (by decide)
  have n_1 := lv_neT b_1 (a := 1) (by decide)
  have n_2 := lv_neT b_2 (a := 2) (by decide)
  have n_3 := lv_neT b_3 (a := 3) (by decide)
  have n_4 := lv_neT b_4 (a := 4) (by decide)
  have n_5 := lv_neT b_5 (a := 5) (by decide)
  have n_6 := lv_neT b_6 (a := 6) (by decide)
  have n_7 := lv_neT b_7 (a := 7) (by decide)
  refine ja_tableOut O (g := 142) jd_M_count_8 (by omega) (by decide) ?_
  refine ja_aload_n O (q := 143) jd_M_count_142 rfl rfl rfl ?_
  refine ja_iconst O (q := 144) (v := 1) jd_M_count_143 rfl (by decide) ?_
  refine jm_M_80 O (d := 1) ⟨by decide, by decide⟩ (Nat.le_of_ble_eq_true rfl) ⟨by decide, by decide⟩ (co_M_fail K 1) (q := 147) jd_M_count_144 rfl (fun r S' h => ?_)
  obtain ⟨rfl, rfl⟩ := h
  exact jo_ir O hr hk (by simp only [jo_rs, mp_ct, if_neg b_0, if_neg b_1, if_neg b_2, if_neg b_3, if_neg b_4, if_neg b_5, if_neg b_6, if_neg b_7]; exact ⟨by first | rfl | trivial, by first | rfl | trivial⟩) jd_M_count_147
