/-! CONTRACTS of the reference, by program (wip/whole/gen/p24.py): give, withdraw, settle -/
theorem mf_cut_v {M : ja_S} {p : Int32} {v : Nat} (h0 : Nat.beq v 40 = false) (h1 : Nat.beq v 33 = false) (h2 : Nat.beq v 34 = false) (h3 : Nat.beq v 35 = false) : (mf_cut M p).2 v = M v := by
  unfold mf_cut; split
  · simp [jb_u, jb_sv, h0, h1, h2, h3]
  · rfl
theorem mf_fate_v {M : ja_S} {v : Nat} (h0 : Nat.beq v 38 = false) (h1 : Nat.beq v 61 = false) : (mf_fate M).2 v = M v := by
  unfold mf_fate; split
  · rfl
  · simp [jb_u, jb_sv, h0, h1]
theorem mf_req_v {M : ja_S} {t j v : Nat} (h0 : Nat.beq v 57 = false) (h1 : Nat.beq v 47 = false) : mf_req M t j v = M v := by
  unfold mf_req; split
  · split <;> simp [jb_u, jb_sv, h0, h1]
  · rfl
theorem mf_rev_v {M : ja_S} {t v : Nat} {x : Int32} (h0 : Nat.beq v 47 = false) (h1 : Nat.beq v 58 = false) : mf_rev M t x v = M v := by
  unfold mf_rev; split <;> simp [jb_u, jb_sv, h0, h1]
theorem mf_owe_v {M : ja_S} {t x : Int32} {v : Nat} (h0 : Nat.beq v 59 = false) (h1 : Nat.beq v 60 = false) (h2 : Nat.beq v 37 = false) : mf_owe M t x v = M v := by
  unfold mf_owe; simp [jb_u, jb_sv, h0, h1, h2]
theorem mf_fin_v {M : ja_S} {t : Nat} {x : Int32} {v : Nat} (h0 : Nat.beq v 59 = false) (h1 : Nat.beq v 60 = false) (h2 : Nat.beq v 37 = false) (h3 : Nat.beq v 53 = false) (h4 : Nat.beq v 56 = false) : mf_fin M t x v = M v := by
  unfold mf_fin; split
  · simp [jb_u, jb_sv, h3, h4]
  · rw [mf_owe_v h0 h1 h2]; simp [jb_u, jb_sv, h3, h4]
theorem mf_pl_v {v : Nat} (h0 : Nat.beq v 51 = false) : ∀ (f : Nat) (M : ja_S) (w g z : Int32), (mf_pl f M w g z).2 v = M v
  | 0, _, _, _, _ => rfl
  | f + 1, M, w, g, z => by unfold mf_pl; rw [mf_pl_v h0 f]; simp [jb_u, jb_sv, h0]
theorem mf_pq_v {M : ja_S} {v : Nat} (h0 : Nat.beq v 51 = false) (h1 : Nat.beq v 39 = false) : (mf_pq M).2 v = M v := by
  have e := mf_pl_v h0 4 (jb_u M 39 0 (-1)) (mf_w M) 0 0
  rw [show jb_u M 39 0 (-1) v = M v from by simp [jb_u, jb_sv, h1]] at e
  exact e
theorem jb_u3v {X : ja_S} {a b c v : Nat} {x y z : Int32} (h1 : Nat.beq v a = false) (h2 : Nat.beq v b = false) (h3 : Nat.beq v c = false) : jb_u (jb_u (jb_u X a 0 x) b 0 y) c 0 z v = X v := by
  simp only [jb_u, jb_sv, h1, h2, h3, cond_false]
theorem mf_pay_v {M : ja_S} {t : Int32} {v : Nat} (h0 : Nat.beq v 51 = false) (h1 : Nat.beq v 39 = false) (h2 : Nat.beq v 41 = false) (h3 : Nat.beq v 42 = false) (h4 : Nat.beq v 43 = false) : mf_pay M t v = M v := Eq.trans (jb_u3v (X := (mf_pq M).2) h2 h3 h4) (mf_pq_v h0 h1)
def mf_gv5 (M : ja_S) (t : Nat) : Int32 × ja_S := if (mf_cut M 4).1 = 0 then (mf_fin (mf_cut M 4).2 t ((mf_cut M 4).2 42 0) 42 0, mf_fin (mf_cut M 4).2 t ((mf_cut M 4).2 42 0)) else (-3, (mf_cut M 4).2)
def mf_gv4 (M : ja_S) (t : Nat) : Int32 × ja_S := if (mf_cut M 3).1 = 0 then mf_gv5 (mf_pay (mf_cut M 3).2 (nI t)) t else (-3, (mf_cut M 3).2)
def mf_gv3 (f : Int32) (M : ja_S) (t : Nat) : Int32 × ja_S := if f = 1 ∨ f = 2 then (-2, mf_owe (jb_u M 53 t 4) (nI t) (M 55 t)) else if M 57 t = 2 then (-1, jb_u M 53 t 4) else if (mf_cut M 2).1 = 0 then mf_gv4 (jb_u (mf_cut M 2).2 53 t 2) t else (-3, (mf_cut M 2).2)
def mf_gv2 (F : Int32 × ja_S) (t j : Nat) : Int32 × ja_S := mf_gv3 F.1 (if F.1 = 1 then F.2 else mf_req F.2 t j) t
def mf_give (M : ja_S) (t j : Nat) : Int32 × ja_S := if (mf_cut M 1).1 = 0 then mf_gv2 (mf_fate (mf_cut M 1).2) t j else (-3, (mf_cut M 1).2)
def mf_beg (M : ja_S) (t j : Nat) (b : Int32) : ja_S := jb_u (jb_u (jb_u (jb_u M 36 0 (nI (t + 1))) 53 (t + 1) 1) 54 (t + 1) (nI j)) 55 (t + 1) b
def mp_wd (M : ja_S) (t j : Nat) (b : Int32) (g : Nat → Int32) (x : Bool) : Int32 × Int32 × ja_S :=
  if ¬ M 34 0 < 0 ∧ ¬ M 35 0 = 0 then (if jp_in b 1 5000 then (if x then (if M 36 0 = 40 then (4, 0, jb_u (jb_sv (mk_z M) 52 g) 32 0 4) else (0, (mf_give (mf_beg (jb_sv (mk_z M) 52 g) t j b) (t + 1) j).1, (mf_give (mf_beg (jb_sv (mk_z M) 52 g) t j b) (t + 1) j).2)) else (3, 0, jb_u (jb_sv (mk_z M) 52 g) 32 0 3)) else mk_f M 2) else mk_f M 1
def mf_xv (M : ja_S) : ja_S := if (mf_fate M).1 = 1 then (mf_fate M).2 else mf_rev (mf_fate M).2 (M 59 0).toNatClampNeg (M 60 0)
def mf_sh (M : ja_S) : ja_S := jb_sv (jb_sv (jb_u M 37 0 (M 37 0 - 1)) 59 (mf_dn (M 59) ((M 37 0).toNatClampNeg - 1))) 60 (mf_dn (M 60) ((M 37 0).toNatClampNeg - 1))
def mf_stl : Nat → ja_S → Nat → Nat × ja_S
  | 0, M, i => (i, M)
  | f + 1, M, i => if M 37 0 ≤ 0 then (i, M) else if (mf_fate M).1 = 0 ∨ (mf_fate M).1 = 3 then mf_stl f (mf_sh (mf_xv M)) (i + 1) else (i, mf_xv M)
def mp_stl (M : ja_S) : Int32 × Int32 × ja_S := if M 33 0 = 0 then (0, nI (mf_stl 81 (mk_z M) 0).1, (mf_stl 81 (mk_z M) 0).2) else mk_f M 1
theorem mf_fate_4 {M : ja_S} {n : Nat} (hn : n ≤ 8) (h : M 38 0 = nI n) : ∃ n', n' ≤ 8 ∧ (mf_fate M).2 38 0 = nI n' := by
  unfold mf_fate; split
  · exact ⟨n, hn, h⟩
  · rename_i h0
    have h1 : 0 < n := Nat.pos_of_ne_zero (fun q => h0 (by rw [h, q]; rfl))
    refine ⟨n - 1, by omega, ?_⟩
    show upd (M 38) 0 (M 38 0 - 1) 0 = _
    rw [pk_us, h, jp_m1 h1]
theorem mf_xv_v {M : ja_S} {v : Nat} (h0 : Nat.beq v 38 = false) (h1 : Nat.beq v 61 = false) (h2 : Nat.beq v 47 = false) (h3 : Nat.beq v 58 = false) : mf_xv M v = M v := by
  unfold mf_xv; split
  · exact mf_fate_v h0 h1
  · rw [mf_rev_v h2 h3, mf_fate_v h0 h1]
theorem mf_xv_4 {M : ja_S} {n : Nat} (hn : n ≤ 8) (h : M 38 0 = nI n) : ∃ n', n' ≤ 8 ∧ mf_xv M 38 0 = nI n' := by
  obtain ⟨n', h1, h2⟩ := mf_fate_4 hn h
  refine ⟨n', h1, ?_⟩
  unfold mf_xv; split
  · exact h2
  · rw [mf_rev_v rfl rfl]; exact h2
/-- what the pending reversals are: of traces whose account is known where they were approved -/
def jp_pm (M : ja_S) (k : Nat) : Prop := ∀ i, i < k → ∃ t, t < 41 ∧ M 59 i = nI t ∧ (M 57 t = 1 → ∃ j, j < 8 ∧ M 54 t = nI j)
set_option maxRecDepth 100000 in
theorem co_M_give {l : Launch} {s0 : State} {a0 : Array Value} {G : jb_Gt} {ad : Nat → Nat} (K : jo_G s0 a0 G ad) {S : ja_S} (t j n k : Nat) (ht : t < 41) (hj : j < 8) (h54 : S 54 t = nI j) (hn : n ≤ 8) (h38 : S 38 0 = nI n) (hk9 : k < 80) (h37 : S 37 0 = nI k) : jo_C l s0 G ad jy_M_give jc_M_give 3 (some .int) 3 [.ref (ad 7), .int (nI t)] S (jo_i fun r S' => r = (mf_give S t j).1 ∧ S' = (mf_give S t j).2) := by
  refine jo_of K (by decide) rfl (Nat.le_of_ble_eq_true rfl) ?_
  intro p e s m args below meth c O hr hk
  refine ja_aload_n O (q := 1) jd_M_give_0 rfl rfl rfl ?_
  refine ja_iconst O (q := 2) (v := 1) jd_M_give_1 rfl (by decide) ?_
  refine jm_M_128 O (d := 1) ⟨by decide, by decide⟩ (Nat.le_of_ble_eq_true rfl) ⟨by decide, by decide⟩ (co_M_cut K 1) (q := 5) jd_M_give_2 rfl (fun r S' h => ?_)
  obtain ⟨h1, h2⟩ := h
  rw [h1, h2]
  clear h1 h2
  refine ja_if_eq O (g := 11) (q := 8) jd_M_give_5 (by decide) rfl (fun h_5 => ?_) (fun h_5 => ?_)
  · refine ja_aload_n O (q := 12) jd_M_give_11 rfl rfl rfl ?_
    refine jm_M_132 O (d := 1) ⟨by decide, by decide⟩ (Nat.le_of_ble_eq_true rfl) ⟨by decide, by decide⟩ (co_M_fate K (S := (mf_cut S 1).2) n hn (by rw [mf_cut_v rfl rfl rfl rfl]; exact h38)) (q := 15) jd_M_give_12 rfl (fun r S' h => ?_)
    obtain ⟨h1, h2⟩ := h
    rw [h1, h2]
    clear h1 h2
    refine ja_istore_n O (q := 16) jd_M_give_15 rfl rfl (by decide) ?_
    obtain ⟨M2, eM2⟩ : ∃ M2, (if (mf_fate (mf_cut S 1).2).1 = 1 then (mf_fate (mf_cut S 1).2).2 else mf_req (mf_fate (mf_cut S 1).2).2 t j) = M2 := ⟨_, rfl⟩
    refine ja_iload_n O (q := 17) jd_M_give_16 rfl rfl rfl ?_
    refine ja_iconst O (q := 18) (v := 1) jd_M_give_17 rfl (by decide) ?_
    refine ja_icmp_eq O (g := 26) (q := 21) jd_M_give_18 (by decide) rfl (fun h_18 => ?_) (fun h_18 => ?_)
    · have hM2 : (if (mf_fate (mf_cut S 1).2).1 = 1 then (mf_fate (mf_cut S 1).2).2 else mf_req (mf_fate (mf_cut S 1).2).2 t j) = M2 := by
        rw [← eM2]
      have m37 : M2 37 0 = nI k := by
        rw [← eM2]; by_cases z : (mf_fate (mf_cut S 1).2).1 = 1
        · rw [if_pos z, mf_fate_v rfl rfl, mf_cut_v rfl rfl rfl rfl]; exact h37
        · rw [if_neg z, mf_req_v rfl rfl, mf_fate_v rfl rfl, mf_cut_v rfl rfl rfl rfl]; exact h37
      first
      | rw [show (mf_fate (mf_cut S 1).2).2 = M2 from by rw [← eM2, if_pos h_18]]
      | rw [show mf_req (mf_fate (mf_cut S 1).2).2 t j = M2 from by rw [← eM2, if_neg h_18]]
      refine ja_iload_n O (q := 27) jd_M_give_26 rfl rfl rfl ?_
      refine ja_iconst O (q := 28) (v := 1) jd_M_give_27 rfl (by decide) ?_
      refine ja_icmp_eq O (g := 36) (q := 31) jd_M_give_28 (by decide) rfl (fun h_28 => ?_) (fun h_28 => ?_)
      · refine ja_aload_n O (q := 37) jd_M_give_36 rfl rfl rfl ?_
        refine jg_M_42 O (q := 40) jd_M_give_37 rfl ?_
        refine ja_iload_n O (q := 41) jd_M_give_40 rfl rfl rfl ?_
        refine ja_iconst O (q := 42) (v := 4) jd_M_give_41 rfl (by decide) ?_
        refine js_28 O (k := t) rfl (by first | assumption | omega) (q := 43) jd_M_give_42 rfl ?_
        refine ja_aload_n O (q := 44) jd_M_give_43 rfl rfl rfl ?_
        refine ja_iload_n O (q := 45) jd_M_give_44 rfl rfl rfl ?_
        refine ja_aload_n O (q := 46) jd_M_give_45 rfl rfl rfl ?_
        refine jg_M_48 O (q := 49) jd_M_give_46 rfl ?_
        refine ja_iload_n O (q := 50) jd_M_give_49 rfl rfl rfl ?_
        refine jl_30 O (k := t) rfl (by first | assumption | omega) (q := 51) jd_M_give_50 rfl ?_
        refine jm_M_124 O (d := 1) ⟨by decide, by decide⟩ (Nat.le_of_ble_eq_true rfl) ⟨by decide, by decide⟩ (co_M_owe K (S := jb_u M2 53 t 4) k hk9 m37 _ _) (q := 54) jd_M_give_51 rfl (fun S' h => ?_)
        subst h
        refine ja_bipush O (q := 56) (v := (-2)) jd_M_give_54 rfl (by decide) ?_
        exact jo_ir O hr hk (by
            have e7 : mf_give S t j = mf_gv3 (mf_fate (mf_cut S 1).2).1 M2 t := by simp only [mf_give, if_pos h_5, mf_gv2, hM2]
            rw [e7]; simp only [mf_gv3, if_pos (show (mf_fate (mf_cut S 1).2).1 = 1 ∨ (mf_fate (mf_cut S 1).2).1 = 2 from by first | exact Or.inl h_28 | exact Or.inr h_33)]; exact ⟨by first | rfl | trivial, by first | rfl | trivial⟩) jd_M_give_56
      · refine ja_iload_n O (q := 32) jd_M_give_31 rfl rfl rfl ?_
        refine ja_iconst O (q := 33) (v := 2) jd_M_give_32 rfl (by decide) ?_
        refine ja_icmp_ne O (g := 57) (q := 36) jd_M_give_33 (by decide) rfl (fun h_33 => ?_) (fun h_33 => ?_)
        · have q12 : ¬ ((mf_fate (mf_cut S 1).2).1 = 1 ∨ (mf_fate (mf_cut S 1).2).1 = 2) := fun q => q.elim h_28 h_33
          refine ja_aload_n O (q := 58) jd_M_give_57 rfl rfl rfl ?_
          refine jg_M_54 O (q := 61) jd_M_give_58 rfl ?_
          refine ja_iload_n O (q := 62) jd_M_give_61 rfl rfl rfl ?_
          refine jl_32 O (k := t) rfl (by first | assumption | omega) (q := 63) jd_M_give_62 rfl ?_
          refine ja_iconst O (q := 64) (v := 2) jd_M_give_63 rfl (by decide) ?_
          refine ja_icmp_ne O (g := 76) (q := 67) jd_M_give_64 (by decide) rfl (fun h_64 => ?_) (fun h_64 => ?_)
          · refine ja_aload_n O (q := 77) jd_M_give_76 rfl rfl rfl ?_
            refine ja_iconst O (q := 78) (v := 2) jd_M_give_77 rfl (by decide) ?_
            refine jm_M_128 O (d := 1) ⟨by decide, by decide⟩ (Nat.le_of_ble_eq_true rfl) ⟨by decide, by decide⟩ (co_M_cut K 2) (q := 81) jd_M_give_78 rfl (fun r S' h => ?_)
            obtain ⟨h1, h2⟩ := h
            rw [h1, h2]
            clear h1 h2
            refine ja_if_eq O (g := 87) (q := 84) jd_M_give_81 (by decide) rfl (fun h_81 => ?_) (fun h_81 => ?_)
            · refine ja_aload_n O (q := 88) jd_M_give_87 rfl rfl rfl ?_
              refine jg_M_42 O (q := 91) jd_M_give_88 rfl ?_
              refine ja_iload_n O (q := 92) jd_M_give_91 rfl rfl rfl ?_
              refine ja_iconst O (q := 93) (v := 2) jd_M_give_92 rfl (by decide) ?_
              refine js_28 O (k := t) rfl (by first | assumption | omega) (q := 94) jd_M_give_93 rfl ?_
              refine ja_aload_n O (q := 95) jd_M_give_94 rfl rfl rfl ?_
              refine ja_iconst O (q := 96) (v := 3) jd_M_give_95 rfl (by decide) ?_
              refine jm_M_128 O (d := 1) ⟨by decide, by decide⟩ (Nat.le_of_ble_eq_true rfl) ⟨by decide, by decide⟩ (co_M_cut K 3) (q := 99) jd_M_give_96 rfl (fun r S' h => ?_)
              obtain ⟨h1, h2⟩ := h
              rw [h1, h2]
              clear h1 h2
              refine ja_if_eq O (g := 105) (q := 102) jd_M_give_99 (by decide) rfl (fun h_99 => ?_) (fun h_99 => ?_)
              · refine ja_aload_n O (q := 106) jd_M_give_105 rfl rfl rfl ?_
                refine ja_iload_n O (q := 107) jd_M_give_106 rfl rfl rfl ?_
                refine jm_M_140 O (d := 2) ⟨by decide, by decide⟩ (Nat.le_of_ble_eq_true rfl) ⟨by decide, by decide⟩ (co_M_pay K _) (q := 110) jd_M_give_107 rfl (fun S' h => ?_)
                subst h
                refine ja_aload_n O (q := 111) jd_M_give_110 rfl rfl rfl ?_
                refine ja_iconst O (q := 112) (v := 4) jd_M_give_111 rfl (by decide) ?_
                refine jm_M_128 O (d := 1) ⟨by decide, by decide⟩ (Nat.le_of_ble_eq_true rfl) ⟨by decide, by decide⟩ (co_M_cut K 4) (q := 115) jd_M_give_112 rfl (fun r S' h => ?_)
                obtain ⟨h1, h2⟩ := h
                rw [h1, h2]
                clear h1 h2
                refine ja_if_eq O (g := 121) (q := 118) jd_M_give_115 (by decide) rfl (fun h_115 => ?_) (fun h_115 => ?_)
                · refine ja_aload_n O (q := 122) jd_M_give_121 rfl rfl rfl ?_
                  refine ja_iload_n O (q := 123) jd_M_give_122 rfl rfl rfl ?_
                  refine ja_aload_n O (q := 124) jd_M_give_123 rfl rfl rfl ?_
                  refine jg_M_118 O (q := 127) jd_M_give_124 rfl ?_
                  refine jm_M_143 O (d := 2) ⟨by decide, by decide⟩ (Nat.le_of_ble_eq_true rfl) ⟨by decide, by decide⟩ (co_M_finish K (S := (mf_cut (mf_pay (mf_cut (jb_u (mf_cut M2 2).2 53 t 2) 3).2 (nI t)) 4).2) t k ht hk9 (by rw [mf_cut_v rfl rfl rfl rfl, mf_pay_v rfl rfl rfl rfl rfl, mf_cut_v rfl rfl rfl rfl]; show (mf_cut M2 2).2 37 0 = _; rw [mf_cut_v rfl rfl rfl rfl]; exact m37) _) (q := 130) jd_M_give_127 rfl (fun S' h => ?_)
                  subst h
                  refine ja_aload_n O (q := 131) jd_M_give_130 rfl rfl rfl ?_
                  refine jg_M_118 O (q := 134) jd_M_give_131 rfl ?_
                  exact jo_ir O hr hk (by
                      have e7 : mf_give S t j = mf_gv3 (mf_fate (mf_cut S 1).2).1 M2 t := by simp only [mf_give, if_pos h_5, mf_gv2, hM2]
                      rw [e7]; simp only [mf_gv3, if_neg q12, if_neg (show ¬ M2 57 t = 2 from h_64), if_pos h_81, mf_gv4, if_pos h_99, mf_gv5, if_pos h_115]; exact ⟨by first | rfl | trivial, by first | rfl | trivial⟩) jd_M_give_134
                · refine ja_bipush O (q := 120) (v := (-3)) jd_M_give_118 rfl (by decide) ?_
                  exact jo_ir O hr hk (by
                      have e7 : mf_give S t j = mf_gv3 (mf_fate (mf_cut S 1).2).1 M2 t := by simp only [mf_give, if_pos h_5, mf_gv2, hM2]
                      rw [e7]; simp only [mf_gv3, if_neg q12, if_neg (show ¬ M2 57 t = 2 from h_64), if_pos h_81, mf_gv4, if_pos h_99, mf_gv5, if_neg h_115]; exact ⟨by first | rfl | trivial, by first | rfl | trivial⟩) jd_M_give_120
              · refine ja_bipush O (q := 104) (v := (-3)) jd_M_give_102 rfl (by decide) ?_
                exact jo_ir O hr hk (by
                    have e7 : mf_give S t j = mf_gv3 (mf_fate (mf_cut S 1).2).1 M2 t := by simp only [mf_give, if_pos h_5, mf_gv2, hM2]
                    rw [e7]; simp only [mf_gv3, if_neg q12, if_neg (show ¬ M2 57 t = 2 from h_64), if_pos h_81, mf_gv4, if_neg h_99]; exact ⟨by first | rfl | trivial, by first | rfl | trivial⟩) jd_M_give_104
            · refine ja_bipush O (q := 86) (v := (-3)) jd_M_give_84 rfl (by decide) ?_
              exact jo_ir O hr hk (by
                  have e7 : mf_give S t j = mf_gv3 (mf_fate (mf_cut S 1).2).1 M2 t := by simp only [mf_give, if_pos h_5, mf_gv2, hM2]
                  rw [e7]; simp only [mf_gv3, if_neg q12, if_neg (show ¬ M2 57 t = 2 from h_64), if_neg h_81]; exact ⟨by first | rfl | trivial, by first | rfl | trivial⟩) jd_M_give_86
          · refine ja_aload_n O (q := 68) jd_M_give_67 rfl rfl rfl ?_
            refine jg_M_42 O (q := 71) jd_M_give_68 rfl ?_
            refine ja_iload_n O (q := 72) jd_M_give_71 rfl rfl rfl ?_
            refine ja_iconst O (q := 73) (v := 4) jd_M_give_72 rfl (by decide) ?_
            refine js_28 O (k := t) rfl (by first | assumption | omega) (q := 74) jd_M_give_73 rfl ?_
            refine ja_iconst O (q := 75) (v := (-1)) jd_M_give_74 rfl (by decide) ?_
            exact jo_ir O hr hk (by
                have e7 : mf_give S t j = mf_gv3 (mf_fate (mf_cut S 1).2).1 M2 t := by simp only [mf_give, if_pos h_5, mf_gv2, hM2]
                rw [e7]; simp only [mf_gv3, if_neg q12, if_pos (show M2 57 t = 2 from h_64)]; exact ⟨by first | rfl | trivial, by first | rfl | trivial⟩) jd_M_give_75
        · refine ja_aload_n O (q := 37) jd_M_give_36 rfl rfl rfl ?_
          refine jg_M_42 O (q := 40) jd_M_give_37 rfl ?_
          refine ja_iload_n O (q := 41) jd_M_give_40 rfl rfl rfl ?_
          refine ja_iconst O (q := 42) (v := 4) jd_M_give_41 rfl (by decide) ?_
          refine js_28 O (k := t) rfl (by first | assumption | omega) (q := 43) jd_M_give_42 rfl ?_
          refine ja_aload_n O (q := 44) jd_M_give_43 rfl rfl rfl ?_
          refine ja_iload_n O (q := 45) jd_M_give_44 rfl rfl rfl ?_
          refine ja_aload_n O (q := 46) jd_M_give_45 rfl rfl rfl ?_
          refine jg_M_48 O (q := 49) jd_M_give_46 rfl ?_
          refine ja_iload_n O (q := 50) jd_M_give_49 rfl rfl rfl ?_
          refine jl_30 O (k := t) rfl (by first | assumption | omega) (q := 51) jd_M_give_50 rfl ?_
          refine jm_M_124 O (d := 1) ⟨by decide, by decide⟩ (Nat.le_of_ble_eq_true rfl) ⟨by decide, by decide⟩ (co_M_owe K (S := jb_u M2 53 t 4) k hk9 m37 _ _) (q := 54) jd_M_give_51 rfl (fun S' h => ?_)
          subst h
          refine ja_bipush O (q := 56) (v := (-2)) jd_M_give_54 rfl (by decide) ?_
          exact jo_ir O hr hk (by
              have e7 : mf_give S t j = mf_gv3 (mf_fate (mf_cut S 1).2).1 M2 t := by simp only [mf_give, if_pos h_5, mf_gv2, hM2]
              rw [e7]; simp only [mf_gv3, if_pos (show (mf_fate (mf_cut S 1).2).1 = 1 ∨ (mf_fate (mf_cut S 1).2).1 = 2 from by first | exact Or.inl h_28 | exact Or.inr h_33)]; exact ⟨by first | rfl | trivial, by first | rfl | trivial⟩) jd_M_give_56
    · refine ja_aload_n O (q := 22) jd_M_give_21 rfl rfl rfl ?_
      refine ja_iload_n O (q := 23) jd_M_give_22 rfl rfl rfl ?_
      refine jm_M_136 O (d := 1) ⟨by decide, by decide⟩ (Nat.le_of_ble_eq_true rfl) ⟨by decide, by decide⟩ (co_M_request K (S := (mf_fate (mf_cut S 1).2).2) t j ht hj (by rw [mf_fate_v rfl rfl, mf_cut_v rfl rfl rfl rfl]; exact h54)) (q := 26) jd_M_give_23 rfl (fun S' h => ?_)
      subst h
      have hM2 : (if (mf_fate (mf_cut S 1).2).1 = 1 then (mf_fate (mf_cut S 1).2).2 else mf_req (mf_fate (mf_cut S 1).2).2 t j) = M2 := by
        rw [← eM2]
      have m37 : M2 37 0 = nI k := by
        rw [← eM2]; by_cases z : (mf_fate (mf_cut S 1).2).1 = 1
        · rw [if_pos z, mf_fate_v rfl rfl, mf_cut_v rfl rfl rfl rfl]; exact h37
        · rw [if_neg z, mf_req_v rfl rfl, mf_fate_v rfl rfl, mf_cut_v rfl rfl rfl rfl]; exact h37
      first
      | rw [show (mf_fate (mf_cut S 1).2).2 = M2 from by rw [← eM2, if_pos h_18]]
      | rw [show mf_req (mf_fate (mf_cut S 1).2).2 t j = M2 from by rw [← eM2, if_neg h_18]]
      refine ja_iload_n O (q := 27) jd_M_give_26 rfl rfl rfl ?_
      refine ja_iconst O (q := 28) (v := 1) jd_M_give_27 rfl (by decide) ?_
      refine ja_icmp_eq O (g := 36) (q := 31) jd_M_give_28 (by decide) rfl (fun h_28 => ?_) (fun h_28 => ?_)
      · refine ja_aload_n O (q := 37) jd_M_give_36 rfl rfl rfl ?_
        refine jg_M_42 O (q := 40) jd_M_give_37 rfl ?_
        refine ja_iload_n O (q := 41) jd_M_give_40 rfl rfl rfl ?_
        refine ja_iconst O (q := 42) (v := 4) jd_M_give_41 rfl (by decide) ?_
        refine js_28 O (k := t) rfl (by first | assumption | omega) (q := 43) jd_M_give_42 rfl ?_
        refine ja_aload_n O (q := 44) jd_M_give_43 rfl rfl rfl ?_
        refine ja_iload_n O (q := 45) jd_M_give_44 rfl rfl rfl ?_
        refine ja_aload_n O (q := 46) jd_M_give_45 rfl rfl rfl ?_
        refine jg_M_48 O (q := 49) jd_M_give_46 rfl ?_
        refine ja_iload_n O (q := 50) jd_M_give_49 rfl rfl rfl ?_
        refine jl_30 O (k := t) rfl (by first | assumption | omega) (q := 51) jd_M_give_50 rfl ?_
        refine jm_M_124 O (d := 1) ⟨by decide, by decide⟩ (Nat.le_of_ble_eq_true rfl) ⟨by decide, by decide⟩ (co_M_owe K (S := jb_u M2 53 t 4) k hk9 m37 _ _) (q := 54) jd_M_give_51 rfl (fun S' h => ?_)
        subst h
        refine ja_bipush O (q := 56) (v := (-2)) jd_M_give_54 rfl (by decide) ?_
        exact jo_ir O hr hk (by
            have e7 : mf_give S t j = mf_gv3 (mf_fate (mf_cut S 1).2).1 M2 t := by simp only [mf_give, if_pos h_5, mf_gv2, hM2]
            rw [e7]; simp only [mf_gv3, if_pos (show (mf_fate (mf_cut S 1).2).1 = 1 ∨ (mf_fate (mf_cut S 1).2).1 = 2 from by first | exact Or.inl h_28 | exact Or.inr h_33)]; exact ⟨by first | rfl | trivial, by first | rfl | trivial⟩) jd_M_give_56
      · refine ja_iload_n O (q := 32) jd_M_give_31 rfl rfl rfl ?_
        refine ja_iconst O (q := 33) (v := 2) jd_M_give_32 rfl (by decide) ?_
        refine ja_icmp_ne O (g := 57) (q := 36) jd_M_give_33 (by decide) rfl (fun h_33 => ?_) (fun h_33 => ?_)
        · have q12 : ¬ ((mf_fate (mf_cut S 1).2).1 = 1 ∨ (mf_fate (mf_cut S 1).2).1 = 2) := fun q => q.elim h_28 h_33
          refine ja_aload_n O (q := 58) jd_M_give_57 rfl rfl rfl ?_
          refine jg_M_54 O (q := 61) jd_M_give_58 rfl ?_
          refine ja_iload_n O (q := 62) jd_M_give_61 rfl rfl rfl ?_
          refine jl_32 O (k := t) rfl (by first | assumption | omega) (q := 63) jd_M_give_62 rfl ?_
          refine ja_iconst O (q := 64) (v := 2) jd_M_give_63 rfl (by decide) ?_
          refine ja_icmp_ne O (g := 76) (q := 67) jd_M_give_64 (by decide) rfl (fun h_64 => ?_) (fun h_64 => ?_)
          · refine ja_aload_n O (q := 77) jd_M_give_76 rfl rfl rfl ?_
            refine ja_iconst O (q := 78) (v := 2) jd_M_give_77 rfl (by decide) ?_
            refine jm_M_128 O (d := 1) ⟨by decide, by decide⟩ (Nat.le_of_ble_eq_true rfl) ⟨by decide, by decide⟩ (co_M_cut K 2) (q := 81) jd_M_give_78 rfl (fun r S' h => ?_)
            obtain ⟨h1, h2⟩ := h
            rw [h1, h2]
            clear h1 h2
            refine ja_if_eq O (g := 87) (q := 84) jd_M_give_81 (by decide) rfl (fun h_81 => ?_) (fun h_81 => ?_)
            · refine ja_aload_n O (q := 88) jd_M_give_87 rfl rfl rfl ?_
              refine jg_M_42 O (q := 91) jd_M_give_88 rfl ?_
              refine ja_iload_n O (q := 92) jd_M_give_91 rfl rfl rfl ?_
              refine ja_iconst O (q := 93) (v := 2) jd_M_give_92 rfl (by decide) ?_
              refine js_28 O (k := t) rfl (by first | assumption | omega) (q := 94) jd_M_give_93 rfl ?_
              refine ja_aload_n O (q := 95) jd_M_give_94 rfl rfl rfl ?_
              refine ja_iconst O (q := 96) (v := 3) jd_M_give_95 rfl (by decide) ?_
              refine jm_M_128 O (d := 1) ⟨by decide, by decide⟩ (Nat.le_of_ble_eq_true rfl) ⟨by decide, by decide⟩ (co_M_cut K 3) (q := 99) jd_M_give_96 rfl (fun r S' h => ?_)
              obtain ⟨h1, h2⟩ := h
              rw [h1, h2]
              clear h1 h2
              refine ja_if_eq O (g := 105) (q := 102) jd_M_give_99 (by decide) rfl (fun h_99 => ?_) (fun h_99 => ?_)
              · refine ja_aload_n O (q := 106) jd_M_give_105 rfl rfl rfl ?_
                refine ja_iload_n O (q := 107) jd_M_give_106 rfl rfl rfl ?_
                refine jm_M_140 O (d := 2) ⟨by decide, by decide⟩ (Nat.le_of_ble_eq_true rfl) ⟨by decide, by decide⟩ (co_M_pay K _) (q := 110) jd_M_give_107 rfl (fun S' h => ?_)
                subst h
                refine ja_aload_n O (q := 111) jd_M_give_110 rfl rfl rfl ?_
                refine ja_iconst O (q := 112) (v := 4) jd_M_give_111 rfl (by decide) ?_
                refine jm_M_128 O (d := 1) ⟨by decide, by decide⟩ (Nat.le_of_ble_eq_true rfl) ⟨by decide, by decide⟩ (co_M_cut K 4) (q := 115) jd_M_give_112 rfl (fun r S' h => ?_)
                obtain ⟨h1, h2⟩ := h
                rw [h1, h2]
                clear h1 h2
                refine ja_if_eq O (g := 121) (q := 118) jd_M_give_115 (by decide) rfl (fun h_115 => ?_) (fun h_115 => ?_)
                · refine ja_aload_n O (q := 122) jd_M_give_121 rfl rfl rfl ?_
                  refine ja_iload_n O (q := 123) jd_M_give_122 rfl rfl rfl ?_
                  refine ja_aload_n O (q := 124) jd_M_give_123 rfl rfl rfl ?_
                  refine jg_M_118 O (q := 127) jd_M_give_124 rfl ?_
                  refine jm_M_143 O (d := 2) ⟨by decide, by decide⟩ (Nat.le_of_ble_eq_true rfl) ⟨by decide, by decide⟩ (co_M_finish K (S := (mf_cut (mf_pay (mf_cut (jb_u (mf_cut M2 2).2 53 t 2) 3).2 (nI t)) 4).2) t k ht hk9 (by rw [mf_cut_v rfl rfl rfl rfl, mf_pay_v rfl rfl rfl rfl rfl, mf_cut_v rfl rfl rfl rfl]; show (mf_cut M2 2).2 37 0 = _; rw [mf_cut_v rfl rfl rfl rfl]; exact m37) _) (q := 130) jd_M_give_127 rfl (fun S' h => ?_)
                  subst h
                  refine ja_aload_n O (q := 131) jd_M_give_130 rfl rfl rfl ?_
                  refine jg_M_118 O (q := 134) jd_M_give_131 rfl ?_
                  exact jo_ir O hr hk (by
                      have e7 : mf_give S t j = mf_gv3 (mf_fate (mf_cut S 1).2).1 M2 t := by simp only [mf_give, if_pos h_5, mf_gv2, hM2]
                      rw [e7]; simp only [mf_gv3, if_neg q12, if_neg (show ¬ M2 57 t = 2 from h_64), if_pos h_81, mf_gv4, if_pos h_99, mf_gv5, if_pos h_115]; exact ⟨by first | rfl | trivial, by first | rfl | trivial⟩) jd_M_give_134
                · refine ja_bipush O (q := 120) (v := (-3)) jd_M_give_118 rfl (by decide) ?_
                  exact jo_ir O hr hk (by
                      have e7 : mf_give S t j = mf_gv3 (mf_fate (mf_cut S 1).2).1 M2 t := by simp only [mf_give, if_pos h_5, mf_gv2, hM2]
                      rw [e7]; simp only [mf_gv3, if_neg q12, if_neg (show ¬ M2 57 t = 2 from h_64), if_pos h_81, mf_gv4, if_pos h_99, mf_gv5, if_neg h_115]; exact ⟨by first | rfl | trivial, by first | rfl | trivial⟩) jd_M_give_120
              · refine ja_bipush O (q := 104) (v := (-3)) jd_M_give_102 rfl (by decide) ?_
                exact jo_ir O hr hk (by
                    have e7 : mf_give S t j = mf_gv3 (mf_fate (mf_cut S 1).2).1 M2 t := by simp only [mf_give, if_pos h_5, mf_gv2, hM2]
                    rw [e7]; simp only [mf_gv3, if_neg q12, if_neg (show ¬ M2 57 t = 2 from h_64), if_pos h_81, mf_gv4, if_neg h_99]; exact ⟨by first | rfl | trivial, by first | rfl | trivial⟩) jd_M_give_104
            · refine ja_bipush O (q := 86) (v := (-3)) jd_M_give_84 rfl (by decide) ?_
              exact jo_ir O hr hk (by
                  have e7 : mf_give S t j = mf_gv3 (mf_fate (mf_cut S 1).2).1 M2 t := by simp only [mf_give, if_pos h_5, mf_gv2, hM2]
                  rw [e7]; simp only [mf_gv3, if_neg q12, if_neg (show ¬ M2 57 t = 2 from h_64), if_neg h_81]; exact ⟨by first | rfl | trivial, by first | rfl | trivial⟩) jd_M_give_86
          · refine ja_aload_n O (q := 68) jd_M_give_67 rfl rfl rfl ?_
            refine jg_M_42 O (q := 71) jd_M_give_68 rfl ?_
            refine ja_iload_n O (q := 72) jd_M_give_71 rfl rfl rfl ?_
            refine ja_iconst O (q := 73) (v := 4) jd_M_give_72 rfl (by decide) ?_
            refine js_28 O (k := t) rfl (by first | assumption | omega) (q := 74) jd_M_give_73 rfl ?_
            refine ja_iconst O (q := 75) (v := (-1)) jd_M_give_74 rfl (by decide) ?_
            exact jo_ir O hr hk (by
                have e7 : mf_give S t j = mf_gv3 (mf_fate (mf_cut S 1).2).1 M2 t := by simp only [mf_give, if_pos h_5, mf_gv2, hM2]
                rw [e7]; simp only [mf_gv3, if_neg q12, if_pos (show M2 57 t = 2 from h_64)]; exact ⟨by first | rfl | trivial, by first | rfl | trivial⟩) jd_M_give_75
        · refine ja_aload_n O (q := 37) jd_M_give_36 rfl rfl rfl ?_
          refine jg_M_42 O (q := 40) jd_M_give_37 rfl ?_
          refine ja_iload_n O (q := 41) jd_M_give_40 rfl rfl rfl ?_
          refine ja_iconst O (q := 42) (v := 4) jd_M_give_41 rfl (by decide) ?_
          refine js_28 O (k := t) rfl (by first | assumption | omega) (q := 43) jd_M_give_42 rfl ?_
          refine ja_aload_n O (q := 44) jd_M_give_43 rfl rfl rfl ?_
          refine ja_iload_n O (q := 45) jd_M_give_44 rfl rfl rfl ?_
          refine ja_aload_n O (q := 46) jd_M_give_45 rfl rfl rfl ?_
          refine jg_M_48 O (q := 49) jd_M_give_46 rfl ?_
          refine ja_iload_n O (q := 50) jd_M_give_49 rfl rfl rfl ?_
          refine jl_30 O (k := t) rfl (by first | assumption | omega) (q := 51) jd_M_give_50 rfl ?_
          refine jm_M_124 O (d := 1) ⟨by decide, by decide⟩ (Nat.le_of_ble_eq_true rfl) ⟨by decide, by decide⟩ (co_M_owe K (S := jb_u M2 53 t 4) k hk9 m37 _ _) (q := 54) jd_M_give_51 rfl (fun S' h => ?_)
          subst h
          refine ja_bipush O (q := 56) (v := (-2)) jd_M_give_54 rfl (by decide) ?_
          exact jo_ir O hr hk (by
              have e7 : mf_give S t j = mf_gv3 (mf_fate (mf_cut S 1).2).1 M2 t := by simp only [mf_give, if_pos h_5, mf_gv2, hM2]
              rw [e7]; simp only [mf_gv3, if_pos (show (mf_fate (mf_cut S 1).2).1 = 1 ∨ (mf_fate (mf_cut S 1).2).1 = 2 from by first | exact Or.inl h_28 | exact Or.inr h_33)]; exact ⟨by first | rfl | trivial, by first | rfl | trivial⟩) jd_M_give_56
  · refine ja_bipush O (q := 10) (v := (-3)) jd_M_give_8 rfl (by decide) ?_
    exact jo_ir O hr hk (by simp only [mf_give, if_neg h_5]; exact ⟨by first | rfl | trivial, by first | rfl | trivial⟩) jd_M_give_10
set_option maxRecDepth 100000 in
theorem co_M_withdraw {l : Launch} {s0 : State} {a0 : Array Value} {G : jb_Gt} {ad : Nat → Nat} (K : jo_G s0 a0 G ad) {S : ja_S} (b : Int32) (v n9 : Nat → Nat) (hK : jm_KM S v n9) (t n k j : Nat) (ht : t ≤ 40) (h36 : S 36 0 = nI t) (hn : n ≤ 8) (h38 : S 38 0 = nI n) (h37 : S 37 0 = nI k) (hk9 : k < 80) (hj : j < 8) (hs : S 34 0 < 0 ∨ S 34 0 = nI j) : jo_C l s0 G ad jy_M_withdraw jc_M_withdraw 2 (some .int) 6 [.ref (ad 7), .int b] S (jo_i fun r S' => ∃ g x, ((¬ S 34 0 < 0 ∧ ¬ S 35 0 = 0) ∧ jp_in b 1 5000 → cq_fd v n9 b.toNatClampNeg g x) ∧ jo_rs (mp_wd S t j b g x) r S') := by
  refine jo_of K (by decide) rfl (Nat.le_of_ble_eq_true rfl) ?_
  intro p e s m args below meth c O hr hk
  refine ja_aload_n O (q := 1) jd_M_withdraw_0 rfl rfl rfl ?_
  refine ja_iconst O (q := 2) (v := 0) jd_M_withdraw_1 rfl (by decide) ?_
  refine jp_M_72 O (q := 5) jd_M_withdraw_2 rfl ?_
  refine ja_aload_n O (q := 6) jd_M_withdraw_5 rfl rfl rfl ?_
  refine jg_M_38 O (q := 9) jd_M_withdraw_6 rfl ?_
  refine ja_if_lt O (g := 19) (q := 12) jd_M_withdraw_9 (by decide) rfl (fun h_9 => ?_) (fun h_9 => ?_)
  · refine ja_aload_n O (q := 20) jd_M_withdraw_19 rfl rfl rfl ?_
    refine ja_iconst O (q := 21) (v := 1) jd_M_withdraw_20 rfl (by decide) ?_
    refine jm_M_80 O (d := 1) ⟨by decide, by decide⟩ (Nat.le_of_ble_eq_true rfl) ⟨by decide, by decide⟩ (co_M_fail K 1) (q := 24) jd_M_withdraw_21 rfl (fun r S' h => ?_)
    obtain ⟨rfl, rfl⟩ := h
    exact jo_ir O hr hk (by
        have q : ¬ (¬ S 34 0 < 0 ∧ ¬ S 35 0 = 0) := by first | exact fun q => q.1 h_9 | exact fun q => q.2 h_16
        exact ⟨S 52, true, fun hb => absurd hb.1 q, by simp only [jo_rs, mp_wd, if_neg q]; exact ⟨by first | rfl | trivial, by first | rfl | trivial⟩⟩) jd_M_withdraw_24
  · refine ja_aload_n O (q := 13) jd_M_withdraw_12 rfl rfl rfl ?_
    refine jg_M_88 O (q := 16) jd_M_withdraw_13 rfl ?_
    refine ja_if_ne O (g := 25) (q := 19) jd_M_withdraw_16 (by decide) rfl (fun h_16 => ?_) (fun h_16 => ?_)
    · have i4 : ¬ S 34 0 < 0 ∧ ¬ S 35 0 = 0 := ⟨h_9, h_16⟩
      have hs1 := hs.resolve_left h_9
      refine ja_iload_n O (q := 26) jd_M_withdraw_25 rfl rfl rfl ?_
      refine ja_iconst O (q := 27) (v := 1) jd_M_withdraw_26 rfl (by decide) ?_
      refine ja_sipush O (q := 30) (v := 5000) jd_M_withdraw_27 rfl (by decide) ?_
      refine jm_M_75 O (d := 1) ⟨by decide, by decide⟩ (Nat.le_of_ble_eq_true rfl) ⟨by decide, by decide⟩ (co_M_in K b 1 5000) (q := 33) jd_M_withdraw_30 rfl (fun r S' h => ?_)
      obtain ⟨rfl, -, hin_30⟩ := h
      refine ja_if_ne O (g := 42) (q := 36) jd_M_withdraw_33 (by decide) rfl (fun h_33 => ?_) (fun h_33 => ?_)
      · have i2 := jp_no hin_30 h_33
        obtain ⟨A, hA1, hA, rfl⟩ := jp_15 i2
        have hcA : (nI A).toNatClampNeg = A := nI_clamp (by omega)
        refine ja_aload_n O (q := 43) jd_M_withdraw_42 rfl rfl rfl ?_
        refine ja_iload_n O (q := 44) jd_M_withdraw_43 rfl rfl rfl ?_
        refine jm_M_146 O (d := 4) ⟨by decide, by decide⟩ (Nat.le_of_ble_eq_true rfl) ⟨by decide, by decide⟩ (co_M_mixed K (S := mk_z S) v n9 A hA hK) (q := 47) jd_M_withdraw_44 rfl (fun r S' h => ?_)
        obtain ⟨g, rfl, hfd⟩ := h
        have hfd2 := jp_fdB hfd
        have hr01 : r = 0 ∨ r = 1 := hfd.elim (fun z => Or.inr z.1) (fun z => Or.inl z.1)
        refine ja_if_ne O (g := 56) (q := 50) jd_M_withdraw_47 (by decide) rfl (fun h_47 => ?_) (fun h_47 => ?_)
        · have e1 := hr01.resolve_left h_47
          subst e1
          refine ja_aload_n O (q := 57) jd_M_withdraw_56 rfl rfl rfl ?_
          refine jg_M_149 O (q := 60) jd_M_withdraw_57 rfl ?_
          refine ja_bipush O (q := 62) (v := 40) jd_M_withdraw_60 rfl (by decide) ?_
          refine ja_icmp_ne O (g := 71) (q := 65) jd_M_withdraw_62 (by decide) rfl (fun h_62 => ?_) (fun h_62 => ?_)
          · have i9 : ¬ S 36 0 = 40 := h_62
            have ht9 : t < 40 := by
              rcases Nat.lt_or_ge t 40 with z | z
              · exact z
              · exact absurd (show S 36 0 = 40 by rw [h36, show t = 40 by omega]; rfl) i9
            refine ja_aload_n O (q := 72) jd_M_withdraw_71 rfl rfl rfl ?_
            refine ja_dup O (q := 73) jd_M_withdraw_72 rfl rfl ?_
            refine jg_M_149 O (q := 76) jd_M_withdraw_73 rfl ?_
            refine ja_iconst O (q := 77) (v := 1) jd_M_withdraw_76 rfl (by decide) ?_
            refine ja_iadd O (q := 78) jd_M_withdraw_77 rfl ?_
            refine jp_M_149 O (q := 81) jd_M_withdraw_78 rfl ?_
            rw [show jb_sv (mk_z S) 52 g 36 0 + 1 = nI (t + 1) from by show S 36 0 + 1 = _; rw [h36, nI_1]]
            refine ja_aload_n O (q := 82) jd_M_withdraw_81 rfl rfl rfl ?_
            refine jg_M_42 O (q := 85) jd_M_withdraw_82 rfl ?_
            refine ja_aload_n O (q := 86) jd_M_withdraw_85 rfl rfl rfl ?_
            refine jg_M_149 O (q := 89) jd_M_withdraw_86 rfl ?_
            refine ja_iconst O (q := 90) (v := 1) jd_M_withdraw_89 rfl (by decide) ?_
            refine js_28 O (k := t + 1) rfl (by first | assumption | omega) (q := 91) jd_M_withdraw_90 rfl ?_
            refine ja_aload_n O (q := 92) jd_M_withdraw_91 rfl rfl rfl ?_
            refine jg_M_45 O (q := 95) jd_M_withdraw_92 rfl ?_
            refine ja_aload_n O (q := 96) jd_M_withdraw_95 rfl rfl rfl ?_
            refine jg_M_149 O (q := 99) jd_M_withdraw_96 rfl ?_
            refine ja_aload_n O (q := 100) jd_M_withdraw_99 rfl rfl rfl ?_
            refine jg_M_38 O (q := 103) jd_M_withdraw_100 rfl ?_
            refine js_29 O (k := t + 1) rfl (by first | assumption | omega) (q := 104) jd_M_withdraw_103 rfl ?_
            refine ja_aload_n O (q := 105) jd_M_withdraw_104 rfl rfl rfl ?_
            refine jg_M_48 O (q := 108) jd_M_withdraw_105 rfl ?_
            refine ja_aload_n O (q := 109) jd_M_withdraw_108 rfl rfl rfl ?_
            refine jg_M_149 O (q := 112) jd_M_withdraw_109 rfl ?_
            refine ja_iload_n O (q := 113) jd_M_withdraw_112 rfl rfl rfl ?_
            refine js_30 O (k := t + 1) rfl (by first | assumption | omega) (q := 114) jd_M_withdraw_113 rfl ?_
            refine (show ja_V p l e (jo_r 6) s m args below meth c (jb_W G ad) s0.heap.size 2 0 0 _ (jb_u (jb_u (jb_u (jb_u (jb_sv (mk_z S) 52 g) 36 0 (nI (t + 1))) 53 (t + 1) 1) 54 (t + 1) (S 34 0)) 55 (t + 1) (nI A)) 114 _ _ from ?_)
            rw [hs1]
            refine (show ja_V p l e (jo_r 6) s m args below meth c (jb_W G ad) s0.heap.size 2 0 0 _ (mf_beg (jb_sv (mk_z S) 52 g) t j (nI A)) 114 _ _ from ?_)
            refine ja_aload_n O (q := 115) jd_M_withdraw_114 rfl rfl rfl ?_
            refine ja_aload_n O (q := 116) jd_M_withdraw_115 rfl rfl rfl ?_
            refine jg_M_149 O (q := 119) jd_M_withdraw_116 rfl ?_
            refine jm_M_152 O (d := 3) ⟨by decide, by decide⟩ (Nat.le_of_ble_eq_true rfl) ⟨by decide, by decide⟩ (co_M_give K (S := mf_beg (jb_sv (mk_z S) 52 g) t j (nI A)) (t + 1) j n k (by omega) hj (by show upd _ (t + 1) (nI j) (t + 1) = _; rw [pk_us]) hn h38 hk9 h37) (q := 122) jd_M_withdraw_119 rfl (fun r S' h => ?_)
            obtain ⟨h1, h2⟩ := h
            rw [h1, h2]
            clear h1 h2
            exact jo_ir O hr hk (by exact ⟨g, true, fun _ => by rw [hcA]; exact hfd2, by simp only [jo_rs, mp_wd, if_pos i4, if_pos i2, if_neg i9]; exact ⟨by first | rfl | trivial, by first | rfl | trivial⟩⟩) jd_M_withdraw_122
          · refine ja_aload_n O (q := 66) jd_M_withdraw_65 rfl rfl rfl ?_
            refine ja_iconst O (q := 67) (v := 4) jd_M_withdraw_66 rfl (by decide) ?_
            refine jm_M_80 O (d := 1) ⟨by decide, by decide⟩ (Nat.le_of_ble_eq_true rfl) ⟨by decide, by decide⟩ (co_M_fail K 4) (q := 70) jd_M_withdraw_67 rfl (fun r S' h => ?_)
            obtain ⟨rfl, rfl⟩ := h
            exact jo_ir O hr hk (by exact ⟨g, true, fun _ => by rw [hcA]; exact hfd2, by simp only [jo_rs, mp_wd, if_pos i4, if_pos i2, if_pos (show S 36 0 = 40 from h_62)]; exact ⟨by first | rfl | trivial, by first | rfl | trivial⟩⟩) jd_M_withdraw_70
        · refine ja_aload_n O (q := 51) jd_M_withdraw_50 rfl rfl rfl ?_
          refine ja_iconst O (q := 52) (v := 3) jd_M_withdraw_51 rfl (by decide) ?_
          refine jm_M_80 O (d := 1) ⟨by decide, by decide⟩ (Nat.le_of_ble_eq_true rfl) ⟨by decide, by decide⟩ (co_M_fail K 3) (q := 55) jd_M_withdraw_52 rfl (fun r S' h => ?_)
          obtain ⟨rfl, rfl⟩ := h
          exact jo_ir O hr hk (by
              subst h_47
              exact ⟨g, false, fun _ => by rw [hcA]; exact hfd2, by simp only [jo_rs, mp_wd, if_pos i4, if_pos i2]; exact ⟨by first | rfl | trivial, by first | rfl | trivial⟩⟩) jd_M_withdraw_55
      · refine ja_aload_n O (q := 37) jd_M_withdraw_36 rfl rfl rfl ?_
        refine ja_iconst O (q := 38) (v := 2) jd_M_withdraw_37 rfl (by decide) ?_
        refine jm_M_80 O (d := 1) ⟨by decide, by decide⟩ (Nat.le_of_ble_eq_true rfl) ⟨by decide, by decide⟩ (co_M_fail K 2) (q := 41) jd_M_withdraw_38 rfl (fun r S' h => ?_)
        obtain ⟨rfl, rfl⟩ := h
        exact jo_ir O hr hk (by
            have q := hin_30.mp h_33
            exact ⟨S 52, true, fun hb => absurd hb.2 q, by simp only [jo_rs, mp_wd, if_pos i4, if_neg q]; exact ⟨by first | rfl | trivial, by first | rfl | trivial⟩⟩) jd_M_withdraw_41
    · refine ja_aload_n O (q := 20) jd_M_withdraw_19 rfl rfl rfl ?_
      refine ja_iconst O (q := 21) (v := 1) jd_M_withdraw_20 rfl (by decide) ?_
      refine jm_M_80 O (d := 1) ⟨by decide, by decide⟩ (Nat.le_of_ble_eq_true rfl) ⟨by decide, by decide⟩ (co_M_fail K 1) (q := 24) jd_M_withdraw_21 rfl (fun r S' h => ?_)
      obtain ⟨rfl, rfl⟩ := h
      exact jo_ir O hr hk (by
          have q : ¬ (¬ S 34 0 < 0 ∧ ¬ S 35 0 = 0) := by first | exact fun q => q.1 h_9 | exact fun q => q.2 h_16
          exact ⟨S 52, true, fun hb => absurd hb.1 q, by simp only [jo_rs, mp_wd, if_neg q]; exact ⟨by first | rfl | trivial, by first | rfl | trivial⟩⟩) jd_M_withdraw_24
