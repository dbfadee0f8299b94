/-! CONTRACTS of the reference, by program (wip/whole/gen/p25.py): settle -/
def mf_D (Y : ja_S) (q : Nat) : ja_S := jb_sv (jb_sv Y 59 (mf_dn (Y 59) q)) 60 (mf_dn (Y 60) q)
theorem mf_D0 {Y : ja_S} : mf_D Y 0 = Y := by
  unfold mf_D; rw [mf_dn0, mf_dn0]
  rw [jb_svs (S := Y) (v := 59)]
  exact jb_svs
theorem mf_DS {Y : ja_S} {q : Nat} : jb_u (jb_u (mf_D Y q) 59 q (mf_dn (Y 59) q (q + 1))) 60 q (mf_dn (Y 60) q (q + 1)) = mf_D Y (q + 1) := by
  show jb_sv (jb_sv (jb_sv (jb_sv Y 59 (mf_dn (Y 59) q)) 60 (mf_dn (Y 60) q)) 59 (upd (mf_dn (Y 59) q) q (mf_dn (Y 59) q (q + 1)))) 60 (upd (mf_dn (Y 60) q) q (mf_dn (Y 60) q (q + 1))) = _
  rw [mf_dnS, mf_dnS, jb_svw (v := 60) (w := 59) rfl, jb_svv, jb_svv]; rfl
theorem mf_sh_eq {X : ja_S} {k : Nat} (h : X 37 0 = nI k) (h0 : 0 < k) (hk : k ≤ 80) : mf_D (jb_u X 37 0 (nI (k - 1))) (k - 1) = mf_sh X := by
  unfold mf_sh; rw [h, nI_clamp (by omega), jp_m1 h0]; rfl
set_option maxRecDepth 100000 in
theorem co_M_settle {l : Launch} {s0 : State} {a0 : Array Value} {G : jb_Gt} {ad : Nat → Nat} (K : jo_G s0 a0 G ad) {S : ja_S} (k0 n0 : Nat) (hk0 : k0 ≤ 80) (hn0 : n0 ≤ 8) (h38 : S 38 0 = nI n0) (h37 : S 37 0 = nI k0) (hpd0 : jp_pm S k0) : jo_C l s0 G ad jy_M_settle jc_M_settle 5 (some .int) 6 [.ref (ad 7)] S (jo_i (jo_rs (mp_stl S))) := by
  refine jo_of K (by decide) rfl (Nat.le_of_ble_eq_true rfl) ?_
  intro p e s m args below meth c O hr hk
  refine ja_aload_n O (q := 1) jd_M_settle_0 rfl rfl rfl ?_
  refine ja_iconst O (q := 2) (v := 0) jd_M_settle_1 rfl (by decide) ?_
  refine jp_M_72 O (q := 5) jd_M_settle_2 rfl ?_
  refine ja_aload_n O (q := 6) jd_M_settle_5 rfl rfl rfl ?_
  refine jg_M_84 O (q := 9) jd_M_settle_6 rfl ?_
  refine ja_if_eq O (g := 18) (q := 12) jd_M_settle_9 (by decide) rfl (fun h_9 => ?_) (fun h_9 => ?_)
  · have h33 : S 33 0 = 0 := h_9
    have loop : ∀ (n : Nat) (i k : Nat) (C : ja_S) (n1 : Nat), n1 ≤ 8 → C 38 0 = nI n1 → C 37 0 = nI k → k ≤ 80 → jp_pm C k → k < n → mf_stl n C i = mf_stl 81 (mk_z S) 0 → ja_V p l e (jo_r 6) s m args below meth c (jb_W G ad) s0.heap.size 5 0 0 (jo_M s0 G ad below args s (jo_i (jo_rs (mp_stl S)))) (C) 22 [(0, .ref (ad 7)), (1, .int (nI i)), (2, .int 1)] [] := by
      intro n
      induction n with
      | zero => intro i k C n1 hn1 g38 g37 hk9 hpd hn hE; exact absurd hn (by omega)
      | succ n ih =>
        intro i k C n1 hn1 g38 g37 hk9 hpd hn hE
        refine ja_iload_n O (q := 23) jd_M_settle_22 rfl rfl rfl ?_
        refine ja_if_eq O (g := 146) (q := 26) jd_M_settle_23 (by decide) rfl (fun h_23 => absurd h_23 (by decide)) (fun h_23 => ?_)
        refine ja_aload_n O (q := 27) jd_M_settle_26 rfl rfl rfl ?_
        refine jg_M_106 O (q := 30) jd_M_settle_27 rfl ?_
        refine ja_if_le O (g := 146) (q := 33) jd_M_settle_30 (by decide) rfl (fun h_30 => ?_) (fun h_30 => ?_)
        · refine ja_iload_n O (q := 147) jd_M_settle_146 rfl rfl rfl ?_
          exact jo_ir O hr hk (by
              have e7 : mf_stl 81 (mk_z S) 0 = (i, C) := by rw [← hE, mf_stl, if_pos h_30]
              simp only [jo_rs, mp_stl, if_pos h33, e7]; exact ⟨by first | rfl | trivial, by first | rfl | trivial⟩) jd_M_settle_147
        · have h37p : ¬ C 37 0 ≤ 0 := h_30
          have hk0 : 0 < k := Nat.pos_of_ne_zero (fun q => h37p (by rw [g37, q]; decide))
          obtain ⟨t, ht, h59, hj⟩ := hpd 0 hk0
          have htc : (C 59 0).toNatClampNeg = t := by rw [h59]; exact nI_clamp (by omega)
          refine ja_aload_n O (q := 34) jd_M_settle_33 rfl rfl rfl ?_
          refine jm_M_132 O (d := 1) ⟨by decide, by decide⟩ (Nat.le_of_ble_eq_true rfl) ⟨by decide, by decide⟩ (co_M_fate K (S := C) n1 hn1 g38) (q := 37) jd_M_settle_34 rfl (fun r S' h => ?_)
          obtain ⟨h1, h2⟩ := h
          rw [h1, h2]
          clear h1 h2
          refine ja_istore_n O (q := 38) jd_M_settle_37 rfl rfl (by decide) ?_
          obtain ⟨X, eX⟩ : ∃ X, mf_xv C = X := ⟨_, rfl⟩
          obtain ⟨n2, hn2, x38⟩ := mf_xv_4 hn1 g38
          rw [eX] at x38
          have x37 : X 37 0 = nI k := by rw [← eX, mf_xv_v rfl rfl rfl rfl]; exact g37
          refine ja_iload_n O (q := 39) jd_M_settle_38 rfl rfl rfl ?_
          refine ja_iconst O (q := 40) (v := 1) jd_M_settle_39 rfl (by decide) ?_
          refine ja_icmp_eq O (g := 59) (q := 43) jd_M_settle_40 (by decide) rfl (fun h_40 => ?_) (fun h_40 => ?_)
          · first
            | rw [show (mf_fate C).2 = X from by rw [← eX, mf_xv, if_pos h_40]]
            | rw [show mf_rev (mf_fate C).2 t ((mf_fate C).2 60 0) = X from by rw [← eX, mf_xv, if_neg h_40, htc, mf_fate_v (v := 60) rfl rfl]]
            refine ja_iload_n O (q := 60) jd_M_settle_59 rfl rfl rfl ?_
            refine ja_if_eq O (g := 68) (q := 63) jd_M_settle_60 (by decide) rfl (fun h_60 => ?_) (fun h_60 => ?_)
            · refine ja_iconst O (q := 69) (v := 1) jd_M_settle_68 rfl (by decide) ?_
              refine ja_goto O (g := 73) jd_M_settle_69 (by decide) ?_
              refine ja_istore_n O (q := 74) jd_M_settle_73 rfl rfl (by decide) ?_
              refine ja_iload_n O (q := 75) jd_M_settle_74 rfl rfl rfl ?_
              refine ja_if_ne O (g := 80) (q := 78) jd_M_settle_75 (by decide) rfl (fun h_75 => ?_) (fun h_75 => ?_)
              · try (exact absurd rfl h_75)
                all_goals
                  have hf03 : (mf_fate C).1 = 0 ∨ (mf_fate C).1 = 3 := by first | exact Or.inl h_60 | exact Or.inr h_65
                  refine ja_iinc O (q := 83) (v := nI (i + 1)) jd_M_settle_80 rfl rfl (nI_1 i) (by decide) ?_
                  refine ja_aload_n O (q := 84) jd_M_settle_83 rfl rfl rfl ?_
                  refine ja_dup O (q := 85) jd_M_settle_84 rfl rfl ?_
                  refine jg_M_106 O (q := 88) jd_M_settle_85 rfl ?_
                  refine ja_iconst O (q := 89) (v := 1) jd_M_settle_88 rfl (by decide) ?_
                  refine ja_isub O (q := 90) jd_M_settle_89 rfl ?_
                  refine jp_M_106 O (q := 93) jd_M_settle_90 rfl ?_
                  rw [show X 37 0 - 1 = nI (k - 1) from by rw [x37, jp_m1 hk0]]
                  refine ja_iconst O (q := 94) (v := 0) jd_M_settle_93 rfl (by decide) ?_
                  refine ja_istore O (q := 96) jd_M_settle_94 rfl (by decide) ?_
                  have inner : ∀ (nI_ : Nat) (q : Nat), q ≤ k - 1 → k - 1 < q + nI_ → ja_V p l e (jo_r 6) s m args below meth c (jb_W G ad) s0.heap.size 5 0 0 (jo_M s0 G ad below args s (jo_i (jo_rs (mp_stl S)))) (mf_D (jb_u X 37 0 (nI (k - 1))) q) 96 [(0, .ref (ad 7)), (1, .int (nI (i + 1))), (2, .int 1), (4, .int (nI q))] [] := by
                    intro nI_
                    induction nI_ with
                    | zero => intro q hq hnI; exact absurd hnI (by omega)
                    | succ nI_ ihI =>
                      intro q hq hnI
                      refine ja_iload O (q := 98) jd_M_settle_96 rfl rfl ?_
                      refine ja_aload_n O (q := 99) jd_M_settle_98 rfl rfl rfl ?_
                      refine jg_M_106 O (q := 102) jd_M_settle_99 rfl ?_
                      refine ja_icmp_ge O (g := 143) (q := 105) jd_M_settle_102 (by decide) rfl (fun h_102 => ?_) (fun h_102 => ?_)
                      · have hqk : q = k - 1 := by
                          rcases Nat.lt_or_ge q (k - 1) with z | z
                          · exact absurd (show nI (k - 1) ≤ nI q from h_102) (nI_ge z (by omega))
                          · omega
                        subst hqk
                        refine ja_goto O (g := 22) jd_M_settle_143 (by decide) ?_
                        refine ja_less (L' := [(0, .ref (ad 7)), (1, .int (nI (i + 1))), (2, .int 1)]) ⟨rfl, rfl, rfl, trivial⟩ ?_
                        rw [mf_sh_eq x37 hk0 (by omega)]
                        exact ih (i + 1) (k - 1) (mf_sh X) n2 hn2 (show X 38 0 = nI n2 from x38) (show upd (X 37) 0 (X 37 0 - 1) 0 = _ by rw [pk_us, x37, jp_m1 hk0]) (by omega) (fun i' hi' => by
                          obtain ⟨t', z1, z2, z3⟩ := hpd (i' + 1) (by omega)
                          refine ⟨t', z1, ?_, ?_⟩
                          · show mf_dn (X 59) ((X 37 0).toNatClampNeg - 1) i' = _
                            rw [x37, nI_clamp (by omega), mf_dn, if_pos hi', ← eX, mf_xv_v rfl rfl rfl rfl]; exact z2
                          · show X 57 t' = 1 → ∃ j, j < 8 ∧ X 54 t' = nI j
                            rw [← eX, mf_xv_v rfl rfl rfl rfl, mf_xv_v rfl rfl rfl rfl]; exact z3) (by omega) (by rw [← hE, mf_stl, if_neg h37p, if_pos hf03, eX])
                      · have hqk : q < k - 1 := by
                          rcases Nat.lt_or_ge q (k - 1) with z | z
                          · exact z
                          · exact absurd (show nI (k - 1) ≤ nI q from nI_le z (by omega)) h_102
                        refine ja_aload_n O (q := 106) jd_M_settle_105 rfl rfl rfl ?_
                        refine jg_M_60 O (q := 109) jd_M_settle_106 rfl ?_
                        refine ja_iload O (q := 111) jd_M_settle_109 rfl rfl ?_
                        refine ja_aload_n O (q := 112) jd_M_settle_111 rfl rfl rfl ?_
                        refine jg_M_60 O (q := 115) jd_M_settle_112 rfl ?_
                        refine ja_iload O (q := 117) jd_M_settle_115 rfl rfl ?_
                        refine ja_iconst O (q := 118) (v := 1) jd_M_settle_117 rfl (by decide) ?_
                        refine ja_iadd O (q := 119) jd_M_settle_118 rfl ?_
                        refine jl_34 O (k := q + 1) (nI_1 q) (by first | assumption | omega) (q := 120) jd_M_settle_119 rfl ?_
                        refine js_34 O (k := q) rfl (by first | assumption | omega) (q := 121) jd_M_settle_120 rfl ?_
                        refine ja_aload_n O (q := 122) jd_M_settle_121 rfl rfl rfl ?_
                        refine jg_M_63 O (q := 125) jd_M_settle_122 rfl ?_
                        refine ja_iload O (q := 127) jd_M_settle_125 rfl rfl ?_
                        refine ja_aload_n O (q := 128) jd_M_settle_127 rfl rfl rfl ?_
                        refine jg_M_63 O (q := 131) jd_M_settle_128 rfl ?_
                        refine ja_iload O (q := 133) jd_M_settle_131 rfl rfl ?_
                        refine ja_iconst O (q := 134) (v := 1) jd_M_settle_133 rfl (by decide) ?_
                        refine ja_iadd O (q := 135) jd_M_settle_134 rfl ?_
                        refine jl_35 O (k := q + 1) (nI_1 q) (by first | assumption | omega) (q := 136) jd_M_settle_135 rfl ?_
                        refine js_35 O (k := q) rfl (by first | assumption | omega) (q := 137) jd_M_settle_136 rfl ?_
                        refine ja_iinc O (q := 140) (v := nI (q + 1)) jd_M_settle_137 rfl rfl (nI_1 q) (by decide) ?_
                        refine ja_goto O (g := 96) jd_M_settle_140 (by decide) ?_
                        refine ja_less (L' := [(0, .ref (ad 7)), (1, .int (nI (i + 1))), (2, .int 1), (4, .int (nI (q + 1)))]) ⟨rfl, rfl, rfl, rfl, trivial⟩ ?_
                        refine (show ja_V p l e (jo_r 6) s m args below meth c (jb_W G ad) s0.heap.size 5 0 0 _ (jb_u (jb_u (mf_D (jb_u X 37 0 (nI (k - 1))) q) 59 q (mf_dn ((jb_u X 37 0 (nI (k - 1))) 59) q (q + 1))) 60 q (mf_dn ((jb_u X 37 0 (nI (k - 1))) 60) q (q + 1))) 96 _ _ from ?_)
                        rw [mf_DS]
                        exact ihI (q + 1) (by omega) (by omega)
                  refine ja_less (L' := [(0, .ref (ad 7)), (1, .int (nI (i + 1))), (2, .int 1), (4, .int (nI 0))]) ⟨rfl, rfl, rfl, rfl, trivial⟩ ?_
                  have h0 := inner (k + 1) 0 (by omega) (by omega)
                  rw [mf_D0] at h0
                  exact h0
              · refine ja_iload_n O (q := 79) jd_M_settle_78 rfl rfl rfl ?_
                exact jo_ir O hr hk (by
                    first
                    | exact absurd h_75 (by decide)
                    | (have q : ¬ ((mf_fate C).1 = 0 ∨ (mf_fate C).1 = 3) := fun q => q.elim h_60 h_65
                       have e7 : mf_stl 81 (mk_z S) 0 = (i, X) := by rw [← hE, mf_stl, if_neg h37p, if_neg q, eX]
                       simp only [jo_rs, mp_stl, if_pos h33, e7]; exact ⟨by first | rfl | trivial, by first | rfl | trivial⟩)) jd_M_settle_79
            · refine ja_iload_n O (q := 64) jd_M_settle_63 rfl rfl rfl ?_
              refine ja_iconst O (q := 65) (v := 3) jd_M_settle_64 rfl (by decide) ?_
              refine ja_icmp_ne O (g := 72) (q := 68) jd_M_settle_65 (by decide) rfl (fun h_65 => ?_) (fun h_65 => ?_)
              · refine ja_iconst O (q := 73) (v := 0) jd_M_settle_72 rfl (by decide) ?_
                refine ja_istore_n O (q := 74) jd_M_settle_73 rfl rfl (by decide) ?_
                refine ja_iload_n O (q := 75) jd_M_settle_74 rfl rfl rfl ?_
                refine ja_if_ne O (g := 80) (q := 78) jd_M_settle_75 (by decide) rfl (fun h_75 => ?_) (fun h_75 => ?_)
                · try (exact absurd rfl h_75)
                  all_goals
                    have hf03 : (mf_fate C).1 = 0 ∨ (mf_fate C).1 = 3 := by first | exact Or.inl h_60 | exact Or.inr h_65
                    refine ja_iinc O (q := 83) (v := nI (i + 1)) jd_M_settle_80 rfl rfl (nI_1 i) (by decide) ?_
                    refine ja_aload_n O (q := 84) jd_M_settle_83 rfl rfl rfl ?_
                    refine ja_dup O (q := 85) jd_M_settle_84 rfl rfl ?_
                    refine jg_M_106 O (q := 88) jd_M_settle_85 rfl ?_
                    refine ja_iconst O (q := 89) (v := 1) jd_M_settle_88 rfl (by decide) ?_
                    refine ja_isub O (q := 90) jd_M_settle_89 rfl ?_
                    refine jp_M_106 O (q := 93) jd_M_settle_90 rfl ?_
                    rw [show X 37 0 - 1 = nI (k - 1) from by rw [x37, jp_m1 hk0]]
                    refine ja_iconst O (q := 94) (v := 0) jd_M_settle_93 rfl (by decide) ?_
                    refine ja_istore O (q := 96) jd_M_settle_94 rfl (by decide) ?_
                    have inner : ∀ (nI_ : Nat) (q : Nat), q ≤ k - 1 → k - 1 < q + nI_ → ja_V p l e (jo_r 6) s m args below meth c (jb_W G ad) s0.heap.size 5 0 0 (jo_M s0 G ad below args s (jo_i (jo_rs (mp_stl S)))) (mf_D (jb_u X 37 0 (nI (k - 1))) q) 96 [(0, .ref (ad 7)), (1, .int (nI (i + 1))), (2, .int 1), (4, .int (nI q))] [] := by
                      intro nI_
                      induction nI_ with
                      | zero => intro q hq hnI; exact absurd hnI (by omega)
                      | succ nI_ ihI =>
                        intro q hq hnI
                        refine ja_iload O (q := 98) jd_M_settle_96 rfl rfl ?_
                        refine ja_aload_n O (q := 99) jd_M_settle_98 rfl rfl rfl ?_
                        refine jg_M_106 O (q := 102) jd_M_settle_99 rfl ?_
                        refine ja_icmp_ge O (g := 143) (q := 105) jd_M_settle_102 (by decide) rfl (fun h_102 => ?_) (fun h_102 => ?_)
                        · have hqk : q = k - 1 := by
                            rcases Nat.lt_or_ge q (k - 1) with z | z
                            · exact absurd (show nI (k - 1) ≤ nI q from h_102) (nI_ge z (by omega))
                            · omega
                          subst hqk
                          refine ja_goto O (g := 22) jd_M_settle_143 (by decide) ?_
                          refine ja_less (L' := [(0, .ref (ad 7)), (1, .int (nI (i + 1))), (2, .int 1)]) ⟨rfl, rfl, rfl, trivial⟩ ?_
                          rw [mf_sh_eq x37 hk0 (by omega)]
                          exact ih (i + 1) (k - 1) (mf_sh X) n2 hn2 (show X 38 0 = nI n2 from x38) (show upd (X 37) 0 (X 37 0 - 1) 0 = _ by rw [pk_us, x37, jp_m1 hk0]) (by omega) (fun i' hi' => by
                            obtain ⟨t', z1, z2, z3⟩ := hpd (i' + 1) (by omega)
                            refine ⟨t', z1, ?_, ?_⟩
                            · show mf_dn (X 59) ((X 37 0).toNatClampNeg - 1) i' = _
                              rw [x37, nI_clamp (by omega), mf_dn, if_pos hi', ← eX, mf_xv_v rfl rfl rfl rfl]; exact z2
                            · show X 57 t' = 1 → ∃ j, j < 8 ∧ X 54 t' = nI j
                              rw [← eX, mf_xv_v rfl rfl rfl rfl, mf_xv_v rfl rfl rfl rfl]; exact z3) (by omega) (by rw [← hE, mf_stl, if_neg h37p, if_pos hf03, eX])
                        · have hqk : q < k - 1 := by
                            rcases Nat.lt_or_ge q (k - 1) with z | z
                            · exact z
                            · exact absurd (show nI (k - 1) ≤ nI q from nI_le z (by omega)) h_102
                          refine ja_aload_n O (q := 106) jd_M_settle_105 rfl rfl rfl ?_
                          refine jg_M_60 O (q := 109) jd_M_settle_106 rfl ?_
                          refine ja_iload O (q := 111) jd_M_settle_109 rfl rfl ?_
                          refine ja_aload_n O (q := 112) jd_M_settle_111 rfl rfl rfl ?_
                          refine jg_M_60 O (q := 115) jd_M_settle_112 rfl ?_
                          refine ja_iload O (q := 117) jd_M_settle_115 rfl rfl ?_
                          refine ja_iconst O (q := 118) (v := 1) jd_M_settle_117 rfl (by decide) ?_
                          refine ja_iadd O (q := 119) jd_M_settle_118 rfl ?_
                          refine jl_34 O (k := q + 1) (nI_1 q) (by first | assumption | omega) (q := 120) jd_M_settle_119 rfl ?_
                          refine js_34 O (k := q) rfl (by first | assumption | omega) (q := 121) jd_M_settle_120 rfl ?_
                          refine ja_aload_n O (q := 122) jd_M_settle_121 rfl rfl rfl ?_
                          refine jg_M_63 O (q := 125) jd_M_settle_122 rfl ?_
                          refine ja_iload O (q := 127) jd_M_settle_125 rfl rfl ?_
                          refine ja_aload_n O (q := 128) jd_M_settle_127 rfl rfl rfl ?_
                          refine jg_M_63 O (q := 131) jd_M_settle_128 rfl ?_
                          refine ja_iload O (q := 133) jd_M_settle_131 rfl rfl ?_
                          refine ja_iconst O (q := 134) (v := 1) jd_M_settle_133 rfl (by decide) ?_
                          refine ja_iadd O (q := 135) jd_M_settle_134 rfl ?_
                          refine jl_35 O (k := q + 1) (nI_1 q) (by first | assumption | omega) (q := 136) jd_M_settle_135 rfl ?_
                          refine js_35 O (k := q) rfl (by first | assumption | omega) (q := 137) jd_M_settle_136 rfl ?_
                          refine ja_iinc O (q := 140) (v := nI (q + 1)) jd_M_settle_137 rfl rfl (nI_1 q) (by decide) ?_
                          refine ja_goto O (g := 96) jd_M_settle_140 (by decide) ?_
                          refine ja_less (L' := [(0, .ref (ad 7)), (1, .int (nI (i + 1))), (2, .int 1), (4, .int (nI (q + 1)))]) ⟨rfl, rfl, rfl, rfl, trivial⟩ ?_
                          refine (show ja_V p l e (jo_r 6) s m args below meth c (jb_W G ad) s0.heap.size 5 0 0 _ (jb_u (jb_u (mf_D (jb_u X 37 0 (nI (k - 1))) q) 59 q (mf_dn ((jb_u X 37 0 (nI (k - 1))) 59) q (q + 1))) 60 q (mf_dn ((jb_u X 37 0 (nI (k - 1))) 60) q (q + 1))) 96 _ _ from ?_)
                          rw [mf_DS]
                          exact ihI (q + 1) (by omega) (by omega)
                    refine ja_less (L' := [(0, .ref (ad 7)), (1, .int (nI (i + 1))), (2, .int 1), (4, .int (nI 0))]) ⟨rfl, rfl, rfl, rfl, trivial⟩ ?_
                    have h0 := inner (k + 1) 0 (by omega) (by omega)
                    rw [mf_D0] at h0
                    exact h0
                · refine ja_iload_n O (q := 79) jd_M_settle_78 rfl rfl rfl ?_
                  exact jo_ir O hr hk (by
                      first
                      | exact absurd h_75 (by decide)
                      | (have q : ¬ ((mf_fate C).1 = 0 ∨ (mf_fate C).1 = 3) := fun q => q.elim h_60 h_65
                         have e7 : mf_stl 81 (mk_z S) 0 = (i, X) := by rw [← hE, mf_stl, if_neg h37p, if_neg q, eX]
                         simp only [jo_rs, mp_stl, if_pos h33, e7]; exact ⟨by first | rfl | trivial, by first | rfl | trivial⟩)) jd_M_settle_79
              · refine ja_iconst O (q := 69) (v := 1) jd_M_settle_68 rfl (by decide) ?_
                refine ja_goto O (g := 73) jd_M_settle_69 (by decide) ?_
                refine ja_istore_n O (q := 74) jd_M_settle_73 rfl rfl (by decide) ?_
                refine ja_iload_n O (q := 75) jd_M_settle_74 rfl rfl rfl ?_
                refine ja_if_ne O (g := 80) (q := 78) jd_M_settle_75 (by decide) rfl (fun h_75 => ?_) (fun h_75 => ?_)
                · try (exact absurd rfl h_75)
                  all_goals
                    have hf03 : (mf_fate C).1 = 0 ∨ (mf_fate C).1 = 3 := by first | exact Or.inl h_60 | exact Or.inr h_65
                    refine ja_iinc O (q := 83) (v := nI (i + 1)) jd_M_settle_80 rfl rfl (nI_1 i) (by decide) ?_
                    refine ja_aload_n O (q := 84) jd_M_settle_83 rfl rfl rfl ?_
                    refine ja_dup O (q := 85) jd_M_settle_84 rfl rfl ?_
                    refine jg_M_106 O (q := 88) jd_M_settle_85 rfl ?_
                    refine ja_iconst O (q := 89) (v := 1) jd_M_settle_88 rfl (by decide) ?_
                    refine ja_isub O (q := 90) jd_M_settle_89 rfl ?_
                    refine jp_M_106 O (q := 93) jd_M_settle_90 rfl ?_
                    rw [show X 37 0 - 1 = nI (k - 1) from by rw [x37, jp_m1 hk0]]
                    refine ja_iconst O (q := 94) (v := 0) jd_M_settle_93 rfl (by decide) ?_
                    refine ja_istore O (q := 96) jd_M_settle_94 rfl (by decide) ?_
                    have inner : ∀ (nI_ : Nat) (q : Nat), q ≤ k - 1 → k - 1 < q + nI_ → ja_V p l e (jo_r 6) s m args below meth c (jb_W G ad) s0.heap.size 5 0 0 (jo_M s0 G ad below args s (jo_i (jo_rs (mp_stl S)))) (mf_D (jb_u X 37 0 (nI (k - 1))) q) 96 [(0, .ref (ad 7)), (1, .int (nI (i + 1))), (2, .int 1), (4, .int (nI q))] [] := by
                      intro nI_
                      induction nI_ with
                      | zero => intro q hq hnI; exact absurd hnI (by omega)
                      | succ nI_ ihI =>
                        intro q hq hnI
                        refine ja_iload O (q := 98) jd_M_settle_96 rfl rfl ?_
                        refine ja_aload_n O (q := 99) jd_M_settle_98 rfl rfl rfl ?_
                        refine jg_M_106 O (q := 102) jd_M_settle_99 rfl ?_
                        refine ja_icmp_ge O (g := 143) (q := 105) jd_M_settle_102 (by decide) rfl (fun h_102 => ?_) (fun h_102 => ?_)
                        · have hqk : q = k - 1 := by
                            rcases Nat.lt_or_ge q (k - 1) with z | z
                            · exact absurd (show nI (k - 1) ≤ nI q from h_102) (nI_ge z (by omega))
                            · omega
                          subst hqk
                          refine ja_goto O (g := 22) jd_M_settle_143 (by decide) ?_
                          refine ja_less (L' := [(0, .ref (ad 7)), (1, .int (nI (i + 1))), (2, .int 1)]) ⟨rfl, rfl, rfl, trivial⟩ ?_
                          rw [mf_sh_eq x37 hk0 (by omega)]
                          exact ih (i + 1) (k - 1) (mf_sh X) n2 hn2 (show X 38 0 = nI n2 from x38) (show upd (X 37) 0 (X 37 0 - 1) 0 = _ by rw [pk_us, x37, jp_m1 hk0]) (by omega) (fun i' hi' => by
                            obtain ⟨t', z1, z2, z3⟩ := hpd (i' + 1) (by omega)
                            refine ⟨t', z1, ?_, ?_⟩
                            · show mf_dn (X 59) ((X 37 0).toNatClampNeg - 1) i' = _
                              rw [x37, nI_clamp (by omega), mf_dn, if_pos hi', ← eX, mf_xv_v rfl rfl rfl rfl]; exact z2
                            · show X 57 t' = 1 → ∃ j, j < 8 ∧ X 54 t' = nI j
                              rw [← eX, mf_xv_v rfl rfl rfl rfl, mf_xv_v rfl rfl rfl rfl]; exact z3) (by omega) (by rw [← hE, mf_stl, if_neg h37p, if_pos hf03, eX])
                        · have hqk : q < k - 1 := by
                            rcases Nat.lt_or_ge q (k - 1) with z | z
                            · exact z
                            · exact absurd (show nI (k - 1) ≤ nI q from nI_le z (by omega)) h_102
                          refine ja_aload_n O (q := 106) jd_M_settle_105 rfl rfl rfl ?_
                          refine jg_M_60 O (q := 109) jd_M_settle_106 rfl ?_
                          refine ja_iload O (q := 111) jd_M_settle_109 rfl rfl ?_
                          refine ja_aload_n O (q := 112) jd_M_settle_111 rfl rfl rfl ?_
                          refine jg_M_60 O (q := 115) jd_M_settle_112 rfl ?_
                          refine ja_iload O (q := 117) jd_M_settle_115 rfl rfl ?_
                          refine ja_iconst O (q := 118) (v := 1) jd_M_settle_117 rfl (by decide) ?_
                          refine ja_iadd O (q := 119) jd_M_settle_118 rfl ?_
                          refine jl_34 O (k := q + 1) (nI_1 q) (by first | assumption | omega) (q := 120) jd_M_settle_119 rfl ?_
                          refine js_34 O (k := q) rfl (by first | assumption | omega) (q := 121) jd_M_settle_120 rfl ?_
                          refine ja_aload_n O (q := 122) jd_M_settle_121 rfl rfl rfl ?_
                          refine jg_M_63 O (q := 125) jd_M_settle_122 rfl ?_
                          refine ja_iload O (q := 127) jd_M_settle_125 rfl rfl ?_
                          refine ja_aload_n O (q := 128) jd_M_settle_127 rfl rfl rfl ?_
                          refine jg_M_63 O (q := 131) jd_M_settle_128 rfl ?_
                          refine ja_iload O (q := 133) jd_M_settle_131 rfl rfl ?_
                          refine ja_iconst O (q := 134) (v := 1) jd_M_settle_133 rfl (by decide) ?_
                          refine ja_iadd O (q := 135) jd_M_settle_134 rfl ?_
                          refine jl_35 O (k := q + 1) (nI_1 q) (by first | assumption | omega) (q := 136) jd_M_settle_135 rfl ?_
                          refine js_35 O (k := q) rfl (by first | assumption | omega) (q := 137) jd_M_settle_136 rfl ?_
                          refine ja_iinc O (q := 140) (v := nI (q + 1)) jd_M_settle_137 rfl rfl (nI_1 q) (by decide) ?_
                          refine ja_goto O (g := 96) jd_M_settle_140 (by decide) ?_
                          refine ja_less (L' := [(0, .ref (ad 7)), (1, .int (nI (i + 1))), (2, .int 1), (4, .int (nI (q + 1)))]) ⟨rfl, rfl, rfl, rfl, trivial⟩ ?_
                          refine (show ja_V p l e (jo_r 6) s m args below meth c (jb_W G ad) s0.heap.size 5 0 0 _ (jb_u (jb_u (mf_D (jb_u X 37 0 (nI (k - 1))) q) 59 q (mf_dn ((jb_u X 37 0 (nI (k - 1))) 59) q (q + 1))) 60 q (mf_dn ((jb_u X 37 0 (nI (k - 1))) 60) q (q + 1))) 96 _ _ from ?_)
                          rw [mf_DS]
                          exact ihI (q + 1) (by omega) (by omega)
                    refine ja_less (L' := [(0, .ref (ad 7)), (1, .int (nI (i + 1))), (2, .int 1), (4, .int (nI 0))]) ⟨rfl, rfl, rfl, rfl, trivial⟩ ?_
                    have h0 := inner (k + 1) 0 (by omega) (by omega)
                    rw [mf_D0] at h0
                    exact h0
                · refine ja_iload_n O (q := 79) jd_M_settle_78 rfl rfl rfl ?_
                  exact jo_ir O hr hk (by
                      first
                      | exact absurd h_75 (by decide)
                      | (have q : ¬ ((mf_fate C).1 = 0 ∨ (mf_fate C).1 = 3) := fun q => q.elim h_60 h_65
                         have e7 : mf_stl 81 (mk_z S) 0 = (i, X) := by rw [← hE, mf_stl, if_neg h37p, if_neg q, eX]
                         simp only [jo_rs, mp_stl, if_pos h33, e7]; exact ⟨by first | rfl | trivial, by first | rfl | trivial⟩)) jd_M_settle_79
          · refine ja_aload_n O (q := 44) jd_M_settle_43 rfl rfl rfl ?_
            refine ja_aload_n O (q := 45) jd_M_settle_44 rfl rfl rfl ?_
            refine jg_M_60 O (q := 48) jd_M_settle_45 rfl ?_
            refine ja_iconst O (q := 49) (v := 0) jd_M_settle_48 rfl (by decide) ?_
            refine jl_34 O (k := 0) rfl (by first | assumption | omega) (q := 50) jd_M_settle_49 rfl ?_
            rw [show (mf_fate C).2 59 0 = nI t from by rw [mf_fate_v rfl rfl]; exact h59]
            refine ja_aload_n O (q := 51) jd_M_settle_50 rfl rfl rfl ?_
            refine jg_M_63 O (q := 54) jd_M_settle_51 rfl ?_
            refine ja_iconst O (q := 55) (v := 0) jd_M_settle_54 rfl (by decide) ?_
            refine jl_35 O (k := 0) rfl (by first | assumption | omega) (q := 56) jd_M_settle_55 rfl ?_
            refine jm_M_155 O (d := 1) ⟨by decide, by decide⟩ (Nat.le_of_ble_eq_true rfl) ⟨by decide, by decide⟩ (co_M_reversalCame K (S := (mf_fate C).2) t _ ht (by rw [mf_fate_v rfl rfl, mf_fate_v rfl rfl]; exact hj)) (q := 59) jd_M_settle_56 rfl (fun S' h => ?_)
            subst h
            first
            | rw [show (mf_fate C).2 = X from by rw [← eX, mf_xv, if_pos h_40]]
            | rw [show mf_rev (mf_fate C).2 t ((mf_fate C).2 60 0) = X from by rw [← eX, mf_xv, if_neg h_40, htc, mf_fate_v (v := 60) rfl rfl]]
            refine ja_iload_n O (q := 60) jd_M_settle_59 rfl rfl rfl ?_
            refine ja_if_eq O (g := 68) (q := 63) jd_M_settle_60 (by decide) rfl (fun h_60 => ?_) (fun h_60 => ?_)
            · refine ja_iconst O (q := 69) (v := 1) jd_M_settle_68 rfl (by decide) ?_
              refine ja_goto O (g := 73) jd_M_settle_69 (by decide) ?_
              refine ja_istore_n O (q := 74) jd_M_settle_73 rfl rfl (by decide) ?_
              refine ja_iload_n O (q := 75) jd_M_settle_74 rfl rfl rfl ?_
              refine ja_if_ne O (g := 80) (q := 78) jd_M_settle_75 (by decide) rfl (fun h_75 => ?_) (fun h_75 => ?_)
              · try (exact absurd rfl h_75)
                all_goals
                  have hf03 : (mf_fate C).1 = 0 ∨ (mf_fate C).1 = 3 := by first | exact Or.inl h_60 | exact Or.inr h_65
                  refine ja_iinc O (q := 83) (v := nI (i + 1)) jd_M_settle_80 rfl rfl (nI_1 i) (by decide) ?_
                  refine ja_aload_n O (q := 84) jd_M_settle_83 rfl rfl rfl ?_
                  refine ja_dup O (q := 85) jd_M_settle_84 rfl rfl ?_
                  refine jg_M_106 O (q := 88) jd_M_settle_85 rfl ?_
                  refine ja_iconst O (q := 89) (v := 1) jd_M_settle_88 rfl (by decide) ?_
                  refine ja_isub O (q := 90) jd_M_settle_89 rfl ?_
                  refine jp_M_106 O (q := 93) jd_M_settle_90 rfl ?_
                  rw [show X 37 0 - 1 = nI (k - 1) from by rw [x37, jp_m1 hk0]]
                  refine ja_iconst O (q := 94) (v := 0) jd_M_settle_93 rfl (by decide) ?_
                  refine ja_istore O (q := 96) jd_M_settle_94 rfl (by decide) ?_
                  have inner : ∀ (nI_ : Nat) (q : Nat), q ≤ k - 1 → k - 1 < q + nI_ → ja_V p l e (jo_r 6) s m args below meth c (jb_W G ad) s0.heap.size 5 0 0 (jo_M s0 G ad below args s (jo_i (jo_rs (mp_stl S)))) (mf_D (jb_u X 37 0 (nI (k - 1))) q) 96 [(0, .ref (ad 7)), (1, .int (nI (i + 1))), (2, .int 1), (4, .int (nI q))] [] := by
                    intro nI_
                    induction nI_ with
                    | zero => intro q hq hnI; exact absurd hnI (by omega)
                    | succ nI_ ihI =>
                      intro q hq hnI
                      refine ja_iload O (q := 98) jd_M_settle_96 rfl rfl ?_
                      refine ja_aload_n O (q := 99) jd_M_settle_98 rfl rfl rfl ?_
                      refine jg_M_106 O (q := 102) jd_M_settle_99 rfl ?_
                      refine ja_icmp_ge O (g := 143) (q := 105) jd_M_settle_102 (by decide) rfl (fun h_102 => ?_) (fun h_102 => ?_)
                      · have hqk : q = k - 1 := by
                          rcases Nat.lt_or_ge q (k - 1) with z | z
                          · exact absurd (show nI (k - 1) ≤ nI q from h_102) (nI_ge z (by omega))
                          · omega
                        subst hqk
                        refine ja_goto O (g := 22) jd_M_settle_143 (by decide) ?_
                        refine ja_less (L' := [(0, .ref (ad 7)), (1, .int (nI (i + 1))), (2, .int 1)]) ⟨rfl, rfl, rfl, trivial⟩ ?_
                        rw [mf_sh_eq x37 hk0 (by omega)]
                        exact ih (i + 1) (k - 1) (mf_sh X) n2 hn2 (show X 38 0 = nI n2 from x38) (show upd (X 37) 0 (X 37 0 - 1) 0 = _ by rw [pk_us, x37, jp_m1 hk0]) (by omega) (fun i' hi' => by
                          obtain ⟨t', z1, z2, z3⟩ := hpd (i' + 1) (by omega)
                          refine ⟨t', z1, ?_, ?_⟩
                          · show mf_dn (X 59) ((X 37 0).toNatClampNeg - 1) i' = _
                            rw [x37, nI_clamp (by omega), mf_dn, if_pos hi', ← eX, mf_xv_v rfl rfl rfl rfl]; exact z2
                          · show X 57 t' = 1 → ∃ j, j < 8 ∧ X 54 t' = nI j
                            rw [← eX, mf_xv_v rfl rfl rfl rfl, mf_xv_v rfl rfl rfl rfl]; exact z3) (by omega) (by rw [← hE, mf_stl, if_neg h37p, if_pos hf03, eX])
                      · have hqk : q < k - 1 := by
                          rcases Nat.lt_or_ge q (k - 1) with z | z
                          · exact z
                          · exact absurd (show nI (k - 1) ≤ nI q from nI_le z (by omega)) h_102
                        refine ja_aload_n O (q := 106) jd_M_settle_105 rfl rfl rfl ?_
                        refine jg_M_60 O (q := 109) jd_M_settle_106 rfl ?_
                        refine ja_iload O (q := 111) jd_M_settle_109 rfl rfl ?_
                        refine ja_aload_n O (q := 112) jd_M_settle_111 rfl rfl rfl ?_
                        refine jg_M_60 O (q := 115) jd_M_settle_112 rfl ?_
                        refine ja_iload O (q := 117) jd_M_settle_115 rfl rfl ?_
                        refine ja_iconst O (q := 118) (v := 1) jd_M_settle_117 rfl (by decide) ?_
                        refine ja_iadd O (q := 119) jd_M_settle_118 rfl ?_
                        refine jl_34 O (k := q + 1) (nI_1 q) (by first | assumption | omega) (q := 120) jd_M_settle_119 rfl ?_
                        refine js_34 O (k := q) rfl (by first | assumption | omega) (q := 121) jd_M_settle_120 rfl ?_
                        refine ja_aload_n O (q := 122) jd_M_settle_121 rfl rfl rfl ?_
                        refine jg_M_63 O (q := 125) jd_M_settle_122 rfl ?_
                        refine ja_iload O (q := 127) jd_M_settle_125 rfl rfl ?_
                        refine ja_aload_n O (q := 128) jd_M_settle_127 rfl rfl rfl ?_
                        refine jg_M_63 O (q := 131) jd_M_settle_128 rfl ?_
                        refine ja_iload O (q := 133) jd_M_settle_131 rfl rfl ?_
                        refine ja_iconst O (q := 134) (v := 1) jd_M_settle_133 rfl (by decide) ?_
                        refine ja_iadd O (q := 135) jd_M_settle_134 rfl ?_
                        refine jl_35 O (k := q + 1) (nI_1 q) (by first | assumption | omega) (q := 136) jd_M_settle_135 rfl ?_
                        refine js_35 O (k := q) rfl (by first | assumption | omega) (q := 137) jd_M_settle_136 rfl ?_
                        refine ja_iinc O (q := 140) (v := nI (q + 1)) jd_M_settle_137 rfl rfl (nI_1 q) (by decide) ?_
                        refine ja_goto O (g := 96) jd_M_settle_140 (by decide) ?_
                        refine ja_less (L' := [(0, .ref (ad 7)), (1, .int (nI (i + 1))), (2, .int 1), (4, .int (nI (q + 1)))]) ⟨rfl, rfl, rfl, rfl, trivial⟩ ?_
                        refine (show ja_V p l e (jo_r 6) s m args below meth c (jb_W G ad) s0.heap.size 5 0 0 _ (jb_u (jb_u (mf_D (jb_u X 37 0 (nI (k - 1))) q) 59 q (mf_dn ((jb_u X 37 0 (nI (k - 1))) 59) q (q + 1))) 60 q (mf_dn ((jb_u X 37 0 (nI (k - 1))) 60) q (q + 1))) 96 _ _ from ?_)
                        rw [mf_DS]
                        exact ihI (q + 1) (by omega) (by omega)
                  refine ja_less (L' := [(0, .ref (ad 7)), (1, .int (nI (i + 1))), (2, .int 1), (4, .int (nI 0))]) ⟨rfl, rfl, rfl, rfl, trivial⟩ ?_
                  have h0 := inner (k + 1) 0 (by omega) (by omega)
                  rw [mf_D0] at h0
                  exact h0
              · refine ja_iload_n O (q := 79) jd_M_settle_78 rfl rfl rfl ?_
                exact jo_ir O hr hk (by
                    first
                    | exact absurd h_75 (by decide)
                    | (have q : ¬ ((mf_fate C).1 = 0 ∨ (mf_fate C).1 = 3) := fun q => q.elim h_60 h_65
                       have e7 : mf_stl 81 (mk_z S) 0 = (i, X) := by rw [← hE, mf_stl, if_neg h37p, if_neg q, eX]
                       simp only [jo_rs, mp_stl, if_pos h33, e7]; exact ⟨by first | rfl | trivial, by first | rfl | trivial⟩)) jd_M_settle_79
            · refine ja_iload_n O (q := 64) jd_M_settle_63 rfl rfl rfl ?_
              refine ja_iconst O (q := 65) (v := 3) jd_M_settle_64 rfl (by decide) ?_
              refine ja_icmp_ne O (g := 72) (q := 68) jd_M_settle_65 (by decide) rfl (fun h_65 => ?_) (fun h_65 => ?_)
              · refine ja_iconst O (q := 73) (v := 0) jd_M_settle_72 rfl (by decide) ?_
                refine ja_istore_n O (q := 74) jd_M_settle_73 rfl rfl (by decide) ?_
                refine ja_iload_n O (q := 75) jd_M_settle_74 rfl rfl rfl ?_
                refine ja_if_ne O (g := 80) (q := 78) jd_M_settle_75 (by decide) rfl (fun h_75 => ?_) (fun h_75 => ?_)
                · try (exact absurd rfl h_75)
                  all_goals
                    have hf03 : (mf_fate C).1 = 0 ∨ (mf_fate C).1 = 3 := by first | exact Or.inl h_60 | exact Or.inr h_65
                    refine ja_iinc O (q := 83) (v := nI (i + 1)) jd_M_settle_80 rfl rfl (nI_1 i) (by decide) ?_
                    refine ja_aload_n O (q := 84) jd_M_settle_83 rfl rfl rfl ?_
                    refine ja_dup O (q := 85) jd_M_settle_84 rfl rfl ?_
                    refine jg_M_106 O (q := 88) jd_M_settle_85 rfl ?_
                    refine ja_iconst O (q := 89) (v := 1) jd_M_settle_88 rfl (by decide) ?_
                    refine ja_isub O (q := 90) jd_M_settle_89 rfl ?_
                    refine jp_M_106 O (q := 93) jd_M_settle_90 rfl ?_
                    rw [show X 37 0 - 1 = nI (k - 1) from by rw [x37, jp_m1 hk0]]
                    refine ja_iconst O (q := 94) (v := 0) jd_M_settle_93 rfl (by decide) ?_
                    refine ja_istore O (q := 96) jd_M_settle_94 rfl (by decide) ?_
                    have inner : ∀ (nI_ : Nat) (q : Nat), q ≤ k - 1 → k - 1 < q + nI_ → ja_V p l e (jo_r 6) s m args below meth c (jb_W G ad) s0.heap.size 5 0 0 (jo_M s0 G ad below args s (jo_i (jo_rs (mp_stl S)))) (mf_D (jb_u X 37 0 (nI (k - 1))) q) 96 [(0, .ref (ad 7)), (1, .int (nI (i + 1))), (2, .int 1), (4, .int (nI q))] [] := by
                      intro nI_
                      induction nI_ with
                      | zero => intro q hq hnI; exact absurd hnI (by omega)
                      | succ nI_ ihI =>
                        intro q hq hnI
                        refine ja_iload O (q := 98) jd_M_settle_96 rfl rfl ?_
                        refine ja_aload_n O (q := 99) jd_M_settle_98 rfl rfl rfl ?_
                        refine jg_M_106 O (q := 102) jd_M_settle_99 rfl ?_
                        refine ja_icmp_ge O (g := 143) (q := 105) jd_M_settle_102 (by decide) rfl (fun h_102 => ?_) (fun h_102 => ?_)
                        · have hqk : q = k - 1 := by
                            rcases Nat.lt_or_ge q (k - 1) with z | z
                            · exact absurd (show nI (k - 1) ≤ nI q from h_102) (nI_ge z (by omega))
                            · omega
                          subst hqk
                          refine ja_goto O (g := 22) jd_M_settle_143 (by decide) ?_
                          refine ja_less (L' := [(0, .ref (ad 7)), (1, .int (nI (i + 1))), (2, .int 1)]) ⟨rfl, rfl, rfl, trivial⟩ ?_
                          rw [mf_sh_eq x37 hk0 (by omega)]
                          exact ih (i + 1) (k - 1) (mf_sh X) n2 hn2 (show X 38 0 = nI n2 from x38) (show upd (X 37) 0 (X 37 0 - 1) 0 = _ by rw [pk_us, x37, jp_m1 hk0]) (by omega) (fun i' hi' => by
                            obtain ⟨t', z1, z2, z3⟩ := hpd (i' + 1) (by omega)
                            refine ⟨t', z1, ?_, ?_⟩
                            · show mf_dn (X 59) ((X 37 0).toNatClampNeg - 1) i' = _
                              rw [x37, nI_clamp (by omega), mf_dn, if_pos hi', ← eX, mf_xv_v rfl rfl rfl rfl]; exact z2
                            · show X 57 t' = 1 → ∃ j, j < 8 ∧ X 54 t' = nI j
                              rw [← eX, mf_xv_v rfl rfl rfl rfl, mf_xv_v rfl rfl rfl rfl]; exact z3) (by omega) (by rw [← hE, mf_stl, if_neg h37p, if_pos hf03, eX])
                        · have hqk : q < k - 1 := by
                            rcases Nat.lt_or_ge q (k - 1) with z | z
                            · exact z
                            · exact absurd (show nI (k - 1) ≤ nI q from nI_le z (by omega)) h_102
                          refine ja_aload_n O (q := 106) jd_M_settle_105 rfl rfl rfl ?_
                          refine jg_M_60 O (q := 109) jd_M_settle_106 rfl ?_
                          refine ja_iload O (q := 111) jd_M_settle_109 rfl rfl ?_
                          refine ja_aload_n O (q := 112) jd_M_settle_111 rfl rfl rfl ?_
                          refine jg_M_60 O (q := 115) jd_M_settle_112 rfl ?_
                          refine ja_iload O (q := 117) jd_M_settle_115 rfl rfl ?_
                          refine ja_iconst O (q := 118) (v := 1) jd_M_settle_117 rfl (by decide) ?_
                          refine ja_iadd O (q := 119) jd_M_settle_118 rfl ?_
                          refine jl_34 O (k := q + 1) (nI_1 q) (by first | assumption | omega) (q := 120) jd_M_settle_119 rfl ?_
                          refine js_34 O (k := q) rfl (by first | assumption | omega) (q := 121) jd_M_settle_120 rfl ?_
                          refine ja_aload_n O (q := 122) jd_M_settle_121 rfl rfl rfl ?_
                          refine jg_M_63 O (q := 125) jd_M_settle_122 rfl ?_
                          refine ja_iload O (q := 127) jd_M_settle_125 rfl rfl ?_
                          refine ja_aload_n O (q := 128) jd_M_settle_127 rfl rfl rfl ?_
                          refine jg_M_63 O (q := 131) jd_M_settle_128 rfl ?_
                          refine ja_iload O (q := 133) jd_M_settle_131 rfl rfl ?_
                          refine ja_iconst O (q := 134) (v := 1) jd_M_settle_133 rfl (by decide) ?_
                          refine ja_iadd O (q := 135) jd_M_settle_134 rfl ?_
                          refine jl_35 O (k := q + 1) (nI_1 q) (by first | assumption | omega) (q := 136) jd_M_settle_135 rfl ?_
                          refine js_35 O (k := q) rfl (by first | assumption | omega) (q := 137) jd_M_settle_136 rfl ?_
                          refine ja_iinc O (q := 140) (v := nI (q + 1)) jd_M_settle_137 rfl rfl (nI_1 q) (by decide) ?_
                          refine ja_goto O (g := 96) jd_M_settle_140 (by decide) ?_
                          refine ja_less (L' := [(0, .ref (ad 7)), (1, .int (nI (i + 1))), (2, .int 1), (4, .int (nI (q + 1)))]) ⟨rfl, rfl, rfl, rfl, trivial⟩ ?_
                          refine (show ja_V p l e (jo_r 6) s m args below meth c (jb_W G ad) s0.heap.size 5 0 0 _ (jb_u (jb_u (mf_D (jb_u X 37 0 (nI (k - 1))) q) 59 q (mf_dn ((jb_u X 37 0 (nI (k - 1))) 59) q (q + 1))) 60 q (mf_dn ((jb_u X 37 0 (nI (k - 1))) 60) q (q + 1))) 96 _ _ from ?_)
                          rw [mf_DS]
                          exact ihI (q + 1) (by omega) (by omega)
                    refine ja_less (L' := [(0, .ref (ad 7)), (1, .int (nI (i + 1))), (2, .int 1), (4, .int (nI 0))]) ⟨rfl, rfl, rfl, rfl, trivial⟩ ?_
                    have h0 := inner (k + 1) 0 (by omega) (by omega)
                    rw [mf_D0] at h0
                    exact h0
                · refine ja_iload_n O (q := 79) jd_M_settle_78 rfl rfl rfl ?_
                  exact jo_ir O hr hk (by
                      first
                      | exact absurd h_75 (by decide)
                      | (have q : ¬ ((mf_fate C).1 = 0 ∨ (mf_fate C).1 = 3) := fun q => q.elim h_60 h_65
                         have e7 : mf_stl 81 (mk_z S) 0 = (i, X) := by rw [← hE, mf_stl, if_neg h37p, if_neg q, eX]
                         simp only [jo_rs, mp_stl, if_pos h33, e7]; exact ⟨by first | rfl | trivial, by first | rfl | trivial⟩)) jd_M_settle_79
              · refine ja_iconst O (q := 69) (v := 1) jd_M_settle_68 rfl (by decide) ?_
                refine ja_goto O (g := 73) jd_M_settle_69 (by decide) ?_
                refine ja_istore_n O (q := 74) jd_M_settle_73 rfl rfl (by decide) ?_
                refine ja_iload_n O (q := 75) jd_M_settle_74 rfl rfl rfl ?_
                refine ja_if_ne O (g := 80) (q := 78) jd_M_settle_75 (by decide) rfl (fun h_75 => ?_) (fun h_75 => ?_)
                · try (exact absurd rfl h_75)
                  all_goals
                    have hf03 : (mf_fate C).1 = 0 ∨ (mf_fate C).1 = 3 := by first | exact Or.inl h_60 | exact Or.inr h_65
                    refine ja_iinc O (q := 83) (v := nI (i + 1)) jd_M_settle_80 rfl rfl (nI_1 i) (by decide) ?_
                    refine ja_aload_n O (q := 84) jd_M_settle_83 rfl rfl rfl ?_
                    refine ja_dup O (q := 85) jd_M_settle_84 rfl rfl ?_
                    refine jg_M_106 O (q := 88) jd_M_settle_85 rfl ?_
                    refine ja_iconst O (q := 89) (v := 1) jd_M_settle_88 rfl (by decide) ?_
                    refine ja_isub O (q := 90) jd_M_settle_89 rfl ?_
                    refine jp_M_106 O (q := 93) jd_M_settle_90 rfl ?_
                    rw [show X 37 0 - 1 = nI (k - 1) from by rw [x37, jp_m1 hk0]]
                    refine ja_iconst O (q := 94) (v := 0) jd_M_settle_93 rfl (by decide) ?_
                    refine ja_istore O (q := 96) jd_M_settle_94 rfl (by decide) ?_
                    have inner : ∀ (nI_ : Nat) (q : Nat), q ≤ k - 1 → k - 1 < q + nI_ → ja_V p l e (jo_r 6) s m args below meth c (jb_W G ad) s0.heap.size 5 0 0 (jo_M s0 G ad below args s (jo_i (jo_rs (mp_stl S)))) (mf_D (jb_u X 37 0 (nI (k - 1))) q) 96 [(0, .ref (ad 7)), (1, .int (nI (i + 1))), (2, .int 1), (4, .int (nI q))] [] := by
                      intro nI_
                      induction nI_ with
                      | zero => intro q hq hnI; exact absurd hnI (by omega)
                      | succ nI_ ihI =>
                        intro q hq hnI
                        refine ja_iload O (q := 98) jd_M_settle_96 rfl rfl ?_
                        refine ja_aload_n O (q := 99) jd_M_settle_98 rfl rfl rfl ?_
                        refine jg_M_106 O (q := 102) jd_M_settle_99 rfl ?_
                        refine ja_icmp_ge O (g := 143) (q := 105) jd_M_settle_102 (by decide) rfl (fun h_102 => ?_) (fun h_102 => ?_)
                        · have hqk : q = k - 1 := by
                            rcases Nat.lt_or_ge q (k - 1) with z | z
                            · exact absurd (show nI (k - 1) ≤ nI q from h_102) (nI_ge z (by omega))
                            · omega
                          subst hqk
                          refine ja_goto O (g := 22) jd_M_settle_143 (by decide) ?_
                          refine ja_less (L' := [(0, .ref (ad 7)), (1, .int (nI (i + 1))), (2, .int 1)]) ⟨rfl, rfl, rfl, trivial⟩ ?_
                          rw [mf_sh_eq x37 hk0 (by omega)]
                          exact ih (i + 1) (k - 1) (mf_sh X) n2 hn2 (show X 38 0 = nI n2 from x38) (show upd (X 37) 0 (X 37 0 - 1) 0 = _ by rw [pk_us, x37, jp_m1 hk0]) (by omega) (fun i' hi' => by
                            obtain ⟨t', z1, z2, z3⟩ := hpd (i' + 1) (by omega)
                            refine ⟨t', z1, ?_, ?_⟩
                            · show mf_dn (X 59) ((X 37 0).toNatClampNeg - 1) i' = _
                              rw [x37, nI_clamp (by omega), mf_dn, if_pos hi', ← eX, mf_xv_v rfl rfl rfl rfl]; exact z2
                            · show X 57 t' = 1 → ∃ j, j < 8 ∧ X 54 t' = nI j
                              rw [← eX, mf_xv_v rfl rfl rfl rfl, mf_xv_v rfl rfl rfl rfl]; exact z3) (by omega) (by rw [← hE, mf_stl, if_neg h37p, if_pos hf03, eX])
                        · have hqk : q < k - 1 := by
                            rcases Nat.lt_or_ge q (k - 1) with z | z
                            · exact z
                            · exact absurd (show nI (k - 1) ≤ nI q from nI_le z (by omega)) h_102
                          refine ja_aload_n O (q := 106) jd_M_settle_105 rfl rfl rfl ?_
                          refine jg_M_60 O (q := 109) jd_M_settle_106 rfl ?_
                          refine ja_iload O (q := 111) jd_M_settle_109 rfl rfl ?_
                          refine ja_aload_n O (q := 112) jd_M_settle_111 rfl rfl rfl ?_
                          refine jg_M_60 O (q := 115) jd_M_settle_112 rfl ?_
                          refine ja_iload O (q := 117) jd_M_settle_115 rfl rfl ?_
                          refine ja_iconst O (q := 118) (v := 1) jd_M_settle_117 rfl (by decide) ?_
                          refine ja_iadd O (q := 119) jd_M_settle_118 rfl ?_
                          refine jl_34 O (k := q + 1) (nI_1 q) (by first | assumption | omega) (q := 120) jd_M_settle_119 rfl ?_
                          refine js_34 O (k := q) rfl (by first | assumption | omega) (q := 121) jd_M_settle_120 rfl ?_
                          refine ja_aload_n O (q := 122) jd_M_settle_121 rfl rfl rfl ?_
                          refine jg_M_63 O (q := 125) jd_M_settle_122 rfl ?_
                          refine ja_iload O (q := 127) jd_M_settle_125 rfl rfl ?_
                          refine ja_aload_n O (q := 128) jd_M_settle_127 rfl rfl rfl ?_
                          refine jg_M_63 O (q := 131) jd_M_settle_128 rfl ?_
                          refine ja_iload O (q := 133) jd_M_settle_131 rfl rfl ?_
                          refine ja_iconst O (q := 134) (v := 1) jd_M_settle_133 rfl (by decide) ?_
                          refine ja_iadd O (q := 135) jd_M_settle_134 rfl ?_
                          refine jl_35 O (k := q + 1) (nI_1 q) (by first | assumption | omega) (q := 136) jd_M_settle_135 rfl ?_
                          refine js_35 O (k := q) rfl (by first | assumption | omega) (q := 137) jd_M_settle_136 rfl ?_
                          refine ja_iinc O (q := 140) (v := nI (q + 1)) jd_M_settle_137 rfl rfl (nI_1 q) (by decide) ?_
                          refine ja_goto O (g := 96) jd_M_settle_140 (by decide) ?_
                          refine ja_less (L' := [(0, .ref (ad 7)), (1, .int (nI (i + 1))), (2, .int 1), (4, .int (nI (q + 1)))]) ⟨rfl, rfl, rfl, rfl, trivial⟩ ?_
                          refine (show ja_V p l e (jo_r 6) s m args below meth c (jb_W G ad) s0.heap.size 5 0 0 _ (jb_u (jb_u (mf_D (jb_u X 37 0 (nI (k - 1))) q) 59 q (mf_dn ((jb_u X 37 0 (nI (k - 1))) 59) q (q + 1))) 60 q (mf_dn ((jb_u X 37 0 (nI (k - 1))) 60) q (q + 1))) 96 _ _ from ?_)
                          rw [mf_DS]
                          exact ihI (q + 1) (by omega) (by omega)
                    refine ja_less (L' := [(0, .ref (ad 7)), (1, .int (nI (i + 1))), (2, .int 1), (4, .int (nI 0))]) ⟨rfl, rfl, rfl, rfl, trivial⟩ ?_
                    have h0 := inner (k + 1) 0 (by omega) (by omega)
                    rw [mf_D0] at h0
                    exact h0
                · refine ja_iload_n O (q := 79) jd_M_settle_78 rfl rfl rfl ?_
                  exact jo_ir O hr hk (by
                      first
                      | exact absurd h_75 (by decide)
                      | (have q : ¬ ((mf_fate C).1 = 0 ∨ (mf_fate C).1 = 3) := fun q => q.elim h_60 h_65
                         have e7 : mf_stl 81 (mk_z S) 0 = (i, X) := by rw [← hE, mf_stl, if_neg h37p, if_neg q, eX]
                         simp only [jo_rs, mp_stl, if_pos h33, e7]; exact ⟨by first | rfl | trivial, by first | rfl | trivial⟩)) jd_M_settle_79
    refine ja_iconst O (q := 19) (v := 0) jd_M_settle_18 rfl (by decide) ?_
    refine ja_istore_n O (q := 20) jd_M_settle_19 rfl rfl (by decide) ?_
    refine ja_iconst O (q := 21) (v := 1) jd_M_settle_20 rfl (by decide) ?_
    refine ja_istore_n O (q := 22) jd_M_settle_21 rfl rfl (by decide) ?_
    refine ja_less (L' := [(0, .ref (ad 7)), (1, .int (nI 0)), (2, .int 1)]) ⟨rfl, rfl, rfl, trivial⟩ ?_
    exact loop 81 0 k0 (mk_z S) n0 hn0 h38 h37 hk0 hpd0 (by omega) rfl
  · refine ja_aload_n O (q := 13) jd_M_settle_12 rfl rfl rfl ?_
    refine ja_iconst O (q := 14) (v := 1) jd_M_settle_13 rfl (by decide) ?_
    refine jm_M_80 O (d := 1) ⟨by decide, by decide⟩ (Nat.le_of_ble_eq_true rfl) ⟨by decide, by decide⟩ (co_M_fail K 1) (q := 17) jd_M_settle_14 rfl (fun r S' h => ?_)
    obtain ⟨rfl, rfl⟩ := h
    exact jo_ir O hr hk (by
        have q : ¬ S 33 0 = 0 := h_9
        simp only [jo_rs, mp_stl, if_neg q]; exact ⟨by first | rfl | trivial, by first | rfl | trivial⟩) jd_M_settle_17
