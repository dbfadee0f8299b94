/-! CONTRACTS of the class, by program (wip/whole/gen/p12.py): the exchanges, recover, dropFirst -/
theorem jp_fate_v {C : ja_S} {v : Nat} (h4 : Nat.beq v 4 = false) (h27 : Nat.beq v 27 = false) : (cf_fate C).2 v = C v := by
  unfold cf_fate; split
  · rfl
  · simp [jb_sv, h4, h27]
theorem jp_fate {C C' : ja_S} {n : Nat} {r : Int32} (h4 : C 4 0 = nI n) (hn : n ≤ 8) (h : (n = 0 ∧ r = 0 ∧ C' = C) ∨ (0 < n ∧ r = C 27 0 ∧ C' = jb_sv (jb_u C 4 0 (nI (n - 1))) 27 (va_cpy (C 27) (C 27) 1 0 (n - 1)))) : r = (cf_fate C).1 ∧ C' = (cf_fate C).2 := by
  rcases h with ⟨e, rfl, rfl⟩ | ⟨e, rfl, rfl⟩
  · have : C' 4 0 = 0 := by rw [h4, e]; rfl
    simp [cf_fate, this]
  · have h0 : ¬ C 4 0 = 0 := by rw [h4]; exact nI_ne0 e (by omega)
    simp only [cf_fate, if_neg h0]
    rw [h4, jp_m1 e, nI_clamp (by omega)]
    first | exact ⟨rfl, rfl⟩ | exact ⟨trivial, rfl⟩ | exact ⟨trivial, trivial⟩
theorem jp_dec_v {C : ja_S} {t j v : Nat} {x : Int32} (h : Nat.beq v 14 = false) : (cf_dec C t j x).2 v = C v := by
  unfold cf_dec; split
  · simp [jb_sv, h]
  · rfl
theorem jp_rq_v {C : ja_S} {t j v : Nat} {x : Int32} (h : Nat.beq v 14 = false) (h1 : Nat.beq v 24 = false) (h2 : Nat.beq v 25 = false) : cf_rq C t j x v = C v := by
  unfold cf_rq; split
  · simp [jb_sv, h1, h2, jp_dec_v h]
  · rfl
theorem jp_rev_v {C : ja_S} {t v : Nat} {x : Int32} (h : Nat.beq v 14 = false) (h1 : Nat.beq v 26 = false) : cf_rev C t x v = C v := by
  unfold cf_rev; split <;> simp [jb_sv, h, h1]
def cf_xr (C : ja_S) (e j : Nat) : Int32 × ja_S :=
  if (cf_fate C).1 = 1 then (-2, (cf_fate C).2) else
  if (cf_fate C).1 = 2 then (-2, cf_rq (cf_fate C).2 (e + 1) j (C 21 e)) else
  (if (cf_req (cf_fate C).2 (e + 1) j (C 21 e)).1 = 0 then -1 else 2, if (cf_fate C).1 = 3 then cf_rq (cf_rq (cf_fate C).2 (e + 1) j (C 21 e)) (e + 1) j (C 21 e) else cf_rq (cf_fate C).2 (e + 1) j (C 21 e))
def cf_xv (C : ja_S) (t : Nat) (x : Int32) : Int32 × ja_S :=
  if (cf_fate C).1 = 1 then (0, (cf_fate C).2) else
  (if (cf_fate C).1 = 2 then 0 else 1, if (cf_fate C).1 = 3 then cf_rev (cf_rev (cf_fate C).2 t x) t x else cf_rev (cf_fate C).2 t x)
def cf_rec (C : ja_S) (e : Nat) : ja_S := if C 22 e = 1 then cf_give C e else if C 22 e = 2 then cf_fin C e (cf_pfor C (C 19 e)) else C
def cf_drop (C : ja_S) (k d : Nat) : ja_S := jb_sv (jb_sv (jb_u C 10 0 (nI (k - d))) 30 (va_cpy (C 30) (C 30) d 0 (k - d))) 31 (va_cpy (C 31) (C 31) d 0 (k - d))
set_option maxRecDepth 100000 in
theorem co_C_exchangeRequest {l : Launch} {s0 : State} {a0 : Array Value} {G : jb_Gt} {ad : Nat → Nat} (K : jo_G s0 a0 G ad) {S : ja_S} (e j n : Nat) (he : e < 40) (hj : j < 8) (hn : n ≤ 8) (h4 : S 4 0 = nI n) (h19 : S 19 e = nI (e + 1)) (h20 : S 20 e = nI j) : jo_C l s0 G ad jy_C_exchangeRequest jc_C_exchangeRequest 4 (some .int) 3 [.ref (ad 0), .ref (ad (50 + e))] S (jo_i fun r S' => r = (cf_xr S e j).1 ∧ S' = (cf_xr S e j).2) := by
  refine jo_of K (by decide) rfl (Nat.le_of_ble_eq_true rfl) ?_
  intro p e0 s m args below meth c O hr hk
  refine ja_aload_n O (q := 1) jd_C_exchangeRequest_0 rfl rfl rfl ?_
  refine jg_C_19 O (q := 4) jd_C_exchangeRequest_1 rfl ?_
  refine jm_C_230 O (d := 2) ⟨by decide, by decide⟩ (Nat.le_of_ble_eq_true rfl) ⟨by decide, by decide⟩ (co_N_takeFirst K n hn h4) (q := 7) jd_C_exchangeRequest_4 rfl (fun r S' h => ?_)
  obtain ⟨rfl, rfl⟩ := jp_fate h4 hn h
  have g19 : (cf_fate S).2 19 e = nI (e + 1) := by rw [jp_fate_v rfl rfl]; exact h19
  have g20 : (cf_fate S).2 20 e = nI j := by rw [jp_fate_v rfl rfl]; exact h20
  have g21 : (cf_fate S).2 21 e = S 21 e := by rw [jp_fate_v rfl rfl]
  refine ja_istore_n O (q := 8) jd_C_exchangeRequest_7 rfl rfl (by decide) ?_
  refine ja_iload_n O (q := 9) jd_C_exchangeRequest_8 rfl rfl rfl ?_
  refine ja_iconst O (q := 10) (v := 1) jd_C_exchangeRequest_9 rfl (by decide) ?_
  refine ja_icmp_ne O (g := 16) (q := 13) jd_C_exchangeRequest_10 (by decide) rfl (fun h_10 => ?_) (fun h_10 => ?_)
  · refine ja_aload_n O (q := 17) jd_C_exchangeRequest_16 rfl rfl rfl ?_
    refine jg_C_10 O (q := 20) jd_C_exchangeRequest_17 rfl ?_
    refine ja_aload_n O (q := 21) jd_C_exchangeRequest_20 rfl rfl rfl ?_
    refine jg_C_213 O (by first | assumption | omega) (q := 24) jd_C_exchangeRequest_21 rfl ?_
    refine ja_aload_n O (q := 25) jd_C_exchangeRequest_24 rfl rfl rfl ?_
    refine jg_C_171 O (by first | assumption | omega) (q := 28) jd_C_exchangeRequest_25 rfl ?_
    refine ja_aload_n O (q := 29) jd_C_exchangeRequest_28 rfl rfl rfl ?_
    refine jg_C_174 O (by first | assumption | omega) (q := 32) jd_C_exchangeRequest_29 rfl ?_
    refine jm_C_233 O (d := 2) ⟨by decide, by decide⟩ (Nat.le_of_ble_eq_true rfl) ⟨by decide, by decide⟩ (co_H_receiveRequest K (S := (cf_fate S).2) _ _ _ (e + 1) j (by omega) hj g19 g20) (q := 35) jd_C_exchangeRequest_32 rfl (fun r S' h => ?_)
    obtain ⟨rfl, rfl⟩ := h
    rw [g21]
    have k19 : cf_rq (cf_fate S).2 (e + 1) j (S 21 e) 19 e = nI (e + 1) := by rw [jp_rq_v rfl rfl rfl]; exact g19
    have k20 : cf_rq (cf_fate S).2 (e + 1) j (S 21 e) 20 e = nI j := by rw [jp_rq_v rfl rfl rfl]; exact g20
    have k21 : cf_rq (cf_fate S).2 (e + 1) j (S 21 e) 21 e = S 21 e := by rw [jp_rq_v rfl rfl rfl]; exact g21
    refine (show ja_V p l e0 (jo_r 3) s m args below meth c (jb_W G ad) s0.heap.size 4 0 0 _ (cf_rq (cf_fate S).2 (e + 1) j (S 21 e)) 35 _ _ from ?_)
    refine ja_istore_n O (q := 36) jd_C_exchangeRequest_35 rfl rfl (by decide) ?_
    refine ja_iload_n O (q := 37) jd_C_exchangeRequest_36 rfl rfl rfl ?_
    refine ja_iconst O (q := 38) (v := 3) jd_C_exchangeRequest_37 rfl (by decide) ?_
    refine ja_icmp_ne O (g := 61) (q := 41) jd_C_exchangeRequest_38 (by decide) rfl (fun h_38 => ?_) (fun h_38 => ?_)
    · refine ja_iload_n O (q := 62) jd_C_exchangeRequest_61 rfl rfl rfl ?_
      refine ja_iconst O (q := 63) (v := 2) jd_C_exchangeRequest_62 rfl (by decide) ?_
      refine ja_icmp_ne O (g := 69) (q := 66) jd_C_exchangeRequest_63 (by decide) rfl (fun h_63 => ?_) (fun h_63 => ?_)
      · refine ja_iload_n O (q := 70) jd_C_exchangeRequest_69 rfl rfl rfl ?_
        refine ja_if_eq O (g := 77) (q := 73) jd_C_exchangeRequest_70 (by decide) rfl (fun h_70 => ?_) (fun h_70 => ?_)
        · refine ja_iconst O (q := 78) (v := (-1)) jd_C_exchangeRequest_77 rfl (by decide) ?_
          exact jo_ir O hr hk (by have h1 : ¬ (cf_fate S).1 = 1 := h_10; have h2 : ¬ (cf_fate S).1 = 2 := h_63; first | (have h3 : (cf_fate S).1 = 3 := h_38; simp only [cf_xr, if_neg h1, if_neg h2, if_pos h3]; exact ⟨by simp [h_70], rfl⟩) | (have h3 : ¬ (cf_fate S).1 = 3 := h_38; simp only [cf_xr, if_neg h1, if_neg h2, if_neg h3]; exact ⟨by simp [h_70], trivial⟩)) jd_C_exchangeRequest_78
        · refine ja_iconst O (q := 74) (v := 2) jd_C_exchangeRequest_73 rfl (by decide) ?_
          refine ja_goto O (g := 78) jd_C_exchangeRequest_74 (by decide) ?_
          exact jo_ir O hr hk (by have h1 : ¬ (cf_fate S).1 = 1 := h_10; have h2 : ¬ (cf_fate S).1 = 2 := h_63; first | (have h3 : (cf_fate S).1 = 3 := h_38; simp only [cf_xr, if_neg h1, if_neg h2, if_pos h3]; exact ⟨by simp [h_70], rfl⟩) | (have h3 : ¬ (cf_fate S).1 = 3 := h_38; simp only [cf_xr, if_neg h1, if_neg h2, if_neg h3]; exact ⟨by simp [h_70], trivial⟩)) jd_C_exchangeRequest_78
      · refine ja_bipush O (q := 68) (v := (-2)) jd_C_exchangeRequest_66 rfl (by decide) ?_
        exact jo_ir O hr hk (by have h2 : (cf_fate S).1 = 2 := h_63; have h1 : ¬ (cf_fate S).1 = 1 := h_10; first | (simp only [cf_xr, if_neg h1, if_pos h2]; exact ⟨trivial, trivial⟩) | (have h3 : (cf_fate S).1 = 3 := h_38; rw [h2] at h3; exact absurd h3 (by decide))) jd_C_exchangeRequest_68
    · refine ja_aload_n O (q := 42) jd_C_exchangeRequest_41 rfl rfl rfl ?_
      refine jg_C_10 O (q := 45) jd_C_exchangeRequest_42 rfl ?_
      refine ja_aload_n O (q := 46) jd_C_exchangeRequest_45 rfl rfl rfl ?_
      refine jg_C_213 O (by first | assumption | omega) (q := 49) jd_C_exchangeRequest_46 rfl ?_
      refine ja_aload_n O (q := 50) jd_C_exchangeRequest_49 rfl rfl rfl ?_
      refine jg_C_171 O (by first | assumption | omega) (q := 53) jd_C_exchangeRequest_50 rfl ?_
      refine ja_aload_n O (q := 54) jd_C_exchangeRequest_53 rfl rfl rfl ?_
      refine jg_C_174 O (by first | assumption | omega) (q := 57) jd_C_exchangeRequest_54 rfl ?_
      refine jm_C_233 O (d := 2) ⟨by decide, by decide⟩ (Nat.le_of_ble_eq_true rfl) ⟨by decide, by decide⟩ (co_H_receiveRequest K (S := cf_rq (cf_fate S).2 (e + 1) j (S 21 e)) _ _ _ (e + 1) j (by omega) hj k19 k20) (q := 60) jd_C_exchangeRequest_57 rfl (fun r S' h => ?_)
      obtain ⟨rfl, rfl⟩ := h
      rw [k21]
      refine ja_pop O (q := 61) jd_C_exchangeRequest_60 rfl rfl ?_
      refine ja_iload_n O (q := 62) jd_C_exchangeRequest_61 rfl rfl rfl ?_
      refine ja_iconst O (q := 63) (v := 2) jd_C_exchangeRequest_62 rfl (by decide) ?_
      refine ja_icmp_ne O (g := 69) (q := 66) jd_C_exchangeRequest_63 (by decide) rfl (fun h_63 => ?_) (fun h_63 => ?_)
      · refine ja_iload_n O (q := 70) jd_C_exchangeRequest_69 rfl rfl rfl ?_
        refine ja_if_eq O (g := 77) (q := 73) jd_C_exchangeRequest_70 (by decide) rfl (fun h_70 => ?_) (fun h_70 => ?_)
        · refine ja_iconst O (q := 78) (v := (-1)) jd_C_exchangeRequest_77 rfl (by decide) ?_
          exact jo_ir O hr hk (by have h1 : ¬ (cf_fate S).1 = 1 := h_10; have h2 : ¬ (cf_fate S).1 = 2 := h_63; first | (have h3 : (cf_fate S).1 = 3 := h_38; simp only [cf_xr, if_neg h1, if_neg h2, if_pos h3]; exact ⟨by simp [h_70], rfl⟩) | (have h3 : ¬ (cf_fate S).1 = 3 := h_38; simp only [cf_xr, if_neg h1, if_neg h2, if_neg h3]; exact ⟨by simp [h_70], trivial⟩)) jd_C_exchangeRequest_78
        · refine ja_iconst O (q := 74) (v := 2) jd_C_exchangeRequest_73 rfl (by decide) ?_
          refine ja_goto O (g := 78) jd_C_exchangeRequest_74 (by decide) ?_
          exact jo_ir O hr hk (by have h1 : ¬ (cf_fate S).1 = 1 := h_10; have h2 : ¬ (cf_fate S).1 = 2 := h_63; first | (have h3 : (cf_fate S).1 = 3 := h_38; simp only [cf_xr, if_neg h1, if_neg h2, if_pos h3]; exact ⟨by simp [h_70], rfl⟩) | (have h3 : ¬ (cf_fate S).1 = 3 := h_38; simp only [cf_xr, if_neg h1, if_neg h2, if_neg h3]; exact ⟨by simp [h_70], trivial⟩)) jd_C_exchangeRequest_78
      · refine ja_bipush O (q := 68) (v := (-2)) jd_C_exchangeRequest_66 rfl (by decide) ?_
        exact jo_ir O hr hk (by have h2 : (cf_fate S).1 = 2 := h_63; have h1 : ¬ (cf_fate S).1 = 1 := h_10; first | (simp only [cf_xr, if_neg h1, if_pos h2]; exact ⟨trivial, trivial⟩) | (have h3 : (cf_fate S).1 = 3 := h_38; rw [h2] at h3; exact absurd h3 (by decide))) jd_C_exchangeRequest_68
  · refine ja_bipush O (q := 15) (v := (-2)) jd_C_exchangeRequest_13 rfl (by decide) ?_
    exact jo_ir O hr hk (by simp only [cf_xr, if_pos h_10]; exact ⟨trivial, trivial⟩) jd_C_exchangeRequest_15
set_option maxRecDepth 100000 in
theorem co_C_recover {l : Launch} {s0 : State} {a0 : Array Value} {G : jb_Gt} {ad : Nat → Nat} (K : jo_G s0 a0 G ad) {S : ja_S} (e : Nat) (he : e < 40) (k : Nat) (hk9 : S 22 e = 1 ∨ S 22 e = 2 → k < 40) (h10 : S 10 0 = nI k) : jo_C l s0 G ad jy_C_recover jc_C_recover 2 none 3 [.ref (ad 0), .ref (ad (50 + e))] S (jo_v fun S' => S' = cf_rec S e) := by
  refine jo_of K (by decide) rfl (Nat.le_of_ble_eq_true rfl) ?_
  intro p e0 s m args below meth c O hr hk
  refine ja_aload_n O (q := 1) jd_C_recover_0 rfl rfl rfl ?_
  refine jg_C_166 O (by first | assumption | omega) (q := 4) jd_C_recover_1 rfl ?_
  refine ja_iconst O (q := 5) (v := 1) jd_C_recover_4 rfl (by decide) ?_
  refine ja_icmp_ne O (g := 16) (q := 8) jd_C_recover_5 (by decide) rfl (fun h_5 => ?_) (fun h_5 => ?_)
  · refine ja_aload_n O (q := 17) jd_C_recover_16 rfl rfl rfl ?_
    refine jg_C_166 O (by first | assumption | omega) (q := 20) jd_C_recover_17 rfl ?_
    refine ja_iconst O (q := 21) (v := 2) jd_C_recover_20 rfl (by decide) ?_
    refine ja_icmp_ne O (g := 40) (q := 24) jd_C_recover_21 (by decide) rfl (fun h_21 => ?_) (fun h_21 => ?_)
    · exact jo_vr O hr hk (by first | (simp only [cf_rec, if_pos h_5]; done) | (simp only [cf_rec, if_neg h_5, if_pos h_21]; done) | (simp only [cf_rec, if_neg h_5, if_neg h_21]; done)) jd_C_recover_40
    · refine ja_aload_n O (q := 25) jd_C_recover_24 rfl rfl rfl ?_
      refine ja_aload_n O (q := 26) jd_C_recover_25 rfl rfl rfl ?_
      refine ja_aload_n O (q := 27) jd_C_recover_26 rfl rfl rfl ?_
      refine jg_C_26 O (q := 30) jd_C_recover_27 rfl ?_
      refine ja_aload_n O (q := 31) jd_C_recover_30 rfl rfl rfl ?_
      refine jg_C_213 O (by first | assumption | omega) (q := 34) jd_C_recover_31 rfl ?_
      refine jm_C_227 O (d := 1) ⟨by decide, by decide⟩ (Nat.le_of_ble_eq_true rfl) ⟨by decide, by decide⟩ (co_D_presentedFor K _) (q := 37) jd_C_recover_34 rfl (fun r S' h => ?_)
      obtain ⟨rfl, rfl⟩ := h
      refine jm_C_220 O (d := 2) ⟨by decide, by decide⟩ (Nat.le_of_ble_eq_true rfl) ⟨by decide, by decide⟩ (co_C_finish K e he k (hk9 (Or.inr h_21)) h10 _) (q := 40) jd_C_recover_37 rfl (fun S' h => ?_)
      subst h
      exact jo_vr O hr hk (by first | (simp only [cf_rec, if_pos h_5]; done) | (simp only [cf_rec, if_neg h_5, if_pos h_21]; done) | (simp only [cf_rec, if_neg h_5, if_neg h_21]; done)) jd_C_recover_40
  · refine ja_aload_n O (q := 9) jd_C_recover_8 rfl rfl rfl ?_
    refine ja_aload_n O (q := 10) jd_C_recover_9 rfl rfl rfl ?_
    refine jm_C_207 O (d := 2) ⟨by decide, by decide⟩ (Nat.le_of_ble_eq_true rfl) ⟨by decide, by decide⟩ (co_C_giveUp K e he k (hk9 (Or.inl h_5)) h10) (q := 13) jd_C_recover_10 rfl (fun S' h => ?_)
    subst h
    refine ja_goto O (g := 40) jd_C_recover_13 (by decide) ?_
    exact jo_vr O hr hk (by first | (simp only [cf_rec, if_pos h_5]; done) | (simp only [cf_rec, if_neg h_5, if_pos h_21]; done) | (simp only [cf_rec, if_neg h_5, if_neg h_21]; done)) jd_C_recover_40
set_option maxRecDepth 100000 in
theorem co_R_dropFirst {l : Launch} {s0 : State} {a0 : Array Value} {G : jb_Gt} {ad : Nat → Nat} (K : jo_G s0 a0 G ad) {S : ja_S} (k d : Nat) (hd : d ≤ k) (hk9 : k ≤ 40) (h10 : S 10 0 = nI k) : jo_C l s0 G ad jy_R_dropFirst jc_R_dropFirst 2 none 1 [.ref (ad 5), .int (nI d)] S (jo_v fun S' => S' = cf_drop S k d) := by
  refine jo_of K (by decide) rfl (Nat.le_of_ble_eq_true rfl) ?_
  intro p e s m args below meth c O hr hk
  refine ja_aload_n O (q := 1) jd_R_dropFirst_0 rfl rfl rfl ?_
  refine ja_dup O (q := 2) jd_R_dropFirst_1 rfl rfl ?_
  refine jg_R_18 O (q := 5) jd_R_dropFirst_2 rfl ?_
  refine ja_iload_n O (q := 6) jd_R_dropFirst_5 rfl rfl rfl ?_
  refine ja_isub O (q := 7) jd_R_dropFirst_6 rfl ?_
  refine jp_R_18 O (q := 10) jd_R_dropFirst_7 rfl ?_
  rw [show S 10 0 - nI d = nI (k - d) by rw [h10]; exact pk_sub hd]
  refine ja_aload_n O (q := 11) jd_R_dropFirst_10 rfl rfl rfl ?_
  refine jg_R_9 O (q := 14) jd_R_dropFirst_11 rfl ?_
  refine ja_iload_n O (q := 15) jd_R_dropFirst_14 rfl rfl rfl ?_
  refine ja_aload_n O (q := 16) jd_R_dropFirst_15 rfl rfl rfl ?_
  refine jg_R_9 O (q := 19) jd_R_dropFirst_16 rfl ?_
  refine ja_iconst O (q := 20) (v := 0) jd_R_dropFirst_19 rfl (by decide) ?_
  refine ja_aload_n O (q := 21) jd_R_dropFirst_20 rfl rfl rfl ?_
  refine jg_R_18 O (q := 24) jd_R_dropFirst_21 rfl ?_
  refine jcp_17 O (a := d) (b := 0) (k := k - d) rfl rfl rfl (by omega) (by omega) ⟨by decide, by decide⟩ (q := 27) jd_R_dropFirst_24 rfl ?_
  refine ja_aload_n O (q := 28) jd_R_dropFirst_27 rfl rfl rfl ?_
  refine jg_R_15 O (q := 31) jd_R_dropFirst_28 rfl ?_
  refine ja_iload_n O (q := 32) jd_R_dropFirst_31 rfl rfl rfl ?_
  refine ja_aload_n O (q := 33) jd_R_dropFirst_32 rfl rfl rfl ?_
  refine jg_R_15 O (q := 36) jd_R_dropFirst_33 rfl ?_
  refine ja_iconst O (q := 37) (v := 0) jd_R_dropFirst_36 rfl (by decide) ?_
  refine ja_aload_n O (q := 38) jd_R_dropFirst_37 rfl rfl rfl ?_
  refine jg_R_18 O (q := 41) jd_R_dropFirst_38 rfl ?_
  refine jcp_18 O (a := d) (b := 0) (k := k - d) rfl rfl rfl (by omega) (by omega) ⟨by decide, by decide⟩ (q := 44) jd_R_dropFirst_41 rfl ?_
  exact jo_vr O hr hk rfl jd_R_dropFirst_44
set_option maxRecDepth 100000 in
theorem co_C_exchangeReversal {l : Launch} {s0 : State} {a0 : Array Value} {G : jb_Gt} {ad : Nat → Nat} (K : jo_G s0 a0 G ad) {S : ja_S} (i t n : Nat) (hi : i < 40) (ht : t < 41) (hn : n ≤ 8) (h4 : S 4 0 = nI n) (h30 : S 30 i = nI t) (hj : S 24 t = 2 → ∃ j, j < 8 ∧ S 25 t = nI j) : jo_C l s0 G ad jy_C_exchangeReversal jc_C_exchangeReversal 3 (some .boolean) 3 [.ref (ad 0), .int (nI i)] S (jo_i fun r S' => r = (cf_xv S t (S 31 i)).1 ∧ S' = (cf_xv S t (S 31 i)).2) := by
  refine jo_of K (by decide) rfl (Nat.le_of_ble_eq_true rfl) ?_
  intro p e s m args below meth c O hr hk
  refine ja_aload_n O (q := 1) jd_C_exchangeReversal_0 rfl rfl rfl ?_
  refine jg_C_19 O (q := 4) jd_C_exchangeReversal_1 rfl ?_
  refine jm_C_230 O (d := 2) ⟨by decide, by decide⟩ (Nat.le_of_ble_eq_true rfl) ⟨by decide, by decide⟩ (co_N_takeFirst K n hn h4) (q := 7) jd_C_exchangeReversal_4 rfl (fun r S' h => ?_)
  obtain ⟨rfl, rfl⟩ := jp_fate h4 hn h
  have g30 : (cf_fate S).2 30 i = nI t := by rw [jp_fate_v rfl rfl]; exact h30
  have g31 : (cf_fate S).2 31 i = S 31 i := by rw [jp_fate_v rfl rfl]
  have gj : (cf_fate S).2 24 t = 2 → ∃ j, j < 8 ∧ (cf_fate S).2 25 t = nI j := by rw [jp_fate_v rfl rfl, jp_fate_v rfl rfl]; exact hj
  refine ja_istore_n O (q := 8) jd_C_exchangeReversal_7 rfl rfl (by decide) ?_
  refine ja_iload_n O (q := 9) jd_C_exchangeReversal_8 rfl rfl rfl ?_
  refine ja_iconst O (q := 10) (v := 1) jd_C_exchangeReversal_9 rfl (by decide) ?_
  refine ja_icmp_ne O (g := 15) (q := 13) jd_C_exchangeReversal_10 (by decide) rfl (fun h_10 => ?_) (fun h_10 => ?_)
  · refine ja_aload_n O (q := 16) jd_C_exchangeReversal_15 rfl rfl rfl ?_
    refine jg_C_10 O (q := 19) jd_C_exchangeReversal_16 rfl ?_
    refine ja_aload_n O (q := 20) jd_C_exchangeReversal_19 rfl rfl rfl ?_
    refine jg_C_40 O (q := 23) jd_C_exchangeReversal_20 rfl ?_
    refine jg_C_236 O (q := 26) jd_C_exchangeReversal_23 rfl ?_
    refine ja_iload_n O (q := 27) jd_C_exchangeReversal_26 rfl rfl rfl ?_
    refine jl_17 O  rfl (by first | assumption | omega) (q := 28) jd_C_exchangeReversal_27 rfl ?_
    refine ja_aload_n O (q := 29) jd_C_exchangeReversal_28 rfl rfl rfl ?_
    refine jg_C_40 O (q := 32) jd_C_exchangeReversal_29 rfl ?_
    refine jg_C_180 O (q := 35) jd_C_exchangeReversal_32 rfl ?_
    refine ja_iload_n O (q := 36) jd_C_exchangeReversal_35 rfl rfl rfl ?_
    refine jl_18 O  rfl (by first | assumption | omega) (q := 37) jd_C_exchangeReversal_36 rfl ?_
    refine jm_C_239 O (d := 1) ⟨by decide, by decide⟩ (Nat.le_of_ble_eq_true rfl) ⟨by decide, by decide⟩ (co_H_receiveReversal K (S := (cf_fate S).2) _ _ t ht g30 gj) (q := 40) jd_C_exchangeReversal_37 rfl (fun S' h => ?_)
    subst h
    rw [g31]
    have k30 : cf_rev (cf_fate S).2 t (S 31 i) 30 i = nI t := by rw [jp_rev_v rfl rfl]; exact g30
    have k31 : cf_rev (cf_fate S).2 t (S 31 i) 31 i = S 31 i := by rw [jp_rev_v rfl rfl]; exact g31
    have kj : cf_rev (cf_fate S).2 t (S 31 i) 24 t = 2 → ∃ j, j < 8 ∧ cf_rev (cf_fate S).2 t (S 31 i) 25 t = nI j := by rw [jp_rev_v rfl rfl, jp_rev_v rfl rfl]; exact gj
    refine ja_iload_n O (q := 41) jd_C_exchangeReversal_40 rfl rfl rfl ?_
    refine ja_iconst O (q := 42) (v := 3) jd_C_exchangeReversal_41 rfl (by decide) ?_
    refine ja_icmp_ne O (g := 70) (q := 45) jd_C_exchangeReversal_42 (by decide) rfl (fun h_42 => ?_) (fun h_42 => ?_)
    · refine ja_iload_n O (q := 71) jd_C_exchangeReversal_70 rfl rfl rfl ?_
      refine ja_iconst O (q := 72) (v := 2) jd_C_exchangeReversal_71 rfl (by decide) ?_
      refine ja_icmp_eq O (g := 79) (q := 75) jd_C_exchangeReversal_72 (by decide) rfl (fun h_72 => ?_) (fun h_72 => ?_)
      · refine ja_iconst O (q := 80) (v := 0) jd_C_exchangeReversal_79 rfl (by decide) ?_
        exact jo_zr O hr hk (by first | assumption | exact Or.inl rfl | exact Or.inr rfl) (by have h1 : ¬ (cf_fate S).1 = 1 := h_10; first | (have h3 : (cf_fate S).1 = 3 := h_42; simp only [cf_xv, if_neg h1, if_pos h3]; simp [h_72]; done) | (have h3 : ¬ (cf_fate S).1 = 3 := h_42; simp only [cf_xv, if_neg h1, if_neg h3]; simp [h_72]; done)) jd_C_exchangeReversal_80
      · refine ja_iconst O (q := 76) (v := 1) jd_C_exchangeReversal_75 rfl (by decide) ?_
        refine ja_goto O (g := 80) jd_C_exchangeReversal_76 (by decide) ?_
        exact jo_zr O hr hk (by first | assumption | exact Or.inl rfl | exact Or.inr rfl) (by have h1 : ¬ (cf_fate S).1 = 1 := h_10; first | (have h3 : (cf_fate S).1 = 3 := h_42; simp only [cf_xv, if_neg h1, if_pos h3]; simp [h_72]; done) | (have h3 : ¬ (cf_fate S).1 = 3 := h_42; simp only [cf_xv, if_neg h1, if_neg h3]; simp [h_72]; done)) jd_C_exchangeReversal_80
    · refine ja_aload_n O (q := 46) jd_C_exchangeReversal_45 rfl rfl rfl ?_
      refine jg_C_10 O (q := 49) jd_C_exchangeReversal_46 rfl ?_
      refine ja_aload_n O (q := 50) jd_C_exchangeReversal_49 rfl rfl rfl ?_
      refine jg_C_40 O (q := 53) jd_C_exchangeReversal_50 rfl ?_
      refine jg_C_236 O (q := 56) jd_C_exchangeReversal_53 rfl ?_
      refine ja_iload_n O (q := 57) jd_C_exchangeReversal_56 rfl rfl rfl ?_
      refine jl_17 O  rfl (by first | assumption | omega) (q := 58) jd_C_exchangeReversal_57 rfl ?_
      refine ja_aload_n O (q := 59) jd_C_exchangeReversal_58 rfl rfl rfl ?_
      refine jg_C_40 O (q := 62) jd_C_exchangeReversal_59 rfl ?_
      refine jg_C_180 O (q := 65) jd_C_exchangeReversal_62 rfl ?_
      refine ja_iload_n O (q := 66) jd_C_exchangeReversal_65 rfl rfl rfl ?_
      refine jl_18 O  rfl (by first | assumption | omega) (q := 67) jd_C_exchangeReversal_66 rfl ?_
      refine jm_C_239 O (d := 1) ⟨by decide, by decide⟩ (Nat.le_of_ble_eq_true rfl) ⟨by decide, by decide⟩ (co_H_receiveReversal K (S := cf_rev (cf_fate S).2 t (S 31 i)) _ _ t ht k30 kj) (q := 70) jd_C_exchangeReversal_67 rfl (fun S' h => ?_)
      subst h
      rw [k31]
      refine ja_iload_n O (q := 71) jd_C_exchangeReversal_70 rfl rfl rfl ?_
      refine ja_iconst O (q := 72) (v := 2) jd_C_exchangeReversal_71 rfl (by decide) ?_
      refine ja_icmp_eq O (g := 79) (q := 75) jd_C_exchangeReversal_72 (by decide) rfl (fun h_72 => ?_) (fun h_72 => ?_)
      · refine ja_iconst O (q := 80) (v := 0) jd_C_exchangeReversal_79 rfl (by decide) ?_
        exact jo_zr O hr hk (by first | assumption | exact Or.inl rfl | exact Or.inr rfl) (by have h1 : ¬ (cf_fate S).1 = 1 := h_10; first | (have h3 : (cf_fate S).1 = 3 := h_42; simp only [cf_xv, if_neg h1, if_pos h3]; simp [h_72]; done) | (have h3 : ¬ (cf_fate S).1 = 3 := h_42; simp only [cf_xv, if_neg h1, if_neg h3]; simp [h_72]; done)) jd_C_exchangeReversal_80
      · refine ja_iconst O (q := 76) (v := 1) jd_C_exchangeReversal_75 rfl (by decide) ?_
        refine ja_goto O (g := 80) jd_C_exchangeReversal_76 (by decide) ?_
        exact jo_zr O hr hk (by first | assumption | exact Or.inl rfl | exact Or.inr rfl) (by have h1 : ¬ (cf_fate S).1 = 1 := h_10; first | (have h3 : (cf_fate S).1 = 3 := h_42; simp only [cf_xv, if_neg h1, if_pos h3]; simp [h_72]; done) | (have h3 : ¬ (cf_fate S).1 = 3 := h_42; simp only [cf_xv, if_neg h1, if_neg h3]; simp [h_72]; done)) jd_C_exchangeReversal_80
  · refine ja_iconst O (q := 14) (v := 0) jd_C_exchangeReversal_13 rfl (by decide) ?_
    exact jo_zr O hr hk (by first | assumption | exact Or.inl rfl | exact Or.inr rfl) (by simp only [cf_xv, if_pos h_10]; exact ⟨trivial, trivial⟩) jd_C_exchangeReversal_14
