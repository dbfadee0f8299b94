/-! CONTRACTS of the class, by program (wip/whole/gen/p11.py): host, line, journal. The steps as functions of the state. -/
def cf_end (C : ja_S) : ja_S := jb_u (jb_u C 1 0 (-1)) 2 0 0
def cf_fail (C : ja_S) (p : Int32) : Int32 × ja_S := if C 3 0 = p then (1, cf_end (jb_u (jb_u C 3 0 0) 0 0 0)) else (0, C)
def cf_fate (C : ja_S) : Int32 × ja_S := if C 4 0 = 0 then (0, C) else (C 27 0, jb_sv (jb_u C 4 0 (C 4 0 - 1)) 27 (va_cpy (C 27) (C 27) 1 0 ((C 4 0).toNatClampNeg - 1)))
def cf_dec (C : ja_S) (t j : Nat) (x : Int32) : Int32 × ja_S := if C 26 t = 0 ∧ C 16 j = 0 ∧ x ≤ C 14 j then (2, jb_u C 14 j (C 14 j - x)) else (-1, C)
def cf_rq (C : ja_S) (t j : Nat) (x : Int32) : ja_S := if C 24 t = 0 then jb_u (jb_u (cf_dec C t j x).2 24 t (cf_dec C t j x).1) 25 t (nI j) else C
def cf_req (C : ja_S) (t j : Nat) (x : Int32) : Int32 × ja_S := (if cf_rq C t j x 24 t = 2 then 1 else 0, cf_rq C t j x)
def cf_rev (C : ja_S) (t : Nat) (x : Int32) : ja_S := jb_u (if C 26 t = 0 ∧ C 24 t = 2 then jb_u C 14 (C 25 t).toNatClampNeg (C 14 (C 25 t).toNatClampNeg + x) else C) 26 t 1
def cf_owe (C : ja_S) (t x : Int32) : ja_S := jb_u (jb_u (jb_u C 30 (C 10 0).toNatClampNeg t) 31 (C 10 0).toNatClampNeg x) 10 0 (C 10 0 + 1)
def cf_give (C : ja_S) (e : Nat) : ja_S := cf_owe (jb_u C 22 e 4) (C 19 e) (C 21 e)
def cf_fin (C : ja_S) (e : Nat) (v : Int32) : ja_S := if C 21 e ≤ v then jb_u (jb_u C 22 e 3) 23 e v else cf_owe (jb_u (jb_u C 22 e 3) 23 e v) (C 19 e) (C 21 e - v)
def cf_pfor (C : ja_S) (t : Int32) : Int32 := if t = C 7 0 then C 8 0 else 0
set_option maxRecDepth 100000 in
theorem co_C_failsAt {l : Launch} {s0 : State} {a0 : Array Value} {G : jb_Gt} {ad : Nat → Nat} (K : jo_G s0 a0 G ad) {S : ja_S} (x : Int32) : jo_C l s0 G ad jy_C_failsAt jc_C_failsAt 2 (some .boolean) 2 [.ref (ad 0), .int x] S (jo_i fun r S' => r = (cf_fail S x).1 ∧ S' = (cf_fail S x).2) := by
  refine jo_of K (by decide) rfl (Nat.le_of_ble_eq_true rfl) ?_
  intro p e s m args below meth c O hr hk
  refine ja_aload_n O (q := 1) jd_C_failsAt_0 rfl rfl rfl ?_
  refine jg_C_55 O (q := 4) jd_C_failsAt_1 rfl ?_
  refine ja_iload_n O (q := 5) jd_C_failsAt_4 rfl rfl rfl ?_
  refine ja_icmp_eq O (g := 10) (q := 8) jd_C_failsAt_5 (by decide) rfl (fun h_5 => ?_) (fun h_5 => ?_)
  · refine ja_aload_n O (q := 11) jd_C_failsAt_10 rfl rfl rfl ?_
    refine ja_iconst O (q := 12) (v := 0) jd_C_failsAt_11 rfl (by decide) ?_
    refine jp_C_55 O (q := 15) jd_C_failsAt_12 rfl ?_
    refine ja_aload_n O (q := 16) jd_C_failsAt_15 rfl rfl rfl ?_
    refine ja_iconst O (q := 17) (v := 0) jd_C_failsAt_16 rfl (by decide) ?_
    refine jp_C_44 O (by first | assumption | exact Or.inl rfl | exact Or.inr rfl) (q := 20) jd_C_failsAt_17 rfl ?_
    refine ja_aload_n O (q := 21) jd_C_failsAt_20 rfl rfl rfl ?_
    refine jm_C_106 O (d := 1) ⟨by decide, by decide⟩ (Nat.le_of_ble_eq_true rfl) ⟨by decide, by decide⟩ (co_C_endSession K) (q := 24) jd_C_failsAt_21 rfl (fun S' h => ?_)
    subst h
    refine ja_iconst O (q := 25) (v := 1) jd_C_failsAt_24 rfl (by decide) ?_
    exact jo_zr O hr hk (by first | assumption | exact Or.inl rfl | exact Or.inr rfl) ⟨by simp [cf_fail, h_5], by simp [cf_fail, h_5, cf_end]⟩ jd_C_failsAt_25
  · refine ja_iconst O (q := 9) (v := 0) jd_C_failsAt_8 rfl (by decide) ?_
    exact jo_zr O hr hk (by first | assumption | exact Or.inl rfl | exact Or.inr rfl) (by simp [cf_fail, h_5]) jd_C_failsAt_9
set_option maxRecDepth 100000 in
theorem co_D_presentedFor {l : Launch} {s0 : State} {a0 : Array Value} {G : jb_Gt} {ad : Nat → Nat} (K : jo_G s0 a0 G ad) {S : ja_S} (x : Int32) : jo_C l s0 G ad jy_D_presentedFor jc_D_presentedFor 2 (some .int) 1 [.ref (ad 3), .int x] S (jo_i fun r S' => r = cf_pfor S x ∧ S' = S) := by
  refine jo_of K (by decide) rfl (Nat.le_of_ble_eq_true rfl) ?_
  intro p e s m args below meth c O hr hk
  refine ja_iload_n O (q := 1) jd_D_presentedFor_0 rfl rfl rfl ?_
  refine ja_aload_n O (q := 2) jd_D_presentedFor_1 rfl rfl rfl ?_
  refine jg_D_31 O (q := 5) jd_D_presentedFor_2 rfl ?_
  refine ja_icmp_ne O (g := 15) (q := 8) jd_D_presentedFor_5 (by decide) rfl (fun h_5 => ?_) (fun h_5 => ?_)
  · refine ja_iconst O (q := 16) (v := 0) jd_D_presentedFor_15 rfl (by decide) ?_
    exact jo_ir O hr hk (by simp [cf_pfor, h_5]) jd_D_presentedFor_16
  · refine ja_aload_n O (q := 9) jd_D_presentedFor_8 rfl rfl rfl ?_
    refine jg_D_34 O (q := 12) jd_D_presentedFor_9 rfl ?_
    refine ja_goto O (g := 16) jd_D_presentedFor_12 (by decide) ?_
    exact jo_ir O hr hk (by simp [cf_pfor, h_5]) jd_D_presentedFor_16
theorem jp_owe {C : ja_S} {k : Nat} (h10 : C 10 0 = nI k) (hk : k < 40) (t x : Int32) : jb_u (jb_u (jb_u C 30 k t) 31 k x) 10 0 (nI (k + 1)) = cf_owe C t x := by
  unfold cf_owe; rw [h10, nI_clamp (by omega), nI_1]
set_option maxRecDepth 100000 in
theorem co_C_giveUp {l : Launch} {s0 : State} {a0 : Array Value} {G : jb_Gt} {ad : Nat → Nat} (K : jo_G s0 a0 G ad) {S : ja_S} (e : Nat) (he : e < 40) (k : Nat) (hk9 : k < 40) (h10 : S 10 0 = nI k) : jo_C l s0 G ad jy_C_giveUp jc_C_giveUp 2 none 2 [.ref (ad 0), .ref (ad (50 + e))] S (jo_v fun S' => S' = cf_give S e) := by
  refine jo_of K (by decide) rfl (Nat.le_of_ble_eq_true rfl) ?_
  intro p e0 s m args below meth c O hr hk
  refine ja_aload_n O (q := 1) jd_C_giveUp_0 rfl rfl rfl ?_
  refine ja_iconst O (q := 2) (v := 4) jd_C_giveUp_1 rfl (by decide) ?_
  refine jp_C_166 O (by first | assumption | omega) (q := 5) jd_C_giveUp_2 rfl ?_
  refine ja_aload_n O (q := 6) jd_C_giveUp_5 rfl rfl rfl ?_
  refine jg_C_40 O (q := 9) jd_C_giveUp_6 rfl ?_
  refine ja_aload_n O (q := 10) jd_C_giveUp_9 rfl rfl rfl ?_
  refine jg_C_213 O (by first | assumption | omega) (q := 13) jd_C_giveUp_10 rfl ?_
  refine ja_aload_n O (q := 14) jd_C_giveUp_13 rfl rfl rfl ?_
  refine jg_C_174 O (by first | assumption | omega) (q := 17) jd_C_giveUp_14 rfl ?_
  refine jm_C_224 O (d := 1) ⟨by decide, by decide⟩ (Nat.le_of_ble_eq_true rfl) ⟨by decide, by decide⟩ (co_R_add K (S := jb_u S 22 e 4) k hk9 h10 _ _) (q := 20) jd_C_giveUp_17 rfl (fun S' h => ?_)
  subst h
  exact jo_vr O hr hk (jp_owe (C := jb_u S 22 e 4) h10 hk9 _ _) jd_C_giveUp_20
set_option maxRecDepth 100000 in
theorem co_C_finish {l : Launch} {s0 : State} {a0 : Array Value} {G : jb_Gt} {ad : Nat → Nat} (K : jo_G s0 a0 G ad) {S : ja_S} (e : Nat) (he : e < 40) (k : Nat) (hk9 : k < 40) (h10 : S 10 0 = nI k) (v : Int32) : jo_C l s0 G ad jy_C_finish jc_C_finish 3 none 2 [.ref (ad 0), .ref (ad (50 + e)), .int v] S (jo_v fun S' => S' = cf_fin S e v) := by
  refine jo_of K (by decide) rfl (Nat.le_of_ble_eq_true rfl) ?_
  intro p e0 s m args below meth c O hr hk
  refine ja_aload_n O (q := 1) jd_C_finish_0 rfl rfl rfl ?_
  refine ja_iconst O (q := 2) (v := 3) jd_C_finish_1 rfl (by decide) ?_
  refine jp_C_166 O (by first | assumption | omega) (q := 5) jd_C_finish_2 rfl ?_
  refine ja_aload_n O (q := 6) jd_C_finish_5 rfl rfl rfl ?_
  refine ja_iload_n O (q := 7) jd_C_finish_6 rfl rfl rfl ?_
  refine jp_C_177 O (by first | assumption | omega) (q := 10) jd_C_finish_7 rfl ?_
  refine ja_iload_n O (q := 11) jd_C_finish_10 rfl rfl rfl ?_
  refine ja_aload_n O (q := 12) jd_C_finish_11 rfl rfl rfl ?_
  refine jg_C_174 O (by first | assumption | omega) (q := 15) jd_C_finish_12 rfl ?_
  refine ja_icmp_ge O (g := 35) (q := 18) jd_C_finish_15 (by decide) rfl (fun h_15 => ?_) (fun h_15 => ?_)
  · exact jo_vr O hr hk (by first | (simp only [cf_fin, if_pos (show S 21 e ≤ v from h_15)]) | (simp only [cf_fin, if_neg (show ¬ S 21 e ≤ v from h_15)]; exact jp_owe (C := jb_u (jb_u S 22 e 3) 23 e v) h10 hk9 _ _)) jd_C_finish_35
  · refine ja_aload_n O (q := 19) jd_C_finish_18 rfl rfl rfl ?_
    refine jg_C_40 O (q := 22) jd_C_finish_19 rfl ?_
    refine ja_aload_n O (q := 23) jd_C_finish_22 rfl rfl rfl ?_
    refine jg_C_213 O (by first | assumption | omega) (q := 26) jd_C_finish_23 rfl ?_
    refine ja_aload_n O (q := 27) jd_C_finish_26 rfl rfl rfl ?_
    refine jg_C_174 O (by first | assumption | omega) (q := 30) jd_C_finish_27 rfl ?_
    refine ja_iload_n O (q := 31) jd_C_finish_30 rfl rfl rfl ?_
    refine ja_isub O (q := 32) jd_C_finish_31 rfl ?_
    refine jm_C_224 O (d := 1) ⟨by decide, by decide⟩ (Nat.le_of_ble_eq_true rfl) ⟨by decide, by decide⟩ (co_R_add K (S := jb_u (jb_u S 22 e 3) 23 e v) k hk9 h10 _ _) (q := 35) jd_C_finish_32 rfl (fun S' h => ?_)
    subst h
    exact jo_vr O hr hk (by first | (simp only [cf_fin, if_pos (show S 21 e ≤ v from h_15)]) | (simp only [cf_fin, if_neg (show ¬ S 21 e ≤ v from h_15)]; exact jp_owe (C := jb_u (jb_u S 22 e 3) 23 e v) h10 hk9 _ _)) jd_C_finish_35
set_option maxRecDepth 100000 in
theorem co_H_decide {l : Launch} {s0 : State} {a0 : Array Value} {G : jb_Gt} {ad : Nat → Nat} (K : jo_G s0 a0 G ad) {S : ja_S} (x y z : Int32) (t j : Nat) (ht : t < 41) (hj : j < 8) (hx : x = nI t) : jo_C l s0 G ad jy_H_decide jc_H_decide 4 (some .int) 1 [.ref (ad 1), .int x, .ref (ad (38 + j)), .int z] S (jo_i fun r S' => r = (cf_dec S t j z).1 ∧ S' = (cf_dec S t j z).2) := by
  refine jo_of K (by decide) rfl (Nat.le_of_ble_eq_true rfl) ?_
  intro p e s m args below meth c O hr hk
  refine ja_aload_n O (q := 1) jd_H_decide_0 rfl rfl rfl ?_
  refine jg_H_24 O (q := 4) jd_H_decide_1 rfl ?_
  refine ja_iload_n O (q := 5) jd_H_decide_4 rfl rfl rfl ?_
  refine jl_11 O (k := t) hx (by first | assumption | omega) (q := 6) jd_H_decide_5 rfl ?_
  refine ja_if_ne O (g := 24) (q := 9) jd_H_decide_6 (by decide) rfl (fun h_6 => ?_) (fun h_6 => ?_)
  · refine ja_iconst O (q := 25) (v := (-1)) jd_H_decide_24 rfl (by decide) ?_
    exact jo_ir O hr hk (by first | (simp only [cf_dec]; rw [if_neg (fun q => h_6 q.1)]; exact ⟨rfl, rfl⟩) | (simp only [cf_dec]; rw [if_neg (fun q => h_13 q.2.1)]; exact ⟨rfl, rfl⟩) | (simp only [cf_dec]; rw [if_neg (fun q => h_21 q.2.2)]; exact ⟨rfl, rfl⟩)) jd_H_decide_25
  · refine ja_aload_n O (q := 10) jd_H_decide_9 rfl rfl rfl ?_
    refine jg_H_51 O (by first | assumption | omega) (q := 13) jd_H_decide_10 rfl ?_
    refine ja_if_ne O (g := 24) (q := 16) jd_H_decide_13 (by decide) rfl (fun h_13 => ?_) (fun h_13 => ?_)
    · refine ja_iconst O (q := 25) (v := (-1)) jd_H_decide_24 rfl (by decide) ?_
      exact jo_ir O hr hk (by first | (simp only [cf_dec]; rw [if_neg (fun q => h_6 q.1)]; exact ⟨rfl, rfl⟩) | (simp only [cf_dec]; rw [if_neg (fun q => h_13 q.2.1)]; exact ⟨rfl, rfl⟩) | (simp only [cf_dec]; rw [if_neg (fun q => h_21 q.2.2)]; exact ⟨rfl, rfl⟩)) jd_H_decide_25
    · refine ja_aload_n O (q := 17) jd_H_decide_16 rfl rfl rfl ?_
      refine jg_H_44 O (by first | assumption | omega) (q := 20) jd_H_decide_17 rfl ?_
      refine ja_iload_n O (q := 21) jd_H_decide_20 rfl rfl rfl ?_
      refine ja_icmp_ge O (g := 26) (q := 24) jd_H_decide_21 (by decide) rfl (fun h_21 => ?_) (fun h_21 => ?_)
      · refine ja_aload_n O (q := 27) jd_H_decide_26 rfl rfl rfl ?_
        refine ja_dup O (q := 28) jd_H_decide_27 rfl rfl ?_
        refine jg_H_44 O (by first | assumption | omega) (q := 31) jd_H_decide_28 rfl ?_
        refine ja_iload_n O (q := 32) jd_H_decide_31 rfl rfl rfl ?_
        refine ja_isub O (q := 33) jd_H_decide_32 rfl ?_
        refine jp_H_44 O (by first | assumption | omega) (q := 36) jd_H_decide_33 rfl ?_
        refine ja_iconst O (q := 37) (v := 2) jd_H_decide_36 rfl (by decide) ?_
        exact jo_ir O hr hk (by simp only [cf_dec]; rw [if_pos ⟨h_6, h_13, h_21⟩]; exact ⟨rfl, rfl⟩) jd_H_decide_37
      · refine ja_iconst O (q := 25) (v := (-1)) jd_H_decide_24 rfl (by decide) ?_
        exact jo_ir O hr hk (by first | (simp only [cf_dec]; rw [if_neg (fun q => h_6 q.1)]; exact ⟨rfl, rfl⟩) | (simp only [cf_dec]; rw [if_neg (fun q => h_13 q.2.1)]; exact ⟨rfl, rfl⟩) | (simp only [cf_dec]; rw [if_neg (fun q => h_21 q.2.2)]; exact ⟨rfl, rfl⟩)) jd_H_decide_25
set_option maxRecDepth 100000 in
theorem co_H_receiveRequest {l : Launch} {s0 : State} {a0 : Array Value} {G : jb_Gt} {ad : Nat → Nat} (K : jo_G s0 a0 G ad) {S : ja_S} (x y z : Int32) (t j : Nat) (ht : t < 41) (hj : j < 8) (hx : x = nI t) (hy : y = nI j) : jo_C l s0 G ad jy_H_receiveRequest jc_H_receiveRequest 4 (some .boolean) 2 [.ref (ad 1), .int x, .int y, .int z] S (jo_i fun r S' => r = (cf_req S t j z).1 ∧ S' = (cf_req S t j z).2) := by
  refine jo_of K (by decide) rfl (Nat.le_of_ble_eq_true rfl) ?_
  intro p e s m args below meth c O hr hk
  refine ja_aload_n O (q := 1) jd_H_receiveRequest_0 rfl rfl rfl ?_
  refine jg_H_17 O (q := 4) jd_H_receiveRequest_1 rfl ?_
  refine ja_iload_n O (q := 5) jd_H_receiveRequest_4 rfl rfl rfl ?_
  refine jl_9 O (k := t) hx (by first | assumption | omega) (q := 6) jd_H_receiveRequest_5 rfl ?_
  refine ja_if_ne O (g := 34) (q := 9) jd_H_receiveRequest_6 (by decide) rfl (fun h_6 => ?_) (fun h_6 => ?_)
  · refine ja_aload_n O (q := 35) jd_H_receiveRequest_34 rfl rfl rfl ?_
    refine jg_H_17 O (q := 38) jd_H_receiveRequest_35 rfl ?_
    refine ja_iload_n O (q := 39) jd_H_receiveRequest_38 rfl rfl rfl ?_
    refine jl_9 O (k := t) hx (by first | assumption | omega) (q := 40) jd_H_receiveRequest_39 rfl ?_
    refine ja_iconst O (q := 41) (v := 2) jd_H_receiveRequest_40 rfl (by decide) ?_
    refine ja_icmp_ne O (g := 48) (q := 44) jd_H_receiveRequest_41 (by decide) rfl (fun h_41 => ?_) (fun h_41 => ?_)
    · refine ja_iconst O (q := 49) (v := 0) jd_H_receiveRequest_48 rfl (by decide) ?_
      exact jo_zr O hr hk (by first | assumption | exact Or.inl rfl | exact Or.inr rfl) (by first | (have e1 : cf_rq S t j z = S := by simp only [cf_rq]; rw [if_neg h_6]); simp only [cf_req, e1]; simp [h_41] | (have e1 : cf_rq S t j z = jb_u (jb_u (cf_dec S t j z).2 24 t (cf_dec S t j z).1) 25 t y := by simp only [cf_rq]; rw [if_pos h_6, hy]); rw [← e1] at h_41; simp only [cf_req, e1] at *; simp_all) jd_H_receiveRequest_49
    · refine ja_iconst O (q := 45) (v := 1) jd_H_receiveRequest_44 rfl (by decide) ?_
      refine ja_goto O (g := 49) jd_H_receiveRequest_45 (by decide) ?_
      exact jo_zr O hr hk (by first | assumption | exact Or.inl rfl | exact Or.inr rfl) (by first | (have e1 : cf_rq S t j z = S := by simp only [cf_rq]; rw [if_neg h_6]); simp only [cf_req, e1]; simp [h_41] | (have e1 : cf_rq S t j z = jb_u (jb_u (cf_dec S t j z).2 24 t (cf_dec S t j z).1) 25 t y := by simp only [cf_rq]; rw [if_pos h_6, hy]); rw [← e1] at h_41; simp only [cf_req, e1] at *; simp_all) jd_H_receiveRequest_49
  · refine ja_aload_n O (q := 10) jd_H_receiveRequest_9 rfl rfl rfl ?_
    refine jg_H_17 O (q := 13) jd_H_receiveRequest_10 rfl ?_
    refine ja_iload_n O (q := 14) jd_H_receiveRequest_13 rfl rfl rfl ?_
    refine ja_aload_n O (q := 15) jd_H_receiveRequest_14 rfl rfl rfl ?_
    refine ja_iload_n O (q := 16) jd_H_receiveRequest_15 rfl rfl rfl ?_
    refine ja_aload_n O (q := 17) jd_H_receiveRequest_16 rfl rfl rfl ?_
    refine jg_H_11 O (q := 20) jd_H_receiveRequest_17 rfl ?_
    refine ja_iload_n O (q := 21) jd_H_receiveRequest_20 rfl rfl rfl ?_
    refine jl_8 O (k := j) hy (by first | assumption | omega) (q := 22) jd_H_receiveRequest_21 rfl ?_
    refine ja_iload_n O (q := 23) jd_H_receiveRequest_22 rfl rfl rfl ?_
    refine jm_H_47 O (d := 1) ⟨by decide, by decide⟩ (Nat.le_of_ble_eq_true rfl) ⟨by decide, by decide⟩ (co_H_decide K x y z t j ht hj hx) (q := 26) jd_H_receiveRequest_23 rfl (fun r S' h => ?_)
    obtain ⟨rfl, rfl⟩ := h
    refine js_9 O (k := t) hx (by first | assumption | omega) (q := 27) jd_H_receiveRequest_26 rfl ?_
    refine ja_aload_n O (q := 28) jd_H_receiveRequest_27 rfl rfl rfl ?_
    refine jg_H_21 O (q := 31) jd_H_receiveRequest_28 rfl ?_
    refine ja_iload_n O (q := 32) jd_H_receiveRequest_31 rfl rfl rfl ?_
    refine ja_iload_n O (q := 33) jd_H_receiveRequest_32 rfl rfl rfl ?_
    refine js_10 O (k := t) hx (by first | assumption | omega) (q := 34) jd_H_receiveRequest_33 rfl ?_
    refine ja_aload_n O (q := 35) jd_H_receiveRequest_34 rfl rfl rfl ?_
    refine jg_H_17 O (q := 38) jd_H_receiveRequest_35 rfl ?_
    refine ja_iload_n O (q := 39) jd_H_receiveRequest_38 rfl rfl rfl ?_
    refine jl_9 O (k := t) hx (by first | assumption | omega) (q := 40) jd_H_receiveRequest_39 rfl ?_
    refine ja_iconst O (q := 41) (v := 2) jd_H_receiveRequest_40 rfl (by decide) ?_
    refine ja_icmp_ne O (g := 48) (q := 44) jd_H_receiveRequest_41 (by decide) rfl (fun h_41 => ?_) (fun h_41 => ?_)
    · refine ja_iconst O (q := 49) (v := 0) jd_H_receiveRequest_48 rfl (by decide) ?_
      exact jo_zr O hr hk (by first | assumption | exact Or.inl rfl | exact Or.inr rfl) (by first | (have e1 : cf_rq S t j z = S := by simp only [cf_rq]; rw [if_neg h_6]); simp only [cf_req, e1]; simp [h_41] | (have e1 : cf_rq S t j z = jb_u (jb_u (cf_dec S t j z).2 24 t (cf_dec S t j z).1) 25 t y := by simp only [cf_rq]; rw [if_pos h_6, hy]); rw [← e1] at h_41; simp only [cf_req, e1] at *; simp_all) jd_H_receiveRequest_49
    · refine ja_iconst O (q := 45) (v := 1) jd_H_receiveRequest_44 rfl (by decide) ?_
      refine ja_goto O (g := 49) jd_H_receiveRequest_45 (by decide) ?_
      exact jo_zr O hr hk (by first | assumption | exact Or.inl rfl | exact Or.inr rfl) (by first | (have e1 : cf_rq S t j z = S := by simp only [cf_rq]; rw [if_neg h_6]); simp only [cf_req, e1]; simp [h_41] | (have e1 : cf_rq S t j z = jb_u (jb_u (cf_dec S t j z).2 24 t (cf_dec S t j z).1) 25 t y := by simp only [cf_rq]; rw [if_pos h_6, hy]); rw [← e1] at h_41; simp only [cf_req, e1] at *; simp_all) jd_H_receiveRequest_49
set_option maxRecDepth 100000 in
theorem co_H_receiveReversal {l : Launch} {s0 : State} {a0 : Array Value} {G : jb_Gt} {ad : Nat → Nat} (K : jo_G s0 a0 G ad) {S : ja_S} (x z : Int32) (t : Nat) (ht : t < 41) (hx : x = nI t) (hj : S 24 t = 2 → ∃ j, j < 8 ∧ S 25 t = nI j) : jo_C l s0 G ad jy_H_receiveReversal jc_H_receiveReversal 3 none 1 [.ref (ad 1), .int x, .int z] S (jo_v fun S' => S' = cf_rev S t z) := by
  refine jo_of K (by decide) rfl (Nat.le_of_ble_eq_true rfl) ?_
  intro p e s m args below meth c O hr hk
  refine ja_aload_n O (q := 1) jd_H_receiveReversal_0 rfl rfl rfl ?_
  refine jg_H_24 O (q := 4) jd_H_receiveReversal_1 rfl ?_
  refine ja_iload_n O (q := 5) jd_H_receiveReversal_4 rfl rfl rfl ?_
  refine jl_11 O (k := t) hx (by first | assumption | omega) (q := 6) jd_H_receiveReversal_5 rfl ?_
  refine ja_if_ne O (g := 39) (q := 9) jd_H_receiveReversal_6 (by decide) rfl (fun h_6 => ?_) (fun h_6 => ?_)
  · refine ja_aload_n O (q := 40) jd_H_receiveReversal_39 rfl rfl rfl ?_
    refine jg_H_24 O (q := 43) jd_H_receiveReversal_40 rfl ?_
    refine ja_iload_n O (q := 44) jd_H_receiveReversal_43 rfl rfl rfl ?_
    refine ja_iconst O (q := 45) (v := 1) jd_H_receiveReversal_44 rfl (by decide) ?_
    refine js_11 O (k := t) hx (by first | assumption | omega) (by first | assumption | exact Or.inl rfl | exact Or.inr rfl) (q := 46) jd_H_receiveReversal_45 rfl ?_
    exact jo_vr O hr hk (by first | (simp only [cf_rev]; rw [if_neg (fun q => h_6 q.1)]) | (simp only [cf_rev]; rw [if_neg (fun q => h_16 q.2)]) | (simp only [cf_rev]; rw [if_pos ⟨h_6, h_16⟩, hj25, nI_clamp (by omega)])) jd_H_receiveReversal_46
  · refine ja_aload_n O (q := 10) jd_H_receiveReversal_9 rfl rfl rfl ?_
    refine jg_H_17 O (q := 13) jd_H_receiveReversal_10 rfl ?_
    refine ja_iload_n O (q := 14) jd_H_receiveReversal_13 rfl rfl rfl ?_
    refine jl_9 O (k := t) hx (by first | assumption | omega) (q := 15) jd_H_receiveReversal_14 rfl ?_
    refine ja_iconst O (q := 16) (v := 2) jd_H_receiveReversal_15 rfl (by decide) ?_
    refine ja_icmp_ne O (g := 39) (q := 19) jd_H_receiveReversal_16 (by decide) rfl (fun h_16 => ?_) (fun h_16 => ?_)
    · refine ja_aload_n O (q := 40) jd_H_receiveReversal_39 rfl rfl rfl ?_
      refine jg_H_24 O (q := 43) jd_H_receiveReversal_40 rfl ?_
      refine ja_iload_n O (q := 44) jd_H_receiveReversal_43 rfl rfl rfl ?_
      refine ja_iconst O (q := 45) (v := 1) jd_H_receiveReversal_44 rfl (by decide) ?_
      refine js_11 O (k := t) hx (by first | assumption | omega) (by first | assumption | exact Or.inl rfl | exact Or.inr rfl) (q := 46) jd_H_receiveReversal_45 rfl ?_
      exact jo_vr O hr hk (by first | (simp only [cf_rev]; rw [if_neg (fun q => h_6 q.1)]) | (simp only [cf_rev]; rw [if_neg (fun q => h_16 q.2)]) | (simp only [cf_rev]; rw [if_pos ⟨h_6, h_16⟩, hj25, nI_clamp (by omega)])) jd_H_receiveReversal_46
    · obtain ⟨j, hj8, hj25⟩ := hj h_16
      refine ja_aload_n O (q := 20) jd_H_receiveReversal_19 rfl rfl rfl ?_
      refine jg_H_11 O (q := 23) jd_H_receiveReversal_20 rfl ?_
      refine ja_aload_n O (q := 24) jd_H_receiveReversal_23 rfl rfl rfl ?_
      refine jg_H_21 O (q := 27) jd_H_receiveReversal_24 rfl ?_
      refine ja_iload_n O (q := 28) jd_H_receiveReversal_27 rfl rfl rfl ?_
      refine jl_10 O (k := t) hx (by first | assumption | omega) (q := 29) jd_H_receiveReversal_28 rfl ?_
      refine jl_8 O (k := j) hj25 (by first | assumption | omega) (q := 30) jd_H_receiveReversal_29 rfl ?_
      refine ja_dup O (q := 31) jd_H_receiveReversal_30 rfl rfl ?_
      refine jg_H_44 O (by first | assumption | omega) (q := 34) jd_H_receiveReversal_31 rfl ?_
      refine ja_iload_n O (q := 35) jd_H_receiveReversal_34 rfl rfl rfl ?_
      refine ja_iadd O (q := 36) jd_H_receiveReversal_35 rfl ?_
      refine jp_H_44 O (by first | assumption | omega) (q := 39) jd_H_receiveReversal_36 rfl ?_
      refine ja_aload_n O (q := 40) jd_H_receiveReversal_39 rfl rfl rfl ?_
      refine jg_H_24 O (q := 43) jd_H_receiveReversal_40 rfl ?_
      refine ja_iload_n O (q := 44) jd_H_receiveReversal_43 rfl rfl rfl ?_
      refine ja_iconst O (q := 45) (v := 1) jd_H_receiveReversal_44 rfl (by decide) ?_
      refine js_11 O (k := t) hx (by first | assumption | omega) (by first | assumption | exact Or.inl rfl | exact Or.inr rfl) (q := 46) jd_H_receiveReversal_45 rfl ?_
      exact jo_vr O hr hk (by first | (simp only [cf_rev]; rw [if_neg (fun q => h_6 q.1)]) | (simp only [cf_rev]; rw [if_neg (fun q => h_16 q.2)]) | (simp only [cf_rev]; rw [if_pos ⟨h_6, h_16⟩, hj25, nI_clamp (by omega)])) jd_H_receiveReversal_46
set_option maxRecDepth 100000 in
theorem co_H_takenFromBalances {l : Launch} {s0 : State} {a0 : Array Value} {G : jb_Gt} {ad : Nat → Nat} (K : jo_G s0 a0 G ad) {S : ja_S}  : jo_C l s0 G ad jy_H_takenFromBalances jc_H_takenFromBalances 6 (some .int) 1 [.ref (ad 1)] S (jo_i fun r S' => S' = S ∧ r = jp_sm (fun j => S 13 j - S 14 j) 8) := by
  refine jo_of K (by decide) rfl (Nat.le_of_ble_eq_true rfl) ?_
  intro p e s m args below meth c O hr hk
  have loop : ∀ (n : Nat) (i : Nat), i ≤ 8 → 8 < i + n → ja_V p l e (jo_r 1) s m args below meth c (jb_W G ad) s0.heap.size 6 0 0 (jo_M s0 G ad below args s (jo_i fun r S' => S' = S ∧ r = jp_sm (fun j => S 13 j - S 14 j) 8)) (S) 13 [(0, .ref (ad 1)), (1, .int (jp_sm (fun j => S 13 j - S 14 j) i)), (2, .ref (ad 8)), (3, .int (nI 8)), (4, .int (nI i))] [] := by
    intro n
    induction n with
    | zero => intro i hi hn; exact absurd hn (by omega)
    | succ n ih =>
      intro i hi hn
      refine ja_iload O (q := 15) jd_H_takenFromBalances_13 rfl rfl ?_
      refine ja_iload_n O (q := 16) jd_H_takenFromBalances_15 rfl rfl rfl ?_
      refine ja_icmp_ge O (g := 45) (q := 19) jd_H_takenFromBalances_16 (by decide) rfl (fun h_16 => ?_) (fun h_16 => ?_)
      · have hi8 : i = 8 := by
          rcases Nat.lt_or_ge i 8 with z | z
          · exact absurd h_16 (nI_ge z (by omega))
          · omega
        subst hi8
        refine ja_iload_n O (q := 46) jd_H_takenFromBalances_45 rfl rfl rfl ?_
        exact jo_ir O hr hk ⟨rfl, rfl⟩ jd_H_takenFromBalances_46
      · have hi8 : i < 8 := by
          rcases Nat.lt_or_ge i 8 with z | z
          · exact z
          · exact absurd (nI_le z (by omega)) h_16
        refine ja_aload_n O (q := 20) jd_H_takenFromBalances_19 rfl rfl rfl ?_
        refine ja_iload O (q := 22) jd_H_takenFromBalances_20 rfl rfl ?_
        refine jl_8 O (k := i) rfl (by first | assumption | omega) (q := 23) jd_H_takenFromBalances_22 rfl ?_
        refine ja_astore O (q := 25) jd_H_takenFromBalances_23 rfl (by decide) ?_
        refine ja_iload_n O (q := 26) jd_H_takenFromBalances_25 rfl rfl rfl ?_
        refine ja_aload O (q := 28) jd_H_takenFromBalances_26 rfl rfl ?_
        refine jg_H_41 O (by first | assumption | omega) (q := 31) jd_H_takenFromBalances_28 rfl ?_
        refine ja_aload O (q := 33) jd_H_takenFromBalances_31 rfl rfl ?_
        refine jg_H_44 O (by first | assumption | omega) (q := 36) jd_H_takenFromBalances_33 rfl ?_
        refine ja_isub O (q := 37) jd_H_takenFromBalances_36 rfl ?_
        refine ja_iadd O (q := 38) jd_H_takenFromBalances_37 rfl ?_
        refine ja_istore_n O (q := 39) jd_H_takenFromBalances_38 rfl rfl (by decide) ?_
        refine ja_iinc O (q := 42) (v := nI (i + 1)) jd_H_takenFromBalances_39 rfl rfl (nI_1 i) (by decide) ?_
        refine ja_goto O (g := 13) jd_H_takenFromBalances_42 (by decide) ?_
        refine ja_less (L' := [(0, .ref (ad 1)), (1, .int (jp_sm (fun j => S 13 j - S 14 j) (i + 1))), (2, .ref (ad 8)), (3, .int (nI 8)), (4, .int (nI (i + 1)))]) ⟨rfl, rfl, rfl, rfl, rfl, trivial⟩ ?_
        exact ih (i + 1) (by omega) (by omega)
  refine ja_iconst O (q := 1) (v := 0) jd_H_takenFromBalances_0 rfl (by decide) ?_
  refine ja_istore_n O (q := 2) jd_H_takenFromBalances_1 rfl rfl (by decide) ?_
  refine ja_aload_n O (q := 3) jd_H_takenFromBalances_2 rfl rfl rfl ?_
  refine jg_H_11 O (q := 6) jd_H_takenFromBalances_3 rfl ?_
  refine ja_astore_n O (q := 7) jd_H_takenFromBalances_6 rfl rfl (by decide) ?_
  refine ja_aload_n O (q := 8) jd_H_takenFromBalances_7 rfl rfl rfl ?_
  refine jn_8 O (q := 9) jd_H_takenFromBalances_8 rfl ?_
  refine ja_istore_n O (q := 10) jd_H_takenFromBalances_9 rfl rfl (by decide) ?_
  refine ja_iconst O (q := 11) (v := 0) jd_H_takenFromBalances_10 rfl (by decide) ?_
  refine ja_istore O (q := 13) jd_H_takenFromBalances_11 rfl (by decide) ?_
  refine ja_less (L' := [(0, .ref (ad 1)), (1, .int (jp_sm (fun j => S 13 j - S 14 j) 0)), (2, .ref (ad 8)), (3, .int (nI 8)), (4, .int (nI 0))]) ⟨rfl, rfl, rfl, rfl, rfl, trivial⟩ ?_
  exact loop 9 0 (by omega) (by omega)
