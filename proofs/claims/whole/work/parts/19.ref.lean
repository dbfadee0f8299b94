/-! CONTRACTS of the reference, by program (wip/whole/gen/p19.py): the small ones; what they do as functions mf_ of the state -/
def mf_cut (M : ja_S) (p : Int32) : Int32 × ja_S := if M 40 0 = p then (1, jb_u (jb_u (jb_u (jb_u M 40 0 0) 33 0 1) 34 0 (-1)) 35 0 0) else (0, M)
def mf_owe (M : ja_S) (t x : Int32) : ja_S := jb_u (jb_u (jb_u M 59 (M 37 0).toNatClampNeg t) 60 (M 37 0).toNatClampNeg x) 37 0 (M 37 0 + 1)
def mf_req (M : ja_S) (t j : Nat) : ja_S := if M 57 t = 0 then (if M 58 t = 0 ∧ M 49 j = 0 ∧ M 55 t ≤ M 47 j then jb_u (jb_u M 57 t 1) 47 j (M 47 j - M 55 t) else jb_u M 57 t 2) else M
def mf_rev (M : ja_S) (t : Nat) (x : Int32) : ja_S := jb_u (if M 58 t = 0 ∧ M 57 t = 1 then jb_u M 47 (M 54 t).toNatClampNeg (M 47 (M 54 t).toNatClampNeg + x) else M) 58 t 1
/-- the first n of f moved down by one -/
def mf_dn (f : Nat → Int32) (n : Nat) : Nat → Int32 := fun i => if i < n then f (i + 1) else f i
def mf_fate (M : ja_S) : Int32 × ja_S := if M 38 0 = 0 then (0, M) else (M 61 0, jb_sv (jb_u M 38 0 (M 38 0 - 1)) 61 (mf_dn (M 61) ((M 38 0).toNatClampNeg - 1)))
def mf_fin (M : ja_S) (t : Nat) (x : Int32) : ja_S := if M 55 t ≤ x then jb_u (jb_u M 53 t 3) 56 t x else mf_owe (jb_u (jb_u M 53 t 3) 56 t x) (nI t) (M 55 t - x)
theorem mf_dn0 {f : Nat → Int32} : mf_dn f 0 = f := by funext i; simp [mf_dn]
theorem mf_dnS {f : Nat → Int32} {i : Nat} : upd (mf_dn f i) i (mf_dn f i (i + 1)) = mf_dn f (i + 1) := by
  funext j
  rcases Nat.lt_trichotomy j i with h | h | h
  · rw [pk_un (by omega)]; simp [mf_dn, h, show j < i + 1 by omega]
  · subst h; rw [pk_us]; simp [mf_dn, show ¬ j + 1 < j by omega]
  · rw [pk_un (by omega)]; simp [mf_dn, show ¬ j < i by omega, show ¬ j < i + 1 by omega]
theorem jb_svw {S : ja_S} {v w : Nat} {f g : Nat → Int32} (h : Nat.beq v w = false) : jb_sv (jb_sv S v f) w g = jb_sv (jb_sv S w g) v f := by
  funext x
  simp only [jb_sv]
  cases h1 : Nat.beq x v <;> cases h2 : Nat.beq x w <;> simp
  have e1 := Nat.eq_of_beq_eq_true h1
  have e2 := Nat.eq_of_beq_eq_true h2
  rw [← e1, ← e2, Nat.beq_refl] at h
  cases h
set_option maxRecDepth 100000 in
theorem co_M_in {l : Launch} {s0 : State} {a0 : Array Value} {G : jb_Gt} {ad : Nat → Nat} (K : jo_G s0 a0 G ad) {S : ja_S} (x lo hi : Int32) : jo_C l s0 G ad jy_M_in jc_M_in 3 (some .boolean) 1 [.int x, .int lo, .int hi] S (jo_i fun r S' => S' = S ∧ (r = 0 ∨ r = 1) ∧ (r = 0 ↔ ¬ jp_in x lo hi)) := by
  refine jo_of K (by decide) rfl (Nat.le_of_ble_eq_true rfl) ?_
  intro p e s m args below meth c O hr hk
  refine ja_iload_n O (q := 1) jd_M_in_0 rfl rfl rfl ?_
  refine ja_iload_n O (q := 2) jd_M_in_1 rfl rfl rfl ?_
  refine ja_icmp_lt O (g := 14) (q := 5) jd_M_in_2 (by decide) rfl (fun h_2 => ?_) (fun h_2 => ?_)
  · refine ja_iconst O (q := 15) (v := 0) jd_M_in_14 rfl (by decide) ?_
    exact jo_zr O hr hk (by first | assumption | exact Or.inl rfl | exact Or.inr rfl) ⟨rfl, by decide, (by simp only [jp_in, Int32.lt_iff_toInt_lt, Int32.le_iff_toInt_le] at *; first | (simp; done) | (simp; omega) | (simp_all; done) | (simp_all; omega))⟩ jd_M_in_15
  · refine ja_iload_n O (q := 6) jd_M_in_5 rfl rfl rfl ?_
    refine ja_iload_n O (q := 7) jd_M_in_6 rfl rfl rfl ?_
    refine ja_icmp_gt O (g := 14) (q := 10) jd_M_in_7 (by decide) rfl (fun h_7 => ?_) (fun h_7 => ?_)
    · refine ja_iconst O (q := 15) (v := 0) jd_M_in_14 rfl (by decide) ?_
      exact jo_zr O hr hk (by first | assumption | exact Or.inl rfl | exact Or.inr rfl) ⟨rfl, by decide, (by simp only [jp_in, Int32.lt_iff_toInt_lt, Int32.le_iff_toInt_le] at *; first | (simp; done) | (simp; omega) | (simp_all; done) | (simp_all; omega))⟩ jd_M_in_15
    · refine ja_iconst O (q := 11) (v := 1) jd_M_in_10 rfl (by decide) ?_
      refine ja_goto O (g := 15) jd_M_in_11 (by decide) ?_
      exact jo_zr O hr hk (by first | assumption | exact Or.inl rfl | exact Or.inr rfl) ⟨rfl, by decide, (by simp only [jp_in, Int32.lt_iff_toInt_lt, Int32.le_iff_toInt_le] at *; first | (simp; done) | (simp; omega) | (simp_all; done) | (simp_all; omega))⟩ jd_M_in_15
set_option maxRecDepth 100000 in
theorem co_M_fail {l : Launch} {s0 : State} {a0 : Array Value} {G : jb_Gt} {ad : Nat → Nat} (K : jo_G s0 a0 G ad) {S : ja_S} (x : Int32) : jo_C l s0 G ad jy_M_fail jc_M_fail 2 (some .int) 1 [.ref (ad 7), .int x] S (jo_i fun r S' => r = 0 ∧ S' = jb_u S 32 0 x) := by
  refine jo_of K (by decide) rfl (Nat.le_of_ble_eq_true rfl) ?_
  intro p e s m args below meth c O hr hk
  refine ja_aload_n O (q := 1) jd_M_fail_0 rfl rfl rfl ?_
  refine ja_iload_n O (q := 2) jd_M_fail_1 rfl rfl rfl ?_
  refine jp_M_72 O (q := 5) jd_M_fail_2 rfl ?_
  refine ja_iconst O (q := 6) (v := 0) jd_M_fail_5 rfl (by decide) ?_
  exact jo_ir O hr hk ⟨rfl, rfl⟩ jd_M_fail_6
set_option maxRecDepth 100000 in
theorem co_M_thrown {l : Launch} {s0 : State} {a0 : Array Value} {G : jb_Gt} {ad : Nat → Nat} (K : jo_G s0 a0 G ad) {S : ja_S}  : jo_C l s0 G ad jy_M_thrown jc_M_thrown 1 (some .int) 1 [.ref (ad 7)] S (jo_i fun r S' => r = S 32 0 ∧ S' = S) := by
  refine jo_of K (by decide) rfl (Nat.le_of_ble_eq_true rfl) ?_
  intro p e s m args below meth c O hr hk
  refine ja_aload_n O (q := 1) jd_M_thrown_0 rfl rfl rfl ?_
  refine jg_M_72 O (q := 4) jd_M_thrown_1 rfl ?_
  exact jo_ir O hr hk ⟨rfl, rfl⟩ jd_M_thrown_4
set_option maxRecDepth 100000 in
theorem co_M_notesOf {l : Launch} {s0 : State} {a0 : Array Value} {G : jb_Gt} {ad : Nat → Nat} (K : jo_G s0 a0 G ad) {S : ja_S} (a b c9 d : Int32) : jo_C l s0 G ad jy_M_notesOf jc_M_notesOf 5 (some .int) 1 [.ref (ad 7), .int a, .int b, .int c9, .int d] S (jo_i fun r S' => r = a + b + c9 + d ∧ S' = S) := by
  refine jo_of K (by decide) rfl (Nat.le_of_ble_eq_true rfl) ?_
  intro p e s m args below meth c O hr hk
  refine ja_iload_n O (q := 1) jd_M_notesOf_0 rfl rfl rfl ?_
  refine ja_iload_n O (q := 2) jd_M_notesOf_1 rfl rfl rfl ?_
  refine ja_iadd O (q := 3) jd_M_notesOf_2 rfl ?_
  refine ja_iload_n O (q := 4) jd_M_notesOf_3 rfl rfl rfl ?_
  refine ja_iadd O (q := 5) jd_M_notesOf_4 rfl ?_
  refine ja_iload O (q := 7) jd_M_notesOf_5 rfl rfl ?_
  refine ja_iadd O (q := 8) jd_M_notesOf_7 rfl ?_
  exact jo_ir O hr hk ⟨rfl, rfl⟩ jd_M_notesOf_8
set_option maxRecDepth 100000 in
theorem co_M_cut {l : Launch} {s0 : State} {a0 : Array Value} {G : jb_Gt} {ad : Nat → Nat} (K : jo_G s0 a0 G ad) {S : ja_S} (x : Int32) : jo_C l s0 G ad jy_M_cut jc_M_cut 2 (some .boolean) 1 [.ref (ad 7), .int x] S (jo_i fun r S' => r = (mf_cut S x).1 ∧ S' = (mf_cut S x).2) := by
  refine jo_of K (by decide) rfl (Nat.le_of_ble_eq_true rfl) ?_
  intro p e s m args below meth c O hr hk
  refine ja_aload_n O (q := 1) jd_M_cut_0 rfl rfl rfl ?_
  refine jg_M_109 O (q := 4) jd_M_cut_1 rfl ?_
  refine ja_iload_n O (q := 5) jd_M_cut_4 rfl rfl rfl ?_
  refine ja_icmp_eq O (g := 10) (q := 8) jd_M_cut_5 (by decide) rfl (fun h_5 => ?_) (fun h_5 => ?_)
  · refine ja_aload_n O (q := 11) jd_M_cut_10 rfl rfl rfl ?_
    refine ja_iconst O (q := 12) (v := 0) jd_M_cut_11 rfl (by decide) ?_
    refine jp_M_109 O (q := 15) jd_M_cut_12 rfl ?_
    refine ja_aload_n O (q := 16) jd_M_cut_15 rfl rfl rfl ?_
    refine ja_iconst O (q := 17) (v := 1) jd_M_cut_16 rfl (by decide) ?_
    refine jp_M_84 O (by first | assumption | exact Or.inl rfl | exact Or.inr rfl) (q := 20) jd_M_cut_17 rfl ?_
    refine ja_aload_n O (q := 21) jd_M_cut_20 rfl rfl rfl ?_
    refine ja_iconst O (q := 22) (v := (-1)) jd_M_cut_21 rfl (by decide) ?_
    refine jp_M_38 O (q := 25) jd_M_cut_22 rfl ?_
    refine ja_aload_n O (q := 26) jd_M_cut_25 rfl rfl rfl ?_
    refine ja_iconst O (q := 27) (v := 0) jd_M_cut_26 rfl (by decide) ?_
    refine jp_M_88 O (by first | assumption | exact Or.inl rfl | exact Or.inr rfl) (q := 30) jd_M_cut_27 rfl ?_
    refine ja_iconst O (q := 31) (v := 1) jd_M_cut_30 rfl (by decide) ?_
    exact jo_zr O hr hk (by first | assumption | exact Or.inl rfl | exact Or.inr rfl) (by simp [mf_cut, h_5]) jd_M_cut_31
  · refine ja_iconst O (q := 9) (v := 0) jd_M_cut_8 rfl (by decide) ?_
    exact jo_zr O hr hk (by first | assumption | exact Or.inl rfl | exact Or.inr rfl) (by simp [mf_cut, h_5]) jd_M_cut_9
set_option maxRecDepth 100000 in
theorem co_M_owe {l : Launch} {s0 : State} {a0 : Array Value} {G : jb_Gt} {ad : Nat → Nat} (K : jo_G s0 a0 G ad) {S : ja_S} (k : Nat) (hk9 : k < 80) (h37 : S 37 0 = nI k) (t x : Int32) : jo_C l s0 G ad jy_M_owe jc_M_owe 3 none 1 [.ref (ad 7), .int t, .int x] S (jo_v fun S' => S' = mf_owe S t x) := by
  refine jo_of K (by decide) rfl (Nat.le_of_ble_eq_true rfl) ?_
  intro p e s m args below meth c O hr hk
  refine ja_aload_n O (q := 1) jd_M_owe_0 rfl rfl rfl ?_
  refine jg_M_60 O (q := 4) jd_M_owe_1 rfl ?_
  refine ja_aload_n O (q := 5) jd_M_owe_4 rfl rfl rfl ?_
  refine jg_M_106 O (q := 8) jd_M_owe_5 rfl ?_
  refine ja_iload_n O (q := 9) jd_M_owe_8 rfl rfl rfl ?_
  refine js_34 O (k := k) h37 (by first | assumption | omega) (q := 10) jd_M_owe_9 rfl ?_
  refine ja_aload_n O (q := 11) jd_M_owe_10 rfl rfl rfl ?_
  refine jg_M_63 O (q := 14) jd_M_owe_11 rfl ?_
  refine ja_aload_n O (q := 15) jd_M_owe_14 rfl rfl rfl ?_
  refine jg_M_106 O (q := 18) jd_M_owe_15 rfl ?_
  refine ja_iload_n O (q := 19) jd_M_owe_18 rfl rfl rfl ?_
  refine js_35 O (k := k) h37 (by first | assumption | omega) (q := 20) jd_M_owe_19 rfl ?_
  refine ja_aload_n O (q := 21) jd_M_owe_20 rfl rfl rfl ?_
  refine ja_dup O (q := 22) jd_M_owe_21 rfl rfl ?_
  refine jg_M_106 O (q := 25) jd_M_owe_22 rfl ?_
  refine ja_iconst O (q := 26) (v := 1) jd_M_owe_25 rfl (by decide) ?_
  refine ja_iadd O (q := 27) jd_M_owe_26 rfl ?_
  refine jp_M_106 O (q := 30) jd_M_owe_27 rfl ?_
  exact jo_vr O hr hk (by unfold mf_owe; rw [show (S 37 0).toNatClampNeg = k from by rw [h37]; exact nI_clamp (by omega)]; rfl) jd_M_owe_30
set_option maxRecDepth 100000 in
theorem co_M_request {l : Launch} {s0 : State} {a0 : Array Value} {G : jb_Gt} {ad : Nat → Nat} (K : jo_G s0 a0 G ad) {S : ja_S} (t j : Nat) (ht : t < 41) (hj : j < 8) (h54 : S 54 t = nI j) : jo_C l s0 G ad jy_M_request jc_M_request 3 none 1 [.ref (ad 7), .int (nI t)] S (jo_v fun S' => S' = mf_req S t j) := by
  refine jo_of K (by decide) rfl (Nat.le_of_ble_eq_true rfl) ?_
  intro p e s m args below meth c O hr hk
  refine ja_aload_n O (q := 1) jd_M_request_0 rfl rfl rfl ?_
  refine jg_M_54 O (q := 4) jd_M_request_1 rfl ?_
  refine ja_iload_n O (q := 5) jd_M_request_4 rfl rfl rfl ?_
  refine jl_32 O (k := t) rfl (by first | assumption | omega) (q := 6) jd_M_request_5 rfl ?_
  refine ja_if_eq O (g := 10) (q := 9) jd_M_request_6 (by decide) rfl (fun h_6 => ?_) (fun h_6 => ?_)
  · refine ja_aload_n O (q := 11) jd_M_request_10 rfl rfl rfl ?_
    refine jg_M_45 O (q := 14) jd_M_request_11 rfl ?_
    refine ja_iload_n O (q := 15) jd_M_request_14 rfl rfl rfl ?_
    refine jl_29 O (k := t) rfl (by first | assumption | omega) (q := 16) jd_M_request_15 rfl ?_
    refine ja_istore_n O (q := 17) jd_M_request_16 rfl rfl (by decide) ?_
    refine ja_aload_n O (q := 18) jd_M_request_17 rfl rfl rfl ?_
    refine jg_M_57 O (q := 21) jd_M_request_18 rfl ?_
    refine ja_iload_n O (q := 22) jd_M_request_21 rfl rfl rfl ?_
    refine jl_33 O (k := t) rfl (by first | assumption | omega) (q := 23) jd_M_request_22 rfl ?_
    refine ja_if_ne O (g := 50) (q := 26) jd_M_request_23 (by decide) rfl (fun h_23 => ?_) (fun h_23 => ?_)
    · refine ja_aload_n O (q := 51) jd_M_request_50 rfl rfl rfl ?_
      refine jg_M_54 O (q := 54) jd_M_request_51 rfl ?_
      refine ja_iload_n O (q := 55) jd_M_request_54 rfl rfl rfl ?_
      refine ja_iconst O (q := 56) (v := 2) jd_M_request_55 rfl (by decide) ?_
      refine js_32 O (k := t) rfl (by first | assumption | omega) (q := 57) jd_M_request_56 rfl ?_
      refine ja_goto O (g := 82) jd_M_request_57 (by decide) ?_
      exact jo_vr O hr hk (by simp only [mf_req]; rw [if_pos h_6]; first | (rw [if_pos ⟨h_23, h_32, h_47⟩]; rfl) | (rw [if_neg (fun q => h_23 q.1)]; done) | (rw [if_neg (fun q => h_32 q.2.1)]; done) | (rw [if_neg (fun q => h_47 q.2.2)]; done)) jd_M_request_82
    · refine ja_aload_n O (q := 27) jd_M_request_26 rfl rfl rfl ?_
      refine jg_M_26 O (q := 30) jd_M_request_27 rfl ?_
      refine ja_iload_n O (q := 31) jd_M_request_30 rfl rfl rfl ?_
      refine jl_24 O (k := j) h54 (by first | assumption | omega) (q := 32) jd_M_request_31 rfl ?_
      refine ja_if_ne O (g := 50) (q := 35) jd_M_request_32 (by decide) rfl (fun h_32 => ?_) (fun h_32 => ?_)
      · refine ja_aload_n O (q := 51) jd_M_request_50 rfl rfl rfl ?_
        refine jg_M_54 O (q := 54) jd_M_request_51 rfl ?_
        refine ja_iload_n O (q := 55) jd_M_request_54 rfl rfl rfl ?_
        refine ja_iconst O (q := 56) (v := 2) jd_M_request_55 rfl (by decide) ?_
        refine js_32 O (k := t) rfl (by first | assumption | omega) (q := 57) jd_M_request_56 rfl ?_
        refine ja_goto O (g := 82) jd_M_request_57 (by decide) ?_
        exact jo_vr O hr hk (by simp only [mf_req]; rw [if_pos h_6]; first | (rw [if_pos ⟨h_23, h_32, h_47⟩]; rfl) | (rw [if_neg (fun q => h_23 q.1)]; done) | (rw [if_neg (fun q => h_32 q.2.1)]; done) | (rw [if_neg (fun q => h_47 q.2.2)]; done)) jd_M_request_82
      · refine ja_aload_n O (q := 36) jd_M_request_35 rfl rfl rfl ?_
        refine jg_M_20 O (q := 39) jd_M_request_36 rfl ?_
        refine ja_iload_n O (q := 40) jd_M_request_39 rfl rfl rfl ?_
        refine jl_22 O (k := j) h54 (by first | assumption | omega) (q := 41) jd_M_request_40 rfl ?_
        refine ja_aload_n O (q := 42) jd_M_request_41 rfl rfl rfl ?_
        refine jg_M_48 O (q := 45) jd_M_request_42 rfl ?_
        refine ja_iload_n O (q := 46) jd_M_request_45 rfl rfl rfl ?_
        refine jl_30 O (k := t) rfl (by first | assumption | omega) (q := 47) jd_M_request_46 rfl ?_
        refine ja_icmp_ge O (g := 60) (q := 50) jd_M_request_47 (by decide) rfl (fun h_47 => ?_) (fun h_47 => ?_)
        · refine ja_aload_n O (q := 61) jd_M_request_60 rfl rfl rfl ?_
          refine jg_M_54 O (q := 64) jd_M_request_61 rfl ?_
          refine ja_iload_n O (q := 65) jd_M_request_64 rfl rfl rfl ?_
          refine ja_iconst O (q := 66) (v := 1) jd_M_request_65 rfl (by decide) ?_
          refine js_32 O (k := t) rfl (by first | assumption | omega) (q := 67) jd_M_request_66 rfl ?_
          refine ja_aload_n O (q := 68) jd_M_request_67 rfl rfl rfl ?_
          refine jg_M_20 O (q := 71) jd_M_request_68 rfl ?_
          refine ja_iload_n O (q := 72) jd_M_request_71 rfl rfl rfl ?_
          refine ja_dup2 O (q := 73) jd_M_request_72 rfl rfl rfl ?_
          refine jl_22 O (k := j) h54 (by first | assumption | omega) (q := 74) jd_M_request_73 rfl ?_
          refine ja_aload_n O (q := 75) jd_M_request_74 rfl rfl rfl ?_
          refine jg_M_48 O (q := 78) jd_M_request_75 rfl ?_
          refine ja_iload_n O (q := 79) jd_M_request_78 rfl rfl rfl ?_
          refine jl_30 O (k := t) rfl (by first | assumption | omega) (q := 80) jd_M_request_79 rfl ?_
          refine ja_isub O (q := 81) jd_M_request_80 rfl ?_
          refine js_22 O (k := j) h54 (by first | assumption | omega) (q := 82) jd_M_request_81 rfl ?_
          exact jo_vr O hr hk (by simp only [mf_req]; rw [if_pos h_6]; first | (rw [if_pos ⟨h_23, h_32, h_47⟩]; rfl) | (rw [if_neg (fun q => h_23 q.1)]; done) | (rw [if_neg (fun q => h_32 q.2.1)]; done) | (rw [if_neg (fun q => h_47 q.2.2)]; done)) jd_M_request_82
        · refine ja_aload_n O (q := 51) jd_M_request_50 rfl rfl rfl ?_
          refine jg_M_54 O (q := 54) jd_M_request_51 rfl ?_
          refine ja_iload_n O (q := 55) jd_M_request_54 rfl rfl rfl ?_
          refine ja_iconst O (q := 56) (v := 2) jd_M_request_55 rfl (by decide) ?_
          refine js_32 O (k := t) rfl (by first | assumption | omega) (q := 57) jd_M_request_56 rfl ?_
          refine ja_goto O (g := 82) jd_M_request_57 (by decide) ?_
          exact jo_vr O hr hk (by simp only [mf_req]; rw [if_pos h_6]; first | (rw [if_pos ⟨h_23, h_32, h_47⟩]; rfl) | (rw [if_neg (fun q => h_23 q.1)]; done) | (rw [if_neg (fun q => h_32 q.2.1)]; done) | (rw [if_neg (fun q => h_47 q.2.2)]; done)) jd_M_request_82
  · exact jo_vr O hr hk (by simp only [mf_req, if_neg h_6]) jd_M_request_9
set_option maxRecDepth 100000 in
theorem co_M_reversalCame {l : Launch} {s0 : State} {a0 : Array Value} {G : jb_Gt} {ad : Nat → Nat} (K : jo_G s0 a0 G ad) {S : ja_S} (t : Nat) (x : Int32) (ht : t < 41) (hj : S 57 t = 1 → ∃ j, j < 8 ∧ S 54 t = nI j) : jo_C l s0 G ad jy_M_reversalCame jc_M_reversalCame 3 none 1 [.ref (ad 7), .int (nI t), .int x] S (jo_v fun S' => S' = mf_rev S t x) := by
  refine jo_of K (by decide) rfl (Nat.le_of_ble_eq_true rfl) ?_
  intro p e s m args below meth c O hr hk
  refine ja_aload_n O (q := 1) jd_M_reversalCame_0 rfl rfl rfl ?_
  refine jg_M_57 O (q := 4) jd_M_reversalCame_1 rfl ?_
  refine ja_iload_n O (q := 5) jd_M_reversalCame_4 rfl rfl rfl ?_
  refine jl_33 O (k := t) rfl (by first | assumption | omega) (q := 6) jd_M_reversalCame_5 rfl ?_
  refine ja_if_ne O (g := 34) (q := 9) jd_M_reversalCame_6 (by decide) rfl (fun h_6 => ?_) (fun h_6 => ?_)
  · refine ja_aload_n O (q := 35) jd_M_reversalCame_34 rfl rfl rfl ?_
    refine jg_M_57 O (q := 38) jd_M_reversalCame_35 rfl ?_
    refine ja_iload_n O (q := 39) jd_M_reversalCame_38 rfl rfl rfl ?_
    refine ja_iconst O (q := 40) (v := 1) jd_M_reversalCame_39 rfl (by decide) ?_
    refine js_33 O (k := t) rfl (by first | assumption | omega) (by first | assumption | exact Or.inl rfl | exact Or.inr rfl) (q := 41) jd_M_reversalCame_40 rfl ?_
    exact jo_vr O hr hk (by first | (simp only [mf_rev]; rw [if_neg (fun q => h_6 q.1)]) | (simp only [mf_rev]; rw [if_neg (fun q => h_16 q.2)]) | (simp only [mf_rev]; rw [if_pos ⟨h_6, h_16⟩, h54, nI_clamp (by omega)])) jd_M_reversalCame_41
  · refine ja_aload_n O (q := 10) jd_M_reversalCame_9 rfl rfl rfl ?_
    refine jg_M_54 O (q := 13) jd_M_reversalCame_10 rfl ?_
    refine ja_iload_n O (q := 14) jd_M_reversalCame_13 rfl rfl rfl ?_
    refine jl_32 O (k := t) rfl (by first | assumption | omega) (q := 15) jd_M_reversalCame_14 rfl ?_
    refine ja_iconst O (q := 16) (v := 1) jd_M_reversalCame_15 rfl (by decide) ?_
    refine ja_icmp_ne O (g := 34) (q := 19) jd_M_reversalCame_16 (by decide) rfl (fun h_16 => ?_) (fun h_16 => ?_)
    · refine ja_aload_n O (q := 35) jd_M_reversalCame_34 rfl rfl rfl ?_
      refine jg_M_57 O (q := 38) jd_M_reversalCame_35 rfl ?_
      refine ja_iload_n O (q := 39) jd_M_reversalCame_38 rfl rfl rfl ?_
      refine ja_iconst O (q := 40) (v := 1) jd_M_reversalCame_39 rfl (by decide) ?_
      refine js_33 O (k := t) rfl (by first | assumption | omega) (by first | assumption | exact Or.inl rfl | exact Or.inr rfl) (q := 41) jd_M_reversalCame_40 rfl ?_
      exact jo_vr O hr hk (by first | (simp only [mf_rev]; rw [if_neg (fun q => h_6 q.1)]) | (simp only [mf_rev]; rw [if_neg (fun q => h_16 q.2)]) | (simp only [mf_rev]; rw [if_pos ⟨h_6, h_16⟩, h54, nI_clamp (by omega)])) jd_M_reversalCame_41
    · obtain ⟨j, hj8, h54⟩ := hj h_16
      refine ja_aload_n O (q := 20) jd_M_reversalCame_19 rfl rfl rfl ?_
      refine jg_M_20 O (q := 23) jd_M_reversalCame_20 rfl ?_
      refine ja_aload_n O (q := 24) jd_M_reversalCame_23 rfl rfl rfl ?_
      refine jg_M_45 O (q := 27) jd_M_reversalCame_24 rfl ?_
      refine ja_iload_n O (q := 28) jd_M_reversalCame_27 rfl rfl rfl ?_
      refine jl_29 O (k := t) rfl (by first | assumption | omega) (q := 29) jd_M_reversalCame_28 rfl ?_
      refine ja_dup2 O (q := 30) jd_M_reversalCame_29 rfl rfl rfl ?_
      refine jl_22 O (k := j) h54 (by first | assumption | omega) (q := 31) jd_M_reversalCame_30 rfl ?_
      refine ja_iload_n O (q := 32) jd_M_reversalCame_31 rfl rfl rfl ?_
      refine ja_iadd O (q := 33) jd_M_reversalCame_32 rfl ?_
      refine js_22 O (k := j) h54 (by first | assumption | omega) (q := 34) jd_M_reversalCame_33 rfl ?_
      refine ja_aload_n O (q := 35) jd_M_reversalCame_34 rfl rfl rfl ?_
      refine jg_M_57 O (q := 38) jd_M_reversalCame_35 rfl ?_
      refine ja_iload_n O (q := 39) jd_M_reversalCame_38 rfl rfl rfl ?_
      refine ja_iconst O (q := 40) (v := 1) jd_M_reversalCame_39 rfl (by decide) ?_
      refine js_33 O (k := t) rfl (by first | assumption | omega) (by first | assumption | exact Or.inl rfl | exact Or.inr rfl) (q := 41) jd_M_reversalCame_40 rfl ?_
      exact jo_vr O hr hk (by first | (simp only [mf_rev]; rw [if_neg (fun q => h_6 q.1)]) | (simp only [mf_rev]; rw [if_neg (fun q => h_16 q.2)]) | (simp only [mf_rev]; rw [if_pos ⟨h_6, h_16⟩, h54, nI_clamp (by omega)])) jd_M_reversalCame_41
set_option maxRecDepth 100000 in
theorem co_M_fate {l : Launch} {s0 : State} {a0 : Array Value} {G : jb_Gt} {ad : Nat → Nat} (K : jo_G s0 a0 G ad) {S : ja_S} (n : Nat) (hn : n ≤ 8) (h38 : S 38 0 = nI n) : jo_C l s0 G ad jy_M_fate jc_M_fate 3 (some .int) 1 [.ref (ad 7)] S (jo_i fun r S' => r = (mf_fate S).1 ∧ S' = (mf_fate S).2) := by
  refine jo_of K (by decide) rfl (Nat.le_of_ble_eq_true rfl) ?_
  intro p e s m args below meth c O hr hk
  refine ja_aload_n O (q := 1) jd_M_fate_0 rfl rfl rfl ?_
  refine jg_M_103 O (q := 4) jd_M_fate_1 rfl ?_
  refine ja_if_ne O (g := 9) (q := 7) jd_M_fate_4 (by decide) rfl (fun h_4 => ?_) (fun h_4 => ?_)
  · have hn0 : 0 < n := Nat.pos_of_ne_zero (fun q => h_4 (by rw [h38, q]; rfl))
    have loop : ∀ (f9 : Nat) (i : Nat), i ≤ n - 1 → n - 1 < i + f9 → ja_V p l e (jo_r 1) s m args below meth c (jb_W G ad) s0.heap.size 3 0 0 (jo_M s0 G ad below args s (jo_i fun r S' => r = (mf_fate S).1 ∧ S' = (mf_fate S).2)) (jb_sv (jb_u S 38 0 (nI (n - 1))) 61 (mf_dn (S 61) i)) 28 [(0, .ref (ad 7)), (1, .int (S 61 0)), (2, .int (nI i))] [] := by
      intro f9
      induction f9 with
      | zero => intro i hi hn9; exact absurd hn9 (by omega)
      | succ f9 ih =>
        intro i hi hn9
        refine ja_iload_n O (q := 29) jd_M_fate_28 rfl rfl rfl ?_
        refine ja_aload_n O (q := 30) jd_M_fate_29 rfl rfl rfl ?_
        refine jg_M_103 O (q := 33) jd_M_fate_30 rfl ?_
        refine ja_icmp_ge O (g := 56) (q := 36) jd_M_fate_33 (by decide) rfl (fun h_33 => ?_) (fun h_33 => ?_)
        · have hin : i = n - 1 := by
            rcases Nat.lt_or_ge i (n - 1) with z | z
            · exact absurd (show nI (n - 1) ≤ nI i from h_33) (nI_ge z (by omega))
            · omega
          subst hin
          refine ja_iload_n O (q := 57) jd_M_fate_56 rfl rfl rfl ?_
          exact jo_ir O hr hk (by simp only [mf_fate, if_neg h_4]; rw [h38, nI_clamp (by omega), jp_m1 hn0]; exact ⟨trivial, rfl⟩) jd_M_fate_57
        · have hin : i < n - 1 := by
            rcases Nat.lt_or_ge i (n - 1) with z | z
            · exact z
            · exact absurd (show nI (n - 1) ≤ nI i from nI_le z (by omega)) h_33
          refine ja_aload_n O (q := 37) jd_M_fate_36 rfl rfl rfl ?_
          refine jg_M_66 O (q := 40) jd_M_fate_37 rfl ?_
          refine ja_iload_n O (q := 41) jd_M_fate_40 rfl rfl rfl ?_
          refine ja_aload_n O (q := 42) jd_M_fate_41 rfl rfl rfl ?_
          refine jg_M_66 O (q := 45) jd_M_fate_42 rfl ?_
          refine ja_iload_n O (q := 46) jd_M_fate_45 rfl rfl rfl ?_
          refine ja_iconst O (q := 47) (v := 1) jd_M_fate_46 rfl (by decide) ?_
          refine ja_iadd O (q := 48) jd_M_fate_47 rfl ?_
          refine jl_36 O (k := i + 1) (nI_1 i) (by first | assumption | omega) (q := 49) jd_M_fate_48 rfl ?_
          refine js_36 O (k := i) rfl (by first | assumption | omega) (q := 50) jd_M_fate_49 rfl ?_
          refine ja_iinc O (q := 53) (v := nI (i + 1)) jd_M_fate_50 rfl rfl (nI_1 i) (by decide) ?_
          refine ja_goto O (g := 28) jd_M_fate_53 (by decide) ?_
          refine ja_less (L' := [(0, .ref (ad 7)), (1, .int (S 61 0)), (2, .int (nI (i + 1)))]) ⟨rfl, rfl, rfl, trivial⟩ ?_
          rw [show jb_u (jb_sv (jb_u S 38 0 (nI (n - 1))) 61 (mf_dn (S 61) i)) 61 i (jb_sv (jb_u S 38 0 (nI (n - 1))) 61 (mf_dn (S 61) i) 61 (i + 1)) = jb_sv (jb_u S 38 0 (nI (n - 1))) 61 (mf_dn (S 61) (i + 1)) from by show jb_sv (jb_sv _ 61 _) 61 (upd (mf_dn (S 61) i) i (mf_dn (S 61) i (i + 1))) = _; rw [mf_dnS, jb_svv]]
          exact ih (i + 1) (by omega) (by omega)
    refine ja_aload_n O (q := 10) jd_M_fate_9 rfl rfl rfl ?_
    refine jg_M_66 O (q := 13) jd_M_fate_10 rfl ?_
    refine ja_iconst O (q := 14) (v := 0) jd_M_fate_13 rfl (by decide) ?_
    refine jl_36 O (k := 0) rfl (by first | assumption | omega) (q := 15) jd_M_fate_14 rfl ?_
    refine ja_istore_n O (q := 16) jd_M_fate_15 rfl rfl (by decide) ?_
    refine ja_aload_n O (q := 17) jd_M_fate_16 rfl rfl rfl ?_
    refine ja_dup O (q := 18) jd_M_fate_17 rfl rfl ?_
    refine jg_M_103 O (q := 21) jd_M_fate_18 rfl ?_
    refine ja_iconst O (q := 22) (v := 1) jd_M_fate_21 rfl (by decide) ?_
    refine ja_isub O (q := 23) jd_M_fate_22 rfl ?_
    refine jp_M_103 O (q := 26) jd_M_fate_23 rfl ?_
    refine ja_iconst O (q := 27) (v := 0) jd_M_fate_26 rfl (by decide) ?_
    refine ja_istore_n O (q := 28) jd_M_fate_27 rfl rfl (by decide) ?_
    refine ja_less (L' := [(0, .ref (ad 7)), (1, .int (S 61 0)), (2, .int (nI 0))]) ⟨rfl, rfl, rfl, trivial⟩ ?_
    have h0 := loop n 0 (by omega) (by omega)
    rw [mf_dn0, show jb_sv (jb_u S 38 0 (nI (n - 1))) 61 (S 61) = jb_u S 38 0 (nI (n - 1)) from jb_svs (S := jb_u S 38 0 (nI (n - 1)))] at h0
    rw [show S 38 0 - 1 = nI (n - 1) by rw [h38]; exact jp_m1 hn0]
    exact h0
  · refine ja_iconst O (q := 8) (v := 0) jd_M_fate_7 rfl (by decide) ?_
    exact jo_ir O hr hk (by simp only [mf_fate, if_pos h_4]; exact ⟨trivial, trivial⟩) jd_M_fate_8
set_option maxRecDepth 100000 in
theorem co_M_finish {l : Launch} {s0 : State} {a0 : Array Value} {G : jb_Gt} {ad : Nat → Nat} (K : jo_G s0 a0 G ad) {S : ja_S} (t k : Nat) (ht : t < 41) (hk9 : k < 80) (h37 : S 37 0 = nI k) (x : Int32) : jo_C l s0 G ad jy_M_finish jc_M_finish 3 none 2 [.ref (ad 7), .int (nI t), .int x] S (jo_v fun S' => S' = mf_fin S t x) := by
  refine jo_of K (by decide) rfl (Nat.le_of_ble_eq_true rfl) ?_
  intro p e s m args below meth c O hr hk
  refine ja_aload_n O (q := 1) jd_M_finish_0 rfl rfl rfl ?_
  refine jg_M_42 O (q := 4) jd_M_finish_1 rfl ?_
  refine ja_iload_n O (q := 5) jd_M_finish_4 rfl rfl rfl ?_
  refine ja_iconst O (q := 6) (v := 3) jd_M_finish_5 rfl (by decide) ?_
  refine js_28 O (k := t) rfl (by first | assumption | omega) (q := 7) jd_M_finish_6 rfl ?_
  refine ja_aload_n O (q := 8) jd_M_finish_7 rfl rfl rfl ?_
  refine jg_M_51 O (q := 11) jd_M_finish_8 rfl ?_
  refine ja_iload_n O (q := 12) jd_M_finish_11 rfl rfl rfl ?_
  refine ja_iload_n O (q := 13) jd_M_finish_12 rfl rfl rfl ?_
  refine js_31 O (k := t) rfl (by first | assumption | omega) (q := 14) jd_M_finish_13 rfl ?_
  refine ja_iload_n O (q := 15) jd_M_finish_14 rfl rfl rfl ?_
  refine ja_aload_n O (q := 16) jd_M_finish_15 rfl rfl rfl ?_
  refine jg_M_48 O (q := 19) jd_M_finish_16 rfl ?_
  refine ja_iload_n O (q := 20) jd_M_finish_19 rfl rfl rfl ?_
  refine jl_30 O (k := t) rfl (by first | assumption | omega) (q := 21) jd_M_finish_20 rfl ?_
  refine ja_icmp_ge O (g := 37) (q := 24) jd_M_finish_21 (by decide) rfl (fun h_21 => ?_) (fun h_21 => ?_)
  · exact jo_vr O hr hk (by first | (simp only [mf_fin, if_pos (show S 55 t ≤ x from h_21)]) | (simp only [mf_fin, if_neg (show ¬ S 55 t ≤ x from h_21)]; rfl)) jd_M_finish_37
  · refine ja_aload_n O (q := 25) jd_M_finish_24 rfl rfl rfl ?_
    refine ja_iload_n O (q := 26) jd_M_finish_25 rfl rfl rfl ?_
    refine ja_aload_n O (q := 27) jd_M_finish_26 rfl rfl rfl ?_
    refine jg_M_48 O (q := 30) jd_M_finish_27 rfl ?_
    refine ja_iload_n O (q := 31) jd_M_finish_30 rfl rfl rfl ?_
    refine jl_30 O  rfl (by first | assumption | omega) (q := 32) jd_M_finish_31 rfl ?_
    refine ja_iload_n O (q := 33) jd_M_finish_32 rfl rfl rfl ?_
    refine ja_isub O (q := 34) jd_M_finish_33 rfl ?_
    refine jm_M_124 O (d := 1) ⟨by decide, by decide⟩ (Nat.le_of_ble_eq_true rfl) ⟨by decide, by decide⟩ (co_M_owe K (S := jb_u (jb_u S 53 t 3) 56 t x) k hk9 h37 _ _) (q := 37) jd_M_finish_34 rfl (fun S' h => ?_)
    subst h
    exact jo_vr O hr hk (by first | (simp only [mf_fin, if_pos (show S 55 t ≤ x from h_21)]) | (simp only [mf_fin, if_neg (show ¬ S 55 t ≤ x from h_21)]; rfl)) jd_M_finish_37
