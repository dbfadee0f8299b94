/-! CONTRACTS of the class, by program (wip/whole/gen/p10.py): the small ones -/
theorem jb_us {S : ja_S} {v j : Nat} {x : Int32} : jb_u S v j x v j = x := by simp [jb_u, jb_sv, upd]
theorem jb_un {S : ja_S} {v j i : Nat} {x : Int32} (h : i ≠ j) : jb_u S v j x v i = S v i := by simp [jb_u, jb_sv, upd, h]
abbrev jp_in (x lo hi : Int32) : Prop := lo ≤ x ∧ x ≤ hi
/-- how many of the first n are not 0 -/
def jp_ct (f : Nat → Int32) : Nat → Int32
  | 0 => 0
  | n + 1 => jp_ct f n + (if f n = 0 then 0 else 1)
/-- the sum of the first n -/
def jp_sm (f : Nat → Int32) : Nat → Int32
  | 0 => 0
  | n + 1 => jp_sm f n + f n
theorem jp_m1 {n : Nat} (h : 0 < n) : nI n - 1 = nI (n - 1) := by
  obtain ⟨k, rfl⟩ : ∃ k, n = k + 1 := ⟨n - 1, by omega⟩
  exact nI_pred k
set_option maxRecDepth 100000 in
theorem co_C_isWithin {l : Launch} {s0 : State} {a0 : Array Value} {G : jb_Gt} {ad : Nat → Nat} (K : jo_G s0 a0 G ad) {S : ja_S} (x lo hi : Int32) : jo_C l s0 G ad jy_C_isWithin jc_C_isWithin 3 (some .boolean) 1 [.int x, .int lo, .int hi] S (jo_i fun r S' => S' = S ∧ (r = 0 ∨ r = 1) ∧ (r = 0 ↔ ¬ jp_in x lo hi)) := by
  refine jo_of K (by decide) rfl (Nat.le_of_ble_eq_true rfl) ?_
  intro p e s m args below meth c O hr hk
  refine ja_iload_n O (q := 1) jd_C_isWithin_0 rfl rfl rfl ?_
  refine ja_iload_n O (q := 2) jd_C_isWithin_1 rfl rfl rfl ?_
  refine ja_icmp_lt O (g := 14) (q := 5) jd_C_isWithin_2 (by decide) rfl (fun h_2 => ?_) (fun h_2 => ?_)
  · refine ja_iconst O (q := 15) (v := 0) jd_C_isWithin_14 rfl (by decide) ?_
    exact jo_zr O hr hk (by first | assumption | exact Or.inl rfl | exact Or.inr rfl) ⟨rfl, by decide, (by simp only [jp_in, Int32.lt_iff_toInt_lt, Int32.le_iff_toInt_le] at *; first | (simp; done) | (simp; omega) | (simp_all; done) | (simp_all; omega))⟩ jd_C_isWithin_15
  · refine ja_iload_n O (q := 6) jd_C_isWithin_5 rfl rfl rfl ?_
    refine ja_iload_n O (q := 7) jd_C_isWithin_6 rfl rfl rfl ?_
    refine ja_icmp_gt O (g := 14) (q := 10) jd_C_isWithin_7 (by decide) rfl (fun h_7 => ?_) (fun h_7 => ?_)
    · refine ja_iconst O (q := 15) (v := 0) jd_C_isWithin_14 rfl (by decide) ?_
      exact jo_zr O hr hk (by first | assumption | exact Or.inl rfl | exact Or.inr rfl) ⟨rfl, by decide, (by simp only [jp_in, Int32.lt_iff_toInt_lt, Int32.le_iff_toInt_le] at *; first | (simp; done) | (simp; omega) | (simp_all; done) | (simp_all; omega))⟩ jd_C_isWithin_15
    · refine ja_iconst O (q := 11) (v := 1) jd_C_isWithin_10 rfl (by decide) ?_
      refine ja_goto O (g := 15) jd_C_isWithin_11 (by decide) ?_
      exact jo_zr O hr hk (by first | assumption | exact Or.inl rfl | exact Or.inr rfl) ⟨rfl, by decide, (by simp only [jp_in, Int32.lt_iff_toInt_lt, Int32.le_iff_toInt_le] at *; first | (simp; done) | (simp; omega) | (simp_all; done) | (simp_all; omega))⟩ jd_C_isWithin_15
set_option maxRecDepth 100000 in
theorem co_C_endSession {l : Launch} {s0 : State} {a0 : Array Value} {G : jb_Gt} {ad : Nat → Nat} (K : jo_G s0 a0 G ad) {S : ja_S}  : jo_C l s0 G ad jy_C_endSession jc_C_endSession 1 none 1 [.ref (ad 0)] S (jo_v fun S' => S' = jb_u (jb_u S 1 0 (-1)) 2 0 0) := by
  refine jo_of K (by decide) rfl (Nat.le_of_ble_eq_true rfl) ?_
  intro p e s m args below meth c O hr hk
  refine ja_aload_n O (q := 1) jd_C_endSession_0 rfl rfl rfl ?_
  refine ja_iconst O (q := 2) (v := (-1)) jd_C_endSession_1 rfl (by decide) ?_
  refine jp_C_48 O (q := 5) jd_C_endSession_2 rfl ?_
  refine ja_aload_n O (q := 6) jd_C_endSession_5 rfl rfl rfl ?_
  refine ja_iconst O (q := 7) (v := 0) jd_C_endSession_6 rfl (by decide) ?_
  refine jp_C_52 O (by first | assumption | exact Or.inl rfl | exact Or.inr rfl) (q := 10) jd_C_endSession_7 rfl ?_
  exact jo_vr O hr hk rfl jd_C_endSession_10
theorem jp_in_nI {x : Int32} {n : Nat} (hn : n < 2 ^ 31) (h : jp_in x 0 (nI n)) : ∃ j, j ≤ n ∧ x = nI j := nI_of2 (nI_toInt hn) (fun q => by have := h.1; simp only [Int32.lt_iff_toInt_lt, Int32.le_iff_toInt_le] at *; omega) h.2
theorem jp_nI_in {n j : Nat} (hn : n < 2 ^ 31) (h : j ≤ n) : jp_in (nI j) 0 (nI n) := ⟨nI_pos' (by omega), nI_le h hn⟩
set_option maxRecDepth 100000 in
theorem co_H_isOpen {l : Launch} {s0 : State} {a0 : Array Value} {G : jb_Gt} {ad : Nat → Nat} (K : jo_G s0 a0 G ad) {S : ja_S} (x : Int32) : jo_C l s0 G ad jy_H_isOpen jc_H_isOpen 2 (some .boolean) 2 [.ref (ad 1), .int x] S (jo_i fun r S' => S' = S ∧ (r = 0 ∨ r = 1) ∧ (r = 1 ↔ ∃ j, j < 8 ∧ x = nI j ∧ S 11 j ≠ 0)) := by
  refine jo_of K (by decide) rfl (Nat.le_of_ble_eq_true rfl) ?_
  intro p e s m args below meth c O hr hk
  have hN : va_Nw (.methodLinkNest "CashMachine$Host" 29 jy_C_isWithin "CashMachine") s := va_Nw.warmM O.2.1 (va_Nw.of rfl (K.1 _ jv_347))
  refine ja_iload_n O (q := 1) jd_H_isOpen_0 rfl rfl rfl ?_
  refine ja_iconst O (q := 2) (v := 0) jd_H_isOpen_1 rfl (by decide) ?_
  refine ja_bipush O (q := 4) (v := 7) jd_H_isOpen_2 rfl (by decide) ?_
  refine jm_H_29 O (hN) (d := 1) ⟨by decide, by decide⟩ (Nat.le_of_ble_eq_true rfl) ⟨by decide, by decide⟩ (co_C_isWithin K x 0 7) (q := 7) jd_H_isOpen_4 rfl (fun r S' h => ?_)
  obtain ⟨rfl, h01, hin⟩ := h
  refine ja_if_eq O (g := 26) (q := 10) jd_H_isOpen_7 (by decide) rfl (fun h_7 => ?_) (fun h_7 => ?_)
  · refine ja_iconst O (q := 27) (v := 0) jd_H_isOpen_26 rfl (by decide) ?_
    exact jo_zr O hr hk (by first | assumption | exact Or.inl rfl | exact Or.inr rfl) ⟨rfl, by decide, iff_of_false (by decide) (fun ⟨j, hj, e, _⟩ => by subst e; exact (hin.mp h_7) (jp_nI_in (n := 7) (by decide) (by omega)))⟩ jd_H_isOpen_27
  · obtain ⟨j, hj, rfl⟩ := jp_in_nI (n := 7) (by decide) (Classical.byContradiction fun q => h_7 (hin.mpr q))
    have hj8 : j < 8 := by omega
    refine ja_aload_n O (q := 11) jd_H_isOpen_10 rfl rfl rfl ?_
    refine jg_H_11 O (q := 14) jd_H_isOpen_11 rfl ?_
    refine ja_iload_n O (q := 15) jd_H_isOpen_14 rfl rfl rfl ?_
    refine jl_8 O (k := j) rfl (by first | assumption | omega) (q := 16) jd_H_isOpen_15 rfl ?_
    refine jg_H_33 O (by first | assumption | omega) (q := 19) jd_H_isOpen_16 rfl ?_
    refine ja_if_eq O (g := 26) (q := 22) jd_H_isOpen_19 (by decide) rfl (fun h_19 => ?_) (fun h_19 => ?_)
    · refine ja_iconst O (q := 27) (v := 0) jd_H_isOpen_26 rfl (by decide) ?_
      exact jo_zr O hr hk (by first | assumption | exact Or.inl rfl | exact Or.inr rfl) ⟨rfl, by decide, iff_of_false (by decide) (fun ⟨i, hi, e, ne⟩ => ne (by rw [show i = j from ((nI_eq (by omega) (by omega)).mp e).symm]; exact h_19))⟩ jd_H_isOpen_27
    · refine ja_iconst O (q := 23) (v := 1) jd_H_isOpen_22 rfl (by decide) ?_
      refine ja_goto O (g := 27) jd_H_isOpen_23 (by decide) ?_
      exact jo_zr O hr hk (by first | assumption | exact Or.inl rfl | exact Or.inr rfl) ⟨rfl, by decide, iff_of_true rfl ⟨j, hj8, rfl, h_19⟩⟩ jd_H_isOpen_27
set_option maxRecDepth 100000 in
theorem co_H_openAccount {l : Launch} {s0 : State} {a0 : Array Value} {G : jb_Gt} {ad : Nat → Nat} (K : jo_G s0 a0 G ad) {S : ja_S} (j : Nat) (hj : j < 8) (a b : Int32) : jo_C l s0 G ad jy_H_openAccount jc_H_openAccount 5 none 1 [.ref (ad 1), .int (nI j), .int a, .int b] S (jo_v fun S' => S' = jb_u (jb_u (jb_u (jb_u S 11 j 1) 12 j a) 13 j b) 14 j b) := by
  refine jo_of K (by decide) rfl (Nat.le_of_ble_eq_true rfl) ?_
  intro p e s m args below meth c O hr hk
  refine ja_aload_n O (q := 1) jd_H_openAccount_0 rfl rfl rfl ?_
  refine jg_H_11 O (q := 4) jd_H_openAccount_1 rfl ?_
  refine ja_iload_n O (q := 5) jd_H_openAccount_4 rfl rfl rfl ?_
  refine jl_8 O  rfl (by first | assumption | omega) (q := 6) jd_H_openAccount_5 rfl ?_
  refine ja_astore O (q := 8) jd_H_openAccount_6 rfl (by decide) ?_
  refine ja_aload O (q := 10) jd_H_openAccount_8 rfl rfl ?_
  refine ja_iconst O (q := 11) (v := 1) jd_H_openAccount_10 rfl (by decide) ?_
  refine jp_H_33 O (by first | assumption | omega) (by first | assumption | exact Or.inl rfl | exact Or.inr rfl) (q := 14) jd_H_openAccount_11 rfl ?_
  refine ja_aload O (q := 16) jd_H_openAccount_14 rfl rfl ?_
  refine ja_iload_n O (q := 17) jd_H_openAccount_16 rfl rfl rfl ?_
  refine jp_H_37 O (by first | assumption | omega) (q := 20) jd_H_openAccount_17 rfl ?_
  refine ja_aload O (q := 22) jd_H_openAccount_20 rfl rfl ?_
  refine ja_iload_n O (q := 23) jd_H_openAccount_22 rfl rfl rfl ?_
  refine jp_H_41 O (by first | assumption | omega) (q := 26) jd_H_openAccount_23 rfl ?_
  refine ja_aload O (q := 28) jd_H_openAccount_26 rfl rfl ?_
  refine ja_iload_n O (q := 29) jd_H_openAccount_28 rfl rfl rfl ?_
  refine jp_H_44 O (by first | assumption | omega) (q := 32) jd_H_openAccount_29 rfl ?_
  exact jo_vr O hr hk rfl jd_H_openAccount_32
set_option maxRecDepth 100000 in
theorem co_H_openAccounts {l : Launch} {s0 : State} {a0 : Array Value} {G : jb_Gt} {ad : Nat → Nat} (K : jo_G s0 a0 G ad) {S : ja_S}  : jo_C l s0 G ad jy_H_openAccounts jc_H_openAccounts 6 (some .int) 1 [.ref (ad 1)] S (jo_i fun r S' => S' = S ∧ r = jp_ct (S 11) 8) := by
  refine jo_of K (by decide) rfl (Nat.le_of_ble_eq_true rfl) ?_
  intro p e s m args below meth c O hr hk
  have loop : ∀ (n : Nat) (i : Nat), i ≤ 8 → 8 < i + n → ja_V p l e (jo_r 1) s m args below meth c (jb_W G ad) s0.heap.size 6 0 0 (jo_M s0 G ad below args s (jo_i fun r S' => S' = S ∧ r = jp_ct (S 11) 8)) (S) 13 [(0, .ref (ad 1)), (1, .int (jp_ct (S 11) i)), (2, .ref (ad 8)), (3, .int (nI 8)), (4, .int (nI i))] [] := by
    intro n
    induction n with
    | zero => intro i hi hn; exact absurd hn (by omega)
    | succ n ih =>
      intro i hi hn
      refine ja_iload O (q := 15) jd_H_openAccounts_13 rfl rfl ?_
      refine ja_iload_n O (q := 16) jd_H_openAccounts_15 rfl rfl rfl ?_
      refine ja_icmp_ge O (g := 47) (q := 19) jd_H_openAccounts_16 (by decide) rfl (fun h_16 => ?_) (fun h_16 => ?_)
      · have hi8 : i = 8 := by
          rcases Nat.lt_or_ge i 8 with z | z
          · exact absurd h_16 (nI_ge z (by omega))
          · omega
        subst hi8
        refine ja_iload_n O (q := 48) jd_H_openAccounts_47 rfl rfl rfl ?_
        exact jo_ir O hr hk ⟨rfl, rfl⟩ jd_H_openAccounts_48
      · have hi8 : i < 8 := by
          rcases Nat.lt_or_ge i 8 with z | z
          · exact z
          · exact absurd (nI_le z (by omega)) h_16
        refine ja_aload_n O (q := 20) jd_H_openAccounts_19 rfl rfl rfl ?_
        refine ja_iload O (q := 22) jd_H_openAccounts_20 rfl rfl ?_
        refine jl_8 O (k := i) rfl (by first | assumption | omega) (q := 23) jd_H_openAccounts_22 rfl ?_
        refine ja_astore O (q := 25) jd_H_openAccounts_23 rfl (by decide) ?_
        refine ja_iload_n O (q := 26) jd_H_openAccounts_25 rfl rfl rfl ?_
        refine ja_aload O (q := 28) jd_H_openAccounts_26 rfl rfl ?_
        refine jg_H_33 O (by first | assumption | omega) (q := 31) jd_H_openAccounts_28 rfl ?_
        refine ja_if_eq O (g := 38) (q := 34) jd_H_openAccounts_31 (by decide) rfl (fun h_31 => ?_) (fun h_31 => ?_)
        · refine ja_iconst O (q := 39) (v := 0) jd_H_openAccounts_38 rfl (by decide) ?_
          refine ja_iadd O (q := 40) jd_H_openAccounts_39 rfl ?_
          refine ja_istore_n O (q := 41) jd_H_openAccounts_40 rfl rfl (by decide) ?_
          refine ja_iinc O (q := 44) (v := nI (i + 1)) jd_H_openAccounts_41 rfl rfl (nI_1 i) (by decide) ?_
          refine ja_goto O (g := 13) jd_H_openAccounts_44 (by decide) ?_
          refine ja_less (L' := [(0, .ref (ad 1)), (1, .int (jp_ct (S 11) (i + 1))), (2, .ref (ad 8)), (3, .int (nI 8)), (4, .int (nI (i + 1)))]) ⟨rfl, by simp [ja_lk, jp_ct, h_31], rfl, rfl, rfl, trivial⟩ ?_
          exact ih (i + 1) (by omega) (by omega)
        · refine ja_iconst O (q := 35) (v := 1) jd_H_openAccounts_34 rfl (by decide) ?_
          refine ja_goto O (g := 39) jd_H_openAccounts_35 (by decide) ?_
          refine ja_iadd O (q := 40) jd_H_openAccounts_39 rfl ?_
          refine ja_istore_n O (q := 41) jd_H_openAccounts_40 rfl rfl (by decide) ?_
          refine ja_iinc O (q := 44) (v := nI (i + 1)) jd_H_openAccounts_41 rfl rfl (nI_1 i) (by decide) ?_
          refine ja_goto O (g := 13) jd_H_openAccounts_44 (by decide) ?_
          refine ja_less (L' := [(0, .ref (ad 1)), (1, .int (jp_ct (S 11) (i + 1))), (2, .ref (ad 8)), (3, .int (nI 8)), (4, .int (nI (i + 1)))]) ⟨rfl, by simp [ja_lk, jp_ct, h_31], rfl, rfl, rfl, trivial⟩ ?_
          exact ih (i + 1) (by omega) (by omega)
  refine ja_iconst O (q := 1) (v := 0) jd_H_openAccounts_0 rfl (by decide) ?_
  refine ja_istore_n O (q := 2) jd_H_openAccounts_1 rfl rfl (by decide) ?_
  refine ja_aload_n O (q := 3) jd_H_openAccounts_2 rfl rfl rfl ?_
  refine jg_H_11 O (q := 6) jd_H_openAccounts_3 rfl ?_
  refine ja_astore_n O (q := 7) jd_H_openAccounts_6 rfl rfl (by decide) ?_
  refine ja_aload_n O (q := 8) jd_H_openAccounts_7 rfl rfl rfl ?_
  refine jn_8 O (q := 9) jd_H_openAccounts_8 rfl ?_
  refine ja_istore_n O (q := 10) jd_H_openAccounts_9 rfl rfl (by decide) ?_
  refine ja_iconst O (q := 11) (v := 0) jd_H_openAccounts_10 rfl (by decide) ?_
  refine ja_istore O (q := 13) jd_H_openAccounts_11 rfl (by decide) ?_
  refine ja_less (L' := [(0, .ref (ad 1)), (1, .int (jp_ct (S 11) 0)), (2, .ref (ad 8)), (3, .int (nI 8)), (4, .int (nI 0))]) ⟨rfl, rfl, rfl, rfl, rfl, trivial⟩ ?_
  exact loop 9 0 (by omega) (by omega)
set_option maxRecDepth 100000 in
theorem co_H_blockedAccounts {l : Launch} {s0 : State} {a0 : Array Value} {G : jb_Gt} {ad : Nat → Nat} (K : jo_G s0 a0 G ad) {S : ja_S}  : jo_C l s0 G ad jy_H_blockedAccounts jc_H_blockedAccounts 6 (some .int) 1 [.ref (ad 1)] S (jo_i fun r S' => S' = S ∧ r = jp_ct (S 16) 8) := by
  refine jo_of K (by decide) rfl (Nat.le_of_ble_eq_true rfl) ?_
  intro p e s m args below meth c O hr hk
  have loop : ∀ (n : Nat) (i : Nat), i ≤ 8 → 8 < i + n → ja_V p l e (jo_r 1) s m args below meth c (jb_W G ad) s0.heap.size 6 0 0 (jo_M s0 G ad below args s (jo_i fun r S' => S' = S ∧ r = jp_ct (S 16) 8)) (S) 13 [(0, .ref (ad 1)), (1, .int (jp_ct (S 16) i)), (2, .ref (ad 8)), (3, .int (nI 8)), (4, .int (nI i))] [] := by
    intro n
    induction n with
    | zero => intro i hi hn; exact absurd hn (by omega)
    | succ n ih =>
      intro i hi hn
      refine ja_iload O (q := 15) jd_H_blockedAccounts_13 rfl rfl ?_
      refine ja_iload_n O (q := 16) jd_H_blockedAccounts_15 rfl rfl rfl ?_
      refine ja_icmp_ge O (g := 47) (q := 19) jd_H_blockedAccounts_16 (by decide) rfl (fun h_16 => ?_) (fun h_16 => ?_)
      · have hi8 : i = 8 := by
          rcases Nat.lt_or_ge i 8 with z | z
          · exact absurd h_16 (nI_ge z (by omega))
          · omega
        subst hi8
        refine ja_iload_n O (q := 48) jd_H_blockedAccounts_47 rfl rfl rfl ?_
        exact jo_ir O hr hk ⟨rfl, rfl⟩ jd_H_blockedAccounts_48
      · have hi8 : i < 8 := by
          rcases Nat.lt_or_ge i 8 with z | z
          · exact z
          · exact absurd (nI_le z (by omega)) h_16
        refine ja_aload_n O (q := 20) jd_H_blockedAccounts_19 rfl rfl rfl ?_
        refine ja_iload O (q := 22) jd_H_blockedAccounts_20 rfl rfl ?_
        refine jl_8 O (k := i) rfl (by first | assumption | omega) (q := 23) jd_H_blockedAccounts_22 rfl ?_
        refine ja_astore O (q := 25) jd_H_blockedAccounts_23 rfl (by decide) ?_
        refine ja_iload_n O (q := 26) jd_H_blockedAccounts_25 rfl rfl rfl ?_
        refine ja_aload O (q := 28) jd_H_blockedAccounts_26 rfl rfl ?_
        refine jg_H_51 O (by first | assumption | omega) (q := 31) jd_H_blockedAccounts_28 rfl ?_
        refine ja_if_eq O (g := 38) (q := 34) jd_H_blockedAccounts_31 (by decide) rfl (fun h_31 => ?_) (fun h_31 => ?_)
        · refine ja_iconst O (q := 39) (v := 0) jd_H_blockedAccounts_38 rfl (by decide) ?_
          refine ja_iadd O (q := 40) jd_H_blockedAccounts_39 rfl ?_
          refine ja_istore_n O (q := 41) jd_H_blockedAccounts_40 rfl rfl (by decide) ?_
          refine ja_iinc O (q := 44) (v := nI (i + 1)) jd_H_blockedAccounts_41 rfl rfl (nI_1 i) (by decide) ?_
          refine ja_goto O (g := 13) jd_H_blockedAccounts_44 (by decide) ?_
          refine ja_less (L' := [(0, .ref (ad 1)), (1, .int (jp_ct (S 16) (i + 1))), (2, .ref (ad 8)), (3, .int (nI 8)), (4, .int (nI (i + 1)))]) ⟨rfl, by simp [ja_lk, jp_ct, h_31], rfl, rfl, rfl, trivial⟩ ?_
          exact ih (i + 1) (by omega) (by omega)
        · refine ja_iconst O (q := 35) (v := 1) jd_H_blockedAccounts_34 rfl (by decide) ?_
          refine ja_goto O (g := 39) jd_H_blockedAccounts_35 (by decide) ?_
          refine ja_iadd O (q := 40) jd_H_blockedAccounts_39 rfl ?_
          refine ja_istore_n O (q := 41) jd_H_blockedAccounts_40 rfl rfl (by decide) ?_
          refine ja_iinc O (q := 44) (v := nI (i + 1)) jd_H_blockedAccounts_41 rfl rfl (nI_1 i) (by decide) ?_
          refine ja_goto O (g := 13) jd_H_blockedAccounts_44 (by decide) ?_
          refine ja_less (L' := [(0, .ref (ad 1)), (1, .int (jp_ct (S 16) (i + 1))), (2, .ref (ad 8)), (3, .int (nI 8)), (4, .int (nI (i + 1)))]) ⟨rfl, by simp [ja_lk, jp_ct, h_31], rfl, rfl, rfl, trivial⟩ ?_
          exact ih (i + 1) (by omega) (by omega)
  refine ja_iconst O (q := 1) (v := 0) jd_H_blockedAccounts_0 rfl (by decide) ?_
  refine ja_istore_n O (q := 2) jd_H_blockedAccounts_1 rfl rfl (by decide) ?_
  refine ja_aload_n O (q := 3) jd_H_blockedAccounts_2 rfl rfl rfl ?_
  refine jg_H_11 O (q := 6) jd_H_blockedAccounts_3 rfl ?_
  refine ja_astore_n O (q := 7) jd_H_blockedAccounts_6 rfl rfl (by decide) ?_
  refine ja_aload_n O (q := 8) jd_H_blockedAccounts_7 rfl rfl rfl ?_
  refine jn_8 O (q := 9) jd_H_blockedAccounts_8 rfl ?_
  refine ja_istore_n O (q := 10) jd_H_blockedAccounts_9 rfl rfl (by decide) ?_
  refine ja_iconst O (q := 11) (v := 0) jd_H_blockedAccounts_10 rfl (by decide) ?_
  refine ja_istore O (q := 13) jd_H_blockedAccounts_11 rfl (by decide) ?_
  refine ja_less (L' := [(0, .ref (ad 1)), (1, .int (jp_ct (S 16) 0)), (2, .ref (ad 8)), (3, .int (nI 8)), (4, .int (nI 0))]) ⟨rfl, rfl, rfl, rfl, rfl, trivial⟩ ?_
  exact loop 9 0 (by omega) (by omega)
set_option maxRecDepth 100000 in
theorem co_A_tryPin {l : Launch} {s0 : State} {a0 : Array Value} {G : jb_Gt} {ad : Nat → Nat} (K : jo_G s0 a0 G ad) {S : ja_S} (j : Nat) (hj : j < 8) (x : Int32) : jo_C l s0 G ad jy_A_tryPin jc_A_tryPin 2 (some .boolean) 1 [.ref (ad (38 + j)), .int x] S (jo_i fun r S' => (x = S 12 j ∧ r = 1 ∧ S' = jb_u S 15 j 3) ∨ (x ≠ S 12 j ∧ r = 0 ∧ S' = jb_u (jb_u S 15 j (S 15 j - 1)) 16 j (if 0 < S 15 j - 1 then 0 else 1))) := by
  refine jo_of K (by decide) rfl (Nat.le_of_ble_eq_true rfl) ?_
  intro p e s m args below meth c O hr hk
  refine ja_iload_n O (q := 1) jd_A_tryPin_0 rfl rfl rfl ?_
  refine ja_aload_n O (q := 2) jd_A_tryPin_1 rfl rfl rfl ?_
  refine jg_A_15 O (by first | assumption | omega) (q := 5) jd_A_tryPin_2 rfl ?_
  refine ja_icmp_ne O (g := 15) (q := 8) jd_A_tryPin_5 (by decide) rfl (fun h_5 => ?_) (fun h_5 => ?_)
  · refine ja_aload_n O (q := 16) jd_A_tryPin_15 rfl rfl rfl ?_
    refine ja_dup O (q := 17) jd_A_tryPin_16 rfl rfl ?_
    refine jg_A_25 O (by first | assumption | omega) (q := 20) jd_A_tryPin_17 rfl ?_
    refine ja_iconst O (q := 21) (v := 1) jd_A_tryPin_20 rfl (by decide) ?_
    refine ja_isub O (q := 22) jd_A_tryPin_21 rfl ?_
    refine jp_A_25 O (by first | assumption | omega) (q := 25) jd_A_tryPin_22 rfl ?_
    refine ja_aload_n O (q := 26) jd_A_tryPin_25 rfl rfl rfl ?_
    refine ja_aload_n O (q := 27) jd_A_tryPin_26 rfl rfl rfl ?_
    refine jg_A_25 O (by first | assumption | omega) (q := 30) jd_A_tryPin_27 rfl ?_
    refine ja_if_gt O (g := 37) (q := 33) jd_A_tryPin_30 (by decide) rfl (fun h_30 => ?_) (fun h_30 => ?_)
    · refine ja_iconst O (q := 38) (v := 0) jd_A_tryPin_37 rfl (by decide) ?_
      refine jp_A_28 O (by first | assumption | omega) (by first | assumption | exact Or.inl rfl | exact Or.inr rfl) (q := 41) jd_A_tryPin_38 rfl ?_
      refine ja_iconst O (q := 42) (v := 0) jd_A_tryPin_41 rfl (by decide) ?_
      exact jo_zr O hr hk (by first | assumption | exact Or.inl rfl | exact Or.inr rfl) (Or.inr ⟨h_5, rfl, by rw [jb_us] at h_30; first | rw [if_pos h_30] | rw [if_neg h_30]⟩) jd_A_tryPin_42
    · refine ja_iconst O (q := 34) (v := 1) jd_A_tryPin_33 rfl (by decide) ?_
      refine ja_goto O (g := 38) jd_A_tryPin_34 (by decide) ?_
      refine jp_A_28 O (by first | assumption | omega) (by first | assumption | exact Or.inl rfl | exact Or.inr rfl) (q := 41) jd_A_tryPin_38 rfl ?_
      refine ja_iconst O (q := 42) (v := 0) jd_A_tryPin_41 rfl (by decide) ?_
      exact jo_zr O hr hk (by first | assumption | exact Or.inl rfl | exact Or.inr rfl) (Or.inr ⟨h_5, rfl, by rw [jb_us] at h_30; first | rw [if_pos h_30] | rw [if_neg h_30]⟩) jd_A_tryPin_42
  · refine ja_aload_n O (q := 9) jd_A_tryPin_8 rfl rfl rfl ?_
    refine ja_iconst O (q := 10) (v := 3) jd_A_tryPin_9 rfl (by decide) ?_
    refine jp_A_25 O (by first | assumption | omega) (q := 13) jd_A_tryPin_10 rfl ?_
    refine ja_iconst O (q := 14) (v := 1) jd_A_tryPin_13 rfl (by decide) ?_
    exact jo_zr O hr hk (by first | assumption | exact Or.inl rfl | exact Or.inr rfl) (Or.inl ⟨h_5, rfl, rfl⟩) jd_A_tryPin_14
set_option maxRecDepth 100000 in
theorem co_N_add {l : Launch} {s0 : State} {a0 : Array Value} {G : jb_Gt} {ad : Nat → Nat} (K : jo_G s0 a0 G ad) {S : ja_S} (n : Nat) (hn : n < 8) (h4 : S 4 0 = nI n) (x : Int32) : jo_C l s0 G ad jy_N_add jc_N_add 2 none 1 [.ref (ad 2), .int x] S (jo_v fun S' => S' = jb_u (jb_u S 27 n x) 4 0 (nI (n + 1))) := by
  refine jo_of K (by decide) rfl (Nat.le_of_ble_eq_true rfl) ?_
  intro p e s m args below meth c O hr hk
  refine ja_aload_n O (q := 1) jd_N_add_0 rfl rfl rfl ?_
  refine jg_N_9 O (q := 4) jd_N_add_1 rfl ?_
  refine ja_aload_n O (q := 5) jd_N_add_4 rfl rfl rfl ?_
  refine jg_N_15 O (q := 8) jd_N_add_5 rfl ?_
  refine ja_iload_n O (q := 9) jd_N_add_8 rfl rfl rfl ?_
  refine js_12 O (k := n) h4 (by first | assumption | omega) (q := 10) jd_N_add_9 rfl ?_
  refine ja_aload_n O (q := 11) jd_N_add_10 rfl rfl rfl ?_
  refine ja_dup O (q := 12) jd_N_add_11 rfl rfl ?_
  refine jg_N_15 O (q := 15) jd_N_add_12 rfl ?_
  refine ja_iconst O (q := 16) (v := 1) jd_N_add_15 rfl (by decide) ?_
  refine ja_iadd O (q := 17) jd_N_add_16 rfl ?_
  refine jp_N_15 O (q := 20) jd_N_add_17 rfl ?_
  exact jo_vr O hr hk (by show jb_u _ 4 0 (S 4 0 + 1) = _; rw [h4, nI_1]) jd_N_add_20
set_option maxRecDepth 100000 in
theorem co_R_add {l : Launch} {s0 : State} {a0 : Array Value} {G : jb_Gt} {ad : Nat → Nat} (K : jo_G s0 a0 G ad) {S : ja_S} (k : Nat) (hk9 : k < 40) (h10 : S 10 0 = nI k) (t x : Int32) : jo_C l s0 G ad jy_R_add jc_R_add 3 none 1 [.ref (ad 5), .int t, .int x] S (jo_v fun S' => S' = jb_u (jb_u (jb_u S 30 k t) 31 k x) 10 0 (nI (k + 1))) := by
  refine jo_of K (by decide) rfl (Nat.le_of_ble_eq_true rfl) ?_
  intro p e s m args below meth c O hr hk
  refine ja_aload_n O (q := 1) jd_R_add_0 rfl rfl rfl ?_
  refine jg_R_18 O (q := 4) jd_R_add_1 rfl ?_
  refine ja_bipush O (q := 6) (v := 40) jd_R_add_4 rfl (by decide) ?_
  refine ja_icmp_ge O (g := 39) (q := 9) jd_R_add_6 (by decide) rfl (fun h_6 => absurd h_6 (by rw [h10]; exact nI_ge (b := 40) hk9 (by omega))) (fun h_6 => ?_)
  refine ja_aload_n O (q := 10) jd_R_add_9 rfl rfl rfl ?_
  refine jg_R_9 O (q := 13) jd_R_add_10 rfl ?_
  refine ja_aload_n O (q := 14) jd_R_add_13 rfl rfl rfl ?_
  refine jg_R_18 O (q := 17) jd_R_add_14 rfl ?_
  refine ja_iload_n O (q := 18) jd_R_add_17 rfl rfl rfl ?_
  refine js_17 O (k := k) h10 (by first | assumption | omega) (q := 19) jd_R_add_18 rfl ?_
  refine ja_aload_n O (q := 20) jd_R_add_19 rfl rfl rfl ?_
  refine jg_R_15 O (q := 23) jd_R_add_20 rfl ?_
  refine ja_aload_n O (q := 24) jd_R_add_23 rfl rfl rfl ?_
  refine jg_R_18 O (q := 27) jd_R_add_24 rfl ?_
  refine ja_iload_n O (q := 28) jd_R_add_27 rfl rfl rfl ?_
  refine js_18 O (k := k) h10 (by first | assumption | omega) (q := 29) jd_R_add_28 rfl ?_
  refine ja_aload_n O (q := 30) jd_R_add_29 rfl rfl rfl ?_
  refine ja_dup O (q := 31) jd_R_add_30 rfl rfl ?_
  refine jg_R_18 O (q := 34) jd_R_add_31 rfl ?_
  refine ja_iconst O (q := 35) (v := 1) jd_R_add_34 rfl (by decide) ?_
  refine ja_iadd O (q := 36) jd_R_add_35 rfl ?_
  refine jp_R_18 O (q := 39) jd_R_add_36 rfl ?_
  exact jo_vr O hr hk (by show jb_u _ 10 0 (S 10 0 + 1) = _; rw [h10, nI_1]) jd_R_add_39
set_option maxRecDepth 100000 in
theorem co_D_exchangeNotes {l : Launch} {s0 : State} {a0 : Array Value} {G : jb_Gt} {ad : Nat → Nat} (K : jo_G s0 a0 G ad) {S : ja_S} (j : Nat) (hj : j < 4) (v x : Int32) : jo_C l s0 G ad jy_D_exchangeNotes jc_D_exchangeNotes 6 (some .int) 1 [.ref (ad 3), .int (nI j), .int v, .int x] S (jo_i fun r S' => r = S 17 j * S 18 j ∧ S' = jb_u (jb_u S 17 j v) 18 j x) := by
  refine jo_of K (by decide) rfl (Nat.le_of_ble_eq_true rfl) ?_
  intro p e s m args below meth c O hr hk
  refine ja_aload_n O (q := 1) jd_D_exchangeNotes_0 rfl rfl rfl ?_
  refine jg_D_11 O (q := 4) jd_D_exchangeNotes_1 rfl ?_
  refine ja_iload_n O (q := 5) jd_D_exchangeNotes_4 rfl rfl rfl ?_
  refine jl_13 O  rfl (by first | assumption | omega) (q := 6) jd_D_exchangeNotes_5 rfl ?_
  refine ja_astore O (q := 8) jd_D_exchangeNotes_6 rfl (by decide) ?_
  refine ja_aload O (q := 10) jd_D_exchangeNotes_8 rfl rfl ?_
  refine jg_D_38 O (by first | assumption | omega) (q := 13) jd_D_exchangeNotes_10 rfl ?_
  refine ja_aload O (q := 15) jd_D_exchangeNotes_13 rfl rfl ?_
  refine jg_D_41 O (by first | assumption | omega) (q := 18) jd_D_exchangeNotes_15 rfl ?_
  refine ja_imul O (q := 19) jd_D_exchangeNotes_18 rfl ?_
  refine ja_istore O (q := 21) jd_D_exchangeNotes_19 rfl (by decide) ?_
  refine ja_aload O (q := 23) jd_D_exchangeNotes_21 rfl rfl ?_
  refine ja_iload_n O (q := 24) jd_D_exchangeNotes_23 rfl rfl rfl ?_
  refine jp_D_38 O (by first | assumption | omega) (q := 27) jd_D_exchangeNotes_24 rfl ?_
  refine ja_aload O (q := 29) jd_D_exchangeNotes_27 rfl rfl ?_
  refine ja_iload_n O (q := 30) jd_D_exchangeNotes_29 rfl rfl rfl ?_
  refine jp_D_41 O (by first | assumption | omega) (q := 33) jd_D_exchangeNotes_30 rfl ?_
  refine ja_iload O (q := 35) jd_D_exchangeNotes_33 rfl rfl ?_
  exact jo_ir O hr hk ⟨rfl, rfl⟩ jd_D_exchangeNotes_35
set_option maxRecDepth 100000 in
theorem co_J_begin {l : Launch} {s0 : State} {a0 : Array Value} {G : jb_Gt} {ad : Nat → Nat} (K : jo_G s0 a0 G ad) {S : ja_S} (t : Nat) (ht : t < 40) (h9 : S 9 0 = nI t) (x y : Int32) : jo_C l s0 G ad jy_J_begin jc_J_begin 4 (some (.object "CashMachine$Entry")) 1 [.ref (ad 4), .int x, .int y] S (jo_a fun r S' => r = ad (50 + t) ∧ S' = jb_u (jb_u (jb_u (jb_u S 9 0 (nI (t + 1))) 20 t x) 21 t y) 22 t 1) := by
  refine jo_of K (by decide) rfl (Nat.le_of_ble_eq_true rfl) ?_
  intro p e s m args below meth c O hr hk
  refine ja_aload_n O (q := 1) jd_J_begin_0 rfl rfl rfl ?_
  refine jg_J_11 O (q := 4) jd_J_begin_1 rfl ?_
  refine ja_aload_n O (q := 5) jd_J_begin_4 rfl rfl rfl ?_
  refine jg_J_17 O (q := 8) jd_J_begin_5 rfl ?_
  refine jl_16 O (k := t) h9 (by first | assumption | omega) (q := 9) jd_J_begin_8 rfl ?_
  refine ja_astore_n O (q := 10) jd_J_begin_9 rfl rfl (by decide) ?_
  refine ja_aload_n O (q := 11) jd_J_begin_10 rfl rfl rfl ?_
  refine ja_dup O (q := 12) jd_J_begin_11 rfl rfl ?_
  refine jg_J_17 O (q := 15) jd_J_begin_12 rfl ?_
  refine ja_iconst O (q := 16) (v := 1) jd_J_begin_15 rfl (by decide) ?_
  refine ja_iadd O (q := 17) jd_J_begin_16 rfl ?_
  refine jp_J_17 O (q := 20) jd_J_begin_17 rfl ?_
  refine ja_aload_n O (q := 21) jd_J_begin_20 rfl rfl rfl ?_
  refine ja_iload_n O (q := 22) jd_J_begin_21 rfl rfl rfl ?_
  refine jp_J_24 O (by first | assumption | omega) (q := 25) jd_J_begin_22 rfl ?_
  refine ja_aload_n O (q := 26) jd_J_begin_25 rfl rfl rfl ?_
  refine ja_iload_n O (q := 27) jd_J_begin_26 rfl rfl rfl ?_
  refine jp_J_27 O (by first | assumption | omega) (q := 30) jd_J_begin_27 rfl ?_
  refine ja_aload_n O (q := 31) jd_J_begin_30 rfl rfl rfl ?_
  refine ja_iconst O (q := 32) (v := 1) jd_J_begin_31 rfl (by decide) ?_
  refine jp_J_30 O (by first | assumption | omega) (q := 35) jd_J_begin_32 rfl ?_
  refine ja_aload_n O (q := 36) jd_J_begin_35 rfl rfl rfl ?_
  exact jo_ar O hr hk (Or.inl ⟨_, rfl⟩) ⟨rfl, by rw [show S 9 0 + 1 = nI (t + 1) by rw [h9, nI_1]]⟩ jd_J_begin_36
set_option maxRecDepth 100000 in
theorem co_J_last {l : Launch} {s0 : State} {a0 : Array Value} {G : jb_Gt} {ad : Nat → Nat} (K : jo_G s0 a0 G ad) {S : ja_S} (t : Nat) (ht : t < 40) (h9 : S 9 0 = nI (t + 1)) : jo_C l s0 G ad jy_J_last jc_J_last 1 (some (.object "CashMachine$Entry")) 1 [.ref (ad 4)] S (jo_a fun r S' => r = ad (50 + t) ∧ S' = S) := by
  refine jo_of K (by decide) rfl (Nat.le_of_ble_eq_true rfl) ?_
  intro p e s m args below meth c O hr hk
  refine ja_aload_n O (q := 1) jd_J_last_0 rfl rfl rfl ?_
  refine jg_J_11 O (q := 4) jd_J_last_1 rfl ?_
  refine ja_aload_n O (q := 5) jd_J_last_4 rfl rfl rfl ?_
  refine jg_J_17 O (q := 8) jd_J_last_5 rfl ?_
  refine ja_iconst O (q := 9) (v := 1) jd_J_last_8 rfl (by decide) ?_
  refine ja_isub O (q := 10) jd_J_last_9 rfl ?_
  refine jl_16 O (k := t) (by rw [h9]; exact nI_pred t) (by first | assumption | omega) (q := 11) jd_J_last_10 rfl ?_
  exact jo_ar O hr hk (Or.inl ⟨_, rfl⟩) ⟨rfl, rfl⟩ jd_J_last_11
set_option maxRecDepth 100000 in
theorem co_N_takeFirst {l : Launch} {s0 : State} {a0 : Array Value} {G : jb_Gt} {ad : Nat → Nat} (K : jo_G s0 a0 G ad) {S : ja_S} (n : Nat) (hn : n ≤ 8) (h4 : S 4 0 = nI n) : jo_C l s0 G ad jy_N_takeFirst jc_N_takeFirst 2 (some .int) 2 [.ref (ad 2)] S (jo_i fun r S' => (n = 0 ∧ r = 0 ∧ S' = S) ∨ (0 < n ∧ r = S 27 0 ∧ S' = jb_sv (jb_u S 4 0 (nI (n - 1))) 27 (va_cpy (S 27) (S 27) 1 0 (n - 1)))) := by
  refine jo_of K (by decide) rfl (Nat.le_of_ble_eq_true rfl) ?_
  intro p e s m args below meth c O hr hk
  refine ja_aload_n O (q := 1) jd_N_takeFirst_0 rfl rfl rfl ?_
  refine jg_N_15 O (q := 4) jd_N_takeFirst_1 rfl ?_
  refine ja_if_ne O (g := 9) (q := 7) jd_N_takeFirst_4 (by decide) rfl (fun h_4 => ?_) (fun h_4 => ?_)
  · have hn0 : 0 < n := Nat.pos_of_ne_zero (fun q => h_4 (by rw [h4, q]; rfl))
    refine ja_aload_n O (q := 10) jd_N_takeFirst_9 rfl rfl rfl ?_
    refine jg_N_9 O (q := 13) jd_N_takeFirst_10 rfl ?_
    refine ja_iconst O (q := 14) (v := 0) jd_N_takeFirst_13 rfl (by decide) ?_
    refine jl_12 O (k := 0) rfl (by first | assumption | omega) (q := 15) jd_N_takeFirst_14 rfl ?_
    refine ja_istore_n O (q := 16) jd_N_takeFirst_15 rfl rfl (by decide) ?_
    refine ja_aload_n O (q := 17) jd_N_takeFirst_16 rfl rfl rfl ?_
    refine ja_dup O (q := 18) jd_N_takeFirst_17 rfl rfl ?_
    refine jg_N_15 O (q := 21) jd_N_takeFirst_18 rfl ?_
    refine ja_iconst O (q := 22) (v := 1) jd_N_takeFirst_21 rfl (by decide) ?_
    refine ja_isub O (q := 23) jd_N_takeFirst_22 rfl ?_
    refine jp_N_15 O (q := 26) jd_N_takeFirst_23 rfl ?_
    refine ja_aload_n O (q := 27) jd_N_takeFirst_26 rfl rfl rfl ?_
    refine jg_N_9 O (q := 30) jd_N_takeFirst_27 rfl ?_
    refine ja_iconst O (q := 31) (v := 1) jd_N_takeFirst_30 rfl (by decide) ?_
    refine ja_aload_n O (q := 32) jd_N_takeFirst_31 rfl rfl rfl ?_
    refine jg_N_9 O (q := 35) jd_N_takeFirst_32 rfl ?_
    refine ja_iconst O (q := 36) (v := 0) jd_N_takeFirst_35 rfl (by decide) ?_
    refine ja_aload_n O (q := 37) jd_N_takeFirst_36 rfl rfl rfl ?_
    refine jg_N_15 O (q := 40) jd_N_takeFirst_37 rfl ?_
    refine jcp_12 O (a := 1) (b := 0) (k := n - 1) rfl rfl (show S 4 0 - 1 = nI (n - 1) by rw [h4]; exact jp_m1 hn0) (by omega) (by omega) ⟨by decide, by decide⟩ (q := 43) jd_N_takeFirst_40 rfl ?_
    refine ja_iload_n O (q := 44) jd_N_takeFirst_43 rfl rfl rfl ?_
    exact jo_ir O hr hk (Or.inr ⟨hn0, rfl, by rw [show S 4 0 - 1 = nI (n - 1) by rw [h4]; exact jp_m1 hn0]; rfl⟩) jd_N_takeFirst_44
  · refine ja_iconst O (q := 8) (v := 0) jd_N_takeFirst_7 rfl (by decide) ?_
    exact jo_ir O hr hk (Or.inl ⟨by rw [h4] at h_4; exact (nI_eq (by omega) (by decide)).mp h_4, rfl, rfl⟩) jd_N_takeFirst_8
