/-! THE REFERENCE'S MIX (2), by program (wip/whole/gen/p22.py): thirds, mixed, mix -/
theorem jm_KMs {M : ja_S} {v n : Nat → Nat} {g : Nat → Int32} (h : jm_KM M v n) : jm_KM (jb_sv M 52 g) v n := h
theorem jm_Rf {v n : Nat → Nat} {A : Nat} {Q : Nat → Nat → Nat → Prop} {g : Nat → Int32} {x : Int32} (h : jm_R v n A Q g x) (hq : ∀ u, jm_mx v n A u → Q (u 0) (u 1) (u 2)) : (x = 1 ∧ ∃ t, jm_be v n A t ∧ ∀ i, i < 4 → g i = nI (t i)) ∨ (x = 0 ∧ ∀ t, ¬ jm_mx v n A t) := by
  rcases h with ⟨hx, h⟩ | ⟨hx, t, h1, h2, h3⟩
  · exact Or.inr ⟨hx, fun u hu => h u hu (hq u hu)⟩
  · exact Or.inl ⟨hx, t, ⟨h1, fun u hu => h3 u hu (hq u hu)⟩, h2⟩
set_option maxRecDepth 100000 in
theorem co_M_thirds {l : Launch} {s0 : State} {a0 : Array Value} {G : jb_Gt} {ad : Nat → Nat} (K : jo_G s0 a0 G ad) {S : ja_S} (v n9 : Nat → Nat) (A a b : Nat) (x : Int32) (Q : Nat → Nat → Nat → Prop) (hA : A ≤ 5000) (hK : jm_KM S v n9) (ha : a ≤ n9 0) (hb : b ≤ n9 1) (hs : a * v 0 + b * v 1 ≤ A) (hR0 : jm_R v n9 A Q (S 52) x) : jo_C l s0 G ad jy_M_thirds jc_M_thirds 7 (some .boolean) 3 [.ref (ad 7), .int (nI (A - a * v 0 - b * v 1)), .int (nI a), .int (nI b), .int x] S (jo_i fun r S' => (r = 0 ∨ r = 1) ∧ ∃ g, S' = jb_sv S 52 g ∧ jm_R v n9 A (fun i j k => Q i j k ∨ (i = a ∧ j = b)) g r) := by
  refine jo_of K (by decide) rfl (Nat.le_of_ble_eq_true rfl) ?_
  intro p e s m args below meth c O hr hk
  obtain ⟨k50, k51, v21, v22, n21⟩ := hK 2 (by omega)
  have m2 : ∀ z, z ≤ 51 → z * v 2 ≤ 25500 := fun z hz => by have := Nat.mul_le_mul hz v22; omega
  have loop : ∀ (n : Nat) (c9 : Nat) (g : Nat → Int32) (y : Int32), c9 ≤ 51 → 51 < c9 + n → jm_R v n9 A (fun i j k => Q i j k ∨ (i = a ∧ j = b ∧ k < c9)) g y → ja_V p l e (jo_r 3) s m args below meth c (jb_W G ad) s0.heap.size 7 0 0 (jo_M s0 G ad below args s (jo_i fun r S' => (r = 0 ∨ r = 1) ∧ ∃ g, S' = jb_sv S 52 g ∧ jm_R v n9 A (fun i j k => Q i j k ∨ (i = a ∧ j = b)) g r)) (jb_sv S 52 g) 7 [(0, .ref (ad 7)), (1, .int (nI (A - a * v 0 - b * v 1))), (2, .int (nI a)), (3, .int (nI b)), (5, .int y), (6, .int (nI c9))] [] := by
    intro n
    induction n with
    | zero => intro c9 g y hc hn hR; exact absurd hn (by omega)
    | succ n ih =>
      intro c9 g y hc hn hR
      have mc := m2 c9 hc
      refine ja_iload O (q := 9) jd_M_thirds_7 rfl rfl ?_
      refine ja_aload_n O (q := 10) jd_M_thirds_9 rfl rfl rfl ?_
      refine jg_M_32 O (q := 13) jd_M_thirds_10 rfl ?_
      refine ja_iconst O (q := 14) (v := 2) jd_M_thirds_13 rfl (by decide) ?_
      refine jl_26 O (k := 2) rfl (by first | assumption | omega) (q := 15) jd_M_thirds_14 rfl ?_
      refine ja_icmp_gt O (g := 64) (q := 18) jd_M_thirds_15 (by decide) rfl (fun h_15 => ?_) (fun h_15 => ?_)
      · have hh : n9 2 < c9 ∨ A - a * v 0 - b * v 1 < c9 * v 2 := by
          first
          | exact Or.inl ((nI_ltI (by omega) (by omega)).mp (by rw [← k51]; exact h_15))
          | exact Or.inr ((nI_ltI (by omega) (by omega)).mp (by rw [← pk_mul, ← k50]; exact h_28))
        refine ja_iload O (q := 66) jd_M_thirds_64 rfl rfl ?_
        exact jo_zr O hr hk hR.x01 ⟨hR.x01, g, rfl, jm_Rq hR (fun u hu q => by
            rcases q with q | ⟨q1, q2⟩
            · exact Or.inl q
            · refine Or.inr ⟨q1, q2, ?_⟩
              rcases Nat.lt_or_ge (u 2) c9 with z | z
              · exact z
              · have z1 := hu.1 2 (by omega)
                have z2 := hu.2
                have z3 := Nat.mul_le_mul_right (v 2) z
                rw [q1, q2] at z2
                omega)⟩ jd_M_thirds_66
      · refine ja_iload O (q := 20) jd_M_thirds_18 rfl rfl ?_
        refine ja_aload_n O (q := 21) jd_M_thirds_20 rfl rfl rfl ?_
        refine jg_M_29 O (q := 24) jd_M_thirds_21 rfl ?_
        refine ja_iconst O (q := 25) (v := 2) jd_M_thirds_24 rfl (by decide) ?_
        refine jl_25 O (k := 2) rfl (by first | assumption | omega) (q := 26) jd_M_thirds_25 rfl ?_
        refine ja_imul O (q := 27) jd_M_thirds_26 rfl ?_
        refine ja_iload_n O (q := 28) jd_M_thirds_27 rfl rfl rfl ?_
        refine ja_icmp_gt O (g := 64) (q := 31) jd_M_thirds_28 (by decide) rfl (fun h_28 => ?_) (fun h_28 => ?_)
        · have hh : n9 2 < c9 ∨ A - a * v 0 - b * v 1 < c9 * v 2 := by
            first
            | exact Or.inl ((nI_ltI (by omega) (by omega)).mp (by rw [← k51]; exact h_15))
            | exact Or.inr ((nI_ltI (by omega) (by omega)).mp (by rw [← pk_mul, ← k50]; exact h_28))
          refine ja_iload O (q := 66) jd_M_thirds_64 rfl rfl ?_
          exact jo_zr O hr hk hR.x01 ⟨hR.x01, g, rfl, jm_Rq hR (fun u hu q => by
              rcases q with q | ⟨q1, q2⟩
              · exact Or.inl q
              · refine Or.inr ⟨q1, q2, ?_⟩
                rcases Nat.lt_or_ge (u 2) c9 with z | z
                · exact z
                · have z1 := hu.1 2 (by omega)
                  have z2 := hu.2
                  have z3 := Nat.mul_le_mul_right (v 2) z
                  rw [q1, q2] at z2
                  omega)⟩ jd_M_thirds_66
        · have hc2 : c9 ≤ n9 2 := by
            rcases Nat.lt_or_ge (n9 2) c9 with z | z
            · exact absurd (show S 51 2 < nI c9 by rw [k51]; exact nI_lt z (by omega)) h_15
            · exact z
          have hcs : c9 * v 2 ≤ A - a * v 0 - b * v 1 := by
            rcases Nat.lt_or_ge (A - a * v 0 - b * v 1) (c9 * v 2) with z | z
            · exact absurd (show nI (A - a * v 0 - b * v 1) < nI c9 * S 50 2 by rw [k50, pk_mul]; exact nI_lt z (by omega)) h_28
            · exact z
          refine ja_aload_n O (q := 32) jd_M_thirds_31 rfl rfl rfl ?_
          refine ja_iload_n O (q := 33) jd_M_thirds_32 rfl rfl rfl ?_
          refine ja_iload O (q := 35) jd_M_thirds_33 rfl rfl ?_
          refine ja_aload_n O (q := 36) jd_M_thirds_35 rfl rfl rfl ?_
          refine jg_M_29 O (q := 39) jd_M_thirds_36 rfl ?_
          refine ja_iconst O (q := 40) (v := 2) jd_M_thirds_39 rfl (by decide) ?_
          refine jl_25 O (k := 2) rfl (by first | assumption | omega) (q := 41) jd_M_thirds_40 rfl ?_
          refine ja_imul O (q := 42) jd_M_thirds_41 rfl ?_
          refine ja_isub O (q := 43) jd_M_thirds_42 rfl ?_
          rw [show nI (A - a * v 0 - b * v 1) - nI c9 * jb_sv S 52 g 50 2 = nI (A - a * v 0 - b * v 1 - c9 * v 2) from by rw [show jb_sv S 52 g 50 2 = nI (v 2) from k50, pk_mul, pk_sub hcs]]
          refine ja_iload_n O (q := 44) jd_M_thirds_43 rfl rfl rfl ?_
          refine ja_iload_n O (q := 45) jd_M_thirds_44 rfl rfl rfl ?_
          refine ja_iload O (q := 47) jd_M_thirds_45 rfl rfl ?_
          refine ja_iload O (q := 49) jd_M_thirds_47 rfl rfl ?_
          refine jm_M_95 O (d := 2) ⟨by decide, by decide⟩ (Nat.le_of_ble_eq_true rfl) ⟨by decide, by decide⟩ (co_M_better K (S := jb_sv S 52 g) v n9 A a b c9 y (fun i j k => Q i j k ∨ (i = a ∧ j = b ∧ k < c9)) hA (jm_KMs hK) ha hb hc2 (by omega) hR) (q := 52) jd_M_thirds_49 rfl (fun r S' h => ?_)
          obtain ⟨h01, g', rfl, hR'⟩ := h
          refine ja_if_eq O (g := 58) (q := 55) jd_M_thirds_52 (by decide) rfl (fun h_52 => ?_) (fun h_52 => ?_)
          · refine ja_iinc O (q := 61) (v := nI (c9 + 1)) jd_M_thirds_58 rfl rfl (nI_1 c9) (by decide) ?_
            refine ja_goto O (g := 7) jd_M_thirds_61 (by decide) ?_
            refine ja_less (L' := [(0, .ref (ad 7)), (1, .int (nI (A - a * v 0 - b * v 1))), (2, .int (nI a)), (3, .int (nI b)), (5, .int (if r = 0 then y else 1)), (6, .int (nI (c9 + 1)))]) ⟨rfl, rfl, rfl, rfl, by first | (show some (Value.int y) = some (Value.int (if r = 0 then y else 1)); rw [if_pos h_52]) | (show some (Value.int 1) = some (Value.int (if r = 0 then y else 1)); rw [if_neg h_52]), rfl, trivial⟩ ?_
            rw [jb_svv]
            exact ih (c9 + 1) g' _ (by omega) (by omega) (jm_Rq hR' (fun u hu q => by
              rcases q with q | ⟨q1, q2, q3⟩
              · exact Or.inl (Or.inl q)
              · rcases Nat.lt_or_ge (u 2) c9 with z | z
                · exact Or.inl (Or.inr ⟨q1, q2, z⟩)
                · exact Or.inr ⟨q1, q2, by omega⟩))
          · refine ja_iconst O (q := 56) (v := 1) jd_M_thirds_55 rfl (by decide) ?_
            refine ja_istore O (q := 58) jd_M_thirds_56 rfl (by decide) ?_
            refine ja_iinc O (q := 61) (v := nI (c9 + 1)) jd_M_thirds_58 rfl rfl (nI_1 c9) (by decide) ?_
            refine ja_goto O (g := 7) jd_M_thirds_61 (by decide) ?_
            refine ja_less (L' := [(0, .ref (ad 7)), (1, .int (nI (A - a * v 0 - b * v 1))), (2, .int (nI a)), (3, .int (nI b)), (5, .int (if r = 0 then y else 1)), (6, .int (nI (c9 + 1)))]) ⟨rfl, rfl, rfl, rfl, by first | (show some (Value.int y) = some (Value.int (if r = 0 then y else 1)); rw [if_pos h_52]) | (show some (Value.int 1) = some (Value.int (if r = 0 then y else 1)); rw [if_neg h_52]), rfl, trivial⟩ ?_
            rw [jb_svv]
            exact ih (c9 + 1) g' _ (by omega) (by omega) (jm_Rq hR' (fun u hu q => by
              rcases q with q | ⟨q1, q2, q3⟩
              · exact Or.inl (Or.inl q)
              · rcases Nat.lt_or_ge (u 2) c9 with z | z
                · exact Or.inl (Or.inr ⟨q1, q2, z⟩)
                · exact Or.inr ⟨q1, q2, by omega⟩))
  refine ja_iload O (q := 2) jd_M_thirds_0 rfl rfl ?_
  refine ja_istore O (q := 4) jd_M_thirds_2 rfl (by decide) ?_
  refine ja_iconst O (q := 5) (v := 0) jd_M_thirds_4 rfl (by decide) ?_
  refine ja_istore O (q := 7) jd_M_thirds_5 rfl (by decide) ?_
  refine ja_less (L' := [(0, .ref (ad 7)), (1, .int (nI (A - a * v 0 - b * v 1))), (2, .int (nI a)), (3, .int (nI b)), (5, .int x), (6, .int (nI 0))]) ⟨rfl, rfl, rfl, rfl, rfl, rfl, trivial⟩ ?_
  have h0 := loop 52 0 (S 52) x (by omega) (by omega) (jm_Rq hR0 (fun u hu q => q.elim id (fun z => absurd z.2.2 (by omega))))
  rw [jb_svs] at h0
  exact h0
set_option maxRecDepth 100000 in
theorem co_M_mixed {l : Launch} {s0 : State} {a0 : Array Value} {G : jb_Gt} {ad : Nat → Nat} (K : jo_G s0 a0 G ad) {S : ja_S} (v n9 : Nat → Nat) (A : Nat) (hA : A ≤ 5000) (hK : jm_KM S v n9) : jo_C l s0 G ad jy_M_mixed jc_M_mixed 5 (some .boolean) 4 [.ref (ad 7), .int (nI A)] S (jo_i fun r S' => ∃ g, S' = jb_sv S 52 g ∧ ((r = 1 ∧ ∃ t, jm_be v n9 A t ∧ ∀ i, i < 4 → g i = nI (t i)) ∨ (r = 0 ∧ ∀ t, ¬ jm_mx v n9 A t))) := by
  refine jo_of K (by decide) rfl (Nat.le_of_ble_eq_true rfl) ?_
  intro p e s m args below meth c O hr hk
  obtain ⟨k500, k510, v01, v02, n01⟩ := hK 0 (by omega)
  obtain ⟨k501, k511, v11, v12, n11⟩ := hK 1 (by omega)
  have m0 : ∀ z, z ≤ 51 → z * v 0 ≤ 25500 := fun z hz => by have := Nat.mul_le_mul hz v02; omega
  have m1 : ∀ z, z ≤ 51 → z * v 1 ≤ 25500 := fun z hz => by have := Nat.mul_le_mul hz v12; omega
  have outer : ∀ (nO_ : Nat) (a : Nat) (g : Nat → Int32) (y : Int32), a ≤ 51 → 51 < a + nO_ → jm_R v n9 A (fun i j k => i < a) g y → ja_V p l e (jo_r 4) s m args below meth c (jb_W G ad) s0.heap.size 5 0 0 (jo_M s0 G ad below args s (jo_i fun r S' => ∃ g, S' = jb_sv S 52 g ∧ ((r = 1 ∧ ∃ t, jm_be v n9 A t ∧ ∀ i, i < 4 → g i = nI (t i)) ∨ (r = 0 ∧ ∀ t, ¬ jm_mx v n9 A t)))) (jb_sv S 52 g) 4 [(0, .ref (ad 7)), (1, .int (nI A)), (2, .int y), (3, .int (nI a))] [] := by
    intro nO_
    induction nO_ with
    | zero => intro a g y ha9 hnO hR; exact absurd hnO (by omega)
    | succ nO_ ihO =>
      intro a g y ha9 hnO hR
      have ma := m0 a ha9
      refine ja_iload_n O (q := 5) jd_M_mixed_4 rfl rfl rfl ?_
      refine ja_aload_n O (q := 6) jd_M_mixed_5 rfl rfl rfl ?_
      refine jg_M_32 O (q := 9) jd_M_mixed_6 rfl ?_
      refine ja_iconst O (q := 10) (v := 0) jd_M_mixed_9 rfl (by decide) ?_
      refine jl_26 O (k := 0) rfl (by first | assumption | omega) (q := 11) jd_M_mixed_10 rfl ?_
      refine ja_icmp_gt O (g := 103) (q := 14) jd_M_mixed_11 (by decide) rfl (fun h_11 => ?_) (fun h_11 => ?_)
      · have hh : n9 0 < a ∨ A < a * v 0 := by
          first
          | exact Or.inl ((nI_ltI (by omega) (by omega)).mp (by rw [← k510]; exact h_11))
          | exact Or.inr ((nI_ltI (by omega) (by omega)).mp (by rw [← pk_mul, ← k500]; exact h_23))
        refine ja_iload_n O (q := 104) jd_M_mixed_103 rfl rfl rfl ?_
        exact jo_zr O hr hk hR.x01 ⟨g, rfl, jm_Rf hR (fun u hu => by
            show u 0 < a
            rcases Nat.lt_or_ge (u 0) a with z | z
            · exact z
            · have z1 := hu.1 0 (by omega)
              have z2 := hu.2
              have z3 := Nat.mul_le_mul_right (v 0) z
              omega)⟩ jd_M_mixed_104
      · refine ja_iload_n O (q := 15) jd_M_mixed_14 rfl rfl rfl ?_
        refine ja_aload_n O (q := 16) jd_M_mixed_15 rfl rfl rfl ?_
        refine jg_M_29 O (q := 19) jd_M_mixed_16 rfl ?_
        refine ja_iconst O (q := 20) (v := 0) jd_M_mixed_19 rfl (by decide) ?_
        refine jl_25 O (k := 0) rfl (by first | assumption | omega) (q := 21) jd_M_mixed_20 rfl ?_
        refine ja_imul O (q := 22) jd_M_mixed_21 rfl ?_
        refine ja_iload_n O (q := 23) jd_M_mixed_22 rfl rfl rfl ?_
        refine ja_icmp_gt O (g := 103) (q := 26) jd_M_mixed_23 (by decide) rfl (fun h_23 => ?_) (fun h_23 => ?_)
        · have hh : n9 0 < a ∨ A < a * v 0 := by
            first
            | exact Or.inl ((nI_ltI (by omega) (by omega)).mp (by rw [← k510]; exact h_11))
            | exact Or.inr ((nI_ltI (by omega) (by omega)).mp (by rw [← pk_mul, ← k500]; exact h_23))
          refine ja_iload_n O (q := 104) jd_M_mixed_103 rfl rfl rfl ?_
          exact jo_zr O hr hk hR.x01 ⟨g, rfl, jm_Rf hR (fun u hu => by
              show u 0 < a
              rcases Nat.lt_or_ge (u 0) a with z | z
              · exact z
              · have z1 := hu.1 0 (by omega)
                have z2 := hu.2
                have z3 := Nat.mul_le_mul_right (v 0) z
                omega)⟩ jd_M_mixed_104
        · have ha0 : a ≤ n9 0 := by
            rcases Nat.lt_or_ge (n9 0) a with z | z
            · exact absurd (show S 51 0 < nI a by rw [k510]; exact nI_lt z (by omega)) h_11
            · exact z
          have has : a * v 0 ≤ A := by
            rcases Nat.lt_or_ge A (a * v 0) with z | z
            · exact absurd (show nI A < nI a * S 50 0 by rw [k500, pk_mul]; exact nI_lt z (by omega)) h_23
            · exact z
          refine ja_iconst O (q := 27) (v := 0) jd_M_mixed_26 rfl (by decide) ?_
          refine ja_istore O (q := 29) jd_M_mixed_27 rfl (by decide) ?_
          have inner : ∀ (nI_ : Nat) (b : Nat) (g : Nat → Int32) (y : Int32), b ≤ 51 → 51 < b + nI_ → jm_R v n9 A (fun i j k => i < a ∨ (i = a ∧ j < b)) g y → ja_V p l e (jo_r 4) s m args below meth c (jb_W G ad) s0.heap.size 5 0 0 (jo_M s0 G ad below args s (jo_i fun r S' => ∃ g, S' = jb_sv S 52 g ∧ ((r = 1 ∧ ∃ t, jm_be v n9 A t ∧ ∀ i, i < 4 → g i = nI (t i)) ∨ (r = 0 ∧ ∀ t, ¬ jm_mx v n9 A t)))) (jb_sv S 52 g) 29 [(0, .ref (ad 7)), (1, .int (nI A)), (2, .int y), (3, .int (nI a)), (4, .int (nI b))] [] := by
            intro nI_
            induction nI_ with
            | zero => intro b g y hb9 hnI hR; exact absurd hnI (by omega)
            | succ nI_ ihI =>
              intro b g y hb9 hnI hR
              have mb := m1 b hb9
              refine ja_iload O (q := 31) jd_M_mixed_29 rfl rfl ?_
              refine ja_aload_n O (q := 32) jd_M_mixed_31 rfl rfl rfl ?_
              refine jg_M_32 O (q := 35) jd_M_mixed_32 rfl ?_
              refine ja_iconst O (q := 36) (v := 1) jd_M_mixed_35 rfl (by decide) ?_
              refine jl_26 O (k := 1) rfl (by first | assumption | omega) (q := 37) jd_M_mixed_36 rfl ?_
              refine ja_icmp_gt O (g := 97) (q := 40) jd_M_mixed_37 (by decide) rfl (fun h_37 => ?_) (fun h_37 => ?_)
              · refine ja_iinc O (q := 100) (v := nI (a + 1)) jd_M_mixed_97 rfl rfl (nI_1 a) (by decide) ?_
                refine ja_goto O (g := 4) jd_M_mixed_100 (by decide) ?_
                refine ja_less (L' := [(0, .ref (ad 7)), (1, .int (nI A)), (2, .int y), (3, .int (nI (a + 1)))]) ⟨rfl, rfl, rfl, rfl, trivial⟩ ?_
                have hh : n9 1 < b ∨ A < a * v 0 + b * v 1 := by
                  first
                  | exact Or.inl ((nI_ltI (by omega) (by omega)).mp (by rw [← k511]; exact h_37))
                  | exact Or.inr ((nI_ltI (by omega) (by omega)).mp (by rw [← nI_add, ← pk_mul, ← pk_mul, ← k500, ← k501]; exact h_59))
                exact ihO (a + 1) g y (by omega) (by omega) (jm_Rq hR (fun u hu q => by
                  rcases Nat.lt_or_ge (u 0) a with z | z
                  · exact Or.inl z
                  · have e1 : u 0 = a := by omega
                    refine Or.inr ⟨e1, ?_⟩
                    rcases Nat.lt_or_ge (u 1) b with z | z
                    · exact z
                    · have z1 := hu.1 1 (by omega)
                      have z2 := hu.2
                      have z3 := Nat.mul_le_mul_right (v 1) z
                      rw [e1] at z2
                      omega))
              · refine ja_iload_n O (q := 41) jd_M_mixed_40 rfl rfl rfl ?_
                refine ja_aload_n O (q := 42) jd_M_mixed_41 rfl rfl rfl ?_
                refine jg_M_29 O (q := 45) jd_M_mixed_42 rfl ?_
                refine ja_iconst O (q := 46) (v := 0) jd_M_mixed_45 rfl (by decide) ?_
                refine jl_25 O (k := 0) rfl (by first | assumption | omega) (q := 47) jd_M_mixed_46 rfl ?_
                refine ja_imul O (q := 48) jd_M_mixed_47 rfl ?_
                refine ja_iload O (q := 50) jd_M_mixed_48 rfl rfl ?_
                refine ja_aload_n O (q := 51) jd_M_mixed_50 rfl rfl rfl ?_
                refine jg_M_29 O (q := 54) jd_M_mixed_51 rfl ?_
                refine ja_iconst O (q := 55) (v := 1) jd_M_mixed_54 rfl (by decide) ?_
                refine jl_25 O (k := 1) rfl (by first | assumption | omega) (q := 56) jd_M_mixed_55 rfl ?_
                refine ja_imul O (q := 57) jd_M_mixed_56 rfl ?_
                refine ja_iadd O (q := 58) jd_M_mixed_57 rfl ?_
                refine ja_iload_n O (q := 59) jd_M_mixed_58 rfl rfl rfl ?_
                refine ja_icmp_gt O (g := 97) (q := 62) jd_M_mixed_59 (by decide) rfl (fun h_59 => ?_) (fun h_59 => ?_)
                · refine ja_iinc O (q := 100) (v := nI (a + 1)) jd_M_mixed_97 rfl rfl (nI_1 a) (by decide) ?_
                  refine ja_goto O (g := 4) jd_M_mixed_100 (by decide) ?_
                  refine ja_less (L' := [(0, .ref (ad 7)), (1, .int (nI A)), (2, .int y), (3, .int (nI (a + 1)))]) ⟨rfl, rfl, rfl, rfl, trivial⟩ ?_
                  have hh : n9 1 < b ∨ A < a * v 0 + b * v 1 := by
                    first
                    | exact Or.inl ((nI_ltI (by omega) (by omega)).mp (by rw [← k511]; exact h_37))
                    | exact Or.inr ((nI_ltI (by omega) (by omega)).mp (by rw [← nI_add, ← pk_mul, ← pk_mul, ← k500, ← k501]; exact h_59))
                  exact ihO (a + 1) g y (by omega) (by omega) (jm_Rq hR (fun u hu q => by
                    rcases Nat.lt_or_ge (u 0) a with z | z
                    · exact Or.inl z
                    · have e1 : u 0 = a := by omega
                      refine Or.inr ⟨e1, ?_⟩
                      rcases Nat.lt_or_ge (u 1) b with z | z
                      · exact z
                      · have z1 := hu.1 1 (by omega)
                        have z2 := hu.2
                        have z3 := Nat.mul_le_mul_right (v 1) z
                        rw [e1] at z2
                        omega))
                · have hb1 : b ≤ n9 1 := by
                    rcases Nat.lt_or_ge (n9 1) b with z | z
                    · exact absurd (show S 51 1 < nI b by rw [k511]; exact nI_lt z (by omega)) h_37
                    · exact z
                  have hbs : a * v 0 + b * v 1 ≤ A := by
                    rcases Nat.lt_or_ge A (a * v 0 + b * v 1) with z | z
                    · exact absurd (show nI A < nI a * S 50 0 + nI b * S 50 1 by rw [k500, k501, pk_mul, pk_mul, nI_add]; exact nI_lt z (by omega)) h_59
                    · exact z
                  refine ja_aload_n O (q := 63) jd_M_mixed_62 rfl rfl rfl ?_
                  refine ja_iload_n O (q := 64) jd_M_mixed_63 rfl rfl rfl ?_
                  refine ja_iload_n O (q := 65) jd_M_mixed_64 rfl rfl rfl ?_
                  refine ja_aload_n O (q := 66) jd_M_mixed_65 rfl rfl rfl ?_
                  refine jg_M_29 O (q := 69) jd_M_mixed_66 rfl ?_
                  refine ja_iconst O (q := 70) (v := 0) jd_M_mixed_69 rfl (by decide) ?_
                  refine jl_25 O (k := 0) rfl (by first | assumption | omega) (q := 71) jd_M_mixed_70 rfl ?_
                  refine ja_imul O (q := 72) jd_M_mixed_71 rfl ?_
                  refine ja_isub O (q := 73) jd_M_mixed_72 rfl ?_
                  refine ja_iload O (q := 75) jd_M_mixed_73 rfl rfl ?_
                  refine ja_aload_n O (q := 76) jd_M_mixed_75 rfl rfl rfl ?_
                  refine jg_M_29 O (q := 79) jd_M_mixed_76 rfl ?_
                  refine ja_iconst O (q := 80) (v := 1) jd_M_mixed_79 rfl (by decide) ?_
                  refine jl_25 O (k := 1) rfl (by first | assumption | omega) (q := 81) jd_M_mixed_80 rfl ?_
                  refine ja_imul O (q := 82) jd_M_mixed_81 rfl ?_
                  refine ja_isub O (q := 83) jd_M_mixed_82 rfl ?_
                  rw [show nI A - nI a * jb_sv S 52 g 50 0 - nI b * jb_sv S 52 g 50 1 = nI (A - a * v 0 - b * v 1) from by rw [show jb_sv S 52 g 50 0 = nI (v 0) from k500, show jb_sv S 52 g 50 1 = nI (v 1) from k501, pk_mul, pk_mul, pk_sub (by omega), pk_sub (by omega)]]
                  refine ja_iload_n O (q := 84) jd_M_mixed_83 rfl rfl rfl ?_
                  refine ja_iload O (q := 86) jd_M_mixed_84 rfl rfl ?_
                  refine ja_iload_n O (q := 87) jd_M_mixed_86 rfl rfl rfl ?_
                  refine jm_M_99 O (d := 3) ⟨by decide, by decide⟩ (Nat.le_of_ble_eq_true rfl) ⟨by decide, by decide⟩ (co_M_thirds K (S := jb_sv S 52 g) v n9 A a b y (fun i j k => i < a ∨ (i = a ∧ j < b)) hA (jm_KMs hK) ha0 hb1 hbs hR) (q := 90) jd_M_mixed_87 rfl (fun r S' h => ?_)
                  obtain ⟨h01, g', rfl, hR'⟩ := h
                  refine ja_istore_n O (q := 91) jd_M_mixed_90 rfl rfl (by decide) ?_
                  refine ja_iinc O (q := 94) (v := nI (b + 1)) jd_M_mixed_91 rfl rfl (nI_1 b) (by decide) ?_
                  refine ja_goto O (g := 29) jd_M_mixed_94 (by decide) ?_
                  refine ja_less (L' := [(0, .ref (ad 7)), (1, .int (nI A)), (2, .int r), (3, .int (nI a)), (4, .int (nI (b + 1)))]) ⟨rfl, rfl, rfl, rfl, rfl, trivial⟩ ?_
                  rw [jb_svv]
                  exact ihI (b + 1) g' r (by omega) (by omega) (jm_Rq hR' (fun u hu q => by
                    rcases q with q | ⟨q1, q2⟩
                    · exact Or.inl (Or.inl q)
                    · rcases Nat.lt_or_ge (u 1) b with z | z
                      · exact Or.inl (Or.inr ⟨q1, z⟩)
                      · exact Or.inr ⟨q1, by omega⟩))
          refine ja_less (L' := [(0, .ref (ad 7)), (1, .int (nI A)), (2, .int y), (3, .int (nI a)), (4, .int (nI 0))]) ⟨rfl, rfl, rfl, rfl, rfl, trivial⟩ ?_
          exact inner 52 0 g y (by omega) (by omega) (jm_Rq hR (fun u hu q => q.elim id (fun z => absurd z.2 (by omega))))
  refine ja_iconst O (q := 1) (v := 0) jd_M_mixed_0 rfl (by decide) ?_
  refine ja_istore_n O (q := 2) jd_M_mixed_1 rfl rfl (by decide) ?_
  refine ja_iconst O (q := 3) (v := 0) jd_M_mixed_2 rfl (by decide) ?_
  refine ja_istore_n O (q := 4) jd_M_mixed_3 rfl rfl (by decide) ?_
  refine ja_less (L' := [(0, .ref (ad 7)), (1, .int (nI A)), (2, .int 0), (3, .int (nI 0))]) ⟨rfl, rfl, rfl, rfl, trivial⟩ ?_
  have h0 := outer 52 0 (S 52) 0 (by omega) (by omega) (Or.inl ⟨rfl, fun u hu q => absurd q (by omega)⟩)
  rw [jb_svs] at h0
  exact h0
def mp_mix (M : ja_S) (a b : Int32) (g : Nat → Int32) (x : Bool) : Int32 × Int32 × ja_S := if jp_in a 0 3 ∧ jp_in b 1 5000 then (if x then (0, g a.toNatClampNeg, jb_sv (mk_z M) 52 g) else (2, 0, jb_u (jb_sv (mk_z M) 52 g) 32 0 2)) else mk_f M 1
set_option maxRecDepth 100000 in
theorem co_M_mix {l : Launch} {s0 : State} {a0 : Array Value} {G : jb_Gt} {ad : Nat → Nat} (K : jo_G s0 a0 G ad) {S : ja_S} (a b : Int32) (v n9 : Nat → Nat) (hK : jm_KM S v n9) : jo_C l s0 G ad jy_M_mix jc_M_mix 3 (some .int) 6 [.ref (ad 7), .int a, .int b] S (jo_i fun r S' => ∃ g x, (jp_in a 0 3 ∧ jp_in b 1 5000 → cq_fd v n9 b.toNatClampNeg g x) ∧ jo_rs (mp_mix S a b g x) r S') := by
  refine jo_of K (by decide) rfl (Nat.le_of_ble_eq_true rfl) ?_
  intro p e s m args below meth c O hr hk
  refine ja_aload_n O (q := 1) jd_M_mix_0 rfl rfl rfl ?_
  refine ja_iconst O (q := 2) (v := 0) jd_M_mix_1 rfl (by decide) ?_
  refine jp_M_72 O (q := 5) jd_M_mix_2 rfl ?_
  refine ja_iload_n O (q := 6) jd_M_mix_5 rfl rfl rfl ?_
  refine ja_iconst O (q := 7) (v := 0) jd_M_mix_6 rfl (by decide) ?_
  refine ja_iconst O (q := 8) (v := 3) jd_M_mix_7 rfl (by decide) ?_
  refine jm_M_75 O (d := 1) ⟨by decide, by decide⟩ (Nat.le_of_ble_eq_true rfl) ⟨by decide, by decide⟩ (co_M_in K a 0 3) (q := 11) jd_M_mix_8 rfl (fun r S' h => ?_)
  obtain ⟨rfl, -, hin_8⟩ := h
  refine ja_if_eq O (g := 25) (q := 14) jd_M_mix_11 (by decide) rfl (fun h_11 => ?_) (fun h_11 => ?_)
  · refine ja_aload_n O (q := 26) jd_M_mix_25 rfl rfl rfl ?_
    refine ja_iconst O (q := 27) (v := 1) jd_M_mix_26 rfl (by decide) ?_
    refine jm_M_80 O (d := 1) ⟨by decide, by decide⟩ (Nat.le_of_ble_eq_true rfl) ⟨by decide, by decide⟩ (co_M_fail K 1) (q := 30) jd_M_mix_27 rfl (fun r S' h => ?_)
    obtain ⟨rfl, rfl⟩ := h
    exact jo_ir O hr hk (by
        have q : ¬ (jp_in a 0 3 ∧ jp_in b 1 5000) := by first | exact fun q => (hin_8.mp h_11) q.1 | exact fun q => (hin_19.mp h_22) q.2
        exact ⟨S 52, true, fun hb => absurd hb q, by simp only [jo_rs, mp_mix, if_neg q]; exact ⟨by first | rfl | trivial, by first | rfl | trivial⟩⟩) jd_M_mix_30
  · refine ja_iload_n O (q := 15) jd_M_mix_14 rfl rfl rfl ?_
    refine ja_iconst O (q := 16) (v := 1) jd_M_mix_15 rfl (by decide) ?_
    refine ja_sipush O (q := 19) (v := 5000) jd_M_mix_16 rfl (by decide) ?_
    refine jm_M_75 O (d := 1) ⟨by decide, by decide⟩ (Nat.le_of_ble_eq_true rfl) ⟨by decide, by decide⟩ (co_M_in K b 1 5000) (q := 22) jd_M_mix_19 rfl (fun r S' h => ?_)
    obtain ⟨rfl, -, hin_19⟩ := h
    refine ja_if_ne O (g := 31) (q := 25) jd_M_mix_22 (by decide) rfl (fun h_22 => ?_) (fun h_22 => ?_)
    · have i1 := jp_no hin_8 h_11
      have i2 := jp_no hin_19 h_22
      have i4 : jp_in a 0 3 ∧ jp_in b 1 5000 := ⟨i1, i2⟩
      obtain ⟨j, hj, rfl⟩ := jp_in_nI (n := 3) (by decide) i1
      obtain ⟨A, hA1, hA, rfl⟩ := jp_15 i2
      have hj4 : j < 4 := by omega
      have hcl : (nI j).toNatClampNeg = j := nI_clamp (by omega)
      have hcA : (nI A).toNatClampNeg = A := nI_clamp (by omega)
      refine ja_aload_n O (q := 32) jd_M_mix_31 rfl rfl rfl ?_
      refine ja_iload_n O (q := 33) jd_M_mix_32 rfl rfl rfl ?_
      refine jm_M_146 O (d := 4) ⟨by decide, by decide⟩ (Nat.le_of_ble_eq_true rfl) ⟨by decide, by decide⟩ (co_M_mixed K (S := mk_z S) v n9 A hA hK) (q := 36) jd_M_mix_33 rfl (fun r S' h => ?_)
      obtain ⟨g, rfl, hfd⟩ := h
      have hfd2 := jp_fdB hfd
      have hr01 : r = 0 ∨ r = 1 := hfd.elim (fun z => Or.inr z.1) (fun z => Or.inl z.1)
      refine ja_if_eq O (g := 48) (q := 39) jd_M_mix_36 (by decide) rfl (fun h_36 => ?_) (fun h_36 => ?_)
      · refine ja_aload_n O (q := 49) jd_M_mix_48 rfl rfl rfl ?_
        refine ja_iconst O (q := 50) (v := 2) jd_M_mix_49 rfl (by decide) ?_
        refine jm_M_80 O (d := 1) ⟨by decide, by decide⟩ (Nat.le_of_ble_eq_true rfl) ⟨by decide, by decide⟩ (co_M_fail K 2) (q := 53) jd_M_mix_50 rfl (fun r S' h => ?_)
        obtain ⟨rfl, rfl⟩ := h
        exact jo_ir O hr hk (by
            first
            | (subst h_36
               exact ⟨g, false, fun _ => by rw [hcA]; exact hfd2, by simp only [jo_rs, mp_mix, if_pos i4, hcl]; exact ⟨by first | rfl | trivial, by first | rfl | trivial⟩⟩)
            | (have e1 := hr01.resolve_left h_36
               subst e1
               exact ⟨g, true, fun _ => by rw [hcA]; exact hfd2, by simp only [jo_rs, mp_mix, if_pos i4, hcl]; exact ⟨by first | rfl | trivial, by first | rfl | trivial⟩⟩)) jd_M_mix_53
      · refine ja_aload_n O (q := 40) jd_M_mix_39 rfl rfl rfl ?_
        refine jg_M_35 O (q := 43) jd_M_mix_40 rfl ?_
        refine ja_iload_n O (q := 44) jd_M_mix_43 rfl rfl rfl ?_
        refine jl_27 O (k := j) rfl (by first | assumption | omega) (q := 45) jd_M_mix_44 rfl ?_
        refine ja_goto O (g := 53) jd_M_mix_45 (by decide) ?_
        exact jo_ir O hr hk (by
            first
            | (subst h_36
               exact ⟨g, false, fun _ => by rw [hcA]; exact hfd2, by simp only [jo_rs, mp_mix, if_pos i4, hcl]; exact ⟨by first | rfl | trivial, by first | rfl | trivial⟩⟩)
            | (have e1 := hr01.resolve_left h_36
               subst e1
               exact ⟨g, true, fun _ => by rw [hcA]; exact hfd2, by simp only [jo_rs, mp_mix, if_pos i4, hcl]; exact ⟨by first | rfl | trivial, by first | rfl | trivial⟩⟩)) jd_M_mix_53
    · refine ja_aload_n O (q := 26) jd_M_mix_25 rfl rfl rfl ?_
      refine ja_iconst O (q := 27) (v := 1) jd_M_mix_26 rfl (by decide) ?_
      refine jm_M_80 O (d := 1) ⟨by decide, by decide⟩ (Nat.le_of_ble_eq_true rfl) ⟨by decide, by decide⟩ (co_M_fail K 1) (q := 30) jd_M_mix_27 rfl (fun r S' h => ?_)
      obtain ⟨rfl, rfl⟩ := h
      exact jo_ir O hr hk (by
          have q : ¬ (jp_in a 0 3 ∧ jp_in b 1 5000) := by first | exact fun q => (hin_8.mp h_11) q.1 | exact fun q => (hin_19.mp h_22) q.2
          exact ⟨S 52, true, fun hb => absurd hb q, by simp only [jo_rs, mp_mix, if_neg q]; exact ⟨by first | rfl | trivial, by first | rfl | trivial⟩⟩) jd_M_mix_30
