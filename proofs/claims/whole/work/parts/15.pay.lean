/-! CONTRACTS of the class, by program (wip/whole/gen/p15.py): nextCassette, payMix, Arrays.fill, keep -/
/-- the cassette that is due next among the first i: of those with notes to take the one of the greatest value, the first of several; -1 if there is none -/
def cf_nx (tk vl : Nat → Int32) : Nat → Int32
  | 0 => -1
  | i + 1 => if 0 < tk i ∧ (cf_nx tk vl i = -1 ∨ vl (cf_nx tk vl i).toNatClampNeg < vl i) then nI i else cf_nx tk vl i
theorem cf_nx_in (tk vl : Nat → Int32) : ∀ i, i ≤ 4 → cf_nx tk vl i = -1 ∨ ∃ j, j < i ∧ cf_nx tk vl i = nI j
  | 0, _ => Or.inl rfl
  | i + 1, h => by
    unfold cf_nx; split
    · exact Or.inr ⟨i, by omega, rfl⟩
    · rcases cf_nx_in tk vl i (by omega) with e | ⟨j, h1, h2⟩
      · exact Or.inl e
      · exact Or.inr ⟨j, by omega, h2⟩
theorem jp_m1n {j : Nat} (h : j < 2 ^ 31) : ¬ nI j = -1 := fun q => by
  have := congrArg Int32.toInt q
  rw [nI_toInt h] at this
  have h2 : (-1 : Int32).toInt = -1 := by decide
  omega
def cf_pl : Nat → ja_S → Nat → Int32 → Int32 → Int32 × ja_S
  | 0, C, _, _, z => (z, C)
  | f + 1, C, i, w, z => if nI i < w ∧ ¬ cf_nx (C 28) (C 17) 4 = -1 then
      cf_pl f (jb_u (jb_u C 28 (cf_nx (C 28) (C 17) 4).toNatClampNeg (C 28 (cf_nx (C 28) (C 17) 4).toNatClampNeg - 1)) 18 (cf_nx (C 28) (C 17) 4).toNatClampNeg (C 18 (cf_nx (C 28) (C 17) 4).toNatClampNeg - 1)) (i + 1) w (z + C 17 (cf_nx (C 28) (C 17) 4).toNatClampNeg)
    else (z, C)
def cf_w (C : ja_S) : Int32 := if C 5 0 = -1 then 200 else C 5 0
def cf_pay (C : ja_S) (x : Int32) : Int32 × ja_S := ((cf_pl 201 (jb_u C 5 0 (-1)) 0 (cf_w C) 0).1, jb_u (jb_u (jb_u (cf_pl 201 (jb_u C 5 0 (-1)) 0 (cf_w C) 0).2 7 0 x) 8 0 (cf_pl 201 (jb_u C 5 0 (-1)) 0 (cf_w C) 0).1) 6 0 ((cf_pl 201 (jb_u C 5 0 (-1)) 0 (cf_w C) 0).2 6 0 + (cf_pl 201 (jb_u C 5 0 (-1)) 0 (cf_w C) 0).1))
set_option maxRecDepth 100000 in
theorem co_D_nextCassette {l : Launch} {s0 : State} {a0 : Array Value} {G : jb_Gt} {ad : Nat → Nat} (K : jo_G s0 a0 G ad) {S : ja_S}  : jo_C l s0 G ad jy_D_nextCassette jc_D_nextCassette 4 (some .int) 1 [.ref (ad 3)] S (jo_i fun r S' => S' = S ∧ r = cf_nx (S 28) (S 17) 4) := by
  refine jo_of K (by decide) rfl (Nat.le_of_ble_eq_true rfl) ?_
  intro p e s m args below meth c O hr hk
  have loop : ∀ (n : Nat) (i : Nat), i ≤ 4 → 4 < i + n → ja_V p l e (jo_r 1) s m args below meth c (jb_W G ad) s0.heap.size 4 0 0 (jo_M s0 G ad below args s (jo_i fun r S' => S' = S ∧ r = cf_nx (S 28) (S 17) 4)) (S) 4 [(0, .ref (ad 3)), (1, .int (cf_nx (S 28) (S 17) i)), (2, .int (nI i))] [] := by
    intro n
    induction n with
    | zero => intro i hi hn; exact absurd hn (by omega)
    | succ n ih =>
      intro i hi hn
      refine ja_iload_n O (q := 5) jd_D_nextCassette_4 rfl rfl rfl ?_
      refine ja_iconst O (q := 6) (v := 4) jd_D_nextCassette_5 rfl (by decide) ?_
      refine ja_icmp_ge O (g := 65) (q := 9) jd_D_nextCassette_6 (by decide) rfl (fun h_6 => ?_) (fun h_6 => ?_)
      · have hi4 : i = 4 := by
          rcases Nat.lt_or_ge i 4 with z | z
          · exact absurd h_6 (nI_ge (b := 4) z (by omega))
          · omega
        subst hi4
        refine ja_iload_n O (q := 66) jd_D_nextCassette_65 rfl rfl rfl ?_
        exact jo_ir O hr hk ⟨rfl, rfl⟩ jd_D_nextCassette_66
      · have hi4 : i < 4 := by
          rcases Nat.lt_or_ge i 4 with z | z
          · exact z
          · exact absurd (show nI 4 ≤ nI i from nI_le z (by omega)) h_6
        refine ja_aload_n O (q := 10) jd_D_nextCassette_9 rfl rfl rfl ?_
        refine jg_D_20 O (q := 13) jd_D_nextCassette_10 rfl ?_
        refine jg_D_52 O (q := 16) jd_D_nextCassette_13 rfl ?_
        refine ja_iload_n O (q := 17) jd_D_nextCassette_16 rfl rfl rfl ?_
        refine jl_14 O (k := i) rfl (by first | assumption | omega) (q := 18) jd_D_nextCassette_17 rfl ?_
        refine ja_if_le O (g := 25) (q := 21) jd_D_nextCassette_18 (by decide) rfl (fun h_18 => ?_) (fun h_18 => ?_)
        · refine ja_iconst O (q := 26) (v := 0) jd_D_nextCassette_25 rfl (by decide) ?_
          refine ja_istore_n O (q := 27) jd_D_nextCassette_26 rfl rfl (by decide) ?_
          refine ja_iload_n O (q := 28) jd_D_nextCassette_27 rfl rfl rfl ?_
          refine ja_if_eq O (g := 59) (q := 31) jd_D_nextCassette_28 (by decide) rfl (fun h_28 => ?_) (fun h_28 => ?_)
          · refine ja_iinc O (q := 62) (v := nI (i + 1)) jd_D_nextCassette_59 rfl rfl (nI_1 i) (by decide) ?_
            refine ja_goto O (g := 4) jd_D_nextCassette_62 (by decide) ?_
            refine ja_less (L' := [(0, .ref (ad 3)), (1, .int (cf_nx (S 28) (S 17) (i + 1))), (2, .int (nI (i + 1)))]) ⟨rfl, (by first | exact absurd rfl h_28 | exact absurd h_28 (by decide) | (show some (Value.int _) = some (Value.int (cf_nx (S 28) (S 17) (i + 1))); rw [show cf_nx (S 28) (S 17) (i + 1) = cf_nx (S 28) (S 17) i from by rw [cf_nx, if_neg (fun q => by first | exact absurd q.1 (Int32.not_lt.mpr h_18) | exact absurd q.2 (fun z => z.elim h_33 (fun y => absurd y (Int32.not_lt.mpr (by simpa only [hnx] using h_54)))))]]) | (show some (Value.int _) = some (Value.int (cf_nx (S 28) (S 17) (i + 1))); rw [show cf_nx (S 28) (S 17) (i + 1) = nI i from by rw [cf_nx, if_pos ⟨Int32.not_le.mp h_18, by first | exact Or.inl h_33 | exact Or.inr (Int32.not_le.mp (by simpa only [hnx] using h_54))⟩]])), rfl, trivial⟩ ?_
            exact ih (i + 1) (by omega) (by omega)
          · refine ja_iload_n O (q := 32) jd_D_nextCassette_31 rfl rfl rfl ?_
            refine ja_iconst O (q := 33) (v := (-1)) jd_D_nextCassette_32 rfl (by decide) ?_
            refine ja_icmp_eq O (g := 57) (q := 36) jd_D_nextCassette_33 (by decide) rfl (fun h_33 => ?_) (fun h_33 => ?_)
            · refine ja_iload_n O (q := 58) jd_D_nextCassette_57 rfl rfl rfl ?_
              refine ja_istore_n O (q := 59) jd_D_nextCassette_58 rfl rfl (by decide) ?_
              refine ja_iinc O (q := 62) (v := nI (i + 1)) jd_D_nextCassette_59 rfl rfl (nI_1 i) (by decide) ?_
              refine ja_goto O (g := 4) jd_D_nextCassette_62 (by decide) ?_
              refine ja_less (L' := [(0, .ref (ad 3)), (1, .int (cf_nx (S 28) (S 17) (i + 1))), (2, .int (nI (i + 1)))]) ⟨rfl, (by first | exact absurd rfl h_28 | exact absurd h_28 (by decide) | (show some (Value.int _) = some (Value.int (cf_nx (S 28) (S 17) (i + 1))); rw [show cf_nx (S 28) (S 17) (i + 1) = cf_nx (S 28) (S 17) i from by rw [cf_nx, if_neg (fun q => by first | exact absurd q.1 (Int32.not_lt.mpr h_18) | exact absurd q.2 (fun z => z.elim h_33 (fun y => absurd y (Int32.not_lt.mpr (by simpa only [hnx] using h_54)))))]]) | (show some (Value.int _) = some (Value.int (cf_nx (S 28) (S 17) (i + 1))); rw [show cf_nx (S 28) (S 17) (i + 1) = nI i from by rw [cf_nx, if_pos ⟨Int32.not_le.mp h_18, by first | exact Or.inl h_33 | exact Or.inr (Int32.not_le.mp (by simpa only [hnx] using h_54))⟩]])), rfl, trivial⟩ ?_
              exact ih (i + 1) (by omega) (by omega)
            · obtain ⟨j, hj, hj1⟩ := (cf_nx_in (S 28) (S 17) i (by omega)).resolve_left h_33
              have hnx : (cf_nx (S 28) (S 17) i).toNatClampNeg = j := by rw [hj1]; exact nI_clamp (by omega)
              have hj4 : j < 4 := by omega
              refine ja_aload_n O (q := 37) jd_D_nextCassette_36 rfl rfl rfl ?_
              refine jg_D_11 O (q := 40) jd_D_nextCassette_37 rfl ?_
              refine ja_iload_n O (q := 41) jd_D_nextCassette_40 rfl rfl rfl ?_
              refine jl_13 O (k := i) rfl (by first | assumption | omega) (q := 42) jd_D_nextCassette_41 rfl ?_
              refine jg_D_38 O (by first | assumption | omega) (q := 45) jd_D_nextCassette_42 rfl ?_
              refine ja_aload_n O (q := 46) jd_D_nextCassette_45 rfl rfl rfl ?_
              refine jg_D_11 O (q := 49) jd_D_nextCassette_46 rfl ?_
              refine ja_iload_n O (q := 50) jd_D_nextCassette_49 rfl rfl rfl ?_
              refine jl_13 O (k := j) hj1 (by first | assumption | omega) (q := 51) jd_D_nextCassette_50 rfl ?_
              refine jg_D_38 O (by first | assumption | omega) (q := 54) jd_D_nextCassette_51 rfl ?_
              refine ja_icmp_le O (g := 59) (q := 57) jd_D_nextCassette_54 (by decide) rfl (fun h_54 => ?_) (fun h_54 => ?_)
              · refine ja_iinc O (q := 62) (v := nI (i + 1)) jd_D_nextCassette_59 rfl rfl (nI_1 i) (by decide) ?_
                refine ja_goto O (g := 4) jd_D_nextCassette_62 (by decide) ?_
                refine ja_less (L' := [(0, .ref (ad 3)), (1, .int (cf_nx (S 28) (S 17) (i + 1))), (2, .int (nI (i + 1)))]) ⟨rfl, (by first | exact absurd rfl h_28 | exact absurd h_28 (by decide) | (show some (Value.int _) = some (Value.int (cf_nx (S 28) (S 17) (i + 1))); rw [show cf_nx (S 28) (S 17) (i + 1) = cf_nx (S 28) (S 17) i from by rw [cf_nx, if_neg (fun q => by first | exact absurd q.1 (Int32.not_lt.mpr h_18) | exact absurd q.2 (fun z => z.elim h_33 (fun y => absurd y (Int32.not_lt.mpr (by simpa only [hnx] using h_54)))))]]) | (show some (Value.int _) = some (Value.int (cf_nx (S 28) (S 17) (i + 1))); rw [show cf_nx (S 28) (S 17) (i + 1) = nI i from by rw [cf_nx, if_pos ⟨Int32.not_le.mp h_18, by first | exact Or.inl h_33 | exact Or.inr (Int32.not_le.mp (by simpa only [hnx] using h_54))⟩]])), rfl, trivial⟩ ?_
                exact ih (i + 1) (by omega) (by omega)
              · refine ja_iload_n O (q := 58) jd_D_nextCassette_57 rfl rfl rfl ?_
                refine ja_istore_n O (q := 59) jd_D_nextCassette_58 rfl rfl (by decide) ?_
                refine ja_iinc O (q := 62) (v := nI (i + 1)) jd_D_nextCassette_59 rfl rfl (nI_1 i) (by decide) ?_
                refine ja_goto O (g := 4) jd_D_nextCassette_62 (by decide) ?_
                refine ja_less (L' := [(0, .ref (ad 3)), (1, .int (cf_nx (S 28) (S 17) (i + 1))), (2, .int (nI (i + 1)))]) ⟨rfl, (by first | exact absurd rfl h_28 | exact absurd h_28 (by decide) | (show some (Value.int _) = some (Value.int (cf_nx (S 28) (S 17) (i + 1))); rw [show cf_nx (S 28) (S 17) (i + 1) = cf_nx (S 28) (S 17) i from by rw [cf_nx, if_neg (fun q => by first | exact absurd q.1 (Int32.not_lt.mpr h_18) | exact absurd q.2 (fun z => z.elim h_33 (fun y => absurd y (Int32.not_lt.mpr (by simpa only [hnx] using h_54)))))]]) | (show some (Value.int _) = some (Value.int (cf_nx (S 28) (S 17) (i + 1))); rw [show cf_nx (S 28) (S 17) (i + 1) = nI i from by rw [cf_nx, if_pos ⟨Int32.not_le.mp h_18, by first | exact Or.inl h_33 | exact Or.inr (Int32.not_le.mp (by simpa only [hnx] using h_54))⟩]])), rfl, trivial⟩ ?_
                exact ih (i + 1) (by omega) (by omega)
        · refine ja_iconst O (q := 22) (v := 1) jd_D_nextCassette_21 rfl (by decide) ?_
          refine ja_goto O (g := 26) jd_D_nextCassette_22 (by decide) ?_
          refine ja_istore_n O (q := 27) jd_D_nextCassette_26 rfl rfl (by decide) ?_
          refine ja_iload_n O (q := 28) jd_D_nextCassette_27 rfl rfl rfl ?_
          refine ja_if_eq O (g := 59) (q := 31) jd_D_nextCassette_28 (by decide) rfl (fun h_28 => ?_) (fun h_28 => ?_)
          · refine ja_iinc O (q := 62) (v := nI (i + 1)) jd_D_nextCassette_59 rfl rfl (nI_1 i) (by decide) ?_
            refine ja_goto O (g := 4) jd_D_nextCassette_62 (by decide) ?_
            refine ja_less (L' := [(0, .ref (ad 3)), (1, .int (cf_nx (S 28) (S 17) (i + 1))), (2, .int (nI (i + 1)))]) ⟨rfl, (by first | exact absurd rfl h_28 | exact absurd h_28 (by decide) | (show some (Value.int _) = some (Value.int (cf_nx (S 28) (S 17) (i + 1))); rw [show cf_nx (S 28) (S 17) (i + 1) = cf_nx (S 28) (S 17) i from by rw [cf_nx, if_neg (fun q => by first | exact absurd q.1 (Int32.not_lt.mpr h_18) | exact absurd q.2 (fun z => z.elim h_33 (fun y => absurd y (Int32.not_lt.mpr (by simpa only [hnx] using h_54)))))]]) | (show some (Value.int _) = some (Value.int (cf_nx (S 28) (S 17) (i + 1))); rw [show cf_nx (S 28) (S 17) (i + 1) = nI i from by rw [cf_nx, if_pos ⟨Int32.not_le.mp h_18, by first | exact Or.inl h_33 | exact Or.inr (Int32.not_le.mp (by simpa only [hnx] using h_54))⟩]])), rfl, trivial⟩ ?_
            exact ih (i + 1) (by omega) (by omega)
          · refine ja_iload_n O (q := 32) jd_D_nextCassette_31 rfl rfl rfl ?_
            refine ja_iconst O (q := 33) (v := (-1)) jd_D_nextCassette_32 rfl (by decide) ?_
            refine ja_icmp_eq O (g := 57) (q := 36) jd_D_nextCassette_33 (by decide) rfl (fun h_33 => ?_) (fun h_33 => ?_)
            · refine ja_iload_n O (q := 58) jd_D_nextCassette_57 rfl rfl rfl ?_
              refine ja_istore_n O (q := 59) jd_D_nextCassette_58 rfl rfl (by decide) ?_
              refine ja_iinc O (q := 62) (v := nI (i + 1)) jd_D_nextCassette_59 rfl rfl (nI_1 i) (by decide) ?_
              refine ja_goto O (g := 4) jd_D_nextCassette_62 (by decide) ?_
              refine ja_less (L' := [(0, .ref (ad 3)), (1, .int (cf_nx (S 28) (S 17) (i + 1))), (2, .int (nI (i + 1)))]) ⟨rfl, (by first | exact absurd rfl h_28 | exact absurd h_28 (by decide) | (show some (Value.int _) = some (Value.int (cf_nx (S 28) (S 17) (i + 1))); rw [show cf_nx (S 28) (S 17) (i + 1) = cf_nx (S 28) (S 17) i from by rw [cf_nx, if_neg (fun q => by first | exact absurd q.1 (Int32.not_lt.mpr h_18) | exact absurd q.2 (fun z => z.elim h_33 (fun y => absurd y (Int32.not_lt.mpr (by simpa only [hnx] using h_54)))))]]) | (show some (Value.int _) = some (Value.int (cf_nx (S 28) (S 17) (i + 1))); rw [show cf_nx (S 28) (S 17) (i + 1) = nI i from by rw [cf_nx, if_pos ⟨Int32.not_le.mp h_18, by first | exact Or.inl h_33 | exact Or.inr (Int32.not_le.mp (by simpa only [hnx] using h_54))⟩]])), rfl, trivial⟩ ?_
              exact ih (i + 1) (by omega) (by omega)
            · obtain ⟨j, hj, hj1⟩ := (cf_nx_in (S 28) (S 17) i (by omega)).resolve_left h_33
              have hnx : (cf_nx (S 28) (S 17) i).toNatClampNeg = j := by rw [hj1]; exact nI_clamp (by omega)
              have hj4 : j < 4 := by omega
              refine ja_aload_n O (q := 37) jd_D_nextCassette_36 rfl rfl rfl ?_
              refine jg_D_11 O (q := 40) jd_D_nextCassette_37 rfl ?_
              refine ja_iload_n O (q := 41) jd_D_nextCassette_40 rfl rfl rfl ?_
              refine jl_13 O (k := i) rfl (by first | assumption | omega) (q := 42) jd_D_nextCassette_41 rfl ?_
              refine jg_D_38 O (by first | assumption | omega) (q := 45) jd_D_nextCassette_42 rfl ?_
              refine ja_aload_n O (q := 46) jd_D_nextCassette_45 rfl rfl rfl ?_
              refine jg_D_11 O (q := 49) jd_D_nextCassette_46 rfl ?_
              refine ja_iload_n O (q := 50) jd_D_nextCassette_49 rfl rfl rfl ?_
              refine jl_13 O (k := j) hj1 (by first | assumption | omega) (q := 51) jd_D_nextCassette_50 rfl ?_
              refine jg_D_38 O (by first | assumption | omega) (q := 54) jd_D_nextCassette_51 rfl ?_
              refine ja_icmp_le O (g := 59) (q := 57) jd_D_nextCassette_54 (by decide) rfl (fun h_54 => ?_) (fun h_54 => ?_)
              · refine ja_iinc O (q := 62) (v := nI (i + 1)) jd_D_nextCassette_59 rfl rfl (nI_1 i) (by decide) ?_
                refine ja_goto O (g := 4) jd_D_nextCassette_62 (by decide) ?_
                refine ja_less (L' := [(0, .ref (ad 3)), (1, .int (cf_nx (S 28) (S 17) (i + 1))), (2, .int (nI (i + 1)))]) ⟨rfl, (by first | exact absurd rfl h_28 | exact absurd h_28 (by decide) | (show some (Value.int _) = some (Value.int (cf_nx (S 28) (S 17) (i + 1))); rw [show cf_nx (S 28) (S 17) (i + 1) = cf_nx (S 28) (S 17) i from by rw [cf_nx, if_neg (fun q => by first | exact absurd q.1 (Int32.not_lt.mpr h_18) | exact absurd q.2 (fun z => z.elim h_33 (fun y => absurd y (Int32.not_lt.mpr (by simpa only [hnx] using h_54)))))]]) | (show some (Value.int _) = some (Value.int (cf_nx (S 28) (S 17) (i + 1))); rw [show cf_nx (S 28) (S 17) (i + 1) = nI i from by rw [cf_nx, if_pos ⟨Int32.not_le.mp h_18, by first | exact Or.inl h_33 | exact Or.inr (Int32.not_le.mp (by simpa only [hnx] using h_54))⟩]])), rfl, trivial⟩ ?_
                exact ih (i + 1) (by omega) (by omega)
              · refine ja_iload_n O (q := 58) jd_D_nextCassette_57 rfl rfl rfl ?_
                refine ja_istore_n O (q := 59) jd_D_nextCassette_58 rfl rfl (by decide) ?_
                refine ja_iinc O (q := 62) (v := nI (i + 1)) jd_D_nextCassette_59 rfl rfl (nI_1 i) (by decide) ?_
                refine ja_goto O (g := 4) jd_D_nextCassette_62 (by decide) ?_
                refine ja_less (L' := [(0, .ref (ad 3)), (1, .int (cf_nx (S 28) (S 17) (i + 1))), (2, .int (nI (i + 1)))]) ⟨rfl, (by first | exact absurd rfl h_28 | exact absurd h_28 (by decide) | (show some (Value.int _) = some (Value.int (cf_nx (S 28) (S 17) (i + 1))); rw [show cf_nx (S 28) (S 17) (i + 1) = cf_nx (S 28) (S 17) i from by rw [cf_nx, if_neg (fun q => by first | exact absurd q.1 (Int32.not_lt.mpr h_18) | exact absurd q.2 (fun z => z.elim h_33 (fun y => absurd y (Int32.not_lt.mpr (by simpa only [hnx] using h_54)))))]]) | (show some (Value.int _) = some (Value.int (cf_nx (S 28) (S 17) (i + 1))); rw [show cf_nx (S 28) (S 17) (i + 1) = nI i from by rw [cf_nx, if_pos ⟨Int32.not_le.mp h_18, by first | exact Or.inl h_33 | exact Or.inr (Int32.not_le.mp (by simpa only [hnx] using h_54))⟩]])), rfl, trivial⟩ ?_
                exact ih (i + 1) (by omega) (by omega)
  refine ja_iconst O (q := 1) (v := (-1)) jd_D_nextCassette_0 rfl (by decide) ?_
  refine ja_istore_n O (q := 2) jd_D_nextCassette_1 rfl rfl (by decide) ?_
  refine ja_iconst O (q := 3) (v := 0) jd_D_nextCassette_2 rfl (by decide) ?_
  refine ja_istore_n O (q := 4) jd_D_nextCassette_3 rfl rfl (by decide) ?_
  refine ja_less (L' := [(0, .ref (ad 3)), (1, .int (cf_nx (S 28) (S 17) 0)), (2, .int (nI 0))]) ⟨rfl, rfl, rfl, trivial⟩ ?_
  exact loop 5 0 (by omega) (by omega)
set_option maxRecDepth 100000 in
theorem co_D_payMix {l : Launch} {s0 : State} {a0 : Array Value} {G : jb_Gt} {ad : Nat → Nat} (K : jo_G s0 a0 G ad) {S : ja_S} (x : Int32) (hjam : S 5 0 = -1 ∨ ∃ J, J ≤ 100 ∧ S 5 0 = nI J) : jo_C l s0 G ad jy_D_payMix jc_D_payMix 6 (some .int) 2 [.ref (ad 3), .int x] S (jo_i fun r S' => r = (cf_pay S x).1 ∧ S' = (cf_pay S x).2) := by
  refine jo_of K (by decide) rfl (Nat.le_of_ble_eq_true rfl) ?_
  intro p e s m args below meth c O hr hk
  obtain ⟨M, hM, hMw⟩ : ∃ M, M ≤ 200 ∧ cf_w S = nI M := by
    rcases hjam with e9 | ⟨J, hJ, e9⟩
    · exact ⟨200, by omega, by simp only [cf_w, if_pos e9]; rfl⟩
    · exact ⟨J, by omega, by simp only [cf_w]; rw [if_neg (by rw [e9]; exact jp_m1n (by omega)), e9]⟩
  have loop : ∀ (n : Nat) (i : Nat) (C : ja_S) (z : Int32), i ≤ M → M < i + n → cf_pl n C i (nI M) z = cf_pl 201 (jb_u S 5 0 (-1)) 0 (cf_w S) 0 → ja_V p l e (jo_r 2) s m args below meth c (jb_W G ad) s0.heap.size 6 0 0 (jo_M s0 G ad below args s (jo_i fun r S' => r = (cf_pay S x).1 ∧ S' = (cf_pay S x).2)) (C) 35 [(0, .ref (ad 3)), (1, .int x), (2, .int (nI M)), (3, .int z), (4, .int (cf_nx (C 28) (C 17) 4)), (5, .int (nI i))] [] := by
    intro n
    induction n with
    | zero => intro i C z hi hn hE; exact absurd hn (by omega)
    | succ n ih =>
      intro i C z hi hn hE
      refine ja_iload O (q := 37) jd_D_payMix_35 rfl rfl ?_
      refine ja_iload_n O (q := 38) jd_D_payMix_37 rfl rfl rfl ?_
      refine ja_icmp_ge O (g := 102) (q := 41) jd_D_payMix_38 (by decide) rfl (fun h_38 => ?_) (fun h_38 => ?_)
      · have hE2 : cf_pl 201 (jb_u S 5 0 (-1)) 0 (cf_w S) 0 = (z, C) := by
          rw [← hE, cf_pl, if_neg]
          first | exact fun q => absurd q.1 (Int32.not_lt.mpr h_38) | exact fun q => q.2 h_44
        refine ja_aload_n O (q := 103) jd_D_payMix_102 rfl rfl rfl ?_
        refine ja_iload_n O (q := 104) jd_D_payMix_103 rfl rfl rfl ?_
        refine jp_D_31 O (q := 107) jd_D_payMix_104 rfl ?_
        refine ja_aload_n O (q := 108) jd_D_payMix_107 rfl rfl rfl ?_
        refine ja_iload_n O (q := 109) jd_D_payMix_108 rfl rfl rfl ?_
        refine jp_D_34 O (q := 112) jd_D_payMix_109 rfl ?_
        refine ja_aload_n O (q := 113) jd_D_payMix_112 rfl rfl rfl ?_
        refine ja_dup O (q := 114) jd_D_payMix_113 rfl rfl ?_
        refine jg_D_28 O (q := 117) jd_D_payMix_114 rfl ?_
        refine ja_iload_n O (q := 118) jd_D_payMix_117 rfl rfl rfl ?_
        refine ja_iadd O (q := 119) jd_D_payMix_118 rfl ?_
        refine jp_D_28 O (q := 122) jd_D_payMix_119 rfl ?_
        refine ja_iload_n O (q := 123) jd_D_payMix_122 rfl rfl rfl ?_
        exact jo_ir O hr hk (by simp only [cf_pay, hE2]; exact ⟨trivial, rfl⟩) jd_D_payMix_123
      · have hiM : i < M := by
          rcases Nat.lt_or_ge i M with z9 | z9
          · exact z9
          · exact absurd (nI_le z9 (by omega)) h_38
        refine ja_iload O (q := 43) jd_D_payMix_41 rfl rfl ?_
        refine ja_iconst O (q := 44) (v := (-1)) jd_D_payMix_43 rfl (by decide) ?_
        refine ja_icmp_eq O (g := 102) (q := 47) jd_D_payMix_44 (by decide) rfl (fun h_44 => ?_) (fun h_44 => ?_)
        · have hE2 : cf_pl 201 (jb_u S 5 0 (-1)) 0 (cf_w S) 0 = (z, C) := by
            rw [← hE, cf_pl, if_neg]
            first | exact fun q => absurd q.1 (Int32.not_lt.mpr h_38) | exact fun q => q.2 h_44
          refine ja_aload_n O (q := 103) jd_D_payMix_102 rfl rfl rfl ?_
          refine ja_iload_n O (q := 104) jd_D_payMix_103 rfl rfl rfl ?_
          refine jp_D_31 O (q := 107) jd_D_payMix_104 rfl ?_
          refine ja_aload_n O (q := 108) jd_D_payMix_107 rfl rfl rfl ?_
          refine ja_iload_n O (q := 109) jd_D_payMix_108 rfl rfl rfl ?_
          refine jp_D_34 O (q := 112) jd_D_payMix_109 rfl ?_
          refine ja_aload_n O (q := 113) jd_D_payMix_112 rfl rfl rfl ?_
          refine ja_dup O (q := 114) jd_D_payMix_113 rfl rfl ?_
          refine jg_D_28 O (q := 117) jd_D_payMix_114 rfl ?_
          refine ja_iload_n O (q := 118) jd_D_payMix_117 rfl rfl rfl ?_
          refine ja_iadd O (q := 119) jd_D_payMix_118 rfl ?_
          refine jp_D_28 O (q := 122) jd_D_payMix_119 rfl ?_
          refine ja_iload_n O (q := 123) jd_D_payMix_122 rfl rfl rfl ?_
          exact jo_ir O hr hk (by simp only [cf_pay, hE2]; exact ⟨trivial, rfl⟩) jd_D_payMix_123
        · obtain ⟨j, hj, hj1⟩ := (cf_nx_in (C 28) (C 17) 4 (by omega)).resolve_left h_44
          have hcl : (cf_nx (C 28) (C 17) 4).toNatClampNeg = j := by rw [hj1]; exact nI_clamp (by omega)
          refine ja_aload_n O (q := 48) jd_D_payMix_47 rfl rfl rfl ?_
          refine jg_D_20 O (q := 51) jd_D_payMix_48 rfl ?_
          refine jg_D_52 O (q := 54) jd_D_payMix_51 rfl ?_
          refine ja_iload O (q := 56) jd_D_payMix_54 rfl rfl ?_
          refine ja_dup2 O (q := 57) jd_D_payMix_56 rfl rfl rfl ?_
          refine jl_14 O (k := j) hj1 (by first | assumption | omega) (q := 58) jd_D_payMix_57 rfl ?_
          refine ja_iconst O (q := 59) (v := 1) jd_D_payMix_58 rfl (by decide) ?_
          refine ja_isub O (q := 60) jd_D_payMix_59 rfl ?_
          refine js_14 O (k := j) hj1 (by first | assumption | omega) (q := 61) jd_D_payMix_60 rfl ?_
          refine ja_aload_n O (q := 62) jd_D_payMix_61 rfl rfl rfl ?_
          refine jg_D_11 O (q := 65) jd_D_payMix_62 rfl ?_
          refine ja_iload O (q := 67) jd_D_payMix_65 rfl rfl ?_
          refine jl_13 O (k := j) hj1 (by first | assumption | omega) (q := 68) jd_D_payMix_67 rfl ?_
          refine ja_dup O (q := 69) jd_D_payMix_68 rfl rfl ?_
          refine jg_D_41 O (by first | assumption | omega) (q := 72) jd_D_payMix_69 rfl ?_
          refine ja_iconst O (q := 73) (v := 1) jd_D_payMix_72 rfl (by decide) ?_
          refine ja_isub O (q := 74) jd_D_payMix_73 rfl ?_
          refine jp_D_41 O (by first | assumption | omega) (q := 77) jd_D_payMix_74 rfl ?_
          refine ja_iload_n O (q := 78) jd_D_payMix_77 rfl rfl rfl ?_
          refine ja_aload_n O (q := 79) jd_D_payMix_78 rfl rfl rfl ?_
          refine jg_D_11 O (q := 82) jd_D_payMix_79 rfl ?_
          refine ja_iload O (q := 84) jd_D_payMix_82 rfl rfl ?_
          refine jl_13 O (k := j) hj1 (by first | assumption | omega) (q := 85) jd_D_payMix_84 rfl ?_
          refine jg_D_38 O (by first | assumption | omega) (q := 88) jd_D_payMix_85 rfl ?_
          refine ja_iadd O (q := 89) jd_D_payMix_88 rfl ?_
          refine ja_istore_n O (q := 90) jd_D_payMix_89 rfl rfl (by decide) ?_
          refine ja_aload_n O (q := 91) jd_D_payMix_90 rfl rfl rfl ?_
          refine jm_D_48 O (d := 1) ⟨by decide, by decide⟩ (Nat.le_of_ble_eq_true rfl) ⟨by decide, by decide⟩ (co_D_nextCassette K) (q := 94) jd_D_payMix_91 rfl (fun r S' h => ?_)
          obtain ⟨e9, rfl⟩ := h
          subst e9
          refine ja_istore O (q := 96) jd_D_payMix_94 rfl (by decide) ?_
          refine ja_iinc O (q := 99) (v := nI (i + 1)) jd_D_payMix_96 rfl rfl (nI_1 i) (by decide) ?_
          refine ja_goto O (g := 35) jd_D_payMix_99 (by decide) ?_
          refine ja_less (L' := [(0, .ref (ad 3)), (1, .int x), (2, .int (nI M)), (3, .int (z + C 17 j)), (4, .int (cf_nx (jb_u (jb_u C 28 j (C 28 j - 1)) 18 j (C 18 j - 1) 28) (C 17) 4)), (5, .int (nI (i + 1)))]) ⟨rfl, rfl, rfl, rfl, rfl, rfl, trivial⟩ ?_
          exact ih (i + 1) (jb_u (jb_u C 28 j (C 28 j - 1)) 18 j (C 18 j - 1)) (z + C 17 j) (by omega) (by omega) (by rw [← hE, cf_pl, if_pos ⟨nI_lt hiM (by omega), h_44⟩, hcl])
  refine ja_aload_n O (q := 1) jd_D_payMix_0 rfl rfl rfl ?_
  refine jg_D_24 O (q := 4) jd_D_payMix_1 rfl ?_
  refine ja_iconst O (q := 5) (v := (-1)) jd_D_payMix_4 rfl (by decide) ?_
  refine ja_icmp_ne O (g := 14) (q := 8) jd_D_payMix_5 (by decide) rfl (fun h_5 => ?_) (fun h_5 => ?_)
  · refine ja_aload_n O (q := 15) jd_D_payMix_14 rfl rfl rfl ?_
    refine jg_D_24 O (q := 18) jd_D_payMix_15 rfl ?_
    refine ja_istore_n O (q := 19) jd_D_payMix_18 rfl rfl (by decide) ?_
    refine ja_aload_n O (q := 20) jd_D_payMix_19 rfl rfl rfl ?_
    refine ja_iconst O (q := 21) (v := (-1)) jd_D_payMix_20 rfl (by decide) ?_
    refine jp_D_24 O (q := 24) jd_D_payMix_21 rfl ?_
    refine ja_iconst O (q := 25) (v := 0) jd_D_payMix_24 rfl (by decide) ?_
    refine ja_istore_n O (q := 26) jd_D_payMix_25 rfl rfl (by decide) ?_
    refine ja_aload_n O (q := 27) jd_D_payMix_26 rfl rfl rfl ?_
    refine jm_D_48 O (d := 1) ⟨by decide, by decide⟩ (Nat.le_of_ble_eq_true rfl) ⟨by decide, by decide⟩ (co_D_nextCassette K) (q := 30) jd_D_payMix_27 rfl (fun r S' h => ?_)
    obtain ⟨e9, rfl⟩ := h
    subst e9
    refine ja_istore O (q := 32) jd_D_payMix_30 rfl (by decide) ?_
    refine ja_iconst O (q := 33) (v := 0) jd_D_payMix_32 rfl (by decide) ?_
    refine ja_istore O (q := 35) jd_D_payMix_33 rfl (by decide) ?_
    refine ja_less (L' := [(0, .ref (ad 3)), (1, .int x), (2, .int (nI M)), (3, .int 0), (4, .int (cf_nx (jb_u S 5 0 (-1) 28) (jb_u S 5 0 (-1) 17) 4)), (5, .int (nI 0))]) ⟨rfl, rfl, by rw [← hMw]; unfold cf_w; first | (rw [if_neg h_5]; rfl) | (rw [if_pos h_5]; rfl), rfl, rfl, rfl, trivial⟩ ?_
    exact loop 201 0 (jb_u S 5 0 (-1)) 0 (by omega) (by omega) (by rw [← hMw])
  · refine ja_sipush O (q := 11) (v := 200) jd_D_payMix_8 rfl (by decide) ?_
    refine ja_goto O (g := 18) jd_D_payMix_11 (by decide) ?_
    refine ja_istore_n O (q := 19) jd_D_payMix_18 rfl rfl (by decide) ?_
    refine ja_aload_n O (q := 20) jd_D_payMix_19 rfl rfl rfl ?_
    refine ja_iconst O (q := 21) (v := (-1)) jd_D_payMix_20 rfl (by decide) ?_
    refine jp_D_24 O (q := 24) jd_D_payMix_21 rfl ?_
    refine ja_iconst O (q := 25) (v := 0) jd_D_payMix_24 rfl (by decide) ?_
    refine ja_istore_n O (q := 26) jd_D_payMix_25 rfl rfl (by decide) ?_
    refine ja_aload_n O (q := 27) jd_D_payMix_26 rfl rfl rfl ?_
    refine jm_D_48 O (d := 1) ⟨by decide, by decide⟩ (Nat.le_of_ble_eq_true rfl) ⟨by decide, by decide⟩ (co_D_nextCassette K) (q := 30) jd_D_payMix_27 rfl (fun r S' h => ?_)
    obtain ⟨e9, rfl⟩ := h
    subst e9
    refine ja_istore O (q := 32) jd_D_payMix_30 rfl (by decide) ?_
    refine ja_iconst O (q := 33) (v := 0) jd_D_payMix_32 rfl (by decide) ?_
    refine ja_istore O (q := 35) jd_D_payMix_33 rfl (by decide) ?_
    refine ja_less (L' := [(0, .ref (ad 3)), (1, .int x), (2, .int (nI M)), (3, .int 0), (4, .int (cf_nx (jb_u S 5 0 (-1) 28) (jb_u S 5 0 (-1) 17) 4)), (5, .int (nI 0))]) ⟨rfl, rfl, by rw [← hMw]; unfold cf_w; first | (rw [if_neg h_5]; rfl) | (rw [if_pos h_5]; rfl), rfl, rfl, rfl, trivial⟩ ?_
    exact loop 201 0 (jb_u S 5 0 (-1)) 0 (by omega) (by omega) (by rw [← hMw])
set_option maxRecDepth 100000 in
theorem co_X_keep {l : Launch} {s0 : State} {a0 : Array Value} {G : jb_Gt} {ad : Nat → Nat} (K : jo_G s0 a0 G ad) {S : ja_S} (a b : Int32) (r : Nat) (hr9 : r < 2 ^ 20) : jo_C l s0 G ad jy_X_keep jc_X_keep 5 none 1 [.ref (ad 6), .int a, .int b, .int (nI r)] S (jo_v fun S' => S' = jb_u (jb_u (jb_u (jb_u S 28 0 a) 28 1 b) 28 2 (50 - nI (r % 51))) 28 3 (nI (r / 51) - (50 - nI (r % 51)))) := by
  refine jo_of K (by decide) rfl (Nat.le_of_ble_eq_true rfl) ?_
  intro p e s m args below meth c O hr hk
  refine ja_bipush O (q := 2) (v := 50) jd_X_keep_0 rfl (by decide) ?_
  refine ja_iload_n O (q := 3) jd_X_keep_2 rfl rfl rfl ?_
  refine ja_bipush O (q := 5) (v := 51) jd_X_keep_3 rfl (by decide) ?_
  refine ja_irem O (q := 6) jd_X_keep_5 rfl (by decide) ?_
  refine ja_isub O (q := 7) jd_X_keep_6 rfl ?_
  refine ja_istore O (q := 9) jd_X_keep_7 rfl (by decide) ?_
  refine ja_aload_n O (q := 10) jd_X_keep_9 rfl rfl rfl ?_
  refine jg_X_9 O (q := 13) jd_X_keep_10 rfl ?_
  refine ja_iconst O (q := 14) (v := 0) jd_X_keep_13 rfl (by decide) ?_
  refine ja_iload_n O (q := 15) jd_X_keep_14 rfl rfl rfl ?_
  refine js_14 O (k := 0) rfl (by first | assumption | omega) (q := 16) jd_X_keep_15 rfl ?_
  refine ja_aload_n O (q := 17) jd_X_keep_16 rfl rfl rfl ?_
  refine jg_X_9 O (q := 20) jd_X_keep_17 rfl ?_
  refine ja_iconst O (q := 21) (v := 1) jd_X_keep_20 rfl (by decide) ?_
  refine ja_iload_n O (q := 22) jd_X_keep_21 rfl rfl rfl ?_
  refine js_14 O (k := 1) rfl (by first | assumption | omega) (q := 23) jd_X_keep_22 rfl ?_
  refine ja_aload_n O (q := 24) jd_X_keep_23 rfl rfl rfl ?_
  refine jg_X_9 O (q := 27) jd_X_keep_24 rfl ?_
  refine ja_iconst O (q := 28) (v := 2) jd_X_keep_27 rfl (by decide) ?_
  refine ja_iload O (q := 30) jd_X_keep_28 rfl rfl ?_
  refine js_14 O (k := 2) rfl (by first | assumption | omega) (q := 31) jd_X_keep_30 rfl ?_
  refine ja_aload_n O (q := 32) jd_X_keep_31 rfl rfl rfl ?_
  refine jg_X_9 O (q := 35) jd_X_keep_32 rfl ?_
  refine ja_iconst O (q := 36) (v := 3) jd_X_keep_35 rfl (by decide) ?_
  refine ja_iload_n O (q := 37) jd_X_keep_36 rfl rfl rfl ?_
  refine ja_bipush O (q := 39) (v := 51) jd_X_keep_37 rfl (by decide) ?_
  refine ja_idiv O (q := 40) jd_X_keep_39 rfl (by decide) ?_
  refine ja_iload O (q := 42) jd_X_keep_40 rfl rfl ?_
  refine ja_isub O (q := 43) jd_X_keep_42 rfl ?_
  refine js_14 O (k := 3) rfl (by first | assumption | omega) (q := 44) jd_X_keep_43 rfl ?_
  exact jo_vr O hr hk (by rw [show nI r - nI r / 51 * 51 = nI (r % 51) from pk_rem (d := 51) (by omega) (by decide) (by decide), show nI r / 51 = nI (r / 51) from pk_div (d := 51) (by omega) (by decide) (by decide)]) jd_X_keep_44
