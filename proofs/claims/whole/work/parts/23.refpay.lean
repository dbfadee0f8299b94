/-! CONTRACTS of the reference, by program (wip/whole/gen/p23.py): greatest, pay -/
def mf_bit (g : Int32) (k : Nat) : Int32 := g &&& ((1 : Int32) <<< (nI k &&& 31))
def mf_or (g : Int32) (k : Nat) : Int32 := g ||| ((1 : Int32) <<< (nI k &&& 31))
/-- of the first k cassettes that are not gone the one of the greatest value, the first of several -/
def mf_gr (g : Int32) (vl : Nat → Int32) : Nat → Int32
  | 0 => -1
  | k + 1 => if mf_bit g k = 0 ∧ (mf_gr g vl k < 0 ∨ vl (mf_gr g vl k).toNatClampNeg < vl k) then nI k else mf_gr g vl k
theorem mf_gr_in (g : Int32) (vl : Nat → Int32) : ∀ i, i ≤ 4 → (mf_gr g vl i = -1 ∧ ∀ j, j < i → ¬ mf_bit g j = 0) ∨ ∃ j, j < i ∧ mf_gr g vl i = nI j ∧ mf_bit g j = 0
  | 0, _ => Or.inl ⟨rfl, fun j hj => absurd hj (by omega)⟩
  | i + 1, h => by
    by_cases hb : mf_bit g i = 0
    · by_cases h2 : mf_gr g vl i < 0 ∨ vl (mf_gr g vl i).toNatClampNeg < vl i
      · exact Or.inr ⟨i, by omega, by rw [mf_gr, if_pos ⟨hb, h2⟩], hb⟩
      · rcases mf_gr_in g vl i (by omega) with ⟨e, _⟩ | ⟨j, h1, h3, h4⟩
        · exact absurd (Or.inl (by rw [e]; decide)) h2
        · exact Or.inr ⟨j, by omega, by rw [mf_gr, if_neg (fun q => h2 q.2), h3], h4⟩
    · rcases mf_gr_in g vl i (by omega) with ⟨e, h5⟩ | ⟨j, h1, h3, h4⟩
      · refine Or.inl ⟨by rw [mf_gr, if_neg (fun q => hb q.1), e], fun j hj => ?_⟩
        rcases Nat.lt_or_ge j i with z | z
        · exact h5 j z
        · rw [show j = i by omega]; exact hb
      · exact Or.inr ⟨j, by omega, by rw [mf_gr, if_neg (fun q => hb q.1), h3], h4⟩
def jm_pc (g : Nat) : Nat := g % 2 + g / 2 % 2 + g / 4 % 2 + g / 8 % 2
/-- gone holds k of the four -/
def jm_G (x : Int32) (k : Nat) : Prop := ∃ g, g < 16 ∧ x = nI g ∧ jm_pc g = k
theorem jm_Gd1 : ∀ g : Fin 16, jm_pc g < 4 → ∃ j : Fin 4, mf_bit (nI g) j = 0 := by decide +kernel
theorem jm_Gd2 : ∀ (g : Fin 16) (j : Fin 4), mf_bit (nI g) j = 0 → g.val + 2 ^ j.val < 16 ∧ mf_or (nI g) j = nI (g + 2 ^ j.val) ∧ jm_pc (g + 2 ^ j.val) = jm_pc g + 1 ∧ ∀ i : Fin 4, mf_bit (nI (g + 2 ^ j.val)) i = 0 ↔ (i ≠ j ∧ mf_bit (nI g) i = 0) := by decide +kernel
theorem jm_Gx {x : Int32} {k : Nat} (h : jm_G x k) (hk : k < 4) : ∃ j, j < 4 ∧ mf_bit x j = 0 := by
  obtain ⟨g, hg, rfl, hp⟩ := h
  obtain ⟨j, hj⟩ := jm_Gd1 ⟨g, hg⟩ (by show jm_pc g < 4; omega)
  exact ⟨j, j.isLt, hj⟩
theorem jm_Go {x : Int32} {k j : Nat} (h : jm_G x k) (hj : j < 4) (hb : mf_bit x j = 0) : jm_G (mf_or x j) (k + 1) ∧ ∀ i, i < 4 → (mf_bit (mf_or x j) i = 0 ↔ (i ≠ j ∧ mf_bit x i = 0)) := by
  obtain ⟨g, hg, rfl, hp⟩ := h
  obtain ⟨h1, h2, h3, h4⟩ := jm_Gd2 ⟨g, hg⟩ ⟨j, hj⟩ hb
  refine ⟨⟨_, h1, h2, by rw [h3]; show jm_pc g + 1 = _; omega⟩, fun i hi => ?_⟩
  have h5 := h4 ⟨i, hi⟩
  rw [show mf_or (nI g) j = _ from h2]
  refine h5.trans ⟨fun q => ⟨fun e => q.1 (Fin.ext e), q.2⟩, fun q => ⟨fun e => q.1 (congrArg Fin.val e), q.2⟩⟩
def mf_n (M : ja_S) (c : Nat) (left : Int32) : Int32 := if left ≤ M 52 c then left else M 52 c
def mf_pl : Nat → ja_S → Int32 → Int32 → Int32 → Int32 × ja_S
  | 0, M, _, _, z => (z, M)
  | f + 1, M, w, g, z => mf_pl f (jb_u M 51 (mf_gr g (M 50) 4).toNatClampNeg (M 51 (mf_gr g (M 50) 4).toNatClampNeg - mf_n M (mf_gr g (M 50) 4).toNatClampNeg w)) (w - mf_n M (mf_gr g (M 50) 4).toNatClampNeg w) (mf_or g (mf_gr g (M 50) 4).toNatClampNeg) (z + mf_n M (mf_gr g (M 50) 4).toNatClampNeg w * M 50 (mf_gr g (M 50) 4).toNatClampNeg)
def mf_w (M : ja_S) : Int32 := if 0 ≤ M 39 0 then M 39 0 else 1000
def mf_pq (M : ja_S) : Int32 × ja_S := mf_pl 4 (jb_u M 39 0 (-1)) (mf_w M) 0 0
def mf_pay (M : ja_S) (t : Int32) : ja_S := jb_u (jb_u (jb_u (mf_pq M).2 41 0 t) 42 0 (mf_pq M).1) 43 0 ((mf_pq M).2 43 0 + (mf_pq M).1)
set_option maxRecDepth 100000 in
theorem co_M_greatest {l : Launch} {s0 : State} {a0 : Array Value} {G : jb_Gt} {ad : Nat → Nat} (K : jo_G s0 a0 G ad) {S : ja_S} (g : Int32) : jo_C l s0 G ad jy_M_greatest jc_M_greatest 4 (some .int) 1 [.ref (ad 7), .int g] S (jo_i fun r S' => r = mf_gr g (S 50) 4 ∧ S' = S) := by
  refine jo_of K (by decide) rfl (Nat.le_of_ble_eq_true rfl) ?_
  intro p e s m args below meth c O hr hk
  have loop : ∀ (n : Nat) (i : Nat), i ≤ 4 → 4 < i + n → ja_V p l e (jo_r 1) s m args below meth c (jb_W G ad) s0.heap.size 4 0 0 (jo_M s0 G ad below args s (jo_i fun r S' => r = mf_gr g (S 50) 4 ∧ S' = S)) (S) 4 [(0, .ref (ad 7)), (1, .int g), (2, .int (mf_gr g (S 50) i)), (3, .int (nI i))] [] := by
    intro n
    induction n with
    | zero => intro i hi hn; exact absurd hn (by omega)
    | succ n ih =>
      intro i hi hn
      refine ja_iload_n O (q := 5) jd_M_greatest_4 rfl rfl rfl ?_
      refine ja_iconst O (q := 6) (v := 4) jd_M_greatest_5 rfl (by decide) ?_
      refine ja_icmp_ge O (g := 44) (q := 9) jd_M_greatest_6 (by decide) rfl (fun h_6 => ?_) (fun h_6 => ?_)
      · have hi4 : i = 4 := by
          rcases Nat.lt_or_ge i 4 with z | z
          · exact absurd h_6 (nI_ge (b := 4) z (by omega))
          · omega
        subst hi4
        refine ja_iload_n O (q := 45) jd_M_greatest_44 rfl rfl rfl ?_
        exact jo_ir O hr hk ⟨rfl, rfl⟩ jd_M_greatest_45
      · have hi4 : i < 4 := by
          rcases Nat.lt_or_ge i 4 with z | z
          · exact z
          · exact absurd (show nI 4 ≤ nI i from nI_le z (by omega)) h_6
        refine ja_iload_n O (q := 10) jd_M_greatest_9 rfl rfl rfl ?_
        refine ja_iconst O (q := 11) (v := 1) jd_M_greatest_10 rfl (by decide) ?_
        refine ja_iload_n O (q := 12) jd_M_greatest_11 rfl rfl rfl ?_
        refine ja_ishl O (q := 13) jd_M_greatest_12 rfl ?_
        refine ja_iand O (q := 14) jd_M_greatest_13 rfl ?_
        refine ja_if_ne O (g := 38) (q := 17) jd_M_greatest_14 (by decide) rfl (fun h_14 => ?_) (fun h_14 => ?_)
        · refine ja_iinc O (q := 41) (v := nI (i + 1)) jd_M_greatest_38 rfl rfl (nI_1 i) (by decide) ?_
          refine ja_goto O (g := 4) jd_M_greatest_41 (by decide) ?_
          refine ja_less (L' := [(0, .ref (ad 7)), (1, .int g), (2, .int (mf_gr g (S 50) (i + 1))), (3, .int (nI (i + 1)))]) ⟨rfl, rfl, (by first | (show some (Value.int _) = some (Value.int (mf_gr g (S 50) (i + 1))); rw [show mf_gr g (S 50) (i + 1) = mf_gr g (S 50) i from by rw [mf_gr, if_neg (fun q => by first | exact h_14 q.1 | exact absurd q.2 (fun z => z.elim h_18 (fun y => absurd y (Int32.not_lt.mpr (by simpa only [hnx] using h_33)))))]]) | (show some (Value.int _) = some (Value.int (mf_gr g (S 50) (i + 1))); rw [show mf_gr g (S 50) (i + 1) = nI i from by rw [mf_gr, if_pos ⟨h_14, by first | exact Or.inl h_18 | exact Or.inr (Int32.not_le.mp (by simpa only [hnx] using h_33))⟩]])), rfl, trivial⟩ ?_
          exact ih (i + 1) (by omega) (by omega)
        · refine ja_iload_n O (q := 18) jd_M_greatest_17 rfl rfl rfl ?_
          refine ja_if_lt O (g := 36) (q := 21) jd_M_greatest_18 (by decide) rfl (fun h_18 => ?_) (fun h_18 => ?_)
          · refine ja_iload_n O (q := 37) jd_M_greatest_36 rfl rfl rfl ?_
            refine ja_istore_n O (q := 38) jd_M_greatest_37 rfl rfl (by decide) ?_
            refine ja_iinc O (q := 41) (v := nI (i + 1)) jd_M_greatest_38 rfl rfl (nI_1 i) (by decide) ?_
            refine ja_goto O (g := 4) jd_M_greatest_41 (by decide) ?_
            refine ja_less (L' := [(0, .ref (ad 7)), (1, .int g), (2, .int (mf_gr g (S 50) (i + 1))), (3, .int (nI (i + 1)))]) ⟨rfl, rfl, (by first | (show some (Value.int _) = some (Value.int (mf_gr g (S 50) (i + 1))); rw [show mf_gr g (S 50) (i + 1) = mf_gr g (S 50) i from by rw [mf_gr, if_neg (fun q => by first | exact h_14 q.1 | exact absurd q.2 (fun z => z.elim h_18 (fun y => absurd y (Int32.not_lt.mpr (by simpa only [hnx] using h_33)))))]]) | (show some (Value.int _) = some (Value.int (mf_gr g (S 50) (i + 1))); rw [show mf_gr g (S 50) (i + 1) = nI i from by rw [mf_gr, if_pos ⟨h_14, by first | exact Or.inl h_18 | exact Or.inr (Int32.not_le.mp (by simpa only [hnx] using h_33))⟩]])), rfl, trivial⟩ ?_
            exact ih (i + 1) (by omega) (by omega)
          · have hnx : ∃ j, j < i ∧ mf_gr g (S 50) i = nI j := by
              rcases mf_gr_in g (S 50) i (by omega) with ⟨z, _⟩ | ⟨j, z1, z2, _⟩
              · exact absurd (by rw [z]; decide) h_18
              · exact ⟨j, z1, z2⟩
            obtain ⟨j, hj, hj1⟩ := hnx
            have hnx : (mf_gr g (S 50) i).toNatClampNeg = j := by rw [hj1]; exact nI_clamp (by omega)
            have hj4 : j < 4 := by omega
            refine ja_aload_n O (q := 22) jd_M_greatest_21 rfl rfl rfl ?_
            refine jg_M_29 O (q := 25) jd_M_greatest_22 rfl ?_
            refine ja_iload_n O (q := 26) jd_M_greatest_25 rfl rfl rfl ?_
            refine jl_25 O (k := i) rfl (by first | assumption | omega) (q := 27) jd_M_greatest_26 rfl ?_
            refine ja_aload_n O (q := 28) jd_M_greatest_27 rfl rfl rfl ?_
            refine jg_M_29 O (q := 31) jd_M_greatest_28 rfl ?_
            refine ja_iload_n O (q := 32) jd_M_greatest_31 rfl rfl rfl ?_
            refine jl_25 O (k := j) hj1 (by first | assumption | omega) (q := 33) jd_M_greatest_32 rfl ?_
            refine ja_icmp_le O (g := 38) (q := 36) jd_M_greatest_33 (by decide) rfl (fun h_33 => ?_) (fun h_33 => ?_)
            · refine ja_iinc O (q := 41) (v := nI (i + 1)) jd_M_greatest_38 rfl rfl (nI_1 i) (by decide) ?_
              refine ja_goto O (g := 4) jd_M_greatest_41 (by decide) ?_
              refine ja_less (L' := [(0, .ref (ad 7)), (1, .int g), (2, .int (mf_gr g (S 50) (i + 1))), (3, .int (nI (i + 1)))]) ⟨rfl, rfl, (by first | (show some (Value.int _) = some (Value.int (mf_gr g (S 50) (i + 1))); rw [show mf_gr g (S 50) (i + 1) = mf_gr g (S 50) i from by rw [mf_gr, if_neg (fun q => by first | exact h_14 q.1 | exact absurd q.2 (fun z => z.elim h_18 (fun y => absurd y (Int32.not_lt.mpr (by simpa only [hnx] using h_33)))))]]) | (show some (Value.int _) = some (Value.int (mf_gr g (S 50) (i + 1))); rw [show mf_gr g (S 50) (i + 1) = nI i from by rw [mf_gr, if_pos ⟨h_14, by first | exact Or.inl h_18 | exact Or.inr (Int32.not_le.mp (by simpa only [hnx] using h_33))⟩]])), rfl, trivial⟩ ?_
              exact ih (i + 1) (by omega) (by omega)
            · refine ja_iload_n O (q := 37) jd_M_greatest_36 rfl rfl rfl ?_
              refine ja_istore_n O (q := 38) jd_M_greatest_37 rfl rfl (by decide) ?_
              refine ja_iinc O (q := 41) (v := nI (i + 1)) jd_M_greatest_38 rfl rfl (nI_1 i) (by decide) ?_
              refine ja_goto O (g := 4) jd_M_greatest_41 (by decide) ?_
              refine ja_less (L' := [(0, .ref (ad 7)), (1, .int g), (2, .int (mf_gr g (S 50) (i + 1))), (3, .int (nI (i + 1)))]) ⟨rfl, rfl, (by first | (show some (Value.int _) = some (Value.int (mf_gr g (S 50) (i + 1))); rw [show mf_gr g (S 50) (i + 1) = mf_gr g (S 50) i from by rw [mf_gr, if_neg (fun q => by first | exact h_14 q.1 | exact absurd q.2 (fun z => z.elim h_18 (fun y => absurd y (Int32.not_lt.mpr (by simpa only [hnx] using h_33)))))]]) | (show some (Value.int _) = some (Value.int (mf_gr g (S 50) (i + 1))); rw [show mf_gr g (S 50) (i + 1) = nI i from by rw [mf_gr, if_pos ⟨h_14, by first | exact Or.inl h_18 | exact Or.inr (Int32.not_le.mp (by simpa only [hnx] using h_33))⟩]])), rfl, trivial⟩ ?_
              exact ih (i + 1) (by omega) (by omega)
  refine ja_iconst O (q := 1) (v := (-1)) jd_M_greatest_0 rfl (by decide) ?_
  refine ja_istore_n O (q := 2) jd_M_greatest_1 rfl rfl (by decide) ?_
  refine ja_iconst O (q := 3) (v := 0) jd_M_greatest_2 rfl (by decide) ?_
  refine ja_istore_n O (q := 4) jd_M_greatest_3 rfl rfl (by decide) ?_
  refine ja_less (L' := [(0, .ref (ad 7)), (1, .int g), (2, .int (mf_gr g (S 50) 0)), (3, .int (nI 0))]) ⟨rfl, rfl, rfl, rfl, trivial⟩ ?_
  exact loop 5 0 (by omega) (by omega)
set_option maxRecDepth 100000 in
theorem co_M_pay {l : Launch} {s0 : State} {a0 : Array Value} {G : jb_Gt} {ad : Nat → Nat} (K : jo_G s0 a0 G ad) {S : ja_S} (t : Int32) : jo_C l s0 G ad jy_M_pay jc_M_pay 8 none 2 [.ref (ad 7), .int t] S (jo_v fun S' => S' = mf_pay S t) := by
  refine jo_of K (by decide) rfl (Nat.le_of_ble_eq_true rfl) ?_
  intro p e s m args below meth c O hr hk
  have loop : ∀ (n : Nat) (i : Nat) (C : ja_S) (w g v : Int32), i ≤ 4 → 4 < i + n → jm_G g i → mf_pl (4 - i) C w g v = mf_pq S → ja_V p l e (jo_r 2) s m args below meth c (jb_W G ad) s0.heap.size 8 0 0 (jo_M s0 G ad below args s (jo_v fun S' => S' = mf_pay S t)) (C) 31 [(0, .ref (ad 7)), (1, .int t), (2, .int w), (3, .int v), (4, .int g), (5, .int (nI i))] [] := by
    intro n
    induction n with
    | zero => intro i C w g v hi hn hG hE; exact absurd hn (by omega)
    | succ n ih =>
      intro i C w g v hi hn hG hE
      refine ja_iload O (q := 33) jd_M_pay_31 rfl rfl ?_
      refine ja_iconst O (q := 34) (v := 4) jd_M_pay_33 rfl (by decide) ?_
      refine ja_icmp_ge O (g := 114) (q := 37) jd_M_pay_34 (by decide) rfl (fun h_34 => ?_) (fun h_34 => ?_)
      · have hi4 : i = 4 := by
          rcases Nat.lt_or_ge i 4 with z | z
          · exact absurd h_34 (nI_ge (b := 4) z (by omega))
          · omega
        subst hi4
        have hE : (v, C) = mf_pq S := hE
        refine ja_aload_n O (q := 115) jd_M_pay_114 rfl rfl rfl ?_
        refine ja_iload_n O (q := 116) jd_M_pay_115 rfl rfl rfl ?_
        refine jp_M_115 O (q := 119) jd_M_pay_116 rfl ?_
        refine ja_aload_n O (q := 120) jd_M_pay_119 rfl rfl rfl ?_
        refine ja_iload_n O (q := 121) jd_M_pay_120 rfl rfl rfl ?_
        refine jp_M_118 O (q := 124) jd_M_pay_121 rfl ?_
        refine ja_aload_n O (q := 125) jd_M_pay_124 rfl rfl rfl ?_
        refine ja_dup O (q := 126) jd_M_pay_125 rfl rfl ?_
        refine jg_M_121 O (q := 129) jd_M_pay_126 rfl ?_
        refine ja_iload_n O (q := 130) jd_M_pay_129 rfl rfl rfl ?_
        refine ja_iadd O (q := 131) jd_M_pay_130 rfl ?_
        refine jp_M_121 O (q := 134) jd_M_pay_131 rfl ?_
        exact jo_vr O hr hk (by unfold mf_pay; rw [← hE]; rfl) jd_M_pay_134
      · have hi4 : i < 4 := by
          rcases Nat.lt_or_ge i 4 with z | z
          · exact z
          · exact absurd (show nI 4 ≤ nI i from nI_le z (by omega)) h_34
        obtain ⟨j, hj, hgr, hb⟩ : ∃ j, j < 4 ∧ mf_gr g (C 50) 4 = nI j ∧ mf_bit g j = 0 := by
          rcases mf_gr_in g (C 50) 4 (by omega) with ⟨_, z⟩ | z
          · obtain ⟨y, y1, y2⟩ := jm_Gx hG hi4
            exact absurd y2 (z y y1)
          · exact z
        have hcl : (mf_gr g (C 50) 4).toNatClampNeg = j := by rw [hgr]; exact nI_clamp (by omega)
        refine ja_aload_n O (q := 38) jd_M_pay_37 rfl rfl rfl ?_
        refine ja_iload O (q := 40) jd_M_pay_38 rfl rfl ?_
        refine jm_M_112 O (d := 1) ⟨by decide, by decide⟩ (Nat.le_of_ble_eq_true rfl) ⟨by decide, by decide⟩ (co_M_greatest K (S := C) g) (q := 43) jd_M_pay_40 rfl (fun r S' h => ?_)
        obtain ⟨h1, h2⟩ := h
        rw [h1, h2, hgr]
        clear h1 h2
        refine ja_istore O (q := 45) jd_M_pay_43 rfl (by decide) ?_
        refine ja_iload O (q := 47) jd_M_pay_45 rfl rfl ?_
        refine ja_iconst O (q := 48) (v := 1) jd_M_pay_47 rfl (by decide) ?_
        refine ja_iload O (q := 50) jd_M_pay_48 rfl rfl ?_
        refine ja_ishl O (q := 51) jd_M_pay_50 rfl ?_
        refine ja_ior O (q := 52) jd_M_pay_51 rfl ?_
        refine ja_istore O (q := 54) jd_M_pay_52 rfl (by decide) ?_
        refine ja_aload_n O (q := 55) jd_M_pay_54 rfl rfl rfl ?_
        refine jg_M_35 O (q := 58) jd_M_pay_55 rfl ?_
        refine ja_iload O (q := 60) jd_M_pay_58 rfl rfl ?_
        refine jl_27 O (k := j) rfl (by first | assumption | omega) (q := 61) jd_M_pay_60 rfl ?_
        refine ja_iload_n O (q := 62) jd_M_pay_61 rfl rfl rfl ?_
        refine ja_icmp_ge O (g := 75) (q := 65) jd_M_pay_62 (by decide) rfl (fun h_62 => ?_) (fun h_62 => ?_)
        · refine ja_iload_n O (q := 76) jd_M_pay_75 rfl rfl rfl ?_
          refine ja_istore O (q := 78) jd_M_pay_76 rfl (by decide) ?_
          refine ja_iload_n O (q := 79) jd_M_pay_78 rfl rfl rfl ?_
          refine ja_iload O (q := 81) jd_M_pay_79 rfl rfl ?_
          refine ja_isub O (q := 82) jd_M_pay_81 rfl ?_
          refine ja_istore_n O (q := 83) jd_M_pay_82 rfl rfl (by decide) ?_
          refine ja_aload_n O (q := 84) jd_M_pay_83 rfl rfl rfl ?_
          refine jg_M_32 O (q := 87) jd_M_pay_84 rfl ?_
          refine ja_iload O (q := 89) jd_M_pay_87 rfl rfl ?_
          refine ja_dup2 O (q := 90) jd_M_pay_89 rfl rfl rfl ?_
          refine jl_26 O (k := j) rfl (by first | assumption | omega) (q := 91) jd_M_pay_90 rfl ?_
          refine ja_iload O (q := 93) jd_M_pay_91 rfl rfl ?_
          refine ja_isub O (q := 94) jd_M_pay_93 rfl ?_
          refine js_26 O (k := j) rfl (by first | assumption | omega) (q := 95) jd_M_pay_94 rfl ?_
          refine ja_iload_n O (q := 96) jd_M_pay_95 rfl rfl rfl ?_
          refine ja_iload O (q := 98) jd_M_pay_96 rfl rfl ?_
          refine ja_aload_n O (q := 99) jd_M_pay_98 rfl rfl rfl ?_
          refine jg_M_29 O (q := 102) jd_M_pay_99 rfl ?_
          refine ja_iload O (q := 104) jd_M_pay_102 rfl rfl ?_
          refine jl_25 O (k := j) rfl (by first | assumption | omega) (q := 105) jd_M_pay_104 rfl ?_
          refine ja_imul O (q := 106) jd_M_pay_105 rfl ?_
          refine ja_iadd O (q := 107) jd_M_pay_106 rfl ?_
          refine ja_istore_n O (q := 108) jd_M_pay_107 rfl rfl (by decide) ?_
          refine ja_iinc O (q := 111) (v := nI (i + 1)) jd_M_pay_108 rfl rfl (nI_1 i) (by decide) ?_
          refine ja_goto O (g := 31) jd_M_pay_111 (by decide) ?_
          have e9 : ∀ z, z = mf_n C j w → ja_V p l e (jo_r 2) s m args below meth c (jb_W G ad) s0.heap.size 8 0 0 (jo_M s0 G ad below args s (jo_v fun S' => S' = mf_pay S t)) (jb_u C 51 j (C 51 j - z)) 31 [(0, .ref (ad 7)), (1, .int t), (2, .int (w - z)), (3, .int (v + z * C 50 j)), (4, .int (mf_or g j)), (5, .int (nI (i + 1)))] [] := fun z hz => by
            subst hz
            exact ih (i + 1) _ _ _ _ (by omega) (by omega) (jm_Go hG hj hb).1 (by rw [← hE, show 4 - i = (4 - (i + 1)) + 1 by omega, mf_pl, hcl])
          first
          | (refine ja_less ?_ (e9 w (by unfold mf_n; rw [if_pos h_62])); exact ⟨rfl, rfl, rfl, rfl, rfl, rfl, trivial⟩)
          | (refine ja_less ?_ (e9 (C 52 j) (by unfold mf_n; rw [if_neg h_62])); exact ⟨rfl, rfl, rfl, rfl, rfl, rfl, trivial⟩)
        · refine ja_aload_n O (q := 66) jd_M_pay_65 rfl rfl rfl ?_
          refine jg_M_35 O (q := 69) jd_M_pay_66 rfl ?_
          refine ja_iload O (q := 71) jd_M_pay_69 rfl rfl ?_
          refine jl_27 O (k := j) rfl (by first | assumption | omega) (q := 72) jd_M_pay_71 rfl ?_
          refine ja_goto O (g := 76) jd_M_pay_72 (by decide) ?_
          refine ja_istore O (q := 78) jd_M_pay_76 rfl (by decide) ?_
          refine ja_iload_n O (q := 79) jd_M_pay_78 rfl rfl rfl ?_
          refine ja_iload O (q := 81) jd_M_pay_79 rfl rfl ?_
          refine ja_isub O (q := 82) jd_M_pay_81 rfl ?_
          refine ja_istore_n O (q := 83) jd_M_pay_82 rfl rfl (by decide) ?_
          refine ja_aload_n O (q := 84) jd_M_pay_83 rfl rfl rfl ?_
          refine jg_M_32 O (q := 87) jd_M_pay_84 rfl ?_
          refine ja_iload O (q := 89) jd_M_pay_87 rfl rfl ?_
          refine ja_dup2 O (q := 90) jd_M_pay_89 rfl rfl rfl ?_
          refine jl_26 O (k := j) rfl (by first | assumption | omega) (q := 91) jd_M_pay_90 rfl ?_
          refine ja_iload O (q := 93) jd_M_pay_91 rfl rfl ?_
          refine ja_isub O (q := 94) jd_M_pay_93 rfl ?_
          refine js_26 O (k := j) rfl (by first | assumption | omega) (q := 95) jd_M_pay_94 rfl ?_
          refine ja_iload_n O (q := 96) jd_M_pay_95 rfl rfl rfl ?_
          refine ja_iload O (q := 98) jd_M_pay_96 rfl rfl ?_
          refine ja_aload_n O (q := 99) jd_M_pay_98 rfl rfl rfl ?_
          refine jg_M_29 O (q := 102) jd_M_pay_99 rfl ?_
          refine ja_iload O (q := 104) jd_M_pay_102 rfl rfl ?_
          refine jl_25 O (k := j) rfl (by first | assumption | omega) (q := 105) jd_M_pay_104 rfl ?_
          refine ja_imul O (q := 106) jd_M_pay_105 rfl ?_
          refine ja_iadd O (q := 107) jd_M_pay_106 rfl ?_
          refine ja_istore_n O (q := 108) jd_M_pay_107 rfl rfl (by decide) ?_
          refine ja_iinc O (q := 111) (v := nI (i + 1)) jd_M_pay_108 rfl rfl (nI_1 i) (by decide) ?_
          refine ja_goto O (g := 31) jd_M_pay_111 (by decide) ?_
          have e9 : ∀ z, z = mf_n C j w → ja_V p l e (jo_r 2) s m args below meth c (jb_W G ad) s0.heap.size 8 0 0 (jo_M s0 G ad below args s (jo_v fun S' => S' = mf_pay S t)) (jb_u C 51 j (C 51 j - z)) 31 [(0, .ref (ad 7)), (1, .int t), (2, .int (w - z)), (3, .int (v + z * C 50 j)), (4, .int (mf_or g j)), (5, .int (nI (i + 1)))] [] := fun z hz => by
            subst hz
            exact ih (i + 1) _ _ _ _ (by omega) (by omega) (jm_Go hG hj hb).1 (by rw [← hE, show 4 - i = (4 - (i + 1)) + 1 by omega, mf_pl, hcl])
          first
          | (refine ja_less ?_ (e9 w (by unfold mf_n; rw [if_pos h_62])); exact ⟨rfl, rfl, rfl, rfl, rfl, rfl, trivial⟩)
          | (refine ja_less ?_ (e9 (C 52 j) (by unfold mf_n; rw [if_neg h_62])); exact ⟨rfl, rfl, rfl, rfl, rfl, rfl, trivial⟩)
  refine ja_aload_n O (q := 1) jd_M_pay_0 rfl rfl rfl ?_
  refine jg_M_69 O (q := 4) jd_M_pay_1 rfl ?_
  refine ja_if_ge O (g := 13) (q := 7) jd_M_pay_4 (by decide) rfl (fun h_4 => ?_) (fun h_4 => ?_)
  · refine ja_aload_n O (q := 14) jd_M_pay_13 rfl rfl rfl ?_
    refine jg_M_69 O (q := 17) jd_M_pay_14 rfl ?_
    refine ja_istore_n O (q := 18) jd_M_pay_17 rfl rfl (by decide) ?_
    refine ja_aload_n O (q := 19) jd_M_pay_18 rfl rfl rfl ?_
    refine ja_iconst O (q := 20) (v := (-1)) jd_M_pay_19 rfl (by decide) ?_
    refine jp_M_69 O (q := 23) jd_M_pay_20 rfl ?_
    refine ja_iconst O (q := 24) (v := 0) jd_M_pay_23 rfl (by decide) ?_
    refine ja_istore_n O (q := 25) jd_M_pay_24 rfl rfl (by decide) ?_
    refine ja_iconst O (q := 26) (v := 0) jd_M_pay_25 rfl (by decide) ?_
    refine ja_istore O (q := 28) jd_M_pay_26 rfl (by decide) ?_
    refine ja_iconst O (q := 29) (v := 0) jd_M_pay_28 rfl (by decide) ?_
    refine ja_istore O (q := 31) jd_M_pay_29 rfl (by decide) ?_
    have e9 : ∀ z, z = mf_w S → ja_V p l e (jo_r 2) s m args below meth c (jb_W G ad) s0.heap.size 8 0 0 (jo_M s0 G ad below args s (jo_v fun S' => S' = mf_pay S t)) (jb_u S 39 0 (-1)) 31 [(0, .ref (ad 7)), (1, .int t), (2, .int z), (3, .int 0), (4, .int 0), (5, .int (nI 0))] [] := fun z hz => by
      subst hz
      exact loop 5 0 _ _ _ _ (by omega) (by omega) ⟨0, by omega, rfl, rfl⟩ rfl
    first
    | (refine ja_less ?_ (e9 (S 39 0) (by unfold mf_w; rw [if_pos h_4])); exact ⟨rfl, rfl, rfl, rfl, rfl, rfl, trivial⟩)
    | (refine ja_less ?_ (e9 1000 (by unfold mf_w; rw [if_neg h_4])); exact ⟨rfl, rfl, rfl, rfl, rfl, rfl, trivial⟩)
  · refine ja_sipush O (q := 10) (v := 1000) jd_M_pay_7 rfl (by decide) ?_
    refine ja_goto O (g := 17) jd_M_pay_10 (by decide) ?_
    refine ja_istore_n O (q := 18) jd_M_pay_17 rfl rfl (by decide) ?_
    refine ja_aload_n O (q := 19) jd_M_pay_18 rfl rfl rfl ?_
    refine ja_iconst O (q := 20) (v := (-1)) jd_M_pay_19 rfl (by decide) ?_
    refine jp_M_69 O (q := 23) jd_M_pay_20 rfl ?_
    refine ja_iconst O (q := 24) (v := 0) jd_M_pay_23 rfl (by decide) ?_
    refine ja_istore_n O (q := 25) jd_M_pay_24 rfl rfl (by decide) ?_
    refine ja_iconst O (q := 26) (v := 0) jd_M_pay_25 rfl (by decide) ?_
    refine ja_istore O (q := 28) jd_M_pay_26 rfl (by decide) ?_
    refine ja_iconst O (q := 29) (v := 0) jd_M_pay_28 rfl (by decide) ?_
    refine ja_istore O (q := 31) jd_M_pay_29 rfl (by decide) ?_
    have e9 : ∀ z, z = mf_w S → ja_V p l e (jo_r 2) s m args below meth c (jb_W G ad) s0.heap.size 8 0 0 (jo_M s0 G ad below args s (jo_v fun S' => S' = mf_pay S t)) (jb_u S 39 0 (-1)) 31 [(0, .ref (ad 7)), (1, .int t), (2, .int z), (3, .int 0), (4, .int 0), (5, .int (nI 0))] [] := fun z hz => by
      subst hz
      exact loop 5 0 _ _ _ _ (by omega) (by omega) ⟨0, by omega, rfl, rfl⟩ rfl
    first
    | (refine ja_less ?_ (e9 (S 39 0) (by unfold mf_w; rw [if_pos h_4])); exact ⟨rfl, rfl, rfl, rfl, rfl, rfl, trivial⟩)
    | (refine ja_less ?_ (e9 1000 (by unfold mf_w; rw [if_neg h_4])); exact ⟨rfl, rfl, rfl, rfl, rfl, rfl, trivial⟩)
