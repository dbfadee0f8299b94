/-! THE REFERENCE'S MIX, by program (wip/whole/gen/p21.py): the search over all triples; better, thirds, mixed, mix -/
def jm_KM (M : ja_S) (v n : Nat → Nat) : Prop := ∀ i, i < 4 → M 50 i = nI (v i) ∧ M 51 i = nI (n i) ∧ 1 ≤ v i ∧ v i ≤ 500 ∧ n i ≤ 50
def jm_4 (a b c d : Nat) : Nat → Nat := fun i => if i = 0 then a else if i = 1 then b else if i = 2 then c else d
/-- of the triples Q: none makes a mix, or g is the best of them -/
def jm_R (v n : Nat → Nat) (A : Nat) (Q : Nat → Nat → Nat → Prop) (g : Nat → Int32) (x : Int32) : Prop :=
  (x = 0 ∧ ∀ u, jm_mx v n A u → ¬ Q (u 0) (u 1) (u 2)) ∨
  (x = 1 ∧ ∃ t, jm_mx v n A t ∧ (∀ i, i < 4 → g i = nI (t i)) ∧ ∀ u, jm_mx v n A u → Q (u 0) (u 1) (u 2) → jm_lt t u)
theorem jm_R.x01 {v n : Nat → Nat} {A : Nat} {Q : Nat → Nat → Nat → Prop} {g : Nat → Int32} {x : Int32} (h : jm_R v n A Q g x) : x = 0 ∨ x = 1 := h.elim (fun q => Or.inl q.1) (fun q => Or.inr q.1)
theorem jm_Rq {v n : Nat → Nat} {A : Nat} {Q Q' : Nat → Nat → Nat → Prop} {g : Nat → Int32} {x : Int32} (h : jm_R v n A Q g x) (e : ∀ u, jm_mx v n A u → Q' (u 0) (u 1) (u 2) → Q (u 0) (u 1) (u 2)) : jm_R v n A Q' g x := by
  rcases h with ⟨hx, h⟩ | ⟨hx, t, h1, h2, h3⟩
  · exact Or.inl ⟨hx, fun u hu q => h u hu (e u hu q)⟩
  · exact Or.inr ⟨hx, t, h1, h2, fun u hu q => h3 u hu (e u hu q)⟩
def jm_Q1 (Q : Nat → Nat → Nat → Prop) (a b c : Nat) : Nat → Nat → Nat → Prop := fun i j k => Q i j k ∨ (i = a ∧ j = b ∧ k = c)
theorem jm_Rn {v n : Nat → Nat} {A a b c : Nat} {Q : Nat → Nat → Nat → Prop} {g : Nat → Int32} {x : Int32} (h : jm_R v n A Q g x) (e : ∀ u, jm_mx v n A u → u 0 = a → u 1 = b → u 2 = c → False) : jm_R v n A (jm_Q1 Q a b c) g x :=
  jm_Rq h (fun u hu q => q.elim id (fun z => (e u hu z.1 z.2.1 z.2.2).elim))
theorem jm_Ru {v n : Nat → Nat} {A a b c : Nat} {Q : Nat → Nat → Nat → Prop} {g : Nat → Int32} {t : Nat → Nat} (h1 : jm_mx v n A t) (h2 : ∀ i, i < 4 → g i = nI (t i)) (h3 : ∀ u, jm_mx v n A u → Q (u 0) (u 1) (u 2) → jm_lt t u) (h4 : ∀ u, jm_mx v n A u → u 0 = a → u 1 = b → u 2 = c → jm_lt t u) : jm_R v n A (jm_Q1 Q a b c) g 1 :=
  Or.inr ⟨rfl, t, h1, h2, fun u hu q => q.elim (h3 u hu) (fun z => h4 u hu z.1 z.2.1 z.2.2)⟩
theorem jm_ltT {t u w : Nat → Nat} (h1 : jm_lt t u) (h2 : jm_lt u w) : jm_lt t w := by unfold jm_lt at *; omega
/-- the fourth of a mix is what is left -/
theorem jm_u3 {v n : Nat → Nat} {A a b c : Nat} {u : Nat → Nat} (hv : 1 ≤ v 3) (hu : jm_mx v n A u) (h0 : u 0 = a) (h1 : u 1 = b) (h2 : u 2 = c) : u 3 = (A - a * v 0 - b * v 1 - c * v 2) / v 3 ∧ (A - a * v 0 - b * v 1 - c * v 2) % v 3 = 0 ∧ u 3 ≤ n 3 := by
  obtain ⟨k1, k2⟩ := hu
  have e : A - a * v 0 - b * v 1 - c * v 2 = u 3 * v 3 := by subst h0; subst h1; subst h2; omega
  rw [e, Nat.mul_div_cancel _ (by omega), Nat.mul_mod_left]
  exact ⟨rfl, rfl, k1 3 (by omega)⟩
theorem jm_m4 {v n : Nat → Nat} {A a b c : Nat} (ha : a ≤ n 0) (hb : b ≤ n 1) (hc : c ≤ n 2) (hs : a * v 0 + b * v 1 + c * v 2 ≤ A) (hm : (A - a * v 0 - b * v 1 - c * v 2) % v 3 = 0) (hd : (A - a * v 0 - b * v 1 - c * v 2) / v 3 ≤ n 3) : jm_mx v n A (jm_4 a b c ((A - a * v 0 - b * v 1 - c * v 2) / v 3)) := by
  refine ⟨fun i hi => ?_, ?_⟩
  · rcases (show i = 0 ∨ i = 1 ∨ i = 2 ∨ i = 3 by omega) with rfl | rfl | rfl | rfl
    · exact ha
    · exact hb
    · exact hc
    · exact hd
  · show a * v 0 + b * v 1 + c * v 2 + (A - a * v 0 - b * v 1 - c * v 2) / v 3 * v 3 = A
    rw [Nat.div_mul_cancel (Nat.dvd_of_mod_eq_zero hm)]
    omega
set_option maxRecDepth 100000 in
theorem co_M_better {l : Launch} {s0 : State} {a0 : Array Value} {G : jb_Gt} {ad : Nat → Nat} (K : jo_G s0 a0 G ad) {S : ja_S} (v n9 : Nat → Nat) (A a b c9 : Nat) (x : Int32) (Q : Nat → Nat → Nat → Prop) (hA : A ≤ 5000) (hK : jm_KM S v n9) (ha : a ≤ n9 0) (hb : b ≤ n9 1) (hc : c9 ≤ n9 2) (hs : a * v 0 + b * v 1 + c9 * v 2 ≤ A) (hR : jm_R v n9 A Q (S 52) x) : jo_C l s0 G ad jy_M_better jc_M_better 8 (some .boolean) 2 [.ref (ad 7), .int (nI (A - a * v 0 - b * v 1 - c9 * v 2)), .int (nI a), .int (nI b), .int (nI c9), .int x] S (jo_i fun r S' => (r = 0 ∨ r = 1) ∧ ∃ g, S' = jb_sv S 52 g ∧ jm_R v n9 A (jm_Q1 Q a b c9) g (if r = 0 then x else 1)) := by
  refine jo_of K (by decide) rfl (Nat.le_of_ble_eq_true rfl) ?_
  intro p e s m args below meth c O hr hk
  obtain ⟨-, -, v01, v02, n01⟩ := hK 0 (by omega)
  obtain ⟨-, -, v11, v12, n11⟩ := hK 1 (by omega)
  obtain ⟨-, -, v21, v22, n21⟩ := hK 2 (by omega)
  obtain ⟨e50, e51, v31, v32, n31⟩ := hK 3 (by omega)
  obtain ⟨D, hD⟩ : ∃ D, (A - a * v 0 - b * v 1 - c9 * v 2) / v 3 = D := ⟨_, rfl⟩
  have ed : nI (A - a * v 0 - b * v 1 - c9 * v 2) / S 50 3 = nI D := by rw [e50, ← hD]; exact pk_div (by omega) (by omega) (by omega)
  have em : nI (A - a * v 0 - b * v 1 - c9 * v 2) - nI (A - a * v 0 - b * v 1 - c9 * v 2) / S 50 3 * S 50 3 = nI ((A - a * v 0 - b * v 1 - c9 * v 2) % v 3) := by rw [e50]; exact pk_rem (by omega) (by omega) (by omega)
  have hmo : (A - a * v 0 - b * v 1 - c9 * v 2) % v 3 < v 3 := Nat.mod_lt _ (by omega)
  have hdl : D ≤ A - a * v 0 - b * v 1 - c9 * v 2 := by rw [← hD]; exact Nat.div_le_self _ _
  have e52 : ∀ z0 z1 z2 z3, jb_u (jb_u (jb_u (jb_u S 52 0 z0) 52 1 z1) 52 2 z2) 52 3 z3 = jb_sv S 52 (upd (upd (upd (upd (S 52) 0 z0) 1 z1) 2 z2) 3 z3) := fun z0 z1 z2 z3 => by
    show jb_sv (jb_sv (jb_sv (jb_sv S 52 _) 52 _) 52 _) 52 _ = _
    rw [jb_svv, jb_svv, jb_svv]; rfl
  refine ja_iload_n O (q := 1) jd_M_better_0 rfl rfl rfl ?_
  refine ja_if_lt O (g := 32) (q := 4) jd_M_better_1 (by decide) rfl (fun h_1 => absurd h_1 (nI_pos (by omega))) (fun h_1 => ?_)
  refine ja_iload_n O (q := 5) jd_M_better_4 rfl rfl rfl ?_
  refine ja_aload_n O (q := 6) jd_M_better_5 rfl rfl rfl ?_
  refine jg_M_29 O (q := 9) jd_M_better_6 rfl ?_
  refine ja_iconst O (q := 10) (v := 3) jd_M_better_9 rfl (by decide) ?_
  refine jl_25 O (k := 3) rfl (by first | assumption | omega) (q := 11) jd_M_better_10 rfl ?_
  refine ja_irem O (q := 12) jd_M_better_11 rfl (by rw [show S 50 3 = nI (v 3) from e50]; exact nI_ne0 (by omega) (by omega)) ?_
  refine ja_if_ne O (g := 32) (q := 15) jd_M_better_12 (by decide) rfl (fun h_12 => ?_) (fun h_12 => ?_)
  · refine ja_iconst O (q := 33) (v := 0) jd_M_better_32 rfl (by decide) ?_
    exact jo_zr O hr hk (by first | assumption | exact Or.inl rfl | exact Or.inr rfl) ⟨Or.inl rfl, S 52, jb_svs.symm, by rw [if_pos rfl]; exact (jm_Rn hR (fun u hu e0 e1 e2 => by
          obtain ⟨w1, w2, w3⟩ := jm_u3 (n := n9) v31 hu e0 e1 e2; rw [hD] at w1
          first
          | exact absurd (show nI (A - a * v 0 - b * v 1 - c9 * v 2) - nI (A - a * v 0 - b * v 1 - c9 * v 2) / S 50 3 * S 50 3 = 0 by rw [em, w2]; rfl) h_12
          | exact absurd (show nI (A - a * v 0 - b * v 1 - c9 * v 2) / S 50 3 ≤ S 51 3 by rw [ed, e51]; exact nI_le (by omega) (by omega)) h_29))⟩ jd_M_better_33
  · refine ja_iload_n O (q := 16) jd_M_better_15 rfl rfl rfl ?_
    refine ja_aload_n O (q := 17) jd_M_better_16 rfl rfl rfl ?_
    refine jg_M_29 O (q := 20) jd_M_better_17 rfl ?_
    refine ja_iconst O (q := 21) (v := 3) jd_M_better_20 rfl (by decide) ?_
    refine jl_25 O (k := 3) rfl (by first | assumption | omega) (q := 22) jd_M_better_21 rfl ?_
    refine ja_idiv O (q := 23) jd_M_better_22 rfl (by rw [show S 50 3 = nI (v 3) from e50]; exact nI_ne0 (by omega) (by omega)) ?_
    refine ja_aload_n O (q := 24) jd_M_better_23 rfl rfl rfl ?_
    refine jg_M_32 O (q := 27) jd_M_better_24 rfl ?_
    refine ja_iconst O (q := 28) (v := 3) jd_M_better_27 rfl (by decide) ?_
    refine jl_26 O (k := 3) rfl (by first | assumption | omega) (q := 29) jd_M_better_28 rfl ?_
    refine ja_icmp_le O (g := 34) (q := 32) jd_M_better_29 (by decide) rfl (fun h_29 => ?_) (fun h_29 => ?_)
    · have hmod : (A - a * v 0 - b * v 1 - c9 * v 2) % v 3 = 0 := by
        have q : nI (A - a * v 0 - b * v 1 - c9 * v 2) - nI (A - a * v 0 - b * v 1 - c9 * v 2) / S 50 3 * S 50 3 = 0 := h_12
        rw [em] at q
        exact (nI_eq (b := 0) (by omega) (by omega)).mp q
      have hdiv : D ≤ n9 3 := by
        have q : nI (A - a * v 0 - b * v 1 - c9 * v 2) / S 50 3 ≤ S 51 3 := h_29
        rw [ed, e51] at q
        exact (nI_leI (by omega) (by omega)).mp q
      refine ja_aload_n O (q := 35) jd_M_better_34 rfl rfl rfl ?_
      refine ja_iload_n O (q := 36) jd_M_better_35 rfl rfl rfl ?_
      refine ja_iload_n O (q := 37) jd_M_better_36 rfl rfl rfl ?_
      refine ja_iload O (q := 39) jd_M_better_37 rfl rfl ?_
      refine ja_iload_n O (q := 40) jd_M_better_39 rfl rfl rfl ?_
      refine ja_aload_n O (q := 41) jd_M_better_40 rfl rfl rfl ?_
      refine jg_M_29 O (q := 44) jd_M_better_41 rfl ?_
      refine ja_iconst O (q := 45) (v := 3) jd_M_better_44 rfl (by decide) ?_
      refine jl_25 O (k := 3) rfl (by first | assumption | omega) (q := 46) jd_M_better_45 rfl ?_
      refine ja_idiv O (q := 47) jd_M_better_46 rfl (by rw [show S 50 3 = nI (v 3) from e50]; exact nI_ne0 (by omega) (by omega)) ?_
      refine jm_M_91 O (d := 1) ⟨by decide, by decide⟩ (Nat.le_of_ble_eq_true rfl) ⟨by decide, by decide⟩ (co_M_notesOf K _ _ _ _) (q := 50) jd_M_better_47 rfl (fun r S' h => ?_)
      obtain ⟨rfl, e9⟩ := h
      have e9 := e9.symm
      subst e9
      refine ja_istore O (q := 52) jd_M_better_50 rfl (by decide) ?_
      refine ja_less (L' := [(0, .ref (ad 7)), (1, .int (nI (A - a * v 0 - b * v 1 - c9 * v 2))), (2, .int (nI a)), (3, .int (nI b)), (4, .int (nI c9)), (5, .int x), (6, .int (nI (a + b + c9 + D)))]) ⟨rfl, rfl, rfl, rfl, rfl, rfl, by show some (Value.int (nI a + nI b + nI c9 + nI (A - a * v 0 - b * v 1 - c9 * v 2) / S 50 3)) = some (Value.int (nI (a + b + c9 + D))); rw [ed, nI_add, nI_add, nI_add], trivial⟩ ?_
      refine ja_aload_n O (q := 53) jd_M_better_52 rfl rfl rfl ?_
      refine ja_aload_n O (q := 54) jd_M_better_53 rfl rfl rfl ?_
      refine jg_M_35 O (q := 57) jd_M_better_54 rfl ?_
      refine ja_iconst O (q := 58) (v := 0) jd_M_better_57 rfl (by decide) ?_
      refine jl_27 O (k := 0) rfl (by first | assumption | omega) (q := 59) jd_M_better_58 rfl ?_
      refine ja_aload_n O (q := 60) jd_M_better_59 rfl rfl rfl ?_
      refine jg_M_35 O (q := 63) jd_M_better_60 rfl ?_
      refine ja_iconst O (q := 64) (v := 1) jd_M_better_63 rfl (by decide) ?_
      refine jl_27 O (k := 1) rfl (by first | assumption | omega) (q := 65) jd_M_better_64 rfl ?_
      refine ja_aload_n O (q := 66) jd_M_better_65 rfl rfl rfl ?_
      refine jg_M_35 O (q := 69) jd_M_better_66 rfl ?_
      refine ja_iconst O (q := 70) (v := 2) jd_M_better_69 rfl (by decide) ?_
      refine jl_27 O (k := 2) rfl (by first | assumption | omega) (q := 71) jd_M_better_70 rfl ?_
      refine ja_aload_n O (q := 72) jd_M_better_71 rfl rfl rfl ?_
      refine jg_M_35 O (q := 75) jd_M_better_72 rfl ?_
      refine ja_iconst O (q := 76) (v := 3) jd_M_better_75 rfl (by decide) ?_
      refine jl_27 O (k := 3) rfl (by first | assumption | omega) (q := 77) jd_M_better_76 rfl ?_
      refine jm_M_91 O (d := 1) ⟨by decide, by decide⟩ (Nat.le_of_ble_eq_true rfl) ⟨by decide, by decide⟩ (co_M_notesOf K _ _ _ _) (q := 80) jd_M_better_77 rfl (fun r S' h => ?_)
      obtain ⟨rfl, e9⟩ := h
      have e9 := e9.symm
      subst e9
      refine ja_istore O (q := 82) jd_M_better_80 rfl (by decide) ?_
      rcases hR with ⟨hx, hR0⟩ | ⟨hx, t, ht1, ht2, ht3⟩
      · subst hx
        refine ja_iload O (q := 84) jd_M_better_82 rfl rfl ?_
        refine ja_if_eq O (g := 96) (q := 87) jd_M_better_84 (by decide) rfl (fun h_84 => ?_) (fun h_84 => absurd h_84 (fun q => q rfl))
        refine ja_iload O (q := 98) jd_M_better_96 rfl rfl ?_
        refine ja_if_eq O (g := 167) (q := 101) jd_M_better_98 (by decide) rfl (fun h_98 => ?_) (fun h_98 => absurd h_98 (fun q => q rfl))
        refine ja_aload_n O (q := 168) jd_M_better_167 rfl rfl rfl ?_
        refine jg_M_35 O (q := 171) jd_M_better_168 rfl ?_
        refine ja_iconst O (q := 172) (v := 0) jd_M_better_171 rfl (by decide) ?_
        refine ja_iload_n O (q := 173) jd_M_better_172 rfl rfl rfl ?_
        refine js_27 O (k := 0) rfl (by first | assumption | omega) (q := 174) jd_M_better_173 rfl ?_
        refine ja_aload_n O (q := 175) jd_M_better_174 rfl rfl rfl ?_
        refine jg_M_35 O (q := 178) jd_M_better_175 rfl ?_
        refine ja_iconst O (q := 179) (v := 1) jd_M_better_178 rfl (by decide) ?_
        refine ja_iload_n O (q := 180) jd_M_better_179 rfl rfl rfl ?_
        refine js_27 O (k := 1) rfl (by first | assumption | omega) (q := 181) jd_M_better_180 rfl ?_
        refine ja_aload_n O (q := 182) jd_M_better_181 rfl rfl rfl ?_
        refine jg_M_35 O (q := 185) jd_M_better_182 rfl ?_
        refine ja_iconst O (q := 186) (v := 2) jd_M_better_185 rfl (by decide) ?_
        refine ja_iload O (q := 188) jd_M_better_186 rfl rfl ?_
        refine js_27 O (k := 2) rfl (by first | assumption | omega) (q := 189) jd_M_better_188 rfl ?_
        refine ja_aload_n O (q := 190) jd_M_better_189 rfl rfl rfl ?_
        refine jg_M_35 O (q := 193) jd_M_better_190 rfl ?_
        refine ja_iconst O (q := 194) (v := 3) jd_M_better_193 rfl (by decide) ?_
        refine ja_iload_n O (q := 195) jd_M_better_194 rfl rfl rfl ?_
        refine ja_aload_n O (q := 196) jd_M_better_195 rfl rfl rfl ?_
        refine jg_M_29 O (q := 199) jd_M_better_196 rfl ?_
        refine ja_iconst O (q := 200) (v := 3) jd_M_better_199 rfl (by decide) ?_
        refine jl_25 O (k := 3) rfl (by first | assumption | omega) (q := 201) jd_M_better_200 rfl ?_
        refine ja_idiv O (q := 202) jd_M_better_201 rfl (by show ¬ S 50 3 = 0; rw [e50]; exact nI_ne0 (by omega) (by omega)) ?_
        refine js_27 O (k := 3) rfl (by first | assumption | omega) (q := 203) jd_M_better_202 rfl ?_
        refine ja_iconst O (q := 204) (v := 1) jd_M_better_203 rfl (by decide) ?_
        exact jo_zr O hr hk (by first | assumption | exact Or.inl rfl | exact Or.inr rfl) ⟨Or.inr rfl, _, e52 _ _ _ _, by
            rw [if_neg (by decide)]
            exact jm_Ru (hD ▸ jm_m4 ha hb hc hs hmod (hD ▸ hdiv)) (fun i hi => by
              rcases (show i = 0 ∨ i = 1 ∨ i = 2 ∨ i = 3 by omega) with rfl | rfl | rfl | rfl
              · rfl
              · rfl
              · rfl
              · show nI (A - a * v 0 - b * v 1 - c9 * v 2) / S 50 3 = _; rw [ed]; rfl) (fun u hu q => absurd q (hR0 u hu)) (fun u hu e0 e1 e2 => by
              obtain ⟨w1, w2, w3⟩ := jm_u3 (n := n9) v31 hu e0 e1 e2; rw [hD] at w1
              show a + b + c9 + D < u 0 + u 1 + u 2 + u 3 ∨ (a + b + c9 + D = u 0 + u 1 + u 2 + u 3 ∧ (u 0 < a ∨ (u 0 = a ∧ (u 1 < b ∨ (u 1 = b ∧ u 2 ≤ c9)))))
              omega)⟩ jd_M_better_204
      · subst hx
        have b0 : S 52 0 = nI (t 0) := ht2 0 (by omega)
        have b1 : S 52 1 = nI (t 1) := ht2 1 (by omega)
        have b2 : S 52 2 = nI (t 2) := ht2 2 (by omega)
        have b3 : S 52 3 = nI (t 3) := ht2 3 (by omega)
        have c0 := ht1.1 0 (by omega)
        have c1 := ht1.1 1 (by omega)
        have c2 := ht1.1 2 (by omega)
        have c3 := ht1.1 3 (by omega)
        refine ja_less (L' := [(0, .ref (ad 7)), (1, .int (nI (A - a * v 0 - b * v 1 - c9 * v 2))), (2, .int (nI a)), (3, .int (nI b)), (4, .int (nI c9)), (5, .int 1), (6, .int (nI (a + b + c9 + D))), (7, .int (nI (t 0 + t 1 + t 2 + t 3)))]) ⟨rfl, rfl, rfl, rfl, rfl, rfl, rfl, by show some (Value.int (S 52 0 + S 52 1 + S 52 2 + S 52 3)) = some (Value.int (nI (t 0 + t 1 + t 2 + t 3))); rw [b0, b1, b2, b3, nI_add, nI_add, nI_add], trivial⟩ ?_
        refine ja_iload O (q := 84) jd_M_better_82 rfl rfl ?_
        refine ja_if_eq O (g := 96) (q := 87) jd_M_better_84 (by decide) rfl (fun h_84 => absurd h_84 (by decide)) (fun h_84 => ?_)
        refine ja_iload O (q := 89) jd_M_better_87 rfl rfl ?_
        refine ja_iload O (q := 91) jd_M_better_89 rfl rfl ?_
        refine ja_icmp_le O (g := 96) (q := 94) jd_M_better_91 (by decide) rfl (fun h_91 => ?_) (fun h_91 => ?_)
        · refine ja_iload O (q := 98) jd_M_better_96 rfl rfl ?_
          refine ja_if_eq O (g := 167) (q := 101) jd_M_better_98 (by decide) rfl (fun h_98 => absurd h_98 (by decide)) (fun h_98 => ?_)
          refine ja_iload O (q := 103) jd_M_better_101 rfl rfl ?_
          refine ja_iload O (q := 105) jd_M_better_103 rfl rfl ?_
          refine ja_icmp_ne O (g := 167) (q := 108) jd_M_better_105 (by decide) rfl (fun h_105 => ?_) (fun h_105 => ?_)
          · refine ja_aload_n O (q := 168) jd_M_better_167 rfl rfl rfl ?_
            refine jg_M_35 O (q := 171) jd_M_better_168 rfl ?_
            refine ja_iconst O (q := 172) (v := 0) jd_M_better_171 rfl (by decide) ?_
            refine ja_iload_n O (q := 173) jd_M_better_172 rfl rfl rfl ?_
            refine js_27 O (k := 0) rfl (by first | assumption | omega) (q := 174) jd_M_better_173 rfl ?_
            refine ja_aload_n O (q := 175) jd_M_better_174 rfl rfl rfl ?_
            refine jg_M_35 O (q := 178) jd_M_better_175 rfl ?_
            refine ja_iconst O (q := 179) (v := 1) jd_M_better_178 rfl (by decide) ?_
            refine ja_iload_n O (q := 180) jd_M_better_179 rfl rfl rfl ?_
            refine js_27 O (k := 1) rfl (by first | assumption | omega) (q := 181) jd_M_better_180 rfl ?_
            refine ja_aload_n O (q := 182) jd_M_better_181 rfl rfl rfl ?_
            refine jg_M_35 O (q := 185) jd_M_better_182 rfl ?_
            refine ja_iconst O (q := 186) (v := 2) jd_M_better_185 rfl (by decide) ?_
            refine ja_iload O (q := 188) jd_M_better_186 rfl rfl ?_
            refine js_27 O (k := 2) rfl (by first | assumption | omega) (q := 189) jd_M_better_188 rfl ?_
            refine ja_aload_n O (q := 190) jd_M_better_189 rfl rfl rfl ?_
            refine jg_M_35 O (q := 193) jd_M_better_190 rfl ?_
            refine ja_iconst O (q := 194) (v := 3) jd_M_better_193 rfl (by decide) ?_
            refine ja_iload_n O (q := 195) jd_M_better_194 rfl rfl rfl ?_
            refine ja_aload_n O (q := 196) jd_M_better_195 rfl rfl rfl ?_
            refine jg_M_29 O (q := 199) jd_M_better_196 rfl ?_
            refine ja_iconst O (q := 200) (v := 3) jd_M_better_199 rfl (by decide) ?_
            refine jl_25 O (k := 3) rfl (by first | assumption | omega) (q := 201) jd_M_better_200 rfl ?_
            refine ja_idiv O (q := 202) jd_M_better_201 rfl (by show ¬ S 50 3 = 0; rw [e50]; exact nI_ne0 (by omega) (by omega)) ?_
            refine js_27 O (k := 3) rfl (by first | assumption | omega) (q := 203) jd_M_better_202 rfl ?_
            refine ja_iconst O (q := 204) (v := 1) jd_M_better_203 rfl (by decide) ?_
            exact jo_zr O hr hk (by first | assumption | exact Or.inl rfl | exact Or.inr rfl) (by
                try (have k91 := (nI_leI (by omega) (by omega)).mp h_91)
                try (have k91 : t 0 + t 1 + t 2 + t 3 < a + b + c9 + D := Nat.lt_of_not_le (fun q => h_91 (nI_le q (by omega))))
                try (have k105 := (nI_eq (by omega) (by omega)).mp h_105)
                try (have k105 : ¬ a + b + c9 + D = t 0 + t 1 + t 2 + t 3 := fun q => h_105 (by rw [q]))
                try (have k115 : a = t 0 := (nI_eq (by omega) (by omega)).mp (b0 ▸ h_115))
                try (have k115 : ¬ a = t 0 := fun q => h_115 (show nI a = S 52 0 by rw [b0, q]))
                try (have k125 : t 0 ≤ a := (nI_leI (by omega) (by omega)).mp (b0 ▸ h_125))
                try (have k125 : ¬ t 0 ≤ a := fun q => h_125 (show S 52 0 ≤ nI a by rw [b0]; exact nI_le q (by omega)))
                try (have k138 : b = t 1 := (nI_eq (by omega) (by omega)).mp (b1 ▸ h_138))
                try (have k138 : ¬ b = t 1 := fun q => h_138 (show nI b = S 52 1 by rw [b1, q]))
                try (have k148 : t 1 ≤ b := (nI_leI (by omega) (by omega)).mp (b1 ▸ h_148))
                try (have k148 : ¬ t 1 ≤ b := fun q => h_148 (show S 52 1 ≤ nI b by rw [b1]; exact nI_le q (by omega)))
                try (have k162 : t 2 < c9 := (nI_ltI (by omega) (by omega)).mp (b2 ▸ h_162))
                try (have k162 : ¬ t 2 < c9 := fun q => h_162 (show S 52 2 < nI c9 by rw [b2]; exact nI_lt q (by omega)))
                have hup : jm_lt (jm_4 a b c9 D) t := by
                  show a + b + c9 + D < t 0 + t 1 + t 2 + t 3 ∨ (a + b + c9 + D = t 0 + t 1 + t 2 + t 3 ∧ (t 0 < a ∨ (t 0 = a ∧ (t 1 < b ∨ (t 1 = b ∧ t 2 ≤ c9)))))
                  omega
                exact ⟨Or.inr rfl, _, e52 _ _ _ _, by
                rw [if_neg (by decide)]
                exact jm_Ru (hD ▸ jm_m4 ha hb hc hs hmod (hD ▸ hdiv)) (fun i hi => by
                  rcases (show i = 0 ∨ i = 1 ∨ i = 2 ∨ i = 3 by omega) with rfl | rfl | rfl | rfl
                  · rfl
                  · rfl
                  · rfl
                  · show nI (A - a * v 0 - b * v 1 - c9 * v 2) / S 50 3 = _; rw [ed]; rfl) (fun u hu q => jm_ltT hup (ht3 u hu q)) (fun u hu e0 e1 e2 => by
                  obtain ⟨w1, w2, w3⟩ := jm_u3 (n := n9) v31 hu e0 e1 e2; rw [hD] at w1
                  show a + b + c9 + D < u 0 + u 1 + u 2 + u 3 ∨ (a + b + c9 + D = u 0 + u 1 + u 2 + u 3 ∧ (u 0 < a ∨ (u 0 = a ∧ (u 1 < b ∨ (u 1 = b ∧ u 2 ≤ c9)))))
                  omega)⟩) jd_M_better_204
          · refine ja_iload_n O (q := 109) jd_M_better_108 rfl rfl rfl ?_
            refine ja_aload_n O (q := 110) jd_M_better_109 rfl rfl rfl ?_
            refine jg_M_35 O (q := 113) jd_M_better_110 rfl ?_
            refine ja_iconst O (q := 114) (v := 0) jd_M_better_113 rfl (by decide) ?_
            refine jl_27 O (k := 0) rfl (by first | assumption | omega) (q := 115) jd_M_better_114 rfl ?_
            refine ja_icmp_eq O (g := 131) (q := 118) jd_M_better_115 (by decide) rfl (fun h_115 => ?_) (fun h_115 => ?_)
            · refine ja_iload_n O (q := 132) jd_M_better_131 rfl rfl rfl ?_
              refine ja_aload_n O (q := 133) jd_M_better_132 rfl rfl rfl ?_
              refine jg_M_35 O (q := 136) jd_M_better_133 rfl ?_
              refine ja_iconst O (q := 137) (v := 1) jd_M_better_136 rfl (by decide) ?_
              refine jl_27 O (k := 1) rfl (by first | assumption | omega) (q := 138) jd_M_better_137 rfl ?_
              refine ja_icmp_eq O (g := 154) (q := 141) jd_M_better_138 (by decide) rfl (fun h_138 => ?_) (fun h_138 => ?_)
              · refine ja_iload O (q := 156) jd_M_better_154 rfl rfl ?_
                refine ja_aload_n O (q := 157) jd_M_better_156 rfl rfl rfl ?_
                refine jg_M_35 O (q := 160) jd_M_better_157 rfl ?_
                refine ja_iconst O (q := 161) (v := 2) jd_M_better_160 rfl (by decide) ?_
                refine jl_27 O (k := 2) rfl (by first | assumption | omega) (q := 162) jd_M_better_161 rfl ?_
                refine ja_icmp_gt O (g := 167) (q := 165) jd_M_better_162 (by decide) rfl (fun h_162 => ?_) (fun h_162 => ?_)
                · refine ja_aload_n O (q := 168) jd_M_better_167 rfl rfl rfl ?_
                  refine jg_M_35 O (q := 171) jd_M_better_168 rfl ?_
                  refine ja_iconst O (q := 172) (v := 0) jd_M_better_171 rfl (by decide) ?_
                  refine ja_iload_n O (q := 173) jd_M_better_172 rfl rfl rfl ?_
                  refine js_27 O (k := 0) rfl (by first | assumption | omega) (q := 174) jd_M_better_173 rfl ?_
                  refine ja_aload_n O (q := 175) jd_M_better_174 rfl rfl rfl ?_
                  refine jg_M_35 O (q := 178) jd_M_better_175 rfl ?_
                  refine ja_iconst O (q := 179) (v := 1) jd_M_better_178 rfl (by decide) ?_
                  refine ja_iload_n O (q := 180) jd_M_better_179 rfl rfl rfl ?_
                  refine js_27 O (k := 1) rfl (by first | assumption | omega) (q := 181) jd_M_better_180 rfl ?_
                  refine ja_aload_n O (q := 182) jd_M_better_181 rfl rfl rfl ?_
                  refine jg_M_35 O (q := 185) jd_M_better_182 rfl ?_
                  refine ja_iconst O (q := 186) (v := 2) jd_M_better_185 rfl (by decide) ?_
                  refine ja_iload O (q := 188) jd_M_better_186 rfl rfl ?_
                  refine js_27 O (k := 2) rfl (by first | assumption | omega) (q := 189) jd_M_better_188 rfl ?_
                  refine ja_aload_n O (q := 190) jd_M_better_189 rfl rfl rfl ?_
                  refine jg_M_35 O (q := 193) jd_M_better_190 rfl ?_
                  refine ja_iconst O (q := 194) (v := 3) jd_M_better_193 rfl (by decide) ?_
                  refine ja_iload_n O (q := 195) jd_M_better_194 rfl rfl rfl ?_
                  refine ja_aload_n O (q := 196) jd_M_better_195 rfl rfl rfl ?_
                  refine jg_M_29 O (q := 199) jd_M_better_196 rfl ?_
                  refine ja_iconst O (q := 200) (v := 3) jd_M_better_199 rfl (by decide) ?_
                  refine jl_25 O (k := 3) rfl (by first | assumption | omega) (q := 201) jd_M_better_200 rfl ?_
                  refine ja_idiv O (q := 202) jd_M_better_201 rfl (by show ¬ S 50 3 = 0; rw [e50]; exact nI_ne0 (by omega) (by omega)) ?_
                  refine js_27 O (k := 3) rfl (by first | assumption | omega) (q := 203) jd_M_better_202 rfl ?_
                  refine ja_iconst O (q := 204) (v := 1) jd_M_better_203 rfl (by decide) ?_
                  exact jo_zr O hr hk (by first | assumption | exact Or.inl rfl | exact Or.inr rfl) (by
                      try (have k91 := (nI_leI (by omega) (by omega)).mp h_91)
                      try (have k91 : t 0 + t 1 + t 2 + t 3 < a + b + c9 + D := Nat.lt_of_not_le (fun q => h_91 (nI_le q (by omega))))
                      try (have k105 := (nI_eq (by omega) (by omega)).mp h_105)
                      try (have k105 : ¬ a + b + c9 + D = t 0 + t 1 + t 2 + t 3 := fun q => h_105 (by rw [q]))
                      try (have k115 : a = t 0 := (nI_eq (by omega) (by omega)).mp (b0 ▸ h_115))
                      try (have k115 : ¬ a = t 0 := fun q => h_115 (show nI a = S 52 0 by rw [b0, q]))
                      try (have k125 : t 0 ≤ a := (nI_leI (by omega) (by omega)).mp (b0 ▸ h_125))
                      try (have k125 : ¬ t 0 ≤ a := fun q => h_125 (show S 52 0 ≤ nI a by rw [b0]; exact nI_le q (by omega)))
                      try (have k138 : b = t 1 := (nI_eq (by omega) (by omega)).mp (b1 ▸ h_138))
                      try (have k138 : ¬ b = t 1 := fun q => h_138 (show nI b = S 52 1 by rw [b1, q]))
                      try (have k148 : t 1 ≤ b := (nI_leI (by omega) (by omega)).mp (b1 ▸ h_148))
                      try (have k148 : ¬ t 1 ≤ b := fun q => h_148 (show S 52 1 ≤ nI b by rw [b1]; exact nI_le q (by omega)))
                      try (have k162 : t 2 < c9 := (nI_ltI (by omega) (by omega)).mp (b2 ▸ h_162))
                      try (have k162 : ¬ t 2 < c9 := fun q => h_162 (show S 52 2 < nI c9 by rw [b2]; exact nI_lt q (by omega)))
                      have hup : jm_lt (jm_4 a b c9 D) t := by
                        show a + b + c9 + D < t 0 + t 1 + t 2 + t 3 ∨ (a + b + c9 + D = t 0 + t 1 + t 2 + t 3 ∧ (t 0 < a ∨ (t 0 = a ∧ (t 1 < b ∨ (t 1 = b ∧ t 2 ≤ c9)))))
                        omega
                      exact ⟨Or.inr rfl, _, e52 _ _ _ _, by
                      rw [if_neg (by decide)]
                      exact jm_Ru (hD ▸ jm_m4 ha hb hc hs hmod (hD ▸ hdiv)) (fun i hi => by
                        rcases (show i = 0 ∨ i = 1 ∨ i = 2 ∨ i = 3 by omega) with rfl | rfl | rfl | rfl
                        · rfl
                        · rfl
                        · rfl
                        · show nI (A - a * v 0 - b * v 1 - c9 * v 2) / S 50 3 = _; rw [ed]; rfl) (fun u hu q => jm_ltT hup (ht3 u hu q)) (fun u hu e0 e1 e2 => by
                        obtain ⟨w1, w2, w3⟩ := jm_u3 (n := n9) v31 hu e0 e1 e2; rw [hD] at w1
                        show a + b + c9 + D < u 0 + u 1 + u 2 + u 3 ∨ (a + b + c9 + D = u 0 + u 1 + u 2 + u 3 ∧ (u 0 < a ∨ (u 0 = a ∧ (u 1 < b ∨ (u 1 = b ∧ u 2 ≤ c9)))))
                        omega)⟩) jd_M_better_204
                · refine ja_iconst O (q := 166) (v := 0) jd_M_better_165 rfl (by decide) ?_
                  exact jo_zr O hr hk (by first | assumption | exact Or.inl rfl | exact Or.inr rfl) (by
                      try (have k91 := (nI_leI (by omega) (by omega)).mp h_91)
                      try (have k91 : t 0 + t 1 + t 2 + t 3 < a + b + c9 + D := Nat.lt_of_not_le (fun q => h_91 (nI_le q (by omega))))
                      try (have k105 := (nI_eq (by omega) (by omega)).mp h_105)
                      try (have k105 : ¬ a + b + c9 + D = t 0 + t 1 + t 2 + t 3 := fun q => h_105 (by rw [q]))
                      try (have k115 : a = t 0 := (nI_eq (by omega) (by omega)).mp (b0 ▸ h_115))
                      try (have k115 : ¬ a = t 0 := fun q => h_115 (show nI a = S 52 0 by rw [b0, q]))
                      try (have k125 : t 0 ≤ a := (nI_leI (by omega) (by omega)).mp (b0 ▸ h_125))
                      try (have k125 : ¬ t 0 ≤ a := fun q => h_125 (show S 52 0 ≤ nI a by rw [b0]; exact nI_le q (by omega)))
                      try (have k138 : b = t 1 := (nI_eq (by omega) (by omega)).mp (b1 ▸ h_138))
                      try (have k138 : ¬ b = t 1 := fun q => h_138 (show nI b = S 52 1 by rw [b1, q]))
                      try (have k148 : t 1 ≤ b := (nI_leI (by omega) (by omega)).mp (b1 ▸ h_148))
                      try (have k148 : ¬ t 1 ≤ b := fun q => h_148 (show S 52 1 ≤ nI b by rw [b1]; exact nI_le q (by omega)))
                      try (have k162 : t 2 < c9 := (nI_ltI (by omega) (by omega)).mp (b2 ▸ h_162))
                      try (have k162 : ¬ t 2 < c9 := fun q => h_162 (show S 52 2 < nI c9 by rw [b2]; exact nI_lt q (by omega)))
                      exact ⟨Or.inl rfl, S 52, jb_svs.symm, by rw [if_pos rfl]; exact (jm_Ru (t := t) ht1 ht2 ht3 (fun u hu e0 e1 e2 => by
                        obtain ⟨w1, w2, w3⟩ := jm_u3 (n := n9) v31 hu e0 e1 e2; rw [hD] at w1
                        unfold jm_lt
                        omega))⟩) jd_M_better_166
              · refine ja_iload_n O (q := 142) jd_M_better_141 rfl rfl rfl ?_
                refine ja_aload_n O (q := 143) jd_M_better_142 rfl rfl rfl ?_
                refine jg_M_35 O (q := 146) jd_M_better_143 rfl ?_
                refine ja_iconst O (q := 147) (v := 1) jd_M_better_146 rfl (by decide) ?_
                refine jl_27 O (k := 1) rfl (by first | assumption | omega) (q := 148) jd_M_better_147 rfl ?_
                refine ja_icmp_ge O (g := 167) (q := 151) jd_M_better_148 (by decide) rfl (fun h_148 => ?_) (fun h_148 => ?_)
                · refine ja_aload_n O (q := 168) jd_M_better_167 rfl rfl rfl ?_
                  refine jg_M_35 O (q := 171) jd_M_better_168 rfl ?_
                  refine ja_iconst O (q := 172) (v := 0) jd_M_better_171 rfl (by decide) ?_
                  refine ja_iload_n O (q := 173) jd_M_better_172 rfl rfl rfl ?_
                  refine js_27 O (k := 0) rfl (by first | assumption | omega) (q := 174) jd_M_better_173 rfl ?_
                  refine ja_aload_n O (q := 175) jd_M_better_174 rfl rfl rfl ?_
                  refine jg_M_35 O (q := 178) jd_M_better_175 rfl ?_
                  refine ja_iconst O (q := 179) (v := 1) jd_M_better_178 rfl (by decide) ?_
                  refine ja_iload_n O (q := 180) jd_M_better_179 rfl rfl rfl ?_
                  refine js_27 O (k := 1) rfl (by first | assumption | omega) (q := 181) jd_M_better_180 rfl ?_
                  refine ja_aload_n O (q := 182) jd_M_better_181 rfl rfl rfl ?_
                  refine jg_M_35 O (q := 185) jd_M_better_182 rfl ?_
                  refine ja_iconst O (q := 186) (v := 2) jd_M_better_185 rfl (by decide) ?_
                  refine ja_iload O (q := 188) jd_M_better_186 rfl rfl ?_
                  refine js_27 O (k := 2) rfl (by first | assumption | omega) (q := 189) jd_M_better_188 rfl ?_
                  refine ja_aload_n O (q := 190) jd_M_better_189 rfl rfl rfl ?_
                  refine jg_M_35 O (q := 193) jd_M_better_190 rfl ?_
                  refine ja_iconst O (q := 194) (v := 3) jd_M_better_193 rfl (by decide) ?_
                  refine ja_iload_n O (q := 195) jd_M_better_194 rfl rfl rfl ?_
                  refine ja_aload_n O (q := 196) jd_M_better_195 rfl rfl rfl ?_
                  refine jg_M_29 O (q := 199) jd_M_better_196 rfl ?_
                  refine ja_iconst O (q := 200) (v := 3) jd_M_better_199 rfl (by decide) ?_
                  refine jl_25 O (k := 3) rfl (by first | assumption | omega) (q := 201) jd_M_better_200 rfl ?_
                  refine ja_idiv O (q := 202) jd_M_better_201 rfl (by show ¬ S 50 3 = 0; rw [e50]; exact nI_ne0 (by omega) (by omega)) ?_
                  refine js_27 O (k := 3) rfl (by first | assumption | omega) (q := 203) jd_M_better_202 rfl ?_
                  refine ja_iconst O (q := 204) (v := 1) jd_M_better_203 rfl (by decide) ?_
                  exact jo_zr O hr hk (by first | assumption | exact Or.inl rfl | exact Or.inr rfl) (by
                      try (have k91 := (nI_leI (by omega) (by omega)).mp h_91)
                      try (have k91 : t 0 + t 1 + t 2 + t 3 < a + b + c9 + D := Nat.lt_of_not_le (fun q => h_91 (nI_le q (by omega))))
                      try (have k105 := (nI_eq (by omega) (by omega)).mp h_105)
                      try (have k105 : ¬ a + b + c9 + D = t 0 + t 1 + t 2 + t 3 := fun q => h_105 (by rw [q]))
                      try (have k115 : a = t 0 := (nI_eq (by omega) (by omega)).mp (b0 ▸ h_115))
                      try (have k115 : ¬ a = t 0 := fun q => h_115 (show nI a = S 52 0 by rw [b0, q]))
                      try (have k125 : t 0 ≤ a := (nI_leI (by omega) (by omega)).mp (b0 ▸ h_125))
                      try (have k125 : ¬ t 0 ≤ a := fun q => h_125 (show S 52 0 ≤ nI a by rw [b0]; exact nI_le q (by omega)))
                      try (have k138 : b = t 1 := (nI_eq (by omega) (by omega)).mp (b1 ▸ h_138))
                      try (have k138 : ¬ b = t 1 := fun q => h_138 (show nI b = S 52 1 by rw [b1, q]))
                      try (have k148 : t 1 ≤ b := (nI_leI (by omega) (by omega)).mp (b1 ▸ h_148))
                      try (have k148 : ¬ t 1 ≤ b := fun q => h_148 (show S 52 1 ≤ nI b by rw [b1]; exact nI_le q (by omega)))
                      try (have k162 : t 2 < c9 := (nI_ltI (by omega) (by omega)).mp (b2 ▸ h_162))
                      try (have k162 : ¬ t 2 < c9 := fun q => h_162 (show S 52 2 < nI c9 by rw [b2]; exact nI_lt q (by omega)))
                      have hup : jm_lt (jm_4 a b c9 D) t := by
                        show a + b + c9 + D < t 0 + t 1 + t 2 + t 3 ∨ (a + b + c9 + D = t 0 + t 1 + t 2 + t 3 ∧ (t 0 < a ∨ (t 0 = a ∧ (t 1 < b ∨ (t 1 = b ∧ t 2 ≤ c9)))))
                        omega
                      exact ⟨Or.inr rfl, _, e52 _ _ _ _, by
                      rw [if_neg (by decide)]
                      exact jm_Ru (hD ▸ jm_m4 ha hb hc hs hmod (hD ▸ hdiv)) (fun i hi => by
                        rcases (show i = 0 ∨ i = 1 ∨ i = 2 ∨ i = 3 by omega) with rfl | rfl | rfl | rfl
                        · rfl
                        · rfl
                        · rfl
                        · show nI (A - a * v 0 - b * v 1 - c9 * v 2) / S 50 3 = _; rw [ed]; rfl) (fun u hu q => jm_ltT hup (ht3 u hu q)) (fun u hu e0 e1 e2 => by
                        obtain ⟨w1, w2, w3⟩ := jm_u3 (n := n9) v31 hu e0 e1 e2; rw [hD] at w1
                        show a + b + c9 + D < u 0 + u 1 + u 2 + u 3 ∨ (a + b + c9 + D = u 0 + u 1 + u 2 + u 3 ∧ (u 0 < a ∨ (u 0 = a ∧ (u 1 < b ∨ (u 1 = b ∧ u 2 ≤ c9)))))
                        omega)⟩) jd_M_better_204
                · refine ja_goto O (g := 165) jd_M_better_151 (by decide) ?_
                  refine ja_iconst O (q := 166) (v := 0) jd_M_better_165 rfl (by decide) ?_
                  exact jo_zr O hr hk (by first | assumption | exact Or.inl rfl | exact Or.inr rfl) (by
                      try (have k91 := (nI_leI (by omega) (by omega)).mp h_91)
                      try (have k91 : t 0 + t 1 + t 2 + t 3 < a + b + c9 + D := Nat.lt_of_not_le (fun q => h_91 (nI_le q (by omega))))
                      try (have k105 := (nI_eq (by omega) (by omega)).mp h_105)
                      try (have k105 : ¬ a + b + c9 + D = t 0 + t 1 + t 2 + t 3 := fun q => h_105 (by rw [q]))
                      try (have k115 : a = t 0 := (nI_eq (by omega) (by omega)).mp (b0 ▸ h_115))
                      try (have k115 : ¬ a = t 0 := fun q => h_115 (show nI a = S 52 0 by rw [b0, q]))
                      try (have k125 : t 0 ≤ a := (nI_leI (by omega) (by omega)).mp (b0 ▸ h_125))
                      try (have k125 : ¬ t 0 ≤ a := fun q => h_125 (show S 52 0 ≤ nI a by rw [b0]; exact nI_le q (by omega)))
                      try (have k138 : b = t 1 := (nI_eq (by omega) (by omega)).mp (b1 ▸ h_138))
                      try (have k138 : ¬ b = t 1 := fun q => h_138 (show nI b = S 52 1 by rw [b1, q]))
                      try (have k148 : t 1 ≤ b := (nI_leI (by omega) (by omega)).mp (b1 ▸ h_148))
                      try (have k148 : ¬ t 1 ≤ b := fun q => h_148 (show S 52 1 ≤ nI b by rw [b1]; exact nI_le q (by omega)))
                      try (have k162 : t 2 < c9 := (nI_ltI (by omega) (by omega)).mp (b2 ▸ h_162))
                      try (have k162 : ¬ t 2 < c9 := fun q => h_162 (show S 52 2 < nI c9 by rw [b2]; exact nI_lt q (by omega)))
                      exact ⟨Or.inl rfl, S 52, jb_svs.symm, by rw [if_pos rfl]; exact (jm_Ru (t := t) ht1 ht2 ht3 (fun u hu e0 e1 e2 => by
                        obtain ⟨w1, w2, w3⟩ := jm_u3 (n := n9) v31 hu e0 e1 e2; rw [hD] at w1
                        unfold jm_lt
                        omega))⟩) jd_M_better_166
            · refine ja_iload_n O (q := 119) jd_M_better_118 rfl rfl rfl ?_
              refine ja_aload_n O (q := 120) jd_M_better_119 rfl rfl rfl ?_
              refine jg_M_35 O (q := 123) jd_M_better_120 rfl ?_
              refine ja_iconst O (q := 124) (v := 0) jd_M_better_123 rfl (by decide) ?_
              refine jl_27 O (k := 0) rfl (by first | assumption | omega) (q := 125) jd_M_better_124 rfl ?_
              refine ja_icmp_ge O (g := 167) (q := 128) jd_M_better_125 (by decide) rfl (fun h_125 => ?_) (fun h_125 => ?_)
              · refine ja_aload_n O (q := 168) jd_M_better_167 rfl rfl rfl ?_
                refine jg_M_35 O (q := 171) jd_M_better_168 rfl ?_
                refine ja_iconst O (q := 172) (v := 0) jd_M_better_171 rfl (by decide) ?_
                refine ja_iload_n O (q := 173) jd_M_better_172 rfl rfl rfl ?_
                refine js_27 O (k := 0) rfl (by first | assumption | omega) (q := 174) jd_M_better_173 rfl ?_
                refine ja_aload_n O (q := 175) jd_M_better_174 rfl rfl rfl ?_
                refine jg_M_35 O (q := 178) jd_M_better_175 rfl ?_
                refine ja_iconst O (q := 179) (v := 1) jd_M_better_178 rfl (by decide) ?_
                refine ja_iload_n O (q := 180) jd_M_better_179 rfl rfl rfl ?_
                refine js_27 O (k := 1) rfl (by first | assumption | omega) (q := 181) jd_M_better_180 rfl ?_
                refine ja_aload_n O (q := 182) jd_M_better_181 rfl rfl rfl ?_
                refine jg_M_35 O (q := 185) jd_M_better_182 rfl ?_
                refine ja_iconst O (q := 186) (v := 2) jd_M_better_185 rfl (by decide) ?_
                refine ja_iload O (q := 188) jd_M_better_186 rfl rfl ?_
                refine js_27 O (k := 2) rfl (by first | assumption | omega) (q := 189) jd_M_better_188 rfl ?_
                refine ja_aload_n O (q := 190) jd_M_better_189 rfl rfl rfl ?_
                refine jg_M_35 O (q := 193) jd_M_better_190 rfl ?_
                refine ja_iconst O (q := 194) (v := 3) jd_M_better_193 rfl (by decide) ?_
                refine ja_iload_n O (q := 195) jd_M_better_194 rfl rfl rfl ?_
                refine ja_aload_n O (q := 196) jd_M_better_195 rfl rfl rfl ?_
                refine jg_M_29 O (q := 199) jd_M_better_196 rfl ?_
                refine ja_iconst O (q := 200) (v := 3) jd_M_better_199 rfl (by decide) ?_
                refine jl_25 O (k := 3) rfl (by first | assumption | omega) (q := 201) jd_M_better_200 rfl ?_
                refine ja_idiv O (q := 202) jd_M_better_201 rfl (by show ¬ S 50 3 = 0; rw [e50]; exact nI_ne0 (by omega) (by omega)) ?_
                refine js_27 O (k := 3) rfl (by first | assumption | omega) (q := 203) jd_M_better_202 rfl ?_
                refine ja_iconst O (q := 204) (v := 1) jd_M_better_203 rfl (by decide) ?_
                exact jo_zr O hr hk (by first | assumption | exact Or.inl rfl | exact Or.inr rfl) (by
                    try (have k91 := (nI_leI (by omega) (by omega)).mp h_91)
                    try (have k91 : t 0 + t 1 + t 2 + t 3 < a + b + c9 + D := Nat.lt_of_not_le (fun q => h_91 (nI_le q (by omega))))
                    try (have k105 := (nI_eq (by omega) (by omega)).mp h_105)
                    try (have k105 : ¬ a + b + c9 + D = t 0 + t 1 + t 2 + t 3 := fun q => h_105 (by rw [q]))
                    try (have k115 : a = t 0 := (nI_eq (by omega) (by omega)).mp (b0 ▸ h_115))
                    try (have k115 : ¬ a = t 0 := fun q => h_115 (show nI a = S 52 0 by rw [b0, q]))
                    try (have k125 : t 0 ≤ a := (nI_leI (by omega) (by omega)).mp (b0 ▸ h_125))
                    try (have k125 : ¬ t 0 ≤ a := fun q => h_125 (show S 52 0 ≤ nI a by rw [b0]; exact nI_le q (by omega)))
                    try (have k138 : b = t 1 := (nI_eq (by omega) (by omega)).mp (b1 ▸ h_138))
                    try (have k138 : ¬ b = t 1 := fun q => h_138 (show nI b = S 52 1 by rw [b1, q]))
                    try (have k148 : t 1 ≤ b := (nI_leI (by omega) (by omega)).mp (b1 ▸ h_148))
                    try (have k148 : ¬ t 1 ≤ b := fun q => h_148 (show S 52 1 ≤ nI b by rw [b1]; exact nI_le q (by omega)))
                    try (have k162 : t 2 < c9 := (nI_ltI (by omega) (by omega)).mp (b2 ▸ h_162))
                    try (have k162 : ¬ t 2 < c9 := fun q => h_162 (show S 52 2 < nI c9 by rw [b2]; exact nI_lt q (by omega)))
                    have hup : jm_lt (jm_4 a b c9 D) t := by
                      show a + b + c9 + D < t 0 + t 1 + t 2 + t 3 ∨ (a + b + c9 + D = t 0 + t 1 + t 2 + t 3 ∧ (t 0 < a ∨ (t 0 = a ∧ (t 1 < b ∨ (t 1 = b ∧ t 2 ≤ c9)))))
                      omega
                    exact ⟨Or.inr rfl, _, e52 _ _ _ _, by
                    rw [if_neg (by decide)]
                    exact jm_Ru (hD ▸ jm_m4 ha hb hc hs hmod (hD ▸ hdiv)) (fun i hi => by
                      rcases (show i = 0 ∨ i = 1 ∨ i = 2 ∨ i = 3 by omega) with rfl | rfl | rfl | rfl
                      · rfl
                      · rfl
                      · rfl
                      · show nI (A - a * v 0 - b * v 1 - c9 * v 2) / S 50 3 = _; rw [ed]; rfl) (fun u hu q => jm_ltT hup (ht3 u hu q)) (fun u hu e0 e1 e2 => by
                      obtain ⟨w1, w2, w3⟩ := jm_u3 (n := n9) v31 hu e0 e1 e2; rw [hD] at w1
                      show a + b + c9 + D < u 0 + u 1 + u 2 + u 3 ∨ (a + b + c9 + D = u 0 + u 1 + u 2 + u 3 ∧ (u 0 < a ∨ (u 0 = a ∧ (u 1 < b ∨ (u 1 = b ∧ u 2 ≤ c9)))))
                      omega)⟩) jd_M_better_204
              · refine ja_goto O (g := 165) jd_M_better_128 (by decide) ?_
                refine ja_iconst O (q := 166) (v := 0) jd_M_better_165 rfl (by decide) ?_
                exact jo_zr O hr hk (by first | assumption | exact Or.inl rfl | exact Or.inr rfl) (by
                    try (have k91 := (nI_leI (by omega) (by omega)).mp h_91)
                    try (have k91 : t 0 + t 1 + t 2 + t 3 < a + b + c9 + D := Nat.lt_of_not_le (fun q => h_91 (nI_le q (by omega))))
                    try (have k105 := (nI_eq (by omega) (by omega)).mp h_105)
                    try (have k105 : ¬ a + b + c9 + D = t 0 + t 1 + t 2 + t 3 := fun q => h_105 (by rw [q]))
                    try (have k115 : a = t 0 := (nI_eq (by omega) (by omega)).mp (b0 ▸ h_115))
                    try (have k115 : ¬ a = t 0 := fun q => h_115 (show nI a = S 52 0 by rw [b0, q]))
                    try (have k125 : t 0 ≤ a := (nI_leI (by omega) (by omega)).mp (b0 ▸ h_125))
                    try (have k125 : ¬ t 0 ≤ a := fun q => h_125 (show S 52 0 ≤ nI a by rw [b0]; exact nI_le q (by omega)))
                    try (have k138 : b = t 1 := (nI_eq (by omega) (by omega)).mp (b1 ▸ h_138))
                    try (have k138 : ¬ b = t 1 := fun q => h_138 (show nI b = S 52 1 by rw [b1, q]))
                    try (have k148 : t 1 ≤ b := (nI_leI (by omega) (by omega)).mp (b1 ▸ h_148))
                    try (have k148 : ¬ t 1 ≤ b := fun q => h_148 (show S 52 1 ≤ nI b by rw [b1]; exact nI_le q (by omega)))
                    try (have k162 : t 2 < c9 := (nI_ltI (by omega) (by omega)).mp (b2 ▸ h_162))
                    try (have k162 : ¬ t 2 < c9 := fun q => h_162 (show S 52 2 < nI c9 by rw [b2]; exact nI_lt q (by omega)))
                    exact ⟨Or.inl rfl, S 52, jb_svs.symm, by rw [if_pos rfl]; exact (jm_Ru (t := t) ht1 ht2 ht3 (fun u hu e0 e1 e2 => by
                      obtain ⟨w1, w2, w3⟩ := jm_u3 (n := n9) v31 hu e0 e1 e2; rw [hD] at w1
                      unfold jm_lt
                      omega))⟩) jd_M_better_166
        · refine ja_iconst O (q := 95) (v := 0) jd_M_better_94 rfl (by decide) ?_
          exact jo_zr O hr hk (by first | assumption | exact Or.inl rfl | exact Or.inr rfl) (by
              try (have k91 := (nI_leI (by omega) (by omega)).mp h_91)
              try (have k91 : t 0 + t 1 + t 2 + t 3 < a + b + c9 + D := Nat.lt_of_not_le (fun q => h_91 (nI_le q (by omega))))
              try (have k105 := (nI_eq (by omega) (by omega)).mp h_105)
              try (have k105 : ¬ a + b + c9 + D = t 0 + t 1 + t 2 + t 3 := fun q => h_105 (by rw [q]))
              try (have k115 : a = t 0 := (nI_eq (by omega) (by omega)).mp (b0 ▸ h_115))
              try (have k115 : ¬ a = t 0 := fun q => h_115 (show nI a = S 52 0 by rw [b0, q]))
              try (have k125 : t 0 ≤ a := (nI_leI (by omega) (by omega)).mp (b0 ▸ h_125))
              try (have k125 : ¬ t 0 ≤ a := fun q => h_125 (show S 52 0 ≤ nI a by rw [b0]; exact nI_le q (by omega)))
              try (have k138 : b = t 1 := (nI_eq (by omega) (by omega)).mp (b1 ▸ h_138))
              try (have k138 : ¬ b = t 1 := fun q => h_138 (show nI b = S 52 1 by rw [b1, q]))
              try (have k148 : t 1 ≤ b := (nI_leI (by omega) (by omega)).mp (b1 ▸ h_148))
              try (have k148 : ¬ t 1 ≤ b := fun q => h_148 (show S 52 1 ≤ nI b by rw [b1]; exact nI_le q (by omega)))
              try (have k162 : t 2 < c9 := (nI_ltI (by omega) (by omega)).mp (b2 ▸ h_162))
              try (have k162 : ¬ t 2 < c9 := fun q => h_162 (show S 52 2 < nI c9 by rw [b2]; exact nI_lt q (by omega)))
              exact ⟨Or.inl rfl, S 52, jb_svs.symm, by rw [if_pos rfl]; exact (jm_Ru (t := t) ht1 ht2 ht3 (fun u hu e0 e1 e2 => by
                obtain ⟨w1, w2, w3⟩ := jm_u3 (n := n9) v31 hu e0 e1 e2; rw [hD] at w1
                unfold jm_lt
                omega))⟩) jd_M_better_95
    · refine ja_iconst O (q := 33) (v := 0) jd_M_better_32 rfl (by decide) ?_
      exact jo_zr O hr hk (by first | assumption | exact Or.inl rfl | exact Or.inr rfl) ⟨Or.inl rfl, S 52, jb_svs.symm, by rw [if_pos rfl]; exact (jm_Rn hR (fun u hu e0 e1 e2 => by
            obtain ⟨w1, w2, w3⟩ := jm_u3 (n := n9) v31 hu e0 e1 e2; rw [hD] at w1
            first
            | exact absurd (show nI (A - a * v 0 - b * v 1 - c9 * v 2) - nI (A - a * v 0 - b * v 1 - c9 * v 2) / S 50 3 * S 50 3 = 0 by rw [em, w2]; rfl) h_12
            | exact absurd (show nI (A - a * v 0 - b * v 1 - c9 * v 2) / S 50 3 ≤ S 51 3 by rw [ed, e51]; exact nI_le (by omega) (by omega)) h_29))⟩ jd_M_better_33
