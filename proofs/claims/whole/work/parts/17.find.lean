/-! THE MIX, by program (wip/whole/gen/p17.py): what it is, that the search over the table finds it; Mix.find, findMix -/
def jm_mx (v n : Nat → Nat) (A : Nat) (t : Nat → Nat) : Prop := (∀ i, i < 4 → t i ≤ n i) ∧ t 0 * v 0 + t 1 * v 1 + t 2 * v 2 + t 3 * v 3 = A
def jm_lt (t u : Nat → Nat) : Prop := t 0 + t 1 + t 2 + t 3 < u 0 + u 1 + u 2 + u 3 ∨ (t 0 + t 1 + t 2 + t 3 = u 0 + u 1 + u 2 + u 3 ∧ (u 0 < t 0 ∨ (u 0 = t 0 ∧ (u 1 < t 1 ∨ (u 1 = t 1 ∧ u 2 ≤ t 2)))))
/-- THE mix: of the fewest notes, of several the one with the most of 0, then of 1, then of 2 -/
def jm_be (v n : Nat → Nat) (A : Nat) (t : Nat → Nat) : Prop := jm_mx v n A t ∧ ∀ u, jm_mx v n A u → jm_lt t u
theorem jm_one {v n : Nat → Nat} {A : Nat} {t u : Nat → Nat} (h1 : jm_be v n A t) (h2 : jm_be v n A u) : ∀ i, i < 4 → t i = u i := by
  have a := h1.2 u h2.1
  have b := h2.2 t h1.1
  unfold jm_lt at a b
  intro i hi
  rcases (show i = 0 ∨ i = 1 ∨ i = 2 ∨ i = 3 by omega) with rfl | rfl | rfl | rfl <;> omega
/-- the search: over the pairs Q of the first two cassettes; F the fewest so far, g the notes that were kept -/
def jm_B (T : Nat → Nat) (A v w : Nat) (Q : Nat → Nat → Prop) (g : Nat → Int32) (F : Nat) : Prop :=
  (F = 1000000 ∧ ∀ a b, Q a b → T (A - a * v - b * w) = 1000000) ∨
  (F < 1000000 ∧ ∃ a b, Q a b ∧ T (A - a * v - b * w) ≠ 1000000 ∧ F = a + b + T (A - a * v - b * w) / 51 ∧ g 0 = nI a ∧ g 1 = nI b ∧ g 2 = nI (50 - T (A - a * v - b * w) % 51) ∧ g 3 = nI (T (A - a * v - b * w) / 51 - (50 - T (A - a * v - b * w) % 51)) ∧
    ∀ a' b', Q a' b' → T (A - a' * v - b' * w) ≠ 1000000 → F < a' + b' + T (A - a' * v - b' * w) / 51 ∨ (F = a' + b' + T (A - a' * v - b' * w) / 51 ∧ (a' < a ∨ (a' = a ∧ b' ≤ b))))
theorem jm_Bq {T : Nat → Nat} {A v w F : Nat} {Q Q' : Nat → Nat → Prop} {g : Nat → Int32} (e : ∀ i j, Q i j ↔ Q' i j) (h : jm_B T A v w Q g F) : jm_B T A v w Q' g F := by
  have : Q = Q' := by funext i j; exact propext (e i j)
  rw [← this]; exact h
theorem jm_B0 {T : Nat → Nat} {A v w : Nat} {g : Nat → Int32} : jm_B T A v w (fun _ _ => False) g 1000000 := Or.inl ⟨rfl, fun _ _ q => q.elim⟩
theorem jm_Bs {T : Nat → Nat} {A v w F a b : Nat} {Q : Nat → Nat → Prop} {g : Nat → Int32} (h : jm_B T A v w Q g F) (hz : T (A - a * v - b * w) = 1000000) : jm_B T A v w (fun i j => Q i j ∨ (i = a ∧ j = b)) g F := by
  rcases h with ⟨e, h⟩ | ⟨e, a0, b0, h1, h2, h3, h4, h5, h6, h7, h8⟩
  · refine Or.inl ⟨e, fun i j q => ?_⟩
    rcases q with q | ⟨rfl, rfl⟩
    · exact h i j q
    · exact hz
  · refine Or.inr ⟨e, a0, b0, Or.inl h1, h2, h3, h4, h5, h6, h7, fun i j q hn => ?_⟩
    rcases q with q | ⟨rfl, rfl⟩
    · exact h8 i j q hn
    · exact absurd hz hn
theorem jm_Bm {T : Nat → Nat} {A v w F a b : Nat} {Q : Nat → Nat → Prop} {g : Nat → Int32} (h : jm_B T A v w Q g F) (hz : F < a + b + T (A - a * v - b * w) / 51) (hs : a + b + T (A - a * v - b * w) / 51 < 1000000) : jm_B T A v w (fun i j => Q i j ∨ (i = a ∧ j = b)) g F := by
  rcases h with ⟨e, h⟩ | ⟨e, a0, b0, h1, h2, h3, h4, h5, h6, h7, h8⟩
  · omega
  · refine Or.inr ⟨e, a0, b0, Or.inl h1, h2, h3, h4, h5, h6, h7, fun i j q hn => ?_⟩
    rcases q with q | ⟨rfl, rfl⟩
    · exact h8 i j q hn
    · exact Or.inl hz
theorem jm_Bt {T : Nat → Nat} {A v w F a b : Nat} {Q : Nat → Nat → Prop} {g g' : Nat → Int32} (h : jm_B T A v w Q g F) (hn : T (A - a * v - b * w) ≠ 1000000) (hz : a + b + T (A - a * v - b * w) / 51 ≤ F) (hs : a + b + T (A - a * v - b * w) / 51 < 1000000) (ho : ∀ i j, Q i j → i < a ∨ (i = a ∧ j ≤ b))
    (g0 : g' 0 = nI a) (g1 : g' 1 = nI b) (g2 : g' 2 = nI (50 - T (A - a * v - b * w) % 51)) (g3 : g' 3 = nI (T (A - a * v - b * w) / 51 - (50 - T (A - a * v - b * w) % 51))) : jm_B T A v w (fun i j => Q i j ∨ (i = a ∧ j = b)) g' (a + b + T (A - a * v - b * w) / 51) := by
  refine Or.inr ⟨hs, a, b, Or.inr ⟨rfl, rfl⟩, hn, rfl, g0, g1, g2, g3, fun i j q hm => ?_⟩
  rcases q with q | ⟨rfl, rfl⟩
  · have hl := ho i j q
    rcases h with ⟨e, h⟩ | ⟨e, a0, b0, h1, h2, h3, h4, h5, h6, h7, h8⟩
    · exact absurd (h i j q) hm
    · rcases h8 i j q hm with z | ⟨z, -⟩
      · exact Or.inl (by omega)
      · rcases Nat.lt_or_ge (a + b + T (A - a * v - b * w) / 51) F with y | y
        · exact Or.inl (by omega)
        · exact Or.inr ⟨by omega, hl⟩
  · exact Or.inr ⟨rfl, Or.inr ⟨rfl, Nat.le_refl _⟩⟩
theorem jm_Bf {v n : Nat → Nat} {T : Nat → Nat} {A F : Nat} {g : Nat → Int32} (hn : ∀ i, i < 4 → n i ≤ 50) (h : jm_B T A (v 0) (v 1) (fun a b => a ≤ n 0 ∧ b ≤ n 1 ∧ a * v 0 + b * v 1 ≤ A) g F) (hT : jm_T (v 2) (v 3) T (fun a b => a ≤ n 2 ∧ b ≤ n 3 ∧ a * v 2 + b * v 3 ≤ A)) :
    (F = 1000000 ∧ ∀ t, ¬ jm_mx v n A t) ∨ (F < 1000000 ∧ ∃ t, jm_be v n A t ∧ ∀ i, i < 4 → g i = nI (t i)) := by
  obtain ⟨hT1, hT2⟩ := hT
  have key : ∀ u, jm_mx v n A u → (u 0 ≤ n 0 ∧ u 1 ≤ n 1 ∧ u 0 * v 0 + u 1 * v 1 ≤ A) ∧ A - u 0 * v 0 - u 1 * v 1 = u 2 * v 2 + u 3 * v 3 ∧ T (A - u 0 * v 0 - u 1 * v 1) ≤ (u 2 + u 3) * 51 + 50 - u 2 ∧ u 2 ≤ 50 ∧ u 3 ≤ 50 := by
    intro u hu
    have a0 := hu.1 0 (by omega)
    have a1 := hu.1 1 (by omega)
    have a2 := hu.1 2 (by omega)
    have a3 := hu.1 3 (by omega)
    have b2 := hn 2 (by omega)
    have b3 := hn 3 (by omega)
    have e := hu.2
    have e2 : A - u 0 * v 0 - u 1 * v 1 = u 2 * v 2 + u 3 * v 3 := by omega
    exact ⟨⟨a0, a1, by omega⟩, e2, by rw [e2]; exact hT1 _ _ ⟨a2, a3, by omega⟩, by omega, by omega⟩
  rcases h with ⟨e, h⟩ | ⟨e, a, b, ⟨q1, q2, q3⟩, h2, h3, h4, h5, h6, h7, h8⟩
  · refine Or.inl ⟨e, fun t ht => ?_⟩
    obtain ⟨k1, k2, k3, k4, k5⟩ := key t ht
    have := h _ _ k1
    omega
  · obtain ⟨i, j, ⟨i1, i2, i3⟩, es, eT⟩ := (hT2 (A - a * v 0 - b * v 1)).resolve_left h2
    have b2 := hn 2 (by omega)
    have b3 := hn 3 (by omega)
    refine Or.inr ⟨e, fun k => if k = 0 then a else if k = 1 then b else if k = 2 then i else j, ⟨⟨?_, ?_⟩, fun u hu => ?_⟩, ?_⟩
    · intro k hk
      rcases (show k = 0 ∨ k = 1 ∨ k = 2 ∨ k = 3 by omega) with rfl | rfl | rfl | rfl <;> simpa
    · show a * v 0 + b * v 1 + i * v 2 + j * v 3 = A
      omega
    · obtain ⟨k1, k2, k3, k4, k5⟩ := key u hu
      have hm := h8 _ _ k1 (by omega)
      show a + b + i + j < _ ∨ (a + b + i + j = _ ∧ (u 0 < a ∨ (u 0 = a ∧ (u 1 < b ∨ (u 1 = b ∧ u 2 ≤ i)))))
      have hd1 : T (A - a * v 0 - b * v 1) / 51 = i + j := by omega
      have hd2 : T (A - u 0 * v 0 - u 1 * v 1) / 51 ≤ u 2 + u 3 := by omega
      rcases hm with z | ⟨z1, z2⟩
      · exact Or.inl (by omega)
      · rcases Nat.lt_or_ge (a + b + i + j) (u 0 + u 1 + u 2 + u 3) with y | y
        · exact Or.inl y
        · refine Or.inr ⟨by omega, ?_⟩
          rcases z2 with z2 | ⟨z2, z3⟩
          · exact Or.inl z2
          · rcases Nat.lt_or_ge (u 1) b with x | x
            · exact Or.inr ⟨z2, Or.inl x⟩
            · have e1 : u 1 = b := by omega
              rw [z2, e1] at k3
              exact Or.inr ⟨z2, Or.inr ⟨e1, by omega⟩⟩
    · intro k hk
      have hd1 : T (A - a * v 0 - b * v 1) / 51 = i + j := by omega
      have hd2 : T (A - a * v 0 - b * v 1) % 51 = 50 - i := by omega
      rw [hd2] at h6
      rw [hd1, hd2] at h7
      rcases (show k = 0 ∨ k = 1 ∨ k = 2 ∨ k = 3 by omega) with rfl | rfl | rfl | rfl
      · simpa using h4
      · simpa using h5
      · have : 50 - (50 - i) = i := by omega
        rw [this] at h6; simpa using h6
      · have : i + j - (50 - (50 - i)) = j := by omega
        rw [this] at h7; simpa using h7
set_option maxRecDepth 100000 in
theorem co_X_find {l : Launch} {s0 : State} {a0 : Array Value} {G : jb_Gt} {ad : Nat → Nat} (K : jo_G s0 a0 G ad) {S : ja_S} (v n9 : Nat → Nat) (A : Nat) (hA : A ≤ 5000) (hK : jm_K S v n9) : jo_C l s0 G ad jy_X_find jc_X_find 10 (some .boolean) 3 [.ref (ad 6), .ref (ad 13), .int (nI A)] S (jo_i fun r S' => ∃ f g, S' = jb_sv (jb_sv S 29 f) 28 g ∧ ((r = 1 ∧ ∃ t, jm_be v n9 A t ∧ ∀ i, i < 4 → g i = nI (t i)) ∨ (r = 0 ∧ ∀ t, ¬ jm_mx v n9 A t))) := by
  refine jo_of K (by decide) rfl (Nat.le_of_ble_eq_true rfl) ?_
  intro p e s m args below meth c O hr hk
  obtain ⟨k170, k180, v01, v02, n01⟩ := hK 0 (by omega)
  obtain ⟨k171, k181, v11, v12, n11⟩ := hK 1 (by omega)
  obtain ⟨-, -, -, -, n21⟩ := hK 2 (by omega)
  obtain ⟨-, -, -, -, n31⟩ := hK 3 (by omega)
  have m0 : ∀ a, a ≤ 51 → a * v 0 ≤ 25500 := fun a ha => by have := Nat.mul_le_mul ha v02; omega
  have m1 : ∀ a, a ≤ 51 → a * v 1 ≤ 25500 := fun a ha => by have := Nat.mul_le_mul ha v12; omega
  refine ja_aload_n O (q := 1) jd_X_find_0 rfl rfl rfl ?_
  refine ja_aload_n O (q := 2) jd_X_find_1 rfl rfl rfl ?_
  refine ja_iconst O (q := 3) (v := 2) jd_X_find_2 rfl (by decide) ?_
  refine jl_13 O (k := 2) rfl (by first | assumption | omega) (q := 4) jd_X_find_3 rfl ?_
  refine ja_aload_n O (q := 5) jd_X_find_4 rfl rfl rfl ?_
  refine ja_iconst O (q := 6) (v := 3) jd_X_find_5 rfl (by decide) ?_
  refine jl_13 O (k := 3) rfl (by first | assumption | omega) (q := 7) jd_X_find_6 rfl ?_
  refine ja_iload_n O (q := 8) jd_X_find_7 rfl rfl rfl ?_
  refine jm_X_18 O (d := 2) ⟨by decide, by decide⟩ (Nat.le_of_ble_eq_true rfl) ⟨by decide, by decide⟩ (co_X_rankLastTwo K v n9 A hA hK) (q := 11) jd_X_find_8 rfl (fun S' h => ?_)
  obtain ⟨f, rfl, T, hT1, hT2, hT3⟩ := h
  have outer : ∀ (nO_ : Nat) (a : Nat) (g : Nat → Int32) (F : Nat), a ≤ 51 → 51 < a + nO_ → F ≤ 1000000 → jm_B T A (v 0) (v 1) (fun i j => i < a ∧ i ≤ n9 0 ∧ j ≤ n9 1 ∧ i * v 0 + j * v 1 ≤ A) g F → ja_V p l e (jo_r 3) s m args below meth c (jb_W G ad) s0.heap.size 10 0 0 (jo_M s0 G ad below args s (jo_i fun r S' => ∃ f g, S' = jb_sv (jb_sv S 29 f) 28 g ∧ ((r = 1 ∧ ∃ t, jm_be v n9 A t ∧ ∀ i, i < 4 → g i = nI (t i)) ∨ (r = 0 ∧ ∀ t, ¬ jm_mx v n9 A t)))) (jb_sv (jb_sv S 29 f) 28 g) 27 [(0, .ref (ad 6)), (1, .ref (ad 13)), (2, .int (nI A)), (3, .ref (ad (46 + 0))), (4, .ref (ad (46 + 1))), (5, .int (nI F)), (6, .int (nI a))] [] := by
    intro nO_
    induction nO_ with
    | zero => intro a g F ha hnO hFl hB; exact absurd hnO (by omega)
    | succ nO_ ihO =>
      intro a g F ha hnO hFl hB
      have ma := m0 a ha
      refine ja_iload O (q := 29) jd_X_find_27 rfl rfl ?_
      refine ja_aload_n O (q := 30) jd_X_find_29 rfl rfl rfl ?_
      refine jg_X_23 O (by first | assumption | omega) (q := 33) jd_X_find_30 rfl ?_
      refine ja_icmp_gt O (g := 160) (q := 36) jd_X_find_33 (by decide) rfl (fun h_33 => ?_) (fun h_33 => ?_)
      · have hh : n9 0 < a ∨ A < a * v 0 := by
          first
          | exact Or.inl ((nI_ltI (by omega) (by omega)).mp (by rw [← k180]; exact h_33))
          | exact Or.inr ((nI_ltI (by omega) (by omega)).mp (by rw [← pk_mul, ← k170]; exact h_44))
        have hfin := jm_Bf (v := v) (n := n9) (fun i hi => (hK i hi).2.2.2.2) (jm_Bq (Q' := fun i j => i ≤ n9 0 ∧ j ≤ n9 1 ∧ i * v 0 + j * v 1 ≤ A) (fun i j => by
            constructor
            · intro q; exact ⟨q.2.1, q.2.2.1, q.2.2.2⟩
            · intro q
              refine ⟨?_, q⟩
              rcases hh with y | y
              · omega
              · rcases Nat.lt_or_ge i a with z2 | z2
                · exact z2
                · have := Nat.mul_le_mul_right (v 0) z2
                  omega) hB) hT3
        refine ja_iload O (q := 162) jd_X_find_160 rfl rfl ?_
        refine ja_ldc O (q := 164) (v := 1000000) jd_X_find_162 rfl jw_463 ?_
        refine ja_icmp_eq O (g := 171) (q := 167) jd_X_find_164 (by decide) rfl (fun h_164 => ?_) (fun h_164 => ?_)
        · refine ja_iconst O (q := 172) (v := 0) jd_X_find_171 rfl (by decide) ?_
          exact jo_zr O hr hk (by first | assumption | exact Or.inl rfl | exact Or.inr rfl) ⟨f, g, rfl, by
              rcases hfin with ⟨z1, z2⟩ | ⟨z1, z2⟩
              · first | exact Or.inr ⟨rfl, z2⟩ | exact absurd (show nI F = 1000000 by rw [z1]; rfl) h_164
              · first | exact Or.inl ⟨rfl, z2⟩ | exact absurd ((nI_eq (by omega) (by omega)).mp (show nI F = nI 1000000 from h_164)) (by omega)⟩ jd_X_find_172
        · refine ja_iconst O (q := 168) (v := 1) jd_X_find_167 rfl (by decide) ?_
          refine ja_goto O (g := 172) jd_X_find_168 (by decide) ?_
          exact jo_zr O hr hk (by first | assumption | exact Or.inl rfl | exact Or.inr rfl) ⟨f, g, rfl, by
              rcases hfin with ⟨z1, z2⟩ | ⟨z1, z2⟩
              · first | exact Or.inr ⟨rfl, z2⟩ | exact absurd (show nI F = 1000000 by rw [z1]; rfl) h_164
              · first | exact Or.inl ⟨rfl, z2⟩ | exact absurd ((nI_eq (by omega) (by omega)).mp (show nI F = nI 1000000 from h_164)) (by omega)⟩ jd_X_find_172
      · refine ja_iload O (q := 38) jd_X_find_36 rfl rfl ?_
        refine ja_aload_n O (q := 39) jd_X_find_38 rfl rfl rfl ?_
        refine jg_X_29 O (by first | assumption | omega) (q := 42) jd_X_find_39 rfl ?_
        refine ja_imul O (q := 43) jd_X_find_42 rfl ?_
        refine ja_iload_n O (q := 44) jd_X_find_43 rfl rfl rfl ?_
        refine ja_icmp_gt O (g := 160) (q := 47) jd_X_find_44 (by decide) rfl (fun h_44 => ?_) (fun h_44 => ?_)
        · have hh : n9 0 < a ∨ A < a * v 0 := by
            first
            | exact Or.inl ((nI_ltI (by omega) (by omega)).mp (by rw [← k180]; exact h_33))
            | exact Or.inr ((nI_ltI (by omega) (by omega)).mp (by rw [← pk_mul, ← k170]; exact h_44))
          have hfin := jm_Bf (v := v) (n := n9) (fun i hi => (hK i hi).2.2.2.2) (jm_Bq (Q' := fun i j => i ≤ n9 0 ∧ j ≤ n9 1 ∧ i * v 0 + j * v 1 ≤ A) (fun i j => by
              constructor
              · intro q; exact ⟨q.2.1, q.2.2.1, q.2.2.2⟩
              · intro q
                refine ⟨?_, q⟩
                rcases hh with y | y
                · omega
                · rcases Nat.lt_or_ge i a with z2 | z2
                  · exact z2
                  · have := Nat.mul_le_mul_right (v 0) z2
                    omega) hB) hT3
          refine ja_iload O (q := 162) jd_X_find_160 rfl rfl ?_
          refine ja_ldc O (q := 164) (v := 1000000) jd_X_find_162 rfl jw_463 ?_
          refine ja_icmp_eq O (g := 171) (q := 167) jd_X_find_164 (by decide) rfl (fun h_164 => ?_) (fun h_164 => ?_)
          · refine ja_iconst O (q := 172) (v := 0) jd_X_find_171 rfl (by decide) ?_
            exact jo_zr O hr hk (by first | assumption | exact Or.inl rfl | exact Or.inr rfl) ⟨f, g, rfl, by
                rcases hfin with ⟨z1, z2⟩ | ⟨z1, z2⟩
                · first | exact Or.inr ⟨rfl, z2⟩ | exact absurd (show nI F = 1000000 by rw [z1]; rfl) h_164
                · first | exact Or.inl ⟨rfl, z2⟩ | exact absurd ((nI_eq (by omega) (by omega)).mp (show nI F = nI 1000000 from h_164)) (by omega)⟩ jd_X_find_172
          · refine ja_iconst O (q := 168) (v := 1) jd_X_find_167 rfl (by decide) ?_
            refine ja_goto O (g := 172) jd_X_find_168 (by decide) ?_
            exact jo_zr O hr hk (by first | assumption | exact Or.inl rfl | exact Or.inr rfl) ⟨f, g, rfl, by
                rcases hfin with ⟨z1, z2⟩ | ⟨z1, z2⟩
                · first | exact Or.inr ⟨rfl, z2⟩ | exact absurd (show nI F = 1000000 by rw [z1]; rfl) h_164
                · first | exact Or.inl ⟨rfl, z2⟩ | exact absurd ((nI_eq (by omega) (by omega)).mp (show nI F = nI 1000000 from h_164)) (by omega)⟩ jd_X_find_172
        · have ha0 : a ≤ n9 0 := by
            rcases Nat.lt_or_ge (n9 0) a with z | z
            · exact absurd (show jb_sv (jb_sv S 29 f) 28 g 18 0 < nI a by rw [show jb_sv (jb_sv S 29 f) 28 g 18 0 = nI (n9 0) from k180]; exact nI_lt z (by omega)) h_33
            · exact z
          have has : a * v 0 ≤ A := by
            rcases Nat.lt_or_ge A (a * v 0) with z | z
            · exact absurd (show nI A < nI a * jb_sv (jb_sv S 29 f) 28 g 17 0 by rw [show jb_sv (jb_sv S 29 f) 28 g 17 0 = nI (v 0) from k170, pk_mul]; exact nI_lt z (by omega)) h_44
            · exact z
          have e7 : nI A - nI a * jb_sv (jb_sv S 29 f) 28 g 17 0 = nI (A - a * v 0) := by rw [show jb_sv (jb_sv S 29 f) 28 g 17 0 = nI (v 0) from k170, pk_mul, pk_sub has]
          refine ja_iload_n O (q := 48) jd_X_find_47 rfl rfl rfl ?_
          refine ja_iload O (q := 50) jd_X_find_48 rfl rfl ?_
          refine ja_aload_n O (q := 51) jd_X_find_50 rfl rfl rfl ?_
          refine jg_X_29 O (by first | assumption | omega) (q := 54) jd_X_find_51 rfl ?_
          refine ja_imul O (q := 55) jd_X_find_54 rfl ?_
          refine ja_isub O (q := 56) jd_X_find_55 rfl ?_
          refine ja_istore O (q := 58) jd_X_find_56 rfl (by decide) ?_
          refine ja_iconst O (q := 59) (v := 0) jd_X_find_58 rfl (by decide) ?_
          refine ja_istore O (q := 61) jd_X_find_59 rfl (by decide) ?_
          have inner : ∀ (nI_ : Nat) (b : Nat) (g : Nat → Int32) (F : Nat), b ≤ 51 → 51 < b + nI_ → F ≤ 1000000 → jm_B T A (v 0) (v 1) (fun i j => (i < a ∧ i ≤ n9 0 ∧ j ≤ n9 1 ∧ i * v 0 + j * v 1 ≤ A) ∨ (i = a ∧ j < b ∧ j ≤ n9 1 ∧ a * v 0 + j * v 1 ≤ A)) g F → ja_V p l e (jo_r 3) s m args below meth c (jb_W G ad) s0.heap.size 10 0 0 (jo_M s0 G ad below args s (jo_i fun r S' => ∃ f g, S' = jb_sv (jb_sv S 29 f) 28 g ∧ ((r = 1 ∧ ∃ t, jm_be v n9 A t ∧ ∀ i, i < 4 → g i = nI (t i)) ∨ (r = 0 ∧ ∀ t, ¬ jm_mx v n9 A t)))) (jb_sv (jb_sv S 29 f) 28 g) 61 [(0, .ref (ad 6)), (1, .ref (ad 13)), (2, .int (nI A)), (3, .ref (ad (46 + 0))), (4, .ref (ad (46 + 1))), (5, .int (nI F)), (6, .int (nI a)), (7, .int (nI (A - a * v 0))), (8, .int (nI b))] [] := by
            intro nI_
            induction nI_ with
            | zero => intro b g F hb hnI hFl hB; exact absurd hnI (by omega)
            | succ nI_ ihI =>
              intro b g F hb hnI hFl hB
              have mb := m1 b hb
              refine ja_iload O (q := 63) jd_X_find_61 rfl rfl ?_
              refine ja_aload O (q := 65) jd_X_find_63 rfl rfl ?_
              refine jg_X_23 O (by first | assumption | omega) (q := 68) jd_X_find_65 rfl ?_
              refine ja_icmp_gt O (g := 154) (q := 71) jd_X_find_68 (by decide) rfl (fun h_68 => ?_) (fun h_68 => ?_)
              · refine ja_iinc O (q := 157) (v := nI (a + 1)) jd_X_find_154 rfl rfl (nI_1 a) (by decide) ?_
                refine ja_goto O (g := 27) jd_X_find_157 (by decide) ?_
                refine ja_less (L' := [(0, .ref (ad 6)), (1, .ref (ad 13)), (2, .int (nI A)), (3, .ref (ad (46 + 0))), (4, .ref (ad (46 + 1))), (5, .int (nI F)), (6, .int (nI (a + 1)))]) ⟨rfl, rfl, rfl, rfl, rfl, rfl, rfl, trivial⟩ ?_
                exact ihO (a + 1) g F (by omega) (by omega) hFl (jm_Bq (fun i j => by
                  have hh : n9 1 < b ∨ A - a * v 0 < b * v 1 := by
                    first
                    | exact Or.inl ((nI_ltI (by omega) (by omega)).mp (by rw [← k181]; exact h_68))
                    | exact Or.inr ((nI_ltI (by omega) (by omega)).mp (by rw [← pk_mul, ← k171]; exact h_81))
                  constructor
                  · rintro (q | ⟨e8, q1, q2, q3⟩)
                    · exact ⟨by omega, q.2.1, q.2.2.1, q.2.2.2⟩
                    · subst e8; exact ⟨by omega, ha0, q2, q3⟩
                  · intro q
                    rcases Nat.lt_or_ge i a with z | z
                    · exact Or.inl ⟨z, q.2.1, q.2.2.1, q.2.2.2⟩
                    · have e8 : i = a := by omega
                      subst e8
                      refine Or.inr ⟨rfl, ?_, q.2.2.1, q.2.2.2⟩
                      rcases hh with y | y
                      · omega
                      · rcases Nat.lt_or_ge j b with z2 | z2
                        · exact z2
                        · have := Nat.mul_le_mul_right (v 1) z2
                          omega) hB)
              · refine ja_iload O (q := 73) jd_X_find_71 rfl rfl ?_
                refine ja_aload O (q := 75) jd_X_find_73 rfl rfl ?_
                refine jg_X_29 O (by first | assumption | omega) (q := 78) jd_X_find_75 rfl ?_
                refine ja_imul O (q := 79) jd_X_find_78 rfl ?_
                refine ja_iload O (q := 81) jd_X_find_79 rfl rfl ?_
                refine ja_icmp_gt O (g := 154) (q := 84) jd_X_find_81 (by decide) rfl (fun h_81 => ?_) (fun h_81 => ?_)
                · refine ja_iinc O (q := 157) (v := nI (a + 1)) jd_X_find_154 rfl rfl (nI_1 a) (by decide) ?_
                  refine ja_goto O (g := 27) jd_X_find_157 (by decide) ?_
                  refine ja_less (L' := [(0, .ref (ad 6)), (1, .ref (ad 13)), (2, .int (nI A)), (3, .ref (ad (46 + 0))), (4, .ref (ad (46 + 1))), (5, .int (nI F)), (6, .int (nI (a + 1)))]) ⟨rfl, rfl, rfl, rfl, rfl, rfl, rfl, trivial⟩ ?_
                  exact ihO (a + 1) g F (by omega) (by omega) hFl (jm_Bq (fun i j => by
                    have hh : n9 1 < b ∨ A - a * v 0 < b * v 1 := by
                      first
                      | exact Or.inl ((nI_ltI (by omega) (by omega)).mp (by rw [← k181]; exact h_68))
                      | exact Or.inr ((nI_ltI (by omega) (by omega)).mp (by rw [← pk_mul, ← k171]; exact h_81))
                    constructor
                    · rintro (q | ⟨e8, q1, q2, q3⟩)
                      · exact ⟨by omega, q.2.1, q.2.2.1, q.2.2.2⟩
                      · subst e8; exact ⟨by omega, ha0, q2, q3⟩
                    · intro q
                      rcases Nat.lt_or_ge i a with z | z
                      · exact Or.inl ⟨z, q.2.1, q.2.2.1, q.2.2.2⟩
                      · have e8 : i = a := by omega
                        subst e8
                        refine Or.inr ⟨rfl, ?_, q.2.2.1, q.2.2.2⟩
                        rcases hh with y | y
                        · omega
                        · rcases Nat.lt_or_ge j b with z2 | z2
                          · exact z2
                          · have := Nat.mul_le_mul_right (v 1) z2
                            omega) hB)
                · have hb1 : b ≤ n9 1 := by
                    rcases Nat.lt_or_ge (n9 1) b with z | z
                    · exact absurd (show jb_sv (jb_sv S 29 f) 28 g 18 1 < nI b by rw [show jb_sv (jb_sv S 29 f) 28 g 18 1 = nI (n9 1) from k181]; exact nI_lt z (by omega)) h_68
                    · exact z
                  have hbs : b * v 1 ≤ A - a * v 0 := by
                    rcases Nat.lt_or_ge (A - a * v 0) (b * v 1) with z | z
                    · exact absurd (show nI (A - a * v 0) < nI b * jb_sv (jb_sv S 29 f) 28 g 17 1 by rw [show jb_sv (jb_sv S 29 f) 28 g 17 1 = nI (v 1) from k171, pk_mul]; exact nI_lt z (by omega)) h_81
                    · exact z
                  have e9 : nI (A - a * v 0) - nI b * jb_sv (jb_sv S 29 f) 28 g 17 1 = nI (A - a * v 0 - b * v 1) := by rw [show jb_sv (jb_sv S 29 f) 28 g 17 1 = nI (v 1) from k171, pk_mul, pk_sub hbs]
                  have hT9 : f (A - a * v 0 - b * v 1) = nI (T (A - a * v 0 - b * v 1)) := hT1 _ (by omega)
                  have hTb := hT2 (A - a * v 0 - b * v 1)
                  have e5 : nI a + nI b + nI (T (A - a * v 0 - b * v 1)) / 51 = nI (a + b + T (A - a * v 0 - b * v 1) / 51) := by rw [nI_add, show nI (T (A - a * v 0 - b * v 1)) / 51 = nI (T (A - a * v 0 - b * v 1) / 51) from pk_div (d := 51) (by omega) (by decide) (by decide), nI_add]
                  have hsm : a + b + T (A - a * v 0 - b * v 1) / 51 < 1000000 := by omega
                  have h51 : T (A - a * v 0 - b * v 1) ≠ 1000000 → 50 - T (A - a * v 0 - b * v 1) % 51 ≤ T (A - a * v 0 - b * v 1) / 51 := fun q => by
                    obtain ⟨i, j, ⟨i1, i2, i3⟩, es, eT⟩ := (hT3.2 (A - a * v 0 - b * v 1)).resolve_left q
                    have d1 : T (A - a * v 0 - b * v 1) / 51 = i + j := by rw [eT]; omega
                    have d2 : T (A - a * v 0 - b * v 1) % 51 = 50 - i := by rw [eT]; omega
                    omega
                  have e28 : ∀ z0 z1 z2 z3, jb_u (jb_u (jb_u (jb_u (jb_sv (jb_sv S 29 f) 28 g) 28 0 z0) 28 1 z1) 28 2 z2) 28 3 z3 = jb_sv (jb_sv S 29 f) 28 (upd (upd (upd (upd g 0 z0) 1 z1) 2 z2) 3 z3) := fun z0 z1 z2 z3 => by
                    show jb_sv (jb_sv (jb_sv (jb_sv (jb_sv (jb_sv S 29 f) 28 g) 28 _) 28 _) 28 _) 28 _ = _
                    rw [jb_svv, jb_svv, jb_svv, jb_svv]; rfl
                  refine ja_aload_n O (q := 85) jd_X_find_84 rfl rfl rfl ?_
                  refine jg_X_15 O (q := 88) jd_X_find_85 rfl ?_
                  refine ja_iload O (q := 90) jd_X_find_88 rfl rfl ?_
                  refine ja_iload O (q := 92) jd_X_find_90 rfl rfl ?_
                  refine ja_aload O (q := 94) jd_X_find_92 rfl rfl ?_
                  refine jg_X_29 O (by first | assumption | omega) (q := 97) jd_X_find_94 rfl ?_
                  refine ja_imul O (q := 98) jd_X_find_97 rfl ?_
                  refine ja_isub O (q := 99) jd_X_find_98 rfl ?_
                  refine jl_15 O (k := A - a * v 0 - b * v 1) e9 (by first | assumption | omega) (q := 100) jd_X_find_99 rfl ?_
                  refine ja_istore O (q := 102) jd_X_find_100 rfl (by decide) ?_
                  refine ja_less (L' := [(0, .ref (ad 6)), (1, .ref (ad 13)), (2, .int (nI A)), (3, .ref (ad (46 + 0))), (4, .ref (ad (46 + 1))), (5, .int (nI F)), (6, .int (nI a)), (7, .int (nI (A - a * v 0))), (8, .int (nI b)), (9, .int (nI (T (A - a * v 0 - b * v 1))))]) ⟨rfl, rfl, rfl, rfl, rfl, rfl, rfl, rfl, rfl, by rw [← hT9]; rfl, trivial⟩ ?_
                  refine ja_iload O (q := 104) jd_X_find_102 rfl rfl ?_
                  refine ja_ldc O (q := 106) (v := 1000000) jd_X_find_104 rfl jw_463 ?_
                  refine ja_icmp_eq O (g := 148) (q := 109) jd_X_find_106 (by decide) rfl (fun h_106 => ?_) (fun h_106 => ?_)
                  · refine ja_iinc O (q := 151) (v := nI (b + 1)) jd_X_find_148 rfl rfl (nI_1 b) (by decide) ?_
                    refine ja_goto O (g := 61) jd_X_find_151 (by decide) ?_
                    first
                    | (have hz : T (A - a * v 0 - b * v 1) = 1000000 := (nI_eq (by omega) (by omega)).mp h_106
                       refine ja_less (L' := [(0, .ref (ad 6)), (1, .ref (ad 13)), (2, .int (nI A)), (3, .ref (ad (46 + 0))), (4, .ref (ad (46 + 1))), (5, .int (nI F)), (6, .int (nI a)), (7, .int (nI (A - a * v 0))), (8, .int (nI (b + 1)))]) ⟨rfl, rfl, rfl, rfl, rfl, rfl, rfl, rfl, rfl, trivial⟩ ?_
                       exact ihI (b + 1) g F (by omega) (by omega) hFl (jm_Bq (fun i j => by
                        constructor
                        · rintro ((q | ⟨e1, q1, q2, q3⟩) | ⟨e1, e2⟩)
                          · exact Or.inl q
                          · exact Or.inr ⟨e1, by omega, q2, q3⟩
                          · subst e1; subst e2; exact Or.inr ⟨rfl, by omega, hb1, by omega⟩
                        · rintro (q | ⟨e1, q1, q2, q3⟩)
                          · exact Or.inl (Or.inl q)
                          · rcases Nat.lt_or_ge j b with z | z
                            · exact Or.inl (Or.inr ⟨e1, z, q2, q3⟩)
                            · exact Or.inr ⟨e1, by omega⟩) (jm_Bs hB hz)))
                    | (have hz : F < a + b + T (A - a * v 0 - b * v 1) / 51 := (nI_ltI (by omega) (by omega)).mp (by rw [← e5]; exact h_122)
                       refine ja_less (L' := [(0, .ref (ad 6)), (1, .ref (ad 13)), (2, .int (nI A)), (3, .ref (ad (46 + 0))), (4, .ref (ad (46 + 1))), (5, .int (nI F)), (6, .int (nI a)), (7, .int (nI (A - a * v 0))), (8, .int (nI (b + 1)))]) ⟨rfl, rfl, rfl, rfl, rfl, rfl, rfl, rfl, rfl, trivial⟩ ?_
                       exact ihI (b + 1) g F (by omega) (by omega) hFl (jm_Bq (fun i j => by
                        constructor
                        · rintro ((q | ⟨e1, q1, q2, q3⟩) | ⟨e1, e2⟩)
                          · exact Or.inl q
                          · exact Or.inr ⟨e1, by omega, q2, q3⟩
                          · subst e1; subst e2; exact Or.inr ⟨rfl, by omega, hb1, by omega⟩
                        · rintro (q | ⟨e1, q1, q2, q3⟩)
                          · exact Or.inl (Or.inl q)
                          · rcases Nat.lt_or_ge j b with z | z
                            · exact Or.inl (Or.inr ⟨e1, z, q2, q3⟩)
                            · exact Or.inr ⟨e1, by omega⟩) (jm_Bm hB hz hsm)))
                    | (have hz : a + b + T (A - a * v 0 - b * v 1) / 51 ≤ F := Nat.le_of_not_lt (fun q => h_122 (show nI F < nI a + nI b + nI (T (A - a * v 0 - b * v 1)) / 51 by rw [e5]; exact nI_lt q (by omega)))
                       have hnz : T (A - a * v 0 - b * v 1) ≠ 1000000 := fun q => h_106 (show nI (T (A - a * v 0 - b * v 1)) = 1000000 by rw [q]; rfl)
                       refine ja_less (L' := [(0, .ref (ad 6)), (1, .ref (ad 13)), (2, .int (nI A)), (3, .ref (ad (46 + 0))), (4, .ref (ad (46 + 1))), (5, .int (nI (a + b + T (A - a * v 0 - b * v 1) / 51))), (6, .int (nI a)), (7, .int (nI (A - a * v 0))), (8, .int (nI (b + 1)))]) ⟨rfl, rfl, rfl, rfl, rfl, by rw [← e5]; rfl, rfl, rfl, rfl, trivial⟩ ?_
                       rw [e28]
                       exact ihI (b + 1) _ (a + b + T (A - a * v 0 - b * v 1) / 51) (by omega) (by omega) (by omega) (jm_Bq (fun i j => by
                        constructor
                        · rintro ((q | ⟨e1, q1, q2, q3⟩) | ⟨e1, e2⟩)
                          · exact Or.inl q
                          · exact Or.inr ⟨e1, by omega, q2, q3⟩
                          · subst e1; subst e2; exact Or.inr ⟨rfl, by omega, hb1, by omega⟩
                        · rintro (q | ⟨e1, q1, q2, q3⟩)
                          · exact Or.inl (Or.inl q)
                          · rcases Nat.lt_or_ge j b with z | z
                            · exact Or.inl (Or.inr ⟨e1, z, q2, q3⟩)
                            · exact Or.inr ⟨e1, by omega⟩) (jm_Bt hB hnz hz hsm (fun i j q => by rcases q with q | q <;> omega) rfl rfl (by show (50 : Int32) - nI (T (A - a * v 0 - b * v 1) % 51) = _; rw [show (50 : Int32) = nI 50 from rfl, pk_sub (by omega)]) (by show nI (T (A - a * v 0 - b * v 1) / 51) - ((50 : Int32) - nI (T (A - a * v 0 - b * v 1) % 51)) = _; rw [show (50 : Int32) = nI 50 from rfl, pk_sub (by omega), pk_sub (h51 hnz)]))))
                  · refine ja_iload O (q := 111) jd_X_find_109 rfl rfl ?_
                    refine ja_iload O (q := 113) jd_X_find_111 rfl rfl ?_
                    refine ja_iadd O (q := 114) jd_X_find_113 rfl ?_
                    refine ja_iload O (q := 116) jd_X_find_114 rfl rfl ?_
                    refine ja_bipush O (q := 118) (v := 51) jd_X_find_116 rfl (by decide) ?_
                    refine ja_idiv O (q := 119) jd_X_find_118 rfl (by decide) ?_
                    refine ja_iadd O (q := 120) jd_X_find_119 rfl ?_
                    refine ja_iload O (q := 122) jd_X_find_120 rfl rfl ?_
                    refine ja_icmp_gt O (g := 148) (q := 125) jd_X_find_122 (by decide) rfl (fun h_122 => ?_) (fun h_122 => ?_)
                    · refine ja_iinc O (q := 151) (v := nI (b + 1)) jd_X_find_148 rfl rfl (nI_1 b) (by decide) ?_
                      refine ja_goto O (g := 61) jd_X_find_151 (by decide) ?_
                      first
                      | (have hz : T (A - a * v 0 - b * v 1) = 1000000 := (nI_eq (by omega) (by omega)).mp h_106
                         refine ja_less (L' := [(0, .ref (ad 6)), (1, .ref (ad 13)), (2, .int (nI A)), (3, .ref (ad (46 + 0))), (4, .ref (ad (46 + 1))), (5, .int (nI F)), (6, .int (nI a)), (7, .int (nI (A - a * v 0))), (8, .int (nI (b + 1)))]) ⟨rfl, rfl, rfl, rfl, rfl, rfl, rfl, rfl, rfl, trivial⟩ ?_
                         exact ihI (b + 1) g F (by omega) (by omega) hFl (jm_Bq (fun i j => by
                          constructor
                          · rintro ((q | ⟨e1, q1, q2, q3⟩) | ⟨e1, e2⟩)
                            · exact Or.inl q
                            · exact Or.inr ⟨e1, by omega, q2, q3⟩
                            · subst e1; subst e2; exact Or.inr ⟨rfl, by omega, hb1, by omega⟩
                          · rintro (q | ⟨e1, q1, q2, q3⟩)
                            · exact Or.inl (Or.inl q)
                            · rcases Nat.lt_or_ge j b with z | z
                              · exact Or.inl (Or.inr ⟨e1, z, q2, q3⟩)
                              · exact Or.inr ⟨e1, by omega⟩) (jm_Bs hB hz)))
                      | (have hz : F < a + b + T (A - a * v 0 - b * v 1) / 51 := (nI_ltI (by omega) (by omega)).mp (by rw [← e5]; exact h_122)
                         refine ja_less (L' := [(0, .ref (ad 6)), (1, .ref (ad 13)), (2, .int (nI A)), (3, .ref (ad (46 + 0))), (4, .ref (ad (46 + 1))), (5, .int (nI F)), (6, .int (nI a)), (7, .int (nI (A - a * v 0))), (8, .int (nI (b + 1)))]) ⟨rfl, rfl, rfl, rfl, rfl, rfl, rfl, rfl, rfl, trivial⟩ ?_
                         exact ihI (b + 1) g F (by omega) (by omega) hFl (jm_Bq (fun i j => by
                          constructor
                          · rintro ((q | ⟨e1, q1, q2, q3⟩) | ⟨e1, e2⟩)
                            · exact Or.inl q
                            · exact Or.inr ⟨e1, by omega, q2, q3⟩
                            · subst e1; subst e2; exact Or.inr ⟨rfl, by omega, hb1, by omega⟩
                          · rintro (q | ⟨e1, q1, q2, q3⟩)
                            · exact Or.inl (Or.inl q)
                            · rcases Nat.lt_or_ge j b with z | z
                              · exact Or.inl (Or.inr ⟨e1, z, q2, q3⟩)
                              · exact Or.inr ⟨e1, by omega⟩) (jm_Bm hB hz hsm)))
                      | (have hz : a + b + T (A - a * v 0 - b * v 1) / 51 ≤ F := Nat.le_of_not_lt (fun q => h_122 (show nI F < nI a + nI b + nI (T (A - a * v 0 - b * v 1)) / 51 by rw [e5]; exact nI_lt q (by omega)))
                         have hnz : T (A - a * v 0 - b * v 1) ≠ 1000000 := fun q => h_106 (show nI (T (A - a * v 0 - b * v 1)) = 1000000 by rw [q]; rfl)
                         refine ja_less (L' := [(0, .ref (ad 6)), (1, .ref (ad 13)), (2, .int (nI A)), (3, .ref (ad (46 + 0))), (4, .ref (ad (46 + 1))), (5, .int (nI (a + b + T (A - a * v 0 - b * v 1) / 51))), (6, .int (nI a)), (7, .int (nI (A - a * v 0))), (8, .int (nI (b + 1)))]) ⟨rfl, rfl, rfl, rfl, rfl, by rw [← e5]; rfl, rfl, rfl, rfl, trivial⟩ ?_
                         rw [e28]
                         exact ihI (b + 1) _ (a + b + T (A - a * v 0 - b * v 1) / 51) (by omega) (by omega) (by omega) (jm_Bq (fun i j => by
                          constructor
                          · rintro ((q | ⟨e1, q1, q2, q3⟩) | ⟨e1, e2⟩)
                            · exact Or.inl q
                            · exact Or.inr ⟨e1, by omega, q2, q3⟩
                            · subst e1; subst e2; exact Or.inr ⟨rfl, by omega, hb1, by omega⟩
                          · rintro (q | ⟨e1, q1, q2, q3⟩)
                            · exact Or.inl (Or.inl q)
                            · rcases Nat.lt_or_ge j b with z | z
                              · exact Or.inl (Or.inr ⟨e1, z, q2, q3⟩)
                              · exact Or.inr ⟨e1, by omega⟩) (jm_Bt hB hnz hz hsm (fun i j q => by rcases q with q | q <;> omega) rfl rfl (by show (50 : Int32) - nI (T (A - a * v 0 - b * v 1) % 51) = _; rw [show (50 : Int32) = nI 50 from rfl, pk_sub (by omega)]) (by show nI (T (A - a * v 0 - b * v 1) / 51) - ((50 : Int32) - nI (T (A - a * v 0 - b * v 1) % 51)) = _; rw [show (50 : Int32) = nI 50 from rfl, pk_sub (by omega), pk_sub (h51 hnz)]))))
                    · refine ja_iload O (q := 127) jd_X_find_125 rfl rfl ?_
                      refine ja_iload O (q := 129) jd_X_find_127 rfl rfl ?_
                      refine ja_iadd O (q := 130) jd_X_find_129 rfl ?_
                      refine ja_iload O (q := 132) jd_X_find_130 rfl rfl ?_
                      refine ja_bipush O (q := 134) (v := 51) jd_X_find_132 rfl (by decide) ?_
                      refine ja_idiv O (q := 135) jd_X_find_134 rfl (by decide) ?_
                      refine ja_iadd O (q := 136) jd_X_find_135 rfl ?_
                      refine ja_istore O (q := 138) jd_X_find_136 rfl (by decide) ?_
                      refine ja_aload_n O (q := 139) jd_X_find_138 rfl rfl rfl ?_
                      refine ja_iload O (q := 141) jd_X_find_139 rfl rfl ?_
                      refine ja_iload O (q := 143) jd_X_find_141 rfl rfl ?_
                      refine ja_iload O (q := 145) jd_X_find_143 rfl rfl ?_
                      refine jm_X_32 O (d := 1) ⟨by decide, by decide⟩ (Nat.le_of_ble_eq_true rfl) ⟨by decide, by decide⟩ (co_X_keep K (S := jb_sv (jb_sv S 29 f) 28 g) (nI a) (nI b) (T (A - a * v 0 - b * v 1)) (by omega)) (q := 148) jd_X_find_145 rfl (fun S' h => ?_)
                      subst h
                      refine ja_iinc O (q := 151) (v := nI (b + 1)) jd_X_find_148 rfl rfl (nI_1 b) (by decide) ?_
                      refine ja_goto O (g := 61) jd_X_find_151 (by decide) ?_
                      first
                      | (have hz : T (A - a * v 0 - b * v 1) = 1000000 := (nI_eq (by omega) (by omega)).mp h_106
                         refine ja_less (L' := [(0, .ref (ad 6)), (1, .ref (ad 13)), (2, .int (nI A)), (3, .ref (ad (46 + 0))), (4, .ref (ad (46 + 1))), (5, .int (nI F)), (6, .int (nI a)), (7, .int (nI (A - a * v 0))), (8, .int (nI (b + 1)))]) ⟨rfl, rfl, rfl, rfl, rfl, rfl, rfl, rfl, rfl, trivial⟩ ?_
                         exact ihI (b + 1) g F (by omega) (by omega) hFl (jm_Bq (fun i j => by
                          constructor
                          · rintro ((q | ⟨e1, q1, q2, q3⟩) | ⟨e1, e2⟩)
                            · exact Or.inl q
                            · exact Or.inr ⟨e1, by omega, q2, q3⟩
                            · subst e1; subst e2; exact Or.inr ⟨rfl, by omega, hb1, by omega⟩
                          · rintro (q | ⟨e1, q1, q2, q3⟩)
                            · exact Or.inl (Or.inl q)
                            · rcases Nat.lt_or_ge j b with z | z
                              · exact Or.inl (Or.inr ⟨e1, z, q2, q3⟩)
                              · exact Or.inr ⟨e1, by omega⟩) (jm_Bs hB hz)))
                      | (have hz : F < a + b + T (A - a * v 0 - b * v 1) / 51 := (nI_ltI (by omega) (by omega)).mp (by rw [← e5]; exact h_122)
                         refine ja_less (L' := [(0, .ref (ad 6)), (1, .ref (ad 13)), (2, .int (nI A)), (3, .ref (ad (46 + 0))), (4, .ref (ad (46 + 1))), (5, .int (nI F)), (6, .int (nI a)), (7, .int (nI (A - a * v 0))), (8, .int (nI (b + 1)))]) ⟨rfl, rfl, rfl, rfl, rfl, rfl, rfl, rfl, rfl, trivial⟩ ?_
                         exact ihI (b + 1) g F (by omega) (by omega) hFl (jm_Bq (fun i j => by
                          constructor
                          · rintro ((q | ⟨e1, q1, q2, q3⟩) | ⟨e1, e2⟩)
                            · exact Or.inl q
                            · exact Or.inr ⟨e1, by omega, q2, q3⟩
                            · subst e1; subst e2; exact Or.inr ⟨rfl, by omega, hb1, by omega⟩
                          · rintro (q | ⟨e1, q1, q2, q3⟩)
                            · exact Or.inl (Or.inl q)
                            · rcases Nat.lt_or_ge j b with z | z
                              · exact Or.inl (Or.inr ⟨e1, z, q2, q3⟩)
                              · exact Or.inr ⟨e1, by omega⟩) (jm_Bm hB hz hsm)))
                      | (have hz : a + b + T (A - a * v 0 - b * v 1) / 51 ≤ F := Nat.le_of_not_lt (fun q => h_122 (show nI F < nI a + nI b + nI (T (A - a * v 0 - b * v 1)) / 51 by rw [e5]; exact nI_lt q (by omega)))
                         have hnz : T (A - a * v 0 - b * v 1) ≠ 1000000 := fun q => h_106 (show nI (T (A - a * v 0 - b * v 1)) = 1000000 by rw [q]; rfl)
                         refine ja_less (L' := [(0, .ref (ad 6)), (1, .ref (ad 13)), (2, .int (nI A)), (3, .ref (ad (46 + 0))), (4, .ref (ad (46 + 1))), (5, .int (nI (a + b + T (A - a * v 0 - b * v 1) / 51))), (6, .int (nI a)), (7, .int (nI (A - a * v 0))), (8, .int (nI (b + 1)))]) ⟨rfl, rfl, rfl, rfl, rfl, by rw [← e5]; rfl, rfl, rfl, rfl, trivial⟩ ?_
                         rw [e28]
                         exact ihI (b + 1) _ (a + b + T (A - a * v 0 - b * v 1) / 51) (by omega) (by omega) (by omega) (jm_Bq (fun i j => by
                          constructor
                          · rintro ((q | ⟨e1, q1, q2, q3⟩) | ⟨e1, e2⟩)
                            · exact Or.inl q
                            · exact Or.inr ⟨e1, by omega, q2, q3⟩
                            · subst e1; subst e2; exact Or.inr ⟨rfl, by omega, hb1, by omega⟩
                          · rintro (q | ⟨e1, q1, q2, q3⟩)
                            · exact Or.inl (Or.inl q)
                            · rcases Nat.lt_or_ge j b with z | z
                              · exact Or.inl (Or.inr ⟨e1, z, q2, q3⟩)
                              · exact Or.inr ⟨e1, by omega⟩) (jm_Bt hB hnz hz hsm (fun i j q => by rcases q with q | q <;> omega) rfl rfl (by show (50 : Int32) - nI (T (A - a * v 0 - b * v 1) % 51) = _; rw [show (50 : Int32) = nI 50 from rfl, pk_sub (by omega)]) (by show nI (T (A - a * v 0 - b * v 1) / 51) - ((50 : Int32) - nI (T (A - a * v 0 - b * v 1) % 51)) = _; rw [show (50 : Int32) = nI 50 from rfl, pk_sub (by omega), pk_sub (h51 hnz)]))))
          refine ja_less (L' := [(0, .ref (ad 6)), (1, .ref (ad 13)), (2, .int (nI A)), (3, .ref (ad (46 + 0))), (4, .ref (ad (46 + 1))), (5, .int (nI F)), (6, .int (nI a)), (7, .int (nI (A - a * v 0))), (8, .int (nI 0))]) ⟨rfl, rfl, rfl, rfl, rfl, rfl, rfl, by rw [← e7]; rfl, rfl, trivial⟩ ?_
          exact inner 52 0 g F (by omega) (by omega) hFl (jm_Bq (fun i j => ⟨fun q => Or.inl q, fun q => q.elim id (fun z => absurd z.2.1 (by omega))⟩) hB)
  refine ja_aload_n O (q := 12) jd_X_find_11 rfl rfl rfl ?_
  refine ja_iconst O (q := 13) (v := 0) jd_X_find_12 rfl (by decide) ?_
  refine jl_13 O (k := 0) rfl (by first | assumption | omega) (q := 14) jd_X_find_13 rfl ?_
  refine ja_astore_n O (q := 15) jd_X_find_14 rfl rfl (by decide) ?_
  refine ja_aload_n O (q := 16) jd_X_find_15 rfl rfl rfl ?_
  refine ja_iconst O (q := 17) (v := 1) jd_X_find_16 rfl (by decide) ?_
  refine jl_13 O (k := 1) rfl (by first | assumption | omega) (q := 18) jd_X_find_17 rfl ?_
  refine ja_astore O (q := 20) jd_X_find_18 rfl (by decide) ?_
  refine ja_ldc O (q := 22) (v := 1000000) jd_X_find_20 rfl jw_463 ?_
  refine ja_istore O (q := 24) jd_X_find_22 rfl (by decide) ?_
  refine ja_iconst O (q := 25) (v := 0) jd_X_find_24 rfl (by decide) ?_
  refine ja_istore O (q := 27) jd_X_find_25 rfl (by decide) ?_
  refine ja_less (L' := [(0, .ref (ad 6)), (1, .ref (ad 13)), (2, .int (nI A)), (3, .ref (ad (46 + 0))), (4, .ref (ad (46 + 1))), (5, .int (nI 1000000)), (6, .int (nI 0))]) ⟨rfl, rfl, rfl, rfl, rfl, rfl, rfl, trivial⟩ ?_
  have h0 := outer 52 0 (S 28) 1000000 (by omega) (by omega) (by omega) (jm_Bq (fun i j => ⟨fun q => q.elim, fun q => absurd q.1 (by omega)⟩) jm_B0)
  rw [show jb_sv (jb_sv S 29 f) 28 (S 28) = jb_sv S 29 f from jb_svs (S := jb_sv S 29 f)] at h0
  exact h0
set_option maxRecDepth 100000 in
theorem co_D_findMix {l : Launch} {s0 : State} {a0 : Array Value} {G : jb_Gt} {ad : Nat → Nat} (K : jo_G s0 a0 G ad) {S : ja_S} (v n9 : Nat → Nat) (A : Nat) (hA : A ≤ 5000) (hK : jm_K S v n9) : jo_C l s0 G ad jy_D_findMix jc_D_findMix 2 (some .boolean) 4 [.ref (ad 3), .int (nI A)] S (jo_i fun r S' => ∃ f g, S' = jb_sv (jb_sv S 29 f) 28 g ∧ ((r = 1 ∧ ∃ t, jm_be v n9 A t ∧ ∀ i, i < 4 → g i = nI (t i)) ∨ (r = 0 ∧ ∀ t, ¬ jm_mx v n9 A t))) := by
  refine jo_of K (by decide) rfl (Nat.le_of_ble_eq_true rfl) ?_
  intro p e s m args below meth c O hr hk
  refine ja_aload_n O (q := 1) jd_D_findMix_0 rfl rfl rfl ?_
  refine jg_D_20 O (q := 4) jd_D_findMix_1 rfl ?_
  refine ja_aload_n O (q := 5) jd_D_findMix_4 rfl rfl rfl ?_
  refine jg_D_11 O (q := 8) jd_D_findMix_5 rfl ?_
  refine ja_iload_n O (q := 9) jd_D_findMix_8 rfl rfl rfl ?_
  refine jm_D_44 O (d := 3) ⟨by decide, by decide⟩ (Nat.le_of_ble_eq_true rfl) ⟨by decide, by decide⟩ (co_X_find K v n9 A hA hK) (q := 12) jd_D_findMix_9 rfl (fun r S' h => ?_)
  obtain ⟨f, g, rfl, h⟩ := h
  have hb9 : r = 0 ∨ r = 1 := by rcases h with h | h
                                 · exact Or.inr h.1
                                 · exact Or.inl h.1
  exact jo_zr O hr hk (by first | assumption | exact Or.inl rfl | exact Or.inr rfl) ⟨f, g, rfl, h⟩ jd_D_findMix_12
