/-! CONTRACTS of the class, by program (wip/whole/gen/p16.py): Arrays.fill over the table, rankLastTwo -/
def jm_fl (f : Nat → Int32) (x : Int32) (i : Nat) : Nat → Int32 := fun k => if k < i then x else f k
theorem jm_fl_0 (f : Nat → Int32) (x : Int32) : jm_fl f x 0 = f := by funext k; simp [jm_fl]
theorem jm_fl_s (f : Nat → Int32) (x : Int32) (i : Nat) : upd (jm_fl f x i) i x = jm_fl f x (i + 1) := by
  funext k
  unfold upd jm_fl
  by_cases e : k = i
  · subst e; simp
  · by_cases l : k < i
    · simp [e, l, show k < i + 1 by omega]
    · simp [e, l, show ¬ k < i + 1 by omega]
theorem jb_svv {S : ja_S} {v : Nat} {f g : Nat → Int32} : jb_sv (jb_sv S v f) v g = jb_sv S v g := by
  funext w; unfold jb_sv; cases Nat.beq w v <;> rfl
theorem jb_svs {S : ja_S} {v : Nat} : jb_sv S v (S v) = S := by
  funext w; unfold jb_sv
  cases h : Nat.beq w v with
  | true => rw [Nat.eq_of_beq_eq_true h]; rfl
  | false => rfl
theorem jm_fill (S : ja_S) (x : Int32) (i : Nat) : jb_u (jb_sv S 29 (jm_fl (S 29) x i)) 29 i x = jb_sv S 29 (jm_fl (S 29) x (i + 1)) := by
  show jb_sv (jb_sv S 29 _) 29 (upd (jm_fl (S 29) x i) i x) = _
  rw [jb_svv, jm_fl_s]
def jm_T (v w : Nat) (T : Nat → Nat) (Q : Nat → Nat → Prop) : Prop := (∀ i j, Q i j → T (i * v + j * w) ≤ (i + j) * 51 + 50 - i) ∧ ∀ s, T s = 1000000 ∨ ∃ i j, Q i j ∧ s = i * v + j * w ∧ T s = (i + j) * 51 + 50 - i
def jm_F (v w : Nat) (f : Nat → Int32) (Q : Nat → Nat → Prop) : Prop := ∃ T : Nat → Nat, (∀ s, s ≤ 5000 → f s = nI (T s)) ∧ (∀ s, T s ≤ 1000000) ∧ jm_T v w T Q
theorem jm_F0 {v w : Nat} {f : Nat → Int32} (h : ∀ s, s ≤ 5000 → f s = 1000000) : jm_F v w f (fun _ _ => False) :=
  ⟨fun _ => 1000000, h, fun _ => Nat.le_refl _, fun _ _ q => q.elim, fun _ => Or.inl rfl⟩
theorem jm_Fq {v w : Nat} {f : Nat → Int32} {Q Q' : Nat → Nat → Prop} (e : ∀ i j, Q i j ↔ Q' i j) (h : jm_F v w f Q) : jm_F v w f Q' := by
  have : Q = Q' := by funext i j; exact propext (e i j)
  rw [← this]; exact h
theorem jm_Fa {v w i j r : Nat} {f : Nat → Int32} {Q : Nat → Nat → Prop} (h : jm_F v w f Q) (hr : r = (i + j) * 51 + 50 - i) (hr1 : r ≤ 1000000) : jm_F v w (upd f (i * v + j * w) (if nI r < f (i * v + j * w) then nI r else f (i * v + j * w))) (fun a b => Q a b ∨ (a = i ∧ b = j)) := by
  obtain ⟨T, h1, h2, h3, h4⟩ := h
  refine ⟨fun s => if s = i * v + j * w then min (T s) r else T s, fun s hs => ?_, fun s => ?_, fun a b q => ?_, fun s => ?_⟩
  · by_cases e : s = i * v + j * w
    · subst e
      rw [pk_us, h1 _ hs]
      simp only [if_true]
      have := h2 (i * v + j * w)
      by_cases l : r < T (i * v + j * w)
      · rw [if_pos (nI_lt l (by omega)), Nat.min_eq_right (by omega)]
      · rw [if_neg (fun q => l ((nI_ltI (by omega) (by omega)).mp q)), Nat.min_eq_left (by omega)]
    · rw [pk_un e, h1 s hs]; simp [e]
  · have := h2 s
    show (if _ then _ else _) ≤ _
    split
    · exact Nat.le_trans (Nat.min_le_left _ _) this
    · exact this
  · show (if _ then _ else _) ≤ _
    rcases q with q | ⟨rfl, rfl⟩
    · have := h3 a b q
      split
      · exact Nat.le_trans (Nat.min_le_left _ _) this
      · exact this
    · rw [if_pos rfl, ← hr]; exact Nat.min_le_right _ _
  · show ((if s = i * v + j * w then min (T s) r else T s) = 1000000) ∨ ∃ a b, (Q a b ∨ (a = i ∧ b = j)) ∧ s = a * v + b * w ∧ (if s = i * v + j * w then min (T s) r else T s) = (a + b) * 51 + 50 - a
    by_cases e : s = i * v + j * w
    · simp only [if_pos e]
      by_cases l : r ≤ T s
      · exact Or.inr ⟨i, j, Or.inr ⟨rfl, rfl⟩, e, by rw [Nat.min_eq_right l]; exact hr⟩
      · rw [Nat.min_eq_left (by omega)]
        rcases h4 s with z | ⟨a, b, q, z1, z2⟩
        · exact Or.inl z
        · exact Or.inr ⟨a, b, Or.inl q, z1, z2⟩
    · simp only [if_neg e]
      rcases h4 s with z | ⟨a, b, q, z1, z2⟩
      · exact Or.inl z
      · exact Or.inr ⟨a, b, Or.inl q, z1, z2⟩
/-- what the cassettes are, as numbers -/
def jm_K (C : ja_S) (v n : Nat → Nat) : Prop := ∀ i, i < 4 → C 17 i = nI (v i) ∧ C 18 i = nI (n i) ∧ 1 ≤ v i ∧ v i ≤ 500 ∧ n i ≤ 50
set_option maxRecDepth 100000 in
theorem co_F_fill {l : Launch} {s0 : State} {a0 : Array Value} {G : jb_Gt} {ad : Nat → Nat} (K : jo_G s0 a0 G ad) {S : ja_S} (x : Int32) : jo_C l s0 G ad jy_F_fill jc_F_fill 4 none 1 [.ref (ad 15), .int x] S (jo_v fun S' => S' = jb_sv S 29 (jm_fl (S 29) x 5001)) := by
  refine jo_of K (by decide) rfl (Nat.le_of_ble_eq_true rfl) ?_
  intro p e s m args below meth c O hr hk
  have loop : ∀ (n : Nat) (i : Nat), i ≤ 5001 → 5001 < i + n → ja_V p l e (jo_r 1) s m args below meth c (jb_W G ad) s0.heap.size 4 0 0 (jo_M s0 G ad below args s (jo_v fun S' => S' = jb_sv S 29 (jm_fl (S 29) x 5001))) (jb_sv S 29 (jm_fl (S 29) x i)) 5 [(0, .ref (ad 15)), (1, .int x), (2, .int (nI i)), (3, .int (nI 5001))] [] := by
    intro n
    induction n with
    | zero => intro i hi hn; exact absurd hn (by omega)
    | succ n ih =>
      intro i hi hn
      refine ja_iload_n O (q := 6) jd_F_fill_5 rfl rfl rfl ?_
      refine ja_iload_n O (q := 7) jd_F_fill_6 rfl rfl rfl ?_
      refine ja_icmp_ge O (g := 20) (q := 10) jd_F_fill_7 (by decide) rfl (fun h_7 => ?_) (fun h_7 => ?_)
      · have hi4 : i = 5001 := by
          rcases Nat.lt_or_ge i 5001 with z | z
          · exact absurd h_7 (nI_ge z (by omega))
          · omega
        subst hi4
        exact jo_vr O hr hk rfl jd_F_fill_20
      · have hi4 : i < 5001 := by
          rcases Nat.lt_or_ge i 5001 with z | z
          · exact z
          · exact absurd (nI_le z (by omega)) h_7
        refine ja_aload_n O (q := 11) jd_F_fill_10 rfl rfl rfl ?_
        refine ja_iload_n O (q := 12) jd_F_fill_11 rfl rfl rfl ?_
        refine ja_iload_n O (q := 13) jd_F_fill_12 rfl rfl rfl ?_
        refine js_15 O (k := i) rfl (by first | assumption | omega) (q := 14) jd_F_fill_13 rfl ?_
        refine ja_iinc O (q := 17) (v := nI (i + 1)) jd_F_fill_14 rfl rfl (nI_1 i) (by decide) ?_
        refine ja_goto O (g := 5) jd_F_fill_17 (by decide) ?_
        refine ja_less (L' := [(0, .ref (ad 15)), (1, .int x), (2, .int (nI (i + 1))), (3, .int (nI 5001))]) ⟨rfl, rfl, rfl, rfl, trivial⟩ ?_
        rw [jm_fill]
        exact ih (i + 1) (by omega) (by omega)
  refine ja_iconst O (q := 1) (v := 0) jd_F_fill_0 rfl (by decide) ?_
  refine ja_istore_n O (q := 2) jd_F_fill_1 rfl rfl (by decide) ?_
  refine ja_aload_n O (q := 3) jd_F_fill_2 rfl rfl rfl ?_
  refine jn_15 O (q := 4) jd_F_fill_3 rfl ?_
  refine ja_istore_n O (q := 5) jd_F_fill_4 rfl rfl (by decide) ?_
  refine ja_less (L' := [(0, .ref (ad 15)), (1, .int x), (2, .int (nI 0)), (3, .int (nI 5001))]) ⟨rfl, rfl, rfl, rfl, trivial⟩ ?_
  have h0 := loop 5002 0 (by omega) (by omega)
  rw [jm_fl_0, jb_svs] at h0
  exact h0
set_option maxRecDepth 100000 in
theorem co_X_rankLastTwo {l : Launch} {s0 : State} {a0 : Array Value} {G : jb_Gt} {ad : Nat → Nat} (K : jo_G s0 a0 G ad) {S : ja_S} (v n9 : Nat → Nat) (A : Nat) (hA : A ≤ 5000) (hK : jm_K S v n9) : jo_C l s0 G ad jy_X_rankLastTwo jc_X_rankLastTwo 9 none 2 [.ref (ad 6), .ref (ad (46 + 2)), .ref (ad (46 + 3)), .int (nI A)] S (jo_v fun S' => ∃ f, S' = jb_sv S 29 f ∧ jm_F (v 2) (v 3) f (fun a b => a ≤ n9 2 ∧ b ≤ n9 3 ∧ a * v 2 + b * v 3 ≤ A)) := by
  refine jo_of K (by decide) rfl (Nat.le_of_ble_eq_true rfl) ?_
  intro p e s m args below meth c O hr hk
  obtain ⟨k172, k182, v21, v22, n21⟩ := hK 2 (by omega)
  obtain ⟨k173, k183, v31, v32, n31⟩ := hK 3 (by omega)
  have m1 : ∀ a, a ≤ 51 → a * v 2 ≤ 25500 := fun a ha => by have := Nat.mul_le_mul ha v22; omega
  have m2 : ∀ a, a ≤ 51 → a * v 3 ≤ 25500 := fun a ha => by have := Nat.mul_le_mul ha v32; omega
  have outer : ∀ (nO_ : Nat) (i : Nat) (f : Nat → Int32), i ≤ 51 → 51 < i + nO_ → jm_F (v 2) (v 3) f (fun a b => a < i ∧ a ≤ n9 2 ∧ b ≤ n9 3 ∧ a * v 2 + b * v 3 ≤ A) → ja_V p l e (jo_r 2) s m args below meth c (jb_W G ad) s0.heap.size 9 0 0 (jo_M s0 G ad below args s (jo_v fun S' => ∃ f, S' = jb_sv S 29 f ∧ jm_F (v 2) (v 3) f (fun a b => a ≤ n9 2 ∧ b ≤ n9 3 ∧ a * v 2 + b * v 3 ≤ A))) (jb_sv S 29 f) 12 [(0, .ref (ad 6)), (1, .ref (ad (46 + 2))), (2, .ref (ad (46 + 3))), (3, .int (nI A)), (4, .int (nI i))] [] := by
    intro nO_
    induction nO_ with
    | zero => intro i f hi hnO hF; exact absurd hnO (by omega)
    | succ nO_ ihO =>
      intro i f hi hnO hF
      have mi := m1 i hi
      refine ja_iload O (q := 14) jd_X_rankLastTwo_12 rfl rfl ?_
      refine ja_aload_n O (q := 15) jd_X_rankLastTwo_14 rfl rfl rfl ?_
      refine jg_X_23 O (by first | assumption | omega) (q := 18) jd_X_rankLastTwo_15 rfl ?_
      refine ja_icmp_gt O (g := 131) (q := 21) jd_X_rankLastTwo_18 (by decide) rfl (fun h_18 => ?_) (fun h_18 => ?_)
      · have hh : n9 2 < i ∨ A < i * v 2 := by
          first
          | exact Or.inl ((nI_ltI (by omega) (by omega)).mp (by rw [← k182]; exact h_18))
          | exact Or.inr ((nI_ltI (by omega) (by omega)).mp (by rw [← pk_mul, ← k172]; exact h_29))
        exact jo_vr O hr hk ⟨f, rfl, jm_Fq (fun a b => by
            constructor
            · intro q; exact ⟨q.2.1, q.2.2.1, q.2.2.2⟩
            · intro q
              refine ⟨?_, q⟩
              rcases hh with y | y
              · omega
              · rcases Nat.lt_or_ge a i with z2 | z2
                · exact z2
                · have := Nat.mul_le_mul_right (v 2) z2
                  omega) hF⟩ jd_X_rankLastTwo_131
      · refine ja_iload O (q := 23) jd_X_rankLastTwo_21 rfl rfl ?_
        refine ja_aload_n O (q := 24) jd_X_rankLastTwo_23 rfl rfl rfl ?_
        refine jg_X_29 O (by first | assumption | omega) (q := 27) jd_X_rankLastTwo_24 rfl ?_
        refine ja_imul O (q := 28) jd_X_rankLastTwo_27 rfl ?_
        refine ja_iload_n O (q := 29) jd_X_rankLastTwo_28 rfl rfl rfl ?_
        refine ja_icmp_gt O (g := 131) (q := 32) jd_X_rankLastTwo_29 (by decide) rfl (fun h_29 => ?_) (fun h_29 => ?_)
        · have hh : n9 2 < i ∨ A < i * v 2 := by
            first
            | exact Or.inl ((nI_ltI (by omega) (by omega)).mp (by rw [← k182]; exact h_18))
            | exact Or.inr ((nI_ltI (by omega) (by omega)).mp (by rw [← pk_mul, ← k172]; exact h_29))
          exact jo_vr O hr hk ⟨f, rfl, jm_Fq (fun a b => by
              constructor
              · intro q; exact ⟨q.2.1, q.2.2.1, q.2.2.2⟩
              · intro q
                refine ⟨?_, q⟩
                rcases hh with y | y
                · omega
                · rcases Nat.lt_or_ge a i with z2 | z2
                  · exact z2
                  · have := Nat.mul_le_mul_right (v 2) z2
                    omega) hF⟩ jd_X_rankLastTwo_131
        · have hi2 : i ≤ n9 2 := by
            rcases Nat.lt_or_ge (n9 2) i with z | z
            · exact absurd (show jb_sv S 29 f 18 2 < nI i by rw [show jb_sv S 29 f 18 2 = nI (n9 2) from k182]; exact nI_lt z (by omega)) h_18
            · exact z
          have his : i * v 2 ≤ A := by
            rcases Nat.lt_or_ge A (i * v 2) with z | z
            · exact absurd (show nI A < nI i * jb_sv S 29 f 17 2 by rw [show jb_sv S 29 f 17 2 = nI (v 2) from k172, pk_mul]; exact nI_lt z (by omega)) h_29
            · exact z
          have e5 : nI A - nI i * jb_sv S 29 f 17 2 = nI (A - i * v 2) := by rw [show jb_sv S 29 f 17 2 = nI (v 2) from k172, pk_mul, pk_sub his]
          refine ja_iload_n O (q := 33) jd_X_rankLastTwo_32 rfl rfl rfl ?_
          refine ja_iload O (q := 35) jd_X_rankLastTwo_33 rfl rfl ?_
          refine ja_aload_n O (q := 36) jd_X_rankLastTwo_35 rfl rfl rfl ?_
          refine jg_X_29 O (by first | assumption | omega) (q := 39) jd_X_rankLastTwo_36 rfl ?_
          refine ja_imul O (q := 40) jd_X_rankLastTwo_39 rfl ?_
          refine ja_isub O (q := 41) jd_X_rankLastTwo_40 rfl ?_
          refine ja_istore O (q := 43) jd_X_rankLastTwo_41 rfl (by decide) ?_
          refine ja_iconst O (q := 44) (v := 0) jd_X_rankLastTwo_43 rfl (by decide) ?_
          refine ja_istore O (q := 46) jd_X_rankLastTwo_44 rfl (by decide) ?_
          have inner : ∀ (nI_ : Nat) (j : Nat) (f : Nat → Int32), j ≤ 51 → 51 < j + nI_ → jm_F (v 2) (v 3) f (fun a b => (a < i ∧ a ≤ n9 2 ∧ b ≤ n9 3 ∧ a * v 2 + b * v 3 ≤ A) ∨ (a = i ∧ b < j ∧ b ≤ n9 3 ∧ i * v 2 + b * v 3 ≤ A)) → ja_V p l e (jo_r 2) s m args below meth c (jb_W G ad) s0.heap.size 9 0 0 (jo_M s0 G ad below args s (jo_v fun S' => ∃ f, S' = jb_sv S 29 f ∧ jm_F (v 2) (v 3) f (fun a b => a ≤ n9 2 ∧ b ≤ n9 3 ∧ a * v 2 + b * v 3 ≤ A))) (jb_sv S 29 f) 46 [(0, .ref (ad 6)), (1, .ref (ad (46 + 2))), (2, .ref (ad (46 + 3))), (3, .int (nI A)), (4, .int (nI i)), (5, .int (nI (A - i * v 2))), (6, .int (nI j))] [] := by
            intro nI_
            induction nI_ with
            | zero => intro j f hj hnI hF; exact absurd hnI (by omega)
            | succ nI_ ihI =>
              intro j f hj hnI hF
              have mj := m2 j hj
              refine ja_iload O (q := 48) jd_X_rankLastTwo_46 rfl rfl ?_
              refine ja_aload_n O (q := 49) jd_X_rankLastTwo_48 rfl rfl rfl ?_
              refine jg_X_23 O (by first | assumption | omega) (q := 52) jd_X_rankLastTwo_49 rfl ?_
              refine ja_icmp_gt O (g := 125) (q := 55) jd_X_rankLastTwo_52 (by decide) rfl (fun h_52 => ?_) (fun h_52 => ?_)
              · refine ja_iinc O (q := 128) (v := nI (i + 1)) jd_X_rankLastTwo_125 rfl rfl (nI_1 i) (by decide) ?_
                refine ja_goto O (g := 12) jd_X_rankLastTwo_128 (by decide) ?_
                refine ja_less (L' := [(0, .ref (ad 6)), (1, .ref (ad (46 + 2))), (2, .ref (ad (46 + 3))), (3, .int (nI A)), (4, .int (nI (i + 1)))]) ⟨rfl, rfl, rfl, rfl, rfl, trivial⟩ ?_
                exact ihO (i + 1) f (by omega) (by omega) (jm_Fq (fun a b => by
                  have hh : n9 3 < j ∨ A - i * v 2 < j * v 3 := by
                    first
                    | exact Or.inl ((nI_ltI (by omega) (by omega)).mp (by rw [← k183]; exact h_52))
                    | exact Or.inr ((nI_ltI (by omega) (by omega)).mp (by rw [← pk_mul, ← k173]; exact h_64))
                  constructor
                  · rintro (q | ⟨e8, q1, q2, q3⟩)
                    · exact ⟨by omega, q.2.1, q.2.2.1, q.2.2.2⟩
                    · subst e8; exact ⟨by omega, hi2, q2, q3⟩
                  · intro q
                    rcases Nat.lt_or_ge a i with z | z
                    · exact Or.inl ⟨z, q.2.1, q.2.2.1, q.2.2.2⟩
                    · have e8 : a = i := by omega
                      subst e8
                      refine Or.inr ⟨rfl, ?_, q.2.2.1, q.2.2.2⟩
                      rcases hh with y | y
                      · omega
                      · rcases Nat.lt_or_ge b j with z2 | z2
                        · exact z2
                        · have := Nat.mul_le_mul_right (v 3) z2
                          omega) hF)
              · refine ja_iload O (q := 57) jd_X_rankLastTwo_55 rfl rfl ?_
                refine ja_aload_n O (q := 58) jd_X_rankLastTwo_57 rfl rfl rfl ?_
                refine jg_X_29 O (by first | assumption | omega) (q := 61) jd_X_rankLastTwo_58 rfl ?_
                refine ja_imul O (q := 62) jd_X_rankLastTwo_61 rfl ?_
                refine ja_iload O (q := 64) jd_X_rankLastTwo_62 rfl rfl ?_
                refine ja_icmp_gt O (g := 125) (q := 67) jd_X_rankLastTwo_64 (by decide) rfl (fun h_64 => ?_) (fun h_64 => ?_)
                · refine ja_iinc O (q := 128) (v := nI (i + 1)) jd_X_rankLastTwo_125 rfl rfl (nI_1 i) (by decide) ?_
                  refine ja_goto O (g := 12) jd_X_rankLastTwo_128 (by decide) ?_
                  refine ja_less (L' := [(0, .ref (ad 6)), (1, .ref (ad (46 + 2))), (2, .ref (ad (46 + 3))), (3, .int (nI A)), (4, .int (nI (i + 1)))]) ⟨rfl, rfl, rfl, rfl, rfl, trivial⟩ ?_
                  exact ihO (i + 1) f (by omega) (by omega) (jm_Fq (fun a b => by
                    have hh : n9 3 < j ∨ A - i * v 2 < j * v 3 := by
                      first
                      | exact Or.inl ((nI_ltI (by omega) (by omega)).mp (by rw [← k183]; exact h_52))
                      | exact Or.inr ((nI_ltI (by omega) (by omega)).mp (by rw [← pk_mul, ← k173]; exact h_64))
                    constructor
                    · rintro (q | ⟨e8, q1, q2, q3⟩)
                      · exact ⟨by omega, q.2.1, q.2.2.1, q.2.2.2⟩
                      · subst e8; exact ⟨by omega, hi2, q2, q3⟩
                    · intro q
                      rcases Nat.lt_or_ge a i with z | z
                      · exact Or.inl ⟨z, q.2.1, q.2.2.1, q.2.2.2⟩
                      · have e8 : a = i := by omega
                        subst e8
                        refine Or.inr ⟨rfl, ?_, q.2.2.1, q.2.2.2⟩
                        rcases hh with y | y
                        · omega
                        · rcases Nat.lt_or_ge b j with z2 | z2
                          · exact z2
                          · have := Nat.mul_le_mul_right (v 3) z2
                            omega) hF)
                · have hj3 : j ≤ n9 3 := by
                    rcases Nat.lt_or_ge (n9 3) j with z | z
                    · exact absurd (show jb_sv S 29 f 18 3 < nI j by rw [show jb_sv S 29 f 18 3 = nI (n9 3) from k183]; exact nI_lt z (by omega)) h_52
                    · exact z
                  have hjs : j * v 3 ≤ A - i * v 2 := by
                    rcases Nat.lt_or_ge (A - i * v 2) (j * v 3) with z | z
                    · exact absurd (show nI (A - i * v 2) < nI j * jb_sv S 29 f 17 3 by rw [show jb_sv S 29 f 17 3 = nI (v 3) from k173, pk_mul]; exact nI_lt z (by omega)) h_64
                    · exact z
                  have e7 : nI i * jb_sv S 29 f 17 2 + nI j * jb_sv S 29 f 17 3 = nI (i * v 2 + j * v 3) := by rw [show jb_sv S 29 f 17 2 = nI (v 2) from k172, show jb_sv S 29 f 17 3 = nI (v 3) from k173, pk_mul, pk_mul, nI_add]
                  have e8 : (nI i + nI j) * 51 + 50 - nI i = nI ((i + j) * 51 + 50 - i) := by rw [nI_add, show (51 : Int32) = nI 51 from rfl, show (50 : Int32) = nI 50 from rfl, pk_mul, nI_add, pk_sub (by omega)]
                  refine ja_iload O (q := 69) jd_X_rankLastTwo_67 rfl rfl ?_
                  refine ja_aload_n O (q := 70) jd_X_rankLastTwo_69 rfl rfl rfl ?_
                  refine jg_X_29 O (by first | assumption | omega) (q := 73) jd_X_rankLastTwo_70 rfl ?_
                  refine ja_imul O (q := 74) jd_X_rankLastTwo_73 rfl ?_
                  refine ja_iload O (q := 76) jd_X_rankLastTwo_74 rfl rfl ?_
                  refine ja_aload_n O (q := 77) jd_X_rankLastTwo_76 rfl rfl rfl ?_
                  refine jg_X_29 O (by first | assumption | omega) (q := 80) jd_X_rankLastTwo_77 rfl ?_
                  refine ja_imul O (q := 81) jd_X_rankLastTwo_80 rfl ?_
                  refine ja_iadd O (q := 82) jd_X_rankLastTwo_81 rfl ?_
                  refine ja_istore O (q := 84) jd_X_rankLastTwo_82 rfl (by decide) ?_
                  refine ja_less (L' := [(0, .ref (ad 6)), (1, .ref (ad (46 + 2))), (2, .ref (ad (46 + 3))), (3, .int (nI A)), (4, .int (nI i)), (5, .int (nI (A - i * v 2))), (6, .int (nI j)), (7, .int (nI (i * v 2 + j * v 3)))]) ⟨rfl, rfl, rfl, rfl, rfl, rfl, rfl, by rw [← e7]; rfl, trivial⟩ ?_
                  refine ja_iload O (q := 86) jd_X_rankLastTwo_84 rfl rfl ?_
                  refine ja_iload O (q := 88) jd_X_rankLastTwo_86 rfl rfl ?_
                  refine ja_iadd O (q := 89) jd_X_rankLastTwo_88 rfl ?_
                  refine ja_bipush O (q := 91) (v := 51) jd_X_rankLastTwo_89 rfl (by decide) ?_
                  refine ja_imul O (q := 92) jd_X_rankLastTwo_91 rfl ?_
                  refine ja_bipush O (q := 94) (v := 50) jd_X_rankLastTwo_92 rfl (by decide) ?_
                  refine ja_iadd O (q := 95) jd_X_rankLastTwo_94 rfl ?_
                  refine ja_iload O (q := 97) jd_X_rankLastTwo_95 rfl rfl ?_
                  refine ja_isub O (q := 98) jd_X_rankLastTwo_97 rfl ?_
                  refine ja_istore O (q := 100) jd_X_rankLastTwo_98 rfl (by decide) ?_
                  refine ja_less (L' := [(0, .ref (ad 6)), (1, .ref (ad (46 + 2))), (2, .ref (ad (46 + 3))), (3, .int (nI A)), (4, .int (nI i)), (5, .int (nI (A - i * v 2))), (6, .int (nI j)), (7, .int (nI (i * v 2 + j * v 3))), (8, .int (nI ((i + j) * 51 + 50 - i)))]) ⟨rfl, rfl, rfl, rfl, rfl, rfl, rfl, rfl, by rw [← e8]; rfl, trivial⟩ ?_
                  refine ja_aload_n O (q := 101) jd_X_rankLastTwo_100 rfl rfl rfl ?_
                  refine jg_X_15 O (q := 104) jd_X_rankLastTwo_101 rfl ?_
                  refine ja_iload O (q := 106) jd_X_rankLastTwo_104 rfl rfl ?_
                  refine ja_aload_n O (q := 107) jd_X_rankLastTwo_106 rfl rfl rfl ?_
                  refine jg_X_15 O (q := 110) jd_X_rankLastTwo_107 rfl ?_
                  refine ja_iload O (q := 112) jd_X_rankLastTwo_110 rfl rfl ?_
                  refine jl_15 O (k := i * v 2 + j * v 3) rfl (by first | assumption | omega) (q := 113) jd_X_rankLastTwo_112 rfl ?_
                  refine ja_iload O (q := 115) jd_X_rankLastTwo_113 rfl rfl ?_
                  refine jmin_X O ⟨by decide, Nat.le_of_ble_eq_true rfl⟩ ⟨by decide, by decide⟩ (q := 118) jd_X_rankLastTwo_115 rfl ?_
                  refine js_15 O (k := i * v 2 + j * v 3) rfl (by first | assumption | omega) (q := 119) jd_X_rankLastTwo_118 rfl ?_
                  refine ja_iinc O (q := 122) (v := nI (j + 1)) jd_X_rankLastTwo_119 rfl rfl (nI_1 j) (by decide) ?_
                  refine ja_goto O (g := 46) jd_X_rankLastTwo_122 (by decide) ?_
                  refine ja_less (L' := [(0, .ref (ad 6)), (1, .ref (ad (46 + 2))), (2, .ref (ad (46 + 3))), (3, .int (nI A)), (4, .int (nI i)), (5, .int (nI (A - i * v 2))), (6, .int (nI (j + 1)))]) ⟨rfl, rfl, rfl, rfl, rfl, rfl, rfl, trivial⟩ ?_
                  have e3 : ∀ z, jb_u (jb_sv S 29 f) 29 (i * v 2 + j * v 3) z = jb_sv S 29 (upd f (i * v 2 + j * v 3) z) := fun z => jb_svv
                  rw [e3]
                  exact ihI (j + 1) _ (by omega) (by omega) (jm_Fq (fun a b => by
                    constructor
                    · rintro ((q | ⟨e1, q1, q2, q3⟩) | ⟨e1, e2⟩)
                      · exact Or.inl q
                      · exact Or.inr ⟨e1, by omega, q2, q3⟩
                      · subst e1; subst e2; exact Or.inr ⟨rfl, by omega, hj3, by omega⟩
                    · rintro (q | ⟨e1, q1, q2, q3⟩)
                      · exact Or.inl (Or.inl q)
                      · rcases Nat.lt_or_ge b j with z | z
                        · exact Or.inl (Or.inr ⟨e1, z, q2, q3⟩)
                        · exact Or.inr ⟨e1, by omega⟩) (jm_Fa hF rfl (by omega)))
          refine ja_less (L' := [(0, .ref (ad 6)), (1, .ref (ad (46 + 2))), (2, .ref (ad (46 + 3))), (3, .int (nI A)), (4, .int (nI i)), (5, .int (nI (A - i * v 2))), (6, .int (nI 0))]) ⟨rfl, rfl, rfl, rfl, rfl, by rw [← e5]; rfl, rfl, trivial⟩ ?_
          exact inner 52 0 f (by omega) (by omega) (jm_Fq (fun a b => by constructor <;> intro q <;> omega) hF)
  refine ja_aload_n O (q := 1) jd_X_rankLastTwo_0 rfl rfl rfl ?_
  refine jg_X_15 O (q := 4) jd_X_rankLastTwo_1 rfl ?_
  refine ja_ldc O (q := 6) (v := 1000000) jd_X_rankLastTwo_4 rfl jw_463 ?_
  refine jm_X_36 O (d := 1) ⟨by decide, by decide⟩ (Nat.le_of_ble_eq_true rfl) ⟨by decide, by decide⟩ (co_F_fill K 1000000) (q := 9) jd_X_rankLastTwo_6 rfl (fun S' h => ?_)
  subst h
  refine ja_iconst O (q := 10) (v := 0) jd_X_rankLastTwo_9 rfl (by decide) ?_
  refine ja_istore O (q := 12) jd_X_rankLastTwo_10 rfl (by decide) ?_
  refine ja_less (L' := [(0, .ref (ad 6)), (1, .ref (ad (46 + 2))), (2, .ref (ad (46 + 3))), (3, .int (nI A)), (4, .int (nI 0))]) ⟨rfl, rfl, rfl, rfl, rfl, trivial⟩ ?_
  exact outer 52 0 (jm_fl (S 29) 1000000 5001) (by omega) (by omega) (jm_Fq (fun a b => ⟨fun q => q.elim, fun q => absurd q.1 (by omega)⟩) (jm_F0 (fun s hs => by simp [jm_fl, show s < 5001 by omega])))
