/-! THE RELATION (hand text): paying. The class pays note by note, the reference cassette by cassette: of the greatest value first, of several the first -/
def pb_b (v : Nat → Nat) (c d : Nat) : Prop := v d < v c ∨ (v d = v c ∧ c ≤ d)
theorem cf_nx_ch {tkI vl : Nat → Int32} {tk v : Nat → Nat} (h1 : ∀ i, i < 4 → tkI i = nI (tk i) ∧ vl i = nI (v i) ∧ tk i ≤ 50 ∧ v i ≤ 500) : ∀ i, i ≤ 4 →
    (cf_nx tkI vl i = -1 ∧ ∀ d, d < i → tk d = 0) ∨ ∃ c, c < i ∧ cf_nx tkI vl i = nI c ∧ 0 < tk c ∧ ∀ d, d < i → 0 < tk d → pb_b v c d
  | 0, _ => Or.inl ⟨rfl, fun d hd => absurd hd (by omega)⟩
  | i + 1, hi => by
    obtain ⟨a1, a2, a3, a4⟩ := h1 i (by omega)
    rcases Nat.eq_zero_or_pos (tk i) with z | z
    · have e : cf_nx tkI vl (i + 1) = cf_nx tkI vl i := by
        rw [cf_nx, if_neg (fun q => by have := q.1; rw [a1, z] at this; exact absurd this (by decide))]
      rw [e]
      rcases cf_nx_ch h1 i (by omega) with ⟨q1, q2⟩ | ⟨c, q1, q2, q3, q4⟩
      · refine Or.inl ⟨q1, fun d hd => ?_⟩
        rcases Nat.lt_or_ge d i with y | y
        · exact q2 d y
        · rw [show d = i by omega]; exact z
      · refine Or.inr ⟨c, by omega, q2, q3, fun d hd h0 => ?_⟩
        rcases Nat.lt_or_ge d i with y | y
        · exact q4 d y h0
        · rw [show d = i by omega, z] at h0; omega
    · have p0 : 0 < tkI i := by rw [a1]; exact nI_lt (a := 0) z (by omega)
      rcases cf_nx_ch h1 i (by omega) with ⟨q1, q2⟩ | ⟨c, q1, q2, q3, q4⟩
      · refine Or.inr ⟨i, by omega, by rw [cf_nx, if_pos ⟨p0, Or.inl q1⟩], z, fun d hd h0 => ?_⟩
        rcases Nat.lt_or_ge d i with y | y
        · rw [q2 d y] at h0; omega
        · rw [show d = i by omega]; exact Or.inr ⟨rfl, Nat.le_refl _⟩
      · obtain ⟨b1, b2, b3, b4⟩ := h1 c (by omega)
        have ec : (cf_nx tkI vl i).toNatClampNeg = c := by rw [q2]; exact nI_clamp (by omega)
        rcases Nat.lt_or_ge (v c) (v i) with y | y
        · refine Or.inr ⟨i, by omega, by rw [cf_nx, if_pos ⟨p0, Or.inr (by rw [ec, b2, a2]; exact nI_lt y (by omega))⟩], z, fun d hd h0 => ?_⟩
          rcases Nat.lt_or_ge d i with x | x
          · have := q4 d x h0
            unfold pb_b at *
            exact Or.inl (by omega)
          · rw [show d = i by omega]; exact Or.inr ⟨rfl, Nat.le_refl _⟩
        · refine Or.inr ⟨c, by omega, ?_, q3, fun d hd h0 => ?_⟩
          · rw [cf_nx, if_neg (fun q => q.2.elim (fun w => jp_m1n (by omega) (q2.symm.trans w)) (fun w => by rw [ec, b2, a2] at w; exact absurd w (nI_nlt y (by omega)))), q2]
          · rcases Nat.lt_or_ge d i with x | x
            · exact q4 d x h0
            · rw [show d = i by omega]; unfold pb_b; omega
theorem mf_gr_ch {g : Int32} {vl : Nat → Int32} {v : Nat → Nat} (h1 : ∀ i, i < 4 → vl i = nI (v i) ∧ v i ≤ 500) : ∀ i, i ≤ 4 →
    (mf_gr g vl i = -1 ∧ ∀ d, d < i → ¬ mf_bit g d = 0) ∨ ∃ c, c < i ∧ mf_gr g vl i = nI c ∧ mf_bit g c = 0 ∧ ∀ d, d < i → mf_bit g d = 0 → pb_b v c d
  | 0, _ => Or.inl ⟨rfl, fun d hd => absurd hd (by omega)⟩
  | i + 1, hi => by
    obtain ⟨a2, a4⟩ := h1 i (by omega)
    by_cases z : mf_bit g i = 0
    · rcases mf_gr_ch h1 i (by omega) with ⟨q1, q2⟩ | ⟨c, q1, q2, q3, q4⟩
      · refine Or.inr ⟨i, by omega, by rw [mf_gr, if_pos ⟨z, Or.inl (by rw [q1]; decide)⟩], z, fun d hd h0 => ?_⟩
        rcases Nat.lt_or_ge d i with y | y
        · exact absurd h0 (q2 d y)
        · rw [show d = i by omega]; exact Or.inr ⟨rfl, Nat.le_refl _⟩
      · obtain ⟨b2, b4⟩ := h1 c (by omega)
        have ec : (mf_gr g vl i).toNatClampNeg = c := by rw [q2]; exact nI_clamp (by omega)
        rcases Nat.lt_or_ge (v c) (v i) with y | y
        · refine Or.inr ⟨i, by omega, by rw [mf_gr, if_pos ⟨z, Or.inr (by rw [ec, b2, a2]; exact nI_lt y (by omega))⟩], z, fun d hd h0 => ?_⟩
          rcases Nat.lt_or_ge d i with x | x
          · have := q4 d x h0
            unfold pb_b at *
            exact Or.inl (by omega)
          · rw [show d = i by omega]; exact Or.inr ⟨rfl, Nat.le_refl _⟩
        · refine Or.inr ⟨c, by omega, ?_, q3, fun d hd h0 => ?_⟩
          · rw [mf_gr, if_neg (fun q => q.2.elim (fun w => by rw [q2] at w; exact absurd w (nI_pos (by omega))) (fun w => by rw [ec, b2, a2] at w; exact absurd w (nI_nlt y (by omega)))), q2]
          · rcases Nat.lt_or_ge d i with x | x
            · exact q4 d x h0
            · rw [show d = i by omega]; unfold pb_b; omega
    · have e : mf_gr g vl (i + 1) = mf_gr g vl i := by rw [mf_gr, if_neg (fun q => z q.1)]
      rw [e]
      rcases mf_gr_ch h1 i (by omega) with ⟨q1, q2⟩ | ⟨c, q1, q2, q3, q4⟩
      · refine Or.inl ⟨q1, fun d hd => ?_⟩
        rcases Nat.lt_or_ge d i with y | y
        · exact q2 d y
        · rw [show d = i by omega]; exact z
      · refine Or.inr ⟨c, by omega, q2, q3, fun d hd h0 => ?_⟩
        rcases Nat.lt_or_ge d i with y | y
        · exact q4 d y h0
        · rw [show d = i by omega] at h0; exact absurd h0 z
/-- the class while it pays: tk notes to take, n in the cassettes -/
def pb_C (C : ja_S) (v tk n : Nat → Nat) : Prop := ∀ d, d < 4 → C 28 d = nI (tk d) ∧ C 17 d = nI (v d) ∧ C 18 d = nI (n d) ∧ tk d ≤ n d ∧ n d ≤ 50 ∧ v d ≤ 500
def pb_u (f : Nat → Nat) (c x : Nat) : Nat → Nat := fun d => if d = c then x else f d
theorem pb_us {f : Nat → Nat} {c x : Nat} : pb_u f c x c = x := if_pos rfl
theorem pb_un {f : Nat → Nat} {c x d : Nat} (h : d ≠ c) : pb_u f c x d = f d := if_neg h
theorem pb_one {v : Nat → Nat} {c d : Nat} (h1 : pb_b v c d) (h2 : pb_b v d c) : c = d := by unfold pb_b at *; omega
/-- m notes of the one cassette that is due -/
theorem cf_pl_m {v : Nat → Nat} {c W : Nat} (hc : c < 4) (hW : W ≤ 1000) : ∀ (m f i : Nat) (C : ja_S) (z : Int32) (tk n : Nat → Nat), pb_C C v tk n → (∀ d, d < 4 → 0 < tk d → pb_b v c d) → m ≤ tk c → i + m ≤ W → m ≤ f →
    ∃ C', cf_pl f C i (nI W) z = cf_pl (f - m) C' (i + m) (nI W) (z + nI (m * v c)) ∧ pb_C C' v (pb_u tk c (tk c - m)) (pb_u n c (n c - m))
  | 0, f, i, C, z, tk, n, hC, hb, _, _, _ => by
    refine ⟨C, by rw [Nat.zero_mul, show nI 0 = 0 from rfl, Int32.add_zero]; rfl, fun d hd => ?_⟩
    have e1 : pb_u tk c (tk c - 0) d = tk d := by
      by_cases e : d = c
      · subst e; rw [pb_us]; rfl
      · rw [pb_un e]
    have e2 : pb_u n c (n c - 0) d = n d := by
      by_cases e : d = c
      · subst e; rw [pb_us]; rfl
      · rw [pb_un e]
    rw [e1, e2]; exact hC d hd
  | m + 1, 0, _, _, _, _, _, _, _, _, _, h => absurd h (by omega)
  | m + 1, f + 1, i, C, z, tk, n, hC, hb, h1, h2, h3 => by
    obtain ⟨a1, a2, a3, a4, a5, a6⟩ := hC c hc
    have hnx : cf_nx (C 28) (C 17) 4 = nI c := by
      rcases cf_nx_ch (tkI := C 28) (vl := C 17) (tk := tk) (v := v) (fun i hi => ⟨(hC i hi).1, (hC i hi).2.1, Nat.le_trans (hC i hi).2.2.2.1 (hC i hi).2.2.2.2.1, (hC i hi).2.2.2.2.2⟩) 4 (by omega) with ⟨_, q⟩ | ⟨c', q1, q2, q3, q4⟩
      · rw [q c hc] at h1; omega
      · rw [q2, pb_one (q4 c hc (by omega)) (hb c' q1 q3)]
    have hcl : (cf_nx (C 28) (C 17) 4).toNatClampNeg = c := by rw [hnx]; exact nI_clamp (by omega)
    have e1 : cf_pl (f + 1) C i (nI W) z = cf_pl f (jb_u (jb_u C 28 c (C 28 c - 1)) 18 c (C 18 c - 1)) (i + 1) (nI W) (z + C 17 c) := by
      rw [cf_pl, hcl, if_pos ⟨nI_lt (by omega) (by omega), by rw [hnx]; exact jp_m1n (by omega)⟩]
    have hC1 : pb_C (jb_u (jb_u C 28 c (C 28 c - 1)) 18 c (C 18 c - 1)) v (pb_u tk c (tk c - 1)) (pb_u n c (n c - 1)) := fun d hd => by
      show upd (C 28) c (C 28 c - 1) d = nI (pb_u tk c (tk c - 1) d) ∧ C 17 d = nI (v d) ∧ upd (C 18) c (C 18 c - 1) d = nI (pb_u n c (n c - 1) d) ∧ pb_u tk c (tk c - 1) d ≤ pb_u n c (n c - 1) d ∧ pb_u n c (n c - 1) d ≤ 50 ∧ v d ≤ 500
      by_cases e : d = c
      · subst e
        rw [pk_us, pk_us, pb_us, pb_us, a1, a3, jp_m1 (by omega), jp_m1 (by omega)]
        exact ⟨rfl, a2, rfl, by omega, by omega, a6⟩
      · rw [pk_un e, pk_un e, pb_un e, pb_un e]; exact hC d hd
    obtain ⟨C', e2, e3⟩ := cf_pl_m hc hW m f (i + 1) _ (z + C 17 c) _ _ hC1 (fun d hd h0 => by
      by_cases e : d = c
      · rw [e]; exact Or.inr ⟨rfl, Nat.le_refl _⟩
      · rw [pb_un e] at h0; exact hb d hd h0) (by rw [pb_us]; omega) (by omega) (by omega)
    refine ⟨C', ?_, fun d hd => ?_⟩
    · rw [e1, e2, show f + 1 - (m + 1) = f - m by omega, show i + 1 + m = i + (m + 1) by omega, Int32.add_assoc, a2, nI_add, Nat.succ_mul, Nat.add_comm (v c)]
    · have := e3 d hd
      rw [pb_us, pb_us] at this
      have q1 : pb_u tk c (tk c - (m + 1)) d = pb_u (pb_u tk c (tk c - 1)) c (tk c - 1 - m) d := by
        by_cases e : d = c
        · subst e; rw [pb_us, pb_us]; omega
        · rw [pb_un e, pb_un e, pb_un e]
      have q2 : pb_u n c (n c - (m + 1)) d = pb_u (pb_u n c (n c - 1)) c (n c - 1 - m) d := by
        by_cases e : d = c
        · subst e; rw [pb_us, pb_us]; omega
        · rw [pb_un e, pb_un e, pb_un e]
      rw [q1, q2]; exact this
/-- the class stops where the jam is reached -/
theorem cf_pl_end {f i W : Nat} {C : ja_S} {z : Int32} (h : W ≤ i) (hi : i < 2 ^ 31) : cf_pl f C i (nI W) z = (z, C) := by
  cases f with
  | zero => rfl
  | succ f => rw [cf_pl, if_neg (fun q => absurd q.1 (nI_nlt h hi))]
theorem cf_pl_no {f i : Nat} {w z : Int32} {C : ja_S} {v tk n : Nat → Nat} (hC : pb_C C v tk n) (h : ∀ d, d < 4 → tk d = 0) : cf_pl f C i w z = (z, C) := by
  cases f with
  | zero => rfl
  | succ f =>
    rcases cf_nx_ch (tkI := C 28) (vl := C 17) (tk := tk) (v := v) (fun i hi => ⟨(hC i hi).1, (hC i hi).2.1, Nat.le_trans (hC i hi).2.2.2.1 (hC i hi).2.2.2.2.1, (hC i hi).2.2.2.2.2⟩) 4 (by omega) with ⟨q, _⟩ | ⟨c', q1, q2, q3, q4⟩
    · rw [cf_pl, if_neg (fun y => y.2 q)]
    · rw [h c' q1] at q3; omega
/-- the reference while it pays: of cassettes that are not gone best is tk -/
def pb_M (M : ja_S) (g : Int32) (v tk n : Nat → Nat) : Prop := ∀ d, d < 4 → M 50 d = nI (v d) ∧ M 51 d = nI (n d) ∧ n d ≤ 50 ∧ v d ≤ 500 ∧ ∃ b, b ≤ 50 ∧ M 52 d = nI b ∧ (mf_bit g d = 0 → b = tk d)
/-- one of its steps -/
theorem mf_pl_1 {M : ja_S} {g z : Int32} {v tk n : Nat → Nat} {r c L k : Nat} (hM : pb_M M g v tk n) (hG : jm_G g k) (hc : c < 4) (hb : mf_bit g c = 0) (hgr : mf_gr g (M 50) 4 = nI c) (hL : L ≤ 1000) (hn : tk c ≤ n c) :
    ∃ M', mf_pl (r + 1) M (nI L) g z = mf_pl r M' (nI (L - min (tk c) L)) (mf_or g c) (z + nI (min (tk c) L * v c)) ∧ pb_M M' (mf_or g c) v (pb_u tk c 0) (pb_u n c (n c - min (tk c) L)) := by
  have hcl : (mf_gr g (M 50) 4).toNatClampNeg = c := by rw [hgr]; exact nI_clamp (by omega)
  obtain ⟨a1, a2, a3, a4, b, a5, a6, a7⟩ := hM c hc
  have ebt : b = tk c := a7 hb
  rw [ebt] at a5 a6
  have en : mf_n M c (nI L) = nI (min (tk c) L) := by
    unfold mf_n
    rw [a6]
    by_cases y : L ≤ tk c
    · rw [if_pos (nI_le y (by omega)), Nat.min_eq_right y]
    · rw [if_neg (nI_ge (by omega) (by omega)), Nat.min_eq_left (by omega)]
  have hmL : min (tk c) L ≤ L := Nat.min_le_right _ _
  have hmb : min (tk c) L ≤ tk c := Nat.min_le_left _ _
  refine ⟨jb_u M 51 c (nI (n c) - nI (min (tk c) L)), ?_, fun d hd => ?_⟩
  · rw [mf_pl, hcl, en, a1, a2, pk_mul, pk_sub hmL]
  · have hgo := (jm_Go hG hc hb).2 d hd
    show M 50 d = nI (v d) ∧ upd (M 51) c (nI (n c) - nI (min (tk c) L)) d = nI (pb_u n c (n c - min (tk c) L) d) ∧ pb_u n c (n c - min (tk c) L) d ≤ 50 ∧ v d ≤ 500 ∧ ∃ b', b' ≤ 50 ∧ M 52 d = nI b' ∧ (mf_bit (mf_or g c) d = 0 → b' = pb_u tk c 0 d)
    by_cases e : d = c
    · subst e
      rw [pk_us, pb_us, pb_us, pk_sub (by omega)]
      exact ⟨a1, rfl, by omega, a4, tk d, a5, a6, fun q => absurd rfl (hgo.mp q).1⟩
    · rw [pk_un e, pb_un e, pb_un e]
      obtain ⟨c1, c2, c3, c4, b', c5, c6, c7⟩ := hM d hd
      exact ⟨c1, c2, c3, c4, b', c5, c6, fun q => c7 (hgo.mp q).2⟩
theorem jm_Gr {M : ja_S} {g : Int32} {v tk n : Nat → Nat} {k : Nat} (hM : pb_M M g v tk n) (hG : jm_G g k) (hk : k < 4) : ∃ c, c < 4 ∧ mf_bit g c = 0 ∧ mf_gr g (M 50) 4 = nI c ∧ ∀ d, d < 4 → mf_bit g d = 0 → pb_b v c d := by
  rcases mf_gr_ch (g := g) (vl := M 50) (v := v) (fun i hi => ⟨(hM i hi).1, (hM i hi).2.2.2.1⟩) 4 (by omega) with ⟨_, q⟩ | ⟨c, q1, q2, q3, q4⟩
  · obtain ⟨y, y1, y2⟩ := jm_Gx hG hk
    exact absurd y2 (q y y1)
  · exact ⟨c, q1, q3, q2, q4⟩
/-- with nothing left the reference pays nothing more -/
theorem mf_pl_0 : ∀ (r : Nat) (M : ja_S) (g z : Int32) (v n tk : Nat → Nat) (k : Nat), pb_M M g v tk n → jm_G g k → k + r = 4 → (∀ d, d < 4 → mf_bit g d = 0 → tk d ≤ n d) →
    ∃ M', mf_pl r M (nI 0) g z = (z, M') ∧ ∀ d, d < 4 → M' 51 d = nI (n d)
  | 0, M, g, z, v, n, tk, k, hM, _, _, _ => ⟨M, rfl, fun d hd => (hM d hd).2.1⟩
  | r + 1, M, g, z, v, n, tk, k, hM, hG, hk, hle => by
    obtain ⟨c, c1, c2, c3, c4⟩ := jm_Gr hM hG (by omega)
    obtain ⟨M', e1, e2⟩ := mf_pl_1 (r := r) (z := z) (L := 0) hM hG c1 c2 c3 (by omega) (hle c c1 c2)
    obtain ⟨G1, G2⟩ := jm_Go hG c1 c2
    rw [Nat.min_zero, Nat.zero_mul, show nI 0 = 0 from rfl, Int32.add_zero] at e1
    obtain ⟨M2, e3, e4⟩ := mf_pl_0 r M' (mf_or g c) z v _ _ (k + 1) e2 G1 (by omega) (fun d hd q => by
      have := (G2 d hd).mp q
      rw [pb_un this.1, pb_un this.1]; exact hle d hd this.2)
    refine ⟨M2, e1.trans e3, fun d hd => ?_⟩
    rw [e4 d hd]
    by_cases e : d = c
    · subst e; rw [pb_us, Nat.min_zero, Nat.sub_zero]
    · rw [pb_un e]
theorem sm_pl : ∀ (r f i L W : Nat) (C M : ja_S) (g z : Int32) (v tk n : Nat → Nat) (k : Nat), pb_C C v tk n → pb_M M g v tk n → jm_G g k → k + r = 4 → (∀ d, d < 4 → ¬ mf_bit g d = 0 → tk d = 0) → i ≤ W → W ≤ 1000 → L ≤ 1000 →
    (L = W - i ∨ (tk 0 + tk 1 + tk 2 + tk 3 ≤ L ∧ tk 0 + tk 1 + tk 2 + tk 3 ≤ W - i)) → tk 0 + tk 1 + tk 2 + tk 3 ≤ f →
    ∃ (z' : Int32) (C' M' : ja_S) (n' : Nat → Nat), cf_pl f C i (nI W) z = (z', C') ∧ mf_pl r M (nI L) g z = (z', M') ∧ ∀ d, d < 4 → C' 18 d = nI (n' d) ∧ M' 51 d = nI (n' d) ∧ n' d ≤ 50
  | 0, f, i, L, W, C, M, g, z, v, tk, n, k, hC, hM, hG, hk, hgone, _, _, _, _, _ => by
    have h0 : ∀ d, d < 4 → tk d = 0 := by
      intro d hd
      refine hgone d hd (fun q => ?_)
      obtain ⟨G1, -⟩ := jm_Go hG hd q
      obtain ⟨x, x1, x2, x3⟩ := G1
      have : jm_pc x ≤ 4 := by unfold jm_pc; omega
      omega
    exact ⟨z, C, M, n, cf_pl_no hC h0, rfl, fun d hd => ⟨(hC d hd).2.2.1, (hM d hd).2.1, (hM d hd).2.2.1⟩⟩
  | r + 1, f, i, L, W, C, M, g, z, v, tk, n, k, hC, hM, hG, hk, hgone, hi, hW, hL, hLW, hf => by
    obtain ⟨c, c1, c2, c3, c4⟩ := jm_Gr hM hG (by omega)
    obtain ⟨a1, a2, a3, a4, a5, a6⟩ := hC c c1
    obtain ⟨M1, e1, e2⟩ := mf_pl_1 (r := r) (z := z) (L := L) hM hG c1 c2 c3 hL a4
    obtain ⟨G1, G2⟩ := jm_Go hG c1 c2
    obtain ⟨m, hm⟩ : ∃ m, min (tk c) L = m := ⟨_, rfl⟩
    have hmL : m ≤ L := by rw [← hm]; exact Nat.min_le_right _ _
    have hmt : m ≤ tk c := by rw [← hm]; exact Nat.min_le_left _ _
    have hmm : m = tk c ∨ m = L := by omega
    have htc : tk c ≤ tk 0 + tk 1 + tk 2 + tk 3 := by
      rcases (show c = 0 ∨ c = 1 ∨ c = 2 ∨ c = 3 by omega) with q | q | q | q <;> rw [q] <;> omega
    have him : i + m ≤ W := by omega
    rw [hm] at e1 e2
    obtain ⟨C1, e3, e4⟩ := cf_pl_m c1 hW m f i C z tk n hC (fun d hd h0 => c4 d hd (Classical.byContradiction fun q => by rw [hgone d hd q] at h0; omega)) hmt him (by omega)
    have hsum : pb_u tk c 0 0 + pb_u tk c 0 1 + pb_u tk c 0 2 + pb_u tk c 0 3 = tk 0 + tk 1 + tk 2 + tk 3 - tk c := by
      rcases (show c = 0 ∨ c = 1 ∨ c = 2 ∨ c = 3 by omega) with q | q | q | q <;> subst q <;> simp [pb_u] <;> omega
    rcases Nat.lt_or_ge m (tk c) with y | y
    · -- the jam is reached
      have hmL' : m = L := by omega
      have hLi : i + m = W := by omega
      obtain ⟨M2, e5, e6⟩ := mf_pl_0 r M1 (mf_or g c) (z + nI (m * v c)) v _ _ (k + 1) e2 G1 (by omega) (fun d hd q => by
        have := (G2 d hd).mp q
        rw [pb_un this.1, pb_un this.1]; exact (hC d hd).2.2.2.1)
      refine ⟨_, C1, M2, pb_u n c (n c - m), e3.trans (cf_pl_end (by omega) (by omega)), ?_, fun d hd => ⟨(e4 d hd).2.2.1, e6 d hd, (e4 d hd).2.2.2.2.1⟩⟩
      rw [e1, show L - m = 0 by omega, e5]
    · have hmt' : m = tk c := by omega
      have hC1 : pb_C C1 v (pb_u tk c 0) (pb_u n c (n c - m)) := by
        rw [hmt', Nat.sub_self] at e4
        rw [hmt']; exact e4
      obtain ⟨z', C', M', n', q1, q2, q3⟩ := sm_pl r (f - m) (i + m) (L - m) W C1 M1 (mf_or g c) (z + nI (m * v c)) v _ _ (k + 1) hC1 e2 G1 (by omega) (fun d hd q => by
        by_cases e : d = c
        · rw [e, pb_us]
        · rw [pb_un e]
          exact hgone d hd (fun q2 => q ((G2 d hd).mpr ⟨e, q2⟩))) him hW (by omega) (by rw [hsum]; omega) (by rw [hsum]; omega)
      exact ⟨z', C', M', n', e3.trans q1, e1.trans q2, q3⟩
