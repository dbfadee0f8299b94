/-! THE WORLD, by program (wip/whole/gen/gen_world.py): 90 cells at the addresses ad 0 .. ad 89; what they hold are the numbers S v j -/
def jb_sv (S : ja_S) (v : Nat) (f : Nat → Int32) : ja_S := fun w => cond (Nat.beq w v) f (S w)
abbrev jb_u (S : ja_S) (v j : Nat) (x : Int32) : ja_S := jb_sv S v (upd (S v) j x)
abbrev jb_Gt : Type := va_G × (Nat → ClassId)
abbrev jb_ty (dA : Nat → ClassId) : List (ClassId × FieldType) := [(dA 0, .int), (dA 1, .boolean), (dA 2, .long), (dA 3, .object "CashMachine$Account"), (dA 4, .object "CashMachine$Cassette"), (dA 5, .object "CashMachine$Entry")]
def jb_fx (G : jb_Gt) (ad : Nat → Nat) (S : ja_S) : va_W := [(ad 0, .inr (9, [.ref (ad 1), .ref (ad 2), .ref (ad 3), .ref (ad 4), .ref (ad 5), .int (S 0 0), .int (S 1 0), .int (S 2 0), .int (S 3 0)])),
  (ad 1, .inr (3, [.ref (ad 8), .ref (ad 9), .ref (ad 10), .ref (ad 11)])),
  (ad 2, .inr (4, [.ref (ad 12), .int (S 4 0)])),
  (ad 3, .inr (5, [.ref (ad 13), .ref (ad 6), .int (S 5 0), .int (S 6 0), .int (S 7 0), .int (S 8 0)])),
  (ad 4, .inr (6, [.ref (ad 16), .int (S 9 0)])),
  (ad 5, .inr (7, [.ref (ad 17), .ref (ad 18), .int (S 10 0)])),
  (ad 6, .inr (8, [.ref (ad 14), .ref (ad 15)])),
  (ad 7, .inr (10, [.int (S 32 0), .ref (ad 19), .ref (ad 20), .ref (ad 21), .ref (ad 22), .ref (ad 23), .ref (ad 24), .ref (ad 25), .ref (ad 26), .ref (ad 27), .int (S 33 0), .int (S 34 0), .int (S 35 0), .ref (ad 28), .ref (ad 29), .ref (ad 30), .ref (ad 31), .ref (ad 32), .ref (ad 33), .int (S 36 0), .ref (ad 34), .ref (ad 35), .int (S 37 0), .ref (ad 36), .int (S 38 0), .int (S 39 0), .int (S 40 0), .int (S 41 0), .int (S 42 0), .int (S 43 0)])),
  (ad 8, .inl (G.2 3, 8, .inr (.inr (.inr (.inr (fun i => some (ad (38 + i)))))))),
  (ad 9, .inl (G.2 0, 41, .inl (S 24))),
  (ad 10, .inl (G.2 0, 41, .inl (S 25))),
  (ad 11, .inl (G.2 1, 41, .inl (S 26))),
  (ad 12, .inl (G.2 0, 8, .inl (S 27))),
  (ad 13, .inl (G.2 4, 4, .inr (.inr (.inr (.inr (fun i => some (ad (46 + i)))))))),
  (ad 14, .inl (G.2 0, 4, .inl (S 28))),
  (ad 15, .inl (G.2 0, 5001, .inl (S 29))),
  (ad 16, .inl (G.2 5, 40, .inr (.inr (.inr (.inr (fun i => some (ad (50 + i)))))))),
  (ad 17, .inl (G.2 0, 40, .inl (S 30))),
  (ad 18, .inl (G.2 0, 40, .inl (S 31))),
  (ad 19, .inl (G.2 1, 8, .inl (S 44))),
  (ad 20, .inl (G.2 0, 8, .inl (S 45))),
  (ad 21, .inl (G.2 0, 8, .inl (S 46))),
  (ad 22, .inl (G.2 0, 8, .inl (S 47))),
  (ad 23, .inl (G.2 0, 8, .inl (S 48))),
  (ad 24, .inl (G.2 1, 8, .inl (S 49))),
  (ad 25, .inl (G.2 0, 4, .inl (S 50))),
  (ad 26, .inl (G.2 0, 4, .inl (S 51))),
  (ad 27, .inl (G.2 0, 4, .inl (S 52))),
  (ad 28, .inl (G.2 0, 41, .inl (S 53))),
  (ad 29, .inl (G.2 0, 41, .inl (S 54))),
  (ad 30, .inl (G.2 0, 41, .inl (S 55))),
  (ad 31, .inl (G.2 0, 41, .inl (S 56))),
  (ad 32, .inl (G.2 0, 41, .inl (S 57))),
  (ad 33, .inl (G.2 1, 41, .inl (S 58))),
  (ad 34, .inl (G.2 0, 80, .inl (S 59))),
  (ad 35, .inl (G.2 0, 80, .inl (S 60))),
  (ad 36, .inl (G.2 0, 8, .inl (S 61))),
  (ad 37, .inl (G.2 2, 1, .inr (.inl (fun i => (S 62 i).toInt64))))]
def jb_pA (ad : Nat → Nat) (S : ja_S) (j : Nat) : Nat × va_E := (ad (38 + j), .inr (0, [.int (S 11 j), .int (S 12 j), .int (S 13 j), .int (S 14 j), .int (S 15 j), .int (S 16 j)]))
def jb_pK (ad : Nat → Nat) (S : ja_S) (j : Nat) : Nat × va_E := (ad (46 + j), .inr (1, [.int (S 17 j), .int (S 18 j)]))
def jb_pE (ad : Nat → Nat) (S : ja_S) (j : Nat) : Nat × va_E := (ad (50 + j), .inr (2, [.int (S 19 j), .int (S 20 j), .int (S 21 j), .int (S 22 j), .int (S 23 j)]))
def jb_en (G : jb_Gt) (ad : Nat → Nat) (S : ja_S) : va_W := jb_fx G ad S ++ ((List.range 8).map (jb_pA ad S) ++ ((List.range 4).map (jb_pK ad S) ++ (List.range 40).map (jb_pE ad S)))
theorem jb_adr (G : jb_Gt) (ad : Nat → Nat) (S : ja_S) : (jb_en G ad S).map (·.1) = (List.range 90).map ad := rfl
theorem jb_at {G : jb_Gt} {ad : Nat → Nat} {S : ja_S} {k : Nat} {q : Nat × va_E} (h : (jb_en G ad S)[k]? = some q) : k < 90 ∧ q.1 = ad k := by
  have h1 : ((jb_en G ad S).map (·.1))[k]? = some q.1 := by rw [List.getElem?_map, h]; rfl
  rw [jb_adr, List.getElem?_map] at h1
  have hk : k < 90 := by
    rcases Nat.lt_or_ge k 90 with z | z
    · exact z
    · rw [List.getElem?_eq_none (by simpa using z)] at h1; cases h1
  rw [List.getElem?_range hk] at h1
  exact ⟨hk, (Option.some.inj h1).symm⟩
/-- the addresses are apart, and none is older than the law's entry -/
def jb_D (b0 : Nat) (ad : Nat → Nat) : Prop := (∀ i j, i < 90 → j < 90 → ad i = ad j → i = j) ∧ ∀ i, i < 90 → b0 ≤ ad i
theorem jb_D.va {b0 : Nat} {G : jb_Gt} {ad : Nat → Nat} (h : jb_D b0 ad) (S : ja_S) : va_D (fun q => b0 ≤ q) (jb_en G ad S) :=
  ⟨fun i j p q hp hq e => h.1 i j (jb_at hp).1 (jb_at hq).1 (by rw [← (jb_at hp).2, ← (jb_at hq).2]; exact e), fun k q hq => by rw [(jb_at hq).2]; exact h.2 k (jb_at hq).1⟩
theorem jb_kA (G : jb_Gt) (ad : Nat → Nat) (S : ja_S) {j : Nat} (h : j < 8) : (jb_en G ad S)[38 + j]? = some (jb_pA ad S j) := by
  unfold jb_en
  rw [List.getElem?_append_right (by show 38 ≤ 38 + j; omega), show 38 + j - (jb_fx G ad S).length = j from by show 38 + j - 38 = j; omega, List.getElem?_append_left (by simpa using h), List.getElem?_map, List.getElem?_range h]; rfl
theorem jb_kK (G : jb_Gt) (ad : Nat → Nat) (S : ja_S) {j : Nat} (h : j < 4) : (jb_en G ad S)[46 + j]? = some (jb_pK ad S j) := by
  unfold jb_en
  rw [List.getElem?_append_right (by show 38 ≤ 46 + j; omega), show 46 + j - (jb_fx G ad S).length = 8 + j from by show 46 + j - 38 = 8 + j; omega, List.getElem?_append_right (by simp), show 8 + j - ((List.range 8).map (jb_pA ad S)).length = j from by simp, List.getElem?_append_left (by simpa using h), List.getElem?_map, List.getElem?_range h]; rfl
theorem jb_kE (G : jb_Gt) (ad : Nat → Nat) (S : ja_S) {j : Nat} (h : j < 40) : (jb_en G ad S)[50 + j]? = some (jb_pE ad S j) := by
  unfold jb_en
  rw [List.getElem?_append_right (by show 38 ≤ 50 + j; omega), show 50 + j - (jb_fx G ad S).length = 12 + j from by show 50 + j - 38 = 12 + j; omega, List.getElem?_append_right (by simp; omega), show 12 + j - ((List.range 8).map (jb_pA ad S)).length = 4 + j from by simp; omega, List.getElem?_append_right (by simp), show 4 + j - ((List.range 4).map (jb_pK ad S)).length = j from by simp, List.getElem?_map, List.getElem?_range h]; rfl
theorem jb_setr {α : Type} {n j : Nat} {f g : Nat → α} {y : α} (hj : g j = y) (h : ∀ i, i ≠ j → g i = f i) : ((List.range n).map f).set j y = (List.range n).map g := by
  apply List.ext_getElem (by simp)
  intro i h1 h2
  rw [List.getElem_set]
  simp only [List.getElem_map, List.getElem_range]
  split
  · rename_i e; subst e; exact hj.symm
  · rename_i e; exact (h i (fun z => e z.symm)).symm

theorem jb_s0 (G : jb_Gt) (ad : Nat → Nat) (S : ja_S) (x : Int32) : (jb_en G ad S).set 0 (ad 0, .inr (9, [.ref (ad 1), .ref (ad 2), .ref (ad 3), .ref (ad 4), .ref (ad 5), .int x, .int (S 1 0), .int (S 2 0), .int (S 3 0)])) = jb_en G ad (jb_u S 0 0 x) := rfl
theorem jb_s1 (G : jb_Gt) (ad : Nat → Nat) (S : ja_S) (x : Int32) : (jb_en G ad S).set 0 (ad 0, .inr (9, [.ref (ad 1), .ref (ad 2), .ref (ad 3), .ref (ad 4), .ref (ad 5), .int (S 0 0), .int x, .int (S 2 0), .int (S 3 0)])) = jb_en G ad (jb_u S 1 0 x) := rfl
theorem jb_s2 (G : jb_Gt) (ad : Nat → Nat) (S : ja_S) (x : Int32) : (jb_en G ad S).set 0 (ad 0, .inr (9, [.ref (ad 1), .ref (ad 2), .ref (ad 3), .ref (ad 4), .ref (ad 5), .int (S 0 0), .int (S 1 0), .int x, .int (S 3 0)])) = jb_en G ad (jb_u S 2 0 x) := rfl
theorem jb_s3 (G : jb_Gt) (ad : Nat → Nat) (S : ja_S) (x : Int32) : (jb_en G ad S).set 0 (ad 0, .inr (9, [.ref (ad 1), .ref (ad 2), .ref (ad 3), .ref (ad 4), .ref (ad 5), .int (S 0 0), .int (S 1 0), .int (S 2 0), .int x])) = jb_en G ad (jb_u S 3 0 x) := rfl
theorem jb_s4 (G : jb_Gt) (ad : Nat → Nat) (S : ja_S) (x : Int32) : (jb_en G ad S).set 2 (ad 2, .inr (4, [.ref (ad 12), .int x])) = jb_en G ad (jb_u S 4 0 x) := rfl
theorem jb_s5 (G : jb_Gt) (ad : Nat → Nat) (S : ja_S) (x : Int32) : (jb_en G ad S).set 3 (ad 3, .inr (5, [.ref (ad 13), .ref (ad 6), .int x, .int (S 6 0), .int (S 7 0), .int (S 8 0)])) = jb_en G ad (jb_u S 5 0 x) := rfl
theorem jb_s6 (G : jb_Gt) (ad : Nat → Nat) (S : ja_S) (x : Int32) : (jb_en G ad S).set 3 (ad 3, .inr (5, [.ref (ad 13), .ref (ad 6), .int (S 5 0), .int x, .int (S 7 0), .int (S 8 0)])) = jb_en G ad (jb_u S 6 0 x) := rfl
theorem jb_s7 (G : jb_Gt) (ad : Nat → Nat) (S : ja_S) (x : Int32) : (jb_en G ad S).set 3 (ad 3, .inr (5, [.ref (ad 13), .ref (ad 6), .int (S 5 0), .int (S 6 0), .int x, .int (S 8 0)])) = jb_en G ad (jb_u S 7 0 x) := rfl
theorem jb_s8 (G : jb_Gt) (ad : Nat → Nat) (S : ja_S) (x : Int32) : (jb_en G ad S).set 3 (ad 3, .inr (5, [.ref (ad 13), .ref (ad 6), .int (S 5 0), .int (S 6 0), .int (S 7 0), .int x])) = jb_en G ad (jb_u S 8 0 x) := rfl
theorem jb_s9 (G : jb_Gt) (ad : Nat → Nat) (S : ja_S) (x : Int32) : (jb_en G ad S).set 4 (ad 4, .inr (6, [.ref (ad 16), .int x])) = jb_en G ad (jb_u S 9 0 x) := rfl
theorem jb_s10 (G : jb_Gt) (ad : Nat → Nat) (S : ja_S) (x : Int32) : (jb_en G ad S).set 5 (ad 5, .inr (7, [.ref (ad 17), .ref (ad 18), .int x])) = jb_en G ad (jb_u S 10 0 x) := rfl
theorem jb_s44 (G : jb_Gt) (ad : Nat → Nat) (S : ja_S) (f : Nat → Int32) : (jb_en G ad S).set 19 (ad 19, .inl (G.2 1, 8, .inl f)) = jb_en G ad (jb_sv S 44 f) := rfl
theorem jb_s45 (G : jb_Gt) (ad : Nat → Nat) (S : ja_S) (f : Nat → Int32) : (jb_en G ad S).set 20 (ad 20, .inl (G.2 0, 8, .inl f)) = jb_en G ad (jb_sv S 45 f) := rfl
theorem jb_s46 (G : jb_Gt) (ad : Nat → Nat) (S : ja_S) (f : Nat → Int32) : (jb_en G ad S).set 21 (ad 21, .inl (G.2 0, 8, .inl f)) = jb_en G ad (jb_sv S 46 f) := rfl
theorem jb_s47 (G : jb_Gt) (ad : Nat → Nat) (S : ja_S) (f : Nat → Int32) : (jb_en G ad S).set 22 (ad 22, .inl (G.2 0, 8, .inl f)) = jb_en G ad (jb_sv S 47 f) := rfl
theorem jb_s48 (G : jb_Gt) (ad : Nat → Nat) (S : ja_S) (f : Nat → Int32) : (jb_en G ad S).set 23 (ad 23, .inl (G.2 0, 8, .inl f)) = jb_en G ad (jb_sv S 48 f) := rfl
theorem jb_s49 (G : jb_Gt) (ad : Nat → Nat) (S : ja_S) (f : Nat → Int32) : (jb_en G ad S).set 24 (ad 24, .inl (G.2 1, 8, .inl f)) = jb_en G ad (jb_sv S 49 f) := rfl
theorem jb_s50 (G : jb_Gt) (ad : Nat → Nat) (S : ja_S) (f : Nat → Int32) : (jb_en G ad S).set 25 (ad 25, .inl (G.2 0, 4, .inl f)) = jb_en G ad (jb_sv S 50 f) := rfl
theorem jb_s51 (G : jb_Gt) (ad : Nat → Nat) (S : ja_S) (f : Nat → Int32) : (jb_en G ad S).set 26 (ad 26, .inl (G.2 0, 4, .inl f)) = jb_en G ad (jb_sv S 51 f) := rfl
theorem jb_s52 (G : jb_Gt) (ad : Nat → Nat) (S : ja_S) (f : Nat → Int32) : (jb_en G ad S).set 27 (ad 27, .inl (G.2 0, 4, .inl f)) = jb_en G ad (jb_sv S 52 f) := rfl
theorem jb_s53 (G : jb_Gt) (ad : Nat → Nat) (S : ja_S) (f : Nat → Int32) : (jb_en G ad S).set 28 (ad 28, .inl (G.2 0, 41, .inl f)) = jb_en G ad (jb_sv S 53 f) := rfl
theorem jb_s54 (G : jb_Gt) (ad : Nat → Nat) (S : ja_S) (f : Nat → Int32) : (jb_en G ad S).set 29 (ad 29, .inl (G.2 0, 41, .inl f)) = jb_en G ad (jb_sv S 54 f) := rfl
theorem jb_s55 (G : jb_Gt) (ad : Nat → Nat) (S : ja_S) (f : Nat → Int32) : (jb_en G ad S).set 30 (ad 30, .inl (G.2 0, 41, .inl f)) = jb_en G ad (jb_sv S 55 f) := rfl
theorem jb_s56 (G : jb_Gt) (ad : Nat → Nat) (S : ja_S) (f : Nat → Int32) : (jb_en G ad S).set 31 (ad 31, .inl (G.2 0, 41, .inl f)) = jb_en G ad (jb_sv S 56 f) := rfl
theorem jb_s57 (G : jb_Gt) (ad : Nat → Nat) (S : ja_S) (f : Nat → Int32) : (jb_en G ad S).set 32 (ad 32, .inl (G.2 0, 41, .inl f)) = jb_en G ad (jb_sv S 57 f) := rfl
theorem jb_s58 (G : jb_Gt) (ad : Nat → Nat) (S : ja_S) (f : Nat → Int32) : (jb_en G ad S).set 33 (ad 33, .inl (G.2 1, 41, .inl f)) = jb_en G ad (jb_sv S 58 f) := rfl
theorem jb_s59 (G : jb_Gt) (ad : Nat → Nat) (S : ja_S) (f : Nat → Int32) : (jb_en G ad S).set 34 (ad 34, .inl (G.2 0, 80, .inl f)) = jb_en G ad (jb_sv S 59 f) := rfl
theorem jb_s60 (G : jb_Gt) (ad : Nat → Nat) (S : ja_S) (f : Nat → Int32) : (jb_en G ad S).set 35 (ad 35, .inl (G.2 0, 80, .inl f)) = jb_en G ad (jb_sv S 60 f) := rfl
theorem jb_s61 (G : jb_Gt) (ad : Nat → Nat) (S : ja_S) (f : Nat → Int32) : (jb_en G ad S).set 36 (ad 36, .inl (G.2 0, 8, .inl f)) = jb_en G ad (jb_sv S 61 f) := rfl
theorem jb_s32 (G : jb_Gt) (ad : Nat → Nat) (S : ja_S) (x : Int32) : (jb_en G ad S).set 7 (ad 7, .inr (10, [.int x, .ref (ad 19), .ref (ad 20), .ref (ad 21), .ref (ad 22), .ref (ad 23), .ref (ad 24), .ref (ad 25), .ref (ad 26), .ref (ad 27), .int (S 33 0), .int (S 34 0), .int (S 35 0), .ref (ad 28), .ref (ad 29), .ref (ad 30), .ref (ad 31), .ref (ad 32), .ref (ad 33), .int (S 36 0), .ref (ad 34), .ref (ad 35), .int (S 37 0), .ref (ad 36), .int (S 38 0), .int (S 39 0), .int (S 40 0), .int (S 41 0), .int (S 42 0), .int (S 43 0)])) = jb_en G ad (jb_u S 32 0 x) := rfl
theorem jb_s33 (G : jb_Gt) (ad : Nat → Nat) (S : ja_S) (x : Int32) : (jb_en G ad S).set 7 (ad 7, .inr (10, [.int (S 32 0), .ref (ad 19), .ref (ad 20), .ref (ad 21), .ref (ad 22), .ref (ad 23), .ref (ad 24), .ref (ad 25), .ref (ad 26), .ref (ad 27), .int x, .int (S 34 0), .int (S 35 0), .ref (ad 28), .ref (ad 29), .ref (ad 30), .ref (ad 31), .ref (ad 32), .ref (ad 33), .int (S 36 0), .ref (ad 34), .ref (ad 35), .int (S 37 0), .ref (ad 36), .int (S 38 0), .int (S 39 0), .int (S 40 0), .int (S 41 0), .int (S 42 0), .int (S 43 0)])) = jb_en G ad (jb_u S 33 0 x) := rfl
theorem jb_s34 (G : jb_Gt) (ad : Nat → Nat) (S : ja_S) (x : Int32) : (jb_en G ad S).set 7 (ad 7, .inr (10, [.int (S 32 0), .ref (ad 19), .ref (ad 20), .ref (ad 21), .ref (ad 22), .ref (ad 23), .ref (ad 24), .ref (ad 25), .ref (ad 26), .ref (ad 27), .int (S 33 0), .int x, .int (S 35 0), .ref (ad 28), .ref (ad 29), .ref (ad 30), .ref (ad 31), .ref (ad 32), .ref (ad 33), .int (S 36 0), .ref (ad 34), .ref (ad 35), .int (S 37 0), .ref (ad 36), .int (S 38 0), .int (S 39 0), .int (S 40 0), .int (S 41 0), .int (S 42 0), .int (S 43 0)])) = jb_en G ad (jb_u S 34 0 x) := rfl
theorem jb_s35 (G : jb_Gt) (ad : Nat → Nat) (S : ja_S) (x : Int32) : (jb_en G ad S).set 7 (ad 7, .inr (10, [.int (S 32 0), .ref (ad 19), .ref (ad 20), .ref (ad 21), .ref (ad 22), .ref (ad 23), .ref (ad 24), .ref (ad 25), .ref (ad 26), .ref (ad 27), .int (S 33 0), .int (S 34 0), .int x, .ref (ad 28), .ref (ad 29), .ref (ad 30), .ref (ad 31), .ref (ad 32), .ref (ad 33), .int (S 36 0), .ref (ad 34), .ref (ad 35), .int (S 37 0), .ref (ad 36), .int (S 38 0), .int (S 39 0), .int (S 40 0), .int (S 41 0), .int (S 42 0), .int (S 43 0)])) = jb_en G ad (jb_u S 35 0 x) := rfl
theorem jb_s36 (G : jb_Gt) (ad : Nat → Nat) (S : ja_S) (x : Int32) : (jb_en G ad S).set 7 (ad 7, .inr (10, [.int (S 32 0), .ref (ad 19), .ref (ad 20), .ref (ad 21), .ref (ad 22), .ref (ad 23), .ref (ad 24), .ref (ad 25), .ref (ad 26), .ref (ad 27), .int (S 33 0), .int (S 34 0), .int (S 35 0), .ref (ad 28), .ref (ad 29), .ref (ad 30), .ref (ad 31), .ref (ad 32), .ref (ad 33), .int x, .ref (ad 34), .ref (ad 35), .int (S 37 0), .ref (ad 36), .int (S 38 0), .int (S 39 0), .int (S 40 0), .int (S 41 0), .int (S 42 0), .int (S 43 0)])) = jb_en G ad (jb_u S 36 0 x) := rfl
theorem jb_s37 (G : jb_Gt) (ad : Nat → Nat) (S : ja_S) (x : Int32) : (jb_en G ad S).set 7 (ad 7, .inr (10, [.int (S 32 0), .ref (ad 19), .ref (ad 20), .ref (ad 21), .ref (ad 22), .ref (ad 23), .ref (ad 24), .ref (ad 25), .ref (ad 26), .ref (ad 27), .int (S 33 0), .int (S 34 0), .int (S 35 0), .ref (ad 28), .ref (ad 29), .ref (ad 30), .ref (ad 31), .ref (ad 32), .ref (ad 33), .int (S 36 0), .ref (ad 34), .ref (ad 35), .int x, .ref (ad 36), .int (S 38 0), .int (S 39 0), .int (S 40 0), .int (S 41 0), .int (S 42 0), .int (S 43 0)])) = jb_en G ad (jb_u S 37 0 x) := rfl
theorem jb_s38 (G : jb_Gt) (ad : Nat → Nat) (S : ja_S) (x : Int32) : (jb_en G ad S).set 7 (ad 7, .inr (10, [.int (S 32 0), .ref (ad 19), .ref (ad 20), .ref (ad 21), .ref (ad 22), .ref (ad 23), .ref (ad 24), .ref (ad 25), .ref (ad 26), .ref (ad 27), .int (S 33 0), .int (S 34 0), .int (S 35 0), .ref (ad 28), .ref (ad 29), .ref (ad 30), .ref (ad 31), .ref (ad 32), .ref (ad 33), .int (S 36 0), .ref (ad 34), .ref (ad 35), .int (S 37 0), .ref (ad 36), .int x, .int (S 39 0), .int (S 40 0), .int (S 41 0), .int (S 42 0), .int (S 43 0)])) = jb_en G ad (jb_u S 38 0 x) := rfl
theorem jb_s39 (G : jb_Gt) (ad : Nat → Nat) (S : ja_S) (x : Int32) : (jb_en G ad S).set 7 (ad 7, .inr (10, [.int (S 32 0), .ref (ad 19), .ref (ad 20), .ref (ad 21), .ref (ad 22), .ref (ad 23), .ref (ad 24), .ref (ad 25), .ref (ad 26), .ref (ad 27), .int (S 33 0), .int (S 34 0), .int (S 35 0), .ref (ad 28), .ref (ad 29), .ref (ad 30), .ref (ad 31), .ref (ad 32), .ref (ad 33), .int (S 36 0), .ref (ad 34), .ref (ad 35), .int (S 37 0), .ref (ad 36), .int (S 38 0), .int x, .int (S 40 0), .int (S 41 0), .int (S 42 0), .int (S 43 0)])) = jb_en G ad (jb_u S 39 0 x) := rfl
theorem jb_s40 (G : jb_Gt) (ad : Nat → Nat) (S : ja_S) (x : Int32) : (jb_en G ad S).set 7 (ad 7, .inr (10, [.int (S 32 0), .ref (ad 19), .ref (ad 20), .ref (ad 21), .ref (ad 22), .ref (ad 23), .ref (ad 24), .ref (ad 25), .ref (ad 26), .ref (ad 27), .int (S 33 0), .int (S 34 0), .int (S 35 0), .ref (ad 28), .ref (ad 29), .ref (ad 30), .ref (ad 31), .ref (ad 32), .ref (ad 33), .int (S 36 0), .ref (ad 34), .ref (ad 35), .int (S 37 0), .ref (ad 36), .int (S 38 0), .int (S 39 0), .int x, .int (S 41 0), .int (S 42 0), .int (S 43 0)])) = jb_en G ad (jb_u S 40 0 x) := rfl
theorem jb_s41 (G : jb_Gt) (ad : Nat → Nat) (S : ja_S) (x : Int32) : (jb_en G ad S).set 7 (ad 7, .inr (10, [.int (S 32 0), .ref (ad 19), .ref (ad 20), .ref (ad 21), .ref (ad 22), .ref (ad 23), .ref (ad 24), .ref (ad 25), .ref (ad 26), .ref (ad 27), .int (S 33 0), .int (S 34 0), .int (S 35 0), .ref (ad 28), .ref (ad 29), .ref (ad 30), .ref (ad 31), .ref (ad 32), .ref (ad 33), .int (S 36 0), .ref (ad 34), .ref (ad 35), .int (S 37 0), .ref (ad 36), .int (S 38 0), .int (S 39 0), .int (S 40 0), .int x, .int (S 42 0), .int (S 43 0)])) = jb_en G ad (jb_u S 41 0 x) := rfl
theorem jb_s42 (G : jb_Gt) (ad : Nat → Nat) (S : ja_S) (x : Int32) : (jb_en G ad S).set 7 (ad 7, .inr (10, [.int (S 32 0), .ref (ad 19), .ref (ad 20), .ref (ad 21), .ref (ad 22), .ref (ad 23), .ref (ad 24), .ref (ad 25), .ref (ad 26), .ref (ad 27), .int (S 33 0), .int (S 34 0), .int (S 35 0), .ref (ad 28), .ref (ad 29), .ref (ad 30), .ref (ad 31), .ref (ad 32), .ref (ad 33), .int (S 36 0), .ref (ad 34), .ref (ad 35), .int (S 37 0), .ref (ad 36), .int (S 38 0), .int (S 39 0), .int (S 40 0), .int (S 41 0), .int x, .int (S 43 0)])) = jb_en G ad (jb_u S 42 0 x) := rfl
theorem jb_s43 (G : jb_Gt) (ad : Nat → Nat) (S : ja_S) (x : Int32) : (jb_en G ad S).set 7 (ad 7, .inr (10, [.int (S 32 0), .ref (ad 19), .ref (ad 20), .ref (ad 21), .ref (ad 22), .ref (ad 23), .ref (ad 24), .ref (ad 25), .ref (ad 26), .ref (ad 27), .int (S 33 0), .int (S 34 0), .int (S 35 0), .ref (ad 28), .ref (ad 29), .ref (ad 30), .ref (ad 31), .ref (ad 32), .ref (ad 33), .int (S 36 0), .ref (ad 34), .ref (ad 35), .int (S 37 0), .ref (ad 36), .int (S 38 0), .int (S 39 0), .int (S 40 0), .int (S 41 0), .int (S 42 0), .int x])) = jb_en G ad (jb_u S 43 0 x) := rfl
theorem jb_s24 (G : jb_Gt) (ad : Nat → Nat) (S : ja_S) (f : Nat → Int32) : (jb_en G ad S).set 9 (ad 9, .inl (G.2 0, 41, .inl f)) = jb_en G ad (jb_sv S 24 f) := rfl
theorem jb_s25 (G : jb_Gt) (ad : Nat → Nat) (S : ja_S) (f : Nat → Int32) : (jb_en G ad S).set 10 (ad 10, .inl (G.2 0, 41, .inl f)) = jb_en G ad (jb_sv S 25 f) := rfl
theorem jb_s26 (G : jb_Gt) (ad : Nat → Nat) (S : ja_S) (f : Nat → Int32) : (jb_en G ad S).set 11 (ad 11, .inl (G.2 1, 41, .inl f)) = jb_en G ad (jb_sv S 26 f) := rfl
theorem jb_s27 (G : jb_Gt) (ad : Nat → Nat) (S : ja_S) (f : Nat → Int32) : (jb_en G ad S).set 12 (ad 12, .inl (G.2 0, 8, .inl f)) = jb_en G ad (jb_sv S 27 f) := rfl
theorem jb_s28 (G : jb_Gt) (ad : Nat → Nat) (S : ja_S) (f : Nat → Int32) : (jb_en G ad S).set 14 (ad 14, .inl (G.2 0, 4, .inl f)) = jb_en G ad (jb_sv S 28 f) := rfl
theorem jb_s29 (G : jb_Gt) (ad : Nat → Nat) (S : ja_S) (f : Nat → Int32) : (jb_en G ad S).set 15 (ad 15, .inl (G.2 0, 5001, .inl f)) = jb_en G ad (jb_sv S 29 f) := rfl
theorem jb_s30 (G : jb_Gt) (ad : Nat → Nat) (S : ja_S) (f : Nat → Int32) : (jb_en G ad S).set 17 (ad 17, .inl (G.2 0, 40, .inl f)) = jb_en G ad (jb_sv S 30 f) := rfl
theorem jb_s31 (G : jb_Gt) (ad : Nat → Nat) (S : ja_S) (f : Nat → Int32) : (jb_en G ad S).set 18 (ad 18, .inl (G.2 0, 40, .inl f)) = jb_en G ad (jb_sv S 31 f) := rfl
theorem jb_s11 (G : jb_Gt) (ad : Nat → Nat) (S : ja_S) {j : Nat} (hj : j < 8) (x : Int32) : (jb_en G ad S).set (38 + j) (ad (38 + j), .inr (0, [.int x, .int (S 12 j), .int (S 13 j), .int (S 14 j), .int (S 15 j), .int (S 16 j)])) = jb_en G ad (jb_u S 11 j x) := by
  unfold jb_en
  rw [List.set_append_right _ _ (by show 38 ≤ 38 + j; omega), show 38 + j - (jb_fx G ad S).length = j from by show 38 + j - 38 = j; omega]
  rw [List.set_append_left _ _ (by simpa using hj), jb_setr (g := jb_pA ad (jb_u S 11 j x)) ?_ ?_]
  · rfl
  · show ((ad (38 + j), .inr (0, [.int (upd (S 11) j x j), .int (S 12 j), .int (S 13 j), .int (S 14 j), .int (S 15 j), .int (S 16 j)])) : Nat × va_E) = _
    rw [pk_us]
  · intro i hi
    show ((ad (38 + i), .inr (0, [.int (upd (S 11) j x i), .int (S 12 i), .int (S 13 i), .int (S 14 i), .int (S 15 i), .int (S 16 i)])) : Nat × va_E) = _
    rw [pk_un hi]
    rfl
theorem jb_s12 (G : jb_Gt) (ad : Nat → Nat) (S : ja_S) {j : Nat} (hj : j < 8) (x : Int32) : (jb_en G ad S).set (38 + j) (ad (38 + j), .inr (0, [.int (S 11 j), .int x, .int (S 13 j), .int (S 14 j), .int (S 15 j), .int (S 16 j)])) = jb_en G ad (jb_u S 12 j x) := by
  unfold jb_en
  rw [List.set_append_right _ _ (by show 38 ≤ 38 + j; omega), show 38 + j - (jb_fx G ad S).length = j from by show 38 + j - 38 = j; omega]
  rw [List.set_append_left _ _ (by simpa using hj), jb_setr (g := jb_pA ad (jb_u S 12 j x)) ?_ ?_]
  · rfl
  · show ((ad (38 + j), .inr (0, [.int (S 11 j), .int (upd (S 12) j x j), .int (S 13 j), .int (S 14 j), .int (S 15 j), .int (S 16 j)])) : Nat × va_E) = _
    rw [pk_us]
  · intro i hi
    show ((ad (38 + i), .inr (0, [.int (S 11 i), .int (upd (S 12) j x i), .int (S 13 i), .int (S 14 i), .int (S 15 i), .int (S 16 i)])) : Nat × va_E) = _
    rw [pk_un hi]
    rfl
theorem jb_s13 (G : jb_Gt) (ad : Nat → Nat) (S : ja_S) {j : Nat} (hj : j < 8) (x : Int32) : (jb_en G ad S).set (38 + j) (ad (38 + j), .inr (0, [.int (S 11 j), .int (S 12 j), .int x, .int (S 14 j), .int (S 15 j), .int (S 16 j)])) = jb_en G ad (jb_u S 13 j x) := by
  unfold jb_en
  rw [List.set_append_right _ _ (by show 38 ≤ 38 + j; omega), show 38 + j - (jb_fx G ad S).length = j from by show 38 + j - 38 = j; omega]
  rw [List.set_append_left _ _ (by simpa using hj), jb_setr (g := jb_pA ad (jb_u S 13 j x)) ?_ ?_]
  · rfl
  · show ((ad (38 + j), .inr (0, [.int (S 11 j), .int (S 12 j), .int (upd (S 13) j x j), .int (S 14 j), .int (S 15 j), .int (S 16 j)])) : Nat × va_E) = _
    rw [pk_us]
  · intro i hi
    show ((ad (38 + i), .inr (0, [.int (S 11 i), .int (S 12 i), .int (upd (S 13) j x i), .int (S 14 i), .int (S 15 i), .int (S 16 i)])) : Nat × va_E) = _
    rw [pk_un hi]
    rfl
theorem jb_s14 (G : jb_Gt) (ad : Nat → Nat) (S : ja_S) {j : Nat} (hj : j < 8) (x : Int32) : (jb_en G ad S).set (38 + j) (ad (38 + j), .inr (0, [.int (S 11 j), .int (S 12 j), .int (S 13 j), .int x, .int (S 15 j), .int (S 16 j)])) = jb_en G ad (jb_u S 14 j x) := by
  unfold jb_en
  rw [List.set_append_right _ _ (by show 38 ≤ 38 + j; omega), show 38 + j - (jb_fx G ad S).length = j from by show 38 + j - 38 = j; omega]
  rw [List.set_append_left _ _ (by simpa using hj), jb_setr (g := jb_pA ad (jb_u S 14 j x)) ?_ ?_]
  · rfl
  · show ((ad (38 + j), .inr (0, [.int (S 11 j), .int (S 12 j), .int (S 13 j), .int (upd (S 14) j x j), .int (S 15 j), .int (S 16 j)])) : Nat × va_E) = _
    rw [pk_us]
  · intro i hi
    show ((ad (38 + i), .inr (0, [.int (S 11 i), .int (S 12 i), .int (S 13 i), .int (upd (S 14) j x i), .int (S 15 i), .int (S 16 i)])) : Nat × va_E) = _
    rw [pk_un hi]
    rfl
theorem jb_s15 (G : jb_Gt) (ad : Nat → Nat) (S : ja_S) {j : Nat} (hj : j < 8) (x : Int32) : (jb_en G ad S).set (38 + j) (ad (38 + j), .inr (0, [.int (S 11 j), .int (S 12 j), .int (S 13 j), .int (S 14 j), .int x, .int (S 16 j)])) = jb_en G ad (jb_u S 15 j x) := by
  unfold jb_en
  rw [List.set_append_right _ _ (by show 38 ≤ 38 + j; omega), show 38 + j - (jb_fx G ad S).length = j from by show 38 + j - 38 = j; omega]
  rw [List.set_append_left _ _ (by simpa using hj), jb_setr (g := jb_pA ad (jb_u S 15 j x)) ?_ ?_]
  · rfl
  · show ((ad (38 + j), .inr (0, [.int (S 11 j), .int (S 12 j), .int (S 13 j), .int (S 14 j), .int (upd (S 15) j x j), .int (S 16 j)])) : Nat × va_E) = _
    rw [pk_us]
  · intro i hi
    show ((ad (38 + i), .inr (0, [.int (S 11 i), .int (S 12 i), .int (S 13 i), .int (S 14 i), .int (upd (S 15) j x i), .int (S 16 i)])) : Nat × va_E) = _
    rw [pk_un hi]
    rfl
theorem jb_s16 (G : jb_Gt) (ad : Nat → Nat) (S : ja_S) {j : Nat} (hj : j < 8) (x : Int32) : (jb_en G ad S).set (38 + j) (ad (38 + j), .inr (0, [.int (S 11 j), .int (S 12 j), .int (S 13 j), .int (S 14 j), .int (S 15 j), .int x])) = jb_en G ad (jb_u S 16 j x) := by
  unfold jb_en
  rw [List.set_append_right _ _ (by show 38 ≤ 38 + j; omega), show 38 + j - (jb_fx G ad S).length = j from by show 38 + j - 38 = j; omega]
  rw [List.set_append_left _ _ (by simpa using hj), jb_setr (g := jb_pA ad (jb_u S 16 j x)) ?_ ?_]
  · rfl
  · show ((ad (38 + j), .inr (0, [.int (S 11 j), .int (S 12 j), .int (S 13 j), .int (S 14 j), .int (S 15 j), .int (upd (S 16) j x j)])) : Nat × va_E) = _
    rw [pk_us]
  · intro i hi
    show ((ad (38 + i), .inr (0, [.int (S 11 i), .int (S 12 i), .int (S 13 i), .int (S 14 i), .int (S 15 i), .int (upd (S 16) j x i)])) : Nat × va_E) = _
    rw [pk_un hi]
    rfl
theorem jb_s17 (G : jb_Gt) (ad : Nat → Nat) (S : ja_S) {j : Nat} (hj : j < 4) (x : Int32) : (jb_en G ad S).set (46 + j) (ad (46 + j), .inr (1, [.int x, .int (S 18 j)])) = jb_en G ad (jb_u S 17 j x) := by
  unfold jb_en
  rw [List.set_append_right _ _ (by show 38 ≤ 46 + j; omega), show 46 + j - (jb_fx G ad S).length = 8 + j from by show 46 + j - 38 = 8 + j; omega]
  rw [List.set_append_right _ _ (by simp), show 8 + j - ((List.range 8).map (jb_pA ad S)).length = j from by simp, List.set_append_left _ _ (by simpa using hj), jb_setr (g := jb_pK ad (jb_u S 17 j x)) ?_ ?_]
  · rfl
  · show ((ad (46 + j), .inr (1, [.int (upd (S 17) j x j), .int (S 18 j)])) : Nat × va_E) = _
    rw [pk_us]
  · intro i hi
    show ((ad (46 + i), .inr (1, [.int (upd (S 17) j x i), .int (S 18 i)])) : Nat × va_E) = _
    rw [pk_un hi]
    rfl
theorem jb_s18 (G : jb_Gt) (ad : Nat → Nat) (S : ja_S) {j : Nat} (hj : j < 4) (x : Int32) : (jb_en G ad S).set (46 + j) (ad (46 + j), .inr (1, [.int (S 17 j), .int x])) = jb_en G ad (jb_u S 18 j x) := by
  unfold jb_en
  rw [List.set_append_right _ _ (by show 38 ≤ 46 + j; omega), show 46 + j - (jb_fx G ad S).length = 8 + j from by show 46 + j - 38 = 8 + j; omega]
  rw [List.set_append_right _ _ (by simp), show 8 + j - ((List.range 8).map (jb_pA ad S)).length = j from by simp, List.set_append_left _ _ (by simpa using hj), jb_setr (g := jb_pK ad (jb_u S 18 j x)) ?_ ?_]
  · rfl
  · show ((ad (46 + j), .inr (1, [.int (S 17 j), .int (upd (S 18) j x j)])) : Nat × va_E) = _
    rw [pk_us]
  · intro i hi
    show ((ad (46 + i), .inr (1, [.int (S 17 i), .int (upd (S 18) j x i)])) : Nat × va_E) = _
    rw [pk_un hi]
    rfl
theorem jb_s19 (G : jb_Gt) (ad : Nat → Nat) (S : ja_S) {j : Nat} (hj : j < 40) (x : Int32) : (jb_en G ad S).set (50 + j) (ad (50 + j), .inr (2, [.int x, .int (S 20 j), .int (S 21 j), .int (S 22 j), .int (S 23 j)])) = jb_en G ad (jb_u S 19 j x) := by
  unfold jb_en
  rw [List.set_append_right _ _ (by show 38 ≤ 50 + j; omega), show 50 + j - (jb_fx G ad S).length = 12 + j from by show 50 + j - 38 = 12 + j; omega]
  rw [List.set_append_right _ _ (by simp; omega), show 12 + j - ((List.range 8).map (jb_pA ad S)).length = 4 + j from by simp; omega, List.set_append_right _ _ (by simp), show 4 + j - ((List.range 4).map (jb_pK ad S)).length = j from by simp, jb_setr (g := jb_pE ad (jb_u S 19 j x)) ?_ ?_]
  · rfl
  · show ((ad (50 + j), .inr (2, [.int (upd (S 19) j x j), .int (S 20 j), .int (S 21 j), .int (S 22 j), .int (S 23 j)])) : Nat × va_E) = _
    rw [pk_us]
  · intro i hi
    show ((ad (50 + i), .inr (2, [.int (upd (S 19) j x i), .int (S 20 i), .int (S 21 i), .int (S 22 i), .int (S 23 i)])) : Nat × va_E) = _
    rw [pk_un hi]
    rfl
theorem jb_s20 (G : jb_Gt) (ad : Nat → Nat) (S : ja_S) {j : Nat} (hj : j < 40) (x : Int32) : (jb_en G ad S).set (50 + j) (ad (50 + j), .inr (2, [.int (S 19 j), .int x, .int (S 21 j), .int (S 22 j), .int (S 23 j)])) = jb_en G ad (jb_u S 20 j x) := by
  unfold jb_en
  rw [List.set_append_right _ _ (by show 38 ≤ 50 + j; omega), show 50 + j - (jb_fx G ad S).length = 12 + j from by show 50 + j - 38 = 12 + j; omega]
  rw [List.set_append_right _ _ (by simp; omega), show 12 + j - ((List.range 8).map (jb_pA ad S)).length = 4 + j from by simp; omega, List.set_append_right _ _ (by simp), show 4 + j - ((List.range 4).map (jb_pK ad S)).length = j from by simp, jb_setr (g := jb_pE ad (jb_u S 20 j x)) ?_ ?_]
  · rfl
  · show ((ad (50 + j), .inr (2, [.int (S 19 j), .int (upd (S 20) j x j), .int (S 21 j), .int (S 22 j), .int (S 23 j)])) : Nat × va_E) = _
    rw [pk_us]
  · intro i hi
    show ((ad (50 + i), .inr (2, [.int (S 19 i), .int (upd (S 20) j x i), .int (S 21 i), .int (S 22 i), .int (S 23 i)])) : Nat × va_E) = _
    rw [pk_un hi]
    rfl
theorem jb_s21 (G : jb_Gt) (ad : Nat → Nat) (S : ja_S) {j : Nat} (hj : j < 40) (x : Int32) : (jb_en G ad S).set (50 + j) (ad (50 + j), .inr (2, [.int (S 19 j), .int (S 20 j), .int x, .int (S 22 j), .int (S 23 j)])) = jb_en G ad (jb_u S 21 j x) := by
  unfold jb_en
  rw [List.set_append_right _ _ (by show 38 ≤ 50 + j; omega), show 50 + j - (jb_fx G ad S).length = 12 + j from by show 50 + j - 38 = 12 + j; omega]
  rw [List.set_append_right _ _ (by simp; omega), show 12 + j - ((List.range 8).map (jb_pA ad S)).length = 4 + j from by simp; omega, List.set_append_right _ _ (by simp), show 4 + j - ((List.range 4).map (jb_pK ad S)).length = j from by simp, jb_setr (g := jb_pE ad (jb_u S 21 j x)) ?_ ?_]
  · rfl
  · show ((ad (50 + j), .inr (2, [.int (S 19 j), .int (S 20 j), .int (upd (S 21) j x j), .int (S 22 j), .int (S 23 j)])) : Nat × va_E) = _
    rw [pk_us]
  · intro i hi
    show ((ad (50 + i), .inr (2, [.int (S 19 i), .int (S 20 i), .int (upd (S 21) j x i), .int (S 22 i), .int (S 23 i)])) : Nat × va_E) = _
    rw [pk_un hi]
    rfl
theorem jb_s22 (G : jb_Gt) (ad : Nat → Nat) (S : ja_S) {j : Nat} (hj : j < 40) (x : Int32) : (jb_en G ad S).set (50 + j) (ad (50 + j), .inr (2, [.int (S 19 j), .int (S 20 j), .int (S 21 j), .int x, .int (S 23 j)])) = jb_en G ad (jb_u S 22 j x) := by
  unfold jb_en
  rw [List.set_append_right _ _ (by show 38 ≤ 50 + j; omega), show 50 + j - (jb_fx G ad S).length = 12 + j from by show 50 + j - 38 = 12 + j; omega]
  rw [List.set_append_right _ _ (by simp; omega), show 12 + j - ((List.range 8).map (jb_pA ad S)).length = 4 + j from by simp; omega, List.set_append_right _ _ (by simp), show 4 + j - ((List.range 4).map (jb_pK ad S)).length = j from by simp, jb_setr (g := jb_pE ad (jb_u S 22 j x)) ?_ ?_]
  · rfl
  · show ((ad (50 + j), .inr (2, [.int (S 19 j), .int (S 20 j), .int (S 21 j), .int (upd (S 22) j x j), .int (S 23 j)])) : Nat × va_E) = _
    rw [pk_us]
  · intro i hi
    show ((ad (50 + i), .inr (2, [.int (S 19 i), .int (S 20 i), .int (S 21 i), .int (upd (S 22) j x i), .int (S 23 i)])) : Nat × va_E) = _
    rw [pk_un hi]
    rfl
theorem jb_s23 (G : jb_Gt) (ad : Nat → Nat) (S : ja_S) {j : Nat} (hj : j < 40) (x : Int32) : (jb_en G ad S).set (50 + j) (ad (50 + j), .inr (2, [.int (S 19 j), .int (S 20 j), .int (S 21 j), .int (S 22 j), .int x])) = jb_en G ad (jb_u S 23 j x) := by
  unfold jb_en
  rw [List.set_append_right _ _ (by show 38 ≤ 50 + j; omega), show 50 + j - (jb_fx G ad S).length = 12 + j from by show 50 + j - 38 = 12 + j; omega]
  rw [List.set_append_right _ _ (by simp; omega), show 12 + j - ((List.range 8).map (jb_pA ad S)).length = 4 + j from by simp; omega, List.set_append_right _ _ (by simp), show 4 + j - ((List.range 4).map (jb_pK ad S)).length = j from by simp, jb_setr (g := jb_pE ad (jb_u S 23 j x)) ?_ ?_]
  · rfl
  · show ((ad (50 + j), .inr (2, [.int (S 19 j), .int (S 20 j), .int (S 21 j), .int (S 22 j), .int (upd (S 23) j x j)])) : Nat × va_E) = _
    rw [pk_us]
  · intro i hi
    show ((ad (50 + i), .inr (2, [.int (S 19 i), .int (S 20 i), .int (S 21 i), .int (S 22 i), .int (upd (S 23) j x i)])) : Nat × va_E) = _
    rw [pk_un hi]
    rfl
def jb_W (G : jb_Gt) (ad : Nat → Nat) : ja_S → Heap → Prop := fun S H => va_P G.1 jb_cl (jb_en G ad S) H
/-- what a method's entry s knows of the law's entry s0: the tables are warmer, the old cells are as they were -/
def jb_X (s0 s : State) (G : jb_Gt) (ad : Nat → Nat) : Prop := s0.WarmedH s.vm ∧ va_K G.1 jb_cl (jb_ty G.2) s ∧ jb_D s0.heap.size ad ∧ s0.heap.size ≤ s.heap.size ∧ ∀ q, q < s0.heap.size → s.heap[q]? = s0.heap[q]?
section JB
variable {p : Program} {l : Launch} {e : Env} {R : Room} {s s0 : State} {m : MethodId} {args : Array Value} {below : List Frame} {meth : Method} {c : Code} {G : jb_Gt} {ad : Nat → Nat} {nL cells slots : Nat} {Q : State → Prop} {S : ja_S} {pc q : Nat} {L : List (Nat × Value)} {st : List Value} {cc : ByteArray} {own : String}
theorem jb_get (O : CallFix p m c cc nL s args ja_T own ∧ jb_X s0 s G ad) {i ci k N index : Nat} {C : String} {T : u_T} {fs : List Value} {v : Value} (he : (jb_en G ad S)[i]? = some (ad i, .inr (ci, fs))) (hc : jb_cl[ci]? = some (C, T, N)) (hin : ∀ w ∈ u_ws C T N, w ∈ ja_T) (hk : k < N) (hl : Cond.fieldLink own index (T k).1 (T k).2.1 (T k).2.2.1 ∈ ja_T) (hv : fs[k]? = some v)
    (hd : decode cc pc = .ok (.getfield index, 3)) (hp : pc + 3 = q) (kk : ja_V p l e R s m args below meth c (jb_W G ad) s0.heap.size nL cells slots Q S q L (v :: st)) : ja_V p l e R s m args below meth c (jb_W G ad) s0.heap.size nL cells slots Q S pc L (.ref (ad i) :: st) := by
  subst hp
  exact fun ls H locs hL hP hS => va_get O.1.1 O.1.2.1 O.1.2.2.2.2 hin O.1.2.2.2.1 O.2.2.1 hP i he hc k hk (O.1.2.2.2.2 _ hl) (fun _ h => h) hv hd (kk ls H locs hL hP hS)
theorem jb_put (O : CallFix p m c cc nL s args ja_T own ∧ jb_X s0 s G ad) {i ci k N index : Nat} {C : String} {T : u_T} {fs : List Value} {v : Value} {S' : ja_S} {ty : FieldType} (he : (jb_en G ad S)[i]? = some (ad i, .inr (ci, fs))) (hc : jb_cl[ci]? = some (C, T, N)) (hin : ∀ w ∈ u_ws C T N, w ∈ ja_T) (ty0 : Nat → FieldType) (hty : ∀ k, k < N → parseFieldDescriptor (T k).2.2.1 = some (ty0 k)) (hnm : ∀ a, a < N → ∀ b, b < N → a ≠ b → (T a).2.1 ≠ (T b).2.1) (hk : k < N) (hl : Cond.fieldLink own index (T k).1 (T k).2.1 (T k).2.2.1 ∈ ja_T) (hf : (T k).2.2.2 = false) (hd0 : parseFieldDescriptor (T k).2.2.1 = some ty) (hn : narrow ty v = v) (hfit : fits ty v = true) (hlen : k < fs.length) (hset : (jb_en G ad S).set i (ad i, .inr (ci, fs.set k v)) = jb_en G ad S')
    (hd : decode cc pc = .ok (.putfield index, 3)) (hp : pc + 3 = q) (kk : ja_V p l e R s m args below meth c (jb_W G ad) s0.heap.size nL cells slots Q S' q L st) : ja_V p l e R s m args below meth c (jb_W G ad) s0.heap.size nL cells slots Q S pc L (v :: .ref (ad i) :: st) := by
  subst hp
  exact fun ls H locs hL hP hS => va_put O.1.1 O.1.2.1 O.1.2.2.2.2 hin ty0 hty hnm O.1.2.2.2.1 O.2.2.1 hP (O.2.2.2.1.va S) hS i he hc k hk (O.1.2.2.2.2 _ hl) (fun _ h => h) hf hd0 hn hfit hlen hd (fun H1 locs1 hP1 _ hS1 => kk ls H1 locs1 hL (show va_P G.1 jb_cl (jb_en G ad S') H1 by rw [← hset]; exact hP1) hS1)
theorem jb_nb {x : Int32} (h : x = 0 ∨ x = 1) : narrow .boolean (.int x) = .int x := by rcases h with rfl | rfl <;> rfl
theorem jb_fb {x : Int32} (h : x = 0 ∨ x = 1) : fits .boolean (.int x) = true := by rcases h with rfl | rfl <;> decide
theorem jb_vb {x : Int32} (h : x = 0 ∨ x = 1) : vp_nar .boolean x = x := by rcases h with rfl | rfl <;> rfl
theorem jg_A_9 (O : CallFix p m c cc nL s args ja_T "CashMachine$Account" ∧ jb_X s0 s G ad) {j : Nat} (hj : j < 8) (hd : decode cc pc = .ok (.getfield 9, 3)) (hp : pc + 3 = q) (kk : ja_V p l e R s m args below meth c (jb_W G ad) s0.heap.size nL cells slots Q S q L (.int (S 11 j) :: st)) : ja_V p l e R s m args below meth c (jb_W G ad) s0.heap.size nL cells slots Q S pc L (.ref (ad (38 + j)) :: st) :=
  jb_get O (k := 0) (jb_kA G ad S hj) rfl jx_A (by decide) jw_44 rfl hd hp kk
theorem jp_A_9 (O : CallFix p m c cc nL s args ja_T "CashMachine$Account" ∧ jb_X s0 s G ad) {j : Nat} (hj : j < 8) {x : Int32} (hx : x = 0 ∨ x = 1) (hd : decode cc pc = .ok (.putfield 9, 3)) (hp : pc + 3 = q) (kk : ja_V p l e R s m args below meth c (jb_W G ad) s0.heap.size nL cells slots Q (jb_u S 11 j x) q L st) : ja_V p l e R s m args below meth c (jb_W G ad) s0.heap.size nL cells slots Q S pc L (.int x :: .ref (ad (38 + j)) :: st) :=
  jb_put O (k := 0) (ty := .boolean) (jb_kA G ad S hj) rfl jx_A jq_A jk_A jn_A (by decide) jw_44 rfl (by decide +kernel) (jb_nb hx) (jb_fb hx) (Nat.le_of_ble_eq_true rfl) (jb_s11 G ad S hj x) hd hp kk
theorem jg_H_33 (O : CallFix p m c cc nL s args ja_T "CashMachine$Host" ∧ jb_X s0 s G ad) {j : Nat} (hj : j < 8) (hd : decode cc pc = .ok (.getfield 33, 3)) (hp : pc + 3 = q) (kk : ja_V p l e R s m args below meth c (jb_W G ad) s0.heap.size nL cells slots Q S q L (.int (S 11 j) :: st)) : ja_V p l e R s m args below meth c (jb_W G ad) s0.heap.size nL cells slots Q S pc L (.ref (ad (38 + j)) :: st) :=
  jb_get O (k := 0) (jb_kA G ad S hj) rfl jx_A (by decide) jw_45 rfl hd hp kk
theorem jp_H_33 (O : CallFix p m c cc nL s args ja_T "CashMachine$Host" ∧ jb_X s0 s G ad) {j : Nat} (hj : j < 8) {x : Int32} (hx : x = 0 ∨ x = 1) (hd : decode cc pc = .ok (.putfield 33, 3)) (hp : pc + 3 = q) (kk : ja_V p l e R s m args below meth c (jb_W G ad) s0.heap.size nL cells slots Q (jb_u S 11 j x) q L st) : ja_V p l e R s m args below meth c (jb_W G ad) s0.heap.size nL cells slots Q S pc L (.int x :: .ref (ad (38 + j)) :: st) :=
  jb_put O (k := 0) (ty := .boolean) (jb_kA G ad S hj) rfl jx_A jq_A jk_A jn_A (by decide) jw_45 rfl (by decide +kernel) (jb_nb hx) (jb_fb hx) (Nat.le_of_ble_eq_true rfl) (jb_s11 G ad S hj x) hd hp kk
theorem jg_A_15 (O : CallFix p m c cc nL s args ja_T "CashMachine$Account" ∧ jb_X s0 s G ad) {j : Nat} (hj : j < 8) (hd : decode cc pc = .ok (.getfield 15, 3)) (hp : pc + 3 = q) (kk : ja_V p l e R s m args below meth c (jb_W G ad) s0.heap.size nL cells slots Q S q L (.int (S 12 j) :: st)) : ja_V p l e R s m args below meth c (jb_W G ad) s0.heap.size nL cells slots Q S pc L (.ref (ad (38 + j)) :: st) :=
  jb_get O (k := 1) (jb_kA G ad S hj) rfl jx_A (by decide) jw_46 rfl hd hp kk
theorem jp_A_15 (O : CallFix p m c cc nL s args ja_T "CashMachine$Account" ∧ jb_X s0 s G ad) {j : Nat} (hj : j < 8) {x : Int32} (hd : decode cc pc = .ok (.putfield 15, 3)) (hp : pc + 3 = q) (kk : ja_V p l e R s m args below meth c (jb_W G ad) s0.heap.size nL cells slots Q (jb_u S 12 j x) q L st) : ja_V p l e R s m args below meth c (jb_W G ad) s0.heap.size nL cells slots Q S pc L (.int x :: .ref (ad (38 + j)) :: st) :=
  jb_put O (k := 1) (ty := .int) (jb_kA G ad S hj) rfl jx_A jq_A jk_A jn_A (by decide) jw_46 rfl (by decide +kernel) rfl rfl (Nat.le_of_ble_eq_true rfl) (jb_s12 G ad S hj x) hd hp kk
theorem jg_H_37 (O : CallFix p m c cc nL s args ja_T "CashMachine$Host" ∧ jb_X s0 s G ad) {j : Nat} (hj : j < 8) (hd : decode cc pc = .ok (.getfield 37, 3)) (hp : pc + 3 = q) (kk : ja_V p l e R s m args below meth c (jb_W G ad) s0.heap.size nL cells slots Q S q L (.int (S 12 j) :: st)) : ja_V p l e R s m args below meth c (jb_W G ad) s0.heap.size nL cells slots Q S pc L (.ref (ad (38 + j)) :: st) :=
  jb_get O (k := 1) (jb_kA G ad S hj) rfl jx_A (by decide) jw_47 rfl hd hp kk
theorem jp_H_37 (O : CallFix p m c cc nL s args ja_T "CashMachine$Host" ∧ jb_X s0 s G ad) {j : Nat} (hj : j < 8) {x : Int32} (hd : decode cc pc = .ok (.putfield 37, 3)) (hp : pc + 3 = q) (kk : ja_V p l e R s m args below meth c (jb_W G ad) s0.heap.size nL cells slots Q (jb_u S 12 j x) q L st) : ja_V p l e R s m args below meth c (jb_W G ad) s0.heap.size nL cells slots Q S pc L (.int x :: .ref (ad (38 + j)) :: st) :=
  jb_put O (k := 1) (ty := .int) (jb_kA G ad S hj) rfl jx_A jq_A jk_A jn_A (by decide) jw_47 rfl (by decide +kernel) rfl rfl (Nat.le_of_ble_eq_true rfl) (jb_s12 G ad S hj x) hd hp kk
theorem jg_A_19 (O : CallFix p m c cc nL s args ja_T "CashMachine$Account" ∧ jb_X s0 s G ad) {j : Nat} (hj : j < 8) (hd : decode cc pc = .ok (.getfield 19, 3)) (hp : pc + 3 = q) (kk : ja_V p l e R s m args below meth c (jb_W G ad) s0.heap.size nL cells slots Q S q L (.int (S 13 j) :: st)) : ja_V p l e R s m args below meth c (jb_W G ad) s0.heap.size nL cells slots Q S pc L (.ref (ad (38 + j)) :: st) :=
  jb_get O (k := 2) (jb_kA G ad S hj) rfl jx_A (by decide) jw_48 rfl hd hp kk
theorem jp_A_19 (O : CallFix p m c cc nL s args ja_T "CashMachine$Account" ∧ jb_X s0 s G ad) {j : Nat} (hj : j < 8) {x : Int32} (hd : decode cc pc = .ok (.putfield 19, 3)) (hp : pc + 3 = q) (kk : ja_V p l e R s m args below meth c (jb_W G ad) s0.heap.size nL cells slots Q (jb_u S 13 j x) q L st) : ja_V p l e R s m args below meth c (jb_W G ad) s0.heap.size nL cells slots Q S pc L (.int x :: .ref (ad (38 + j)) :: st) :=
  jb_put O (k := 2) (ty := .int) (jb_kA G ad S hj) rfl jx_A jq_A jk_A jn_A (by decide) jw_48 rfl (by decide +kernel) rfl rfl (Nat.le_of_ble_eq_true rfl) (jb_s13 G ad S hj x) hd hp kk
theorem jg_H_41 (O : CallFix p m c cc nL s args ja_T "CashMachine$Host" ∧ jb_X s0 s G ad) {j : Nat} (hj : j < 8) (hd : decode cc pc = .ok (.getfield 41, 3)) (hp : pc + 3 = q) (kk : ja_V p l e R s m args below meth c (jb_W G ad) s0.heap.size nL cells slots Q S q L (.int (S 13 j) :: st)) : ja_V p l e R s m args below meth c (jb_W G ad) s0.heap.size nL cells slots Q S pc L (.ref (ad (38 + j)) :: st) :=
  jb_get O (k := 2) (jb_kA G ad S hj) rfl jx_A (by decide) jw_49 rfl hd hp kk
theorem jp_H_41 (O : CallFix p m c cc nL s args ja_T "CashMachine$Host" ∧ jb_X s0 s G ad) {j : Nat} (hj : j < 8) {x : Int32} (hd : decode cc pc = .ok (.putfield 41, 3)) (hp : pc + 3 = q) (kk : ja_V p l e R s m args below meth c (jb_W G ad) s0.heap.size nL cells slots Q (jb_u S 13 j x) q L st) : ja_V p l e R s m args below meth c (jb_W G ad) s0.heap.size nL cells slots Q S pc L (.int x :: .ref (ad (38 + j)) :: st) :=
  jb_put O (k := 2) (ty := .int) (jb_kA G ad S hj) rfl jx_A jq_A jk_A jn_A (by decide) jw_49 rfl (by decide +kernel) rfl rfl (Nat.le_of_ble_eq_true rfl) (jb_s13 G ad S hj x) hd hp kk
theorem jg_A_22 (O : CallFix p m c cc nL s args ja_T "CashMachine$Account" ∧ jb_X s0 s G ad) {j : Nat} (hj : j < 8) (hd : decode cc pc = .ok (.getfield 22, 3)) (hp : pc + 3 = q) (kk : ja_V p l e R s m args below meth c (jb_W G ad) s0.heap.size nL cells slots Q S q L (.int (S 14 j) :: st)) : ja_V p l e R s m args below meth c (jb_W G ad) s0.heap.size nL cells slots Q S pc L (.ref (ad (38 + j)) :: st) :=
  jb_get O (k := 3) (jb_kA G ad S hj) rfl jx_A (by decide) jw_50 rfl hd hp kk
theorem jp_A_22 (O : CallFix p m c cc nL s args ja_T "CashMachine$Account" ∧ jb_X s0 s G ad) {j : Nat} (hj : j < 8) {x : Int32} (hd : decode cc pc = .ok (.putfield 22, 3)) (hp : pc + 3 = q) (kk : ja_V p l e R s m args below meth c (jb_W G ad) s0.heap.size nL cells slots Q (jb_u S 14 j x) q L st) : ja_V p l e R s m args below meth c (jb_W G ad) s0.heap.size nL cells slots Q S pc L (.int x :: .ref (ad (38 + j)) :: st) :=
  jb_put O (k := 3) (ty := .int) (jb_kA G ad S hj) rfl jx_A jq_A jk_A jn_A (by decide) jw_50 rfl (by decide +kernel) rfl rfl (Nat.le_of_ble_eq_true rfl) (jb_s14 G ad S hj x) hd hp kk
theorem jg_H_44 (O : CallFix p m c cc nL s args ja_T "CashMachine$Host" ∧ jb_X s0 s G ad) {j : Nat} (hj : j < 8) (hd : decode cc pc = .ok (.getfield 44, 3)) (hp : pc + 3 = q) (kk : ja_V p l e R s m args below meth c (jb_W G ad) s0.heap.size nL cells slots Q S q L (.int (S 14 j) :: st)) : ja_V p l e R s m args below meth c (jb_W G ad) s0.heap.size nL cells slots Q S pc L (.ref (ad (38 + j)) :: st) :=
  jb_get O (k := 3) (jb_kA G ad S hj) rfl jx_A (by decide) jw_51 rfl hd hp kk
theorem jp_H_44 (O : CallFix p m c cc nL s args ja_T "CashMachine$Host" ∧ jb_X s0 s G ad) {j : Nat} (hj : j < 8) {x : Int32} (hd : decode cc pc = .ok (.putfield 44, 3)) (hp : pc + 3 = q) (kk : ja_V p l e R s m args below meth c (jb_W G ad) s0.heap.size nL cells slots Q (jb_u S 14 j x) q L st) : ja_V p l e R s m args below meth c (jb_W G ad) s0.heap.size nL cells slots Q S pc L (.int x :: .ref (ad (38 + j)) :: st) :=
  jb_put O (k := 3) (ty := .int) (jb_kA G ad S hj) rfl jx_A jq_A jk_A jn_A (by decide) jw_51 rfl (by decide +kernel) rfl rfl (Nat.le_of_ble_eq_true rfl) (jb_s14 G ad S hj x) hd hp kk
theorem jg_C_159 (O : CallFix p m c cc nL s args ja_T "CashMachine" ∧ jb_X s0 s G ad) {j : Nat} (hj : j < 8) (hd : decode cc pc = .ok (.getfield 159, 3)) (hp : pc + 3 = q) (kk : ja_V p l e R s m args below meth c (jb_W G ad) s0.heap.size nL cells slots Q S q L (.int (S 14 j) :: st)) : ja_V p l e R s m args below meth c (jb_W G ad) s0.heap.size nL cells slots Q S pc L (.ref (ad (38 + j)) :: st) :=
  jb_get O (k := 3) (jb_kA G ad S hj) rfl jx_A (by decide) jw_52 rfl hd hp kk
theorem jp_C_159 (O : CallFix p m c cc nL s args ja_T "CashMachine" ∧ jb_X s0 s G ad) {j : Nat} (hj : j < 8) {x : Int32} (hd : decode cc pc = .ok (.putfield 159, 3)) (hp : pc + 3 = q) (kk : ja_V p l e R s m args below meth c (jb_W G ad) s0.heap.size nL cells slots Q (jb_u S 14 j x) q L st) : ja_V p l e R s m args below meth c (jb_W G ad) s0.heap.size nL cells slots Q S pc L (.int x :: .ref (ad (38 + j)) :: st) :=
  jb_put O (k := 3) (ty := .int) (jb_kA G ad S hj) rfl jx_A jq_A jk_A jn_A (by decide) jw_52 rfl (by decide +kernel) rfl rfl (Nat.le_of_ble_eq_true rfl) (jb_s14 G ad S hj x) hd hp kk
theorem jg_A_25 (O : CallFix p m c cc nL s args ja_T "CashMachine$Account" ∧ jb_X s0 s G ad) {j : Nat} (hj : j < 8) (hd : decode cc pc = .ok (.getfield 25, 3)) (hp : pc + 3 = q) (kk : ja_V p l e R s m args below meth c (jb_W G ad) s0.heap.size nL cells slots Q S q L (.int (S 15 j) :: st)) : ja_V p l e R s m args below meth c (jb_W G ad) s0.heap.size nL cells slots Q S pc L (.ref (ad (38 + j)) :: st) :=
  jb_get O (k := 4) (jb_kA G ad S hj) rfl jx_A (by decide) jw_53 rfl hd hp kk
theorem jp_A_25 (O : CallFix p m c cc nL s args ja_T "CashMachine$Account" ∧ jb_X s0 s G ad) {j : Nat} (hj : j < 8) {x : Int32} (hd : decode cc pc = .ok (.putfield 25, 3)) (hp : pc + 3 = q) (kk : ja_V p l e R s m args below meth c (jb_W G ad) s0.heap.size nL cells slots Q (jb_u S 15 j x) q L st) : ja_V p l e R s m args below meth c (jb_W G ad) s0.heap.size nL cells slots Q S pc L (.int x :: .ref (ad (38 + j)) :: st) :=
  jb_put O (k := 4) (ty := .int) (jb_kA G ad S hj) rfl jx_A jq_A jk_A jn_A (by decide) jw_53 rfl (by decide +kernel) rfl rfl (Nat.le_of_ble_eq_true rfl) (jb_s15 G ad S hj x) hd hp kk
theorem jg_C_100 (O : CallFix p m c cc nL s args ja_T "CashMachine" ∧ jb_X s0 s G ad) {j : Nat} (hj : j < 8) (hd : decode cc pc = .ok (.getfield 100, 3)) (hp : pc + 3 = q) (kk : ja_V p l e R s m args below meth c (jb_W G ad) s0.heap.size nL cells slots Q S q L (.int (S 15 j) :: st)) : ja_V p l e R s m args below meth c (jb_W G ad) s0.heap.size nL cells slots Q S pc L (.ref (ad (38 + j)) :: st) :=
  jb_get O (k := 4) (jb_kA G ad S hj) rfl jx_A (by decide) jw_54 rfl hd hp kk
theorem jp_C_100 (O : CallFix p m c cc nL s args ja_T "CashMachine" ∧ jb_X s0 s G ad) {j : Nat} (hj : j < 8) {x : Int32} (hd : decode cc pc = .ok (.putfield 100, 3)) (hp : pc + 3 = q) (kk : ja_V p l e R s m args below meth c (jb_W G ad) s0.heap.size nL cells slots Q (jb_u S 15 j x) q L st) : ja_V p l e R s m args below meth c (jb_W G ad) s0.heap.size nL cells slots Q S pc L (.int x :: .ref (ad (38 + j)) :: st) :=
  jb_put O (k := 4) (ty := .int) (jb_kA G ad S hj) rfl jx_A jq_A jk_A jn_A (by decide) jw_54 rfl (by decide +kernel) rfl rfl (Nat.le_of_ble_eq_true rfl) (jb_s15 G ad S hj x) hd hp kk
theorem jg_A_28 (O : CallFix p m c cc nL s args ja_T "CashMachine$Account" ∧ jb_X s0 s G ad) {j : Nat} (hj : j < 8) (hd : decode cc pc = .ok (.getfield 28, 3)) (hp : pc + 3 = q) (kk : ja_V p l e R s m args below meth c (jb_W G ad) s0.heap.size nL cells slots Q S q L (.int (S 16 j) :: st)) : ja_V p l e R s m args below meth c (jb_W G ad) s0.heap.size nL cells slots Q S pc L (.ref (ad (38 + j)) :: st) :=
  jb_get O (k := 5) (jb_kA G ad S hj) rfl jx_A (by decide) jw_55 rfl hd hp kk
theorem jp_A_28 (O : CallFix p m c cc nL s args ja_T "CashMachine$Account" ∧ jb_X s0 s G ad) {j : Nat} (hj : j < 8) {x : Int32} (hx : x = 0 ∨ x = 1) (hd : decode cc pc = .ok (.putfield 28, 3)) (hp : pc + 3 = q) (kk : ja_V p l e R s m args below meth c (jb_W G ad) s0.heap.size nL cells slots Q (jb_u S 16 j x) q L st) : ja_V p l e R s m args below meth c (jb_W G ad) s0.heap.size nL cells slots Q S pc L (.int x :: .ref (ad (38 + j)) :: st) :=
  jb_put O (k := 5) (ty := .boolean) (jb_kA G ad S hj) rfl jx_A jq_A jk_A jn_A (by decide) jw_55 rfl (by decide +kernel) (jb_nb hx) (jb_fb hx) (Nat.le_of_ble_eq_true rfl) (jb_s16 G ad S hj x) hd hp kk
theorem jg_C_92 (O : CallFix p m c cc nL s args ja_T "CashMachine" ∧ jb_X s0 s G ad) {j : Nat} (hj : j < 8) (hd : decode cc pc = .ok (.getfield 92, 3)) (hp : pc + 3 = q) (kk : ja_V p l e R s m args below meth c (jb_W G ad) s0.heap.size nL cells slots Q S q L (.int (S 16 j) :: st)) : ja_V p l e R s m args below meth c (jb_W G ad) s0.heap.size nL cells slots Q S pc L (.ref (ad (38 + j)) :: st) :=
  jb_get O (k := 5) (jb_kA G ad S hj) rfl jx_A (by decide) jw_56 rfl hd hp kk
theorem jp_C_92 (O : CallFix p m c cc nL s args ja_T "CashMachine" ∧ jb_X s0 s G ad) {j : Nat} (hj : j < 8) {x : Int32} (hx : x = 0 ∨ x = 1) (hd : decode cc pc = .ok (.putfield 92, 3)) (hp : pc + 3 = q) (kk : ja_V p l e R s m args below meth c (jb_W G ad) s0.heap.size nL cells slots Q (jb_u S 16 j x) q L st) : ja_V p l e R s m args below meth c (jb_W G ad) s0.heap.size nL cells slots Q S pc L (.int x :: .ref (ad (38 + j)) :: st) :=
  jb_put O (k := 5) (ty := .boolean) (jb_kA G ad S hj) rfl jx_A jq_A jk_A jn_A (by decide) jw_56 rfl (by decide +kernel) (jb_nb hx) (jb_fb hx) (Nat.le_of_ble_eq_true rfl) (jb_s16 G ad S hj x) hd hp kk
theorem jg_H_51 (O : CallFix p m c cc nL s args ja_T "CashMachine$Host" ∧ jb_X s0 s G ad) {j : Nat} (hj : j < 8) (hd : decode cc pc = .ok (.getfield 51, 3)) (hp : pc + 3 = q) (kk : ja_V p l e R s m args below meth c (jb_W G ad) s0.heap.size nL cells slots Q S q L (.int (S 16 j) :: st)) : ja_V p l e R s m args below meth c (jb_W G ad) s0.heap.size nL cells slots Q S pc L (.ref (ad (38 + j)) :: st) :=
  jb_get O (k := 5) (jb_kA G ad S hj) rfl jx_A (by decide) jw_57 rfl hd hp kk
theorem jp_H_51 (O : CallFix p m c cc nL s args ja_T "CashMachine$Host" ∧ jb_X s0 s G ad) {j : Nat} (hj : j < 8) {x : Int32} (hx : x = 0 ∨ x = 1) (hd : decode cc pc = .ok (.putfield 51, 3)) (hp : pc + 3 = q) (kk : ja_V p l e R s m args below meth c (jb_W G ad) s0.heap.size nL cells slots Q (jb_u S 16 j x) q L st) : ja_V p l e R s m args below meth c (jb_W G ad) s0.heap.size nL cells slots Q S pc L (.int x :: .ref (ad (38 + j)) :: st) :=
  jb_put O (k := 5) (ty := .boolean) (jb_kA G ad S hj) rfl jx_A jq_A jk_A jn_A (by decide) jw_57 rfl (by decide +kernel) (jb_nb hx) (jb_fb hx) (Nat.le_of_ble_eq_true rfl) (jb_s16 G ad S hj x) hd hp kk
theorem jg_H_11 (O : CallFix p m c cc nL s args ja_T "CashMachine$Host" ∧ jb_X s0 s G ad) (hd : decode cc pc = .ok (.getfield 11, 3)) (hp : pc + 3 = q) (kk : ja_V p l e R s m args below meth c (jb_W G ad) s0.heap.size nL cells slots Q S q L (.ref (ad 8) :: st)) : ja_V p l e R s m args below meth c (jb_W G ad) s0.heap.size nL cells slots Q S pc L (.ref (ad (1)) :: st) :=
  jb_get O (k := 0) rfl rfl jx_H (by decide) jw_73 rfl hd hp kk
theorem jg_C_88 (O : CallFix p m c cc nL s args ja_T "CashMachine" ∧ jb_X s0 s G ad) (hd : decode cc pc = .ok (.getfield 88, 3)) (hp : pc + 3 = q) (kk : ja_V p l e R s m args below meth c (jb_W G ad) s0.heap.size nL cells slots Q S q L (.ref (ad 8) :: st)) : ja_V p l e R s m args below meth c (jb_W G ad) s0.heap.size nL cells slots Q S pc L (.ref (ad (1)) :: st) :=
  jb_get O (k := 0) rfl rfl jx_H (by decide) jw_74 rfl hd hp kk
theorem jg_H_17 (O : CallFix p m c cc nL s args ja_T "CashMachine$Host" ∧ jb_X s0 s G ad) (hd : decode cc pc = .ok (.getfield 17, 3)) (hp : pc + 3 = q) (kk : ja_V p l e R s m args below meth c (jb_W G ad) s0.heap.size nL cells slots Q S q L (.ref (ad 9) :: st)) : ja_V p l e R s m args below meth c (jb_W G ad) s0.heap.size nL cells slots Q S pc L (.ref (ad (1)) :: st) :=
  jb_get O (k := 1) rfl rfl jx_H (by decide) jw_75 rfl hd hp kk
theorem jg_H_21 (O : CallFix p m c cc nL s args ja_T "CashMachine$Host" ∧ jb_X s0 s G ad) (hd : decode cc pc = .ok (.getfield 21, 3)) (hp : pc + 3 = q) (kk : ja_V p l e R s m args below meth c (jb_W G ad) s0.heap.size nL cells slots Q S q L (.ref (ad 10) :: st)) : ja_V p l e R s m args below meth c (jb_W G ad) s0.heap.size nL cells slots Q S pc L (.ref (ad (1)) :: st) :=
  jb_get O (k := 2) rfl rfl jx_H (by decide) jw_76 rfl hd hp kk
theorem jg_H_24 (O : CallFix p m c cc nL s args ja_T "CashMachine$Host" ∧ jb_X s0 s G ad) (hd : decode cc pc = .ok (.getfield 24, 3)) (hp : pc + 3 = q) (kk : ja_V p l e R s m args below meth c (jb_W G ad) s0.heap.size nL cells slots Q S q L (.ref (ad 11) :: st)) : ja_V p l e R s m args below meth c (jb_W G ad) s0.heap.size nL cells slots Q S pc L (.ref (ad (1)) :: st) :=
  jb_get O (k := 3) rfl rfl jx_H (by decide) jw_77 rfl hd hp kk
theorem jg_N_9 (O : CallFix p m c cc nL s args ja_T "CashMachine$Line" ∧ jb_X s0 s G ad) (hd : decode cc pc = .ok (.getfield 9, 3)) (hp : pc + 3 = q) (kk : ja_V p l e R s m args below meth c (jb_W G ad) s0.heap.size nL cells slots Q S q L (.ref (ad 12) :: st)) : ja_V p l e R s m args below meth c (jb_W G ad) s0.heap.size nL cells slots Q S pc L (.ref (ad (2)) :: st) :=
  jb_get O (k := 0) rfl rfl jx_N (by decide) jw_93 rfl hd hp kk
theorem jg_N_15 (O : CallFix p m c cc nL s args ja_T "CashMachine$Line" ∧ jb_X s0 s G ad) (hd : decode cc pc = .ok (.getfield 15, 3)) (hp : pc + 3 = q) (kk : ja_V p l e R s m args below meth c (jb_W G ad) s0.heap.size nL cells slots Q S q L (.int (S 4 0) :: st)) : ja_V p l e R s m args below meth c (jb_W G ad) s0.heap.size nL cells slots Q S pc L (.ref (ad (2)) :: st) :=
  jb_get O (k := 1) rfl rfl jx_N (by decide) jw_94 rfl hd hp kk
theorem jp_N_15 (O : CallFix p m c cc nL s args ja_T "CashMachine$Line" ∧ jb_X s0 s G ad) {x : Int32} (hd : decode cc pc = .ok (.putfield 15, 3)) (hp : pc + 3 = q) (kk : ja_V p l e R s m args below meth c (jb_W G ad) s0.heap.size nL cells slots Q (jb_u S 4 0 x) q L st) : ja_V p l e R s m args below meth c (jb_W G ad) s0.heap.size nL cells slots Q S pc L (.int x :: .ref (ad (2)) :: st) :=
  jb_put O (k := 1) (ty := .int) rfl rfl jx_N jq_N jk_N jn_N (by decide) jw_94 rfl (by decide +kernel) rfl rfl (Nat.le_of_ble_eq_true rfl) (jb_s4 G ad S x) hd hp kk
theorem jg_C_136 (O : CallFix p m c cc nL s args ja_T "CashMachine" ∧ jb_X s0 s G ad) (hd : decode cc pc = .ok (.getfield 136, 3)) (hp : pc + 3 = q) (kk : ja_V p l e R s m args below meth c (jb_W G ad) s0.heap.size nL cells slots Q S q L (.int (S 4 0) :: st)) : ja_V p l e R s m args below meth c (jb_W G ad) s0.heap.size nL cells slots Q S pc L (.ref (ad (2)) :: st) :=
  jb_get O (k := 1) rfl rfl jx_N (by decide) jw_95 rfl hd hp kk
theorem jp_C_136 (O : CallFix p m c cc nL s args ja_T "CashMachine" ∧ jb_X s0 s G ad) {x : Int32} (hd : decode cc pc = .ok (.putfield 136, 3)) (hp : pc + 3 = q) (kk : ja_V p l e R s m args below meth c (jb_W G ad) s0.heap.size nL cells slots Q (jb_u S 4 0 x) q L st) : ja_V p l e R s m args below meth c (jb_W G ad) s0.heap.size nL cells slots Q S pc L (.int x :: .ref (ad (2)) :: st) :=
  jb_put O (k := 1) (ty := .int) rfl rfl jx_N jq_N jk_N jn_N (by decide) jw_95 rfl (by decide +kernel) rfl rfl (Nat.le_of_ble_eq_true rfl) (jb_s4 G ad S x) hd hp kk
theorem jg_X_9 (O : CallFix p m c cc nL s args ja_T "CashMachine$Mix" ∧ jb_X s0 s G ad) (hd : decode cc pc = .ok (.getfield 9, 3)) (hp : pc + 3 = q) (kk : ja_V p l e R s m args below meth c (jb_W G ad) s0.heap.size nL cells slots Q S q L (.ref (ad 14) :: st)) : ja_V p l e R s m args below meth c (jb_W G ad) s0.heap.size nL cells slots Q S pc L (.ref (ad (6)) :: st) :=
  jb_get O (k := 0) rfl rfl jx_X (by decide) jw_115 rfl hd hp kk
theorem jg_D_52 (O : CallFix p m c cc nL s args ja_T "CashMachine$Dispenser" ∧ jb_X s0 s G ad) (hd : decode cc pc = .ok (.getfield 52, 3)) (hp : pc + 3 = q) (kk : ja_V p l e R s m args below meth c (jb_W G ad) s0.heap.size nL cells slots Q S q L (.ref (ad 14) :: st)) : ja_V p l e R s m args below meth c (jb_W G ad) s0.heap.size nL cells slots Q S pc L (.ref (ad (6)) :: st) :=
  jb_get O (k := 0) rfl rfl jx_X (by decide) jw_116 rfl hd hp kk
theorem jg_C_130 (O : CallFix p m c cc nL s args ja_T "CashMachine" ∧ jb_X s0 s G ad) (hd : decode cc pc = .ok (.getfield 130, 3)) (hp : pc + 3 = q) (kk : ja_V p l e R s m args below meth c (jb_W G ad) s0.heap.size nL cells slots Q S q L (.ref (ad 14) :: st)) : ja_V p l e R s m args below meth c (jb_W G ad) s0.heap.size nL cells slots Q S pc L (.ref (ad (6)) :: st) :=
  jb_get O (k := 0) rfl rfl jx_X (by decide) jw_117 rfl hd hp kk
theorem jg_X_15 (O : CallFix p m c cc nL s args ja_T "CashMachine$Mix" ∧ jb_X s0 s G ad) (hd : decode cc pc = .ok (.getfield 15, 3)) (hp : pc + 3 = q) (kk : ja_V p l e R s m args below meth c (jb_W G ad) s0.heap.size nL cells slots Q S q L (.ref (ad 15) :: st)) : ja_V p l e R s m args below meth c (jb_W G ad) s0.heap.size nL cells slots Q S pc L (.ref (ad (6)) :: st) :=
  jb_get O (k := 1) rfl rfl jx_X (by decide) jw_118 rfl hd hp kk
theorem jg_K_7 (O : CallFix p m c cc nL s args ja_T "CashMachine$Cassette" ∧ jb_X s0 s G ad) {j : Nat} (hj : j < 4) (hd : decode cc pc = .ok (.getfield 7, 3)) (hp : pc + 3 = q) (kk : ja_V p l e R s m args below meth c (jb_W G ad) s0.heap.size nL cells slots Q S q L (.int (S 17 j) :: st)) : ja_V p l e R s m args below meth c (jb_W G ad) s0.heap.size nL cells slots Q S pc L (.ref (ad (46 + j)) :: st) :=
  jb_get O (k := 0) (jb_kK G ad S hj) rfl jx_K (by decide) jw_129 rfl hd hp kk
theorem jp_K_7 (O : CallFix p m c cc nL s args ja_T "CashMachine$Cassette" ∧ jb_X s0 s G ad) {j : Nat} (hj : j < 4) {x : Int32} (hd : decode cc pc = .ok (.putfield 7, 3)) (hp : pc + 3 = q) (kk : ja_V p l e R s m args below meth c (jb_W G ad) s0.heap.size nL cells slots Q (jb_u S 17 j x) q L st) : ja_V p l e R s m args below meth c (jb_W G ad) s0.heap.size nL cells slots Q S pc L (.int x :: .ref (ad (46 + j)) :: st) :=
  jb_put O (k := 0) (ty := .int) (jb_kK G ad S hj) rfl jx_K jq_K jk_K jn_K (by decide) jw_129 rfl (by decide +kernel) rfl rfl (Nat.le_of_ble_eq_true rfl) (jb_s17 G ad S hj x) hd hp kk
theorem jg_D_38 (O : CallFix p m c cc nL s args ja_T "CashMachine$Dispenser" ∧ jb_X s0 s G ad) {j : Nat} (hj : j < 4) (hd : decode cc pc = .ok (.getfield 38, 3)) (hp : pc + 3 = q) (kk : ja_V p l e R s m args below meth c (jb_W G ad) s0.heap.size nL cells slots Q S q L (.int (S 17 j) :: st)) : ja_V p l e R s m args below meth c (jb_W G ad) s0.heap.size nL cells slots Q S pc L (.ref (ad (46 + j)) :: st) :=
  jb_get O (k := 0) (jb_kK G ad S hj) rfl jx_K (by decide) jw_130 rfl hd hp kk
theorem jp_D_38 (O : CallFix p m c cc nL s args ja_T "CashMachine$Dispenser" ∧ jb_X s0 s G ad) {j : Nat} (hj : j < 4) {x : Int32} (hd : decode cc pc = .ok (.putfield 38, 3)) (hp : pc + 3 = q) (kk : ja_V p l e R s m args below meth c (jb_W G ad) s0.heap.size nL cells slots Q (jb_u S 17 j x) q L st) : ja_V p l e R s m args below meth c (jb_W G ad) s0.heap.size nL cells slots Q S pc L (.int x :: .ref (ad (46 + j)) :: st) :=
  jb_put O (k := 0) (ty := .int) (jb_kK G ad S hj) rfl jx_K jq_K jk_K jn_K (by decide) jw_130 rfl (by decide +kernel) rfl rfl (Nat.le_of_ble_eq_true rfl) (jb_s17 G ad S hj x) hd hp kk
theorem jg_X_29 (O : CallFix p m c cc nL s args ja_T "CashMachine$Mix" ∧ jb_X s0 s G ad) {j : Nat} (hj : j < 4) (hd : decode cc pc = .ok (.getfield 29, 3)) (hp : pc + 3 = q) (kk : ja_V p l e R s m args below meth c (jb_W G ad) s0.heap.size nL cells slots Q S q L (.int (S 17 j) :: st)) : ja_V p l e R s m args below meth c (jb_W G ad) s0.heap.size nL cells slots Q S pc L (.ref (ad (46 + j)) :: st) :=
  jb_get O (k := 0) (jb_kK G ad S hj) rfl jx_K (by decide) jw_131 rfl hd hp kk
theorem jp_X_29 (O : CallFix p m c cc nL s args ja_T "CashMachine$Mix" ∧ jb_X s0 s G ad) {j : Nat} (hj : j < 4) {x : Int32} (hd : decode cc pc = .ok (.putfield 29, 3)) (hp : pc + 3 = q) (kk : ja_V p l e R s m args below meth c (jb_W G ad) s0.heap.size nL cells slots Q (jb_u S 17 j x) q L st) : ja_V p l e R s m args below meth c (jb_W G ad) s0.heap.size nL cells slots Q S pc L (.int x :: .ref (ad (46 + j)) :: st) :=
  jb_put O (k := 0) (ty := .int) (jb_kK G ad S hj) rfl jx_K jq_K jk_K jn_K (by decide) jw_131 rfl (by decide +kernel) rfl rfl (Nat.le_of_ble_eq_true rfl) (jb_s17 G ad S hj x) hd hp kk
theorem jg_K_13 (O : CallFix p m c cc nL s args ja_T "CashMachine$Cassette" ∧ jb_X s0 s G ad) {j : Nat} (hj : j < 4) (hd : decode cc pc = .ok (.getfield 13, 3)) (hp : pc + 3 = q) (kk : ja_V p l e R s m args below meth c (jb_W G ad) s0.heap.size nL cells slots Q S q L (.int (S 18 j) :: st)) : ja_V p l e R s m args below meth c (jb_W G ad) s0.heap.size nL cells slots Q S pc L (.ref (ad (46 + j)) :: st) :=
  jb_get O (k := 1) (jb_kK G ad S hj) rfl jx_K (by decide) jw_132 rfl hd hp kk
theorem jp_K_13 (O : CallFix p m c cc nL s args ja_T "CashMachine$Cassette" ∧ jb_X s0 s G ad) {j : Nat} (hj : j < 4) {x : Int32} (hd : decode cc pc = .ok (.putfield 13, 3)) (hp : pc + 3 = q) (kk : ja_V p l e R s m args below meth c (jb_W G ad) s0.heap.size nL cells slots Q (jb_u S 18 j x) q L st) : ja_V p l e R s m args below meth c (jb_W G ad) s0.heap.size nL cells slots Q S pc L (.int x :: .ref (ad (46 + j)) :: st) :=
  jb_put O (k := 1) (ty := .int) (jb_kK G ad S hj) rfl jx_K jq_K jk_K jn_K (by decide) jw_132 rfl (by decide +kernel) rfl rfl (Nat.le_of_ble_eq_true rfl) (jb_s18 G ad S hj x) hd hp kk
theorem jg_D_41 (O : CallFix p m c cc nL s args ja_T "CashMachine$Dispenser" ∧ jb_X s0 s G ad) {j : Nat} (hj : j < 4) (hd : decode cc pc = .ok (.getfield 41, 3)) (hp : pc + 3 = q) (kk : ja_V p l e R s m args below meth c (jb_W G ad) s0.heap.size nL cells slots Q S q L (.int (S 18 j) :: st)) : ja_V p l e R s m args below meth c (jb_W G ad) s0.heap.size nL cells slots Q S pc L (.ref (ad (46 + j)) :: st) :=
  jb_get O (k := 1) (jb_kK G ad S hj) rfl jx_K (by decide) jw_133 rfl hd hp kk
theorem jp_D_41 (O : CallFix p m c cc nL s args ja_T "CashMachine$Dispenser" ∧ jb_X s0 s G ad) {j : Nat} (hj : j < 4) {x : Int32} (hd : decode cc pc = .ok (.putfield 41, 3)) (hp : pc + 3 = q) (kk : ja_V p l e R s m args below meth c (jb_W G ad) s0.heap.size nL cells slots Q (jb_u S 18 j x) q L st) : ja_V p l e R s m args below meth c (jb_W G ad) s0.heap.size nL cells slots Q S pc L (.int x :: .ref (ad (46 + j)) :: st) :=
  jb_put O (k := 1) (ty := .int) (jb_kK G ad S hj) rfl jx_K jq_K jk_K jn_K (by decide) jw_133 rfl (by decide +kernel) rfl rfl (Nat.le_of_ble_eq_true rfl) (jb_s18 G ad S hj x) hd hp kk
theorem jg_X_23 (O : CallFix p m c cc nL s args ja_T "CashMachine$Mix" ∧ jb_X s0 s G ad) {j : Nat} (hj : j < 4) (hd : decode cc pc = .ok (.getfield 23, 3)) (hp : pc + 3 = q) (kk : ja_V p l e R s m args below meth c (jb_W G ad) s0.heap.size nL cells slots Q S q L (.int (S 18 j) :: st)) : ja_V p l e R s m args below meth c (jb_W G ad) s0.heap.size nL cells slots Q S pc L (.ref (ad (46 + j)) :: st) :=
  jb_get O (k := 1) (jb_kK G ad S hj) rfl jx_K (by decide) jw_134 rfl hd hp kk
theorem jp_X_23 (O : CallFix p m c cc nL s args ja_T "CashMachine$Mix" ∧ jb_X s0 s G ad) {j : Nat} (hj : j < 4) {x : Int32} (hd : decode cc pc = .ok (.putfield 23, 3)) (hp : pc + 3 = q) (kk : ja_V p l e R s m args below meth c (jb_W G ad) s0.heap.size nL cells slots Q (jb_u S 18 j x) q L st) : ja_V p l e R s m args below meth c (jb_W G ad) s0.heap.size nL cells slots Q S pc L (.int x :: .ref (ad (46 + j)) :: st) :=
  jb_put O (k := 1) (ty := .int) (jb_kK G ad S hj) rfl jx_K jq_K jk_K jn_K (by decide) jw_134 rfl (by decide +kernel) rfl rfl (Nat.le_of_ble_eq_true rfl) (jb_s18 G ad S hj x) hd hp kk
theorem jg_C_187 (O : CallFix p m c cc nL s args ja_T "CashMachine" ∧ jb_X s0 s G ad) {j : Nat} (hj : j < 4) (hd : decode cc pc = .ok (.getfield 187, 3)) (hp : pc + 3 = q) (kk : ja_V p l e R s m args below meth c (jb_W G ad) s0.heap.size nL cells slots Q S q L (.int (S 18 j) :: st)) : ja_V p l e R s m args below meth c (jb_W G ad) s0.heap.size nL cells slots Q S pc L (.ref (ad (46 + j)) :: st) :=
  jb_get O (k := 1) (jb_kK G ad S hj) rfl jx_K (by decide) jw_135 rfl hd hp kk
theorem jp_C_187 (O : CallFix p m c cc nL s args ja_T "CashMachine" ∧ jb_X s0 s G ad) {j : Nat} (hj : j < 4) {x : Int32} (hd : decode cc pc = .ok (.putfield 187, 3)) (hp : pc + 3 = q) (kk : ja_V p l e R s m args below meth c (jb_W G ad) s0.heap.size nL cells slots Q (jb_u S 18 j x) q L st) : ja_V p l e R s m args below meth c (jb_W G ad) s0.heap.size nL cells slots Q S pc L (.int x :: .ref (ad (46 + j)) :: st) :=
  jb_put O (k := 1) (ty := .int) (jb_kK G ad S hj) rfl jx_K jq_K jk_K jn_K (by decide) jw_135 rfl (by decide +kernel) rfl rfl (Nat.le_of_ble_eq_true rfl) (jb_s18 G ad S hj x) hd hp kk
theorem jg_D_11 (O : CallFix p m c cc nL s args ja_T "CashMachine$Dispenser" ∧ jb_X s0 s G ad) (hd : decode cc pc = .ok (.getfield 11, 3)) (hp : pc + 3 = q) (kk : ja_V p l e R s m args below meth c (jb_W G ad) s0.heap.size nL cells slots Q S q L (.ref (ad 13) :: st)) : ja_V p l e R s m args below meth c (jb_W G ad) s0.heap.size nL cells slots Q S pc L (.ref (ad (3)) :: st) :=
  jb_get O (k := 0) rfl rfl jx_D (by decide) jw_141 rfl hd hp kk
theorem jg_C_183 (O : CallFix p m c cc nL s args ja_T "CashMachine" ∧ jb_X s0 s G ad) (hd : decode cc pc = .ok (.getfield 183, 3)) (hp : pc + 3 = q) (kk : ja_V p l e R s m args below meth c (jb_W G ad) s0.heap.size nL cells slots Q S q L (.ref (ad 13) :: st)) : ja_V p l e R s m args below meth c (jb_W G ad) s0.heap.size nL cells slots Q S pc L (.ref (ad (3)) :: st) :=
  jb_get O (k := 0) rfl rfl jx_D (by decide) jw_142 rfl hd hp kk
theorem jg_D_20 (O : CallFix p m c cc nL s args ja_T "CashMachine$Dispenser" ∧ jb_X s0 s G ad) (hd : decode cc pc = .ok (.getfield 20, 3)) (hp : pc + 3 = q) (kk : ja_V p l e R s m args below meth c (jb_W G ad) s0.heap.size nL cells slots Q S q L (.ref (ad 6) :: st)) : ja_V p l e R s m args below meth c (jb_W G ad) s0.heap.size nL cells slots Q S pc L (.ref (ad (3)) :: st) :=
  jb_get O (k := 1) rfl rfl jx_D (by decide) jw_143 rfl hd hp kk
theorem jg_C_126 (O : CallFix p m c cc nL s args ja_T "CashMachine" ∧ jb_X s0 s G ad) (hd : decode cc pc = .ok (.getfield 126, 3)) (hp : pc + 3 = q) (kk : ja_V p l e R s m args below meth c (jb_W G ad) s0.heap.size nL cells slots Q S q L (.ref (ad 6) :: st)) : ja_V p l e R s m args below meth c (jb_W G ad) s0.heap.size nL cells slots Q S pc L (.ref (ad (3)) :: st) :=
  jb_get O (k := 1) rfl rfl jx_D (by decide) jw_144 rfl hd hp kk
theorem jg_D_24 (O : CallFix p m c cc nL s args ja_T "CashMachine$Dispenser" ∧ jb_X s0 s G ad) (hd : decode cc pc = .ok (.getfield 24, 3)) (hp : pc + 3 = q) (kk : ja_V p l e R s m args below meth c (jb_W G ad) s0.heap.size nL cells slots Q S q L (.int (S 5 0) :: st)) : ja_V p l e R s m args below meth c (jb_W G ad) s0.heap.size nL cells slots Q S pc L (.ref (ad (3)) :: st) :=
  jb_get O (k := 2) rfl rfl jx_D (by decide) jw_145 rfl hd hp kk
theorem jp_D_24 (O : CallFix p m c cc nL s args ja_T "CashMachine$Dispenser" ∧ jb_X s0 s G ad) {x : Int32} (hd : decode cc pc = .ok (.putfield 24, 3)) (hp : pc + 3 = q) (kk : ja_V p l e R s m args below meth c (jb_W G ad) s0.heap.size nL cells slots Q (jb_u S 5 0 x) q L st) : ja_V p l e R s m args below meth c (jb_W G ad) s0.heap.size nL cells slots Q S pc L (.int x :: .ref (ad (3)) :: st) :=
  jb_put O (k := 2) (ty := .int) rfl rfl jx_D jq_D jk_D jn_D (by decide) jw_145 rfl (by decide +kernel) rfl rfl (Nat.le_of_ble_eq_true rfl) (jb_s5 G ad S x) hd hp kk
theorem jg_C_141 (O : CallFix p m c cc nL s args ja_T "CashMachine" ∧ jb_X s0 s G ad) (hd : decode cc pc = .ok (.getfield 141, 3)) (hp : pc + 3 = q) (kk : ja_V p l e R s m args below meth c (jb_W G ad) s0.heap.size nL cells slots Q S q L (.int (S 5 0) :: st)) : ja_V p l e R s m args below meth c (jb_W G ad) s0.heap.size nL cells slots Q S pc L (.ref (ad (3)) :: st) :=
  jb_get O (k := 2) rfl rfl jx_D (by decide) jw_146 rfl hd hp kk
theorem jp_C_141 (O : CallFix p m c cc nL s args ja_T "CashMachine" ∧ jb_X s0 s G ad) {x : Int32} (hd : decode cc pc = .ok (.putfield 141, 3)) (hp : pc + 3 = q) (kk : ja_V p l e R s m args below meth c (jb_W G ad) s0.heap.size nL cells slots Q (jb_u S 5 0 x) q L st) : ja_V p l e R s m args below meth c (jb_W G ad) s0.heap.size nL cells slots Q S pc L (.int x :: .ref (ad (3)) :: st) :=
  jb_put O (k := 2) (ty := .int) rfl rfl jx_D jq_D jk_D jn_D (by decide) jw_146 rfl (by decide +kernel) rfl rfl (Nat.le_of_ble_eq_true rfl) (jb_s5 G ad S x) hd hp kk
theorem jg_D_28 (O : CallFix p m c cc nL s args ja_T "CashMachine$Dispenser" ∧ jb_X s0 s G ad) (hd : decode cc pc = .ok (.getfield 28, 3)) (hp : pc + 3 = q) (kk : ja_V p l e R s m args below meth c (jb_W G ad) s0.heap.size nL cells slots Q S q L (.int (S 6 0) :: st)) : ja_V p l e R s m args below meth c (jb_W G ad) s0.heap.size nL cells slots Q S pc L (.ref (ad (3)) :: st) :=
  jb_get O (k := 3) rfl rfl jx_D (by decide) jw_147 rfl hd hp kk
theorem jp_D_28 (O : CallFix p m c cc nL s args ja_T "CashMachine$Dispenser" ∧ jb_X s0 s G ad) {x : Int32} (hd : decode cc pc = .ok (.putfield 28, 3)) (hp : pc + 3 = q) (kk : ja_V p l e R s m args below meth c (jb_W G ad) s0.heap.size nL cells slots Q (jb_u S 6 0 x) q L st) : ja_V p l e R s m args below meth c (jb_W G ad) s0.heap.size nL cells slots Q S pc L (.int x :: .ref (ad (3)) :: st) :=
  jb_put O (k := 3) (ty := .int) rfl rfl jx_D jq_D jk_D jn_D (by decide) jw_147 rfl (by decide +kernel) rfl rfl (Nat.le_of_ble_eq_true rfl) (jb_s6 G ad S x) hd hp kk
theorem jg_C_195 (O : CallFix p m c cc nL s args ja_T "CashMachine" ∧ jb_X s0 s G ad) (hd : decode cc pc = .ok (.getfield 195, 3)) (hp : pc + 3 = q) (kk : ja_V p l e R s m args below meth c (jb_W G ad) s0.heap.size nL cells slots Q S q L (.int (S 6 0) :: st)) : ja_V p l e R s m args below meth c (jb_W G ad) s0.heap.size nL cells slots Q S pc L (.ref (ad (3)) :: st) :=
  jb_get O (k := 3) rfl rfl jx_D (by decide) jw_148 rfl hd hp kk
theorem jp_C_195 (O : CallFix p m c cc nL s args ja_T "CashMachine" ∧ jb_X s0 s G ad) {x : Int32} (hd : decode cc pc = .ok (.putfield 195, 3)) (hp : pc + 3 = q) (kk : ja_V p l e R s m args below meth c (jb_W G ad) s0.heap.size nL cells slots Q (jb_u S 6 0 x) q L st) : ja_V p l e R s m args below meth c (jb_W G ad) s0.heap.size nL cells slots Q S pc L (.int x :: .ref (ad (3)) :: st) :=
  jb_put O (k := 3) (ty := .int) rfl rfl jx_D jq_D jk_D jn_D (by decide) jw_148 rfl (by decide +kernel) rfl rfl (Nat.le_of_ble_eq_true rfl) (jb_s6 G ad S x) hd hp kk
theorem jg_D_31 (O : CallFix p m c cc nL s args ja_T "CashMachine$Dispenser" ∧ jb_X s0 s G ad) (hd : decode cc pc = .ok (.getfield 31, 3)) (hp : pc + 3 = q) (kk : ja_V p l e R s m args below meth c (jb_W G ad) s0.heap.size nL cells slots Q S q L (.int (S 7 0) :: st)) : ja_V p l e R s m args below meth c (jb_W G ad) s0.heap.size nL cells slots Q S pc L (.ref (ad (3)) :: st) :=
  jb_get O (k := 4) rfl rfl jx_D (by decide) jw_149 rfl hd hp kk
theorem jp_D_31 (O : CallFix p m c cc nL s args ja_T "CashMachine$Dispenser" ∧ jb_X s0 s G ad) {x : Int32} (hd : decode cc pc = .ok (.putfield 31, 3)) (hp : pc + 3 = q) (kk : ja_V p l e R s m args below meth c (jb_W G ad) s0.heap.size nL cells slots Q (jb_u S 7 0 x) q L st) : ja_V p l e R s m args below meth c (jb_W G ad) s0.heap.size nL cells slots Q S pc L (.int x :: .ref (ad (3)) :: st) :=
  jb_put O (k := 4) (ty := .int) rfl rfl jx_D jq_D jk_D jn_D (by decide) jw_149 rfl (by decide +kernel) rfl rfl (Nat.le_of_ble_eq_true rfl) (jb_s7 G ad S x) hd hp kk
theorem jg_D_34 (O : CallFix p m c cc nL s args ja_T "CashMachine$Dispenser" ∧ jb_X s0 s G ad) (hd : decode cc pc = .ok (.getfield 34, 3)) (hp : pc + 3 = q) (kk : ja_V p l e R s m args below meth c (jb_W G ad) s0.heap.size nL cells slots Q S q L (.int (S 8 0) :: st)) : ja_V p l e R s m args below meth c (jb_W G ad) s0.heap.size nL cells slots Q S pc L (.ref (ad (3)) :: st) :=
  jb_get O (k := 5) rfl rfl jx_D (by decide) jw_150 rfl hd hp kk
theorem jp_D_34 (O : CallFix p m c cc nL s args ja_T "CashMachine$Dispenser" ∧ jb_X s0 s G ad) {x : Int32} (hd : decode cc pc = .ok (.putfield 34, 3)) (hp : pc + 3 = q) (kk : ja_V p l e R s m args below meth c (jb_W G ad) s0.heap.size nL cells slots Q (jb_u S 8 0 x) q L st) : ja_V p l e R s m args below meth c (jb_W G ad) s0.heap.size nL cells slots Q S pc L (.int x :: .ref (ad (3)) :: st) :=
  jb_put O (k := 5) (ty := .int) rfl rfl jx_D jq_D jk_D jn_D (by decide) jw_150 rfl (by decide +kernel) rfl rfl (Nat.le_of_ble_eq_true rfl) (jb_s8 G ad S x) hd hp kk
theorem jg_E_22 (O : CallFix p m c cc nL s args ja_T "CashMachine$Entry" ∧ jb_X s0 s G ad) {j : Nat} (hj : j < 40) (hd : decode cc pc = .ok (.getfield 22, 3)) (hp : pc + 3 = q) (kk : ja_V p l e R s m args below meth c (jb_W G ad) s0.heap.size nL cells slots Q S q L (.int (S 19 j) :: st)) : ja_V p l e R s m args below meth c (jb_W G ad) s0.heap.size nL cells slots Q S pc L (.ref (ad (50 + j)) :: st) :=
  jb_get O (k := 0) (jb_kE G ad S hj) rfl jx_E (by decide) jw_177 rfl hd hp kk
theorem jg_C_213 (O : CallFix p m c cc nL s args ja_T "CashMachine" ∧ jb_X s0 s G ad) {j : Nat} (hj : j < 40) (hd : decode cc pc = .ok (.getfield 213, 3)) (hp : pc + 3 = q) (kk : ja_V p l e R s m args below meth c (jb_W G ad) s0.heap.size nL cells slots Q S q L (.int (S 19 j) :: st)) : ja_V p l e R s m args below meth c (jb_W G ad) s0.heap.size nL cells slots Q S pc L (.ref (ad (50 + j)) :: st) :=
  jb_get O (k := 0) (jb_kE G ad S hj) rfl jx_E (by decide) jw_178 rfl hd hp kk
theorem jg_E_7 (O : CallFix p m c cc nL s args ja_T "CashMachine$Entry" ∧ jb_X s0 s G ad) {j : Nat} (hj : j < 40) (hd : decode cc pc = .ok (.getfield 7, 3)) (hp : pc + 3 = q) (kk : ja_V p l e R s m args below meth c (jb_W G ad) s0.heap.size nL cells slots Q S q L (.int (S 20 j) :: st)) : ja_V p l e R s m args below meth c (jb_W G ad) s0.heap.size nL cells slots Q S pc L (.ref (ad (50 + j)) :: st) :=
  jb_get O (k := 1) (jb_kE G ad S hj) rfl jx_E (by decide) jw_179 rfl hd hp kk
theorem jp_E_7 (O : CallFix p m c cc nL s args ja_T "CashMachine$Entry" ∧ jb_X s0 s G ad) {j : Nat} (hj : j < 40) {x : Int32} (hd : decode cc pc = .ok (.putfield 7, 3)) (hp : pc + 3 = q) (kk : ja_V p l e R s m args below meth c (jb_W G ad) s0.heap.size nL cells slots Q (jb_u S 20 j x) q L st) : ja_V p l e R s m args below meth c (jb_W G ad) s0.heap.size nL cells slots Q S pc L (.int x :: .ref (ad (50 + j)) :: st) :=
  jb_put O (k := 1) (ty := .int) (jb_kE G ad S hj) rfl jx_E jq_E jk_E jn_E (by decide) jw_179 rfl (by decide +kernel) rfl rfl (Nat.le_of_ble_eq_true rfl) (jb_s20 G ad S hj x) hd hp kk
theorem jg_J_24 (O : CallFix p m c cc nL s args ja_T "CashMachine$Journal" ∧ jb_X s0 s G ad) {j : Nat} (hj : j < 40) (hd : decode cc pc = .ok (.getfield 24, 3)) (hp : pc + 3 = q) (kk : ja_V p l e R s m args below meth c (jb_W G ad) s0.heap.size nL cells slots Q S q L (.int (S 20 j) :: st)) : ja_V p l e R s m args below meth c (jb_W G ad) s0.heap.size nL cells slots Q S pc L (.ref (ad (50 + j)) :: st) :=
  jb_get O (k := 1) (jb_kE G ad S hj) rfl jx_E (by decide) jw_180 rfl hd hp kk
theorem jp_J_24 (O : CallFix p m c cc nL s args ja_T "CashMachine$Journal" ∧ jb_X s0 s G ad) {j : Nat} (hj : j < 40) {x : Int32} (hd : decode cc pc = .ok (.putfield 24, 3)) (hp : pc + 3 = q) (kk : ja_V p l e R s m args below meth c (jb_W G ad) s0.heap.size nL cells slots Q (jb_u S 20 j x) q L st) : ja_V p l e R s m args below meth c (jb_W G ad) s0.heap.size nL cells slots Q S pc L (.int x :: .ref (ad (50 + j)) :: st) :=
  jb_put O (k := 1) (ty := .int) (jb_kE G ad S hj) rfl jx_E jq_E jk_E jn_E (by decide) jw_180 rfl (by decide +kernel) rfl rfl (Nat.le_of_ble_eq_true rfl) (jb_s20 G ad S hj x) hd hp kk
theorem jg_C_171 (O : CallFix p m c cc nL s args ja_T "CashMachine" ∧ jb_X s0 s G ad) {j : Nat} (hj : j < 40) (hd : decode cc pc = .ok (.getfield 171, 3)) (hp : pc + 3 = q) (kk : ja_V p l e R s m args below meth c (jb_W G ad) s0.heap.size nL cells slots Q S q L (.int (S 20 j) :: st)) : ja_V p l e R s m args below meth c (jb_W G ad) s0.heap.size nL cells slots Q S pc L (.ref (ad (50 + j)) :: st) :=
  jb_get O (k := 1) (jb_kE G ad S hj) rfl jx_E (by decide) jw_181 rfl hd hp kk
theorem jp_C_171 (O : CallFix p m c cc nL s args ja_T "CashMachine" ∧ jb_X s0 s G ad) {j : Nat} (hj : j < 40) {x : Int32} (hd : decode cc pc = .ok (.putfield 171, 3)) (hp : pc + 3 = q) (kk : ja_V p l e R s m args below meth c (jb_W G ad) s0.heap.size nL cells slots Q (jb_u S 20 j x) q L st) : ja_V p l e R s m args below meth c (jb_W G ad) s0.heap.size nL cells slots Q S pc L (.int x :: .ref (ad (50 + j)) :: st) :=
  jb_put O (k := 1) (ty := .int) (jb_kE G ad S hj) rfl jx_E jq_E jk_E jn_E (by decide) jw_181 rfl (by decide +kernel) rfl rfl (Nat.le_of_ble_eq_true rfl) (jb_s20 G ad S hj x) hd hp kk
theorem jg_E_13 (O : CallFix p m c cc nL s args ja_T "CashMachine$Entry" ∧ jb_X s0 s G ad) {j : Nat} (hj : j < 40) (hd : decode cc pc = .ok (.getfield 13, 3)) (hp : pc + 3 = q) (kk : ja_V p l e R s m args below meth c (jb_W G ad) s0.heap.size nL cells slots Q S q L (.int (S 21 j) :: st)) : ja_V p l e R s m args below meth c (jb_W G ad) s0.heap.size nL cells slots Q S pc L (.ref (ad (50 + j)) :: st) :=
  jb_get O (k := 2) (jb_kE G ad S hj) rfl jx_E (by decide) jw_182 rfl hd hp kk
theorem jp_E_13 (O : CallFix p m c cc nL s args ja_T "CashMachine$Entry" ∧ jb_X s0 s G ad) {j : Nat} (hj : j < 40) {x : Int32} (hd : decode cc pc = .ok (.putfield 13, 3)) (hp : pc + 3 = q) (kk : ja_V p l e R s m args below meth c (jb_W G ad) s0.heap.size nL cells slots Q (jb_u S 21 j x) q L st) : ja_V p l e R s m args below meth c (jb_W G ad) s0.heap.size nL cells slots Q S pc L (.int x :: .ref (ad (50 + j)) :: st) :=
  jb_put O (k := 2) (ty := .int) (jb_kE G ad S hj) rfl jx_E jq_E jk_E jn_E (by decide) jw_182 rfl (by decide +kernel) rfl rfl (Nat.le_of_ble_eq_true rfl) (jb_s21 G ad S hj x) hd hp kk
theorem jg_J_27 (O : CallFix p m c cc nL s args ja_T "CashMachine$Journal" ∧ jb_X s0 s G ad) {j : Nat} (hj : j < 40) (hd : decode cc pc = .ok (.getfield 27, 3)) (hp : pc + 3 = q) (kk : ja_V p l e R s m args below meth c (jb_W G ad) s0.heap.size nL cells slots Q S q L (.int (S 21 j) :: st)) : ja_V p l e R s m args below meth c (jb_W G ad) s0.heap.size nL cells slots Q S pc L (.ref (ad (50 + j)) :: st) :=
  jb_get O (k := 2) (jb_kE G ad S hj) rfl jx_E (by decide) jw_183 rfl hd hp kk
theorem jp_J_27 (O : CallFix p m c cc nL s args ja_T "CashMachine$Journal" ∧ jb_X s0 s G ad) {j : Nat} (hj : j < 40) {x : Int32} (hd : decode cc pc = .ok (.putfield 27, 3)) (hp : pc + 3 = q) (kk : ja_V p l e R s m args below meth c (jb_W G ad) s0.heap.size nL cells slots Q (jb_u S 21 j x) q L st) : ja_V p l e R s m args below meth c (jb_W G ad) s0.heap.size nL cells slots Q S pc L (.int x :: .ref (ad (50 + j)) :: st) :=
  jb_put O (k := 2) (ty := .int) (jb_kE G ad S hj) rfl jx_E jq_E jk_E jn_E (by decide) jw_183 rfl (by decide +kernel) rfl rfl (Nat.le_of_ble_eq_true rfl) (jb_s21 G ad S hj x) hd hp kk
theorem jg_C_174 (O : CallFix p m c cc nL s args ja_T "CashMachine" ∧ jb_X s0 s G ad) {j : Nat} (hj : j < 40) (hd : decode cc pc = .ok (.getfield 174, 3)) (hp : pc + 3 = q) (kk : ja_V p l e R s m args below meth c (jb_W G ad) s0.heap.size nL cells slots Q S q L (.int (S 21 j) :: st)) : ja_V p l e R s m args below meth c (jb_W G ad) s0.heap.size nL cells slots Q S pc L (.ref (ad (50 + j)) :: st) :=
  jb_get O (k := 2) (jb_kE G ad S hj) rfl jx_E (by decide) jw_184 rfl hd hp kk
theorem jp_C_174 (O : CallFix p m c cc nL s args ja_T "CashMachine" ∧ jb_X s0 s G ad) {j : Nat} (hj : j < 40) {x : Int32} (hd : decode cc pc = .ok (.putfield 174, 3)) (hp : pc + 3 = q) (kk : ja_V p l e R s m args below meth c (jb_W G ad) s0.heap.size nL cells slots Q (jb_u S 21 j x) q L st) : ja_V p l e R s m args below meth c (jb_W G ad) s0.heap.size nL cells slots Q S pc L (.int x :: .ref (ad (50 + j)) :: st) :=
  jb_put O (k := 2) (ty := .int) (jb_kE G ad S hj) rfl jx_E jq_E jk_E jn_E (by decide) jw_184 rfl (by decide +kernel) rfl rfl (Nat.le_of_ble_eq_true rfl) (jb_s21 G ad S hj x) hd hp kk
theorem jg_E_16 (O : CallFix p m c cc nL s args ja_T "CashMachine$Entry" ∧ jb_X s0 s G ad) {j : Nat} (hj : j < 40) (hd : decode cc pc = .ok (.getfield 16, 3)) (hp : pc + 3 = q) (kk : ja_V p l e R s m args below meth c (jb_W G ad) s0.heap.size nL cells slots Q S q L (.int (S 22 j) :: st)) : ja_V p l e R s m args below meth c (jb_W G ad) s0.heap.size nL cells slots Q S pc L (.ref (ad (50 + j)) :: st) :=
  jb_get O (k := 3) (jb_kE G ad S hj) rfl jx_E (by decide) jw_185 rfl hd hp kk
theorem jp_E_16 (O : CallFix p m c cc nL s args ja_T "CashMachine$Entry" ∧ jb_X s0 s G ad) {j : Nat} (hj : j < 40) {x : Int32} (hd : decode cc pc = .ok (.putfield 16, 3)) (hp : pc + 3 = q) (kk : ja_V p l e R s m args below meth c (jb_W G ad) s0.heap.size nL cells slots Q (jb_u S 22 j x) q L st) : ja_V p l e R s m args below meth c (jb_W G ad) s0.heap.size nL cells slots Q S pc L (.int x :: .ref (ad (50 + j)) :: st) :=
  jb_put O (k := 3) (ty := .int) (jb_kE G ad S hj) rfl jx_E jq_E jk_E jn_E (by decide) jw_185 rfl (by decide +kernel) rfl rfl (Nat.le_of_ble_eq_true rfl) (jb_s22 G ad S hj x) hd hp kk
theorem jg_J_30 (O : CallFix p m c cc nL s args ja_T "CashMachine$Journal" ∧ jb_X s0 s G ad) {j : Nat} (hj : j < 40) (hd : decode cc pc = .ok (.getfield 30, 3)) (hp : pc + 3 = q) (kk : ja_V p l e R s m args below meth c (jb_W G ad) s0.heap.size nL cells slots Q S q L (.int (S 22 j) :: st)) : ja_V p l e R s m args below meth c (jb_W G ad) s0.heap.size nL cells slots Q S pc L (.ref (ad (50 + j)) :: st) :=
  jb_get O (k := 3) (jb_kE G ad S hj) rfl jx_E (by decide) jw_186 rfl hd hp kk
theorem jp_J_30 (O : CallFix p m c cc nL s args ja_T "CashMachine$Journal" ∧ jb_X s0 s G ad) {j : Nat} (hj : j < 40) {x : Int32} (hd : decode cc pc = .ok (.putfield 30, 3)) (hp : pc + 3 = q) (kk : ja_V p l e R s m args below meth c (jb_W G ad) s0.heap.size nL cells slots Q (jb_u S 22 j x) q L st) : ja_V p l e R s m args below meth c (jb_W G ad) s0.heap.size nL cells slots Q S pc L (.int x :: .ref (ad (50 + j)) :: st) :=
  jb_put O (k := 3) (ty := .int) (jb_kE G ad S hj) rfl jx_E jq_E jk_E jn_E (by decide) jw_186 rfl (by decide +kernel) rfl rfl (Nat.le_of_ble_eq_true rfl) (jb_s22 G ad S hj x) hd hp kk
theorem jg_C_166 (O : CallFix p m c cc nL s args ja_T "CashMachine" ∧ jb_X s0 s G ad) {j : Nat} (hj : j < 40) (hd : decode cc pc = .ok (.getfield 166, 3)) (hp : pc + 3 = q) (kk : ja_V p l e R s m args below meth c (jb_W G ad) s0.heap.size nL cells slots Q S q L (.int (S 22 j) :: st)) : ja_V p l e R s m args below meth c (jb_W G ad) s0.heap.size nL cells slots Q S pc L (.ref (ad (50 + j)) :: st) :=
  jb_get O (k := 3) (jb_kE G ad S hj) rfl jx_E (by decide) jw_187 rfl hd hp kk
theorem jp_C_166 (O : CallFix p m c cc nL s args ja_T "CashMachine" ∧ jb_X s0 s G ad) {j : Nat} (hj : j < 40) {x : Int32} (hd : decode cc pc = .ok (.putfield 166, 3)) (hp : pc + 3 = q) (kk : ja_V p l e R s m args below meth c (jb_W G ad) s0.heap.size nL cells slots Q (jb_u S 22 j x) q L st) : ja_V p l e R s m args below meth c (jb_W G ad) s0.heap.size nL cells slots Q S pc L (.int x :: .ref (ad (50 + j)) :: st) :=
  jb_put O (k := 3) (ty := .int) (jb_kE G ad S hj) rfl jx_E jq_E jk_E jn_E (by decide) jw_187 rfl (by decide +kernel) rfl rfl (Nat.le_of_ble_eq_true rfl) (jb_s22 G ad S hj x) hd hp kk
theorem jg_E_19 (O : CallFix p m c cc nL s args ja_T "CashMachine$Entry" ∧ jb_X s0 s G ad) {j : Nat} (hj : j < 40) (hd : decode cc pc = .ok (.getfield 19, 3)) (hp : pc + 3 = q) (kk : ja_V p l e R s m args below meth c (jb_W G ad) s0.heap.size nL cells slots Q S q L (.int (S 23 j) :: st)) : ja_V p l e R s m args below meth c (jb_W G ad) s0.heap.size nL cells slots Q S pc L (.ref (ad (50 + j)) :: st) :=
  jb_get O (k := 4) (jb_kE G ad S hj) rfl jx_E (by decide) jw_188 rfl hd hp kk
theorem jp_E_19 (O : CallFix p m c cc nL s args ja_T "CashMachine$Entry" ∧ jb_X s0 s G ad) {j : Nat} (hj : j < 40) {x : Int32} (hd : decode cc pc = .ok (.putfield 19, 3)) (hp : pc + 3 = q) (kk : ja_V p l e R s m args below meth c (jb_W G ad) s0.heap.size nL cells slots Q (jb_u S 23 j x) q L st) : ja_V p l e R s m args below meth c (jb_W G ad) s0.heap.size nL cells slots Q S pc L (.int x :: .ref (ad (50 + j)) :: st) :=
  jb_put O (k := 4) (ty := .int) (jb_kE G ad S hj) rfl jx_E jq_E jk_E jn_E (by decide) jw_188 rfl (by decide +kernel) rfl rfl (Nat.le_of_ble_eq_true rfl) (jb_s23 G ad S hj x) hd hp kk
theorem jg_C_177 (O : CallFix p m c cc nL s args ja_T "CashMachine" ∧ jb_X s0 s G ad) {j : Nat} (hj : j < 40) (hd : decode cc pc = .ok (.getfield 177, 3)) (hp : pc + 3 = q) (kk : ja_V p l e R s m args below meth c (jb_W G ad) s0.heap.size nL cells slots Q S q L (.int (S 23 j) :: st)) : ja_V p l e R s m args below meth c (jb_W G ad) s0.heap.size nL cells slots Q S pc L (.ref (ad (50 + j)) :: st) :=
  jb_get O (k := 4) (jb_kE G ad S hj) rfl jx_E (by decide) jw_189 rfl hd hp kk
theorem jp_C_177 (O : CallFix p m c cc nL s args ja_T "CashMachine" ∧ jb_X s0 s G ad) {j : Nat} (hj : j < 40) {x : Int32} (hd : decode cc pc = .ok (.putfield 177, 3)) (hp : pc + 3 = q) (kk : ja_V p l e R s m args below meth c (jb_W G ad) s0.heap.size nL cells slots Q (jb_u S 23 j x) q L st) : ja_V p l e R s m args below meth c (jb_W G ad) s0.heap.size nL cells slots Q S pc L (.int x :: .ref (ad (50 + j)) :: st) :=
  jb_put O (k := 4) (ty := .int) (jb_kE G ad S hj) rfl jx_E jq_E jk_E jn_E (by decide) jw_189 rfl (by decide +kernel) rfl rfl (Nat.le_of_ble_eq_true rfl) (jb_s23 G ad S hj x) hd hp kk
theorem jg_J_11 (O : CallFix p m c cc nL s args ja_T "CashMachine$Journal" ∧ jb_X s0 s G ad) (hd : decode cc pc = .ok (.getfield 11, 3)) (hp : pc + 3 = q) (kk : ja_V p l e R s m args below meth c (jb_W G ad) s0.heap.size nL cells slots Q S q L (.ref (ad 16) :: st)) : ja_V p l e R s m args below meth c (jb_W G ad) s0.heap.size nL cells slots Q S pc L (.ref (ad (4)) :: st) :=
  jb_get O (k := 0) rfl rfl jx_J (by decide) jw_201 rfl hd hp kk
theorem jg_C_162 (O : CallFix p m c cc nL s args ja_T "CashMachine" ∧ jb_X s0 s G ad) (hd : decode cc pc = .ok (.getfield 162, 3)) (hp : pc + 3 = q) (kk : ja_V p l e R s m args below meth c (jb_W G ad) s0.heap.size nL cells slots Q S q L (.ref (ad 16) :: st)) : ja_V p l e R s m args below meth c (jb_W G ad) s0.heap.size nL cells slots Q S pc L (.ref (ad (4)) :: st) :=
  jb_get O (k := 0) rfl rfl jx_J (by decide) jw_202 rfl hd hp kk
theorem jg_J_17 (O : CallFix p m c cc nL s args ja_T "CashMachine$Journal" ∧ jb_X s0 s G ad) (hd : decode cc pc = .ok (.getfield 17, 3)) (hp : pc + 3 = q) (kk : ja_V p l e R s m args below meth c (jb_W G ad) s0.heap.size nL cells slots Q S q L (.int (S 9 0) :: st)) : ja_V p l e R s m args below meth c (jb_W G ad) s0.heap.size nL cells slots Q S pc L (.ref (ad (4)) :: st) :=
  jb_get O (k := 1) rfl rfl jx_J (by decide) jw_203 rfl hd hp kk
theorem jp_J_17 (O : CallFix p m c cc nL s args ja_T "CashMachine$Journal" ∧ jb_X s0 s G ad) {x : Int32} (hd : decode cc pc = .ok (.putfield 17, 3)) (hp : pc + 3 = q) (kk : ja_V p l e R s m args below meth c (jb_W G ad) s0.heap.size nL cells slots Q (jb_u S 9 0 x) q L st) : ja_V p l e R s m args below meth c (jb_W G ad) s0.heap.size nL cells slots Q S pc L (.int x :: .ref (ad (4)) :: st) :=
  jb_put O (k := 1) (ty := .int) rfl rfl jx_J jq_J jk_J jn_J (by decide) jw_203 rfl (by decide +kernel) rfl rfl (Nat.le_of_ble_eq_true rfl) (jb_s9 G ad S x) hd hp kk
theorem jg_C_112 (O : CallFix p m c cc nL s args ja_T "CashMachine" ∧ jb_X s0 s G ad) (hd : decode cc pc = .ok (.getfield 112, 3)) (hp : pc + 3 = q) (kk : ja_V p l e R s m args below meth c (jb_W G ad) s0.heap.size nL cells slots Q S q L (.int (S 9 0) :: st)) : ja_V p l e R s m args below meth c (jb_W G ad) s0.heap.size nL cells slots Q S pc L (.ref (ad (4)) :: st) :=
  jb_get O (k := 1) rfl rfl jx_J (by decide) jw_204 rfl hd hp kk
theorem jp_C_112 (O : CallFix p m c cc nL s args ja_T "CashMachine" ∧ jb_X s0 s G ad) {x : Int32} (hd : decode cc pc = .ok (.putfield 112, 3)) (hp : pc + 3 = q) (kk : ja_V p l e R s m args below meth c (jb_W G ad) s0.heap.size nL cells slots Q (jb_u S 9 0 x) q L st) : ja_V p l e R s m args below meth c (jb_W G ad) s0.heap.size nL cells slots Q S pc L (.int x :: .ref (ad (4)) :: st) :=
  jb_put O (k := 1) (ty := .int) rfl rfl jx_J jq_J jk_J jn_J (by decide) jw_204 rfl (by decide +kernel) rfl rfl (Nat.le_of_ble_eq_true rfl) (jb_s9 G ad S x) hd hp kk
theorem jg_R_9 (O : CallFix p m c cc nL s args ja_T "CashMachine$Reversals" ∧ jb_X s0 s G ad) (hd : decode cc pc = .ok (.getfield 9, 3)) (hp : pc + 3 = q) (kk : ja_V p l e R s m args below meth c (jb_W G ad) s0.heap.size nL cells slots Q S q L (.ref (ad 17) :: st)) : ja_V p l e R s m args below meth c (jb_W G ad) s0.heap.size nL cells slots Q S pc L (.ref (ad (5)) :: st) :=
  jb_get O (k := 0) rfl rfl jx_R (by decide) jw_216 rfl hd hp kk
theorem jg_C_236 (O : CallFix p m c cc nL s args ja_T "CashMachine" ∧ jb_X s0 s G ad) (hd : decode cc pc = .ok (.getfield 236, 3)) (hp : pc + 3 = q) (kk : ja_V p l e R s m args below meth c (jb_W G ad) s0.heap.size nL cells slots Q S q L (.ref (ad 17) :: st)) : ja_V p l e R s m args below meth c (jb_W G ad) s0.heap.size nL cells slots Q S pc L (.ref (ad (5)) :: st) :=
  jb_get O (k := 0) rfl rfl jx_R (by decide) jw_217 rfl hd hp kk
theorem jg_R_15 (O : CallFix p m c cc nL s args ja_T "CashMachine$Reversals" ∧ jb_X s0 s G ad) (hd : decode cc pc = .ok (.getfield 15, 3)) (hp : pc + 3 = q) (kk : ja_V p l e R s m args below meth c (jb_W G ad) s0.heap.size nL cells slots Q S q L (.ref (ad 18) :: st)) : ja_V p l e R s m args below meth c (jb_W G ad) s0.heap.size nL cells slots Q S pc L (.ref (ad (5)) :: st) :=
  jb_get O (k := 1) rfl rfl jx_R (by decide) jw_218 rfl hd hp kk
theorem jg_C_180 (O : CallFix p m c cc nL s args ja_T "CashMachine" ∧ jb_X s0 s G ad) (hd : decode cc pc = .ok (.getfield 180, 3)) (hp : pc + 3 = q) (kk : ja_V p l e R s m args below meth c (jb_W G ad) s0.heap.size nL cells slots Q S q L (.ref (ad 18) :: st)) : ja_V p l e R s m args below meth c (jb_W G ad) s0.heap.size nL cells slots Q S pc L (.ref (ad (5)) :: st) :=
  jb_get O (k := 1) rfl rfl jx_R (by decide) jw_219 rfl hd hp kk
theorem jg_R_18 (O : CallFix p m c cc nL s args ja_T "CashMachine$Reversals" ∧ jb_X s0 s G ad) (hd : decode cc pc = .ok (.getfield 18, 3)) (hp : pc + 3 = q) (kk : ja_V p l e R s m args below meth c (jb_W G ad) s0.heap.size nL cells slots Q S q L (.int (S 10 0) :: st)) : ja_V p l e R s m args below meth c (jb_W G ad) s0.heap.size nL cells slots Q S pc L (.ref (ad (5)) :: st) :=
  jb_get O (k := 2) rfl rfl jx_R (by decide) jw_220 rfl hd hp kk
theorem jp_R_18 (O : CallFix p m c cc nL s args ja_T "CashMachine$Reversals" ∧ jb_X s0 s G ad) {x : Int32} (hd : decode cc pc = .ok (.putfield 18, 3)) (hp : pc + 3 = q) (kk : ja_V p l e R s m args below meth c (jb_W G ad) s0.heap.size nL cells slots Q (jb_u S 10 0 x) q L st) : ja_V p l e R s m args below meth c (jb_W G ad) s0.heap.size nL cells slots Q S pc L (.int x :: .ref (ad (5)) :: st) :=
  jb_put O (k := 2) (ty := .int) rfl rfl jx_R jq_R jk_R jn_R (by decide) jw_220 rfl (by decide +kernel) rfl rfl (Nat.le_of_ble_eq_true rfl) (jb_s10 G ad S x) hd hp kk
theorem jg_C_152 (O : CallFix p m c cc nL s args ja_T "CashMachine" ∧ jb_X s0 s G ad) (hd : decode cc pc = .ok (.getfield 152, 3)) (hp : pc + 3 = q) (kk : ja_V p l e R s m args below meth c (jb_W G ad) s0.heap.size nL cells slots Q S q L (.int (S 10 0) :: st)) : ja_V p l e R s m args below meth c (jb_W G ad) s0.heap.size nL cells slots Q S pc L (.ref (ad (5)) :: st) :=
  jb_get O (k := 2) rfl rfl jx_R (by decide) jw_221 rfl hd hp kk
theorem jp_C_152 (O : CallFix p m c cc nL s args ja_T "CashMachine" ∧ jb_X s0 s G ad) {x : Int32} (hd : decode cc pc = .ok (.putfield 152, 3)) (hp : pc + 3 = q) (kk : ja_V p l e R s m args below meth c (jb_W G ad) s0.heap.size nL cells slots Q (jb_u S 10 0 x) q L st) : ja_V p l e R s m args below meth c (jb_W G ad) s0.heap.size nL cells slots Q S pc L (.int x :: .ref (ad (5)) :: st) :=
  jb_put O (k := 2) (ty := .int) rfl rfl jx_R jq_R jk_R jn_R (by decide) jw_221 rfl (by decide +kernel) rfl rfl (Nat.le_of_ble_eq_true rfl) (jb_s10 G ad S x) hd hp kk
theorem jg_C_10 (O : CallFix p m c cc nL s args ja_T "CashMachine" ∧ jb_X s0 s G ad) (hd : decode cc pc = .ok (.getfield 10, 3)) (hp : pc + 3 = q) (kk : ja_V p l e R s m args below meth c (jb_W G ad) s0.heap.size nL cells slots Q S q L (.ref (ad 1) :: st)) : ja_V p l e R s m args below meth c (jb_W G ad) s0.heap.size nL cells slots Q S pc L (.ref (ad (0)) :: st) :=
  jb_get O (k := 0) rfl rfl jx_C (by decide) jw_229 rfl hd hp kk
theorem jg_C_19 (O : CallFix p m c cc nL s args ja_T "CashMachine" ∧ jb_X s0 s G ad) (hd : decode cc pc = .ok (.getfield 19, 3)) (hp : pc + 3 = q) (kk : ja_V p l e R s m args below meth c (jb_W G ad) s0.heap.size nL cells slots Q S q L (.ref (ad 2) :: st)) : ja_V p l e R s m args below meth c (jb_W G ad) s0.heap.size nL cells slots Q S pc L (.ref (ad (0)) :: st) :=
  jb_get O (k := 1) rfl rfl jx_C (by decide) jw_230 rfl hd hp kk
theorem jg_C_26 (O : CallFix p m c cc nL s args ja_T "CashMachine" ∧ jb_X s0 s G ad) (hd : decode cc pc = .ok (.getfield 26, 3)) (hp : pc + 3 = q) (kk : ja_V p l e R s m args below meth c (jb_W G ad) s0.heap.size nL cells slots Q S q L (.ref (ad 3) :: st)) : ja_V p l e R s m args below meth c (jb_W G ad) s0.heap.size nL cells slots Q S pc L (.ref (ad (0)) :: st) :=
  jb_get O (k := 2) rfl rfl jx_C (by decide) jw_231 rfl hd hp kk
theorem jg_C_33 (O : CallFix p m c cc nL s args ja_T "CashMachine" ∧ jb_X s0 s G ad) (hd : decode cc pc = .ok (.getfield 33, 3)) (hp : pc + 3 = q) (kk : ja_V p l e R s m args below meth c (jb_W G ad) s0.heap.size nL cells slots Q S q L (.ref (ad 4) :: st)) : ja_V p l e R s m args below meth c (jb_W G ad) s0.heap.size nL cells slots Q S pc L (.ref (ad (0)) :: st) :=
  jb_get O (k := 3) rfl rfl jx_C (by decide) jw_232 rfl hd hp kk
theorem jg_C_40 (O : CallFix p m c cc nL s args ja_T "CashMachine" ∧ jb_X s0 s G ad) (hd : decode cc pc = .ok (.getfield 40, 3)) (hp : pc + 3 = q) (kk : ja_V p l e R s m args below meth c (jb_W G ad) s0.heap.size nL cells slots Q S q L (.ref (ad 5) :: st)) : ja_V p l e R s m args below meth c (jb_W G ad) s0.heap.size nL cells slots Q S pc L (.ref (ad (0)) :: st) :=
  jb_get O (k := 4) rfl rfl jx_C (by decide) jw_233 rfl hd hp kk
theorem jg_C_44 (O : CallFix p m c cc nL s args ja_T "CashMachine" ∧ jb_X s0 s G ad) (hd : decode cc pc = .ok (.getfield 44, 3)) (hp : pc + 3 = q) (kk : ja_V p l e R s m args below meth c (jb_W G ad) s0.heap.size nL cells slots Q S q L (.int (S 0 0) :: st)) : ja_V p l e R s m args below meth c (jb_W G ad) s0.heap.size nL cells slots Q S pc L (.ref (ad (0)) :: st) :=
  jb_get O (k := 5) rfl rfl jx_C (by decide) jw_234 rfl hd hp kk
theorem jp_C_44 (O : CallFix p m c cc nL s args ja_T "CashMachine" ∧ jb_X s0 s G ad) {x : Int32} (hx : x = 0 ∨ x = 1) (hd : decode cc pc = .ok (.putfield 44, 3)) (hp : pc + 3 = q) (kk : ja_V p l e R s m args below meth c (jb_W G ad) s0.heap.size nL cells slots Q (jb_u S 0 0 x) q L st) : ja_V p l e R s m args below meth c (jb_W G ad) s0.heap.size nL cells slots Q S pc L (.int x :: .ref (ad (0)) :: st) :=
  jb_put O (k := 5) (ty := .boolean) rfl rfl jx_C jq_C jk_C jn_C (by decide) jw_234 rfl (by decide +kernel) (jb_nb hx) (jb_fb hx) (Nat.le_of_ble_eq_true rfl) (jb_s0 G ad S x) hd hp kk
theorem jg_C_48 (O : CallFix p m c cc nL s args ja_T "CashMachine" ∧ jb_X s0 s G ad) (hd : decode cc pc = .ok (.getfield 48, 3)) (hp : pc + 3 = q) (kk : ja_V p l e R s m args below meth c (jb_W G ad) s0.heap.size nL cells slots Q S q L (.int (S 1 0) :: st)) : ja_V p l e R s m args below meth c (jb_W G ad) s0.heap.size nL cells slots Q S pc L (.ref (ad (0)) :: st) :=
  jb_get O (k := 6) rfl rfl jx_C (by decide) jw_235 rfl hd hp kk
theorem jp_C_48 (O : CallFix p m c cc nL s args ja_T "CashMachine" ∧ jb_X s0 s G ad) {x : Int32} (hd : decode cc pc = .ok (.putfield 48, 3)) (hp : pc + 3 = q) (kk : ja_V p l e R s m args below meth c (jb_W G ad) s0.heap.size nL cells slots Q (jb_u S 1 0 x) q L st) : ja_V p l e R s m args below meth c (jb_W G ad) s0.heap.size nL cells slots Q S pc L (.int x :: .ref (ad (0)) :: st) :=
  jb_put O (k := 6) (ty := .int) rfl rfl jx_C jq_C jk_C jn_C (by decide) jw_235 rfl (by decide +kernel) rfl rfl (Nat.le_of_ble_eq_true rfl) (jb_s1 G ad S x) hd hp kk
theorem jg_C_52 (O : CallFix p m c cc nL s args ja_T "CashMachine" ∧ jb_X s0 s G ad) (hd : decode cc pc = .ok (.getfield 52, 3)) (hp : pc + 3 = q) (kk : ja_V p l e R s m args below meth c (jb_W G ad) s0.heap.size nL cells slots Q S q L (.int (S 2 0) :: st)) : ja_V p l e R s m args below meth c (jb_W G ad) s0.heap.size nL cells slots Q S pc L (.ref (ad (0)) :: st) :=
  jb_get O (k := 7) rfl rfl jx_C (by decide) jw_236 rfl hd hp kk
theorem jp_C_52 (O : CallFix p m c cc nL s args ja_T "CashMachine" ∧ jb_X s0 s G ad) {x : Int32} (hx : x = 0 ∨ x = 1) (hd : decode cc pc = .ok (.putfield 52, 3)) (hp : pc + 3 = q) (kk : ja_V p l e R s m args below meth c (jb_W G ad) s0.heap.size nL cells slots Q (jb_u S 2 0 x) q L st) : ja_V p l e R s m args below meth c (jb_W G ad) s0.heap.size nL cells slots Q S pc L (.int x :: .ref (ad (0)) :: st) :=
  jb_put O (k := 7) (ty := .boolean) rfl rfl jx_C jq_C jk_C jn_C (by decide) jw_236 rfl (by decide +kernel) (jb_nb hx) (jb_fb hx) (Nat.le_of_ble_eq_true rfl) (jb_s2 G ad S x) hd hp kk
theorem jg_C_55 (O : CallFix p m c cc nL s args ja_T "CashMachine" ∧ jb_X s0 s G ad) (hd : decode cc pc = .ok (.getfield 55, 3)) (hp : pc + 3 = q) (kk : ja_V p l e R s m args below meth c (jb_W G ad) s0.heap.size nL cells slots Q S q L (.int (S 3 0) :: st)) : ja_V p l e R s m args below meth c (jb_W G ad) s0.heap.size nL cells slots Q S pc L (.ref (ad (0)) :: st) :=
  jb_get O (k := 8) rfl rfl jx_C (by decide) jw_237 rfl hd hp kk
theorem jp_C_55 (O : CallFix p m c cc nL s args ja_T "CashMachine" ∧ jb_X s0 s G ad) {x : Int32} (hd : decode cc pc = .ok (.putfield 55, 3)) (hp : pc + 3 = q) (kk : ja_V p l e R s m args below meth c (jb_W G ad) s0.heap.size nL cells slots Q (jb_u S 3 0 x) q L st) : ja_V p l e R s m args below meth c (jb_W G ad) s0.heap.size nL cells slots Q S pc L (.int x :: .ref (ad (0)) :: st) :=
  jb_put O (k := 8) (ty := .int) rfl rfl jx_C jq_C jk_C jn_C (by decide) jw_237 rfl (by decide +kernel) rfl rfl (Nat.le_of_ble_eq_true rfl) (jb_s3 G ad S x) hd hp kk
theorem jg_M_72 (O : CallFix p m c cc nL s args ja_T "CashMachineModel" ∧ jb_X s0 s G ad) (hd : decode cc pc = .ok (.getfield 72, 3)) (hp : pc + 3 = q) (kk : ja_V p l e R s m args below meth c (jb_W G ad) s0.heap.size nL cells slots Q S q L (.int (S 32 0) :: st)) : ja_V p l e R s m args below meth c (jb_W G ad) s0.heap.size nL cells slots Q S pc L (.ref (ad (7)) :: st) :=
  jb_get O (k := 0) rfl rfl jx_M (by decide) jw_660 rfl hd hp kk
theorem jp_M_72 (O : CallFix p m c cc nL s args ja_T "CashMachineModel" ∧ jb_X s0 s G ad) {x : Int32} (hd : decode cc pc = .ok (.putfield 72, 3)) (hp : pc + 3 = q) (kk : ja_V p l e R s m args below meth c (jb_W G ad) s0.heap.size nL cells slots Q (jb_u S 32 0 x) q L st) : ja_V p l e R s m args below meth c (jb_W G ad) s0.heap.size nL cells slots Q S pc L (.int x :: .ref (ad (7)) :: st) :=
  jb_put O (k := 0) (ty := .int) rfl rfl jx_M jq_M jk_M jn_M (by decide) jw_660 rfl (by decide +kernel) rfl rfl (Nat.le_of_ble_eq_true rfl) (jb_s32 G ad S x) hd hp kk
theorem jg_M_7 (O : CallFix p m c cc nL s args ja_T "CashMachineModel" ∧ jb_X s0 s G ad) (hd : decode cc pc = .ok (.getfield 7, 3)) (hp : pc + 3 = q) (kk : ja_V p l e R s m args below meth c (jb_W G ad) s0.heap.size nL cells slots Q S q L (.ref (ad 19) :: st)) : ja_V p l e R s m args below meth c (jb_W G ad) s0.heap.size nL cells slots Q S pc L (.ref (ad (7)) :: st) :=
  jb_get O (k := 1) rfl rfl jx_M (by decide) jw_661 rfl hd hp kk
theorem jg_M_13 (O : CallFix p m c cc nL s args ja_T "CashMachineModel" ∧ jb_X s0 s G ad) (hd : decode cc pc = .ok (.getfield 13, 3)) (hp : pc + 3 = q) (kk : ja_V p l e R s m args below meth c (jb_W G ad) s0.heap.size nL cells slots Q S q L (.ref (ad 20) :: st)) : ja_V p l e R s m args below meth c (jb_W G ad) s0.heap.size nL cells slots Q S pc L (.ref (ad (7)) :: st) :=
  jb_get O (k := 2) rfl rfl jx_M (by decide) jw_662 rfl hd hp kk
theorem jg_M_17 (O : CallFix p m c cc nL s args ja_T "CashMachineModel" ∧ jb_X s0 s G ad) (hd : decode cc pc = .ok (.getfield 17, 3)) (hp : pc + 3 = q) (kk : ja_V p l e R s m args below meth c (jb_W G ad) s0.heap.size nL cells slots Q S q L (.ref (ad 21) :: st)) : ja_V p l e R s m args below meth c (jb_W G ad) s0.heap.size nL cells slots Q S pc L (.ref (ad (7)) :: st) :=
  jb_get O (k := 3) rfl rfl jx_M (by decide) jw_663 rfl hd hp kk
theorem jg_M_20 (O : CallFix p m c cc nL s args ja_T "CashMachineModel" ∧ jb_X s0 s G ad) (hd : decode cc pc = .ok (.getfield 20, 3)) (hp : pc + 3 = q) (kk : ja_V p l e R s m args below meth c (jb_W G ad) s0.heap.size nL cells slots Q S q L (.ref (ad 22) :: st)) : ja_V p l e R s m args below meth c (jb_W G ad) s0.heap.size nL cells slots Q S pc L (.ref (ad (7)) :: st) :=
  jb_get O (k := 4) rfl rfl jx_M (by decide) jw_664 rfl hd hp kk
theorem jg_M_23 (O : CallFix p m c cc nL s args ja_T "CashMachineModel" ∧ jb_X s0 s G ad) (hd : decode cc pc = .ok (.getfield 23, 3)) (hp : pc + 3 = q) (kk : ja_V p l e R s m args below meth c (jb_W G ad) s0.heap.size nL cells slots Q S q L (.ref (ad 23) :: st)) : ja_V p l e R s m args below meth c (jb_W G ad) s0.heap.size nL cells slots Q S pc L (.ref (ad (7)) :: st) :=
  jb_get O (k := 5) rfl rfl jx_M (by decide) jw_665 rfl hd hp kk
theorem jg_M_26 (O : CallFix p m c cc nL s args ja_T "CashMachineModel" ∧ jb_X s0 s G ad) (hd : decode cc pc = .ok (.getfield 26, 3)) (hp : pc + 3 = q) (kk : ja_V p l e R s m args below meth c (jb_W G ad) s0.heap.size nL cells slots Q S q L (.ref (ad 24) :: st)) : ja_V p l e R s m args below meth c (jb_W G ad) s0.heap.size nL cells slots Q S pc L (.ref (ad (7)) :: st) :=
  jb_get O (k := 6) rfl rfl jx_M (by decide) jw_666 rfl hd hp kk
theorem jg_M_29 (O : CallFix p m c cc nL s args ja_T "CashMachineModel" ∧ jb_X s0 s G ad) (hd : decode cc pc = .ok (.getfield 29, 3)) (hp : pc + 3 = q) (kk : ja_V p l e R s m args below meth c (jb_W G ad) s0.heap.size nL cells slots Q S q L (.ref (ad 25) :: st)) : ja_V p l e R s m args below meth c (jb_W G ad) s0.heap.size nL cells slots Q S pc L (.ref (ad (7)) :: st) :=
  jb_get O (k := 7) rfl rfl jx_M (by decide) jw_667 rfl hd hp kk
theorem jg_M_32 (O : CallFix p m c cc nL s args ja_T "CashMachineModel" ∧ jb_X s0 s G ad) (hd : decode cc pc = .ok (.getfield 32, 3)) (hp : pc + 3 = q) (kk : ja_V p l e R s m args below meth c (jb_W G ad) s0.heap.size nL cells slots Q S q L (.ref (ad 26) :: st)) : ja_V p l e R s m args below meth c (jb_W G ad) s0.heap.size nL cells slots Q S pc L (.ref (ad (7)) :: st) :=
  jb_get O (k := 8) rfl rfl jx_M (by decide) jw_668 rfl hd hp kk
theorem jg_M_35 (O : CallFix p m c cc nL s args ja_T "CashMachineModel" ∧ jb_X s0 s G ad) (hd : decode cc pc = .ok (.getfield 35, 3)) (hp : pc + 3 = q) (kk : ja_V p l e R s m args below meth c (jb_W G ad) s0.heap.size nL cells slots Q S q L (.ref (ad 27) :: st)) : ja_V p l e R s m args below meth c (jb_W G ad) s0.heap.size nL cells slots Q S pc L (.ref (ad (7)) :: st) :=
  jb_get O (k := 9) rfl rfl jx_M (by decide) jw_669 rfl hd hp kk
theorem jg_M_84 (O : CallFix p m c cc nL s args ja_T "CashMachineModel" ∧ jb_X s0 s G ad) (hd : decode cc pc = .ok (.getfield 84, 3)) (hp : pc + 3 = q) (kk : ja_V p l e R s m args below meth c (jb_W G ad) s0.heap.size nL cells slots Q S q L (.int (S 33 0) :: st)) : ja_V p l e R s m args below meth c (jb_W G ad) s0.heap.size nL cells slots Q S pc L (.ref (ad (7)) :: st) :=
  jb_get O (k := 10) rfl rfl jx_M (by decide) jw_670 rfl hd hp kk
theorem jp_M_84 (O : CallFix p m c cc nL s args ja_T "CashMachineModel" ∧ jb_X s0 s G ad) {x : Int32} (hx : x = 0 ∨ x = 1) (hd : decode cc pc = .ok (.putfield 84, 3)) (hp : pc + 3 = q) (kk : ja_V p l e R s m args below meth c (jb_W G ad) s0.heap.size nL cells slots Q (jb_u S 33 0 x) q L st) : ja_V p l e R s m args below meth c (jb_W G ad) s0.heap.size nL cells slots Q S pc L (.int x :: .ref (ad (7)) :: st) :=
  jb_put O (k := 10) (ty := .boolean) rfl rfl jx_M jq_M jk_M jn_M (by decide) jw_670 rfl (by decide +kernel) (jb_nb hx) (jb_fb hx) (Nat.le_of_ble_eq_true rfl) (jb_s33 G ad S x) hd hp kk
theorem jg_M_38 (O : CallFix p m c cc nL s args ja_T "CashMachineModel" ∧ jb_X s0 s G ad) (hd : decode cc pc = .ok (.getfield 38, 3)) (hp : pc + 3 = q) (kk : ja_V p l e R s m args below meth c (jb_W G ad) s0.heap.size nL cells slots Q S q L (.int (S 34 0) :: st)) : ja_V p l e R s m args below meth c (jb_W G ad) s0.heap.size nL cells slots Q S pc L (.ref (ad (7)) :: st) :=
  jb_get O (k := 11) rfl rfl jx_M (by decide) jw_671 rfl hd hp kk
theorem jp_M_38 (O : CallFix p m c cc nL s args ja_T "CashMachineModel" ∧ jb_X s0 s G ad) {x : Int32} (hd : decode cc pc = .ok (.putfield 38, 3)) (hp : pc + 3 = q) (kk : ja_V p l e R s m args below meth c (jb_W G ad) s0.heap.size nL cells slots Q (jb_u S 34 0 x) q L st) : ja_V p l e R s m args below meth c (jb_W G ad) s0.heap.size nL cells slots Q S pc L (.int x :: .ref (ad (7)) :: st) :=
  jb_put O (k := 11) (ty := .int) rfl rfl jx_M jq_M jk_M jn_M (by decide) jw_671 rfl (by decide +kernel) rfl rfl (Nat.le_of_ble_eq_true rfl) (jb_s34 G ad S x) hd hp kk
theorem jg_M_88 (O : CallFix p m c cc nL s args ja_T "CashMachineModel" ∧ jb_X s0 s G ad) (hd : decode cc pc = .ok (.getfield 88, 3)) (hp : pc + 3 = q) (kk : ja_V p l e R s m args below meth c (jb_W G ad) s0.heap.size nL cells slots Q S q L (.int (S 35 0) :: st)) : ja_V p l e R s m args below meth c (jb_W G ad) s0.heap.size nL cells slots Q S pc L (.ref (ad (7)) :: st) :=
  jb_get O (k := 12) rfl rfl jx_M (by decide) jw_672 rfl hd hp kk
theorem jp_M_88 (O : CallFix p m c cc nL s args ja_T "CashMachineModel" ∧ jb_X s0 s G ad) {x : Int32} (hx : x = 0 ∨ x = 1) (hd : decode cc pc = .ok (.putfield 88, 3)) (hp : pc + 3 = q) (kk : ja_V p l e R s m args below meth c (jb_W G ad) s0.heap.size nL cells slots Q (jb_u S 35 0 x) q L st) : ja_V p l e R s m args below meth c (jb_W G ad) s0.heap.size nL cells slots Q S pc L (.int x :: .ref (ad (7)) :: st) :=
  jb_put O (k := 12) (ty := .boolean) rfl rfl jx_M jq_M jk_M jn_M (by decide) jw_672 rfl (by decide +kernel) (jb_nb hx) (jb_fb hx) (Nat.le_of_ble_eq_true rfl) (jb_s35 G ad S x) hd hp kk
theorem jg_M_42 (O : CallFix p m c cc nL s args ja_T "CashMachineModel" ∧ jb_X s0 s G ad) (hd : decode cc pc = .ok (.getfield 42, 3)) (hp : pc + 3 = q) (kk : ja_V p l e R s m args below meth c (jb_W G ad) s0.heap.size nL cells slots Q S q L (.ref (ad 28) :: st)) : ja_V p l e R s m args below meth c (jb_W G ad) s0.heap.size nL cells slots Q S pc L (.ref (ad (7)) :: st) :=
  jb_get O (k := 13) rfl rfl jx_M (by decide) jw_673 rfl hd hp kk
theorem jg_M_45 (O : CallFix p m c cc nL s args ja_T "CashMachineModel" ∧ jb_X s0 s G ad) (hd : decode cc pc = .ok (.getfield 45, 3)) (hp : pc + 3 = q) (kk : ja_V p l e R s m args below meth c (jb_W G ad) s0.heap.size nL cells slots Q S q L (.ref (ad 29) :: st)) : ja_V p l e R s m args below meth c (jb_W G ad) s0.heap.size nL cells slots Q S pc L (.ref (ad (7)) :: st) :=
  jb_get O (k := 14) rfl rfl jx_M (by decide) jw_674 rfl hd hp kk
theorem jg_M_48 (O : CallFix p m c cc nL s args ja_T "CashMachineModel" ∧ jb_X s0 s G ad) (hd : decode cc pc = .ok (.getfield 48, 3)) (hp : pc + 3 = q) (kk : ja_V p l e R s m args below meth c (jb_W G ad) s0.heap.size nL cells slots Q S q L (.ref (ad 30) :: st)) : ja_V p l e R s m args below meth c (jb_W G ad) s0.heap.size nL cells slots Q S pc L (.ref (ad (7)) :: st) :=
  jb_get O (k := 15) rfl rfl jx_M (by decide) jw_675 rfl hd hp kk
theorem jg_M_51 (O : CallFix p m c cc nL s args ja_T "CashMachineModel" ∧ jb_X s0 s G ad) (hd : decode cc pc = .ok (.getfield 51, 3)) (hp : pc + 3 = q) (kk : ja_V p l e R s m args below meth c (jb_W G ad) s0.heap.size nL cells slots Q S q L (.ref (ad 31) :: st)) : ja_V p l e R s m args below meth c (jb_W G ad) s0.heap.size nL cells slots Q S pc L (.ref (ad (7)) :: st) :=
  jb_get O (k := 16) rfl rfl jx_M (by decide) jw_676 rfl hd hp kk
theorem jg_M_54 (O : CallFix p m c cc nL s args ja_T "CashMachineModel" ∧ jb_X s0 s G ad) (hd : decode cc pc = .ok (.getfield 54, 3)) (hp : pc + 3 = q) (kk : ja_V p l e R s m args below meth c (jb_W G ad) s0.heap.size nL cells slots Q S q L (.ref (ad 32) :: st)) : ja_V p l e R s m args below meth c (jb_W G ad) s0.heap.size nL cells slots Q S pc L (.ref (ad (7)) :: st) :=
  jb_get O (k := 17) rfl rfl jx_M (by decide) jw_677 rfl hd hp kk
theorem jg_M_57 (O : CallFix p m c cc nL s args ja_T "CashMachineModel" ∧ jb_X s0 s G ad) (hd : decode cc pc = .ok (.getfield 57, 3)) (hp : pc + 3 = q) (kk : ja_V p l e R s m args below meth c (jb_W G ad) s0.heap.size nL cells slots Q S q L (.ref (ad 33) :: st)) : ja_V p l e R s m args below meth c (jb_W G ad) s0.heap.size nL cells slots Q S pc L (.ref (ad (7)) :: st) :=
  jb_get O (k := 18) rfl rfl jx_M (by decide) jw_678 rfl hd hp kk
theorem jg_M_149 (O : CallFix p m c cc nL s args ja_T "CashMachineModel" ∧ jb_X s0 s G ad) (hd : decode cc pc = .ok (.getfield 149, 3)) (hp : pc + 3 = q) (kk : ja_V p l e R s m args below meth c (jb_W G ad) s0.heap.size nL cells slots Q S q L (.int (S 36 0) :: st)) : ja_V p l e R s m args below meth c (jb_W G ad) s0.heap.size nL cells slots Q S pc L (.ref (ad (7)) :: st) :=
  jb_get O (k := 19) rfl rfl jx_M (by decide) jw_679 rfl hd hp kk
theorem jp_M_149 (O : CallFix p m c cc nL s args ja_T "CashMachineModel" ∧ jb_X s0 s G ad) {x : Int32} (hd : decode cc pc = .ok (.putfield 149, 3)) (hp : pc + 3 = q) (kk : ja_V p l e R s m args below meth c (jb_W G ad) s0.heap.size nL cells slots Q (jb_u S 36 0 x) q L st) : ja_V p l e R s m args below meth c (jb_W G ad) s0.heap.size nL cells slots Q S pc L (.int x :: .ref (ad (7)) :: st) :=
  jb_put O (k := 19) (ty := .int) rfl rfl jx_M jq_M jk_M jn_M (by decide) jw_679 rfl (by decide +kernel) rfl rfl (Nat.le_of_ble_eq_true rfl) (jb_s36 G ad S x) hd hp kk
theorem jg_M_60 (O : CallFix p m c cc nL s args ja_T "CashMachineModel" ∧ jb_X s0 s G ad) (hd : decode cc pc = .ok (.getfield 60, 3)) (hp : pc + 3 = q) (kk : ja_V p l e R s m args below meth c (jb_W G ad) s0.heap.size nL cells slots Q S q L (.ref (ad 34) :: st)) : ja_V p l e R s m args below meth c (jb_W G ad) s0.heap.size nL cells slots Q S pc L (.ref (ad (7)) :: st) :=
  jb_get O (k := 20) rfl rfl jx_M (by decide) jw_680 rfl hd hp kk
theorem jg_M_63 (O : CallFix p m c cc nL s args ja_T "CashMachineModel" ∧ jb_X s0 s G ad) (hd : decode cc pc = .ok (.getfield 63, 3)) (hp : pc + 3 = q) (kk : ja_V p l e R s m args below meth c (jb_W G ad) s0.heap.size nL cells slots Q S q L (.ref (ad 35) :: st)) : ja_V p l e R s m args below meth c (jb_W G ad) s0.heap.size nL cells slots Q S pc L (.ref (ad (7)) :: st) :=
  jb_get O (k := 21) rfl rfl jx_M (by decide) jw_681 rfl hd hp kk
theorem jg_M_106 (O : CallFix p m c cc nL s args ja_T "CashMachineModel" ∧ jb_X s0 s G ad) (hd : decode cc pc = .ok (.getfield 106, 3)) (hp : pc + 3 = q) (kk : ja_V p l e R s m args below meth c (jb_W G ad) s0.heap.size nL cells slots Q S q L (.int (S 37 0) :: st)) : ja_V p l e R s m args below meth c (jb_W G ad) s0.heap.size nL cells slots Q S pc L (.ref (ad (7)) :: st) :=
  jb_get O (k := 22) rfl rfl jx_M (by decide) jw_682 rfl hd hp kk
theorem jp_M_106 (O : CallFix p m c cc nL s args ja_T "CashMachineModel" ∧ jb_X s0 s G ad) {x : Int32} (hd : decode cc pc = .ok (.putfield 106, 3)) (hp : pc + 3 = q) (kk : ja_V p l e R s m args below meth c (jb_W G ad) s0.heap.size nL cells slots Q (jb_u S 37 0 x) q L st) : ja_V p l e R s m args below meth c (jb_W G ad) s0.heap.size nL cells slots Q S pc L (.int x :: .ref (ad (7)) :: st) :=
  jb_put O (k := 22) (ty := .int) rfl rfl jx_M jq_M jk_M jn_M (by decide) jw_682 rfl (by decide +kernel) rfl rfl (Nat.le_of_ble_eq_true rfl) (jb_s37 G ad S x) hd hp kk
theorem jg_M_66 (O : CallFix p m c cc nL s args ja_T "CashMachineModel" ∧ jb_X s0 s G ad) (hd : decode cc pc = .ok (.getfield 66, 3)) (hp : pc + 3 = q) (kk : ja_V p l e R s m args below meth c (jb_W G ad) s0.heap.size nL cells slots Q S q L (.ref (ad 36) :: st)) : ja_V p l e R s m args below meth c (jb_W G ad) s0.heap.size nL cells slots Q S pc L (.ref (ad (7)) :: st) :=
  jb_get O (k := 23) rfl rfl jx_M (by decide) jw_683 rfl hd hp kk
theorem jg_M_103 (O : CallFix p m c cc nL s args ja_T "CashMachineModel" ∧ jb_X s0 s G ad) (hd : decode cc pc = .ok (.getfield 103, 3)) (hp : pc + 3 = q) (kk : ja_V p l e R s m args below meth c (jb_W G ad) s0.heap.size nL cells slots Q S q L (.int (S 38 0) :: st)) : ja_V p l e R s m args below meth c (jb_W G ad) s0.heap.size nL cells slots Q S pc L (.ref (ad (7)) :: st) :=
  jb_get O (k := 24) rfl rfl jx_M (by decide) jw_684 rfl hd hp kk
theorem jp_M_103 (O : CallFix p m c cc nL s args ja_T "CashMachineModel" ∧ jb_X s0 s G ad) {x : Int32} (hd : decode cc pc = .ok (.putfield 103, 3)) (hp : pc + 3 = q) (kk : ja_V p l e R s m args below meth c (jb_W G ad) s0.heap.size nL cells slots Q (jb_u S 38 0 x) q L st) : ja_V p l e R s m args below meth c (jb_W G ad) s0.heap.size nL cells slots Q S pc L (.int x :: .ref (ad (7)) :: st) :=
  jb_put O (k := 24) (ty := .int) rfl rfl jx_M jq_M jk_M jn_M (by decide) jw_684 rfl (by decide +kernel) rfl rfl (Nat.le_of_ble_eq_true rfl) (jb_s38 G ad S x) hd hp kk
theorem jg_M_69 (O : CallFix p m c cc nL s args ja_T "CashMachineModel" ∧ jb_X s0 s G ad) (hd : decode cc pc = .ok (.getfield 69, 3)) (hp : pc + 3 = q) (kk : ja_V p l e R s m args below meth c (jb_W G ad) s0.heap.size nL cells slots Q S q L (.int (S 39 0) :: st)) : ja_V p l e R s m args below meth c (jb_W G ad) s0.heap.size nL cells slots Q S pc L (.ref (ad (7)) :: st) :=
  jb_get O (k := 25) rfl rfl jx_M (by decide) jw_685 rfl hd hp kk
theorem jp_M_69 (O : CallFix p m c cc nL s args ja_T "CashMachineModel" ∧ jb_X s0 s G ad) {x : Int32} (hd : decode cc pc = .ok (.putfield 69, 3)) (hp : pc + 3 = q) (kk : ja_V p l e R s m args below meth c (jb_W G ad) s0.heap.size nL cells slots Q (jb_u S 39 0 x) q L st) : ja_V p l e R s m args below meth c (jb_W G ad) s0.heap.size nL cells slots Q S pc L (.int x :: .ref (ad (7)) :: st) :=
  jb_put O (k := 25) (ty := .int) rfl rfl jx_M jq_M jk_M jn_M (by decide) jw_685 rfl (by decide +kernel) rfl rfl (Nat.le_of_ble_eq_true rfl) (jb_s39 G ad S x) hd hp kk
theorem jg_M_109 (O : CallFix p m c cc nL s args ja_T "CashMachineModel" ∧ jb_X s0 s G ad) (hd : decode cc pc = .ok (.getfield 109, 3)) (hp : pc + 3 = q) (kk : ja_V p l e R s m args below meth c (jb_W G ad) s0.heap.size nL cells slots Q S q L (.int (S 40 0) :: st)) : ja_V p l e R s m args below meth c (jb_W G ad) s0.heap.size nL cells slots Q S pc L (.ref (ad (7)) :: st) :=
  jb_get O (k := 26) rfl rfl jx_M (by decide) jw_686 rfl hd hp kk
theorem jp_M_109 (O : CallFix p m c cc nL s args ja_T "CashMachineModel" ∧ jb_X s0 s G ad) {x : Int32} (hd : decode cc pc = .ok (.putfield 109, 3)) (hp : pc + 3 = q) (kk : ja_V p l e R s m args below meth c (jb_W G ad) s0.heap.size nL cells slots Q (jb_u S 40 0 x) q L st) : ja_V p l e R s m args below meth c (jb_W G ad) s0.heap.size nL cells slots Q S pc L (.int x :: .ref (ad (7)) :: st) :=
  jb_put O (k := 26) (ty := .int) rfl rfl jx_M jq_M jk_M jn_M (by decide) jw_686 rfl (by decide +kernel) rfl rfl (Nat.le_of_ble_eq_true rfl) (jb_s40 G ad S x) hd hp kk
theorem jg_M_115 (O : CallFix p m c cc nL s args ja_T "CashMachineModel" ∧ jb_X s0 s G ad) (hd : decode cc pc = .ok (.getfield 115, 3)) (hp : pc + 3 = q) (kk : ja_V p l e R s m args below meth c (jb_W G ad) s0.heap.size nL cells slots Q S q L (.int (S 41 0) :: st)) : ja_V p l e R s m args below meth c (jb_W G ad) s0.heap.size nL cells slots Q S pc L (.ref (ad (7)) :: st) :=
  jb_get O (k := 27) rfl rfl jx_M (by decide) jw_687 rfl hd hp kk
theorem jp_M_115 (O : CallFix p m c cc nL s args ja_T "CashMachineModel" ∧ jb_X s0 s G ad) {x : Int32} (hd : decode cc pc = .ok (.putfield 115, 3)) (hp : pc + 3 = q) (kk : ja_V p l e R s m args below meth c (jb_W G ad) s0.heap.size nL cells slots Q (jb_u S 41 0 x) q L st) : ja_V p l e R s m args below meth c (jb_W G ad) s0.heap.size nL cells slots Q S pc L (.int x :: .ref (ad (7)) :: st) :=
  jb_put O (k := 27) (ty := .int) rfl rfl jx_M jq_M jk_M jn_M (by decide) jw_687 rfl (by decide +kernel) rfl rfl (Nat.le_of_ble_eq_true rfl) (jb_s41 G ad S x) hd hp kk
theorem jg_M_118 (O : CallFix p m c cc nL s args ja_T "CashMachineModel" ∧ jb_X s0 s G ad) (hd : decode cc pc = .ok (.getfield 118, 3)) (hp : pc + 3 = q) (kk : ja_V p l e R s m args below meth c (jb_W G ad) s0.heap.size nL cells slots Q S q L (.int (S 42 0) :: st)) : ja_V p l e R s m args below meth c (jb_W G ad) s0.heap.size nL cells slots Q S pc L (.ref (ad (7)) :: st) :=
  jb_get O (k := 28) rfl rfl jx_M (by decide) jw_688 rfl hd hp kk
theorem jp_M_118 (O : CallFix p m c cc nL s args ja_T "CashMachineModel" ∧ jb_X s0 s G ad) {x : Int32} (hd : decode cc pc = .ok (.putfield 118, 3)) (hp : pc + 3 = q) (kk : ja_V p l e R s m args below meth c (jb_W G ad) s0.heap.size nL cells slots Q (jb_u S 42 0 x) q L st) : ja_V p l e R s m args below meth c (jb_W G ad) s0.heap.size nL cells slots Q S pc L (.int x :: .ref (ad (7)) :: st) :=
  jb_put O (k := 28) (ty := .int) rfl rfl jx_M jq_M jk_M jn_M (by decide) jw_688 rfl (by decide +kernel) rfl rfl (Nat.le_of_ble_eq_true rfl) (jb_s42 G ad S x) hd hp kk
theorem jg_M_121 (O : CallFix p m c cc nL s args ja_T "CashMachineModel" ∧ jb_X s0 s G ad) (hd : decode cc pc = .ok (.getfield 121, 3)) (hp : pc + 3 = q) (kk : ja_V p l e R s m args below meth c (jb_W G ad) s0.heap.size nL cells slots Q S q L (.int (S 43 0) :: st)) : ja_V p l e R s m args below meth c (jb_W G ad) s0.heap.size nL cells slots Q S pc L (.ref (ad (7)) :: st) :=
  jb_get O (k := 29) rfl rfl jx_M (by decide) jw_689 rfl hd hp kk
theorem jp_M_121 (O : CallFix p m c cc nL s args ja_T "CashMachineModel" ∧ jb_X s0 s G ad) {x : Int32} (hd : decode cc pc = .ok (.putfield 121, 3)) (hp : pc + 3 = q) (kk : ja_V p l e R s m args below meth c (jb_W G ad) s0.heap.size nL cells slots Q (jb_u S 43 0 x) q L st) : ja_V p l e R s m args below meth c (jb_W G ad) s0.heap.size nL cells slots Q S pc L (.int x :: .ref (ad (7)) :: st) :=
  jb_put O (k := 29) (ty := .int) rfl rfl jx_M jq_M jk_M jn_M (by decide) jw_689 rfl (by decide +kernel) rfl rfl (Nat.le_of_ble_eq_true rfl) (jb_s43 G ad S x) hd hp kk
theorem jl_8 (O : CallFix p m c cc nL s args ja_T own ∧ jb_X s0 s G ad) {k : Nat} {x : Int32} (hx : x = nI k) (hk : k < 8) (hd : decode cc pc = .ok (.aaload, 1)) (hp : pc + 1 = q) (kk : ja_V p l e R s m args below meth c (jb_W G ad) s0.heap.size nL cells slots Q S q L (.ref (ad (38 + k)) :: st)) : ja_V p l e R s m args below meth c (jb_W G ad) s0.heap.size nL cells slots Q S pc L (.int x :: .ref (ad 8) :: st) := by
  subst hp; subst hx
  intro ls H locs hL hP hS
  refine va_aldq O.1.1 O.1.2.1 O.2.2.1 hP 8 3 rfl rfl (vp_in_nI hk (by decide)) hd ?_
  rw [nI_clamp (show k < 2 ^ 31 by omega)]
  exact kk ls H locs hL hP hS
theorem jn_8 (O : CallFix p m c cc nL s args ja_T own ∧ jb_X s0 s G ad) (hd : decode cc pc = .ok (.arraylength, 1)) (hp : pc + 1 = q) (kk : ja_V p l e R s m args below meth c (jb_W G ad) s0.heap.size nL cells slots Q S q L (.int (nI 8) :: st)) : ja_V p l e R s m args below meth c (jb_W G ad) s0.heap.size nL cells slots Q S pc L (.ref (ad 8) :: st) := by
  subst hp
  exact fun ls H locs hL hP hS => va_alen O.1.1 O.1.2.1 O.2.2.1 hP 8 3 rfl rfl rfl hd (kk ls H locs hL hP hS)
theorem jl_9 (O : CallFix p m c cc nL s args ja_T own ∧ jb_X s0 s G ad) {k : Nat} {x : Int32} (hx : x = nI k) (hk : k < 41) (hd : decode cc pc = .ok (.iaload, 1)) (hp : pc + 1 = q) (kk : ja_V p l e R s m args below meth c (jb_W G ad) s0.heap.size nL cells slots Q S q L (.int (S 24 k) :: st)) : ja_V p l e R s m args below meth c (jb_W G ad) s0.heap.size nL cells slots Q S pc L (.int x :: .ref (ad 9) :: st) := by
  subst hp; subst hx
  intro ls H locs hL hP hS
  refine va_iald O.1.1 O.1.2.1 O.2.2.1 hP 9 0 rfl rfl (vp_in_nI hk (by decide)) hd ?_
  rw [nI_clamp (show k < 2 ^ 31 by omega)]
  exact kk ls H locs hL hP hS
theorem jn_9 (O : CallFix p m c cc nL s args ja_T own ∧ jb_X s0 s G ad) (hd : decode cc pc = .ok (.arraylength, 1)) (hp : pc + 1 = q) (kk : ja_V p l e R s m args below meth c (jb_W G ad) s0.heap.size nL cells slots Q S q L (.int (nI 41) :: st)) : ja_V p l e R s m args below meth c (jb_W G ad) s0.heap.size nL cells slots Q S pc L (.ref (ad 9) :: st) := by
  subst hp
  exact fun ls H locs hL hP hS => va_alen O.1.1 O.1.2.1 O.2.2.1 hP 9 0 rfl rfl rfl hd (kk ls H locs hL hP hS)
theorem js_9 (O : CallFix p m c cc nL s args ja_T own ∧ jb_X s0 s G ad) {k : Nat} {x y : Int32} (hx : x = nI k) (hk : k < 41) (hd : decode cc pc = .ok (.iastore, 1)) (hp : pc + 1 = q) (kk : ja_V p l e R s m args below meth c (jb_W G ad) s0.heap.size nL cells slots Q (jb_u S 24 k y) q L st) : ja_V p l e R s m args below meth c (jb_W G ad) s0.heap.size nL cells slots Q S pc L (.int y :: .int x :: .ref (ad 9) :: st) := by
  subst hp; subst hx
  intro ls H locs hL hP hS
  refine va_iast O.1.1 O.1.2.1 O.2.2.1 hP (O.2.2.2.1.va S) hS 9 0 rfl rfl (vp_in_nI hk (by decide)) hd (fun H1 locs1 hP1 _ hS1 => ?_)
  rw [nI_clamp (show k < 2 ^ 31 by omega)] at hP1
  exact kk ls H1 locs1 hL (show va_P G.1 jb_cl (jb_en G ad _) H1 by rw [← jb_s24]; exact hP1) hS1
theorem jl_10 (O : CallFix p m c cc nL s args ja_T own ∧ jb_X s0 s G ad) {k : Nat} {x : Int32} (hx : x = nI k) (hk : k < 41) (hd : decode cc pc = .ok (.iaload, 1)) (hp : pc + 1 = q) (kk : ja_V p l e R s m args below meth c (jb_W G ad) s0.heap.size nL cells slots Q S q L (.int (S 25 k) :: st)) : ja_V p l e R s m args below meth c (jb_W G ad) s0.heap.size nL cells slots Q S pc L (.int x :: .ref (ad 10) :: st) := by
  subst hp; subst hx
  intro ls H locs hL hP hS
  refine va_iald O.1.1 O.1.2.1 O.2.2.1 hP 10 0 rfl rfl (vp_in_nI hk (by decide)) hd ?_
  rw [nI_clamp (show k < 2 ^ 31 by omega)]
  exact kk ls H locs hL hP hS
theorem jn_10 (O : CallFix p m c cc nL s args ja_T own ∧ jb_X s0 s G ad) (hd : decode cc pc = .ok (.arraylength, 1)) (hp : pc + 1 = q) (kk : ja_V p l e R s m args below meth c (jb_W G ad) s0.heap.size nL cells slots Q S q L (.int (nI 41) :: st)) : ja_V p l e R s m args below meth c (jb_W G ad) s0.heap.size nL cells slots Q S pc L (.ref (ad 10) :: st) := by
  subst hp
  exact fun ls H locs hL hP hS => va_alen O.1.1 O.1.2.1 O.2.2.1 hP 10 0 rfl rfl rfl hd (kk ls H locs hL hP hS)
theorem js_10 (O : CallFix p m c cc nL s args ja_T own ∧ jb_X s0 s G ad) {k : Nat} {x y : Int32} (hx : x = nI k) (hk : k < 41) (hd : decode cc pc = .ok (.iastore, 1)) (hp : pc + 1 = q) (kk : ja_V p l e R s m args below meth c (jb_W G ad) s0.heap.size nL cells slots Q (jb_u S 25 k y) q L st) : ja_V p l e R s m args below meth c (jb_W G ad) s0.heap.size nL cells slots Q S pc L (.int y :: .int x :: .ref (ad 10) :: st) := by
  subst hp; subst hx
  intro ls H locs hL hP hS
  refine va_iast O.1.1 O.1.2.1 O.2.2.1 hP (O.2.2.2.1.va S) hS 10 0 rfl rfl (vp_in_nI hk (by decide)) hd (fun H1 locs1 hP1 _ hS1 => ?_)
  rw [nI_clamp (show k < 2 ^ 31 by omega)] at hP1
  exact kk ls H1 locs1 hL (show va_P G.1 jb_cl (jb_en G ad _) H1 by rw [← jb_s25]; exact hP1) hS1
theorem jl_11 (O : CallFix p m c cc nL s args ja_T own ∧ jb_X s0 s G ad) {k : Nat} {x : Int32} (hx : x = nI k) (hk : k < 41) (hd : decode cc pc = .ok (.baload, 1)) (hp : pc + 1 = q) (kk : ja_V p l e R s m args below meth c (jb_W G ad) s0.heap.size nL cells slots Q S q L (.int (S 26 k) :: st)) : ja_V p l e R s m args below meth c (jb_W G ad) s0.heap.size nL cells slots Q S pc L (.int x :: .ref (ad 11) :: st) := by
  subst hp; subst hx
  intro ls H locs hL hP hS
  refine va_zald O.1.1 O.1.2.1 O.2.2.1 hP 11 1 rfl rfl (vp_in_nI hk (by decide)) hd ?_
  rw [nI_clamp (show k < 2 ^ 31 by omega)]
  exact kk ls H locs hL hP hS
theorem jn_11 (O : CallFix p m c cc nL s args ja_T own ∧ jb_X s0 s G ad) (hd : decode cc pc = .ok (.arraylength, 1)) (hp : pc + 1 = q) (kk : ja_V p l e R s m args below meth c (jb_W G ad) s0.heap.size nL cells slots Q S q L (.int (nI 41) :: st)) : ja_V p l e R s m args below meth c (jb_W G ad) s0.heap.size nL cells slots Q S pc L (.ref (ad 11) :: st) := by
  subst hp
  exact fun ls H locs hL hP hS => va_alen O.1.1 O.1.2.1 O.2.2.1 hP 11 1 rfl rfl rfl hd (kk ls H locs hL hP hS)
theorem js_11 (O : CallFix p m c cc nL s args ja_T own ∧ jb_X s0 s G ad) {k : Nat} {x y : Int32} (hx : x = nI k) (hk : k < 41) (hy : y = 0 ∨ y = 1) (hd : decode cc pc = .ok (.bastore, 1)) (hp : pc + 1 = q) (kk : ja_V p l e R s m args below meth c (jb_W G ad) s0.heap.size nL cells slots Q (jb_u S 26 k y) q L st) : ja_V p l e R s m args below meth c (jb_W G ad) s0.heap.size nL cells slots Q S pc L (.int y :: .int x :: .ref (ad 11) :: st) := by
  subst hp; subst hx
  intro ls H locs hL hP hS
  refine va_zast O.1.1 O.1.2.1 O.2.2.1 hP (O.2.2.2.1.va S) hS 11 1 rfl rfl (vp_in_nI hk (by decide)) hd (fun H1 locs1 hP1 _ hS1 => ?_)
  rw [nI_clamp (show k < 2 ^ 31 by omega), jb_vb hy] at hP1
  exact kk ls H1 locs1 hL (show va_P G.1 jb_cl (jb_en G ad _) H1 by rw [← jb_s26]; exact hP1) hS1
theorem jl_12 (O : CallFix p m c cc nL s args ja_T own ∧ jb_X s0 s G ad) {k : Nat} {x : Int32} (hx : x = nI k) (hk : k < 8) (hd : decode cc pc = .ok (.iaload, 1)) (hp : pc + 1 = q) (kk : ja_V p l e R s m args below meth c (jb_W G ad) s0.heap.size nL cells slots Q S q L (.int (S 27 k) :: st)) : ja_V p l e R s m args below meth c (jb_W G ad) s0.heap.size nL cells slots Q S pc L (.int x :: .ref (ad 12) :: st) := by
  subst hp; subst hx
  intro ls H locs hL hP hS
  refine va_iald O.1.1 O.1.2.1 O.2.2.1 hP 12 0 rfl rfl (vp_in_nI hk (by decide)) hd ?_
  rw [nI_clamp (show k < 2 ^ 31 by omega)]
  exact kk ls H locs hL hP hS
theorem jn_12 (O : CallFix p m c cc nL s args ja_T own ∧ jb_X s0 s G ad) (hd : decode cc pc = .ok (.arraylength, 1)) (hp : pc + 1 = q) (kk : ja_V p l e R s m args below meth c (jb_W G ad) s0.heap.size nL cells slots Q S q L (.int (nI 8) :: st)) : ja_V p l e R s m args below meth c (jb_W G ad) s0.heap.size nL cells slots Q S pc L (.ref (ad 12) :: st) := by
  subst hp
  exact fun ls H locs hL hP hS => va_alen O.1.1 O.1.2.1 O.2.2.1 hP 12 0 rfl rfl rfl hd (kk ls H locs hL hP hS)
theorem js_12 (O : CallFix p m c cc nL s args ja_T own ∧ jb_X s0 s G ad) {k : Nat} {x y : Int32} (hx : x = nI k) (hk : k < 8) (hd : decode cc pc = .ok (.iastore, 1)) (hp : pc + 1 = q) (kk : ja_V p l e R s m args below meth c (jb_W G ad) s0.heap.size nL cells slots Q (jb_u S 27 k y) q L st) : ja_V p l e R s m args below meth c (jb_W G ad) s0.heap.size nL cells slots Q S pc L (.int y :: .int x :: .ref (ad 12) :: st) := by
  subst hp; subst hx
  intro ls H locs hL hP hS
  refine va_iast O.1.1 O.1.2.1 O.2.2.1 hP (O.2.2.2.1.va S) hS 12 0 rfl rfl (vp_in_nI hk (by decide)) hd (fun H1 locs1 hP1 _ hS1 => ?_)
  rw [nI_clamp (show k < 2 ^ 31 by omega)] at hP1
  exact kk ls H1 locs1 hL (show va_P G.1 jb_cl (jb_en G ad _) H1 by rw [← jb_s27]; exact hP1) hS1
theorem jl_13 (O : CallFix p m c cc nL s args ja_T own ∧ jb_X s0 s G ad) {k : Nat} {x : Int32} (hx : x = nI k) (hk : k < 4) (hd : decode cc pc = .ok (.aaload, 1)) (hp : pc + 1 = q) (kk : ja_V p l e R s m args below meth c (jb_W G ad) s0.heap.size nL cells slots Q S q L (.ref (ad (46 + k)) :: st)) : ja_V p l e R s m args below meth c (jb_W G ad) s0.heap.size nL cells slots Q S pc L (.int x :: .ref (ad 13) :: st) := by
  subst hp; subst hx
  intro ls H locs hL hP hS
  refine va_aldq O.1.1 O.1.2.1 O.2.2.1 hP 13 4 rfl rfl (vp_in_nI hk (by decide)) hd ?_
  rw [nI_clamp (show k < 2 ^ 31 by omega)]
  exact kk ls H locs hL hP hS
theorem jn_13 (O : CallFix p m c cc nL s args ja_T own ∧ jb_X s0 s G ad) (hd : decode cc pc = .ok (.arraylength, 1)) (hp : pc + 1 = q) (kk : ja_V p l e R s m args below meth c (jb_W G ad) s0.heap.size nL cells slots Q S q L (.int (nI 4) :: st)) : ja_V p l e R s m args below meth c (jb_W G ad) s0.heap.size nL cells slots Q S pc L (.ref (ad 13) :: st) := by
  subst hp
  exact fun ls H locs hL hP hS => va_alen O.1.1 O.1.2.1 O.2.2.1 hP 13 4 rfl rfl rfl hd (kk ls H locs hL hP hS)
theorem jl_14 (O : CallFix p m c cc nL s args ja_T own ∧ jb_X s0 s G ad) {k : Nat} {x : Int32} (hx : x = nI k) (hk : k < 4) (hd : decode cc pc = .ok (.iaload, 1)) (hp : pc + 1 = q) (kk : ja_V p l e R s m args below meth c (jb_W G ad) s0.heap.size nL cells slots Q S q L (.int (S 28 k) :: st)) : ja_V p l e R s m args below meth c (jb_W G ad) s0.heap.size nL cells slots Q S pc L (.int x :: .ref (ad 14) :: st) := by
  subst hp; subst hx
  intro ls H locs hL hP hS
  refine va_iald O.1.1 O.1.2.1 O.2.2.1 hP 14 0 rfl rfl (vp_in_nI hk (by decide)) hd ?_
  rw [nI_clamp (show k < 2 ^ 31 by omega)]
  exact kk ls H locs hL hP hS
theorem jn_14 (O : CallFix p m c cc nL s args ja_T own ∧ jb_X s0 s G ad) (hd : decode cc pc = .ok (.arraylength, 1)) (hp : pc + 1 = q) (kk : ja_V p l e R s m args below meth c (jb_W G ad) s0.heap.size nL cells slots Q S q L (.int (nI 4) :: st)) : ja_V p l e R s m args below meth c (jb_W G ad) s0.heap.size nL cells slots Q S pc L (.ref (ad 14) :: st) := by
  subst hp
  exact fun ls H locs hL hP hS => va_alen O.1.1 O.1.2.1 O.2.2.1 hP 14 0 rfl rfl rfl hd (kk ls H locs hL hP hS)
theorem js_14 (O : CallFix p m c cc nL s args ja_T own ∧ jb_X s0 s G ad) {k : Nat} {x y : Int32} (hx : x = nI k) (hk : k < 4) (hd : decode cc pc = .ok (.iastore, 1)) (hp : pc + 1 = q) (kk : ja_V p l e R s m args below meth c (jb_W G ad) s0.heap.size nL cells slots Q (jb_u S 28 k y) q L st) : ja_V p l e R s m args below meth c (jb_W G ad) s0.heap.size nL cells slots Q S pc L (.int y :: .int x :: .ref (ad 14) :: st) := by
  subst hp; subst hx
  intro ls H locs hL hP hS
  refine va_iast O.1.1 O.1.2.1 O.2.2.1 hP (O.2.2.2.1.va S) hS 14 0 rfl rfl (vp_in_nI hk (by decide)) hd (fun H1 locs1 hP1 _ hS1 => ?_)
  rw [nI_clamp (show k < 2 ^ 31 by omega)] at hP1
  exact kk ls H1 locs1 hL (show va_P G.1 jb_cl (jb_en G ad _) H1 by rw [← jb_s28]; exact hP1) hS1
theorem jl_15 (O : CallFix p m c cc nL s args ja_T own ∧ jb_X s0 s G ad) {k : Nat} {x : Int32} (hx : x = nI k) (hk : k < 5001) (hd : decode cc pc = .ok (.iaload, 1)) (hp : pc + 1 = q) (kk : ja_V p l e R s m args below meth c (jb_W G ad) s0.heap.size nL cells slots Q S q L (.int (S 29 k) :: st)) : ja_V p l e R s m args below meth c (jb_W G ad) s0.heap.size nL cells slots Q S pc L (.int x :: .ref (ad 15) :: st) := by
  subst hp; subst hx
  intro ls H locs hL hP hS
  refine va_iald O.1.1 O.1.2.1 O.2.2.1 hP 15 0 rfl rfl (vp_in_nI hk (by decide)) hd ?_
  rw [nI_clamp (show k < 2 ^ 31 by omega)]
  exact kk ls H locs hL hP hS
theorem jn_15 (O : CallFix p m c cc nL s args ja_T own ∧ jb_X s0 s G ad) (hd : decode cc pc = .ok (.arraylength, 1)) (hp : pc + 1 = q) (kk : ja_V p l e R s m args below meth c (jb_W G ad) s0.heap.size nL cells slots Q S q L (.int (nI 5001) :: st)) : ja_V p l e R s m args below meth c (jb_W G ad) s0.heap.size nL cells slots Q S pc L (.ref (ad 15) :: st) := by
  subst hp
  exact fun ls H locs hL hP hS => va_alen O.1.1 O.1.2.1 O.2.2.1 hP 15 0 rfl rfl rfl hd (kk ls H locs hL hP hS)
theorem js_15 (O : CallFix p m c cc nL s args ja_T own ∧ jb_X s0 s G ad) {k : Nat} {x y : Int32} (hx : x = nI k) (hk : k < 5001) (hd : decode cc pc = .ok (.iastore, 1)) (hp : pc + 1 = q) (kk : ja_V p l e R s m args below meth c (jb_W G ad) s0.heap.size nL cells slots Q (jb_u S 29 k y) q L st) : ja_V p l e R s m args below meth c (jb_W G ad) s0.heap.size nL cells slots Q S pc L (.int y :: .int x :: .ref (ad 15) :: st) := by
  subst hp; subst hx
  intro ls H locs hL hP hS
  refine va_iast O.1.1 O.1.2.1 O.2.2.1 hP (O.2.2.2.1.va S) hS 15 0 rfl rfl (vp_in_nI hk (by decide)) hd (fun H1 locs1 hP1 _ hS1 => ?_)
  rw [nI_clamp (show k < 2 ^ 31 by omega)] at hP1
  exact kk ls H1 locs1 hL (show va_P G.1 jb_cl (jb_en G ad _) H1 by rw [← jb_s29]; exact hP1) hS1
theorem jl_16 (O : CallFix p m c cc nL s args ja_T own ∧ jb_X s0 s G ad) {k : Nat} {x : Int32} (hx : x = nI k) (hk : k < 40) (hd : decode cc pc = .ok (.aaload, 1)) (hp : pc + 1 = q) (kk : ja_V p l e R s m args below meth c (jb_W G ad) s0.heap.size nL cells slots Q S q L (.ref (ad (50 + k)) :: st)) : ja_V p l e R s m args below meth c (jb_W G ad) s0.heap.size nL cells slots Q S pc L (.int x :: .ref (ad 16) :: st) := by
  subst hp; subst hx
  intro ls H locs hL hP hS
  refine va_aldq O.1.1 O.1.2.1 O.2.2.1 hP 16 5 rfl rfl (vp_in_nI hk (by decide)) hd ?_
  rw [nI_clamp (show k < 2 ^ 31 by omega)]
  exact kk ls H locs hL hP hS
theorem jn_16 (O : CallFix p m c cc nL s args ja_T own ∧ jb_X s0 s G ad) (hd : decode cc pc = .ok (.arraylength, 1)) (hp : pc + 1 = q) (kk : ja_V p l e R s m args below meth c (jb_W G ad) s0.heap.size nL cells slots Q S q L (.int (nI 40) :: st)) : ja_V p l e R s m args below meth c (jb_W G ad) s0.heap.size nL cells slots Q S pc L (.ref (ad 16) :: st) := by
  subst hp
  exact fun ls H locs hL hP hS => va_alen O.1.1 O.1.2.1 O.2.2.1 hP 16 5 rfl rfl rfl hd (kk ls H locs hL hP hS)
theorem jl_17 (O : CallFix p m c cc nL s args ja_T own ∧ jb_X s0 s G ad) {k : Nat} {x : Int32} (hx : x = nI k) (hk : k < 40) (hd : decode cc pc = .ok (.iaload, 1)) (hp : pc + 1 = q) (kk : ja_V p l e R s m args below meth c (jb_W G ad) s0.heap.size nL cells slots Q S q L (.int (S 30 k) :: st)) : ja_V p l e R s m args below meth c (jb_W G ad) s0.heap.size nL cells slots Q S pc L (.int x :: .ref (ad 17) :: st) := by
  subst hp; subst hx
  intro ls H locs hL hP hS
  refine va_iald O.1.1 O.1.2.1 O.2.2.1 hP 17 0 rfl rfl (vp_in_nI hk (by decide)) hd ?_
  rw [nI_clamp (show k < 2 ^ 31 by omega)]
  exact kk ls H locs hL hP hS
theorem jn_17 (O : CallFix p m c cc nL s args ja_T own ∧ jb_X s0 s G ad) (hd : decode cc pc = .ok (.arraylength, 1)) (hp : pc + 1 = q) (kk : ja_V p l e R s m args below meth c (jb_W G ad) s0.heap.size nL cells slots Q S q L (.int (nI 40) :: st)) : ja_V p l e R s m args below meth c (jb_W G ad) s0.heap.size nL cells slots Q S pc L (.ref (ad 17) :: st) := by
  subst hp
  exact fun ls H locs hL hP hS => va_alen O.1.1 O.1.2.1 O.2.2.1 hP 17 0 rfl rfl rfl hd (kk ls H locs hL hP hS)
theorem js_17 (O : CallFix p m c cc nL s args ja_T own ∧ jb_X s0 s G ad) {k : Nat} {x y : Int32} (hx : x = nI k) (hk : k < 40) (hd : decode cc pc = .ok (.iastore, 1)) (hp : pc + 1 = q) (kk : ja_V p l e R s m args below meth c (jb_W G ad) s0.heap.size nL cells slots Q (jb_u S 30 k y) q L st) : ja_V p l e R s m args below meth c (jb_W G ad) s0.heap.size nL cells slots Q S pc L (.int y :: .int x :: .ref (ad 17) :: st) := by
  subst hp; subst hx
  intro ls H locs hL hP hS
  refine va_iast O.1.1 O.1.2.1 O.2.2.1 hP (O.2.2.2.1.va S) hS 17 0 rfl rfl (vp_in_nI hk (by decide)) hd (fun H1 locs1 hP1 _ hS1 => ?_)
  rw [nI_clamp (show k < 2 ^ 31 by omega)] at hP1
  exact kk ls H1 locs1 hL (show va_P G.1 jb_cl (jb_en G ad _) H1 by rw [← jb_s30]; exact hP1) hS1
theorem jl_18 (O : CallFix p m c cc nL s args ja_T own ∧ jb_X s0 s G ad) {k : Nat} {x : Int32} (hx : x = nI k) (hk : k < 40) (hd : decode cc pc = .ok (.iaload, 1)) (hp : pc + 1 = q) (kk : ja_V p l e R s m args below meth c (jb_W G ad) s0.heap.size nL cells slots Q S q L (.int (S 31 k) :: st)) : ja_V p l e R s m args below meth c (jb_W G ad) s0.heap.size nL cells slots Q S pc L (.int x :: .ref (ad 18) :: st) := by
  subst hp; subst hx
  intro ls H locs hL hP hS
  refine va_iald O.1.1 O.1.2.1 O.2.2.1 hP 18 0 rfl rfl (vp_in_nI hk (by decide)) hd ?_
  rw [nI_clamp (show k < 2 ^ 31 by omega)]
  exact kk ls H locs hL hP hS
theorem jn_18 (O : CallFix p m c cc nL s args ja_T own ∧ jb_X s0 s G ad) (hd : decode cc pc = .ok (.arraylength, 1)) (hp : pc + 1 = q) (kk : ja_V p l e R s m args below meth c (jb_W G ad) s0.heap.size nL cells slots Q S q L (.int (nI 40) :: st)) : ja_V p l e R s m args below meth c (jb_W G ad) s0.heap.size nL cells slots Q S pc L (.ref (ad 18) :: st) := by
  subst hp
  exact fun ls H locs hL hP hS => va_alen O.1.1 O.1.2.1 O.2.2.1 hP 18 0 rfl rfl rfl hd (kk ls H locs hL hP hS)
theorem js_18 (O : CallFix p m c cc nL s args ja_T own ∧ jb_X s0 s G ad) {k : Nat} {x y : Int32} (hx : x = nI k) (hk : k < 40) (hd : decode cc pc = .ok (.iastore, 1)) (hp : pc + 1 = q) (kk : ja_V p l e R s m args below meth c (jb_W G ad) s0.heap.size nL cells slots Q (jb_u S 31 k y) q L st) : ja_V p l e R s m args below meth c (jb_W G ad) s0.heap.size nL cells slots Q S pc L (.int y :: .int x :: .ref (ad 18) :: st) := by
  subst hp; subst hx
  intro ls H locs hL hP hS
  refine va_iast O.1.1 O.1.2.1 O.2.2.1 hP (O.2.2.2.1.va S) hS 18 0 rfl rfl (vp_in_nI hk (by decide)) hd (fun H1 locs1 hP1 _ hS1 => ?_)
  rw [nI_clamp (show k < 2 ^ 31 by omega)] at hP1
  exact kk ls H1 locs1 hL (show va_P G.1 jb_cl (jb_en G ad _) H1 by rw [← jb_s31]; exact hP1) hS1
theorem jl_19 (O : CallFix p m c cc nL s args ja_T own ∧ jb_X s0 s G ad) {k : Nat} {x : Int32} (hx : x = nI k) (hk : k < 8) (hd : decode cc pc = .ok (.baload, 1)) (hp : pc + 1 = q) (kk : ja_V p l e R s m args below meth c (jb_W G ad) s0.heap.size nL cells slots Q S q L (.int (S 44 k) :: st)) : ja_V p l e R s m args below meth c (jb_W G ad) s0.heap.size nL cells slots Q S pc L (.int x :: .ref (ad 19) :: st) := by
  subst hp; subst hx
  intro ls H locs hL hP hS
  refine va_zald O.1.1 O.1.2.1 O.2.2.1 hP 19 1 rfl rfl (vp_in_nI hk (by decide)) hd ?_
  rw [nI_clamp (show k < 2 ^ 31 by omega)]
  exact kk ls H locs hL hP hS
theorem jn_19 (O : CallFix p m c cc nL s args ja_T own ∧ jb_X s0 s G ad) (hd : decode cc pc = .ok (.arraylength, 1)) (hp : pc + 1 = q) (kk : ja_V p l e R s m args below meth c (jb_W G ad) s0.heap.size nL cells slots Q S q L (.int (nI 8) :: st)) : ja_V p l e R s m args below meth c (jb_W G ad) s0.heap.size nL cells slots Q S pc L (.ref (ad 19) :: st) := by
  subst hp
  exact fun ls H locs hL hP hS => va_alen O.1.1 O.1.2.1 O.2.2.1 hP 19 1 rfl rfl rfl hd (kk ls H locs hL hP hS)
theorem js_19 (O : CallFix p m c cc nL s args ja_T own ∧ jb_X s0 s G ad) {k : Nat} {x y : Int32} (hx : x = nI k) (hk : k < 8) (hy : y = 0 ∨ y = 1) (hd : decode cc pc = .ok (.bastore, 1)) (hp : pc + 1 = q) (kk : ja_V p l e R s m args below meth c (jb_W G ad) s0.heap.size nL cells slots Q (jb_u S 44 k y) q L st) : ja_V p l e R s m args below meth c (jb_W G ad) s0.heap.size nL cells slots Q S pc L (.int y :: .int x :: .ref (ad 19) :: st) := by
  subst hp; subst hx
  intro ls H locs hL hP hS
  refine va_zast O.1.1 O.1.2.1 O.2.2.1 hP (O.2.2.2.1.va S) hS 19 1 rfl rfl (vp_in_nI hk (by decide)) hd (fun H1 locs1 hP1 _ hS1 => ?_)
  rw [nI_clamp (show k < 2 ^ 31 by omega), jb_vb hy] at hP1
  exact kk ls H1 locs1 hL (show va_P G.1 jb_cl (jb_en G ad _) H1 by rw [← jb_s44]; exact hP1) hS1
theorem jl_20 (O : CallFix p m c cc nL s args ja_T own ∧ jb_X s0 s G ad) {k : Nat} {x : Int32} (hx : x = nI k) (hk : k < 8) (hd : decode cc pc = .ok (.iaload, 1)) (hp : pc + 1 = q) (kk : ja_V p l e R s m args below meth c (jb_W G ad) s0.heap.size nL cells slots Q S q L (.int (S 45 k) :: st)) : ja_V p l e R s m args below meth c (jb_W G ad) s0.heap.size nL cells slots Q S pc L (.int x :: .ref (ad 20) :: st) := by
  subst hp; subst hx
  intro ls H locs hL hP hS
  refine va_iald O.1.1 O.1.2.1 O.2.2.1 hP 20 0 rfl rfl (vp_in_nI hk (by decide)) hd ?_
  rw [nI_clamp (show k < 2 ^ 31 by omega)]
  exact kk ls H locs hL hP hS
theorem jn_20 (O : CallFix p m c cc nL s args ja_T own ∧ jb_X s0 s G ad) (hd : decode cc pc = .ok (.arraylength, 1)) (hp : pc + 1 = q) (kk : ja_V p l e R s m args below meth c (jb_W G ad) s0.heap.size nL cells slots Q S q L (.int (nI 8) :: st)) : ja_V p l e R s m args below meth c (jb_W G ad) s0.heap.size nL cells slots Q S pc L (.ref (ad 20) :: st) := by
  subst hp
  exact fun ls H locs hL hP hS => va_alen O.1.1 O.1.2.1 O.2.2.1 hP 20 0 rfl rfl rfl hd (kk ls H locs hL hP hS)
theorem js_20 (O : CallFix p m c cc nL s args ja_T own ∧ jb_X s0 s G ad) {k : Nat} {x y : Int32} (hx : x = nI k) (hk : k < 8) (hd : decode cc pc = .ok (.iastore, 1)) (hp : pc + 1 = q) (kk : ja_V p l e R s m args below meth c (jb_W G ad) s0.heap.size nL cells slots Q (jb_u S 45 k y) q L st) : ja_V p l e R s m args below meth c (jb_W G ad) s0.heap.size nL cells slots Q S pc L (.int y :: .int x :: .ref (ad 20) :: st) := by
  subst hp; subst hx
  intro ls H locs hL hP hS
  refine va_iast O.1.1 O.1.2.1 O.2.2.1 hP (O.2.2.2.1.va S) hS 20 0 rfl rfl (vp_in_nI hk (by decide)) hd (fun H1 locs1 hP1 _ hS1 => ?_)
  rw [nI_clamp (show k < 2 ^ 31 by omega)] at hP1
  exact kk ls H1 locs1 hL (show va_P G.1 jb_cl (jb_en G ad _) H1 by rw [← jb_s45]; exact hP1) hS1
theorem jl_21 (O : CallFix p m c cc nL s args ja_T own ∧ jb_X s0 s G ad) {k : Nat} {x : Int32} (hx : x = nI k) (hk : k < 8) (hd : decode cc pc = .ok (.iaload, 1)) (hp : pc + 1 = q) (kk : ja_V p l e R s m args below meth c (jb_W G ad) s0.heap.size nL cells slots Q S q L (.int (S 46 k) :: st)) : ja_V p l e R s m args below meth c (jb_W G ad) s0.heap.size nL cells slots Q S pc L (.int x :: .ref (ad 21) :: st) := by
  subst hp; subst hx
  intro ls H locs hL hP hS
  refine va_iald O.1.1 O.1.2.1 O.2.2.1 hP 21 0 rfl rfl (vp_in_nI hk (by decide)) hd ?_
  rw [nI_clamp (show k < 2 ^ 31 by omega)]
  exact kk ls H locs hL hP hS
theorem jn_21 (O : CallFix p m c cc nL s args ja_T own ∧ jb_X s0 s G ad) (hd : decode cc pc = .ok (.arraylength, 1)) (hp : pc + 1 = q) (kk : ja_V p l e R s m args below meth c (jb_W G ad) s0.heap.size nL cells slots Q S q L (.int (nI 8) :: st)) : ja_V p l e R s m args below meth c (jb_W G ad) s0.heap.size nL cells slots Q S pc L (.ref (ad 21) :: st) := by
  subst hp
  exact fun ls H locs hL hP hS => va_alen O.1.1 O.1.2.1 O.2.2.1 hP 21 0 rfl rfl rfl hd (kk ls H locs hL hP hS)
theorem js_21 (O : CallFix p m c cc nL s args ja_T own ∧ jb_X s0 s G ad) {k : Nat} {x y : Int32} (hx : x = nI k) (hk : k < 8) (hd : decode cc pc = .ok (.iastore, 1)) (hp : pc + 1 = q) (kk : ja_V p l e R s m args below meth c (jb_W G ad) s0.heap.size nL cells slots Q (jb_u S 46 k y) q L st) : ja_V p l e R s m args below meth c (jb_W G ad) s0.heap.size nL cells slots Q S pc L (.int y :: .int x :: .ref (ad 21) :: st) := by
  subst hp; subst hx
  intro ls H locs hL hP hS
  refine va_iast O.1.1 O.1.2.1 O.2.2.1 hP (O.2.2.2.1.va S) hS 21 0 rfl rfl (vp_in_nI hk (by decide)) hd (fun H1 locs1 hP1 _ hS1 => ?_)
  rw [nI_clamp (show k < 2 ^ 31 by omega)] at hP1
  exact kk ls H1 locs1 hL (show va_P G.1 jb_cl (jb_en G ad _) H1 by rw [← jb_s46]; exact hP1) hS1
theorem jl_22 (O : CallFix p m c cc nL s args ja_T own ∧ jb_X s0 s G ad) {k : Nat} {x : Int32} (hx : x = nI k) (hk : k < 8) (hd : decode cc pc = .ok (.iaload, 1)) (hp : pc + 1 = q) (kk : ja_V p l e R s m args below meth c (jb_W G ad) s0.heap.size nL cells slots Q S q L (.int (S 47 k) :: st)) : ja_V p l e R s m args below meth c (jb_W G ad) s0.heap.size nL cells slots Q S pc L (.int x :: .ref (ad 22) :: st) := by
  subst hp; subst hx
  intro ls H locs hL hP hS
  refine va_iald O.1.1 O.1.2.1 O.2.2.1 hP 22 0 rfl rfl (vp_in_nI hk (by decide)) hd ?_
  rw [nI_clamp (show k < 2 ^ 31 by omega)]
  exact kk ls H locs hL hP hS
theorem jn_22 (O : CallFix p m c cc nL s args ja_T own ∧ jb_X s0 s G ad) (hd : decode cc pc = .ok (.arraylength, 1)) (hp : pc + 1 = q) (kk : ja_V p l e R s m args below meth c (jb_W G ad) s0.heap.size nL cells slots Q S q L (.int (nI 8) :: st)) : ja_V p l e R s m args below meth c (jb_W G ad) s0.heap.size nL cells slots Q S pc L (.ref (ad 22) :: st) := by
  subst hp
  exact fun ls H locs hL hP hS => va_alen O.1.1 O.1.2.1 O.2.2.1 hP 22 0 rfl rfl rfl hd (kk ls H locs hL hP hS)
theorem js_22 (O : CallFix p m c cc nL s args ja_T own ∧ jb_X s0 s G ad) {k : Nat} {x y : Int32} (hx : x = nI k) (hk : k < 8) (hd : decode cc pc = .ok (.iastore, 1)) (hp : pc + 1 = q) (kk : ja_V p l e R s m args below meth c (jb_W G ad) s0.heap.size nL cells slots Q (jb_u S 47 k y) q L st) : ja_V p l e R s m args below meth c (jb_W G ad) s0.heap.size nL cells slots Q S pc L (.int y :: .int x :: .ref (ad 22) :: st) := by
  subst hp; subst hx
  intro ls H locs hL hP hS
  refine va_iast O.1.1 O.1.2.1 O.2.2.1 hP (O.2.2.2.1.va S) hS 22 0 rfl rfl (vp_in_nI hk (by decide)) hd (fun H1 locs1 hP1 _ hS1 => ?_)
  rw [nI_clamp (show k < 2 ^ 31 by omega)] at hP1
  exact kk ls H1 locs1 hL (show va_P G.1 jb_cl (jb_en G ad _) H1 by rw [← jb_s47]; exact hP1) hS1
theorem jl_23 (O : CallFix p m c cc nL s args ja_T own ∧ jb_X s0 s G ad) {k : Nat} {x : Int32} (hx : x = nI k) (hk : k < 8) (hd : decode cc pc = .ok (.iaload, 1)) (hp : pc + 1 = q) (kk : ja_V p l e R s m args below meth c (jb_W G ad) s0.heap.size nL cells slots Q S q L (.int (S 48 k) :: st)) : ja_V p l e R s m args below meth c (jb_W G ad) s0.heap.size nL cells slots Q S pc L (.int x :: .ref (ad 23) :: st) := by
  subst hp; subst hx
  intro ls H locs hL hP hS
  refine va_iald O.1.1 O.1.2.1 O.2.2.1 hP 23 0 rfl rfl (vp_in_nI hk (by decide)) hd ?_
  rw [nI_clamp (show k < 2 ^ 31 by omega)]
  exact kk ls H locs hL hP hS
theorem jn_23 (O : CallFix p m c cc nL s args ja_T own ∧ jb_X s0 s G ad) (hd : decode cc pc = .ok (.arraylength, 1)) (hp : pc + 1 = q) (kk : ja_V p l e R s m args below meth c (jb_W G ad) s0.heap.size nL cells slots Q S q L (.int (nI 8) :: st)) : ja_V p l e R s m args below meth c (jb_W G ad) s0.heap.size nL cells slots Q S pc L (.ref (ad 23) :: st) := by
  subst hp
  exact fun ls H locs hL hP hS => va_alen O.1.1 O.1.2.1 O.2.2.1 hP 23 0 rfl rfl rfl hd (kk ls H locs hL hP hS)
theorem js_23 (O : CallFix p m c cc nL s args ja_T own ∧ jb_X s0 s G ad) {k : Nat} {x y : Int32} (hx : x = nI k) (hk : k < 8) (hd : decode cc pc = .ok (.iastore, 1)) (hp : pc + 1 = q) (kk : ja_V p l e R s m args below meth c (jb_W G ad) s0.heap.size nL cells slots Q (jb_u S 48 k y) q L st) : ja_V p l e R s m args below meth c (jb_W G ad) s0.heap.size nL cells slots Q S pc L (.int y :: .int x :: .ref (ad 23) :: st) := by
  subst hp; subst hx
  intro ls H locs hL hP hS
  refine va_iast O.1.1 O.1.2.1 O.2.2.1 hP (O.2.2.2.1.va S) hS 23 0 rfl rfl (vp_in_nI hk (by decide)) hd (fun H1 locs1 hP1 _ hS1 => ?_)
  rw [nI_clamp (show k < 2 ^ 31 by omega)] at hP1
  exact kk ls H1 locs1 hL (show va_P G.1 jb_cl (jb_en G ad _) H1 by rw [← jb_s48]; exact hP1) hS1
theorem jl_24 (O : CallFix p m c cc nL s args ja_T own ∧ jb_X s0 s G ad) {k : Nat} {x : Int32} (hx : x = nI k) (hk : k < 8) (hd : decode cc pc = .ok (.baload, 1)) (hp : pc + 1 = q) (kk : ja_V p l e R s m args below meth c (jb_W G ad) s0.heap.size nL cells slots Q S q L (.int (S 49 k) :: st)) : ja_V p l e R s m args below meth c (jb_W G ad) s0.heap.size nL cells slots Q S pc L (.int x :: .ref (ad 24) :: st) := by
  subst hp; subst hx
  intro ls H locs hL hP hS
  refine va_zald O.1.1 O.1.2.1 O.2.2.1 hP 24 1 rfl rfl (vp_in_nI hk (by decide)) hd ?_
  rw [nI_clamp (show k < 2 ^ 31 by omega)]
  exact kk ls H locs hL hP hS
theorem jn_24 (O : CallFix p m c cc nL s args ja_T own ∧ jb_X s0 s G ad) (hd : decode cc pc = .ok (.arraylength, 1)) (hp : pc + 1 = q) (kk : ja_V p l e R s m args below meth c (jb_W G ad) s0.heap.size nL cells slots Q S q L (.int (nI 8) :: st)) : ja_V p l e R s m args below meth c (jb_W G ad) s0.heap.size nL cells slots Q S pc L (.ref (ad 24) :: st) := by
  subst hp
  exact fun ls H locs hL hP hS => va_alen O.1.1 O.1.2.1 O.2.2.1 hP 24 1 rfl rfl rfl hd (kk ls H locs hL hP hS)
theorem js_24 (O : CallFix p m c cc nL s args ja_T own ∧ jb_X s0 s G ad) {k : Nat} {x y : Int32} (hx : x = nI k) (hk : k < 8) (hy : y = 0 ∨ y = 1) (hd : decode cc pc = .ok (.bastore, 1)) (hp : pc + 1 = q) (kk : ja_V p l e R s m args below meth c (jb_W G ad) s0.heap.size nL cells slots Q (jb_u S 49 k y) q L st) : ja_V p l e R s m args below meth c (jb_W G ad) s0.heap.size nL cells slots Q S pc L (.int y :: .int x :: .ref (ad 24) :: st) := by
  subst hp; subst hx
  intro ls H locs hL hP hS
  refine va_zast O.1.1 O.1.2.1 O.2.2.1 hP (O.2.2.2.1.va S) hS 24 1 rfl rfl (vp_in_nI hk (by decide)) hd (fun H1 locs1 hP1 _ hS1 => ?_)
  rw [nI_clamp (show k < 2 ^ 31 by omega), jb_vb hy] at hP1
  exact kk ls H1 locs1 hL (show va_P G.1 jb_cl (jb_en G ad _) H1 by rw [← jb_s49]; exact hP1) hS1
theorem jl_25 (O : CallFix p m c cc nL s args ja_T own ∧ jb_X s0 s G ad) {k : Nat} {x : Int32} (hx : x = nI k) (hk : k < 4) (hd : decode cc pc = .ok (.iaload, 1)) (hp : pc + 1 = q) (kk : ja_V p l e R s m args below meth c (jb_W G ad) s0.heap.size nL cells slots Q S q L (.int (S 50 k) :: st)) : ja_V p l e R s m args below meth c (jb_W G ad) s0.heap.size nL cells slots Q S pc L (.int x :: .ref (ad 25) :: st) := by
  subst hp; subst hx
  intro ls H locs hL hP hS
  refine va_iald O.1.1 O.1.2.1 O.2.2.1 hP 25 0 rfl rfl (vp_in_nI hk (by decide)) hd ?_
  rw [nI_clamp (show k < 2 ^ 31 by omega)]
  exact kk ls H locs hL hP hS
theorem jn_25 (O : CallFix p m c cc nL s args ja_T own ∧ jb_X s0 s G ad) (hd : decode cc pc = .ok (.arraylength, 1)) (hp : pc + 1 = q) (kk : ja_V p l e R s m args below meth c (jb_W G ad) s0.heap.size nL cells slots Q S q L (.int (nI 4) :: st)) : ja_V p l e R s m args below meth c (jb_W G ad) s0.heap.size nL cells slots Q S pc L (.ref (ad 25) :: st) := by
  subst hp
  exact fun ls H locs hL hP hS => va_alen O.1.1 O.1.2.1 O.2.2.1 hP 25 0 rfl rfl rfl hd (kk ls H locs hL hP hS)
theorem js_25 (O : CallFix p m c cc nL s args ja_T own ∧ jb_X s0 s G ad) {k : Nat} {x y : Int32} (hx : x = nI k) (hk : k < 4) (hd : decode cc pc = .ok (.iastore, 1)) (hp : pc + 1 = q) (kk : ja_V p l e R s m args below meth c (jb_W G ad) s0.heap.size nL cells slots Q (jb_u S 50 k y) q L st) : ja_V p l e R s m args below meth c (jb_W G ad) s0.heap.size nL cells slots Q S pc L (.int y :: .int x :: .ref (ad 25) :: st) := by
  subst hp; subst hx
  intro ls H locs hL hP hS
  refine va_iast O.1.1 O.1.2.1 O.2.2.1 hP (O.2.2.2.1.va S) hS 25 0 rfl rfl (vp_in_nI hk (by decide)) hd (fun H1 locs1 hP1 _ hS1 => ?_)
  rw [nI_clamp (show k < 2 ^ 31 by omega)] at hP1
  exact kk ls H1 locs1 hL (show va_P G.1 jb_cl (jb_en G ad _) H1 by rw [← jb_s50]; exact hP1) hS1
theorem jl_26 (O : CallFix p m c cc nL s args ja_T own ∧ jb_X s0 s G ad) {k : Nat} {x : Int32} (hx : x = nI k) (hk : k < 4) (hd : decode cc pc = .ok (.iaload, 1)) (hp : pc + 1 = q) (kk : ja_V p l e R s m args below meth c (jb_W G ad) s0.heap.size nL cells slots Q S q L (.int (S 51 k) :: st)) : ja_V p l e R s m args below meth c (jb_W G ad) s0.heap.size nL cells slots Q S pc L (.int x :: .ref (ad 26) :: st) := by
  subst hp; subst hx
  intro ls H locs hL hP hS
  refine va_iald O.1.1 O.1.2.1 O.2.2.1 hP 26 0 rfl rfl (vp_in_nI hk (by decide)) hd ?_
  rw [nI_clamp (show k < 2 ^ 31 by omega)]
  exact kk ls H locs hL hP hS
theorem jn_26 (O : CallFix p m c cc nL s args ja_T own ∧ jb_X s0 s G ad) (hd : decode cc pc = .ok (.arraylength, 1)) (hp : pc + 1 = q) (kk : ja_V p l e R s m args below meth c (jb_W G ad) s0.heap.size nL cells slots Q S q L (.int (nI 4) :: st)) : ja_V p l e R s m args below meth c (jb_W G ad) s0.heap.size nL cells slots Q S pc L (.ref (ad 26) :: st) := by
  subst hp
  exact fun ls H locs hL hP hS => va_alen O.1.1 O.1.2.1 O.2.2.1 hP 26 0 rfl rfl rfl hd (kk ls H locs hL hP hS)
theorem js_26 (O : CallFix p m c cc nL s args ja_T own ∧ jb_X s0 s G ad) {k : Nat} {x y : Int32} (hx : x = nI k) (hk : k < 4) (hd : decode cc pc = .ok (.iastore, 1)) (hp : pc + 1 = q) (kk : ja_V p l e R s m args below meth c (jb_W G ad) s0.heap.size nL cells slots Q (jb_u S 51 k y) q L st) : ja_V p l e R s m args below meth c (jb_W G ad) s0.heap.size nL cells slots Q S pc L (.int y :: .int x :: .ref (ad 26) :: st) := by
  subst hp; subst hx
  intro ls H locs hL hP hS
  refine va_iast O.1.1 O.1.2.1 O.2.2.1 hP (O.2.2.2.1.va S) hS 26 0 rfl rfl (vp_in_nI hk (by decide)) hd (fun H1 locs1 hP1 _ hS1 => ?_)
  rw [nI_clamp (show k < 2 ^ 31 by omega)] at hP1
  exact kk ls H1 locs1 hL (show va_P G.1 jb_cl (jb_en G ad _) H1 by rw [← jb_s51]; exact hP1) hS1
theorem jl_27 (O : CallFix p m c cc nL s args ja_T own ∧ jb_X s0 s G ad) {k : Nat} {x : Int32} (hx : x = nI k) (hk : k < 4) (hd : decode cc pc = .ok (.iaload, 1)) (hp : pc + 1 = q) (kk : ja_V p l e R s m args below meth c (jb_W G ad) s0.heap.size nL cells slots Q S q L (.int (S 52 k) :: st)) : ja_V p l e R s m args below meth c (jb_W G ad) s0.heap.size nL cells slots Q S pc L (.int x :: .ref (ad 27) :: st) := by
  subst hp; subst hx
  intro ls H locs hL hP hS
  refine va_iald O.1.1 O.1.2.1 O.2.2.1 hP 27 0 rfl rfl (vp_in_nI hk (by decide)) hd ?_
  rw [nI_clamp (show k < 2 ^ 31 by omega)]
  exact kk ls H locs hL hP hS
theorem jn_27 (O : CallFix p m c cc nL s args ja_T own ∧ jb_X s0 s G ad) (hd : decode cc pc = .ok (.arraylength, 1)) (hp : pc + 1 = q) (kk : ja_V p l e R s m args below meth c (jb_W G ad) s0.heap.size nL cells slots Q S q L (.int (nI 4) :: st)) : ja_V p l e R s m args below meth c (jb_W G ad) s0.heap.size nL cells slots Q S pc L (.ref (ad 27) :: st) := by
  subst hp
  exact fun ls H locs hL hP hS => va_alen O.1.1 O.1.2.1 O.2.2.1 hP 27 0 rfl rfl rfl hd (kk ls H locs hL hP hS)
theorem js_27 (O : CallFix p m c cc nL s args ja_T own ∧ jb_X s0 s G ad) {k : Nat} {x y : Int32} (hx : x = nI k) (hk : k < 4) (hd : decode cc pc = .ok (.iastore, 1)) (hp : pc + 1 = q) (kk : ja_V p l e R s m args below meth c (jb_W G ad) s0.heap.size nL cells slots Q (jb_u S 52 k y) q L st) : ja_V p l e R s m args below meth c (jb_W G ad) s0.heap.size nL cells slots Q S pc L (.int y :: .int x :: .ref (ad 27) :: st) := by
  subst hp; subst hx
  intro ls H locs hL hP hS
  refine va_iast O.1.1 O.1.2.1 O.2.2.1 hP (O.2.2.2.1.va S) hS 27 0 rfl rfl (vp_in_nI hk (by decide)) hd (fun H1 locs1 hP1 _ hS1 => ?_)
  rw [nI_clamp (show k < 2 ^ 31 by omega)] at hP1
  exact kk ls H1 locs1 hL (show va_P G.1 jb_cl (jb_en G ad _) H1 by rw [← jb_s52]; exact hP1) hS1
theorem jl_28 (O : CallFix p m c cc nL s args ja_T own ∧ jb_X s0 s G ad) {k : Nat} {x : Int32} (hx : x = nI k) (hk : k < 41) (hd : decode cc pc = .ok (.iaload, 1)) (hp : pc + 1 = q) (kk : ja_V p l e R s m args below meth c (jb_W G ad) s0.heap.size nL cells slots Q S q L (.int (S 53 k) :: st)) : ja_V p l e R s m args below meth c (jb_W G ad) s0.heap.size nL cells slots Q S pc L (.int x :: .ref (ad 28) :: st) := by
  subst hp; subst hx
  intro ls H locs hL hP hS
  refine va_iald O.1.1 O.1.2.1 O.2.2.1 hP 28 0 rfl rfl (vp_in_nI hk (by decide)) hd ?_
  rw [nI_clamp (show k < 2 ^ 31 by omega)]
  exact kk ls H locs hL hP hS
theorem jn_28 (O : CallFix p m c cc nL s args ja_T own ∧ jb_X s0 s G ad) (hd : decode cc pc = .ok (.arraylength, 1)) (hp : pc + 1 = q) (kk : ja_V p l e R s m args below meth c (jb_W G ad) s0.heap.size nL cells slots Q S q L (.int (nI 41) :: st)) : ja_V p l e R s m args below meth c (jb_W G ad) s0.heap.size nL cells slots Q S pc L (.ref (ad 28) :: st) := by
  subst hp
  exact fun ls H locs hL hP hS => va_alen O.1.1 O.1.2.1 O.2.2.1 hP 28 0 rfl rfl rfl hd (kk ls H locs hL hP hS)
theorem js_28 (O : CallFix p m c cc nL s args ja_T own ∧ jb_X s0 s G ad) {k : Nat} {x y : Int32} (hx : x = nI k) (hk : k < 41) (hd : decode cc pc = .ok (.iastore, 1)) (hp : pc + 1 = q) (kk : ja_V p l e R s m args below meth c (jb_W G ad) s0.heap.size nL cells slots Q (jb_u S 53 k y) q L st) : ja_V p l e R s m args below meth c (jb_W G ad) s0.heap.size nL cells slots Q S pc L (.int y :: .int x :: .ref (ad 28) :: st) := by
  subst hp; subst hx
  intro ls H locs hL hP hS
  refine va_iast O.1.1 O.1.2.1 O.2.2.1 hP (O.2.2.2.1.va S) hS 28 0 rfl rfl (vp_in_nI hk (by decide)) hd (fun H1 locs1 hP1 _ hS1 => ?_)
  rw [nI_clamp (show k < 2 ^ 31 by omega)] at hP1
  exact kk ls H1 locs1 hL (show va_P G.1 jb_cl (jb_en G ad _) H1 by rw [← jb_s53]; exact hP1) hS1
theorem jl_29 (O : CallFix p m c cc nL s args ja_T own ∧ jb_X s0 s G ad) {k : Nat} {x : Int32} (hx : x = nI k) (hk : k < 41) (hd : decode cc pc = .ok (.iaload, 1)) (hp : pc + 1 = q) (kk : ja_V p l e R s m args below meth c (jb_W G ad) s0.heap.size nL cells slots Q S q L (.int (S 54 k) :: st)) : ja_V p l e R s m args below meth c (jb_W G ad) s0.heap.size nL cells slots Q S pc L (.int x :: .ref (ad 29) :: st) := by
  subst hp; subst hx
  intro ls H locs hL hP hS
  refine va_iald O.1.1 O.1.2.1 O.2.2.1 hP 29 0 rfl rfl (vp_in_nI hk (by decide)) hd ?_
  rw [nI_clamp (show k < 2 ^ 31 by omega)]
  exact kk ls H locs hL hP hS
theorem jn_29 (O : CallFix p m c cc nL s args ja_T own ∧ jb_X s0 s G ad) (hd : decode cc pc = .ok (.arraylength, 1)) (hp : pc + 1 = q) (kk : ja_V p l e R s m args below meth c (jb_W G ad) s0.heap.size nL cells slots Q S q L (.int (nI 41) :: st)) : ja_V p l e R s m args below meth c (jb_W G ad) s0.heap.size nL cells slots Q S pc L (.ref (ad 29) :: st) := by
  subst hp
  exact fun ls H locs hL hP hS => va_alen O.1.1 O.1.2.1 O.2.2.1 hP 29 0 rfl rfl rfl hd (kk ls H locs hL hP hS)
theorem js_29 (O : CallFix p m c cc nL s args ja_T own ∧ jb_X s0 s G ad) {k : Nat} {x y : Int32} (hx : x = nI k) (hk : k < 41) (hd : decode cc pc = .ok (.iastore, 1)) (hp : pc + 1 = q) (kk : ja_V p l e R s m args below meth c (jb_W G ad) s0.heap.size nL cells slots Q (jb_u S 54 k y) q L st) : ja_V p l e R s m args below meth c (jb_W G ad) s0.heap.size nL cells slots Q S pc L (.int y :: .int x :: .ref (ad 29) :: st) := by
  subst hp; subst hx
  intro ls H locs hL hP hS
  refine va_iast O.1.1 O.1.2.1 O.2.2.1 hP (O.2.2.2.1.va S) hS 29 0 rfl rfl (vp_in_nI hk (by decide)) hd (fun H1 locs1 hP1 _ hS1 => ?_)
  rw [nI_clamp (show k < 2 ^ 31 by omega)] at hP1
  exact kk ls H1 locs1 hL (show va_P G.1 jb_cl (jb_en G ad _) H1 by rw [← jb_s54]; exact hP1) hS1
theorem jl_30 (O : CallFix p m c cc nL s args ja_T own ∧ jb_X s0 s G ad) {k : Nat} {x : Int32} (hx : x = nI k) (hk : k < 41) (hd : decode cc pc = .ok (.iaload, 1)) (hp : pc + 1 = q) (kk : ja_V p l e R s m args below meth c (jb_W G ad) s0.heap.size nL cells slots Q S q L (.int (S 55 k) :: st)) : ja_V p l e R s m args below meth c (jb_W G ad) s0.heap.size nL cells slots Q S pc L (.int x :: .ref (ad 30) :: st) := by
  subst hp; subst hx
  intro ls H locs hL hP hS
  refine va_iald O.1.1 O.1.2.1 O.2.2.1 hP 30 0 rfl rfl (vp_in_nI hk (by decide)) hd ?_
  rw [nI_clamp (show k < 2 ^ 31 by omega)]
  exact kk ls H locs hL hP hS
theorem jn_30 (O : CallFix p m c cc nL s args ja_T own ∧ jb_X s0 s G ad) (hd : decode cc pc = .ok (.arraylength, 1)) (hp : pc + 1 = q) (kk : ja_V p l e R s m args below meth c (jb_W G ad) s0.heap.size nL cells slots Q S q L (.int (nI 41) :: st)) : ja_V p l e R s m args below meth c (jb_W G ad) s0.heap.size nL cells slots Q S pc L (.ref (ad 30) :: st) := by
  subst hp
  exact fun ls H locs hL hP hS => va_alen O.1.1 O.1.2.1 O.2.2.1 hP 30 0 rfl rfl rfl hd (kk ls H locs hL hP hS)
theorem js_30 (O : CallFix p m c cc nL s args ja_T own ∧ jb_X s0 s G ad) {k : Nat} {x y : Int32} (hx : x = nI k) (hk : k < 41) (hd : decode cc pc = .ok (.iastore, 1)) (hp : pc + 1 = q) (kk : ja_V p l e R s m args below meth c (jb_W G ad) s0.heap.size nL cells slots Q (jb_u S 55 k y) q L st) : ja_V p l e R s m args below meth c (jb_W G ad) s0.heap.size nL cells slots Q S pc L (.int y :: .int x :: .ref (ad 30) :: st) := by
  subst hp; subst hx
  intro ls H locs hL hP hS
  refine va_iast O.1.1 O.1.2.1 O.2.2.1 hP (O.2.2.2.1.va S) hS 30 0 rfl rfl (vp_in_nI hk (by decide)) hd (fun H1 locs1 hP1 _ hS1 => ?_)
  rw [nI_clamp (show k < 2 ^ 31 by omega)] at hP1
  exact kk ls H1 locs1 hL (show va_P G.1 jb_cl (jb_en G ad _) H1 by rw [← jb_s55]; exact hP1) hS1
theorem jl_31 (O : CallFix p m c cc nL s args ja_T own ∧ jb_X s0 s G ad) {k : Nat} {x : Int32} (hx : x = nI k) (hk : k < 41) (hd : decode cc pc = .ok (.iaload, 1)) (hp : pc + 1 = q) (kk : ja_V p l e R s m args below meth c (jb_W G ad) s0.heap.size nL cells slots Q S q L (.int (S 56 k) :: st)) : ja_V p l e R s m args below meth c (jb_W G ad) s0.heap.size nL cells slots Q S pc L (.int x :: .ref (ad 31) :: st) := by
  subst hp; subst hx
  intro ls H locs hL hP hS
  refine va_iald O.1.1 O.1.2.1 O.2.2.1 hP 31 0 rfl rfl (vp_in_nI hk (by decide)) hd ?_
  rw [nI_clamp (show k < 2 ^ 31 by omega)]
  exact kk ls H locs hL hP hS
theorem jn_31 (O : CallFix p m c cc nL s args ja_T own ∧ jb_X s0 s G ad) (hd : decode cc pc = .ok (.arraylength, 1)) (hp : pc + 1 = q) (kk : ja_V p l e R s m args below meth c (jb_W G ad) s0.heap.size nL cells slots Q S q L (.int (nI 41) :: st)) : ja_V p l e R s m args below meth c (jb_W G ad) s0.heap.size nL cells slots Q S pc L (.ref (ad 31) :: st) := by
  subst hp
  exact fun ls H locs hL hP hS => va_alen O.1.1 O.1.2.1 O.2.2.1 hP 31 0 rfl rfl rfl hd (kk ls H locs hL hP hS)
theorem js_31 (O : CallFix p m c cc nL s args ja_T own ∧ jb_X s0 s G ad) {k : Nat} {x y : Int32} (hx : x = nI k) (hk : k < 41) (hd : decode cc pc = .ok (.iastore, 1)) (hp : pc + 1 = q) (kk : ja_V p l e R s m args below meth c (jb_W G ad) s0.heap.size nL cells slots Q (jb_u S 56 k y) q L st) : ja_V p l e R s m args below meth c (jb_W G ad) s0.heap.size nL cells slots Q S pc L (.int y :: .int x :: .ref (ad 31) :: st) := by
  subst hp; subst hx
  intro ls H locs hL hP hS
  refine va_iast O.1.1 O.1.2.1 O.2.2.1 hP (O.2.2.2.1.va S) hS 31 0 rfl rfl (vp_in_nI hk (by decide)) hd (fun H1 locs1 hP1 _ hS1 => ?_)
  rw [nI_clamp (show k < 2 ^ 31 by omega)] at hP1
  exact kk ls H1 locs1 hL (show va_P G.1 jb_cl (jb_en G ad _) H1 by rw [← jb_s56]; exact hP1) hS1
theorem jl_32 (O : CallFix p m c cc nL s args ja_T own ∧ jb_X s0 s G ad) {k : Nat} {x : Int32} (hx : x = nI k) (hk : k < 41) (hd : decode cc pc = .ok (.iaload, 1)) (hp : pc + 1 = q) (kk : ja_V p l e R s m args below meth c (jb_W G ad) s0.heap.size nL cells slots Q S q L (.int (S 57 k) :: st)) : ja_V p l e R s m args below meth c (jb_W G ad) s0.heap.size nL cells slots Q S pc L (.int x :: .ref (ad 32) :: st) := by
  subst hp; subst hx
  intro ls H locs hL hP hS
  refine va_iald O.1.1 O.1.2.1 O.2.2.1 hP 32 0 rfl rfl (vp_in_nI hk (by decide)) hd ?_
  rw [nI_clamp (show k < 2 ^ 31 by omega)]
  exact kk ls H locs hL hP hS
theorem jn_32 (O : CallFix p m c cc nL s args ja_T own ∧ jb_X s0 s G ad) (hd : decode cc pc = .ok (.arraylength, 1)) (hp : pc + 1 = q) (kk : ja_V p l e R s m args below meth c (jb_W G ad) s0.heap.size nL cells slots Q S q L (.int (nI 41) :: st)) : ja_V p l e R s m args below meth c (jb_W G ad) s0.heap.size nL cells slots Q S pc L (.ref (ad 32) :: st) := by
  subst hp
  exact fun ls H locs hL hP hS => va_alen O.1.1 O.1.2.1 O.2.2.1 hP 32 0 rfl rfl rfl hd (kk ls H locs hL hP hS)
theorem js_32 (O : CallFix p m c cc nL s args ja_T own ∧ jb_X s0 s G ad) {k : Nat} {x y : Int32} (hx : x = nI k) (hk : k < 41) (hd : decode cc pc = .ok (.iastore, 1)) (hp : pc + 1 = q) (kk : ja_V p l e R s m args below meth c (jb_W G ad) s0.heap.size nL cells slots Q (jb_u S 57 k y) q L st) : ja_V p l e R s m args below meth c (jb_W G ad) s0.heap.size nL cells slots Q S pc L (.int y :: .int x :: .ref (ad 32) :: st) := by
  subst hp; subst hx
  intro ls H locs hL hP hS
  refine va_iast O.1.1 O.1.2.1 O.2.2.1 hP (O.2.2.2.1.va S) hS 32 0 rfl rfl (vp_in_nI hk (by decide)) hd (fun H1 locs1 hP1 _ hS1 => ?_)
  rw [nI_clamp (show k < 2 ^ 31 by omega)] at hP1
  exact kk ls H1 locs1 hL (show va_P G.1 jb_cl (jb_en G ad _) H1 by rw [← jb_s57]; exact hP1) hS1
theorem jl_33 (O : CallFix p m c cc nL s args ja_T own ∧ jb_X s0 s G ad) {k : Nat} {x : Int32} (hx : x = nI k) (hk : k < 41) (hd : decode cc pc = .ok (.baload, 1)) (hp : pc + 1 = q) (kk : ja_V p l e R s m args below meth c (jb_W G ad) s0.heap.size nL cells slots Q S q L (.int (S 58 k) :: st)) : ja_V p l e R s m args below meth c (jb_W G ad) s0.heap.size nL cells slots Q S pc L (.int x :: .ref (ad 33) :: st) := by
  subst hp; subst hx
  intro ls H locs hL hP hS
  refine va_zald O.1.1 O.1.2.1 O.2.2.1 hP 33 1 rfl rfl (vp_in_nI hk (by decide)) hd ?_
  rw [nI_clamp (show k < 2 ^ 31 by omega)]
  exact kk ls H locs hL hP hS
theorem jn_33 (O : CallFix p m c cc nL s args ja_T own ∧ jb_X s0 s G ad) (hd : decode cc pc = .ok (.arraylength, 1)) (hp : pc + 1 = q) (kk : ja_V p l e R s m args below meth c (jb_W G ad) s0.heap.size nL cells slots Q S q L (.int (nI 41) :: st)) : ja_V p l e R s m args below meth c (jb_W G ad) s0.heap.size nL cells slots Q S pc L (.ref (ad 33) :: st) := by
  subst hp
  exact fun ls H locs hL hP hS => va_alen O.1.1 O.1.2.1 O.2.2.1 hP 33 1 rfl rfl rfl hd (kk ls H locs hL hP hS)
theorem js_33 (O : CallFix p m c cc nL s args ja_T own ∧ jb_X s0 s G ad) {k : Nat} {x y : Int32} (hx : x = nI k) (hk : k < 41) (hy : y = 0 ∨ y = 1) (hd : decode cc pc = .ok (.bastore, 1)) (hp : pc + 1 = q) (kk : ja_V p l e R s m args below meth c (jb_W G ad) s0.heap.size nL cells slots Q (jb_u S 58 k y) q L st) : ja_V p l e R s m args below meth c (jb_W G ad) s0.heap.size nL cells slots Q S pc L (.int y :: .int x :: .ref (ad 33) :: st) := by
  subst hp; subst hx
  intro ls H locs hL hP hS
  refine va_zast O.1.1 O.1.2.1 O.2.2.1 hP (O.2.2.2.1.va S) hS 33 1 rfl rfl (vp_in_nI hk (by decide)) hd (fun H1 locs1 hP1 _ hS1 => ?_)
  rw [nI_clamp (show k < 2 ^ 31 by omega), jb_vb hy] at hP1
  exact kk ls H1 locs1 hL (show va_P G.1 jb_cl (jb_en G ad _) H1 by rw [← jb_s58]; exact hP1) hS1
theorem jl_34 (O : CallFix p m c cc nL s args ja_T own ∧ jb_X s0 s G ad) {k : Nat} {x : Int32} (hx : x = nI k) (hk : k < 80) (hd : decode cc pc = .ok (.iaload, 1)) (hp : pc + 1 = q) (kk : ja_V p l e R s m args below meth c (jb_W G ad) s0.heap.size nL cells slots Q S q L (.int (S 59 k) :: st)) : ja_V p l e R s m args below meth c (jb_W G ad) s0.heap.size nL cells slots Q S pc L (.int x :: .ref (ad 34) :: st) := by
  subst hp; subst hx
  intro ls H locs hL hP hS
  refine va_iald O.1.1 O.1.2.1 O.2.2.1 hP 34 0 rfl rfl (vp_in_nI hk (by decide)) hd ?_
  rw [nI_clamp (show k < 2 ^ 31 by omega)]
  exact kk ls H locs hL hP hS
theorem jn_34 (O : CallFix p m c cc nL s args ja_T own ∧ jb_X s0 s G ad) (hd : decode cc pc = .ok (.arraylength, 1)) (hp : pc + 1 = q) (kk : ja_V p l e R s m args below meth c (jb_W G ad) s0.heap.size nL cells slots Q S q L (.int (nI 80) :: st)) : ja_V p l e R s m args below meth c (jb_W G ad) s0.heap.size nL cells slots Q S pc L (.ref (ad 34) :: st) := by
  subst hp
  exact fun ls H locs hL hP hS => va_alen O.1.1 O.1.2.1 O.2.2.1 hP 34 0 rfl rfl rfl hd (kk ls H locs hL hP hS)
theorem js_34 (O : CallFix p m c cc nL s args ja_T own ∧ jb_X s0 s G ad) {k : Nat} {x y : Int32} (hx : x = nI k) (hk : k < 80) (hd : decode cc pc = .ok (.iastore, 1)) (hp : pc + 1 = q) (kk : ja_V p l e R s m args below meth c (jb_W G ad) s0.heap.size nL cells slots Q (jb_u S 59 k y) q L st) : ja_V p l e R s m args below meth c (jb_W G ad) s0.heap.size nL cells slots Q S pc L (.int y :: .int x :: .ref (ad 34) :: st) := by
  subst hp; subst hx
  intro ls H locs hL hP hS
  refine va_iast O.1.1 O.1.2.1 O.2.2.1 hP (O.2.2.2.1.va S) hS 34 0 rfl rfl (vp_in_nI hk (by decide)) hd (fun H1 locs1 hP1 _ hS1 => ?_)
  rw [nI_clamp (show k < 2 ^ 31 by omega)] at hP1
  exact kk ls H1 locs1 hL (show va_P G.1 jb_cl (jb_en G ad _) H1 by rw [← jb_s59]; exact hP1) hS1
theorem jl_35 (O : CallFix p m c cc nL s args ja_T own ∧ jb_X s0 s G ad) {k : Nat} {x : Int32} (hx : x = nI k) (hk : k < 80) (hd : decode cc pc = .ok (.iaload, 1)) (hp : pc + 1 = q) (kk : ja_V p l e R s m args below meth c (jb_W G ad) s0.heap.size nL cells slots Q S q L (.int (S 60 k) :: st)) : ja_V p l e R s m args below meth c (jb_W G ad) s0.heap.size nL cells slots Q S pc L (.int x :: .ref (ad 35) :: st) := by
  subst hp; subst hx
  intro ls H locs hL hP hS
  refine va_iald O.1.1 O.1.2.1 O.2.2.1 hP 35 0 rfl rfl (vp_in_nI hk (by decide)) hd ?_
  rw [nI_clamp (show k < 2 ^ 31 by omega)]
  exact kk ls H locs hL hP hS
theorem jn_35 (O : CallFix p m c cc nL s args ja_T own ∧ jb_X s0 s G ad) (hd : decode cc pc = .ok (.arraylength, 1)) (hp : pc + 1 = q) (kk : ja_V p l e R s m args below meth c (jb_W G ad) s0.heap.size nL cells slots Q S q L (.int (nI 80) :: st)) : ja_V p l e R s m args below meth c (jb_W G ad) s0.heap.size nL cells slots Q S pc L (.ref (ad 35) :: st) := by
  subst hp
  exact fun ls H locs hL hP hS => va_alen O.1.1 O.1.2.1 O.2.2.1 hP 35 0 rfl rfl rfl hd (kk ls H locs hL hP hS)
theorem js_35 (O : CallFix p m c cc nL s args ja_T own ∧ jb_X s0 s G ad) {k : Nat} {x y : Int32} (hx : x = nI k) (hk : k < 80) (hd : decode cc pc = .ok (.iastore, 1)) (hp : pc + 1 = q) (kk : ja_V p l e R s m args below meth c (jb_W G ad) s0.heap.size nL cells slots Q (jb_u S 60 k y) q L st) : ja_V p l e R s m args below meth c (jb_W G ad) s0.heap.size nL cells slots Q S pc L (.int y :: .int x :: .ref (ad 35) :: st) := by
  subst hp; subst hx
  intro ls H locs hL hP hS
  refine va_iast O.1.1 O.1.2.1 O.2.2.1 hP (O.2.2.2.1.va S) hS 35 0 rfl rfl (vp_in_nI hk (by decide)) hd (fun H1 locs1 hP1 _ hS1 => ?_)
  rw [nI_clamp (show k < 2 ^ 31 by omega)] at hP1
  exact kk ls H1 locs1 hL (show va_P G.1 jb_cl (jb_en G ad _) H1 by rw [← jb_s60]; exact hP1) hS1
theorem jl_36 (O : CallFix p m c cc nL s args ja_T own ∧ jb_X s0 s G ad) {k : Nat} {x : Int32} (hx : x = nI k) (hk : k < 8) (hd : decode cc pc = .ok (.iaload, 1)) (hp : pc + 1 = q) (kk : ja_V p l e R s m args below meth c (jb_W G ad) s0.heap.size nL cells slots Q S q L (.int (S 61 k) :: st)) : ja_V p l e R s m args below meth c (jb_W G ad) s0.heap.size nL cells slots Q S pc L (.int x :: .ref (ad 36) :: st) := by
  subst hp; subst hx
  intro ls H locs hL hP hS
  refine va_iald O.1.1 O.1.2.1 O.2.2.1 hP 36 0 rfl rfl (vp_in_nI hk (by decide)) hd ?_
  rw [nI_clamp (show k < 2 ^ 31 by omega)]
  exact kk ls H locs hL hP hS
theorem jn_36 (O : CallFix p m c cc nL s args ja_T own ∧ jb_X s0 s G ad) (hd : decode cc pc = .ok (.arraylength, 1)) (hp : pc + 1 = q) (kk : ja_V p l e R s m args below meth c (jb_W G ad) s0.heap.size nL cells slots Q S q L (.int (nI 8) :: st)) : ja_V p l e R s m args below meth c (jb_W G ad) s0.heap.size nL cells slots Q S pc L (.ref (ad 36) :: st) := by
  subst hp
  exact fun ls H locs hL hP hS => va_alen O.1.1 O.1.2.1 O.2.2.1 hP 36 0 rfl rfl rfl hd (kk ls H locs hL hP hS)
theorem js_36 (O : CallFix p m c cc nL s args ja_T own ∧ jb_X s0 s G ad) {k : Nat} {x y : Int32} (hx : x = nI k) (hk : k < 8) (hd : decode cc pc = .ok (.iastore, 1)) (hp : pc + 1 = q) (kk : ja_V p l e R s m args below meth c (jb_W G ad) s0.heap.size nL cells slots Q (jb_u S 61 k y) q L st) : ja_V p l e R s m args below meth c (jb_W G ad) s0.heap.size nL cells slots Q S pc L (.int y :: .int x :: .ref (ad 36) :: st) := by
  subst hp; subst hx
  intro ls H locs hL hP hS
  refine va_iast O.1.1 O.1.2.1 O.2.2.1 hP (O.2.2.2.1.va S) hS 36 0 rfl rfl (vp_in_nI hk (by decide)) hd (fun H1 locs1 hP1 _ hS1 => ?_)
  rw [nI_clamp (show k < 2 ^ 31 by omega)] at hP1
  exact kk ls H1 locs1 hL (show va_P G.1 jb_cl (jb_en G ad _) H1 by rw [← jb_s61]; exact hP1) hS1
theorem jl_37 (O : CallFix p m c cc nL s args ja_T own ∧ jb_X s0 s G ad) {k : Nat} {x : Int32} (hx : x = nI k) (hk : k < 1) (hd : decode cc pc = .ok (.laload, 1)) (hp : pc + 1 = q) (kk : ja_V p l e R s m args below meth c (jb_W G ad) s0.heap.size nL cells slots Q S q L (.long (S 62 k).toInt64 :: st)) : ja_V p l e R s m args below meth c (jb_W G ad) s0.heap.size nL cells slots Q S pc L (.int x :: .ref (ad 37) :: st) := by
  subst hp; subst hx
  intro ls H locs hL hP hS
  refine va_lald O.1.1 O.1.2.1 O.2.2.1 hP 37 2 rfl rfl (vp_in_nI hk (by decide)) hd ?_
  rw [nI_clamp (show k < 2 ^ 31 by omega)]
  exact kk ls H locs hL hP hS
theorem jn_37 (O : CallFix p m c cc nL s args ja_T own ∧ jb_X s0 s G ad) (hd : decode cc pc = .ok (.arraylength, 1)) (hp : pc + 1 = q) (kk : ja_V p l e R s m args below meth c (jb_W G ad) s0.heap.size nL cells slots Q S q L (.int (nI 1) :: st)) : ja_V p l e R s m args below meth c (jb_W G ad) s0.heap.size nL cells slots Q S pc L (.ref (ad 37) :: st) := by
  subst hp
  exact fun ls H locs hL hP hS => va_alen O.1.1 O.1.2.1 O.2.2.1 hP 37 2 rfl rfl rfl hd (kk ls H locs hL hP hS)
end JB
